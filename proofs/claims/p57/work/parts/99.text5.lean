/-! THE TEXT, 5: a builder begins -/
section S99
variable {N : NX} {w : WX} {d t B v cap p : Nat} {T : List Int} {I : Nat → Nat → Int32} {L : Nat → Nat → Int64} {D : Nat → Nat → UInt64} {Q : Rs → St → Prop}
theorem c163 {i : Nat} (hS : SB N w I B v cap T) (hZ : ZA N w I) (hi : i < 9) (hl : T.length + (kT i).length ≤ 300) (hN : N.2.1 < 90000)
    (K : ∀ N' w' I' v' cap', SB N' w' I' B v' cap' (T ++ kT i) → GO B v 1 700 N w I N' w' I' v' → Q (.inl (some (.ref B))) (mk N' t w' I' L D)) : Wp (d + 5) 163 0 [some (.ref B), some (.retAddr (i + 1))] [] (mk N t w I L D) Q := by
  simp only [w163_0, w163_1, w163_2, w163_2q, w163_5, w163_5n, kn_s, kn_n, zh_mk, zR_mk, zI_mk, zL_mk, zD_mk, wI_mk, wL_mk, wD_mk, zT_mk, zC_mk, kill_i, kill_r, kill_0, kill_n, kill_l, kill_q, zzk_r, zzk_0, zzk_q, zcat_r, zcat_i, zcat_0, zcat_q, cats_0, cats_i, cats_r, cats_l, cats_d, cats_f, cats_q, cats_n, rv_s, rv_0, Nat.reduceAdd, Nat.reduceLeDiff, Nat.reduceEqDiff, Nat.add_zero, Nat.reduceMul, Nat.reduceSub, ne_eq, not_false_eq_true, not_true_eq_false, and_self, and_true, true_and, or_self, or_true, true_or, or_false, false_or, if_true, if_false, reduceIte, reduceCtorEq, implies_true, ite_self, ite_not, hS.1]
  refine c162 hS hZ hi hl hN fun N' w' I' v' cap' hS' hG => ?_
  simp only [w163_0, w163_1, w163_2, w163_2q, w163_5, w163_5n, kn_s, kn_n, zh_mk, zR_mk, zI_mk, zL_mk, zD_mk, wI_mk, wL_mk, wD_mk, zT_mk, zC_mk, kill_i, kill_r, kill_0, kill_n, kill_l, kill_q, zzk_r, zzk_0, zzk_q, zcat_r, zcat_i, zcat_0, zcat_q, cats_0, cats_i, cats_r, cats_l, cats_d, cats_f, cats_q, cats_n, rv_s, rv_0, Nat.reduceAdd, Nat.reduceLeDiff, Nat.reduceEqDiff, Nat.add_zero, Nat.reduceMul, Nat.reduceSub, ne_eq, not_false_eq_true, not_true_eq_false, and_self, and_true, true_and, or_self, or_true, true_or, or_false, false_or, if_true, if_false, reduceIte, reduceCtorEq, implies_true, ite_self, ite_not]
  exact K _ _ _ _ _ hS' hG
theorem c166 {i : Nat} (hB : KH N B = (10, 0) ∧ 294 ≤ B ∧ B < N.2.1) (h1 : I B 1 = Int32.ofInt 0) (h3 : I B 3 = Int32.ofInt 0) (hZ : ZA N w I) (hi : i < 9) (hN : N.2.1 < 80000)
    (K : ∀ N' w' I' v' cap', SB N' w' I' B v' cap' (kT i) → GO B B 2 1000 N w I N' w' I' v' → Q (.inl none) (mk N' t w' I' L D)) : Wp (d + 6) 166 0 [some (.ref B), some (.retAddr (i + 1)), none, none, none] [] (mk N t w I L D) Q := by
  have hk := kT_l i hi
  have hq : 1 ≤ i + 1 ∧ i + 1 ≤ 9 := by omega
  have g : (((kT i).length : Nat) : Int) < 2147483631 := by omega
  have e : (((kT i).length : Nat) : Int) + 16 = (((kT i).length + 16 : Nat) : Int) := by omega
  have hKB : N.2.1 < KB := by show N.2.1 < 100000; omega
  have hN0 : 294 ≤ N.2.1 := by omega
  have z0 : (Int32.ofInt 0 ≤ Int32.ofInt (((kT i).length + 16 : Nat) : Int)) = True := eq_true ((o_le (by omega)).mpr (by omega))
  have ov : okv .byte (.int (Int32.ofInt 0)) = true := by decide
  have k1 : KH (nwN N (13, (kT i).length + 16) ((kT i).length + 16)) B = (10, 0) := (KH_old (by omega)).trans hB.1
  have hB1 : (10 : Nat) ≠ 0 := by decide
  simp only [w166_0, w166_1, w166_4, w166_5, w166_5q, w166_8, w166_9, w166_10, w166_12, w166_15, w166_16, w166_18, w166_19, w166_22, w166_24, w166_25, w166_26, w166_26q, w166_29, w166_31, w166_32, w166_34, w166_37, w166_38, w166_40, w166_43, w166_44, w166_46, w166_49, w166_53, w166_56, w166_57, w166_58, w166_58q, w166_61, w166_62, kn_s, kn_n, zh_mk, zR_mk, zI_mk, zL_mk, zD_mk, wI_mk, wL_mk, wD_mk, zT_mk, zC_mk, kill_i, kill_r, kill_0, kill_n, kill_l, kill_q, zzk_r, zzk_0, zzk_q, zcat_r, zcat_i, zcat_0, zcat_q, cats_0, cats_i, cats_r, cats_l, cats_d, cats_f, cats_q, cats_n, rv_s, rv_0, Nat.reduceAdd, Nat.reduceLeDiff, Nat.reduceEqDiff, Nat.add_zero, Nat.reduceMul, Nat.reduceSub, ne_eq, not_false_eq_true, not_true_eq_false, and_self, and_true, true_and, or_self, or_true, true_or, or_false, false_or, if_true, if_false, reduceIte, reduceCtorEq, implies_true, ite_self, ite_not, o_add, o_sub, o_mul, o_neg, q_add, q_sub, q_mul, q_neg, o_32, cast_s, hB.1, ov, k1, wR_mk hB.2.1, hq, c188q hi, c189q hq, i00, o_lt (a := (((kT i).length : Nat) : Int)) (b := 2147483631) (by omega), g, e, z0, o_tnn (j := (kT i).length + 16) (by omega), show (kT i).length + 16 ≤ 4000 by omega, zn_mk, hKB, zNew_mk hN0]
  refine c163 (v := N.2.1) (cap := (kT i).length + 16) (T := []) ⟨k1, KH_new hN0, ⟨hB.2.1, Nat.lt_succ_of_lt hB.2.2⟩, ⟨hN0, Nat.lt_succ_self _⟩, by omega, up2_same, up2_same, ?_, ?_, Nat.zero_le _, by omega, fun _ h => absurd h List.not_mem_nil, by decide⟩ ?_ hi (by simp only [List.length_nil]; omega) (by show N.2.1 + 1 < 90000; omega) fun N' w' I' v' cap' hS' hG => ?_
  · rw [u2_ne (by omega)]
    exact h3
  · rw [tx_nil]
    funext j
    rw [u2_ne (by omega)]
    exact (hZ _ (Nat.le_refl _) j).1
  · intro a h j
    have h' : N.2.1 + 1 ≤ a := h
    refine ⟨?_, ?_⟩
    · rw [u2_ne (by omega)]
      exact (hZ a (by omega) j).1
    · unfold up2
      rw [if_neg (by omega)]
      exact (hZ a (by omega) j).2
  · simp only [w166_0, w166_1, w166_4, w166_5, w166_5q, w166_8, w166_9, w166_10, w166_12, w166_15, w166_16, w166_18, w166_19, w166_22, w166_24, w166_25, w166_26, w166_26q, w166_29, w166_31, w166_32, w166_34, w166_37, w166_38, w166_40, w166_43, w166_44, w166_46, w166_49, w166_53, w166_56, w166_57, w166_58, w166_58q, w166_61, w166_62, kn_s, kn_n, zh_mk, zR_mk, zI_mk, zL_mk, zD_mk, wI_mk, wL_mk, wD_mk, zT_mk, zC_mk, kill_i, kill_r, kill_0, kill_n, kill_l, kill_q, zzk_r, zzk_0, zzk_q, zcat_r, zcat_i, zcat_0, zcat_q, cats_0, cats_i, cats_r, cats_l, cats_d, cats_f, cats_q, cats_n, rv_s, rv_0, Nat.reduceAdd, Nat.reduceLeDiff, Nat.reduceEqDiff, Nat.add_zero, Nat.reduceMul, Nat.reduceSub, ne_eq, not_false_eq_true, not_true_eq_false, and_self, and_true, true_and, or_self, or_true, true_or, or_false, false_or, if_true, if_false, reduceIte, reduceCtorEq, implies_true, ite_self, ite_not]
    obtain ⟨a1, a2, a3, a4, a5, a6, a7, a8⟩ := hG
    have a2' : N.2.1 + 1 ≤ N'.2.1 := a2
    have a3' : N'.2.1 ≤ N.2.1 + 1 + 1 := a3
    have a4' : N'.2.2.1 ≤ N.2.2.1 + ((kT i).length + 16) + 700 := a4
    refine K _ _ _ v' cap' hS' ⟨a1, by omega, by omega, by omega, fun a h => (a5 a (Nat.lt_succ_of_lt h)).trans (KH_old (by omega)), fun a h g1 g2 => ?_, ?_, a8⟩
    · obtain ⟨q1, q2⟩ := a6 a (Nat.lt_succ_of_lt h) g1 (by omega)
      refine ⟨q1.trans ?_, q2.trans ?_⟩
      · funext j
        rw [u2_ne (by omega)]
      · funext j
        unfold up2
        rw [if_neg (by omega)]
    · rcases a7 with rfl | h
      · exact Or.inr (Nat.le_refl _)
      · exact Or.inr (Nat.le_of_succ_le h)
theorem c159 {i : Nat} (hB : KH N B = (10, 0) ∧ 294 ≤ B ∧ B < N.2.1) (h1 : I B 1 = Int32.ofInt 0) (h3 : I B 3 = Int32.ofInt 0) (hZ : ZA N w I) (hi : i < 9) (hN : N.2.1 < 80000)
    (K : ∀ N' w' I' v' cap', SB N' w' I' B v' cap' (kT i) → GO B B 2 1000 N w I N' w' I' v' → Q (.inl none) (mk N' t w' I' L D)) : Wp (d + 7) 159 0 [some (.ref B), some (.retAddr (i + 1))] [] (mk N t w I L D) Q := by
  simp only [w159_0, w159_1, w159_2, w159_2q, w159_5, kn_s, kn_n, zh_mk, zR_mk, zI_mk, zL_mk, zD_mk, wI_mk, wL_mk, wD_mk, zT_mk, zC_mk, kill_i, kill_r, kill_0, kill_n, kill_l, kill_q, zzk_r, zzk_0, zzk_q, zcat_r, zcat_i, zcat_0, zcat_q, cats_0, cats_i, cats_r, cats_l, cats_d, cats_f, cats_q, cats_n, rv_s, rv_0, Nat.reduceAdd, Nat.reduceLeDiff, Nat.reduceEqDiff, Nat.add_zero, Nat.reduceMul, Nat.reduceSub, ne_eq, not_false_eq_true, not_true_eq_false, and_self, and_true, true_and, or_self, or_true, true_or, or_false, false_or, if_true, if_false, reduceIte, reduceCtorEq, implies_true, ite_self, ite_not, hB.1]
  refine c166 hB h1 h3 hZ hi hN fun N' w' I' v' cap' hS' hG => ?_
  simp only [w159_0, w159_1, w159_2, w159_2q, w159_5, kn_s, kn_n, zh_mk, zR_mk, zI_mk, zL_mk, zD_mk, wI_mk, wL_mk, wD_mk, zT_mk, zC_mk, kill_i, kill_r, kill_0, kill_n, kill_l, kill_q, zzk_r, zzk_0, zzk_q, zcat_r, zcat_i, zcat_0, zcat_q, cats_0, cats_i, cats_r, cats_l, cats_d, cats_f, cats_q, cats_n, rv_s, rv_0, Nat.reduceAdd, Nat.reduceLeDiff, Nat.reduceEqDiff, Nat.add_zero, Nat.reduceMul, Nat.reduceSub, ne_eq, not_false_eq_true, not_true_eq_false, and_self, and_true, true_and, or_self, or_true, true_or, or_false, false_or, if_true, if_false, reduceIte, reduceCtorEq, implies_true, ite_self, ite_not]
  exact K _ _ _ _ _ hS' hG
end S99
