/-! THE LAW'S ORDER; a change begins -/
section SB5
variable {N : NX} {w : WX} {d t n m c : Nat} {α : Nat → Int} {o : Nat → Nat} {I : Nat → Nat → Int32} {L : Nat → Nat → Int64} {D : Nat → Nat → UInt64} {Q : Rs → St → Prop} {xs : Nat → Int32}
theorem c158_10 {W : Nat} (hW : 294 ≤ W ∧ KH N W = (11, n)) (hn : n ≤ 10) (hR : RL (gl 19 I) (gl 19 L) α n m o) (K : ∀ I', (∀ a, a ≠ W → I' a = I a) → (∀ k, k < n → I' W k = Int32.ofInt (o k : Int)) → Q (.inl (some (.ref W))) (mk N t w I' L D)) : ∀ (r k : Nat) (I' : Nat → Nat → Int32), k + r = n → (∀ a, a ≠ W → I' a = I a) → (∀ j, j < k → I' W j = Int32.ofInt (o j : Int)) → Wp (d + 2) 158 10 [some (.ref 15), some (.ref W), some (.int (Int32.ofInt (k : Int)))] [] (mk N t w I' L D) Q := by
  intro r
  induction r with
  | zero =>
    intro k I' hk hI hJ
    obtain rfl : k = n := by omega
    have g : ¬ ((k : Int) < (k : Int)) := by omega
    rw [w158_10]
    simp only [w158_0, w158_1, w158_2, w158_5, w158_7, w158_8, w158_9, w158_11, w158_12, w158_12q, w158_13, w158_16, w158_17, w158_18, w158_19, w158_20, w158_23, w158_24, w158_27, w158_30, w158_31, kn_s, kn_n, zh_mk, zR_mk, zI_mk, zL_mk, zD_mk, wI_mk, wL_mk, wD_mk, zT_mk, zC_mk, kill_i, kill_r, kill_0, kill_n, kill_l, kill_q, zzk_r, zzk_0, zzk_q, zcat_r, zcat_i, zcat_0, zcat_q, cats_0, cats_i, cats_r, cats_l, cats_d, cats_f, cats_q, cats_n, rv_s, rv_0, Nat.reduceAdd, Nat.reduceLeDiff, Nat.reduceEqDiff, Nat.add_zero, Nat.reduceMul, Nat.reduceSub, ne_eq, not_false_eq_true, not_true_eq_false, and_self, and_true, true_and, or_self, or_true, true_or, or_false, false_or, if_true, if_false, reduceIte, reduceCtorEq, implies_true, ite_self, ite_not, hW.2, o_ofN, o_lt (a := (k : Int)) (b := (k : Int)) (by omega), g]
    exact K I' hI hJ
  | succ r ih =>
    intro k I' hk hI hJ
    have hkn : k < n := by omega
    have g : (k : Int) < (n : Int) := by omega
    have hR' := RL_hi (I' := I') hR fun a ha => hI a (by omega)
    rw [w158_10]
    simp only [w158_0, w158_1, w158_2, w158_5, w158_7, w158_8, w158_9, w158_11, w158_12, w158_12q, w158_13, w158_16, w158_17, w158_18, w158_19, w158_20, w158_23, w158_24, w158_27, w158_30, w158_31, kn_s, kn_n, zh_mk, zR_mk, zI_mk, zL_mk, zD_mk, wI_mk, wL_mk, wD_mk, zT_mk, zC_mk, kill_i, kill_r, kill_0, kill_n, kill_l, kill_q, zzk_r, zzk_0, zzk_q, zcat_r, zcat_i, zcat_0, zcat_q, cats_0, cats_i, cats_r, cats_l, cats_d, cats_f, cats_q, cats_n, rv_s, rv_0, Nat.reduceAdd, Nat.reduceLeDiff, Nat.reduceEqDiff, Nat.add_zero, Nat.reduceMul, Nat.reduceSub, ne_eq, not_false_eq_true, not_true_eq_false, and_self, and_true, true_and, or_self, or_true, true_or, or_false, false_or, if_true, if_false, reduceIte, reduceCtorEq, implies_true, ite_self, ite_not, o_add, o_sub, o_mul, o_neg, q_add, q_sub, q_mul, q_neg, o_32, cast_s, k15, hW.2, o_ofN, o_lt (a := (k : Int)) (b := (n : Int)) (by omega), g, c113 hR' hn hkn, o_ixn (j := k) (n := n) (by omega), o_tnn (j := k) (by omega), cast_s]
    refine ih (k + 1) _ (by omega) (fun a ha => ?_) (fun j hj => ?_)
    · rw [← hI a ha]
      funext q
      rw [u2_ne (by omega)]
    · by_cases e : j = k
      · rw [e, u2_same]
      · rw [u2_ne (by omega)]
        exact hJ j (by omega)
theorem c158 (hCI : CI xs c I L α n m o) (hZ : ZA N w I) (hN : 294 ≤ N.2.1 ∧ N.2.1 < 90000) (K : ∀ I', (∀ a, a < N.2.1 → I' a = I a) → (∀ k, k < n → I' N.2.1 k = Int32.ofInt (o k : Int)) → ZA (nwN N (11, n) n) w I' → CI xs c I' L α n m o → Q (.inl (some (.ref N.2.1))) (mk (nwN N (11, n) n) t w I' L D)) : Wp (d + 2) 158 0 [some (.ref 15), none, none] [] (mk N t w I L D) Q := by
  have hR := hCI.2.1
  have hn : n ≤ 10 := hCI.2.2.1.1.1
  have hKB : N.2.1 < KB := by show N.2.1 < 100000; omega
  have hW : KH (nwN N (11, n) n) N.2.1 = (11, n) := KH_new hN.1
  have z0 : (Int32.ofInt 0 ≤ Int32.ofInt (n : Int)) = True := eq_true ((o_le (by omega)).mpr (by omega))
  simp only [w158_0, w158_1, w158_2, w158_5, w158_7, w158_8, w158_9, w158_11, w158_12, w158_12q, w158_13, w158_16, w158_17, w158_18, w158_19, w158_20, w158_23, w158_24, w158_27, w158_30, w158_31, kn_s, kn_n, zh_mk, zR_mk, zI_mk, zL_mk, zD_mk, wI_mk, wL_mk, wD_mk, zT_mk, zC_mk, kill_i, kill_r, kill_0, kill_n, kill_l, kill_q, zzk_r, zzk_0, zzk_q, zcat_r, zcat_i, zcat_0, zcat_q, cats_0, cats_i, cats_r, cats_l, cats_d, cats_f, cats_q, cats_n, rv_s, rv_0, Nat.reduceAdd, Nat.reduceLeDiff, Nat.reduceEqDiff, Nat.add_zero, Nat.reduceMul, Nat.reduceSub, ne_eq, not_false_eq_true, not_true_eq_false, and_self, and_true, true_and, or_self, or_true, true_or, or_false, false_or, if_true, if_false, reduceIte, reduceCtorEq, implies_true, ite_self, ite_not, k15, c105_1 hR, z0, o_tnn (j := n) (by omega), show n ≤ 4000 by omega, zn_mk, hKB, zNew_mk hN.1]
  refine c158_10 (d := d) (t := t) (N := nwN N (11, n) n) (w := w) (D := D) (Q := Q) ⟨hN.1, hW⟩ hn hR (fun I' hI hJ => K I' (fun a ha => hI a (by omega)) hJ (fun a ha j => ?_) (CI_hi hCI fun a ha => hI a (by omega))) n 0 I (by omega) (fun a _ => rfl) (fun j hj => absurd hj (Nat.not_lt_zero j))
  have ha' : N.2.1 + 1 ≤ a := ha
  exact ⟨by rw [hI a (by omega)]; exact (hZ a (by omega) j).1, (hZ a (by omega) j).2⟩
/-- what remember leaves, and what a change of the line then leaves -/
theorem mut_0 (hCI : CI xs c I L α n m o) : ∃ I1 L1, (∀ (N : NX) (w : WX) (t d : Nat) (D : Nat → Nat → UInt64) (Q : Rs → St → Prop), Wp (d + 2) 21 0 [some (.ref 74), some (.ref 19)] [] (mk N t w I L D) Q = Q (.inl none) (mk N t w I1 L1 D)) ∧ RL (gl 19 I1) (gl 19 L1) α n m o ∧ (∀ ℓ', C0 xs (lay 19 ℓ' I1)) ∧ (∀ a, 294 ≤ a → I1 a = I a) ∧ ∀ a k, a < 19 → I1 a k = I a k := by
  obtain ⟨⟨hx, hS, f, r, hf, hr, e1, e2⟩, hR, hG, hE⟩ := hCI
  have hb := hB_b f r
  have o1 : ∀ a k, a < 74 ∨ 238 ≤ a → rmI f r I a k = I a k := fun a k h => rmI_o (by omega)
  refine ⟨rmI f r I, rmL f r L, fun N w t d D Q => c21 hf hr e1 e2 rfl, ?_, fun ℓ' => C0_rm hx hS hf hr e1 e2 (fun a k h => ?_) (fun k => ?_), fun a h => ?_, fun a k h => o1 a k (by omega)⟩
  · exact RL_ext hR (fun a ha k => o1 (19 + a) k (by omega)) (fun a ha k => by show rmL f r L (19 + a) k = _; rw [rmL_o (by omega)]; rfl)
  · rw [lay_out (by omega)]; exact o1 a k (by omega)
  · rw [lay_out (by omega)]
  · funext k
    exact o1 a k (by omega)
theorem lay_hi {ℓ' I1 : Nat → Nat → Int32} (h : ∀ a, 294 ≤ a → I1 a = I a) : ∀ a, 294 ≤ a → lay 19 ℓ' I1 a = I a := fun a ha => by
  rw [← h a ha]
  funext k
  rw [lay_out (by omega)]
theorem RL_lay19 {ℓ' I1 : Nat → Nat → Int32} {μ' L1 : Nat → Nat → Int64} (h : RL ℓ' μ' α n m o) : RL (gl 19 (lay 19 ℓ' I1)) (gl 19 (lay 19 μ' L1)) α n m o := RL_ext h (fun a ha k => lay_in ha) (fun a ha k => lay_in ha)
end SB5
