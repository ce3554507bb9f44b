/-! KEEPS and undo of the reference: rows copied into blocks -/
def blk (o i : Nat) (f g : Nat → Int64) : Nat → Int64 := fun j => if o ≤ j ∧ j < o + i then f (j - o) else g j
theorem blk_s {o i : Nat} {f g : Nat → Int64} : up1 (blk o i f g) (o + i) (f i) = blk o (i + 1) f g := by
  funext j
  unfold up1 blk
  by_cases h : j = o + i
  · subst h
    rw [if_pos rfl, if_pos (by omega), Nat.add_sub_cancel_left]
  · rw [if_neg h]
    by_cases h2 : o ≤ j ∧ j < o + i
    · rw [if_pos h2, if_pos (by omega)]
    · rw [if_neg h2, if_neg (by omega)]
theorem blk_0 {o : Nat} {f g : Nat → Int64} : blk o 0 f g = g := by
  funext j
  unfold blk
  rw [if_neg (by omega)]
theorem kA299 {N : Nat} : KH N 299 = (12, 756) := nr rfl
theorem kA300 {N : Nat} : KH N 300 = (14, 2) := nr rfl
theorem kA301 {N : Nat} : KH N 301 = (12, 2268) := nr rfl
theorem kM21 {w : Nat} : rv (KR w 294 21) = .ref 299 := nr rfl
theorem kM22 {w : Nat} : rv (KR w 294 22) = .ref 300 := nr rfl
theorem kM23 {w : Nat} : rv (KR w 294 23) = .ref 301 := nr rfl
theorem nar_1 : vp_nar .boolean (Int32.ofInt 1) = Int32.ofInt 1 := nr rfl
section S50
variable {d N t w : Nat} {I : Nat → Nat → Int32} {L : Nat → Nat → Int64} {D : Nat → Nat → UInt64} {Q : Rs → St → Prop}
theorem c277 {z : Int} (hz : -2147483648 ≤ z ∧ z < 2147483648) {σ : St} : Wp (d + 1) 277 0 [some (.int (Int32.ofInt z))] [] σ Q = Q (.inl (some (.int (pI (0 ≤ z ∧ z ≤ 1))))) σ := by
  simp only [w277_0, w277_1, w277_2, w277_3, w277_4, w277_7, kn_s, kn_n, zh_mk, zR_mk, zI_mk, zL_mk, zD_mk, wI_mk, wL_mk, wD_mk, zT_mk, zC_mk, kill_i, kill_r, kill_0, kill_n, kill_l, kill_q, zzk_r, zzk_0, zzk_q, zcat_r, zcat_i, zcat_0, cats_0, cats_i, cats_r, cats_l, cats_d, cats_f, rv_s, rv_0, Nat.reduceAdd, Nat.reduceLeDiff, Nat.add_zero, Nat.reduceMul, Nat.reduceSub, ne_eq, not_false_eq_true, not_true_eq_false, and_self, and_true, true_and, or_self, or_true, true_or, or_false, false_or, if_true, if_false, reduceIte, reduceCtorEq, implies_true, ite_self, ite_not, o_64 hz, c154 (a := z) (b := 0) (c := 1) (by omega), p_n]
theorem c276_15 {F K : Nat → Int64} {s : Nat} (hs : s < 2) : ∀ (k i : Nat), i + k = 378 → Wp d 276 15 [some (.ref 294), some (.int (Int32.ofInt (s : Int))), some (.int (Int32.ofInt (i : Int)))] [] (mk N t w I (sR (sR L 299 (blk (378 * s) i F K)) 295 F) D) Q = Wp d 276 46 [some (.ref 294), some (.int (Int32.ofInt (s : Int))), some (.int (Int32.ofInt ((378 : Nat) : Int)))] [] (mk N t w I (sR (sR L 299 (blk (378 * s) 378 F K)) 295 F) D) Q := by
  intro k
  induction k with
  | zero =>
    intro i hi
    obtain rfl : i = 378 := by omega
    have g : ¬ (((378 : Nat) : Int) < 378) := by omega
    rw [w276_15]
    simp only [w276_0, w276_1, w276_2, w276_5, w276_8, w276_11, w276_12, w276_13, w276_14, w276_16, w276_19, w276_22, w276_23, w276_26, w276_29, w276_30, w276_31, w276_32, w276_33, w276_34, w276_37, w276_38, w276_39, w276_40, w276_43, w276_47, w276_50, w276_51, w276_52, w276_53, w276_54, w276_57, w276_58, w276_59, w276_60, kn_s, kn_n, zh_mk, zR_mk, zI_mk, zL_mk, zD_mk, wI_mk, wL_mk, wD_mk, zT_mk, zC_mk, kill_i, kill_r, kill_0, kill_n, kill_l, kill_q, zzk_r, zzk_0, zzk_q, zcat_r, zcat_i, zcat_0, cats_0, cats_i, cats_r, cats_l, cats_d, cats_f, rv_s, rv_0, Nat.reduceAdd, Nat.reduceLeDiff, Nat.add_zero, Nat.reduceMul, Nat.reduceSub, ne_eq, not_false_eq_true, not_true_eq_false, and_self, and_true, true_and, or_self, or_true, true_or, or_false, false_or, if_true, if_false, reduceIte, reduceCtorEq, implies_true, ite_self, ite_not, o_lt (a := ((378 : Nat) : Int)) (b := 378) (by omega), g]
  | succ k ih =>
    intro i hi
    have g : (i : Int) < 378 := by omega
    have e1 : 378 * (s : Int) + (i : Int) = ((378 * s + i : Nat) : Int) := by omega
    have e : up2 (sR (sR L 299 (blk (378 * s) i F K)) 295 F) 299 (378 * s + i) (F i) = sR (sR L 299 (blk (378 * s) (i + 1) F K)) 295 F := by
      rw [sR_comm (by omega), up2_sR, blk_s, sR_comm (by omega)]
    rw [w276_15]
    simp only [w276_0, w276_1, w276_2, w276_5, w276_8, w276_11, w276_12, w276_13, w276_14, w276_16, w276_19, w276_22, w276_23, w276_26, w276_29, w276_30, w276_31, w276_32, w276_33, w276_34, w276_37, w276_38, w276_39, w276_40, w276_43, w276_47, w276_50, w276_51, w276_52, w276_53, w276_54, w276_57, w276_58, w276_59, w276_60, kn_s, kn_n, zh_mk, zR_mk, zI_mk, zL_mk, zD_mk, wI_mk, wL_mk, wD_mk, zT_mk, zC_mk, kill_i, kill_r, kill_0, kill_n, kill_l, kill_q, zzk_r, zzk_0, zzk_q, zcat_r, zcat_i, zcat_0, cats_0, cats_i, cats_r, cats_l, cats_d, cats_f, rv_s, rv_0, Nat.reduceAdd, Nat.reduceLeDiff, Nat.add_zero, Nat.reduceMul, Nat.reduceSub, ne_eq, not_false_eq_true, not_true_eq_false, and_self, and_true, true_and, or_self, or_true, true_or, or_false, false_or, if_true, if_false, reduceIte, reduceCtorEq, implies_true, ite_self, ite_not, kM, kM1, kM21, kA295, kA299, sR_at, o_lt (a := (i : Int)) (b := 378) (by omega), g, o_mul, o_add, e1, o_ixn (j := i) (n := 378) (by omega), o_tnn (j := i) (by omega), o_ixn (j := 378 * s + i) (n := 756) (by omega), o_tnn (j := 378 * s + i) (by omega), cast_s, e]
    exact ih (i + 1) (by omega)
theorem c276 {F K : Nat → Int64} {z : Int} (hz : -2147483648 ≤ z ∧ z < 2147483648) : Wp (d + 2) 276 0 [some (.ref 294), some (.int (Int32.ofInt z)), none] [] (mk N t w I (sR (sR L 299 K) 295 F) D) Q =
    if 0 ≤ z ∧ z ≤ 1 then Q (.inl (some (.int (F 3).toInt32))) (mk N t w (up2 (up2 I 294 0 (Int32.ofInt 0)) 300 z.toNat (Int32.ofInt 1)) (sR (sR L 299 (blk (378 * z.toNat) 378 F K)) 295 F) D)
    else Q (.inl (some (.int (Int32.ofInt 0)))) (mk N t w (up2 I 294 0 (Int32.ofInt 1)) (sR (sR L 299 K) 295 F) D) := by
  by_cases hc : 0 ≤ z ∧ z ≤ 1
  · obtain ⟨s, rfl⟩ : ∃ s : Nat, z = (s : Int) := ⟨z.toNat, by omega⟩
    have hs : s < 2 := by omega
    have l0 := c276_15 (d := d + 1 + 1) (N := N) (t := t) (w := w) (I := up2 I 294 0 (Int32.ofInt 0)) (L := L) (D := D) (Q := Q) (F := F) (K := K) hs 378 0 (by omega)
    rw [blk_0] at l0
    simp only [if_pos hc, Int.toNat_natCast]
    simp only [w276_0, w276_1, w276_2, w276_5, w276_8, w276_11, w276_12, w276_13, w276_14, w276_16, w276_19, w276_22, w276_23, w276_26, w276_29, w276_30, w276_31, w276_32, w276_33, w276_34, w276_37, w276_38, w276_39, w276_40, w276_43, w276_46, w276_47, w276_50, w276_51, w276_52, w276_53, w276_54, w276_57, w276_58, w276_59, w276_60, kn_s, kn_n, zh_mk, zR_mk, zI_mk, zL_mk, zD_mk, wI_mk, wL_mk, wD_mk, zT_mk, zC_mk, kill_i, kill_r, kill_0, kill_n, kill_l, kill_q, zzk_r, zzk_0, zzk_q, zcat_r, zcat_i, zcat_0, cats_0, cats_i, cats_r, cats_l, cats_d, cats_f, rv_s, rv_0, Nat.reduceAdd, Nat.reduceLeDiff, Nat.add_zero, Nat.reduceMul, Nat.reduceSub, ne_eq, not_false_eq_true, not_true_eq_false, and_self, and_true, true_and, or_self, or_true, true_or, or_false, false_or, if_true, if_false, reduceIte, reduceCtorEq, implies_true, ite_self, ite_not, c277 hz, c150, kM]
    simp only [kn_s, kn_n, zh_mk, zR_mk, zI_mk, zL_mk, zD_mk, wI_mk, wL_mk, wD_mk, zT_mk, zC_mk, kill_i, kill_r, kill_0, kill_n, kill_l, kill_q, zzk_r, zzk_0, zzk_q, zcat_r, zcat_i, zcat_0, cats_0, cats_i, cats_r, cats_l, cats_d, cats_f, rv_s, rv_0, Nat.reduceAdd, Nat.reduceLeDiff, Nat.add_zero, Nat.reduceMul, Nat.reduceSub, ne_eq, not_false_eq_true, not_true_eq_false, and_self, and_true, true_and, or_self, or_true, true_or, or_false, false_or, if_true, if_false, reduceIte, reduceCtorEq, implies_true, ite_self, ite_not, pI, hc, thr, i10]
    refine l0.trans ?_
    simp only [w276_0, w276_1, w276_2, w276_5, w276_8, w276_11, w276_12, w276_13, w276_14, w276_16, w276_19, w276_22, w276_23, w276_26, w276_29, w276_30, w276_31, w276_32, w276_33, w276_34, w276_37, w276_38, w276_39, w276_40, w276_43, w276_46, w276_47, w276_50, w276_51, w276_52, w276_53, w276_54, w276_57, w276_58, w276_59, w276_60, kn_s, kn_n, zh_mk, zR_mk, zI_mk, zL_mk, zD_mk, wI_mk, wL_mk, wD_mk, zT_mk, zC_mk, kill_i, kill_r, kill_0, kill_n, kill_l, kill_q, zzk_r, zzk_0, zzk_q, zcat_r, zcat_i, zcat_0, cats_0, cats_i, cats_r, cats_l, cats_d, cats_f, rv_s, rv_0, Nat.reduceAdd, Nat.reduceLeDiff, Nat.add_zero, Nat.reduceMul, Nat.reduceSub, ne_eq, not_false_eq_true, not_true_eq_false, and_self, and_true, true_and, or_self, or_true, true_or, or_false, false_or, if_true, if_false, reduceIte, reduceCtorEq, implies_true, ite_self, ite_not, kM, kM1, kM22, kA295, kA300, sR_at, nar_1, o_ixn (j := s) (n := 2) (by omega), o_tnn (j := s) (by omega), ixc0, ixc1, ixc2, ixc3, ixc4, ixc5, ixc6, ixc7, ixc8, ixc9, ixc10, ixc11, ixc12, ixc13, ixc14, ixc15, ixc218, ixc219, ixc220, ixc221, tnc0, tnc1, tnc2, tnc3, tnc4, tnc5, tnc6, tnc7, tnc8, tnc9, tnc10, tnc11, tnc12, tnc13, tnc14, tnc15, tnc218, tnc219, tnc220, tnc221]
  · simp only [if_neg hc]
    simp only [w276_0, w276_1, w276_2, w276_5, w276_8, w276_11, w276_12, w276_13, w276_14, w276_16, w276_19, w276_22, w276_23, w276_26, w276_29, w276_30, w276_31, w276_32, w276_33, w276_34, w276_37, w276_38, w276_39, w276_40, w276_43, w276_46, w276_47, w276_50, w276_51, w276_52, w276_53, w276_54, w276_57, w276_58, w276_59, w276_60, kn_s, kn_n, zh_mk, zR_mk, zI_mk, zL_mk, zD_mk, wI_mk, wL_mk, wD_mk, zT_mk, zC_mk, kill_i, kill_r, kill_0, kill_n, kill_l, kill_q, zzk_r, zzk_0, zzk_q, zcat_r, zcat_i, zcat_0, cats_0, cats_i, cats_r, cats_l, cats_d, cats_f, rv_s, rv_0, Nat.reduceAdd, Nat.reduceLeDiff, Nat.add_zero, Nat.reduceMul, Nat.reduceSub, ne_eq, not_false_eq_true, not_true_eq_false, and_self, and_true, true_and, or_self, or_true, true_or, or_false, false_or, if_true, if_false, reduceIte, reduceCtorEq, implies_true, ite_self, ite_not, c277 hz, c150, kM]
    simp only [kn_s, kn_n, zh_mk, zR_mk, zI_mk, zL_mk, zD_mk, wI_mk, wL_mk, wD_mk, zT_mk, zC_mk, kill_i, kill_r, kill_0, kill_n, kill_l, kill_q, zzk_r, zzk_0, zzk_q, zcat_r, zcat_i, zcat_0, cats_0, cats_i, cats_r, cats_l, cats_d, cats_f, rv_s, rv_0, Nat.reduceAdd, Nat.reduceLeDiff, Nat.add_zero, Nat.reduceMul, Nat.reduceSub, ne_eq, not_false_eq_true, not_true_eq_false, and_self, and_true, true_and, or_self, or_true, true_or, or_false, false_or, if_true, if_false, reduceIte, reduceCtorEq, implies_true, ite_self, ite_not, pI, hc, thr, i00]
theorem c280 : Wp d 280 0 [some (.ref 294)] [] (mk N t w I L D) Q = Q (.inl (some (.int (I 294 24)))) (mk N t w (up2 I 294 0 (Int32.ofInt 0)) L D) := by
  simp only [w280_0, w280_1, w280_2, w280_5, w280_6, w280_9, kn_s, kn_n, zh_mk, zR_mk, zI_mk, zL_mk, zD_mk, wI_mk, wL_mk, wD_mk, zT_mk, zC_mk, kill_i, kill_r, kill_0, kill_n, kill_l, kill_q, zzk_r, zzk_0, zzk_q, zcat_r, zcat_i, zcat_0, cats_0, cats_i, cats_r, cats_l, cats_d, cats_f, rv_s, rv_0, Nat.reduceAdd, Nat.reduceLeDiff, Nat.add_zero, Nat.reduceMul, Nat.reduceSub, ne_eq, not_false_eq_true, not_true_eq_false, and_self, and_true, true_and, or_self, or_true, true_or, or_false, false_or, if_true, if_false, reduceIte, reduceCtorEq, implies_true, ite_self, ite_not, kM, up2_at, Nat.reduceEqDiff, and_false]
theorem c189 : Wp d 189 0 [some (.ref 294)] [] (mk N t w I L D) Q = Q (.inl (some (.int (I 294 19)))) (mk N t w (up2 I 294 0 (Int32.ofInt 0)) L D) := by
  simp only [w189_0, w189_1, w189_2, w189_5, w189_6, w189_9, kn_s, kn_n, zh_mk, zR_mk, zI_mk, zL_mk, zD_mk, wI_mk, wL_mk, wD_mk, zT_mk, zC_mk, kill_i, kill_r, kill_0, kill_n, kill_l, kill_q, zzk_r, zzk_0, zzk_q, zcat_r, zcat_i, zcat_0, cats_0, cats_i, cats_r, cats_l, cats_d, cats_f, rv_s, rv_0, Nat.reduceAdd, Nat.reduceLeDiff, Nat.add_zero, Nat.reduceMul, Nat.reduceSub, ne_eq, not_false_eq_true, not_true_eq_false, and_self, and_true, true_and, or_self, or_true, true_or, or_false, false_or, if_true, if_false, reduceIte, reduceCtorEq, implies_true, ite_self, ite_not, kM, up2_at, Nat.reduceEqDiff, and_false]
theorem c190 : Wp d 190 0 [some (.ref 294)] [] (mk N t w I L D) Q = Q (.inl (some (.int (I 294 20)))) (mk N t w (up2 I 294 0 (Int32.ofInt 0)) L D) := by
  simp only [w190_0, w190_1, w190_2, w190_5, w190_6, w190_9, kn_s, kn_n, zh_mk, zR_mk, zI_mk, zL_mk, zD_mk, wI_mk, wL_mk, wD_mk, zT_mk, zC_mk, kill_i, kill_r, kill_0, kill_n, kill_l, kill_q, zzk_r, zzk_0, zzk_q, zcat_r, zcat_i, zcat_0, cats_0, cats_i, cats_r, cats_l, cats_d, cats_f, rv_s, rv_0, Nat.reduceAdd, Nat.reduceLeDiff, Nat.add_zero, Nat.reduceMul, Nat.reduceSub, ne_eq, not_false_eq_true, not_true_eq_false, and_self, and_true, true_and, or_self, or_true, true_or, or_false, false_or, if_true, if_false, reduceIte, reduceCtorEq, implies_true, ite_self, ite_not, kM, up2_at, Nat.reduceEqDiff, and_false]
end S50
