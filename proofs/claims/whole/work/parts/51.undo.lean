/-! UNDO of the reference -/
section S51
variable {d N t w : Nat} {I : Nat → Nat → Int32} {L : Nat → Nat → Int64} {D : Nat → Nat → UInt64} {Q : Rs → St → Prop}
theorem c279_33 {F P : Nat → Int64} {r : Nat} (hr : r < 6) (hI : I 294 24 = Int32.ofInt (r : Int)) : ∀ (k i : Nat), i + k = 378 → Wp d 279 33 [some (.ref 294), some (.int (Int32.ofInt (i : Int)))] [] (mk N t w I (sR (sR L 301 P) 295 (cpN i (fun j => P (378 * r + j)) F)) D) Q = Wp d 279 67 [some (.ref 294), some (.int (Int32.ofInt ((378 : Nat) : Int)))] [] (mk N t w I (sR (sR L 301 P) 295 (cpN 378 (fun j => P (378 * r + j)) F)) D) Q := by
  intro k
  induction k with
  | zero =>
    intro i hi
    obtain rfl : i = 378 := by omega
    have g : ¬ (((378 : Nat) : Int) < 378) := by omega
    rw [w279_33]
    simp only [w279_0, w279_1, w279_2, w279_5, w279_8, w279_9, w279_12, w279_13, w279_16, w279_19, w279_20, w279_21, w279_22, w279_23, w279_26, w279_27, w279_28, w279_31, w279_32, w279_34, w279_37, w279_40, w279_41, w279_44, w279_45, w279_46, w279_49, w279_52, w279_53, w279_56, w279_57, w279_58, w279_59, w279_60, w279_61, w279_64, w279_68, w279_71, kn_s, kn_n, zh_mk, zR_mk, zI_mk, zL_mk, zD_mk, wI_mk, wL_mk, wD_mk, zT_mk, zC_mk, kill_i, kill_r, kill_0, kill_n, kill_l, kill_q, zzk_r, zzk_0, zzk_q, zcat_r, zcat_i, zcat_0, cats_0, cats_i, cats_r, cats_l, cats_d, cats_f, rv_s, rv_0, Nat.reduceAdd, Nat.reduceLeDiff, Nat.add_zero, Nat.reduceMul, Nat.reduceSub, ne_eq, not_false_eq_true, not_true_eq_false, and_self, and_true, true_and, or_self, or_true, true_or, or_false, false_or, if_true, if_false, reduceIte, reduceCtorEq, implies_true, ite_self, ite_not, o_lt (a := ((378 : Nat) : Int)) (b := 378) (by omega), g]
  | succ k ih =>
    intro i hi
    have g : (i : Int) < 378 := by omega
    have e1 : 378 * (r : Int) + (i : Int) = ((378 * r + i : Nat) : Int) := by omega
    have e : ∀ G : Nat → Int64, up2 (sR (sR L 301 P) 295 (cpN i (fun j => P (378 * r + j)) G)) 295 i (P (378 * r + i)) = sR (sR L 301 P) 295 (cpN (i + 1) (fun j => P (378 * r + j)) G) := fun G => by
      rw [up2_sR]
      have := cpN_s (f := fun j => P (378 * r + j)) (g := G) (k := i)
      rw [← this]
    have e2 : ∀ G : Nat → Int64, sR (sR L 301 P) 295 G 301 = P := fun G => by
      rw [sR_comm (by omega)]
      funext j
      simp only [sR_at]
    rw [w279_33]
    simp only [w279_0, w279_1, w279_2, w279_5, w279_8, w279_9, w279_12, w279_13, w279_16, w279_19, w279_20, w279_21, w279_22, w279_23, w279_26, w279_27, w279_28, w279_31, w279_32, w279_34, w279_37, w279_40, w279_41, w279_44, w279_45, w279_46, w279_49, w279_52, w279_53, w279_56, w279_57, w279_58, w279_59, w279_60, w279_61, w279_64, w279_68, w279_71, kn_s, kn_n, zh_mk, zR_mk, zI_mk, zL_mk, zD_mk, wI_mk, wL_mk, wD_mk, zT_mk, zC_mk, kill_i, kill_r, kill_0, kill_n, kill_l, kill_q, zzk_r, zzk_0, zzk_q, zcat_r, zcat_i, zcat_0, cats_0, cats_i, cats_r, cats_l, cats_d, cats_f, rv_s, rv_0, Nat.reduceAdd, Nat.reduceLeDiff, Nat.add_zero, Nat.reduceMul, Nat.reduceSub, ne_eq, not_false_eq_true, not_true_eq_false, and_self, and_true, true_and, or_self, or_true, true_or, or_false, false_or, if_true, if_false, reduceIte, reduceCtorEq, implies_true, ite_self, ite_not, kM, kM1, kM23, kA295, kA301, hI, e2, o_lt (a := (i : Int)) (b := 378) (by omega), g, o_mul, o_add, e1, o_ixn (j := i) (n := 378) (by omega), o_tnn (j := i) (by omega), o_ixn (j := 378 * r + i) (n := 2268) (by omega), o_tnn (j := 378 * r + i) (by omega), cast_s, e]
    exact ih (i + 1) (by omega)
theorem i_lt0 {r : Nat} (h : r < 1000) : (Int32.ofInt 0 < Int32.ofInt (r : Int)) = (0 < r) := by
  rw [o_lt (by omega), eq_iff_iff]
  omega
theorem c279 {F P : Nat → Int64} {r : Nat} (hr : r ≤ 6) (hI : I 294 24 = Int32.ofInt (r : Int)) : Wp (d + 2) 279 0 [some (.ref 294), none] [] (mk N t w I (sR (sR L 301 P) 295 F) D) Q =
    if 0 < r then Q (.inl (some (.int (Int32.ofInt ((r - 1 : Nat) : Int))))) (mk N t w (up2 (up2 I 294 0 (Int32.ofInt 0)) 294 24 (Int32.ofInt ((r - 1 : Nat) : Int))) (sR (sR L 301 P) 295 (cpN 378 (fun j => P (378 * (r - 1) + j)) F)) D)
    else Q (.inl (some (.int (Int32.ofInt 0)))) (mk N t w (up2 I 294 0 (Int32.ofInt 1)) (sR (sR L 301 P) 295 F) D) := by
  by_cases hc : 0 < r
  · have e1 : (r : Int) - 1 = ((r - 1 : Nat) : Int) := by omega
    have l0 := c279_33 (d := d + 1 + 1) (N := N) (t := t) (w := w) (I := up2 (up2 I 294 0 (Int32.ofInt 0)) 294 24 (Int32.ofInt ((r - 1 : Nat) : Int))) (L := L) (D := D) (Q := Q) (F := F) (P := P) (r := r - 1) (by omega) up2_own 378 0 (by omega)
    rw [cpN_0] at l0
    simp only [if_pos hc]
    have h150 := fun (d' : Nat) (Q' : Rs → St → Prop) => c150 (d := d') (N := N) (t := t) (w := w) (I := I) (L := sR (sR L 301 P) 295 F) (D := D) (Q := Q') (p := True)
    simp only [← p1] at h150
    simp only [w279_0, w279_1, w279_2, w279_5, w279_8, w279_9, w279_12, w279_13, w279_16, w279_19, w279_20, w279_21, w279_22, w279_23, w279_26, w279_27, w279_28, w279_31, w279_32, w279_34, w279_37, w279_40, w279_41, w279_44, w279_45, w279_46, w279_49, w279_52, w279_53, w279_56, w279_57, w279_58, w279_59, w279_60, w279_61, w279_64, w279_67, w279_68, w279_71, kn_s, kn_n, zh_mk, zR_mk, zI_mk, zL_mk, zD_mk, wI_mk, wL_mk, wD_mk, zT_mk, zC_mk, kill_i, kill_r, kill_0, kill_n, kill_l, kill_q, zzk_r, zzk_0, zzk_q, zcat_r, zcat_i, zcat_0, cats_0, cats_i, cats_r, cats_l, cats_d, cats_f, rv_s, rv_0, Nat.reduceAdd, Nat.reduceLeDiff, Nat.add_zero, Nat.reduceMul, Nat.reduceSub, ne_eq, not_false_eq_true, not_true_eq_false, and_self, and_true, true_and, or_self, or_true, true_or, or_false, false_or, if_true, if_false, reduceIte, reduceCtorEq, implies_true, ite_self, ite_not, kM, hI, i_lt0 (r := r) (by omega), hc, h150, pI, thr, i10, up2_at, Nat.reduceEqDiff, and_false, o_sub, e1]
    refine l0.trans ?_
    simp only [w279_0, w279_1, w279_2, w279_5, w279_8, w279_9, w279_12, w279_13, w279_16, w279_19, w279_20, w279_21, w279_22, w279_23, w279_26, w279_27, w279_28, w279_31, w279_32, w279_34, w279_37, w279_40, w279_41, w279_44, w279_45, w279_46, w279_49, w279_52, w279_53, w279_56, w279_57, w279_58, w279_59, w279_60, w279_61, w279_64, w279_67, w279_68, w279_71, kn_s, kn_n, zh_mk, zR_mk, zI_mk, zL_mk, zD_mk, wI_mk, wL_mk, wD_mk, zT_mk, zC_mk, kill_i, kill_r, kill_0, kill_n, kill_l, kill_q, zzk_r, zzk_0, zzk_q, zcat_r, zcat_i, zcat_0, cats_0, cats_i, cats_r, cats_l, cats_d, cats_f, rv_s, rv_0, Nat.reduceAdd, Nat.reduceLeDiff, Nat.add_zero, Nat.reduceMul, Nat.reduceSub, ne_eq, not_false_eq_true, not_true_eq_false, and_self, and_true, true_and, or_self, or_true, true_or, or_false, false_or, if_true, if_false, reduceIte, reduceCtorEq, implies_true, ite_self, ite_not, kM, up2_own]
  · have h150 := fun (d' : Nat) (Q' : Rs → St → Prop) => c150 (d := d') (N := N) (t := t) (w := w) (I := I) (L := sR (sR L 301 P) 295 F) (D := D) (Q := Q') (p := False)
    have p0 : pI False = Int32.ofInt 0 := by unfold pI; rw [if_neg not_false]
    simp only [p0] at h150
    simp only [if_neg hc]
    simp only [w279_0, w279_1, w279_2, w279_5, w279_8, w279_9, w279_12, w279_13, w279_16, w279_19, w279_20, w279_21, w279_22, w279_23, w279_26, w279_27, w279_28, w279_31, w279_32, w279_34, w279_37, w279_40, w279_41, w279_44, w279_45, w279_46, w279_49, w279_52, w279_53, w279_56, w279_57, w279_58, w279_59, w279_60, w279_61, w279_64, w279_67, w279_68, w279_71, kn_s, kn_n, zh_mk, zR_mk, zI_mk, zL_mk, zD_mk, wI_mk, wL_mk, wD_mk, zT_mk, zC_mk, kill_i, kill_r, kill_0, kill_n, kill_l, kill_q, zzk_r, zzk_0, zzk_q, zcat_r, zcat_i, zcat_0, cats_0, cats_i, cats_r, cats_l, cats_d, cats_f, rv_s, rv_0, Nat.reduceAdd, Nat.reduceLeDiff, Nat.add_zero, Nat.reduceMul, Nat.reduceSub, ne_eq, not_false_eq_true, not_true_eq_false, and_self, and_true, true_and, or_self, or_true, true_or, or_false, false_or, if_true, if_false, reduceIte, reduceCtorEq, implies_true, ite_self, ite_not, kM, hI, i_lt0 (r := r) (by omega), hc, h150, thr, i00]
end S51
