/-! REMEMBERING of the reference -/
def shf (i : Nat) (P : Nat → Int64) : Nat → Int64 := fun j => if j + 378 < i then P (j + 378) else P j
theorem shf_0 {P : Nat → Int64} : shf 378 P = P := by
  funext j
  unfold shf
  rw [if_neg (by omega)]
theorem shf_s {i : Nat} {P : Nat → Int64} (h : 378 ≤ i) : up1 (shf i P) (i - 378) (P i) = shf (i + 1) P := by
  funext j
  unfold up1 shf
  by_cases hj : j = i - 378
  · rw [if_pos hj, if_pos (show j + 378 < i + 1 by omega), show j + 378 = i by omega]
  · rw [if_neg hj]
    by_cases h2 : j + 378 < i
    · rw [if_pos h2, if_pos (by omega)]
    · rw [if_neg h2, if_neg (by omega)]
section S52
variable {d N t w : Nat} {I : Nat → Nat → Int32} {L : Nat → Nat → Int64} {D : Nat → Nat → UInt64} {Q : Rs → St → Prop}
theorem c188_54 {F P : Nat → Int64} {r : Nat} (hr : r < 6) (hI : I 294 24 = Int32.ofInt (r : Int)) : ∀ (k i : Nat), i + k = 378 → Wp d 188 54 [some (.ref 294), some (.int (Int32.ofInt (i : Int)))] [] (mk N t w I (sR (sR L 301 (blk (378 * r) i F P)) 295 F) D) Q = Wp d 188 88 [some (.ref 294), some (.int (Int32.ofInt ((378 : Nat) : Int)))] [] (mk N t w I (sR (sR L 301 (blk (378 * r) 378 F P)) 295 F) D) Q := by
  intro k
  induction k with
  | zero =>
    intro i hi
    obtain rfl : i = 378 := by omega
    have g : ¬ (((378 : Nat) : Int) < 378) := by omega
    rw [w188_54]
    simp only [w188_0, w188_1, w188_4, w188_6, w188_9, w188_12, w188_14, w188_17, w188_20, w188_21, w188_24, w188_25, w188_28, w188_29, w188_30, w188_33, w188_34, w188_35, w188_36, w188_39, w188_42, w188_43, w188_44, w188_47, w188_48, w188_49, w188_52, w188_53, w188_55, w188_58, w188_61, w188_62, w188_65, w188_68, w188_69, w188_72, w188_73, w188_74, w188_75, w188_76, w188_79, w188_80, w188_81, w188_82, w188_85, w188_89, w188_90, w188_93, w188_94, w188_95, w188_98, kn_s, kn_n, zh_mk, zR_mk, zI_mk, zL_mk, zD_mk, wI_mk, wL_mk, wD_mk, zT_mk, zC_mk, kill_i, kill_r, kill_0, kill_n, kill_l, kill_q, zzk_r, zzk_0, zzk_q, zcat_r, zcat_i, zcat_0, cats_0, cats_i, cats_r, cats_l, cats_d, cats_f, rv_s, rv_0, Nat.reduceAdd, Nat.reduceLeDiff, Nat.add_zero, Nat.reduceMul, Nat.reduceSub, ne_eq, not_false_eq_true, not_true_eq_false, and_self, and_true, true_and, or_self, or_true, true_or, or_false, false_or, if_true, if_false, reduceIte, reduceCtorEq, implies_true, ite_self, ite_not, o_lt (a := ((378 : Nat) : Int)) (b := 378) (by omega), g]
  | succ k ih =>
    intro i hi
    have g : (i : Int) < 378 := by omega
    have e1 : 378 * (r : Int) + (i : Int) = ((378 * r + i : Nat) : Int) := by omega
    have e : up2 (sR (sR L 301 (blk (378 * r) i F P)) 295 F) 301 (378 * r + i) (F i) = sR (sR L 301 (blk (378 * r) (i + 1) F P)) 295 F := by
      rw [sR_comm (by omega), up2_sR, blk_s, sR_comm (by omega)]
    rw [w188_54]
    simp only [w188_0, w188_1, w188_4, w188_6, w188_9, w188_12, w188_14, w188_17, w188_20, w188_21, w188_24, w188_25, w188_28, w188_29, w188_30, w188_33, w188_34, w188_35, w188_36, w188_39, w188_42, w188_43, w188_44, w188_47, w188_48, w188_49, w188_52, w188_53, w188_55, w188_58, w188_61, w188_62, w188_65, w188_68, w188_69, w188_72, w188_73, w188_74, w188_75, w188_76, w188_79, w188_80, w188_81, w188_82, w188_85, w188_89, w188_90, w188_93, w188_94, w188_95, w188_98, kn_s, kn_n, zh_mk, zR_mk, zI_mk, zL_mk, zD_mk, wI_mk, wL_mk, wD_mk, zT_mk, zC_mk, kill_i, kill_r, kill_0, kill_n, kill_l, kill_q, zzk_r, zzk_0, zzk_q, zcat_r, zcat_i, zcat_0, cats_0, cats_i, cats_r, cats_l, cats_d, cats_f, rv_s, rv_0, Nat.reduceAdd, Nat.reduceLeDiff, Nat.add_zero, Nat.reduceMul, Nat.reduceSub, ne_eq, not_false_eq_true, not_true_eq_false, and_self, and_true, true_and, or_self, or_true, true_or, or_false, false_or, if_true, if_false, reduceIte, reduceCtorEq, implies_true, ite_self, ite_not, kM, kM1, kM23, kA295, kA301, hI, sR_at, o_lt (a := (i : Int)) (b := 378) (by omega), g, o_mul, o_add, e1, o_ixn (j := i) (n := 378) (by omega), o_tnn (j := i) (by omega), o_ixn (j := 378 * r + i) (n := 2268) (by omega), o_tnn (j := 378 * r + i) (by omega), cast_s, e]
    exact ih (i + 1) (by omega)
theorem c188_13 {F P : Nat → Int64} : ∀ (k i : Nat), i + k = 2268 → 378 ≤ i → Wp d 188 13 [some (.ref 294), some (.int (Int32.ofInt (i : Int)))] [] (mk N t w I (sR (sR L 301 (shf i P)) 295 F) D) Q = Wp d 188 42 [some (.ref 294), some (.int (Int32.ofInt ((2268 : Nat) : Int)))] [] (mk N t w I (sR (sR L 301 (shf 2268 P)) 295 F) D) Q := by
  intro k
  induction k with
  | zero =>
    intro i hi _
    obtain rfl : i = 2268 := by omega
    have g : ¬ (((2268 : Nat) : Int) < 2268) := by omega
    rw [w188_13]
    simp only [w188_0, w188_1, w188_4, w188_6, w188_9, w188_12, w188_14, w188_17, w188_20, w188_21, w188_24, w188_25, w188_28, w188_29, w188_30, w188_33, w188_34, w188_35, w188_36, w188_39, w188_43, w188_44, w188_47, w188_48, w188_49, w188_52, w188_53, w188_55, w188_58, w188_61, w188_62, w188_65, w188_68, w188_69, w188_72, w188_73, w188_74, w188_75, w188_76, w188_79, w188_80, w188_81, w188_82, w188_85, w188_88, w188_89, w188_90, w188_93, w188_94, w188_95, w188_98, kn_s, kn_n, zh_mk, zR_mk, zI_mk, zL_mk, zD_mk, wI_mk, wL_mk, wD_mk, zT_mk, zC_mk, kill_i, kill_r, kill_0, kill_n, kill_l, kill_q, zzk_r, zzk_0, zzk_q, zcat_r, zcat_i, zcat_0, cats_0, cats_i, cats_r, cats_l, cats_d, cats_f, rv_s, rv_0, Nat.reduceAdd, Nat.reduceLeDiff, Nat.add_zero, Nat.reduceMul, Nat.reduceSub, ne_eq, not_false_eq_true, not_true_eq_false, and_self, and_true, true_and, or_self, or_true, true_or, or_false, false_or, if_true, if_false, reduceIte, reduceCtorEq, implies_true, ite_self, ite_not, o_lt (a := ((2268 : Nat) : Int)) (b := 2268) (by omega), g]
  | succ k ih =>
    intro i hi h3
    have g : (i : Int) < 2268 := by omega
    have e1 : (i : Int) - 378 = ((i - 378 : Nat) : Int) := by omega
    have e2 : ∀ G : Nat → Int64, sR (sR L 301 G) 295 F 301 = G := fun G => by
      rw [sR_comm (by omega)]
      funext j
      simp only [sR_at]
    have e3 : shf i P i = P i := by
      unfold shf
      rw [if_neg (by omega)]
    have e : up2 (sR (sR L 301 (shf i P)) 295 F) 301 (i - 378) (P i) = sR (sR L 301 (shf (i + 1) P)) 295 F := by
      rw [sR_comm (by omega), up2_sR, shf_s h3, sR_comm (by omega)]
    rw [w188_13]
    simp only [w188_0, w188_1, w188_4, w188_6, w188_9, w188_12, w188_14, w188_17, w188_20, w188_21, w188_24, w188_25, w188_28, w188_29, w188_30, w188_33, w188_34, w188_35, w188_36, w188_39, w188_43, w188_44, w188_47, w188_48, w188_49, w188_52, w188_53, w188_55, w188_58, w188_61, w188_62, w188_65, w188_68, w188_69, w188_72, w188_73, w188_74, w188_75, w188_76, w188_79, w188_80, w188_81, w188_82, w188_85, w188_88, w188_89, w188_90, w188_93, w188_94, w188_95, w188_98, kn_s, kn_n, zh_mk, zR_mk, zI_mk, zL_mk, zD_mk, wI_mk, wL_mk, wD_mk, zT_mk, zC_mk, kill_i, kill_r, kill_0, kill_n, kill_l, kill_q, zzk_r, zzk_0, zzk_q, zcat_r, zcat_i, zcat_0, cats_0, cats_i, cats_r, cats_l, cats_d, cats_f, rv_s, rv_0, Nat.reduceAdd, Nat.reduceLeDiff, Nat.add_zero, Nat.reduceMul, Nat.reduceSub, ne_eq, not_false_eq_true, not_true_eq_false, and_self, and_true, true_and, or_self, or_true, true_or, or_false, false_or, if_true, if_false, reduceIte, reduceCtorEq, implies_true, ite_self, ite_not, kM, kM23, kA301, e2, e3, o_lt (a := (i : Int)) (b := 2268) (by omega), g, o_sub, o_add, e1, o_ixn (j := i) (n := 2268) (by omega), o_tnn (j := i) (by omega), o_ixn (j := i - 378) (n := 2268) (by omega), o_tnn (j := i - 378) (by omega), cast_s, e]
    exact ih (i + 1) (by omega) (by omega)
theorem i_eq6 {r : Nat} (h : r < 1000) : (Int32.ofInt (r : Int) = Int32.ofInt 6) = (r = 6) := by
  rw [o_eq (by omega), eq_iff_iff]
  omega
theorem up2_2 {α : Type} {f : Nat → Nat → α} {a k : Nat} {u v : α} : up2 (up2 f a k u) a k v = up2 f a k v := by
  funext b j
  unfold up2
  by_cases h : b = a ∧ j = k
  · rw [if_pos h, if_pos h]
  · rw [if_neg h, if_neg h, if_neg h]
theorem c188_a {F P : Nat → Int64} {r : Nat} (hr : r < 6) (hI : I 294 24 = Int32.ofInt (r : Int)) : Wp d 188 0 [some (.ref 294), none] [] (mk N t w I (sR (sR L 301 P) 295 F) D) Q = Q (.inl none) (mk N t w (up2 I 294 24 (Int32.ofInt ((r + 1 : Nat) : Int))) (sR (sR L 301 (blk (378 * r) 378 F P)) 295 F) D) := by
  have l0 := c188_54 (d := d) (N := N) (t := t) (w := w) (I := I) (L := L) (D := D) (Q := Q) (F := F) (P := P) hr hI 378 0 (by omega)
  rw [blk_0] at l0
  have g : ¬ r = 6 := by omega
  simp only [w188_0, w188_1, w188_4, w188_6, w188_9, w188_12, w188_14, w188_17, w188_20, w188_21, w188_24, w188_25, w188_28, w188_29, w188_30, w188_33, w188_34, w188_35, w188_36, w188_39, w188_42, w188_43, w188_44, w188_47, w188_48, w188_49, w188_52, w188_53, w188_55, w188_58, w188_61, w188_62, w188_65, w188_68, w188_69, w188_72, w188_73, w188_74, w188_75, w188_76, w188_79, w188_80, w188_81, w188_82, w188_85, w188_88, w188_89, w188_90, w188_93, w188_94, w188_95, w188_98, kn_s, kn_n, zh_mk, zR_mk, zI_mk, zL_mk, zD_mk, wI_mk, wL_mk, wD_mk, zT_mk, zC_mk, kill_i, kill_r, kill_0, kill_n, kill_l, kill_q, zzk_r, zzk_0, zzk_q, zcat_r, zcat_i, zcat_0, cats_0, cats_i, cats_r, cats_l, cats_d, cats_f, rv_s, rv_0, Nat.reduceAdd, Nat.reduceLeDiff, Nat.add_zero, Nat.reduceMul, Nat.reduceSub, ne_eq, not_false_eq_true, not_true_eq_false, and_self, and_true, true_and, or_self, or_true, true_or, or_false, false_or, if_true, if_false, reduceIte, reduceCtorEq, implies_true, ite_self, ite_not, kM, hI, i_eq6 (r := r) (by omega), g]
  refine l0.trans ?_
  simp only [w188_0, w188_1, w188_4, w188_6, w188_9, w188_12, w188_14, w188_17, w188_20, w188_21, w188_24, w188_25, w188_28, w188_29, w188_30, w188_33, w188_34, w188_35, w188_36, w188_39, w188_42, w188_43, w188_44, w188_47, w188_48, w188_49, w188_52, w188_53, w188_55, w188_58, w188_61, w188_62, w188_65, w188_68, w188_69, w188_72, w188_73, w188_74, w188_75, w188_76, w188_79, w188_80, w188_81, w188_82, w188_85, w188_88, w188_89, w188_90, w188_93, w188_94, w188_95, w188_98, kn_s, kn_n, zh_mk, zR_mk, zI_mk, zL_mk, zD_mk, wI_mk, wL_mk, wD_mk, zT_mk, zC_mk, kill_i, kill_r, kill_0, kill_n, kill_l, kill_q, zzk_r, zzk_0, zzk_q, zcat_r, zcat_i, zcat_0, cats_0, cats_i, cats_r, cats_l, cats_d, cats_f, rv_s, rv_0, Nat.reduceAdd, Nat.reduceLeDiff, Nat.add_zero, Nat.reduceMul, Nat.reduceSub, ne_eq, not_false_eq_true, not_true_eq_false, and_self, and_true, true_and, or_self, or_true, true_or, or_false, false_or, if_true, if_false, reduceIte, reduceCtorEq, implies_true, ite_self, ite_not, kM, hI, o_add, cast_s]
theorem c188_b {F P : Nat → Int64} (hI : I 294 24 = Int32.ofInt 6) : Wp d 188 0 [some (.ref 294), none] [] (mk N t w I (sR (sR L 301 P) 295 F) D) Q = Q (.inl none) (mk N t w (up2 I 294 24 (Int32.ofInt 6)) (sR (sR L 301 (blk (378 * 5) 378 F (shf 2268 P))) 295 F) D) := by
  have l0 := c188_54 (d := d) (N := N) (t := t) (w := w) (I := up2 I 294 24 (Int32.ofInt 5)) (L := L) (D := D) (Q := Q) (F := F) (P := shf 2268 P) (r := 5) (by omega) up2_own 378 0 (by omega)
  rw [blk_0] at l0
  have l1 := c188_13 (d := d) (N := N) (t := t) (w := w) (I := I) (L := L) (D := D) (Q := Q) (F := F) (P := P) 1890 378 (by omega) (by omega)
  rw [shf_0] at l1
  simp only [w188_0, w188_1, w188_4, w188_6, w188_9, w188_12, w188_14, w188_17, w188_20, w188_21, w188_24, w188_25, w188_28, w188_29, w188_30, w188_33, w188_34, w188_35, w188_36, w188_39, w188_42, w188_43, w188_44, w188_47, w188_48, w188_49, w188_52, w188_53, w188_55, w188_58, w188_61, w188_62, w188_65, w188_68, w188_69, w188_72, w188_73, w188_74, w188_75, w188_76, w188_79, w188_80, w188_81, w188_82, w188_85, w188_88, w188_89, w188_90, w188_93, w188_94, w188_95, w188_98, kn_s, kn_n, zh_mk, zR_mk, zI_mk, zL_mk, zD_mk, wI_mk, wL_mk, wD_mk, zT_mk, zC_mk, kill_i, kill_r, kill_0, kill_n, kill_l, kill_q, zzk_r, zzk_0, zzk_q, zcat_r, zcat_i, zcat_0, cats_0, cats_i, cats_r, cats_l, cats_d, cats_f, rv_s, rv_0, Nat.reduceAdd, Nat.reduceLeDiff, Nat.add_zero, Nat.reduceMul, Nat.reduceSub, ne_eq, not_false_eq_true, not_true_eq_false, and_self, and_true, true_and, or_self, or_true, true_or, or_false, false_or, if_true, if_false, reduceIte, reduceCtorEq, implies_true, ite_self, ite_not, kM, hI]
  refine l1.trans ?_
  simp only [w188_0, w188_1, w188_4, w188_6, w188_9, w188_12, w188_14, w188_17, w188_20, w188_21, w188_24, w188_25, w188_28, w188_29, w188_30, w188_33, w188_34, w188_35, w188_36, w188_39, w188_42, w188_43, w188_44, w188_47, w188_48, w188_49, w188_52, w188_53, w188_55, w188_58, w188_61, w188_62, w188_65, w188_68, w188_69, w188_72, w188_73, w188_74, w188_75, w188_76, w188_79, w188_80, w188_81, w188_82, w188_85, w188_88, w188_89, w188_90, w188_93, w188_94, w188_95, w188_98, kn_s, kn_n, zh_mk, zR_mk, zI_mk, zL_mk, zD_mk, wI_mk, wL_mk, wD_mk, zT_mk, zC_mk, kill_i, kill_r, kill_0, kill_n, kill_l, kill_q, zzk_r, zzk_0, zzk_q, zcat_r, zcat_i, zcat_0, cats_0, cats_i, cats_r, cats_l, cats_d, cats_f, rv_s, rv_0, Nat.reduceAdd, Nat.reduceLeDiff, Nat.add_zero, Nat.reduceMul, Nat.reduceSub, ne_eq, not_false_eq_true, not_true_eq_false, and_self, and_true, true_and, or_self, or_true, true_or, or_false, false_or, if_true, if_false, reduceIte, reduceCtorEq, implies_true, ite_self, ite_not, kM, hI, o_sub, show (6 : Int) - 1 = 5 by omega]
  refine l0.trans ?_
  simp only [w188_0, w188_1, w188_4, w188_6, w188_9, w188_12, w188_14, w188_17, w188_20, w188_21, w188_24, w188_25, w188_28, w188_29, w188_30, w188_33, w188_34, w188_35, w188_36, w188_39, w188_42, w188_43, w188_44, w188_47, w188_48, w188_49, w188_52, w188_53, w188_55, w188_58, w188_61, w188_62, w188_65, w188_68, w188_69, w188_72, w188_73, w188_74, w188_75, w188_76, w188_79, w188_80, w188_81, w188_82, w188_85, w188_88, w188_89, w188_90, w188_93, w188_94, w188_95, w188_98, kn_s, kn_n, zh_mk, zR_mk, zI_mk, zL_mk, zD_mk, wI_mk, wL_mk, wD_mk, zT_mk, zC_mk, kill_i, kill_r, kill_0, kill_n, kill_l, kill_q, zzk_r, zzk_0, zzk_q, zcat_r, zcat_i, zcat_0, cats_0, cats_i, cats_r, cats_l, cats_d, cats_f, rv_s, rv_0, Nat.reduceAdd, Nat.reduceLeDiff, Nat.add_zero, Nat.reduceMul, Nat.reduceSub, ne_eq, not_false_eq_true, not_true_eq_false, and_self, and_true, true_and, or_self, or_true, true_or, or_false, false_or, if_true, if_false, reduceIte, reduceCtorEq, implies_true, ite_self, ite_not, kM, up2_own, up2_2, o_add, show (5 : Int) + 1 = 6 by omega]
end S52
