/-! RESTORING of the reference -/
section S53
variable {d N t w : Nat} {I : Nat → Nat → Int32} {L : Nat → Nat → Int64} {D : Nat → Nat → UInt64} {Q : Rs → St → Prop}
theorem c278_40 {F K : Nat → Int64} {s : Nat} (hs : s < 2) : ∀ (k i : Nat), i + k = 378 → Wp d 278 40 [some (.ref 294), some (.int (Int32.ofInt (s : Int))), some (.int (Int32.ofInt (i : Int)))] [] (mk N t w I (sR (sR L 299 K) 295 (cpN i (fun j => K (378 * s + j)) F)) D) Q = Wp d 278 71 [some (.ref 294), some (.int (Int32.ofInt (s : Int))), some (.int (Int32.ofInt ((378 : Nat) : Int)))] [] (mk N t w I (sR (sR L 299 K) 295 (cpN 378 (fun j => K (378 * s + j)) F)) D) Q := by
  intro k
  induction k with
  | zero =>
    intro i hi
    obtain rfl : i = 378 := by omega
    have g : ¬ (((378 : Nat) : Int) < 378) := by omega
    rw [w278_40]
    simp only [w278_0, w278_1, w278_2, w278_5, w278_6, w278_9, w278_12, w278_13, w278_16, w278_17, w278_18, w278_21, w278_22, w278_25, w278_26, w278_29, w278_32, w278_33, w278_34, w278_35, w278_38, w278_39, w278_41, w278_44, w278_47, w278_48, w278_51, w278_52, w278_53, w278_56, w278_59, w278_60, w278_61, w278_62, w278_63, w278_64, w278_65, w278_68, w278_72, w278_75, w278_76, w278_77, w278_78, kn_s, kn_n, zh_mk, zR_mk, zI_mk, zL_mk, zD_mk, wI_mk, wL_mk, wD_mk, zT_mk, zC_mk, kill_i, kill_r, kill_0, kill_n, kill_l, kill_q, zzk_r, zzk_0, zzk_q, zcat_r, zcat_i, zcat_0, cats_0, cats_i, cats_r, cats_l, cats_d, cats_f, rv_s, rv_0, Nat.reduceAdd, Nat.reduceLeDiff, Nat.add_zero, Nat.reduceMul, Nat.reduceSub, ne_eq, not_false_eq_true, not_true_eq_false, and_self, and_true, true_and, or_self, or_true, true_or, or_false, false_or, if_true, if_false, reduceIte, reduceCtorEq, implies_true, ite_self, ite_not, o_lt (a := ((378 : Nat) : Int)) (b := 378) (by omega), g]
  | succ k ih =>
    intro i hi
    have g : (i : Int) < 378 := by omega
    have e1 : 378 * (s : Int) + (i : Int) = ((378 * s + i : Nat) : Int) := by omega
    have e : ∀ G : Nat → Int64, up2 (sR (sR L 299 K) 295 (cpN i (fun j => K (378 * s + j)) G)) 295 i (K (378 * s + i)) = sR (sR L 299 K) 295 (cpN (i + 1) (fun j => K (378 * s + j)) G) := fun G => by
      rw [up2_sR]
      have := cpN_s (f := fun j => K (378 * s + j)) (g := G) (k := i)
      rw [← this]
    have e2 : ∀ G : Nat → Int64, sR (sR L 299 K) 295 G 299 = K := fun G => by
      rw [sR_comm (by omega)]
      funext j
      simp only [sR_at]
    rw [w278_40]
    simp only [w278_0, w278_1, w278_2, w278_5, w278_6, w278_9, w278_12, w278_13, w278_16, w278_17, w278_18, w278_21, w278_22, w278_25, w278_26, w278_29, w278_32, w278_33, w278_34, w278_35, w278_38, w278_39, w278_41, w278_44, w278_47, w278_48, w278_51, w278_52, w278_53, w278_56, w278_59, w278_60, w278_61, w278_62, w278_63, w278_64, w278_65, w278_68, w278_72, w278_75, w278_76, w278_77, w278_78, kn_s, kn_n, zh_mk, zR_mk, zI_mk, zL_mk, zD_mk, wI_mk, wL_mk, wD_mk, zT_mk, zC_mk, kill_i, kill_r, kill_0, kill_n, kill_l, kill_q, zzk_r, zzk_0, zzk_q, zcat_r, zcat_i, zcat_0, cats_0, cats_i, cats_r, cats_l, cats_d, cats_f, rv_s, rv_0, Nat.reduceAdd, Nat.reduceLeDiff, Nat.add_zero, Nat.reduceMul, Nat.reduceSub, ne_eq, not_false_eq_true, not_true_eq_false, and_self, and_true, true_and, or_self, or_true, true_or, or_false, false_or, if_true, if_false, reduceIte, reduceCtorEq, implies_true, ite_self, ite_not, kM, kM1, kM21, kA295, kA299, e2, o_lt (a := (i : Int)) (b := 378) (by omega), g, o_mul, o_add, e1, o_ixn (j := i) (n := 378) (by omega), o_tnn (j := i) (by omega), o_ixn (j := 378 * s + i) (n := 756) (by omega), o_tnn (j := 378 * s + i) (by omega), cast_s, e]
    exact ih (i + 1) (by omega)
theorem p0f : pI False = Int32.ofInt 0 := by unfold pI; rw [if_neg not_false]
theorem p1t : pI True = Int32.ofInt 1 := by unfold pI; rw [if_pos trivial]
theorem c278_n {z : Int} (hz : -2147483648 ≤ z ∧ z < 2147483648) (hc : ¬ (0 ≤ z ∧ z ≤ 1)) : Wp (d + 2) 278 0 [some (.ref 294), some (.int (Int32.ofInt z)), none] [] (mk N t w I L D) Q = Q (.inl (some (.int (Int32.ofInt 0)))) (mk N t w (up2 I 294 0 (Int32.ofInt 1)) L D) := by
  have h198 := fun (d' : Nat) (Q' : Rs → St → Prop) => c198 (d := d') (N := N) (t := t) (w := w) (I := I) (L := L) (D := D) (Q := Q') (p := False) (q := True)
  simp only [p0f, p1t] at h198
  have e : pI (0 ≤ z ∧ z ≤ 1) = Int32.ofInt 0 := by unfold pI; rw [if_neg hc]
  simp only [w278_0, w278_1, w278_2, w278_5, w278_6, w278_9, w278_12, w278_13, w278_16, w278_17, w278_18, w278_21, w278_22, w278_25, w278_26, w278_29, w278_32, w278_33, w278_34, w278_35, w278_38, w278_39, w278_41, w278_44, w278_47, w278_48, w278_51, w278_52, w278_53, w278_56, w278_59, w278_60, w278_61, w278_62, w278_63, w278_64, w278_65, w278_68, w278_71, w278_72, w278_75, w278_76, w278_77, w278_78, kn_s, kn_n, zh_mk, zR_mk, zI_mk, zL_mk, zD_mk, wI_mk, wL_mk, wD_mk, zT_mk, zC_mk, kill_i, kill_r, kill_0, kill_n, kill_l, kill_q, zzk_r, zzk_0, zzk_q, zcat_r, zcat_i, zcat_0, cats_0, cats_i, cats_r, cats_l, cats_d, cats_f, rv_s, rv_0, Nat.reduceAdd, Nat.reduceLeDiff, Nat.add_zero, Nat.reduceMul, Nat.reduceSub, ne_eq, not_false_eq_true, not_true_eq_false, and_self, and_true, true_and, or_self, or_true, true_or, or_false, false_or, if_true, if_false, reduceIte, reduceCtorEq, implies_true, ite_self, ite_not, c277 hz, kM, e, h198, thr, p0f]
theorem c278_e {s : Nat} (hs : s < 2) (hI : I 300 s = Int32.ofInt 0) : Wp (d + 2) 278 0 [some (.ref 294), some (.int (Int32.ofInt (s : Int))), none] [] (mk N t w I L D) Q = Q (.inl (some (.int (Int32.ofInt 0)))) (mk N t w (up2 I 294 0 (Int32.ofInt 2)) L D) := by
  have h198 := fun (d' : Nat) (Q' : Rs → St → Prop) => c198 (d := d') (N := N) (t := t) (w := w) (I := I) (L := L) (D := D) (Q := Q') (p := True) (q := False)
  simp only [p0f, p1t] at h198
  have e : pI (0 ≤ (s : Int) ∧ (s : Int) ≤ 1) = Int32.ofInt 1 := by unfold pI; rw [if_pos (by omega)]
  simp only [w278_0, w278_1, w278_2, w278_5, w278_6, w278_9, w278_12, w278_13, w278_16, w278_17, w278_18, w278_21, w278_22, w278_25, w278_26, w278_29, w278_32, w278_33, w278_34, w278_35, w278_38, w278_39, w278_41, w278_44, w278_47, w278_48, w278_51, w278_52, w278_53, w278_56, w278_59, w278_60, w278_61, w278_62, w278_63, w278_64, w278_65, w278_68, w278_71, w278_72, w278_75, w278_76, w278_77, w278_78, kn_s, kn_n, zh_mk, zR_mk, zI_mk, zL_mk, zD_mk, wI_mk, wL_mk, wD_mk, zT_mk, zC_mk, kill_i, kill_r, kill_0, kill_n, kill_l, kill_q, zzk_r, zzk_0, zzk_q, zcat_r, zcat_i, zcat_0, cats_0, cats_i, cats_r, cats_l, cats_d, cats_f, rv_s, rv_0, Nat.reduceAdd, Nat.reduceLeDiff, Nat.add_zero, Nat.reduceMul, Nat.reduceSub, ne_eq, not_false_eq_true, not_true_eq_false, and_self, and_true, true_and, or_self, or_true, true_or, or_false, false_or, if_true, if_false, reduceIte, reduceCtorEq, implies_true, ite_self, ite_not, c277 (z := (s : Int)) (by omega), kM, kM22, kA300, hI, e, i10, o_ixn (j := s) (n := 2) (by omega), o_tnn (j := s) (by omega), h198, thr, p0f, and_false]
theorem c278_a {F P K : Nat → Int64} {s r : Nat} (hs : s < 2) (hr : r < 6) (hI : I 300 s = Int32.ofInt 1) (hR : I 294 24 = Int32.ofInt (r : Int)) : Wp (d + 2) 278 0 [some (.ref 294), some (.int (Int32.ofInt (s : Int))), none] [] (mk N t w I (sR (sR (sR L 299 K) 301 P) 295 F) D) Q =
    Q (.inl (some (.int (K (378 * s + 3)).toInt32))) (mk N t w (up2 (up2 I 294 0 (Int32.ofInt 0)) 294 24 (Int32.ofInt ((r + 1 : Nat) : Int))) (sR (sR (sR L 301 (blk (378 * r) 378 F P)) 299 K) 295 (cpN 378 (fun j => K (378 * s + j)) F)) D) := by
  have h198 := fun (d' : Nat) (Q' : Rs → St → Prop) => c198 (d := d') (N := N) (t := t) (w := w) (I := I) (L := sR (sR (sR L 299 K) 301 P) 295 F) (D := D) (Q := Q') (p := True) (q := True)
  simp only [p1t] at h198
  have e : pI (0 ≤ (s : Int) ∧ (s : Int) ≤ 1) = Int32.ofInt 1 := by unfold pI; rw [if_pos (by omega)]
  have h188 := fun (d' : Nat) (Q' : Rs → St → Prop) => c188_a (d := d') (N := N) (t := t) (w := w) (I := up2 I 294 0 (Int32.ofInt 0)) (L := sR L 299 K) (D := D) (Q := Q') (F := F) (P := P) hr (by simp only [up2_at, Nat.reduceEqDiff, and_false, reduceIte]; exact hR)
  have l0 := c278_40 (d := d + 1 + 1) (N := N) (t := t) (w := w) (I := up2 (up2 I 294 0 (Int32.ofInt 0)) 294 24 (Int32.ofInt ((r + 1 : Nat) : Int))) (L := sR L 301 (blk (378 * r) 378 F P)) (D := D) (Q := Q) (F := F) (K := K) hs 378 0 (by omega)
  rw [cpN_0] at l0
  simp only [w278_0, w278_1, w278_2, w278_5, w278_6, w278_9, w278_12, w278_13, w278_16, w278_17, w278_18, w278_21, w278_22, w278_25, w278_26, w278_29, w278_32, w278_33, w278_34, w278_35, w278_38, w278_39, w278_41, w278_44, w278_47, w278_48, w278_51, w278_52, w278_53, w278_56, w278_59, w278_60, w278_61, w278_62, w278_63, w278_64, w278_65, w278_68, w278_71, w278_72, w278_75, w278_76, w278_77, w278_78, kn_s, kn_n, zh_mk, zR_mk, zI_mk, zL_mk, zD_mk, wI_mk, wL_mk, wD_mk, zT_mk, zC_mk, kill_i, kill_r, kill_0, kill_n, kill_l, kill_q, zzk_r, zzk_0, zzk_q, zcat_r, zcat_i, zcat_0, cats_0, cats_i, cats_r, cats_l, cats_d, cats_f, rv_s, rv_0, Nat.reduceAdd, Nat.reduceLeDiff, Nat.add_zero, Nat.reduceMul, Nat.reduceSub, ne_eq, not_false_eq_true, not_true_eq_false, and_self, and_true, true_and, or_self, or_true, true_or, or_false, false_or, if_true, if_false, reduceIte, reduceCtorEq, implies_true, ite_self, ite_not, c277 (z := (s : Int)) (by omega), kM, kM22, kA300, hI, e, i10, o_ixn (j := s) (n := 2) (by omega), o_tnn (j := s) (by omega), h198, thr, p1t, h188]
  rw [sR_comm (a := 299) (b := 301) (by omega)]
  refine l0.trans ?_
  simp only [w278_0, w278_1, w278_2, w278_5, w278_6, w278_9, w278_12, w278_13, w278_16, w278_17, w278_18, w278_21, w278_22, w278_25, w278_26, w278_29, w278_32, w278_33, w278_34, w278_35, w278_38, w278_39, w278_41, w278_44, w278_47, w278_48, w278_51, w278_52, w278_53, w278_56, w278_59, w278_60, w278_61, w278_62, w278_63, w278_64, w278_65, w278_68, w278_71, w278_72, w278_75, w278_76, w278_77, w278_78, kn_s, kn_n, zh_mk, zR_mk, zI_mk, zL_mk, zD_mk, wI_mk, wL_mk, wD_mk, zT_mk, zC_mk, kill_i, kill_r, kill_0, kill_n, kill_l, kill_q, zzk_r, zzk_0, zzk_q, zcat_r, zcat_i, zcat_0, cats_0, cats_i, cats_r, cats_l, cats_d, cats_f, rv_s, rv_0, Nat.reduceAdd, Nat.reduceLeDiff, Nat.add_zero, Nat.reduceMul, Nat.reduceSub, ne_eq, not_false_eq_true, not_true_eq_false, and_self, and_true, true_and, or_self, or_true, true_or, or_false, false_or, if_true, if_false, reduceIte, reduceCtorEq, implies_true, ite_self, ite_not, kM, kM1, kA295, sR_at, ixc0, ixc1, ixc2, ixc3, ixc4, ixc5, ixc6, ixc7, ixc8, ixc9, ixc10, ixc11, ixc12, ixc13, ixc14, ixc15, ixc218, ixc219, ixc220, ixc221, tnc0, tnc1, tnc2, tnc3, tnc4, tnc5, tnc6, tnc7, tnc8, tnc9, tnc10, tnc11, tnc12, tnc13, tnc14, tnc15, tnc218, tnc219, tnc220, tnc221]
  rfl
end S53
