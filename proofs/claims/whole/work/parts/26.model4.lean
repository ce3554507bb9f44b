/-! CONTRACTS of the reference: what is bounced at; hits -/
theorem P3_s {i a b : Nat} : (P3 i a = P3 i b) = (a = b) := by
  unfold P3
  apply propext
  omega
theorem P3_B {p a i k : Nat} (h : p < 4 ∧ a < 3) : (P3 p a = B9 i k) = False := by
  unfold P3 B9
  simp only [eq_iff_iff, iff_false]
  omega
theorem B_P3 {p a i k : Nat} (h : p < 4 ∧ a < 3) : (B9 i k = P3 p a) = False := by
  unfold P3 B9
  simp only [eq_iff_iff, iff_false]
  omega
theorem P3_l {p a z : Nat} (h : z < 16) : (z = P3 p a) = False := by
  unfold P3
  simp only [eq_iff_iff, iff_false]
  omega
/-- where the hits of a pair are counted -/
def HH (a b : Nat) : Nat := 118 + 10 * a + b
theorem HH_B {a b i k : Nat} (h : i < 10 ∧ k < 9) : (HH a b = B9 i k) = False := by
  unfold HH B9
  simp only [eq_iff_iff, iff_false]
  omega
theorem B_HH {a b i k : Nat} (h : i < 10 ∧ k < 9) : (B9 i k = HH a b) = False := by
  unfold HH B9
  simp only [eq_iff_iff, iff_false]
  omega
theorem HH_l {a b z : Nat} (h : z < 118) : (HH a b = z) = False := by
  unfold HH
  simp only [eq_iff_iff, iff_false]
  omega
theorem HH_r {a b z : Nat} (h : z < 118) : (z = HH a b) = False := by
  unfold HH
  simp only [eq_iff_iff, iff_false]
  omega
theorem HH_n {a b i j : Nat} (h : a < 10 ∧ b < 10 ∧ i < 10 ∧ j < 10 ∧ (a ≠ i ∨ b ≠ j)) : (HH a b = HH i j) = False := by
  unfold HH
  simp only [eq_iff_iff, iff_false]
  omega
theorem up1_5_4 (f : Nat → Int32) {x y : Int32} : up1 (up1 f 4 x) 5 y 4 = x := rfl
theorem up1_5_5 (f : Nat → Int32) {x y : Int32} : up1 (up1 f 4 x) 5 y 5 = y := rfl
/-- the row behind a bounce at what stands at c -/
def btA (α : Nat → Int) (m i : Nat) (c : Int) : Nat → Int :=
  if pAt α m c = -1 then (if c < 0 then boA (up1 α 10 (α 10 + 1)) i (α 8) else boA (up1 α 11 (α 11 + 1)) i (α 9))
  else boA (up1 α (P3 (pAt α m c).toNat 2) (α (P3 (pAt α m c).toNat 2) + 1)) i (α (P3 (pAt α m c).toNat 1))
section S26
variable {d N t w n m : Nat} {I : Nat → Nat → Int32} {L : Nat → Nat → Int64} {D : Nat → Nat → UInt64} {Q : Rs → St → Prop} {α : Nat → Int} {f : Nat → Int32}
theorem c242 (hw : RW w) (hP : GP α m) (h0 : 10 ≤ α 0 ∧ α 0 ≤ 200) {i : Nat} (hi : i < 10) {c : Int} (hc : -2147483648 ≤ c ∧ c < 2147483648) (hs : -60 ≤ α (B9 i 1) ∧ α (B9 i 1) ≤ 60) (hg : 1 ≤ α (B9 i 2) ∧ α (B9 i 2) ≤ 20) (h8 : 0 ≤ α 8 ∧ α 8 ≤ 100) (h9 : 0 ≤ α 9 ∧ α 9 ≤ 100) (h4 : 0 ≤ α 4 ∧ α 4 ≤ 40) : Wp (d + 3) 242 0 [some (.ref 294), some (.int (Int32.ofInt (i : Int))), some (.int (Int32.ofInt c)), none, none] [] (mk N t w I (sR L w (r64 α)) D) Q = Q (.inl none) (mk N t w I (sR L w (r64 (btA α m i c))) D) := by
  have hp := pAt_rng (α := α) (c := c) hP.1
  simp only [w242_0, w242_1, w242_2, w242_5, w242_6, w242_7, w242_8, w242_11, w242_12, w242_15, w242_17, w242_18, w242_19, w242_20, w242_21, w242_22, w242_23, w242_24, w242_25, w242_26, w242_27, w242_28, w242_29, w242_30, w242_31, w242_32, w242_33, w242_36, w242_39, w242_42, w242_43, w242_46, w242_47, w242_50, w242_51, w242_53, w242_54, w242_57, w242_59, w242_61, w242_62, w242_63, w242_64, w242_65, w242_66, w242_67, w242_68, w242_69, w242_70, w242_73, w242_75, w242_77, w242_78, w242_79, w242_80, w242_83, kn_s, kn_n, zh_mk, zR_mk, zI_mk, zL_mk, zD_mk, wI_mk, wL_mk, wD_mk, zT_mk, zC_mk, kill_i, kill_r, kill_0, kill_n, kill_l, kill_q, zzk_r, zzk_0, zzk_q, zcat_r, zcat_i, zcat_0, cats_0, cats_i, cats_r, cats_l, cats_d, cats_f, rv_s, rv_0, Nat.reduceAdd, Nat.reduceLeDiff, Nat.add_zero, Nat.reduceMul, Nat.reduceSub, ne_eq, not_false_eq_true, not_true_eq_false, and_self, and_true, true_and, or_self, or_true, true_or, or_false, false_or, if_true, if_false, reduceIte, reduceCtorEq, implies_true, ite_self, ite_not, kM, kMr, kRow hw, sR_at, up2_r64, r64_at, o_add, o_sub, o_mul, o_neg, q_add, q_sub, q_mul, q_neg, o_32, cast_s, Int.toNat_natCast, c178 hw hP h0 hc, o_eq (a := pAt α m c) (b := -1) (by omega), o_lt (a := c) (b := 0) (by omega)]
  unfold btA
  rcases pFind_spec (f := fun p => α (P3 p 0)) (c := c) m 0 with ⟨g1, -⟩ | ⟨j, g1, -, g3, -⟩
  · have g1 : pAt α m c = -1 := g1
    by_cases hx : c < 0
    · simp only [g1, hx, if_true, w242_0, w242_1, w242_2, w242_5, w242_6, w242_7, w242_8, w242_11, w242_12, w242_15, w242_17, w242_18, w242_19, w242_20, w242_21, w242_22, w242_23, w242_24, w242_25, w242_26, w242_27, w242_28, w242_29, w242_30, w242_31, w242_32, w242_33, w242_36, w242_39, w242_42, w242_43, w242_46, w242_47, w242_50, w242_51, w242_53, w242_54, w242_57, w242_59, w242_61, w242_62, w242_63, w242_64, w242_65, w242_66, w242_67, w242_68, w242_69, w242_70, w242_73, w242_75, w242_77, w242_78, w242_79, w242_80, w242_83, kn_s, kn_n, zh_mk, zR_mk, zI_mk, zL_mk, zD_mk, wI_mk, wL_mk, wD_mk, zT_mk, zC_mk, kill_i, kill_r, kill_0, kill_n, kill_l, kill_q, zzk_r, zzk_0, zzk_q, zcat_r, zcat_i, zcat_0, cats_0, cats_i, cats_r, cats_l, cats_d, cats_f, rv_s, rv_0, Nat.reduceAdd, Nat.reduceLeDiff, Nat.add_zero, Nat.reduceMul, Nat.reduceSub, ne_eq, not_false_eq_true, not_true_eq_false, and_self, and_true, true_and, or_self, or_true, true_or, or_false, false_or, if_true, if_false, reduceIte, reduceCtorEq, implies_true, ite_self, ite_not, kM, kMr, kRow hw, sR_at, up2_r64, r64_at, o_add, o_sub, o_mul, o_neg, q_add, q_sub, q_mul, q_neg, o_32, cast_s, Int.toNat_natCast, ixc0, ixc1, ixc2, ixc3, ixc4, ixc5, ixc6, ixc7, ixc8, ixc9, ixc10, ixc11, ixc12, ixc13, ixc14, ixc15, ixc218, ixc219, ixc220, ixc221, tnc0, tnc1, tnc2, tnc3, tnc4, tnc5, tnc6, tnc7, tnc8, tnc9, tnc10, tnc11, tnc12, tnc13, tnc14, tnc15, tnc218, tnc219, tnc220, tnc221, up2_at, up1_at, Nat.reduceEqDiff, and_false, false_and, Int.reduceAdd, B9_s, B9_l (show 0 < 28 by omega), B9_l (show 1 < 28 by omega), B9_l (show 3 < 28 by omega), B9_l (show 4 < 28 by omega), B9_l (show 5 < 28 by omega), B9_l (show 6 < 28 by omega), B9_l (show 12 < 28 by omega), B9_l (show 13 < 28 by omega), B9_l (show 14 < 28 by omega), B9_l (show 15 < 28 by omega), B9_r (show 3 < 28 by omega), B9_r (show 4 < 28 by omega), B9_r (show 5 < 28 by omega), B9_r (show 6 < 28 by omega), B9_r (show 12 < 28 by omega), B9_r (show 13 < 28 by omega), B9_r (show 14 < 28 by omega), B9_r (show 15 < 28 by omega)]
      rw [c243 hw hi (by simp only [up2_at, up1_at, Nat.reduceEqDiff, and_false, false_and, B9_s, B9_l (show 0 < 28 by omega), B9_l (show 1 < 28 by omega), B9_l (show 3 < 28 by omega), B9_l (show 4 < 28 by omega), B9_l (show 5 < 28 by omega), B9_l (show 6 < 28 by omega), B9_l (show 12 < 28 by omega), B9_l (show 13 < 28 by omega), B9_l (show 14 < 28 by omega), B9_l (show 15 < 28 by omega), B9_r (show 3 < 28 by omega), B9_r (show 4 < 28 by omega), B9_r (show 5 < 28 by omega), B9_r (show 6 < 28 by omega), B9_r (show 12 < 28 by omega), B9_r (show 13 < 28 by omega), B9_r (show 14 < 28 by omega), B9_r (show 15 < 28 by omega), B9_l (show 10 < 28 by omega), kn_s, kn_n, zh_mk, zR_mk, zI_mk, zL_mk, zD_mk, wI_mk, wL_mk, wD_mk, zT_mk, zC_mk, kill_i, kill_r, kill_0, kill_n, kill_l, kill_q, zzk_r, zzk_0, zzk_q, zcat_r, zcat_i, zcat_0, cats_0, cats_i, cats_r, cats_l, cats_d, cats_f, rv_s, rv_0, Nat.reduceAdd, Nat.reduceLeDiff, Nat.add_zero, Nat.reduceMul, Nat.reduceSub, ne_eq, not_false_eq_true, not_true_eq_false, and_self, and_true, true_and, or_self, or_true, true_or, or_false, false_or, if_true, if_false, reduceIte, reduceCtorEq, implies_true, ite_self, ite_not]; exact hs) (by simp only [up2_at, up1_at, Nat.reduceEqDiff, and_false, false_and, B9_l (show 10 < 28 by omega), kn_s, kn_n, zh_mk, zR_mk, zI_mk, zL_mk, zD_mk, wI_mk, wL_mk, wD_mk, zT_mk, zC_mk, kill_i, kill_r, kill_0, kill_n, kill_l, kill_q, zzk_r, zzk_0, zzk_q, zcat_r, zcat_i, zcat_0, cats_0, cats_i, cats_r, cats_l, cats_d, cats_f, rv_s, rv_0, Nat.reduceAdd, Nat.reduceLeDiff, Nat.add_zero, Nat.reduceMul, Nat.reduceSub, ne_eq, not_false_eq_true, not_true_eq_false, and_self, and_true, true_and, or_self, or_true, true_or, or_false, false_or, if_true, if_false, reduceIte, reduceCtorEq, implies_true, ite_self, ite_not]; exact hg) h8 (by simp only [up2_at, up1_at, Nat.reduceEqDiff, and_false, false_and, kn_s, kn_n, zh_mk, zR_mk, zI_mk, zL_mk, zD_mk, wI_mk, wL_mk, wD_mk, zT_mk, zC_mk, kill_i, kill_r, kill_0, kill_n, kill_l, kill_q, zzk_r, zzk_0, zzk_q, zcat_r, zcat_i, zcat_0, cats_0, cats_i, cats_r, cats_l, cats_d, cats_f, rv_s, rv_0, Nat.reduceAdd, Nat.reduceLeDiff, Nat.add_zero, Nat.reduceMul, Nat.reduceSub, ne_eq, not_false_eq_true, not_true_eq_false, and_self, and_true, true_and, or_self, or_true, true_or, or_false, false_or, if_true, if_false, reduceIte, reduceCtorEq, implies_true, ite_self, ite_not]; exact h4)]
      simp only [w242_0, w242_1, w242_2, w242_5, w242_6, w242_7, w242_8, w242_11, w242_12, w242_15, w242_17, w242_18, w242_19, w242_20, w242_21, w242_22, w242_23, w242_24, w242_25, w242_26, w242_27, w242_28, w242_29, w242_30, w242_31, w242_32, w242_33, w242_36, w242_39, w242_42, w242_43, w242_46, w242_47, w242_50, w242_51, w242_53, w242_54, w242_57, w242_59, w242_61, w242_62, w242_63, w242_64, w242_65, w242_66, w242_67, w242_68, w242_69, w242_70, w242_73, w242_75, w242_77, w242_78, w242_79, w242_80, w242_83, kn_s, kn_n, zh_mk, zR_mk, zI_mk, zL_mk, zD_mk, wI_mk, wL_mk, wD_mk, zT_mk, zC_mk, kill_i, kill_r, kill_0, kill_n, kill_l, kill_q, zzk_r, zzk_0, zzk_q, zcat_r, zcat_i, zcat_0, cats_0, cats_i, cats_r, cats_l, cats_d, cats_f, rv_s, rv_0, Nat.reduceAdd, Nat.reduceLeDiff, Nat.add_zero, Nat.reduceMul, Nat.reduceSub, ne_eq, not_false_eq_true, not_true_eq_false, and_self, and_true, true_and, or_self, or_true, true_or, or_false, false_or, if_true, if_false, reduceIte, reduceCtorEq, implies_true, ite_self, ite_not]
    · simp only [g1, hx, if_true, if_false, w242_0, w242_1, w242_2, w242_5, w242_6, w242_7, w242_8, w242_11, w242_12, w242_15, w242_17, w242_18, w242_19, w242_20, w242_21, w242_22, w242_23, w242_24, w242_25, w242_26, w242_27, w242_28, w242_29, w242_30, w242_31, w242_32, w242_33, w242_36, w242_39, w242_42, w242_43, w242_46, w242_47, w242_50, w242_51, w242_53, w242_54, w242_57, w242_59, w242_61, w242_62, w242_63, w242_64, w242_65, w242_66, w242_67, w242_68, w242_69, w242_70, w242_73, w242_75, w242_77, w242_78, w242_79, w242_80, w242_83, kn_s, kn_n, zh_mk, zR_mk, zI_mk, zL_mk, zD_mk, wI_mk, wL_mk, wD_mk, zT_mk, zC_mk, kill_i, kill_r, kill_0, kill_n, kill_l, kill_q, zzk_r, zzk_0, zzk_q, zcat_r, zcat_i, zcat_0, cats_0, cats_i, cats_r, cats_l, cats_d, cats_f, rv_s, rv_0, Nat.reduceAdd, Nat.reduceLeDiff, Nat.add_zero, Nat.reduceMul, Nat.reduceSub, ne_eq, not_false_eq_true, not_true_eq_false, and_self, and_true, true_and, or_self, or_true, true_or, or_false, false_or, if_true, if_false, reduceIte, reduceCtorEq, implies_true, ite_self, ite_not, kM, kMr, kRow hw, sR_at, up2_r64, r64_at, o_add, o_sub, o_mul, o_neg, q_add, q_sub, q_mul, q_neg, o_32, cast_s, Int.toNat_natCast, ixc0, ixc1, ixc2, ixc3, ixc4, ixc5, ixc6, ixc7, ixc8, ixc9, ixc10, ixc11, ixc12, ixc13, ixc14, ixc15, ixc218, ixc219, ixc220, ixc221, tnc0, tnc1, tnc2, tnc3, tnc4, tnc5, tnc6, tnc7, tnc8, tnc9, tnc10, tnc11, tnc12, tnc13, tnc14, tnc15, tnc218, tnc219, tnc220, tnc221, up2_at, up1_at, Nat.reduceEqDiff, and_false, false_and, Int.reduceAdd, B9_s, B9_l (show 0 < 28 by omega), B9_l (show 1 < 28 by omega), B9_l (show 3 < 28 by omega), B9_l (show 4 < 28 by omega), B9_l (show 5 < 28 by omega), B9_l (show 6 < 28 by omega), B9_l (show 12 < 28 by omega), B9_l (show 13 < 28 by omega), B9_l (show 14 < 28 by omega), B9_l (show 15 < 28 by omega), B9_r (show 3 < 28 by omega), B9_r (show 4 < 28 by omega), B9_r (show 5 < 28 by omega), B9_r (show 6 < 28 by omega), B9_r (show 12 < 28 by omega), B9_r (show 13 < 28 by omega), B9_r (show 14 < 28 by omega), B9_r (show 15 < 28 by omega)]
      rw [c243 hw hi (by simp only [up2_at, up1_at, Nat.reduceEqDiff, and_false, false_and, B9_l (show 11 < 28 by omega), kn_s, kn_n, zh_mk, zR_mk, zI_mk, zL_mk, zD_mk, wI_mk, wL_mk, wD_mk, zT_mk, zC_mk, kill_i, kill_r, kill_0, kill_n, kill_l, kill_q, zzk_r, zzk_0, zzk_q, zcat_r, zcat_i, zcat_0, cats_0, cats_i, cats_r, cats_l, cats_d, cats_f, rv_s, rv_0, Nat.reduceAdd, Nat.reduceLeDiff, Nat.add_zero, Nat.reduceMul, Nat.reduceSub, ne_eq, not_false_eq_true, not_true_eq_false, and_self, and_true, true_and, or_self, or_true, true_or, or_false, false_or, if_true, if_false, reduceIte, reduceCtorEq, implies_true, ite_self, ite_not]; exact hs) (by simp only [up2_at, up1_at, Nat.reduceEqDiff, and_false, false_and, B9_l (show 11 < 28 by omega), kn_s, kn_n, zh_mk, zR_mk, zI_mk, zL_mk, zD_mk, wI_mk, wL_mk, wD_mk, zT_mk, zC_mk, kill_i, kill_r, kill_0, kill_n, kill_l, kill_q, zzk_r, zzk_0, zzk_q, zcat_r, zcat_i, zcat_0, cats_0, cats_i, cats_r, cats_l, cats_d, cats_f, rv_s, rv_0, Nat.reduceAdd, Nat.reduceLeDiff, Nat.add_zero, Nat.reduceMul, Nat.reduceSub, ne_eq, not_false_eq_true, not_true_eq_false, and_self, and_true, true_and, or_self, or_true, true_or, or_false, false_or, if_true, if_false, reduceIte, reduceCtorEq, implies_true, ite_self, ite_not]; exact hg) h9 (by simp only [up2_at, up1_at, Nat.reduceEqDiff, and_false, false_and, kn_s, kn_n, zh_mk, zR_mk, zI_mk, zL_mk, zD_mk, wI_mk, wL_mk, wD_mk, zT_mk, zC_mk, kill_i, kill_r, kill_0, kill_n, kill_l, kill_q, zzk_r, zzk_0, zzk_q, zcat_r, zcat_i, zcat_0, cats_0, cats_i, cats_r, cats_l, cats_d, cats_f, rv_s, rv_0, Nat.reduceAdd, Nat.reduceLeDiff, Nat.add_zero, Nat.reduceMul, Nat.reduceSub, ne_eq, not_false_eq_true, not_true_eq_false, and_self, and_true, true_and, or_self, or_true, true_or, or_false, false_or, if_true, if_false, reduceIte, reduceCtorEq, implies_true, ite_self, ite_not]; exact h4)]
      simp only [w242_0, w242_1, w242_2, w242_5, w242_6, w242_7, w242_8, w242_11, w242_12, w242_15, w242_17, w242_18, w242_19, w242_20, w242_21, w242_22, w242_23, w242_24, w242_25, w242_26, w242_27, w242_28, w242_29, w242_30, w242_31, w242_32, w242_33, w242_36, w242_39, w242_42, w242_43, w242_46, w242_47, w242_50, w242_51, w242_53, w242_54, w242_57, w242_59, w242_61, w242_62, w242_63, w242_64, w242_65, w242_66, w242_67, w242_68, w242_69, w242_70, w242_73, w242_75, w242_77, w242_78, w242_79, w242_80, w242_83, kn_s, kn_n, zh_mk, zR_mk, zI_mk, zL_mk, zD_mk, wI_mk, wL_mk, wD_mk, zT_mk, zC_mk, kill_i, kill_r, kill_0, kill_n, kill_l, kill_q, zzk_r, zzk_0, zzk_q, zcat_r, zcat_i, zcat_0, cats_0, cats_i, cats_r, cats_l, cats_d, cats_f, rv_s, rv_0, Nat.reduceAdd, Nat.reduceLeDiff, Nat.add_zero, Nat.reduceMul, Nat.reduceSub, ne_eq, not_false_eq_true, not_true_eq_false, and_self, and_true, true_and, or_self, or_true, true_or, or_false, false_or, if_true, if_false, reduceIte, reduceCtorEq, implies_true, ite_self, ite_not]
  · have g1 : pAt α m c = (j : Int) := g1
    have hm := hP.1
    have hj : j < 4 := by omega
    have g2 : ¬ ((j : Int) = -1) := by omega
    have e : (16 + 3 * (j : Int) + 2).toNat = P3 j 2 := by unfold P3; omega
    have hst := (hP.2.2 j (by omega)).2
    simp only [g1, g2, if_false, w242_0, w242_1, w242_2, w242_5, w242_6, w242_7, w242_8, w242_11, w242_12, w242_15, w242_17, w242_18, w242_19, w242_20, w242_21, w242_22, w242_23, w242_24, w242_25, w242_26, w242_27, w242_28, w242_29, w242_30, w242_31, w242_32, w242_33, w242_36, w242_39, w242_42, w242_43, w242_46, w242_47, w242_50, w242_51, w242_53, w242_54, w242_57, w242_59, w242_61, w242_62, w242_63, w242_64, w242_65, w242_66, w242_67, w242_68, w242_69, w242_70, w242_73, w242_75, w242_77, w242_78, w242_79, w242_80, w242_83, kn_s, kn_n, zh_mk, zR_mk, zI_mk, zL_mk, zD_mk, wI_mk, wL_mk, wD_mk, zT_mk, zC_mk, kill_i, kill_r, kill_0, kill_n, kill_l, kill_q, zzk_r, zzk_0, zzk_q, zcat_r, zcat_i, zcat_0, cats_0, cats_i, cats_r, cats_l, cats_d, cats_f, rv_s, rv_0, Nat.reduceAdd, Nat.reduceLeDiff, Nat.add_zero, Nat.reduceMul, Nat.reduceSub, ne_eq, not_false_eq_true, not_true_eq_false, and_self, and_true, true_and, or_self, or_true, true_or, or_false, false_or, if_true, if_false, reduceIte, reduceCtorEq, implies_true, ite_self, ite_not, kM, kMr, kRow hw, sR_at, up2_r64, r64_at, o_add, o_sub, o_mul, o_neg, q_add, q_sub, q_mul, q_neg, o_32, cast_s, Int.toNat_natCast, up2_at, up1_at, Nat.reduceEqDiff, and_false, false_and, o_ix (z := 16 + 3 * (j : Int) + 2) (n := 378) (by omega), o_tn (z := 16 + 3 * (j : Int) + 2) (by omega), e, c179_1 hw hj, P3_s, show ((1 : Nat) = 2) = False by simp]
    rw [c243 hw hi (by simp only [up2_at, up1_at, Nat.reduceEqDiff, and_false, false_and, B_P3 (show j < 4 ∧ 2 < 3 by omega), kn_s, kn_n, zh_mk, zR_mk, zI_mk, zL_mk, zD_mk, wI_mk, wL_mk, wD_mk, zT_mk, zC_mk, kill_i, kill_r, kill_0, kill_n, kill_l, kill_q, zzk_r, zzk_0, zzk_q, zcat_r, zcat_i, zcat_0, cats_0, cats_i, cats_r, cats_l, cats_d, cats_f, rv_s, rv_0, Nat.reduceAdd, Nat.reduceLeDiff, Nat.add_zero, Nat.reduceMul, Nat.reduceSub, ne_eq, not_false_eq_true, not_true_eq_false, and_self, and_true, true_and, or_self, or_true, true_or, or_false, false_or, if_true, if_false, reduceIte, reduceCtorEq, implies_true, ite_self, ite_not]; exact hs) (by simp only [up2_at, up1_at, Nat.reduceEqDiff, and_false, false_and, B_P3 (show j < 4 ∧ 2 < 3 by omega), kn_s, kn_n, zh_mk, zR_mk, zI_mk, zL_mk, zD_mk, wI_mk, wL_mk, wD_mk, zT_mk, zC_mk, kill_i, kill_r, kill_0, kill_n, kill_l, kill_q, zzk_r, zzk_0, zzk_q, zcat_r, zcat_i, zcat_0, cats_0, cats_i, cats_r, cats_l, cats_d, cats_f, rv_s, rv_0, Nat.reduceAdd, Nat.reduceLeDiff, Nat.add_zero, Nat.reduceMul, Nat.reduceSub, ne_eq, not_false_eq_true, not_true_eq_false, and_self, and_true, true_and, or_self, or_true, true_or, or_false, false_or, if_true, if_false, reduceIte, reduceCtorEq, implies_true, ite_self, ite_not]; exact hg) hst (by simp only [up2_at, up1_at, Nat.reduceEqDiff, and_false, false_and, P3_l (show 4 < 16 by omega), kn_s, kn_n, zh_mk, zR_mk, zI_mk, zL_mk, zD_mk, wI_mk, wL_mk, wD_mk, zT_mk, zC_mk, kill_i, kill_r, kill_0, kill_n, kill_l, kill_q, zzk_r, zzk_0, zzk_q, zcat_r, zcat_i, zcat_0, cats_0, cats_i, cats_r, cats_l, cats_d, cats_f, rv_s, rv_0, Nat.reduceAdd, Nat.reduceLeDiff, Nat.add_zero, Nat.reduceMul, Nat.reduceSub, ne_eq, not_false_eq_true, not_true_eq_false, and_self, and_true, true_and, or_self, or_true, true_or, or_false, false_or, if_true, if_false, reduceIte, reduceCtorEq, implies_true, ite_self, ite_not]; exact h4)]
    simp only [w242_0, w242_1, w242_2, w242_5, w242_6, w242_7, w242_8, w242_11, w242_12, w242_15, w242_17, w242_18, w242_19, w242_20, w242_21, w242_22, w242_23, w242_24, w242_25, w242_26, w242_27, w242_28, w242_29, w242_30, w242_31, w242_32, w242_33, w242_36, w242_39, w242_42, w242_43, w242_46, w242_47, w242_50, w242_51, w242_53, w242_54, w242_57, w242_59, w242_61, w242_62, w242_63, w242_64, w242_65, w242_66, w242_67, w242_68, w242_69, w242_70, w242_73, w242_75, w242_77, w242_78, w242_79, w242_80, w242_83, kn_s, kn_n, zh_mk, zR_mk, zI_mk, zL_mk, zD_mk, wI_mk, wL_mk, wD_mk, zT_mk, zC_mk, kill_i, kill_r, kill_0, kill_n, kill_l, kill_q, zzk_r, zzk_0, zzk_q, zcat_r, zcat_i, zcat_0, cats_0, cats_i, cats_r, cats_l, cats_d, cats_f, rv_s, rv_0, Nat.reduceAdd, Nat.reduceLeDiff, Nat.add_zero, Nat.reduceMul, Nat.reduceSub, ne_eq, not_false_eq_true, not_true_eq_false, and_self, and_true, true_and, or_self, or_true, true_or, or_false, false_or, if_true, if_false, reduceIte, reduceCtorEq, implies_true, ite_self, ite_not]
theorem c224 {σ : St} : ∀ (b a D : Nat) (Q : Rs → St → Prop), a ≤ 1000 → b ≤ 1000 → b ≤ D → Wp D 224 0 [some (.int (Int32.ofInt (a : Int))), some (.int (Int32.ofInt (b : Int)))] [] σ Q = Q (.inl (some (.int (Int32.ofInt ((Nat.gcd a b : Nat) : Int))))) σ := by
  intro b
  induction b using Nat.strongRecOn with
  | ind b ih =>
    intro a D Q ha hb hD
    by_cases hz : b = 0
    · subst hz
      simp only [w224_0, w224_1, w224_4, w224_5, w224_8, w224_9, w224_10, w224_11, w224_12, w224_15, kn_s, kn_n, zh_mk, zR_mk, zI_mk, zL_mk, zD_mk, wI_mk, wL_mk, wD_mk, zT_mk, zC_mk, kill_i, kill_r, kill_0, kill_n, kill_l, kill_q, zzk_r, zzk_0, zzk_q, zcat_r, zcat_i, zcat_0, cats_0, cats_i, cats_r, cats_l, cats_d, cats_f, rv_s, rv_0, Nat.reduceAdd, Nat.reduceLeDiff, Nat.add_zero, Nat.reduceMul, Nat.reduceSub, ne_eq, not_false_eq_true, not_true_eq_false, and_self, and_true, true_and, or_self, or_true, true_or, or_false, false_or, if_true, if_false, reduceIte, reduceCtorEq, implies_true, ite_self, ite_not, o_eq (a := ((0 : Nat) : Int)) (b := 0) (by omega), Int.natCast_zero, Nat.gcd_zero_right]
    · obtain ⟨D, rfl⟩ : ∃ E, D = E + 1 := ⟨D - 1, by omega⟩
      have g : ¬ ((b : Int) = 0) := by omega
      have hlt : a % b < b := Nat.mod_lt _ (by omega)
      have e : (a : Int) - ((a : Int).tdiv (b : Int)) * (b : Int) = ((a % b : Nat) : Int) := by
        rw [Int.tdiv_eq_ediv_of_nonneg (by omega), Int.natCast_emod, Int.emod_def, Int.mul_comm]
      have e2 : Nat.gcd a b = Nat.gcd b (a % b) := by
        rw [Nat.gcd_comm a b, Nat.gcd_rec b a, Nat.gcd_comm]
      rw [w224_0, e2]
      simp only [w224_1, w224_4, w224_5, w224_8, w224_9, w224_10, w224_11, w224_12, w224_15, kn_s, kn_n, zh_mk, zR_mk, zI_mk, zL_mk, zD_mk, wI_mk, wL_mk, wD_mk, zT_mk, zC_mk, kill_i, kill_r, kill_0, kill_n, kill_l, kill_q, zzk_r, zzk_0, zzk_q, zcat_r, zcat_i, zcat_0, cats_0, cats_i, cats_r, cats_l, cats_d, cats_f, rv_s, rv_0, Nat.reduceAdd, Nat.reduceLeDiff, Nat.add_zero, Nat.reduceMul, Nat.reduceSub, ne_eq, not_false_eq_true, not_true_eq_false, and_self, and_true, true_and, or_self, or_true, true_or, or_false, false_or, if_true, if_false, reduceIte, reduceCtorEq, implies_true, ite_self, ite_not, o_add, o_sub, o_mul, o_neg, q_add, q_sub, q_mul, q_neg, o_32, cast_s, o_eq (a := (b : Int)) (b := 0) (by omega), g, o_div (a := (a : Int)) (b := (b : Int)) (by omega), e, ih (a % b) hlt b D _ (by omega) (by omega) (by omega)]
/-- the parts of a hit: the other's weight by the common divisor -/
def gW (a b : Int) : Int := ((Nat.gcd a.toNat b.toNat : Nat) : Int)
def paA (a b : Int) : Int := b / gW a b
def paC (a b : Nat) : Bool := decide (1 ≤ Nat.gcd a b) && decide (Nat.gcd a b ≤ 20) && decide (1 ≤ b / Nat.gcd a b) && decide (b / Nat.gcd a b ≤ 20) && decide (1 ≤ a / Nat.gcd a b) && decide (a / Nat.gcd a b ≤ 20)
theorem paD : ∀ a, a < 20 → ∀ b, b < 20 → paC (a + 1) (b + 1) = true := by decide +kernel
theorem paN (a : Nat) (ha : a < 21) (b : Nat) (hb : b < 21) (h1 : 1 ≤ a) (h2 : 1 ≤ b) : 1 ≤ Nat.gcd a b ∧ Nat.gcd a b ≤ 20 ∧ 1 ≤ b / Nat.gcd a b ∧ b / Nat.gcd a b ≤ 20 ∧ 1 ≤ a / Nat.gcd a b ∧ a / Nat.gcd a b ≤ 20 := by
  have h := paD (a - 1) (by omega) (b - 1) (by omega)
  rw [Nat.sub_add_cancel h1, Nat.sub_add_cancel h2] at h
  simp only [paC, Bool.and_eq_true, decide_eq_true_eq] at h
  omega
theorem pa_b {a b : Int} (ha : 1 ≤ a ∧ a ≤ 20) (hb : 1 ≤ b ∧ b ≤ 20) : (1 ≤ gW a b ∧ gW a b ≤ 20) ∧ (1 ≤ paA a b ∧ paA a b ≤ 20) ∧ (1 ≤ paA b a ∧ paA b a ≤ 20) ∧ a / gW a b = paA b a := by
  obtain ⟨x, rfl⟩ : ∃ x : Nat, a = x := ⟨a.toNat, by omega⟩
  obtain ⟨y, rfl⟩ : ∃ y : Nat, b = y := ⟨b.toNat, by omega⟩
  have h := paN x (by omega) y (by omega) (by omega) (by omega)
  unfold paA gW
  rw [Int.toNat_natCast, Int.toNat_natCast, Nat.gcd_comm y x, ← Int.natCast_ediv, ← Int.natCast_ediv]
  omega
/-- the k of a hit: as long as a bound is passed it is less by 1 -/
def kD (sl sr pl pr : Int) : Nat → Int
  | 0 => 0
  | k + 1 => if sl - ((k + 1 : Nat) : Int) * pl < -60 ∨ 60 < sr + ((k + 1 : Nat) : Int) * pr then kD sl sr pl pr k else ((k + 1 : Nat) : Int)
theorem kD_s {sl sr pl pr : Int} {k : Nat} : kD sl sr pl pr (k + 1) = if sl - ((k + 1 : Nat) : Int) * pl < -60 ∨ 60 < sr + ((k + 1 : Nat) : Int) * pr then kD sl sr pl pr k else ((k + 1 : Nat) : Int) := nr rfl
theorem kD_ok {sl sr pl pr : Int} (hl : -60 ≤ sl ∧ sl ≤ 60) (hr : -60 ≤ sr ∧ sr ≤ 60) (h1 : 1 ≤ pl) (h2 : 1 ≤ pr) : ∀ k : Nat, 0 ≤ kD sl sr pl pr k ∧ kD sl sr pl pr k ≤ k ∧ (-60 ≤ sl - kD sl sr pl pr k * pl ∧ sl - kD sl sr pl pr k * pl ≤ 60) ∧ (-60 ≤ sr + kD sl sr pl pr k * pr ∧ sr + kD sl sr pl pr k * pr ≤ 60)
  | 0 => by
    show 0 ≤ (0 : Int) ∧ (0 : Int) ≤ ((0 : Nat) : Int) ∧ (-60 ≤ sl - 0 * pl ∧ sl - 0 * pl ≤ 60) ∧ (-60 ≤ sr + 0 * pr ∧ sr + 0 * pr ≤ 60)
    rw [Int.zero_mul, Int.zero_mul]
    omega
  | k + 1 => by
    rw [kD_s]
    by_cases h : sl - ((k + 1 : Nat) : Int) * pl < -60 ∨ 60 < sr + ((k + 1 : Nat) : Int) * pr
    · rw [if_pos h]
      have := kD_ok hl hr h1 h2 k
      omega
    · rw [if_neg h]
      have a1 : 0 ≤ ((k + 1 : Nat) : Int) * pl := Int.mul_nonneg (by omega) (by omega)
      have a2 : 0 ≤ ((k + 1 : Nat) : Int) * pr := Int.mul_nonneg (by omega) (by omega)
      omega
/-- from where it is counted down -/
def kS (sl sr pl pr : Int) : Nat := (if 1 < 2 * (sl - sr) / (pl + pr) then 2 * (sl - sr) / (pl + pr) else 1).toNat
def kA (sl sr wl wr : Int) : Int := kD sl sr (paA wl wr) (paA wr wl) (kS sl sr (paA wl wr) (paA wr wl))
theorem kS_b {sl sr pl pr : Int} (hl : -60 ≤ sl ∧ sl ≤ 60) (hr : -60 ≤ sr ∧ sr ≤ 60) (hlt : sr < sl) (h1 : 1 ≤ pl) (h2 : 1 ≤ pr) : 1 ≤ kS sl sr pl pr ∧ kS sl sr pl pr ≤ 240 ∧ 0 ≤ 2 * (sl - sr) / (pl + pr) ∧ 2 * (sl - sr) / (pl + pr) ≤ 240 := by
  have a1 : 0 ≤ 2 * (sl - sr) / (pl + pr) := Int.ediv_nonneg (by omega) (by omega)
  have a2 : 2 * (sl - sr) / (pl + pr) ≤ 2 * (sl - sr) := Int.ediv_le_self _ (by omega)
  unfold kS
  split <;> omega
theorem kA_b {sl sr wl wr : Int} (hl : -60 ≤ sl ∧ sl ≤ 60) (hr : -60 ≤ sr ∧ sr ≤ 60) (hlt : sr < sl) (ha : 1 ≤ wl ∧ wl ≤ 20) (hb : 1 ≤ wr ∧ wr ≤ 20) : (0 ≤ kA sl sr wl wr ∧ kA sl sr wl wr ≤ 120) ∧ (-60 ≤ sl - kA sl sr wl wr * paA wl wr ∧ sl - kA sl sr wl wr * paA wl wr ≤ 60) ∧ (-60 ≤ sr + kA sl sr wl wr * paA wr wl ∧ sr + kA sl sr wl wr * paA wr wl ≤ 60) := by
  have hp := pa_b ha hb
  have h := kD_ok hl hr hp.2.1.1 hp.2.2.1.1 (kS sl sr (paA wl wr) (paA wr wl))
  have h5 : kA sl sr wl wr ≤ kA sl sr wl wr * paA wl wr := by
    have := Int.mul_le_mul_of_nonneg_left hp.2.1.1 h.1
    rw [Int.mul_one] at this
    exact this
  unfold kA at h5 ⊢
  omega
theorem c223_69 (hw : RW w) {l r : Nat} (hl : l < 10) (hr : r < 10) (hs : -60 ≤ α (B9 l 1) ∧ α (B9 l 1) ≤ 60) (hs2 : -60 ≤ α (B9 r 1) ∧ α (B9 r 1) ≤ 60) {pl pr : Int} (h1 : 1 ≤ pl ∧ pl ≤ 20) (h2 : 1 ≤ pr ∧ pr ≤ 20) (hg : f 4 = Int32.ofInt pl) (hg2 : f 5 = Int32.ofInt pr) : ∀ (k : Nat) (g : Option Value), k ≤ 240 → Wp (d + 2) 223 69 [some (.ref 294), some (.int (Int32.ofInt (l : Int))), some (.int (Int32.ofInt (r : Int))), g, some (.int (Int32.ofInt (k : Int)))] [] (mk N t w (ms I f) (sR L w (r64 α)) D) Q = Q (.inl (some (.int (Int32.ofInt (kD (α (B9 l 1)) (α (B9 r 1)) pl pr k))))) (mk N t w (ms I f) (sR L w (r64 α)) D) := by
  intro k
  induction k with
  | zero =>
    intro g _
    have e0 : kD (α (B9 l 1)) (α (B9 r 1)) pl pr 0 = ((0 : Nat) : Int) := rfl
    have b1 : -60 ≤ α (B9 l 1) - ((0 : Nat) : Int) * pl ∧ α (B9 l 1) - ((0 : Nat) : Int) * pl ≤ 60 := by simp only [Int.natCast_zero, Int.zero_mul]; omega
    have b2 : -60 ≤ α (B9 r 1) + ((0 : Nat) : Int) * pr ∧ α (B9 r 1) + ((0 : Nat) : Int) * pr ≤ 60 := by simp only [Int.natCast_zero, Int.zero_mul]; omega
    simp only [w223_0, w223_1, w223_2, w223_3, w223_6, w223_7, w223_8, w223_9, w223_12, w223_15, w223_16, w223_17, w223_18, w223_19, w223_20, w223_23, w223_24, w223_25, w223_28, w223_29, w223_30, w223_31, w223_32, w223_35, w223_36, w223_37, w223_40, w223_41, w223_42, w223_43, w223_44, w223_47, w223_48, w223_49, w223_52, w223_53, w223_54, w223_55, w223_58, w223_59, w223_62, w223_63, w223_64, w223_67, w223_69, w223_70, w223_71, w223_74, w223_76, w223_77, w223_80, w223_81, w223_82, w223_83, w223_86, w223_89, w223_92, w223_95, w223_96, w223_97, w223_100, w223_102, w223_103, w223_106, w223_107, w223_108, w223_109, w223_112, w223_115, w223_118, w223_121, w223_124, w223_127, w223_129, kn_s, kn_n, zh_mk, zR_mk, zI_mk, zL_mk, zD_mk, wI_mk, wL_mk, wD_mk, zT_mk, zC_mk, kill_i, kill_r, kill_0, kill_n, kill_l, kill_q, zzk_r, zzk_0, zzk_q, zcat_r, zcat_i, zcat_0, cats_0, cats_i, cats_r, cats_l, cats_d, cats_f, rv_s, rv_0, Nat.reduceAdd, Nat.reduceLeDiff, Nat.add_zero, Nat.reduceMul, Nat.reduceSub, ne_eq, not_false_eq_true, not_true_eq_false, and_self, and_true, true_and, or_self, or_true, true_or, or_false, false_or, if_true, if_false, reduceIte, reduceCtorEq, implies_true, ite_self, ite_not, kM, kMr, kRow hw, sR_at, up2_r64, r64_at, o_add, o_sub, o_mul, o_neg, q_add, q_sub, q_mul, q_neg, o_32, cast_s, Int.toNat_natCast, ms_at (show 4 ≤ 4 ∧ 4 ≤ 10 by omega), ms_at (show 4 ≤ 5 ∧ 5 ≤ 10 by omega), ms_at (show 4 ≤ 6 ∧ 6 ≤ 10 by omega), ms_at (show 4 ≤ 7 ∧ 7 ≤ 10 by omega), ms_at (show 4 ≤ 8 ∧ 8 ≤ 10 by omega), ms_at (show 4 ≤ 9 ∧ 9 ≤ 10 by omega), ms_at (show 4 ≤ 10 ∧ 10 ≤ 10 by omega), up2_ms (show 4 ≤ 4 ∧ 4 ≤ 10 by omega), up2_ms (show 4 ≤ 5 ∧ 5 ≤ 10 by omega), up2_ms (show 4 ≤ 6 ∧ 6 ≤ 10 by omega), up2_ms (show 4 ≤ 7 ∧ 7 ≤ 10 by omega), up2_ms (show 4 ≤ 8 ∧ 8 ≤ 10 by omega), up2_ms (show 4 ≤ 9 ∧ 9 ≤ 10 by omega), up2_ms (show 4 ≤ 10 ∧ 10 ≤ 10 by omega), hg, hg2, c194 hw hl, c194 hw hr, o_64 (z := α (B9 l 1) - ((0 : Nat) : Int) * pl) (by omega), o_64 (z := α (B9 r 1) + ((0 : Nat) : Int) * pr) (by omega), c154 (a := α (B9 l 1) - ((0 : Nat) : Int) * pl) (b := -60) (c := 60) (by omega), c154 (a := α (B9 r 1) + ((0 : Nat) : Int) * pr) (b := -60) (c := 60) (by omega), p_0, eq_true b1, eq_true b2, e0]
  | succ k ih =>
    intro g hk
    have ih' := fun g => ih g (by omega)
    have m1 := mulb (a := ((k + 1 : Nat) : Int)) (b := pl) (A := 240) (B := 20) (by omega) (by omega)
    have m2 := mulb (a := ((k + 1 : Nat) : Int)) (b := pr) (A := 240) (B := 20) (by omega) (by omega)
    have a1 : 0 ≤ ((k + 1 : Nat) : Int) * pl := Int.mul_nonneg (by omega) (by omega)
    have a2 : 0 ≤ ((k + 1 : Nat) : Int) * pr := Int.mul_nonneg (by omega) (by omega)
    have e : ((k + 1 : Nat) : Int) + -1 = (k : Int) := by omega
    rw [w223_69 zzk_r]
    simp only [w223_0, w223_1, w223_2, w223_3, w223_6, w223_7, w223_8, w223_9, w223_12, w223_15, w223_16, w223_17, w223_18, w223_19, w223_20, w223_23, w223_24, w223_25, w223_28, w223_29, w223_30, w223_31, w223_32, w223_35, w223_36, w223_37, w223_40, w223_41, w223_42, w223_43, w223_44, w223_47, w223_48, w223_49, w223_52, w223_53, w223_54, w223_55, w223_58, w223_59, w223_62, w223_63, w223_64, w223_67, w223_70, w223_71, w223_74, w223_76, w223_77, w223_80, w223_81, w223_82, w223_83, w223_86, w223_89, w223_92, w223_95, w223_96, w223_97, w223_100, w223_102, w223_103, w223_106, w223_107, w223_108, w223_109, w223_112, w223_115, w223_118, w223_121, w223_124, w223_127, w223_129, kn_s, kn_n, zh_mk, zR_mk, zI_mk, zL_mk, zD_mk, wI_mk, wL_mk, wD_mk, zT_mk, zC_mk, kill_i, kill_r, kill_0, kill_n, kill_l, kill_q, zzk_r, zzk_0, zzk_q, zcat_r, zcat_i, zcat_0, cats_0, cats_i, cats_r, cats_l, cats_d, cats_f, rv_s, rv_0, Nat.reduceAdd, Nat.reduceLeDiff, Nat.add_zero, Nat.reduceMul, Nat.reduceSub, ne_eq, not_false_eq_true, not_true_eq_false, and_self, and_true, true_and, or_self, or_true, true_or, or_false, false_or, if_true, if_false, reduceIte, reduceCtorEq, implies_true, ite_self, ite_not, kM, kMr, kRow hw, sR_at, up2_r64, r64_at, o_add, o_sub, o_mul, o_neg, q_add, q_sub, q_mul, q_neg, o_32, cast_s, Int.toNat_natCast, ms_at (show 4 ≤ 4 ∧ 4 ≤ 10 by omega), ms_at (show 4 ≤ 5 ∧ 5 ≤ 10 by omega), ms_at (show 4 ≤ 6 ∧ 6 ≤ 10 by omega), ms_at (show 4 ≤ 7 ∧ 7 ≤ 10 by omega), ms_at (show 4 ≤ 8 ∧ 8 ≤ 10 by omega), ms_at (show 4 ≤ 9 ∧ 9 ≤ 10 by omega), ms_at (show 4 ≤ 10 ∧ 10 ≤ 10 by omega), up2_ms (show 4 ≤ 4 ∧ 4 ≤ 10 by omega), up2_ms (show 4 ≤ 5 ∧ 5 ≤ 10 by omega), up2_ms (show 4 ≤ 6 ∧ 6 ≤ 10 by omega), up2_ms (show 4 ≤ 7 ∧ 7 ≤ 10 by omega), up2_ms (show 4 ≤ 8 ∧ 8 ≤ 10 by omega), up2_ms (show 4 ≤ 9 ∧ 9 ≤ 10 by omega), up2_ms (show 4 ≤ 10 ∧ 10 ≤ 10 by omega), hg, hg2, c194 hw hl, c194 hw hr, o_64 (z := α (B9 l 1) - ((k + 1 : Nat) : Int) * pl) (by omega), o_64 (z := α (B9 r 1) + ((k + 1 : Nat) : Int) * pr) (by omega), c154 (a := α (B9 l 1) - ((k + 1 : Nat) : Int) * pl) (b := -60) (c := 60) (by omega), c154 (a := α (B9 r 1) + ((k + 1 : Nat) : Int) * pr) (b := -60) (c := 60) (by omega), p_0, e, ih', kD_s]
    by_cases x1 : α (B9 l 1) - ((k + 1 : Nat) : Int) * pl < -60
    · have y1 : ¬ (-60 ≤ α (B9 l 1) - ((k + 1 : Nat) : Int) * pl ∧ α (B9 l 1) - ((k + 1 : Nat) : Int) * pl ≤ 60) := by omega
      simp only [eq_false y1, x1, true_or, if_true, if_false, ite_self]
    · have y1 : (-60 ≤ α (B9 l 1) - ((k + 1 : Nat) : Int) * pl ∧ α (B9 l 1) - ((k + 1 : Nat) : Int) * pl ≤ 60) := by omega
      by_cases x2 : 60 < α (B9 r 1) + ((k + 1 : Nat) : Int) * pr
      · have y2 : ¬ (-60 ≤ α (B9 r 1) + ((k + 1 : Nat) : Int) * pr ∧ α (B9 r 1) + ((k + 1 : Nat) : Int) * pr ≤ 60) := by omega
        simp only [eq_true y1, eq_false y2, x1, x2, or_true, if_true, if_false]
      · have y2 : (-60 ≤ α (B9 r 1) + ((k + 1 : Nat) : Int) * pr ∧ α (B9 r 1) + ((k + 1 : Nat) : Int) * pr ≤ 60) := by omega
        simp only [eq_true y1, eq_true y2, x1, x2, or_self, if_true, if_false]
theorem c223 (hw : RW w) {l r : Nat} (hl : l < 10) (hr : r < 10) (hs : -60 ≤ α (B9 l 1) ∧ α (B9 l 1) ≤ 60) (hs2 : -60 ≤ α (B9 r 1) ∧ α (B9 r 1) ≤ 60) (hg : 1 ≤ α (B9 l 2) ∧ α (B9 l 2) ≤ 20) (hg2 : 1 ≤ α (B9 r 2) ∧ α (B9 r 2) ≤ 20) (hlt : α (B9 r 1) < α (B9 l 1)) : Wp (d + 22) 223 0 [some (.ref 294), some (.int (Int32.ofInt (l : Int))), some (.int (Int32.ofInt (r : Int))), none, none] [] (mk N t w (ms I f) (sR L w (r64 α)) D) Q = Q (.inl (some (.int (Int32.ofInt (kA (α (B9 l 1)) (α (B9 r 1)) (α (B9 l 2)) (α (B9 r 2))))))) (mk N t w (ms I (up1 (up1 f 4 (Int32.ofInt (paA (α (B9 l 2)) (α (B9 r 2))))) 5 (Int32.ofInt (paA (α (B9 r 2)) (α (B9 l 2)))))) (sR L w (r64 α)) D) := by
  have hp := pa_b hg hg2
  have hk := kS_b hs hs2 hlt hp.2.1.1 hp.2.2.1.1
  have e1 : Int32.ofInt (α (B9 l 2)) = Int32.ofInt (((α (B9 l 2)).toNat : Nat) : Int) := by rw [Int.toNat_of_nonneg (by omega)]
  have e2 : Int32.ofInt (α (B9 r 2)) = Int32.ofInt (((α (B9 r 2)).toNat : Nat) : Int) := by rw [Int.toNat_of_nonneg (by omega)]
  have hgc : ∀ (D' : Nat) (σ : St) (Q' : Rs → St → Prop), 20 ≤ D' → Wp D' 224 0 [some (.int (Int32.ofInt (α (B9 l 2)))), some (.int (Int32.ofInt (α (B9 r 2))))] [] σ Q' = Q' (.inl (some (.int (Int32.ofInt (gW (α (B9 l 2)) (α (B9 r 2))))))) σ := by
    intro D' σ Q' hD'
    rw [e1, e2]
    exact c224 _ _ D' _ (by omega) (by omega) (by omega)
  have e3 : (α (B9 r 2)).tdiv (gW (α (B9 l 2)) (α (B9 r 2))) = paA (α (B9 l 2)) (α (B9 r 2)) := by
    rw [Int.tdiv_eq_ediv_of_nonneg (by omega)]
    rfl
  have e4 : (α (B9 l 2)).tdiv (gW (α (B9 l 2)) (α (B9 r 2))) = paA (α (B9 r 2)) (α (B9 l 2)) := by
    rw [Int.tdiv_eq_ediv_of_nonneg (by omega)]
    exact hp.2.2.2
  have e5 : (2 * (α (B9 l 1) - α (B9 r 1))).tdiv (paA (α (B9 l 2)) (α (B9 r 2)) + paA (α (B9 r 2)) (α (B9 l 2))) = 2 * (α (B9 l 1) - α (B9 r 1)) / (paA (α (B9 l 2)) (α (B9 r 2)) + paA (α (B9 r 2)) (α (B9 l 2))) := Int.tdiv_eq_ediv_of_nonneg (by omega)
  have n1 : ¬ (gW (α (B9 l 2)) (α (B9 r 2)) = 0) := by omega
  have n2 : ¬ (paA (α (B9 l 2)) (α (B9 r 2)) + paA (α (B9 r 2)) (α (B9 l 2)) = 0) := by omega
  have e6 : (if 1 < 2 * (α (B9 l 1) - α (B9 r 1)) / (paA (α (B9 l 2)) (α (B9 r 2)) + paA (α (B9 r 2)) (α (B9 l 2))) then Int32.ofInt (2 * (α (B9 l 1) - α (B9 r 1)) / (paA (α (B9 l 2)) (α (B9 r 2)) + paA (α (B9 r 2)) (α (B9 l 2)))) else Int32.ofInt 1) = Int32.ofInt ((kS (α (B9 l 1)) (α (B9 r 1)) (paA (α (B9 l 2)) (α (B9 r 2))) (paA (α (B9 r 2)) (α (B9 l 2))) : Nat) : Int) := by
    unfold kS
    by_cases h : 1 < 2 * (α (B9 l 1) - α (B9 r 1)) / (paA (α (B9 l 2)) (α (B9 r 2)) + paA (α (B9 r 2)) (α (B9 l 2)))
    · rw [if_pos h, if_pos h, Int.toNat_of_nonneg (by omega)]
    · rw [if_neg h, if_neg h]; rfl
  simp only [w223_0, w223_1, w223_2, w223_3, w223_6, w223_7, w223_8, w223_9, w223_12, w223_15, w223_16, w223_17, w223_18, w223_19, w223_20, w223_23, w223_24, w223_25, w223_28, w223_29, w223_30, w223_31, w223_32, w223_35, w223_36, w223_37, w223_40, w223_41, w223_42, w223_43, w223_44, w223_47, w223_48, w223_49, w223_52, w223_53, w223_54, w223_55, w223_58, w223_59, w223_62, w223_63, w223_64, w223_67, w223_70, w223_71, w223_74, w223_76, w223_77, w223_80, w223_81, w223_82, w223_83, w223_86, w223_89, w223_92, w223_95, w223_96, w223_97, w223_100, w223_102, w223_103, w223_106, w223_107, w223_108, w223_109, w223_112, w223_115, w223_118, w223_121, w223_124, w223_127, w223_129, kn_s, kn_n, zh_mk, zR_mk, zI_mk, zL_mk, zD_mk, wI_mk, wL_mk, wD_mk, zT_mk, zC_mk, kill_i, kill_r, kill_0, kill_n, kill_l, kill_q, zzk_r, zzk_0, zzk_q, zcat_r, zcat_i, zcat_0, cats_0, cats_i, cats_r, cats_l, cats_d, cats_f, rv_s, rv_0, Nat.reduceAdd, Nat.reduceLeDiff, Nat.add_zero, Nat.reduceMul, Nat.reduceSub, ne_eq, not_false_eq_true, not_true_eq_false, and_self, and_true, true_and, or_self, or_true, true_or, or_false, false_or, if_true, if_false, reduceIte, reduceCtorEq, implies_true, ite_self, ite_not, kM, kMr, kRow hw, sR_at, up2_r64, r64_at, o_add, o_sub, o_mul, o_neg, q_add, q_sub, q_mul, q_neg, o_32, cast_s, Int.toNat_natCast, ms_at (show 4 ≤ 4 ∧ 4 ≤ 10 by omega), ms_at (show 4 ≤ 5 ∧ 5 ≤ 10 by omega), ms_at (show 4 ≤ 6 ∧ 6 ≤ 10 by omega), ms_at (show 4 ≤ 7 ∧ 7 ≤ 10 by omega), ms_at (show 4 ≤ 8 ∧ 8 ≤ 10 by omega), ms_at (show 4 ≤ 9 ∧ 9 ≤ 10 by omega), ms_at (show 4 ≤ 10 ∧ 10 ≤ 10 by omega), up2_ms (show 4 ≤ 4 ∧ 4 ≤ 10 by omega), up2_ms (show 4 ≤ 5 ∧ 5 ≤ 10 by omega), up2_ms (show 4 ≤ 6 ∧ 6 ≤ 10 by omega), up2_ms (show 4 ≤ 7 ∧ 7 ≤ 10 by omega), up2_ms (show 4 ≤ 8 ∧ 8 ≤ 10 by omega), up2_ms (show 4 ≤ 9 ∧ 9 ≤ 10 by omega), up2_ms (show 4 ≤ 10 ∧ 10 ≤ 10 by omega), up2_at, up1_at, Nat.reduceEqDiff, and_false, false_and, c177_2 hw hl, c177_2 hw hr, c194 hw hl, c194 hw hr, hgc (d + 21) _ _ (by omega), o_eq (a := gW (α (B9 l 2)) (α (B9 r 2))) (b := 0) (by omega), n1, o_div (a := α (B9 r 2)) (b := gW (α (B9 l 2)) (α (B9 r 2))) (by omega), o_div (a := α (B9 l 2)) (b := gW (α (B9 l 2)) (α (B9 r 2))) (by omega), e3, e4, n2, o_eq (a := paA (α (B9 l 2)) (α (B9 r 2)) + paA (α (B9 r 2)) (α (B9 l 2))) (b := 0) (by omega), o_div (a := 2 * (α (B9 l 1) - α (B9 r 1))) (b := paA (α (B9 l 2)) (α (B9 r 2)) + paA (α (B9 r 2)) (α (B9 l 2))) (by omega), e5, o_lt (a := 1) (b := 2 * (α (B9 l 1) - α (B9 r 1)) / (paA (α (B9 l 2)) (α (B9 r 2)) + paA (α (B9 r 2)) (α (B9 l 2)))) (by omega), e6]
  exact c223_69 (d := d + 20) hw hl hr hs hs2 hp.2.1 hp.2.2.1 (up1_5_4 f) (up1_5_5 f) _ _ hk.2.1
end S26

