/-! THE PARSER of the reference: statements -/
section S86
variable {d N t w n bn bm : Nat} {f : Nat → Int} {I J : Nat → Nat → Int32} {L : Nat → Nat → Int64} {D : Nat → Nat → UInt64} {Q : Rs → St → Prop} {P : PS} {α : Nat → Int} {o : Nat → Nat} {S : SS}
theorem iw_fl {a c : Nat} : iw f a (flT c P) = iw f a P := by
  unfold flT
  split <;> rfl
theorem iw_if {p : Prop} [Decidable p] {a c : Nat} : iw f a (if p then flT c P else P) = iw f a P := by
  split
  · exact iw_fl
  · rfl
theorem tw_nx {a : Nat} (h : iw f a P = true) : twT f n a P = nxT f n P := by
  unfold twT
  rw [if_pos h]
theorem c169p (hw : RW w) (h2 : α 2 = (bm : Int)) : Wp d 169 0 [some (.ref 294)] [] (mk N t w J (sR L w (r64 α)) D) Q = Q (.inl (some (.int (Int32.ofInt (bm : Int))))) (mk N t w J (sR L w (r64 α)) D) := by
  simp only [w169_0, w169_1, w169_4, w169_5, w169_6, w169_7, kn_s, kn_n, zh_mk, zR_mk, zI_mk, zL_mk, zD_mk, wI_mk, wL_mk, wD_mk, zT_mk, zC_mk, kill_i, kill_r, kill_0, kill_n, kill_l, kill_q, zzk_r, zzk_0, zzk_q, zcat_r, zcat_i, zcat_0, cats_0, cats_i, cats_r, cats_l, cats_d, cats_f, rv_s, rv_0, Nat.reduceAdd, Nat.reduceLeDiff, Nat.add_zero, Nat.reduceMul, Nat.reduceSub, ne_eq, not_false_eq_true, not_true_eq_false, and_self, and_true, true_and, or_self, or_true, true_or, or_false, false_or, if_true, if_false, reduceIte, reduceCtorEq, implies_true, ite_self, ite_not, kM, kMr, kRow hw, sR_at, up2_r64, r64_at, o_add, o_sub, o_mul, o_neg, q_add, q_sub, q_mul, q_neg, o_32, cast_s, Int.toNat_natCast, ixc2, tnc2, h2]
theorem ixP {p k : Nat} (hp : p < 4) (hk : k < 3) : inx (Int32.ofInt (16 + 3 * (p : Int) + (k : Int))) 378 = true ∧ (Int32.ofInt (16 + 3 * (p : Int) + (k : Int))).toNatClampNeg = P3 p k := by
  have e : 16 + 3 * (p : Int) + (k : Int) = ((P3 p k : Nat) : Int) := by unfold P3; omega
  have h : P3 p k < 378 := by unfold P3; omega
  rw [e]
  exact ⟨o_ixn (by omega), o_tnn (by omega)⟩
theorem c168 {p1 pt p3 px pE : PS} (hP : poR f n α bn bm P p1 pt p3 px pE) (h0 : P.2.2.2.1 = 0) (hi : iw f 3 P = true) (hw : RW w) (hT : TR f n J) (hS : SW J) (hW : WF f n P) (hG : GA α bn bm o) : Wp (d + 7) 168 0 [some (.ref 294), none, none, none] [] (mk N t w (pR P J) (sR L w (r64 α)) D) Q = Q (.inl none) (mk N t w (pR pE J) (sR L w (r64 (if pE.2.2.2.1 = 0 then poA α bm (cvT f 0 p1) (cvT f 0 p3) else α))) D) := by
  have hm4 := hG.2.1.1
  have h2 := hG.2.1.2.1
  have ha0 : 10 ≤ α 0 ∧ α 0 ≤ 200 := ⟨hG.1.2.2.1, hG.1.2.2.2.1⟩
  have hok := po_ok hP hW
  obtain ⟨w1, wt, w3, wx, wE⟩ := poR_W hP hW
  obtain ⟨e1, e2, e3, e4, e5⟩ := hP
  have w0 : WF f n (if 4 ≤ bm then flT 5 P else P) := WF_if (by omega) hW
  have l0 : ∀ Q, Wp (d + 6) 170 0 [some (.ref 294), some (.int (Int32.ofInt (if (bm : Int) = 4 then 1 else 0))), some (.int (Int32.ofInt 5))] [] (mk N t w (pR P J) (sR L w (r64 α)) D) Q = Q (.inl none) (mk N t w (pR (if 4 ≤ bm then flT 5 P else P) J) (sR L w (r64 α)) D) := fun Q => by
    have l := c170 (d := d + 4) (N := N) (t := t) (w := w) (J := J) (L := sR L w (r64 α)) (D := D) (Q := Q) (p := 4 ≤ bm) (c := 5) (z := 5) rfl (by omega) (WF_e hW)
    have e : Int32.ofInt (if (bm : Int) = 4 then 1 else 0) = pI (4 ≤ bm) := by
      unfold pI
      by_cases q : 4 ≤ bm
      · rw [if_pos q, if_pos (by omega)]
      · rw [if_neg q, if_neg (by omega)]
    rw [e]
    exact l
  have l1 := fun Q => c163 (d := d + 4) (N := N) (t := t) (w := w) (L := sR L w (r64 α)) (D := D) (Q := Q) hT w0
  rw [← tw_nx (a := 3) (f := f) (n := n) (by rw [iw_if]; exact hi), ← e1] at l1
  have l2 := fun Q => c171 (d := d + 3) (N := N) (t := t) (w := w) (L := L) (D := D) (Q := Q) hw hT w1 hG
  have l3 := fun Q => c180 (d := d) (N := N) (t := t) (w := w) (L := sR L w (r64 α)) (D := D) (Q := Q) (a := 2) (lo := 0) (hi := 100) hT hS wt (by omega) (by omega) (by omega)
  have l4 := fun Q => c166 (d := d + 3) (N := N) (t := t) (w := w) (L := sR L w (r64 α)) (D := D) (Q := Q) hT wx
  simp only [← e2] at l2
  simp only [← e3, ← e4] at l3
  simp only [← e5] at l4
  have br : ∀ (A B : Prop), True := fun _ _ => trivial
  by_cases hE : pE.2.2.2.1 = 0
  · obtain ⟨-, hm, hF, hst, -⟩ := hok hE
    obtain ⟨a1, -⟩ := sm_st wx e5 hE
    have c3 : (chT f 0 100 p3).2.2.2.1 = 0 := by rw [e4, nxT_e] at a1; exact a1
    obtain ⟨b1, -⟩ := ch_st w3 e4 a1
    obtain ⟨d1, -⟩ := tw_st wt e3 b1
    have c1 : (chT f 0 (α 0 - 1) p1).2.2.2.1 = 0 := by rw [e2] at d1; exact (tc_ok d1).2.2.2
    have r1 : rvT f 0 (α 0 - 1) p1 = cvT f 0 p1 := by unfold rvT; rw [if_pos c1]
    have r2 : rvT f 0 100 p3 = cvT f 0 p3 := by unfold rvT; rw [if_pos c3]
    have hF1 := hF.1
    have g4 : ((bm : Int) = 4) = False := eq_false (by omega)
    have i0 : inx (Int32.ofInt (16 + 3 * (bm : Int) + 0)) 378 = true ∧ (Int32.ofInt (16 + 3 * (bm : Int) + 0)).toNatClampNeg = P3 bm 0 := ixP hm (show 0 < 3 by omega)
    have i1 : inx (Int32.ofInt (16 + 3 * (bm : Int) + 1)) 378 = true ∧ (Int32.ofInt (16 + 3 * (bm : Int) + 1)).toNatClampNeg = P3 bm 1 := ixP hm (show 1 < 3 by omega)
    simp only [g4, if_false] at l0
    have eα : up1 (up1 (up1 α 2 ((bm : Int) + 1)) (P3 bm 0) (cvT f 0 p1)) (P3 bm 1) (cvT f 0 p3) = poA α bm (cvT f 0 p1) (cvT f 0 p3) := by unfold poA; rw [h2]
    rw [if_pos hE, ← eα]
    simp only [w168_0, w168_1, w168_2, w168_5, w168_6, w168_9, w168_10, w168_13, w168_14, w168_15, w168_18, w168_19, w168_22, w168_23, w168_26, w168_27, w168_28, w168_31, w168_32, w168_34, w168_37, w168_38, w168_39, w168_42, w168_43, w168_46, w168_49, w168_50, w168_52, w168_53, w168_54, w168_57, w168_58, w168_59, w168_60, w168_61, w168_64, w168_65, w168_66, w168_67, w168_68, w168_69, w168_70, w168_71, w168_74, w168_75, w168_76, w168_77, w168_78, w168_79, w168_80, w168_81, w168_84, w168_85, w168_86, w168_87, w168_88, w168_89, w168_90, kn_s, kn_n, zh_mk, zR_mk, zI_mk, zL_mk, zD_mk, wI_mk, wL_mk, wD_mk, zT_mk, zC_mk, kill_i, kill_r, kill_0, kill_n, kill_l, kill_q, zzk_r, zzk_0, zzk_q, zcat_r, zcat_i, zcat_0, cats_0, cats_i, cats_r, cats_l, cats_d, cats_f, rv_s, rv_0, Nat.reduceAdd, Nat.reduceLeDiff, Nat.add_zero, Nat.reduceMul, Nat.reduceSub, ne_eq, not_false_eq_true, not_true_eq_false, and_self, and_true, true_and, or_self, or_true, true_or, or_false, false_or, if_true, if_false, reduceIte, reduceCtorEq, implies_true, ite_self, ite_not, kM, kMr, kRow hw, sR_at, up2_r64, r64_at, o_add, o_sub, o_mul, o_neg, q_add, q_sub, q_mul, q_neg, o_32, cast_s, Int.toNat_natCast, c169p hw h2, o_eq (a := (bm : Int)) (b := 4) (by omega), g4, l0, l1, l2, l3, l4, c161 (WF_e wE), pI, eq_true hE, i10, r1, r2, ixc2, tnc2, h2, i0.1, i0.2, i1.1, i1.2, o_64 (z := cvT f 0 p1) (by omega), o_64 (z := cvT f 0 p3) (by omega)]
  · rw [if_neg hE]
    by_cases q : (bm : Int) = 4
    · simp only [eq_true q, if_true] at l0
      simp only [w168_0, w168_1, w168_2, w168_5, w168_6, w168_9, w168_10, w168_13, w168_14, w168_15, w168_18, w168_19, w168_22, w168_23, w168_26, w168_27, w168_28, w168_31, w168_32, w168_34, w168_37, w168_38, w168_39, w168_42, w168_43, w168_46, w168_49, w168_50, w168_52, w168_53, w168_54, w168_57, w168_58, w168_59, w168_60, w168_61, w168_64, w168_65, w168_66, w168_67, w168_68, w168_69, w168_70, w168_71, w168_74, w168_75, w168_76, w168_77, w168_78, w168_79, w168_80, w168_81, w168_84, w168_85, w168_86, w168_87, w168_88, w168_89, w168_90, kn_s, kn_n, zh_mk, zR_mk, zI_mk, zL_mk, zD_mk, wI_mk, wL_mk, wD_mk, zT_mk, zC_mk, kill_i, kill_r, kill_0, kill_n, kill_l, kill_q, zzk_r, zzk_0, zzk_q, zcat_r, zcat_i, zcat_0, cats_0, cats_i, cats_r, cats_l, cats_d, cats_f, rv_s, rv_0, Nat.reduceAdd, Nat.reduceLeDiff, Nat.add_zero, Nat.reduceMul, Nat.reduceSub, ne_eq, not_false_eq_true, not_true_eq_false, and_self, and_true, true_and, or_self, or_true, true_or, or_false, false_or, if_true, if_false, reduceIte, reduceCtorEq, implies_true, ite_self, ite_not, kM, kMr, kRow hw, sR_at, up2_r64, r64_at, o_add, o_sub, o_mul, o_neg, q_add, q_sub, q_mul, q_neg, o_32, cast_s, Int.toNat_natCast, c169p hw h2, o_eq (a := (bm : Int)) (b := 4) (by omega), eq_true q, l0, l1, l2, l3, l4, c161 (WF_e wE), pI, eq_false hE, i00]
    · simp only [eq_false q, if_false] at l0
      simp only [w168_0, w168_1, w168_2, w168_5, w168_6, w168_9, w168_10, w168_13, w168_14, w168_15, w168_18, w168_19, w168_22, w168_23, w168_26, w168_27, w168_28, w168_31, w168_32, w168_34, w168_37, w168_38, w168_39, w168_42, w168_43, w168_46, w168_49, w168_50, w168_52, w168_53, w168_54, w168_57, w168_58, w168_59, w168_60, w168_61, w168_64, w168_65, w168_66, w168_67, w168_68, w168_69, w168_70, w168_71, w168_74, w168_75, w168_76, w168_77, w168_78, w168_79, w168_80, w168_81, w168_84, w168_85, w168_86, w168_87, w168_88, w168_89, w168_90, kn_s, kn_n, zh_mk, zR_mk, zI_mk, zL_mk, zD_mk, wI_mk, wL_mk, wD_mk, zT_mk, zC_mk, kill_i, kill_r, kill_0, kill_n, kill_l, kill_q, zzk_r, zzk_0, zzk_q, zcat_r, zcat_i, zcat_0, cats_0, cats_i, cats_r, cats_l, cats_d, cats_f, rv_s, rv_0, Nat.reduceAdd, Nat.reduceLeDiff, Nat.add_zero, Nat.reduceMul, Nat.reduceSub, ne_eq, not_false_eq_true, not_true_eq_false, and_self, and_true, true_and, or_self, or_true, true_or, or_false, false_or, if_true, if_false, reduceIte, reduceCtorEq, implies_true, ite_self, ite_not, kM, kMr, kRow hw, sR_at, up2_r64, r64_at, o_add, o_sub, o_mul, o_neg, q_add, q_sub, q_mul, q_neg, o_32, cast_s, Int.toNat_natCast, c169p hw h2, o_eq (a := (bm : Int)) (b := 4) (by omega), eq_false q, l0, l1, l2, l3, l4, c161 (WF_e wE), pI, eq_false hE, i00]
end S86
