/-! THE PARSER of the reference: the box, the statements in turn -/
section S88
variable {d N t w n bn bm : Nat} {f : Nat → Int} {I J : Nat → Nat → Int32} {L : Nat → Nat → Int64} {D : Nat → Nat → UInt64} {Q : Rs → St → Prop} {P : PS} {α : Nat → Int} {o : Nat → Nat} {S : SS}
theorem chT_x {lo hi : Int} (h : P.2.2.2.1 ≠ 0) : chT f lo hi P = P := by
  unfold chT
  split
  · split
    · rfl
    · exact flT_x h
  · exact flT_x h
theorem twT_x {a : Nat} (h : P.2.2.2.1 ≠ 0) : twT f n a P = P := by
  unfold twT
  split
  · exact nxT_x h
  · rw [flT_x h]; exact nxT_x h
theorem bxA_1 {x : Int} : up1 (fun _ => (0 : Int)) 0 x = bxA x 0 0 := by
  funext k
  unfold up1 bxA
  split
  · rfl
  · split
    · rfl
    · split <;> rfl
theorem bxA_2 {x l r : Int} : up1 (up1 (up1 (fun _ => (0 : Int)) 0 x) 8 l) 9 r = bxA x l r := by
  funext k
  unfold up1 bxA
  by_cases h0 : k = 0
  · rw [if_neg (by omega), if_neg (by omega), if_pos h0, if_pos h0]
  · by_cases h8 : k = 8
    · rw [if_neg (by omega), if_pos h8, if_neg h0, if_pos h8]
    · by_cases h9 : k = 9
      · rw [if_pos h9, if_neg h0, if_neg h8, if_pos h9]
      · rw [if_neg h9, if_neg h8, if_neg h0, if_neg h0, if_neg h8, if_neg h9]
theorem rv_b {lo hi : Int} (hW : WF f n P) (hlo : 0 ≤ lo ∧ lo < 20000000) : 0 ≤ rvT f lo hi P ∧ rvT f lo hi P < 20000000 := by
  have := cv_b (lo := lo) hW hlo
  unfold rvT
  split <;> omega
def bxZ (f : Nat → Int) (z : Nat → Int) (p1 b1 b2 b3 : PS) : Nat → Int := if b1.2.2.2.1 = 0 ∧ iw f 2 b1 = true then up1 (up1 (up1 z 0 (rvT f 10 200 p1)) 8 (rvT f 0 100 b2)) 9 (rvT f 0 100 b3) else up1 z 0 (rvT f 10 200 p1)
theorem bxZ_ok {z : Nat → Int} {p1 b1 b2 b3 b4 pE : PS} {l r : Int} (hP : bxR f n P p1 b1 b2 b3 b4 pE l r) (hW : WF f n P) (hE : pE.2.2.2.1 = 0) (hz : ∀ k, k < 378 → z k = 0) : ∀ k, k < 378 → bxZ f z p1 b1 b2 b3 k = bxA (cvT f 10 p1) l r k := by
  obtain ⟨w1, w2, w3, w4, w5, w6⟩ := bxR_W hP hW
  obtain ⟨e1, e2, e3, e4, e5, e6, e7, e8⟩ := hP
  obtain ⟨a1, -⟩ := sm_st w5 e8 hE
  intro k hk
  have hzk := hz k hk
  unfold bxZ
  by_cases q : b1.2.2.2.1 = 0 ∧ iw f 2 b1 = true
  · rw [if_pos q.2] at e5 e6 e7
    have c3 : (chT f 0 100 b3).2.2.2.1 = 0 := by rw [e5, nxT_e] at a1; exact a1
    obtain ⟨a2, -⟩ := ch_st w4 e5 a1
    have c2 : (chT f 0 100 b2).2.2.2.1 = 0 := by rw [e4, nxT_e] at a2; exact a2
    have c1 : (chT f 10 200 p1).2.2.2.1 = 0 := by have a3 := q.1; rw [e2, nxT_e] at a3; exact a3
    rw [if_pos q]
    unfold rvT
    rw [if_pos c1, if_pos c2, if_pos c3, ← e6, ← e7]
    unfold up1 bxA
    by_cases h0 : k = 0
    · rw [if_neg (by omega), if_neg (by omega), if_pos h0, if_pos h0]
    · by_cases h8 : k = 8
      · rw [if_neg (by omega), if_pos h8, if_neg h0, if_pos h8]
      · by_cases h9 : k = 9
        · rw [if_pos h9, if_neg h0, if_neg h8, if_pos h9]
        · rw [if_neg h9, if_neg h8, if_neg h0, if_neg h0, if_neg h8, if_neg h9, hzk]
  · have z2 : ¬ (iw f 2 b1 = true) := fun z2 => by
      rw [if_pos z2] at e5
      obtain ⟨a2, -⟩ := ch_st w4 e5 a1
      obtain ⟨a3, -⟩ := ch_st w3 e4 a2
      obtain ⟨a4, -⟩ := tw_st w2 e3 a3
      exact q ⟨a4, z2⟩
    rw [if_neg z2] at e5 e6 e7
    rw [e5] at a1
    have c1 : (chT f 10 200 p1).2.2.2.1 = 0 := by rw [e2, nxT_e] at a1; exact a1
    rw [if_neg q]
    unfold rvT
    rw [if_pos c1, e6, e7]
    unfold up1 bxA
    by_cases h0 : k = 0
    · rw [if_pos h0, if_pos h0]
    · rw [if_neg h0, if_neg h0, hzk]
      split
      · rfl
      · split <;> rfl
theorem c158 {z : Nat → Int} {p1 b1 b2 b3 b4 pE : PS} {l r : Int} (hP : bxR f n P p1 b1 b2 b3 b4 pE l r) (hw : RW w) (hT : TR f n J) (hS : SW J) (hW : WF f n P) : Wp (d + 6) 158 0 [some (.ref 294)] [] (mk N t w (pR P J) (sR L w (r64 z)) D) Q = Q (.inl none) (mk N t w (pR pE J) (sR L w (r64 (bxZ f z p1 b1 b2 b3))) D) := by
  obtain ⟨w1, w2, w3, w4, w5, w6⟩ := bxR_W hP hW
  obtain ⟨e1, e2, e3, e4, e5, e6, e7, e8⟩ := hP
  have l1 := fun L Q => c159 (d := d) (N := N) (t := t) (w := w) (L := L) (D := D) (Q := Q) (a := 1) hT hS hW (by omega)
  have l2 := fun L Q => c164 (d := d + 2) (N := N) (t := t) (w := w) (L := L) (D := D) (Q := Q) (lo := 10) (hi := 200) hT w1 (by omega) (by omega)
  have l3 := fun L Q => c160 (d := d + 1) (N := N) (t := t) (w := w) (L := L) (D := D) (Q := Q) (a := 2) hT hS w2 (by omega)
  have l5 := fun L Q => c164 (d := d + 2) (N := N) (t := t) (w := w) (L := L) (D := D) (Q := Q) (lo := 0) (hi := 100) hT w3 (by omega) (by omega)
  have l6 := fun L Q => c164 (d := d + 2) (N := N) (t := t) (w := w) (L := L) (D := D) (Q := Q) (lo := 0) (hi := 100) hT w4 (by omega) (by omega)
  have l7 := fun L Q => c166 (d := d + 2) (N := N) (t := t) (w := w) (L := L) (D := D) (Q := Q) hT w5
  simp only [← e1] at l1
  simp only [← e2] at l2
  simp only [← e4] at l5
  simp only [← e8] at l7
  have x1 := rv_b (lo := 10) (hi := 200) w1 (by omega)
  have x2 := rv_b (lo := 0) (hi := 100) w3 (by omega)
  have x3 := rv_b (lo := 0) (hi := 100) w4 (by omega)
  by_cases q : b1.2.2.2.1 = 0 ∧ iw f 2 b1 = true
  · have l4 := fun L Q => c163 (d := d + 3) (N := N) (t := t) (w := w) (L := L) (D := D) (Q := Q) hT w2
    simp only [← tw_nx (a := 2) (f := f) (n := n) q.2, ← e3] at l4
    rw [if_pos q.2] at e5 e6 e7
    simp only [← e5] at l6
    unfold bxZ
    simp only [w158_0, w158_1, w158_4, w158_7, w158_8, w158_11, w158_12, w158_13, w158_15, w158_18, w158_21, w158_22, w158_23, w158_24, w158_27, w158_30, w158_33, w158_34, w158_37, w158_38, w158_41, w158_43, w158_44, w158_45, w158_47, w158_50, w158_51, w158_52, w158_53, w158_56, w158_58, w158_59, w158_60, w158_62, w158_65, w158_66, w158_67, w158_68, w158_71, kn_s, kn_n, zh_mk, zR_mk, zI_mk, zL_mk, zD_mk, wI_mk, wL_mk, wD_mk, zT_mk, zC_mk, kill_i, kill_r, kill_0, kill_n, kill_l, kill_q, zzk_r, zzk_0, zzk_q, zcat_r, zcat_i, zcat_0, cats_0, cats_i, cats_r, cats_l, cats_d, cats_f, rv_s, rv_0, Nat.reduceAdd, Nat.reduceLeDiff, Nat.add_zero, Nat.reduceMul, Nat.reduceSub, ne_eq, not_false_eq_true, not_true_eq_false, and_self, and_true, true_and, or_self, or_true, true_or, or_false, false_or, if_true, if_false, reduceIte, reduceCtorEq, implies_true, ite_self, ite_not, kM, kMr, kRow hw, sR_at, up2_r64, r64_at, o_add, o_sub, o_mul, o_neg, q_add, q_sub, q_mul, q_neg, o_32, cast_s, Int.toNat_natCast, l1, l2, l3, l4, l5, l6, l7, pI, eq_true q, q.1, q.2, and_self, i10, ixc0, tnc0, ixc8, tnc8, ixc9, tnc9, o_64 (z := rvT f 10 200 p1) (by omega), o_64 (z := rvT f 0 100 b2) (by omega), o_64 (z := rvT f 0 100 b3) (by omega)]
  · have e5' : b4 = b1 := by
      rw [e5]
      by_cases z : iw f 2 b1 = true
      · have hx : b1.2.2.2.1 ≠ 0 := fun y => q ⟨y, z⟩
        have f2 : b2 = b1 := by rw [e3]; exact twT_x hx
        have f3 : b3 = b1 := by rw [e4, f2, chT_x hx]; exact nxT_x hx
        rw [if_pos z, f3, chT_x hx]; exact nxT_x hx
      · rw [if_neg z]
    rw [e5'] at l7
    unfold bxZ
    simp only [w158_0, w158_1, w158_4, w158_7, w158_8, w158_11, w158_12, w158_13, w158_15, w158_18, w158_21, w158_22, w158_23, w158_24, w158_27, w158_30, w158_33, w158_34, w158_37, w158_38, w158_41, w158_43, w158_44, w158_45, w158_47, w158_50, w158_51, w158_52, w158_53, w158_56, w158_58, w158_59, w158_60, w158_62, w158_65, w158_66, w158_67, w158_68, w158_71, kn_s, kn_n, zh_mk, zR_mk, zI_mk, zL_mk, zD_mk, wI_mk, wL_mk, wD_mk, zT_mk, zC_mk, kill_i, kill_r, kill_0, kill_n, kill_l, kill_q, zzk_r, zzk_0, zzk_q, zcat_r, zcat_i, zcat_0, cats_0, cats_i, cats_r, cats_l, cats_d, cats_f, rv_s, rv_0, Nat.reduceAdd, Nat.reduceLeDiff, Nat.add_zero, Nat.reduceMul, Nat.reduceSub, ne_eq, not_false_eq_true, not_true_eq_false, and_self, and_true, true_and, or_self, or_true, true_or, or_false, false_or, if_true, if_false, reduceIte, reduceCtorEq, implies_true, ite_self, ite_not, kM, kMr, kRow hw, sR_at, up2_r64, r64_at, o_add, o_sub, o_mul, o_neg, q_add, q_sub, q_mul, q_neg, o_32, cast_s, Int.toNat_natCast, l1, l2, l3, l7, pI, eq_false q, i00, ixc0, tnc0, o_64 (z := rvT f 10 200 p1) (by omega)]
theorem c167 (h0 : S.1.2.2.2.1 = 0) (hw : RW w) (hT : TR f n J) (hS : SW J) (hW : WF f n S.1) (hG : GA S.2.1 S.2.2.1 S.2.2.2 o) (hD : DR S.2.1 S.2.2.1 S.2.2.2) : Wp (d + 8) 167 0 [some (.ref 294)] [] (mk N t w (pR S.1 J) (sR L w (r64 S.2.1)) D) Q = Q (.inl none) (mk N t w (pR (stS f n S).1 J) (sR L w (r64 (stS f n S).2.1)) D) := by
  have l3 := fun Q => c160 (d := d + 3) (N := N) (t := t) (w := w) (L := sR L w (r64 S.2.1)) (D := D) (Q := Q) (a := 3) hT hS hW (by omega)
  have l4 := fun Q => c160 (d := d + 3) (N := N) (t := t) (w := w) (L := sR L w (r64 S.2.1)) (D := D) (Q := Q) (a := 4) hT hS hW (by omega)
  unfold stS
  by_cases h3 : iw f 3 S.1 = true
  · rw [if_pos h3]
    have hPR := poS_R (f := f) (n := n) (S := S)
    unfold poS
    generalize poEF f n S = pE at hPR ⊢
    have l5 := fun Q => c168 (d := d) (N := N) (t := t) (L := L) (D := D) (Q := Q) hPR h0 h3 hw hT hS hW hG
    simp only [w167_0, w167_1, w167_4, w167_7, w167_10, w167_11, w167_14, w167_17, w167_18, w167_21, w167_24, w167_27, w167_28, w167_31, w167_34, w167_35, w167_36, w167_39, kn_s, kn_n, zh_mk, zR_mk, zI_mk, zL_mk, zD_mk, wI_mk, wL_mk, wD_mk, zT_mk, zC_mk, kill_i, kill_r, kill_0, kill_n, kill_l, kill_q, zzk_r, zzk_0, zzk_q, zcat_r, zcat_i, zcat_0, cats_0, cats_i, cats_r, cats_l, cats_d, cats_f, rv_s, rv_0, Nat.reduceAdd, Nat.reduceLeDiff, Nat.add_zero, Nat.reduceMul, Nat.reduceSub, ne_eq, not_false_eq_true, not_true_eq_false, and_self, and_true, true_and, or_self, or_true, true_or, or_false, false_or, if_true, if_false, reduceIte, reduceCtorEq, implies_true, ite_self, ite_not, kM, l3, pI, h0, eq_true h3, and_self, i10, l5]
    by_cases hE : pE.2.2.2.1 = 0
    · rw [if_pos hE, if_pos hE]
    · rw [if_neg hE, if_neg hE]
  · rw [if_neg h3]
    by_cases h5 : iw f 4 S.1 = true
    · rw [if_pos h5]
      have hPR := baS_R (f := f) (n := n) (S := S)
      unfold baS
      generalize bqE f n S = pE at hPR ⊢
      have l5 := fun Q => c181 (d := d) (N := N) (t := t) (L := L) (D := D) (Q := Q) hPR h0 h5 hw hT hS hW hG hD.2.2.2
      simp only [w167_0, w167_1, w167_4, w167_7, w167_10, w167_11, w167_14, w167_17, w167_18, w167_21, w167_24, w167_27, w167_28, w167_31, w167_34, w167_35, w167_36, w167_39, kn_s, kn_n, zh_mk, zR_mk, zI_mk, zL_mk, zD_mk, wI_mk, wL_mk, wD_mk, zT_mk, zC_mk, kill_i, kill_r, kill_0, kill_n, kill_l, kill_q, zzk_r, zzk_0, zzk_q, zcat_r, zcat_i, zcat_0, cats_0, cats_i, cats_r, cats_l, cats_d, cats_f, rv_s, rv_0, Nat.reduceAdd, Nat.reduceLeDiff, Nat.add_zero, Nat.reduceMul, Nat.reduceSub, ne_eq, not_false_eq_true, not_true_eq_false, and_self, and_true, true_and, or_self, or_true, true_or, or_false, false_or, if_true, if_false, reduceIte, reduceCtorEq, implies_true, ite_self, ite_not, kM, l3, l4, pI, h0, eq_false h3, and_false, i00, eq_true h5, and_self, i10, l5]
      by_cases hE : pE.2.2.2.1 = 0
      · rw [if_pos hE, if_pos hE]
      · rw [if_neg hE, if_neg hE]
    · rw [if_neg h5]
      simp only [w167_0, w167_1, w167_4, w167_7, w167_10, w167_11, w167_14, w167_17, w167_18, w167_21, w167_24, w167_27, w167_28, w167_31, w167_34, w167_35, w167_36, w167_39, kn_s, kn_n, zh_mk, zR_mk, zI_mk, zL_mk, zD_mk, wI_mk, wL_mk, wD_mk, zT_mk, zC_mk, kill_i, kill_r, kill_0, kill_n, kill_l, kill_q, zzk_r, zzk_0, zzk_q, zcat_r, zcat_i, zcat_0, cats_0, cats_i, cats_r, cats_l, cats_d, cats_f, rv_s, rv_0, Nat.reduceAdd, Nat.reduceLeDiff, Nat.add_zero, Nat.reduceMul, Nat.reduceSub, ne_eq, not_false_eq_true, not_true_eq_false, and_self, and_true, true_and, or_self, or_true, true_or, or_false, false_or, if_true, if_false, reduceIte, reduceCtorEq, implies_true, ite_self, ite_not, kM, l3, l4, pI, h0, eq_false h3, and_false, i00, eq_false h5, c162 (c := 1) (z := 1) rfl (by omega) (WF_e hW)]
theorem c155_out {x : Option Value} {w : Nat} (hW : WF f n P) (hx : ¬ (P.2.2.2.1 = 0 ∧ P.2.2.1 ≠ 0)) : Wp (d + 9) 155 71 [some (.ref 294), x] [] (mk N t w (pR P J) L D) Q = Wp (d + 9) 155 92 [some (.ref 294), x] [] (mk N t w (pR P J) L D) Q := by
  have hk := WF_k hW
  rw [w155_71 zzk_r]
  by_cases g2 : P.2.2.2.1 = 0
  · have g3 : (P.2.2.1 : Int) = 0 := by
      have : P.2.2.1 = 0 := Decidable.byContradiction (fun q => hx ⟨g2, q⟩)
      omega
    simp only [w155_72, w155_75, w155_78, w155_79, w155_82, kn_s, kn_n, zh_mk, zR_mk, zI_mk, zL_mk, zD_mk, wI_mk, wL_mk, wD_mk, zT_mk, zC_mk, kill_i, kill_r, kill_0, kill_n, kill_l, kill_q, zzk_r, zzk_0, zzk_q, zcat_r, zcat_i, zcat_0, cats_0, cats_i, cats_r, cats_l, cats_d, cats_f, rv_s, rv_0, Nat.reduceAdd, Nat.reduceLeDiff, Nat.add_zero, Nat.reduceMul, Nat.reduceSub, ne_eq, not_false_eq_true, not_true_eq_false, and_self, and_true, true_and, or_self, or_true, true_or, or_false, false_or, if_true, if_false, reduceIte, reduceCtorEq, implies_true, ite_self, ite_not, kM, c161 (WF_e hW), pI, eq_true g2, i10, pR_17, o_eq (a := (P.2.2.1 : Int)) (b := 0) (by omega), eq_true g3]
  · simp only [w155_72, w155_75, w155_78, w155_79, w155_82, kn_s, kn_n, zh_mk, zR_mk, zI_mk, zL_mk, zD_mk, wI_mk, wL_mk, wD_mk, zT_mk, zC_mk, kill_i, kill_r, kill_0, kill_n, kill_l, kill_q, zzk_r, zzk_0, zzk_q, zcat_r, zcat_i, zcat_0, cats_0, cats_i, cats_r, cats_l, cats_d, cats_f, rv_s, rv_0, Nat.reduceAdd, Nat.reduceLeDiff, Nat.add_zero, Nat.reduceMul, Nat.reduceSub, ne_eq, not_false_eq_true, not_true_eq_false, and_self, and_true, true_and, or_self, or_true, true_or, or_false, false_or, if_true, if_false, reduceIte, reduceCtorEq, implies_true, ite_self, ite_not, kM, c161 (WF_e hW), pI, eq_false g2, i00]
theorem c155_71 (hw : RW w) (hT : TR f n J) (hS : SW J) {x : Option Value} : ∀ (r : Nat) (S : SS), WF f n S.1 → DR S.2.1 S.2.2.1 S.2.2.2 → (S.1.2.2.2.1 = 0 → n - S.1.1 ≤ r) → lgS f n r S → Wp (d + 9) 155 71 [some (.ref 294), x] [] (mk N t w (pR S.1 J) (sR L w (r64 S.2.1)) D) Q = Wp (d + 9) 155 92 [some (.ref 294), x] [] (mk N t w (pR (lpS f n r S).1 J) (sR L w (r64 (lpS f n r S).2.1)) D) Q := by
  have out : ∀ S : SS, WF f n S.1 → ¬ (S.1.2.2.2.1 = 0 ∧ S.1.2.2.1 ≠ 0) → Wp (d + 9) 155 71 [some (.ref 294), x] [] (mk N t w (pR S.1 J) (sR L w (r64 S.2.1)) D) Q = Wp (d + 9) 155 92 [some (.ref 294), x] [] (mk N t w (pR S.1 J) (sR L w (r64 S.2.1)) D) Q := by
    intro S hW hx
    have hk := WF_k hW
    rw [w155_71 zzk_r]
    by_cases g2 : S.1.2.2.2.1 = 0
    · have g3 : (S.1.2.2.1 : Int) = 0 := by
        have : S.1.2.2.1 = 0 := Decidable.byContradiction (fun q => hx ⟨g2, q⟩)
        omega
      simp only [w155_72, w155_75, w155_78, w155_79, w155_82, kn_s, kn_n, zh_mk, zR_mk, zI_mk, zL_mk, zD_mk, wI_mk, wL_mk, wD_mk, zT_mk, zC_mk, kill_i, kill_r, kill_0, kill_n, kill_l, kill_q, zzk_r, zzk_0, zzk_q, zcat_r, zcat_i, zcat_0, cats_0, cats_i, cats_r, cats_l, cats_d, cats_f, rv_s, rv_0, Nat.reduceAdd, Nat.reduceLeDiff, Nat.add_zero, Nat.reduceMul, Nat.reduceSub, ne_eq, not_false_eq_true, not_true_eq_false, and_self, and_true, true_and, or_self, or_true, true_or, or_false, false_or, if_true, if_false, reduceIte, reduceCtorEq, implies_true, ite_self, ite_not, kM, c161 (WF_e hW), pI, eq_true g2, i10, pR_17, o_eq (a := (S.1.2.2.1 : Int)) (b := 0) (by omega), eq_true g3]
    · simp only [w155_72, w155_75, w155_78, w155_79, w155_82, kn_s, kn_n, zh_mk, zR_mk, zI_mk, zL_mk, zD_mk, wI_mk, wL_mk, wD_mk, zT_mk, zC_mk, kill_i, kill_r, kill_0, kill_n, kill_l, kill_q, zzk_r, zzk_0, zzk_q, zcat_r, zcat_i, zcat_0, cats_0, cats_i, cats_r, cats_l, cats_d, cats_f, rv_s, rv_0, Nat.reduceAdd, Nat.reduceLeDiff, Nat.add_zero, Nat.reduceMul, Nat.reduceSub, ne_eq, not_false_eq_true, not_true_eq_false, and_self, and_true, true_and, or_self, or_true, true_or, or_false, false_or, if_true, if_false, reduceIte, reduceCtorEq, implies_true, ite_self, ite_not, kM, c161 (WF_e hW), pI, eq_false g2, i00]
  intro r
  induction r with
  | zero =>
    intro S hW hD hs _
    exact out S hW (fun q => by
      have a1 := hs q.1
      have a2 := hW.2.1.2.2.2 q.2
      have a3 := hW.1
      omega)
  | succ r ih =>
    intro S hW hD hs hg
    by_cases hx : S.1.2.2.2.1 = 0 ∧ S.1.2.2.1 ≠ 0
    · obtain ⟨⟨o, hG⟩, hg2⟩ := hg
      have hk := WF_k hW
      have g3 : ¬ ((S.1.2.2.1 : Int) = 0) := by omega
      obtain ⟨s1, s2, s3⟩ := st_ok hW hG hD
      have a1 := hs hx.1
      have a2 := hW.2.1.2.2.2 hx.2
      have a3 := hW.1
      have ih' := ih (stS f n S) s1 s3 (fun q => by
        have := s2 hx.1 q
        omega) (hg2 hx)
      have l5 := fun Q => c167 (d := d) (N := N) (t := t) (L := L) (D := D) (Q := Q) hx.1 hw hT hS hW hG hD
      rw [lpS_s, if_pos hx, ← ih', w155_71 zzk_r]
      simp only [w155_72, w155_75, w155_78, w155_79, w155_82, w155_85, w155_86, w155_89, kn_s, kn_n, zh_mk, zR_mk, zI_mk, zL_mk, zD_mk, wI_mk, wL_mk, wD_mk, zT_mk, zC_mk, kill_i, kill_r, kill_0, kill_n, kill_l, kill_q, zzk_r, zzk_0, zzk_q, zcat_r, zcat_i, zcat_0, cats_0, cats_i, cats_r, cats_l, cats_d, cats_f, rv_s, rv_0, Nat.reduceAdd, Nat.reduceLeDiff, Nat.add_zero, Nat.reduceMul, Nat.reduceSub, ne_eq, not_false_eq_true, not_true_eq_false, and_self, and_true, true_and, or_self, or_true, true_or, or_false, false_or, if_true, if_false, reduceIte, reduceCtorEq, implies_true, ite_self, ite_not, kM, c161 (WF_e hW), pI, hx.1, eq_self, i10, pR_17, o_eq (a := (S.1.2.2.1 : Int)) (b := 0) (by omega), eq_false g3, l5]
    · rw [lpS_x hx]
      exact out S hW hx
end S88
