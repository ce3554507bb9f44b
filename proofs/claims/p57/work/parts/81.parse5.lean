/-! THE PARSER of the class: statements, the whole -/
section S81a
variable {n bn bm : Nat} {f : Nat → Int} {P : PS} {α : Nat → Int}
theorem ch_ok {lo hi : Int} (h : (chT f lo hi P).2.2.2.1 = 0) : P.2.2.2.1 = 0 ∧ (lo ≤ cvT f lo P ∧ cvT f lo P ≤ hi) ∧ chT f lo hi P = P ∧ P.2.2.1 = 2 := by
  unfold chT cvT at *
  by_cases h2 : P.2.2.1 = 2
  · rw [if_pos h2] at h ⊢
    by_cases h3 : lo ≤ cnL f (P.2.1 - P.1) P.1 0 ∧ cnL f (P.2.1 - P.1) P.1 0 ≤ hi
    · rw [if_pos h3] at h ⊢
      rw [if_pos h2]
      exact ⟨h, h3, rfl, h2⟩
    · rw [if_neg h3] at h
      exact absurd h (flT_e (by omega))
  · rw [if_neg h2] at h
    exact absurd h (flT_e (by omega))
theorem tw_ok {a : Nat} (h : (twT f n a P).2.2.2.1 = 0) : P.2.2.2.1 = 0 ∧ iw f a P = true ∧ twT f n a P = nxT f n P := by
  unfold twT at *
  rw [nxT_e] at h
  by_cases h2 : iw f a P = true
  · rw [if_pos h2] at h ⊢
    exact ⟨h, h2, rfl⟩
  · rw [if_neg h2] at h
    exact absurd h (flT_e (by omega))
theorem sm_ok (h : (smT f n P).2.2.2.1 = 0) : P.2.2.2.1 = 0 ∧ syT f 59 P = true ∧ smT f n P = nxT f n P := by
  unfold smT at *
  rw [nxT_e] at h
  by_cases h2 : syT f 59 P = true
  · rw [if_pos h2] at h ⊢
    exact ⟨h, h2, rfl⟩
  · rw [if_neg h2] at h
    exact absurd h (flT_e (by omega))
theorem tc_ok (h : (tcT f n α bn bm P).2.2.2.1 = 0) : P.2.2.2.1 = 0 ∧ isF α bn bm (cvT f 0 P) ∧ tcT f n α bn bm P = nxT f n (chT f 0 (α 0 - 1) P) ∧ (chT f 0 (α 0 - 1) P).2.2.2.1 = 0 := by
  unfold tcT at *
  rw [nxT_e] at h
  by_cases h2 : isF α bn bm (cvT f 0 P)
  · rw [if_pos h2] at h ⊢
    exact ⟨(ch_ok h).1, h2, rfl, h⟩
  · rw [if_neg h2] at h
    exact absurd h (flT_e (by omega))
theorem nm_ok (h : (nmT f n α bn P).2.2.2.1 = 0) : P.2.2.2.1 = 0 ∧ pkN f P.1 P.2.1 ≠ 0 ∧ ¬ (kwT f P = true) ∧ nmF α bn (pkN f P.1 P.2.1) = -1 ∧ nmT f n α bn P = nxT f n P := by
  unfold nmT nm2 nm1 at *
  rw [nxT_e] at h
  by_cases h2 : nmF α bn (pkN f P.1 P.2.1) = -1
  · rw [if_pos h2] at h ⊢
    by_cases h3 : pkN f P.1 P.2.1 = 0 ∨ kwT f P = true
    · rw [if_pos h3] at h
      exact absurd h (flT_e (by omega))
    · rw [if_neg h3] at h ⊢
      exact ⟨h, fun q => h3 (Or.inl q), fun q => h3 (Or.inr q), h2, rfl⟩
  · rw [if_neg h2] at h
    exact absurd h (flT_e (by omega))
theorem if_ok {p : Prop} [Decidable p] {c : Nat} (hc : c ≠ 0) (h : (if p then flT c P else P).2.2.2.1 = 0) : ¬ p ∧ P.2.2.2.1 = 0 := by
  by_cases q : p
  · rw [if_pos q] at h
    exact absurd h (flT_e hc)
  · rw [if_neg q] at h
    exact ⟨q, h⟩
/-! a post's statement, a ball's -/
def poR (f : Nat → Int) (n : Nat) (α : Nat → Int) (bn bm : Nat) (P p1 pt p3 px pE : PS) : Prop := p1 = twT f n 3 (if 4 ≤ bm then flT 5 P else P) ∧ pt = tcT f n α bn bm p1 ∧ p3 = twT f n 2 pt ∧ px = nxT f n (chT f 0 100 p3) ∧ pE = smT f n px
def baR (f : Nat → Int) (n : Nat) (α : Nat → Int) (bn bm : Nat) (P p1 pn p2 pt p3 ps p4 px pE : PS) : Prop := p1 = twT f n 4 (if 10 ≤ bn then flT 5 P else P) ∧ pn = nmT f n α bn p1 ∧ p2 = twT f n 5 pn ∧ pt = tcT f n α bn bm p2 ∧ p3 = twT f n 6 pt ∧ ps = tsT f n p3 ∧ p4 = twT f n 7 ps ∧ px = nxT f n (chT f 1 20 p4) ∧ pE = smT f n px
theorem WF_if {p : Prop} [Decidable p] {c : Nat} (hc : c ≤ 5) (hW : WF f n P) : WF f n (if p then flT c P else P) := by
  split
  · exact WF_fl hc hW
  · exact hW
theorem WF_nm (hW : WF f n P) : WF f n (nmT f n α bn P) := WF_nx (WF_nm2 hW)
theorem poR_W {p1 pt p3 px pE : PS} (h : poR f n α bn bm P p1 pt p3 px pE) (hW : WF f n P) : WF f n p1 ∧ WF f n pt ∧ WF f n p3 ∧ WF f n px ∧ WF f n pE := by
  obtain ⟨e1, e2, e3, e4, e5⟩ := h
  have w1 : WF f n p1 := by rw [e1]; exact WF_twT (WF_if (by omega) hW)
  have w2 : WF f n pt := by rw [e2]; exact WF_tc w1
  have w3 : WF f n p3 := by rw [e3]; exact WF_twT w2
  have w4 : WF f n px := by rw [e4]; exact WF_nx (WF_ch w3)
  exact ⟨w1, w2, w3, w4, by rw [e5]; exact WF_sm w4⟩
theorem baR_W {p1 pn p2 pt p3 ps p4 px pE : PS} (h : baR f n α bn bm P p1 pn p2 pt p3 ps p4 px pE) (hW : WF f n P) : WF f n p1 ∧ WF f n pn ∧ WF f n p2 ∧ WF f n pt ∧ WF f n p3 ∧ WF f n ps ∧ WF f n p4 ∧ WF f n px ∧ WF f n pE := by
  obtain ⟨e1, e2, e3, e4, e5, e6, e7, e8, e9⟩ := h
  have w1 : WF f n p1 := by rw [e1]; exact WF_twT (WF_if (by omega) hW)
  have w2 : WF f n pn := by rw [e2]; exact WF_nm w1
  have w3 : WF f n p2 := by rw [e3]; exact WF_twT w2
  have w4 : WF f n pt := by rw [e4]; exact WF_tc w3
  have w5 : WF f n p3 := by rw [e5]; exact WF_twT w4
  have w6 : WF f n ps := by rw [e6]; exact WF_ts w5
  have w7 : WF f n p4 := by rw [e7]; exact WF_twT w6
  have w8 : WF f n px := by rw [e8]; exact WF_nx (WF_ch w7)
  exact ⟨w1, w2, w3, w4, w5, w6, w7, w8, by rw [e9]; exact WF_sm w8⟩
/-- a step forward -/
theorem tw_st {a : Nat} {p : PS} (hW : WF f n P) (e : p = twT f n a P) (h : p.2.2.2.1 = 0) : P.2.2.2.1 = 0 ∧ P.2.1 ≤ p.1 := by
  rw [e] at h ⊢
  obtain ⟨h1, -, h2⟩ := tw_ok h
  rw [h2]
  exact ⟨h1, nxT_pos hW h1⟩
theorem tc_st {p : PS} (hW : WF f n P) (e : p = tcT f n α bn bm P) (h : p.2.2.2.1 = 0) : P.2.2.2.1 = 0 ∧ P.2.1 ≤ p.1 ∧ isF α bn bm (cvT f 0 P) := by
  rw [e] at h ⊢
  obtain ⟨h1, h2, h3, h4⟩ := tc_ok h
  rw [h3, (ch_ok h4).2.2.1]
  exact ⟨h1, nxT_pos hW h1, h2⟩
theorem nm_st {p : PS} (hW : WF f n P) (e : p = nmT f n α bn P) (h : p.2.2.2.1 = 0) : P.2.2.2.1 = 0 ∧ P.2.1 ≤ p.1 ∧ (pkN f P.1 P.2.1 ≠ 0 ∧ ¬ (kwT f P = true) ∧ nmF α bn (pkN f P.1 P.2.1) = -1) := by
  rw [e] at h ⊢
  obtain ⟨h1, h2, h3, h4, h5⟩ := nm_ok h
  rw [h5]
  exact ⟨h1, nxT_pos hW h1, h2, h3, h4⟩
theorem ch_st {p : PS} {lo hi : Int} (hW : WF f n P) (e : p = nxT f n (chT f lo hi P)) (h : p.2.2.2.1 = 0) : P.2.2.2.1 = 0 ∧ P.2.1 ≤ p.1 ∧ (lo ≤ cvT f lo P ∧ cvT f lo P ≤ hi) ∧ P.1 < P.2.1 := by
  rw [e] at h ⊢
  rw [nxT_e] at h
  obtain ⟨h1, h2, h3, h4⟩ := ch_ok h
  rw [h3]
  exact ⟨h1, nxT_pos hW h1, h2, hW.2.1.2.2.2 (by omega)⟩
theorem sm_st {p : PS} (hW : WF f n P) (e : p = smT f n P) (h : p.2.2.2.1 = 0) : P.2.2.2.1 = 0 ∧ P.2.1 ≤ p.1 := by
  rw [e] at h ⊢
  obtain ⟨h1, -, h2⟩ := sm_ok h
  rw [h2]
  exact ⟨h1, nxT_pos hW h1⟩
theorem ts_st {p : PS} (hW : WF f n P) (e : p = tsT f n P) (h : p.2.2.2.1 = 0) : P.2.2.2.1 = 0 ∧ P.1 ≤ p.1 ∧ (-60 ≤ tsV f n P ∧ tsV f n P ≤ 60) := by
  unfold tsT tsP at e
  unfold tsV
  by_cases q : syT f 45 P = true
  · rw [if_pos q] at e ⊢
    obtain ⟨h1, h2, h3, h4⟩ := ch_st (WF_nx hW) e h
    rw [nxT_e] at h1
    have := nxT_pos hW h1
    have := hW.1.1
    exact ⟨h1, by omega, by omega⟩
  · rw [if_neg q] at e ⊢
    obtain ⟨h1, h2, h3, h4⟩ := ch_st hW e h
    exact ⟨h1, by omega, by omega⟩
/-- what a good post's statement says -/
theorem po_ok {p1 pt p3 px pE : PS} (hR : poR f n α bn bm P p1 pt p3 px pE) (hW : WF f n P) (h : pE.2.2.2.1 = 0) : P.2.2.2.1 = 0 ∧ bm < 4 ∧ isF α bn bm (cvT f 0 p1) ∧ (0 ≤ cvT f 0 p3 ∧ cvT f 0 p3 ≤ 100) ∧ P.1 < pE.1 := by
  obtain ⟨w1, w2, w3, w4, w5⟩ := poR_W hR hW
  obtain ⟨e1, e2, e3, e4, e5⟩ := hR
  obtain ⟨a1, a2⟩ := sm_st w4 e5 h
  obtain ⟨b1, b2, b3, b4⟩ := ch_st w3 e4 a1
  obtain ⟨c1, c2⟩ := tw_st w2 e3 b1
  obtain ⟨d1, d2, d3⟩ := tc_st w1 e2 c1
  obtain ⟨f1, f2⟩ := tw_st (WF_if (by omega) hW) e1 d1
  obtain ⟨g1, g2⟩ := if_ok (by omega) f1
  rw [if_neg g1] at f2
  have := hW.1.1
  have := w1.1.1
  have := w2.1.1
  have := w4.1.1
  exact ⟨g2, by omega, d3, b3, by omega⟩
theorem ba_ok {p1 pn p2 pt p3 ps p4 px pE : PS} (hR : baR f n α bn bm P p1 pn p2 pt p3 ps p4 px pE) (hW : WF f n P) (h : pE.2.2.2.1 = 0) : P.2.2.2.1 = 0 ∧ bn < 10 ∧ (pkN f p1.1 p1.2.1 ≠ 0 ∧ ¬ (kwT f p1 = true) ∧ nmF α bn (pkN f p1.1 p1.2.1) = -1) ∧ isF α bn bm (cvT f 0 p2) ∧ (-60 ≤ tsV f n p3 ∧ tsV f n p3 ≤ 60) ∧ (1 ≤ cvT f 1 p4 ∧ cvT f 1 p4 ≤ 20) ∧ P.1 < pE.1 := by
  obtain ⟨w1, w2, w3, w4, w5, w6, w7, w8, w9⟩ := baR_W hR hW
  obtain ⟨e1, e2, e3, e4, e5, e6, e7, e8, e9⟩ := hR
  obtain ⟨a1, a2⟩ := sm_st w8 e9 h
  obtain ⟨b1, b2, b3, b4⟩ := ch_st w7 e8 a1
  obtain ⟨c1, c2⟩ := tw_st w6 e7 b1
  obtain ⟨d1, d2, d3⟩ := ts_st w5 e6 c1
  obtain ⟨f1, f2⟩ := tw_st w4 e5 d1
  obtain ⟨g1, g2, g3⟩ := tc_st w3 e4 f1
  obtain ⟨h1, h2⟩ := tw_st w2 e3 g1
  obtain ⟨i1, i2, i3⟩ := nm_st w1 e2 h1
  obtain ⟨j1, j2⟩ := tw_st (WF_if (by omega) hW) e1 i1
  obtain ⟨k1, k2⟩ := if_ok (by omega) j1
  rw [if_neg k1] at j2
  have := hW.1.1
  have := w1.1.1
  have := w2.1.1
  have := w3.1.1
  have := w4.1.1
  have := w5.1.1
  have := w6.1.1
  have := w8.1.1
  exact ⟨k2, by omega, i3, g3, d3, b3, by omega⟩
end S81a
section S81b
variable {N : NX} {w : WX} {d t b n bn bm : Nat} {f : Nat → Int} {I J ℓ : Nat → Nat → Int32} {L μ : Nat → Nat → Int64} {D : Nat → Nat → UInt64} {Q : Rs → St → Prop} {P : PS} {α : Nat → Int} {o : Nat → Nat}
theorem c74 {p1 pt p3 px pE : PS} (hP : poR f n α bn bm P p1 pt p3 px pE) (hT : TC f n J) (hS : SW J) (hW : WF f n P) (hR : RL (gl 46 J) (gl 46 L) α bn bm o) (hG : GA α bn bm o) (hz : bm < 4 → α (P3 bm 2) = 0)
    (h1 : pE.2.2.2.1 ≠ 0 → Q (.inl none) (mk N t w (pC pE J) L D))
    (h2 : pE.2.2.2.1 = 0 → ∀ ℓ', RL ℓ' (gl 46 L) (poA α bm (cvT f 0 p1) (cvT f 0 p3)) bn (bm + 1) o → GA (poA α bm (cvT f 0 p1) (cvT f 0 p3)) bn (bm + 1) o → Q (.inl none) (mk N t w (pC pE (lay 46 ℓ' J)) L D)) : Wp (d + 6) 74 0 [some (.ref 73), none, none] [] (mk N t w (pC P J) L D) Q := by
  have hm4 := hG.2.1.1
  have hok := po_ok hP hW
  obtain ⟨w1, wt, w3, wx, wE⟩ := poR_W hP hW
  obtain ⟨e1, e2, e3, e4, e5⟩ := hP
  have em : pC P J 46 6 = Int32.ofInt (bm : Int) := rd_m (RL_pC hR)
  have er := WF_e wE
  have w0 : WF f n (if 4 ≤ bm then flT 5 P else P) := WF_if (by omega) hW
  have l1 := fun Q => c67 (d := d) (N := N) (t := t) (w := w) (L := L) (D := D) (Q := Q) (a := 3) hT hS w0 (by omega)
  have l2 := fun Q => c75 (d := d + 3) (N := N) (t := t) (w := w) (L := L) (D := D) (Q := Q) hT w1 hR hG
  have l3 := fun Q => c67 (d := d) (N := N) (t := t) (w := w) (L := L) (D := D) (Q := Q) (a := 2) hT hS wt (by omega)
  have l4 := fun Q => c70 (d := d + 3) (N := N) (t := t) (w := w) (L := L) (D := D) (Q := Q) (lo := 0) (hi := 100) hT w3 (by omega) (by omega)
  have l5 := fun Q => c72 (d := d + 3) (N := N) (t := t) (w := w) (L := L) (D := D) (Q := Q) hT wx
  simp only [← e1] at l1
  simp only [← e2] at l2
  simp only [← e3] at l3
  simp only [← e4] at l4
  simp only [← e5] at l5
  have tail : Wp (d + 6) 74 16 [some (.ref 73), none, none] [] (mk N t w (pC (if 4 ≤ bm then flT 5 P else P) J) L D) Q := by
    by_cases hE : pE.2.2.2.1 = 0
    · obtain ⟨-, hm, hF, hst, -⟩ := hok hE
      have hE' : (pE.2.2.2.1 : Int) = 0 := by omega
      have hR2 : RL (gl 46 (pC pE J)) (gl 46 L) α bn bm o := RL_pC hR
      have l6 := fun (x y : Int32) Q => c28r (d := d + 4) (N := N) (t := t) (w := w) (D := D) (Q := Q) (x := x) (y := y) LB_tr hR2 hm
      have hq := h2 hE _ (RL_post (c := cvT f 0 p1) (s := cvT f 0 p3) hR2 hm (hz hm)) (GA_post hG hm hF hst)
      rw [← pC_lay] at hq
      simp only [w74_16, w74_17, w74_19, w74_22, w74_23, w74_26, w74_27, w74_28, w74_30, w74_33, w74_34, w74_35, w74_37, w74_40, w74_41, w74_42, w74_45, w74_46, w74_49, w74_52, w74_53, w74_56, w74_57, w74_58, w74_61, kn_s, kn_n, zh_mk, zR_mk, zI_mk, zL_mk, zD_mk, wI_mk, wL_mk, wD_mk, zT_mk, zC_mk, kill_i, kill_r, kill_0, kill_n, kill_l, kill_q, zzk_r, zzk_0, zzk_q, zcat_r, zcat_i, zcat_0, zcat_q, cats_0, cats_i, cats_r, cats_l, cats_d, cats_f, cats_q, cats_n, rv_s, rv_0, Nat.reduceAdd, Nat.reduceLeDiff, Nat.reduceEqDiff, Nat.add_zero, Nat.reduceMul, Nat.reduceSub, ne_eq, not_false_eq_true, not_true_eq_false, and_self, and_true, true_and, or_self, or_true, true_or, or_false, false_or, if_true, if_false, reduceIte, reduceCtorEq, implies_true, ite_self, ite_not, lay_in, lay_0, up2_lay, up2_lay0, kh0, kh1, kh2, kh3, kh4, kh5, kh6, kh7, kh8, kh9, kh10, kh11, kh12, khB, khP, kr2, kr4, kr5, kr7, kr8, kr9, kr10, krB, krP, krG0, krG1, krG2, krG3, krK, Nat.reduceLT, o_add, o_sub, o_mul, o_neg, q_add, q_sub, q_mul, q_neg, o_32, cast_s, Int.toNat_natCast, LB_tr, k73, kr73_1, l1, l2, l3, l4, l5, pC_6, o_eq (a := (pE.2.2.2.1 : Int)) (b := 0) (by omega), eq_true hE', l6]
      exact hq
    · have hE' : ¬ ((pE.2.2.2.1 : Int) = 0) := by omega
      simp only [w74_16, w74_17, w74_19, w74_22, w74_23, w74_26, w74_27, w74_28, w74_30, w74_33, w74_34, w74_35, w74_37, w74_40, w74_41, w74_42, w74_45, w74_46, w74_49, w74_52, w74_53, w74_56, w74_57, w74_58, w74_61, kn_s, kn_n, zh_mk, zR_mk, zI_mk, zL_mk, zD_mk, wI_mk, wL_mk, wD_mk, zT_mk, zC_mk, kill_i, kill_r, kill_0, kill_n, kill_l, kill_q, zzk_r, zzk_0, zzk_q, zcat_r, zcat_i, zcat_0, zcat_q, cats_0, cats_i, cats_r, cats_l, cats_d, cats_f, cats_q, cats_n, rv_s, rv_0, Nat.reduceAdd, Nat.reduceLeDiff, Nat.reduceEqDiff, Nat.add_zero, Nat.reduceMul, Nat.reduceSub, ne_eq, not_false_eq_true, not_true_eq_false, and_self, and_true, true_and, or_self, or_true, true_or, or_false, false_or, if_true, if_false, reduceIte, reduceCtorEq, implies_true, ite_self, ite_not, lay_in, lay_0, up2_lay, up2_lay0, kh0, kh1, kh2, kh3, kh4, kh5, kh6, kh7, kh8, kh9, kh10, kh11, kh12, khB, khP, kr2, kr4, kr5, kr7, kr8, kr9, kr10, krB, krP, krG0, krG1, krG2, krG3, krK, Nat.reduceLT, o_add, o_sub, o_mul, o_neg, q_add, q_sub, q_mul, q_neg, o_32, cast_s, Int.toNat_natCast, LB_tr, k73, kr73_1, l1, l2, l3, l4, l5, pC_6, o_eq (a := (pE.2.2.2.1 : Int)) (b := 0) (by omega), eq_false hE']
      exact h1 hE
  by_cases h : 4 ≤ bm
  · have g : ¬ ((bm : Int) < 4) := by omega
    rw [if_pos h] at tail
    simp only [w74_0, w74_1, w74_4, w74_7, w74_8, w74_11, w74_12, w74_13, kn_s, kn_n, zh_mk, zR_mk, zI_mk, zL_mk, zD_mk, wI_mk, wL_mk, wD_mk, zT_mk, zC_mk, kill_i, kill_r, kill_0, kill_n, kill_l, kill_q, zzk_r, zzk_0, zzk_q, zcat_r, zcat_i, zcat_0, zcat_q, cats_0, cats_i, cats_r, cats_l, cats_d, cats_f, cats_q, cats_n, rv_s, rv_0, Nat.reduceAdd, Nat.reduceLeDiff, Nat.reduceEqDiff, Nat.add_zero, Nat.reduceMul, Nat.reduceSub, ne_eq, not_false_eq_true, not_true_eq_false, and_self, and_true, true_and, or_self, or_true, true_or, or_false, false_or, if_true, if_false, reduceIte, reduceCtorEq, implies_true, ite_self, ite_not, lay_in, lay_0, up2_lay, up2_lay0, kh0, kh1, kh2, kh3, kh4, kh5, kh6, kh7, kh8, kh9, kh10, kh11, kh12, khB, khP, kr2, kr4, kr5, kr7, kr8, kr9, kr10, krB, krP, krG0, krG1, krG2, krG3, krK, Nat.reduceLT, o_add, o_sub, o_mul, o_neg, q_add, q_sub, q_mul, q_neg, o_32, cast_s, Int.toNat_natCast, LB_tr, k73, kr73_1, em, o_lt (a := (bm : Int)) (b := 4) (by omega), g, c69 (c := 5) (z := 5) rfl (WF_e hW)]
    exact tail
  · have g : (bm : Int) < 4 := by omega
    rw [if_neg h] at tail
    simp only [w74_0, w74_1, w74_4, w74_7, w74_8, w74_11, w74_12, w74_13, kn_s, kn_n, zh_mk, zR_mk, zI_mk, zL_mk, zD_mk, wI_mk, wL_mk, wD_mk, zT_mk, zC_mk, kill_i, kill_r, kill_0, kill_n, kill_l, kill_q, zzk_r, zzk_0, zzk_q, zcat_r, zcat_i, zcat_0, zcat_q, cats_0, cats_i, cats_r, cats_l, cats_d, cats_f, cats_q, cats_n, rv_s, rv_0, Nat.reduceAdd, Nat.reduceLeDiff, Nat.reduceEqDiff, Nat.add_zero, Nat.reduceMul, Nat.reduceSub, ne_eq, not_false_eq_true, not_true_eq_false, and_self, and_true, true_and, or_self, or_true, true_or, or_false, false_or, if_true, if_false, reduceIte, reduceCtorEq, implies_true, ite_self, ite_not, lay_in, lay_0, up2_lay, up2_lay0, kh0, kh1, kh2, kh3, kh4, kh5, kh6, kh7, kh8, kh9, kh10, kh11, kh12, khB, khP, kr2, kr4, kr5, kr7, kr8, kr9, kr10, krB, krP, krG0, krG1, krG2, krG3, krK, Nat.reduceLT, o_add, o_sub, o_mul, o_neg, q_add, q_sub, q_mul, q_neg, o_32, cast_s, Int.toNat_natCast, LB_tr, k73, kr73_1, em, o_lt (a := (bm : Int)) (b := 4) (by omega), g]
    exact tail
theorem c76 {p1 pn p2 pt p3 ps p4 px pE : PS} (hP : baR f n α bn bm P p1 pn p2 pt p3 ps p4 px pE) (hT : TC f n J) (hS : SW J) (hW : WF f n P) (hR : RL (gl 46 J) (gl 46 L) α bn bm o) (hG : GA α bn bm o) (hN : ∀ i, i < bn → 0 ≤ α (B9 i 8) ∧ α (B9 i 8) < 2147483648)
    (h1 : pE.2.2.2.1 ≠ 0 → Q (.inl none) (mk N t w (pC pE J) L D))
    (h2 : pE.2.2.2.1 = 0 → ∀ ℓ' o', RL ℓ' (gl 46 L) (bdA α bn (cvT f 0 p2) (tsV f n p3) (cvT f 1 p4) (pkN f p1.1 p1.2.1)) (bn + 1) bm o' → GA (bdA α bn (cvT f 0 p2) (tsV f n p3) (cvT f 1 p4) (pkN f p1.1 p1.2.1)) (bn + 1) bm o' → Q (.inl none) (mk N t w (pC pE (lay 46 ℓ' J)) L D)) : Wp (d + 7) 76 0 [some (.ref 73), none, none, none, none] [] (mk N t w (pC P J) L D) Q := by
  have h10 := hG.1.1
  have hok := ba_ok hP hW
  obtain ⟨w1, wn, w2, wt, w3, ws, w4, wx, wE⟩ := baR_W hP hW
  obtain ⟨e1, e2, e3, e4, e5, e6, e7, e8, e9⟩ := hP
  have en : pC P J 46 3 = Int32.ofInt (bn : Int) := rd_n (RL_pC hR)
  have er := WF_e wE
  have w0 : WF f n (if 10 ≤ bn then flT 5 P else P) := WF_if (by omega) hW
  have l1 := fun Q => c67 (d := d + 1) (N := N) (t := t) (w := w) (L := L) (D := D) (Q := Q) (a := 4) hT hS w0 (by omega)
  have l2 := fun Q => c77 (d := d) (N := N) (t := t) (w := w) (L := L) (D := D) (Q := Q) hT hS w1 hR hG hN
  have l3 := fun Q => c67 (d := d + 1) (N := N) (t := t) (w := w) (L := L) (D := D) (Q := Q) (a := 5) hT hS wn (by omega)
  have l4 := fun Q => c75 (d := d + 4) (N := N) (t := t) (w := w) (L := L) (D := D) (Q := Q) hT w2 hR hG
  have l5 := fun Q => c67 (d := d + 1) (N := N) (t := t) (w := w) (L := L) (D := D) (Q := Q) (a := 6) hT hS wt (by omega)
  have l6 := fun Q => c80 (d := d + 3) (N := N) (t := t) (w := w) (L := L) (D := D) (Q := Q) hT w3
  have l7 := fun Q => c67 (d := d + 1) (N := N) (t := t) (w := w) (L := L) (D := D) (Q := Q) (a := 7) hT hS ws (by omega)
  have l8 := fun Q => c70 (d := d + 4) (N := N) (t := t) (w := w) (L := L) (D := D) (Q := Q) (lo := 1) (hi := 20) hT w4 (by omega) (by omega)
  have l9 := fun Q => c72 (d := d + 4) (N := N) (t := t) (w := w) (L := L) (D := D) (Q := Q) hT wx
  simp only [← e1] at l1
  simp only [← e2] at l2
  simp only [← e3] at l3
  simp only [← e4] at l4
  simp only [← e5] at l5
  simp only [← e6] at l6
  simp only [← e7] at l7
  simp only [← e8] at l8
  simp only [← e9] at l9
  have tail : Wp (d + 7) 76 17 [some (.ref 73), none, none, none, none] [] (mk N t w (pC (if 10 ≤ bn then flT 5 P else P) J) L D) Q := by
    by_cases hE : pE.2.2.2.1 = 0
    · obtain ⟨-, hn, -, hF, hsp, hwt, -⟩ := hok hE
      have hE' : (pE.2.2.2.1 : Int) = 0 := by omega
      have hR2 : RL (gl 46 (pC pE J)) (gl 46 L) α bn bm o := RL_pC hR
      simp only [w76_17, w76_18, w76_20, w76_23, w76_24, w76_27, w76_28, w76_29, w76_31, w76_34, w76_35, w76_38, w76_39, w76_40, w76_42, w76_45, w76_46, w76_49, w76_50, w76_51, w76_53, w76_56, w76_57, w76_58, w76_60, w76_63, w76_65, w76_66, w76_69, w76_70, w76_73, w76_76, w76_77, w76_80, w76_81, w76_82, w76_83, kn_s, kn_n, zh_mk, zR_mk, zI_mk, zL_mk, zD_mk, wI_mk, wL_mk, wD_mk, zT_mk, zC_mk, kill_i, kill_r, kill_0, kill_n, kill_l, kill_q, zzk_r, zzk_0, zzk_q, zcat_r, zcat_i, zcat_0, zcat_q, cats_0, cats_i, cats_r, cats_l, cats_d, cats_f, cats_q, cats_n, rv_s, rv_0, Nat.reduceAdd, Nat.reduceLeDiff, Nat.reduceEqDiff, Nat.add_zero, Nat.reduceMul, Nat.reduceSub, ne_eq, not_false_eq_true, not_true_eq_false, and_self, and_true, true_and, or_self, or_true, true_or, or_false, false_or, if_true, if_false, reduceIte, reduceCtorEq, implies_true, ite_self, ite_not, lay_in, lay_0, up2_lay, up2_lay0, kh0, kh1, kh2, kh3, kh4, kh5, kh6, kh7, kh8, kh9, kh10, kh11, kh12, khB, khP, kr2, kr4, kr5, kr7, kr8, kr9, kr10, krB, krP, krG0, krG1, krG2, krG3, krK, Nat.reduceLT, o_add, o_sub, o_mul, o_neg, q_add, q_sub, q_mul, q_neg, o_32, cast_s, Int.toNat_natCast, LB_tr, k73, kr73_1, l1, l2, l3, l4, l5, l6, l7, l8, l9, pC_6, o_eq (a := (pE.2.2.2.1 : Int)) (b := 0) (by omega), eq_true hE']
      rw [w76_85 (by decide) (by rw [zh_mk]; exact kh0 LB_tr)]
      refine c30r (d := d + 5) LB_tr hR2 hG hn hF hsp hwt (fun ℓ' o' q1 q2 => ?_)
      simp only [w76_88, kn_s, kn_n, zh_mk, zR_mk, zI_mk, zL_mk, zD_mk, wI_mk, wL_mk, wD_mk, zT_mk, zC_mk, kill_i, kill_r, kill_0, kill_n, kill_l, kill_q, zzk_r, zzk_0, zzk_q, zcat_r, zcat_i, zcat_0, zcat_q, cats_0, cats_i, cats_r, cats_l, cats_d, cats_f, cats_q, cats_n, rv_s, rv_0, Nat.reduceAdd, Nat.reduceLeDiff, Nat.reduceEqDiff, Nat.add_zero, Nat.reduceMul, Nat.reduceSub, ne_eq, not_false_eq_true, not_true_eq_false, and_self, and_true, true_and, or_self, or_true, true_or, or_false, false_or, if_true, if_false, reduceIte, reduceCtorEq, implies_true, ite_self, ite_not]
      have hq := h2 hE ℓ' o' q1 q2
      rw [← pC_lay] at hq
      exact hq
    · have hE' : ¬ ((pE.2.2.2.1 : Int) = 0) := by omega
      simp only [w76_17, w76_18, w76_20, w76_23, w76_24, w76_27, w76_28, w76_29, w76_31, w76_34, w76_35, w76_38, w76_39, w76_40, w76_42, w76_45, w76_46, w76_49, w76_50, w76_51, w76_53, w76_56, w76_57, w76_58, w76_60, w76_63, w76_65, w76_66, w76_69, w76_70, w76_73, w76_76, w76_77, w76_80, w76_81, w76_82, w76_83, w76_85, w76_88, kn_s, kn_n, zh_mk, zR_mk, zI_mk, zL_mk, zD_mk, wI_mk, wL_mk, wD_mk, zT_mk, zC_mk, kill_i, kill_r, kill_0, kill_n, kill_l, kill_q, zzk_r, zzk_0, zzk_q, zcat_r, zcat_i, zcat_0, zcat_q, cats_0, cats_i, cats_r, cats_l, cats_d, cats_f, cats_q, cats_n, rv_s, rv_0, Nat.reduceAdd, Nat.reduceLeDiff, Nat.reduceEqDiff, Nat.add_zero, Nat.reduceMul, Nat.reduceSub, ne_eq, not_false_eq_true, not_true_eq_false, and_self, and_true, true_and, or_self, or_true, true_or, or_false, false_or, if_true, if_false, reduceIte, reduceCtorEq, implies_true, ite_self, ite_not, lay_in, lay_0, up2_lay, up2_lay0, kh0, kh1, kh2, kh3, kh4, kh5, kh6, kh7, kh8, kh9, kh10, kh11, kh12, khB, khP, kr2, kr4, kr5, kr7, kr8, kr9, kr10, krB, krP, krG0, krG1, krG2, krG3, krK, Nat.reduceLT, o_add, o_sub, o_mul, o_neg, q_add, q_sub, q_mul, q_neg, o_32, cast_s, Int.toNat_natCast, LB_tr, k73, kr73_1, l1, l2, l3, l4, l5, l6, l7, l8, l9, pC_6, o_eq (a := (pE.2.2.2.1 : Int)) (b := 0) (by omega), eq_false hE']
      exact h1 hE
  by_cases h : 10 ≤ bn
  · have g : ¬ ((bn : Int) < 10) := by omega
    rw [if_pos h] at tail
    simp only [w76_0, w76_1, w76_4, w76_7, w76_9, w76_12, w76_13, w76_14, kn_s, kn_n, zh_mk, zR_mk, zI_mk, zL_mk, zD_mk, wI_mk, wL_mk, wD_mk, zT_mk, zC_mk, kill_i, kill_r, kill_0, kill_n, kill_l, kill_q, zzk_r, zzk_0, zzk_q, zcat_r, zcat_i, zcat_0, zcat_q, cats_0, cats_i, cats_r, cats_l, cats_d, cats_f, cats_q, cats_n, rv_s, rv_0, Nat.reduceAdd, Nat.reduceLeDiff, Nat.reduceEqDiff, Nat.add_zero, Nat.reduceMul, Nat.reduceSub, ne_eq, not_false_eq_true, not_true_eq_false, and_self, and_true, true_and, or_self, or_true, true_or, or_false, false_or, if_true, if_false, reduceIte, reduceCtorEq, implies_true, ite_self, ite_not, lay_in, lay_0, up2_lay, up2_lay0, kh0, kh1, kh2, kh3, kh4, kh5, kh6, kh7, kh8, kh9, kh10, kh11, kh12, khB, khP, kr2, kr4, kr5, kr7, kr8, kr9, kr10, krB, krP, krG0, krG1, krG2, krG3, krK, Nat.reduceLT, o_add, o_sub, o_mul, o_neg, q_add, q_sub, q_mul, q_neg, o_32, cast_s, Int.toNat_natCast, LB_tr, k73, kr73_1, en, o_lt (a := (bn : Int)) (b := 10) (by omega), g, c69 (c := 5) (z := 5) rfl (WF_e hW)]
    exact tail
  · have g : (bn : Int) < 10 := by omega
    rw [if_neg h] at tail
    simp only [w76_0, w76_1, w76_4, w76_7, w76_9, w76_12, w76_13, w76_14, kn_s, kn_n, zh_mk, zR_mk, zI_mk, zL_mk, zD_mk, wI_mk, wL_mk, wD_mk, zT_mk, zC_mk, kill_i, kill_r, kill_0, kill_n, kill_l, kill_q, zzk_r, zzk_0, zzk_q, zcat_r, zcat_i, zcat_0, zcat_q, cats_0, cats_i, cats_r, cats_l, cats_d, cats_f, cats_q, cats_n, rv_s, rv_0, Nat.reduceAdd, Nat.reduceLeDiff, Nat.reduceEqDiff, Nat.add_zero, Nat.reduceMul, Nat.reduceSub, ne_eq, not_false_eq_true, not_true_eq_false, and_self, and_true, true_and, or_self, or_true, true_or, or_false, false_or, if_true, if_false, reduceIte, reduceCtorEq, implies_true, ite_self, ite_not, lay_in, lay_0, up2_lay, up2_lay0, kh0, kh1, kh2, kh3, kh4, kh5, kh6, kh7, kh8, kh9, kh10, kh11, kh12, khB, khP, kr2, kr4, kr5, kr7, kr8, kr9, kr10, krB, krP, krG0, krG1, krG2, krG3, krK, Nat.reduceLT, o_add, o_sub, o_mul, o_neg, q_add, q_sub, q_mul, q_neg, o_32, cast_s, Int.toNat_natCast, LB_tr, k73, kr73_1, en, o_lt (a := (bn : Int)) (b := 10) (by omega), g]
    exact tail
end S81b
