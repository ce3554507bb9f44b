/-! THE PARSER of the reference: a ball's statement, the box, the statements in turn -/
theorem pkL_pos {f : Nat → Int} : ∀ (r i : Nat) (p : Int), (∀ j, i ≤ j → j < i + r → 97 ≤ f j ∧ f j ≤ 122) → 0 ≤ p → (0 < p ∨ 0 < r) → 0 < pkL f r i p
  | 0, _, _, _, _, h => by
    rcases h with h | h
    · exact h
    · omega
  | r + 1, i, p, h, hp, _ => by
    have h0 := h i (Nat.le_refl _) (by omega)
    rw [pkL_s, if_neg (by omega)]
    exact pkL_pos r (i + 1) _ (fun j h1 h2 => h j (by omega) (by omega)) (by omega) (Or.inl (by omega))
section S87
variable {d N t w n bn bm : Nat} {f : Nat → Int} {I J : Nat → Nat → Int32} {L : Nat → Nat → Int64} {D : Nat → Nat → UInt64} {Q : Rs → St → Prop} {P : PS} {α : Nat → Int} {o : Nat → Nat} {S : SS}
theorem pk_iff (hW : WF f n P) : pkN f P.1 P.2.1 = 0 ↔ ¬ (P.2.2.1 = 1 ∧ P.2.1 - P.1 ≤ 6) := by
  have h1 := hW.1
  have hk := hW.2.1
  have ha := hW.2.2.1
  unfold pkN
  by_cases h6 : P.1 + 6 < P.2.1
  · rw [if_pos h6]
    exact ⟨fun _ q => by omega, fun _ => rfl⟩
  · rw [if_neg h6]
    by_cases h : P.2.2.1 = 1
    · have := hk.2.2.2 (by omega)
      have := pkL_pos (f := f) (P.2.1 - P.1) P.1 0 (fun j h3 h4 => by
        have := ha j h3 (by omega)
        rw [h] at this
        exact (kd_1.1 this).2) (by omega) (by omega)
      exact ⟨fun q => by omega, fun q => absurd ⟨h, by omega⟩ q⟩
    · refine ⟨fun _ q => h q.1, fun _ => ?_⟩
      by_cases h0 : P.2.2.1 = 0
      · rw [hk.2.2.1 h0, Nat.sub_self]
        rfl
      · have hs := hk.2.2.2 h0
        refine pkL_0 _ _ _ ⟨P.1, by omega, by omega, fun q => h ?_⟩
        rw [hk.1]
        exact kd_1.2 ⟨by omega, q⟩
theorem pk_name (hW : WF f n P) (h : P.2.2.1 = 1 ∧ P.2.1 - P.1 ≤ 6) : nmL f (P.2.1 - P.1) P.1 0 = pkN f P.1 P.2.1 := by
  have h1 := hW.1
  unfold pkN
  rw [if_neg (by omega)]
  exact (pk_nm _ _ _ (fun j h3 h4 => by
    have := hW.2.2.1 j h3 (by omega)
    rw [h.1] at this
    exact (kd_1.1 this).2)).symm
theorem c181_23 (hw : RW w) (hT : TR f n J) (hS : SW J) (hW : WF f n P) (hG : GA α bn bm o) (hN : ∀ i, i < bn → 0 ≤ α (B9 i 8) ∧ α (B9 i 8) < 2147483648) : ∃ nm : Int, (0 ≤ nm ∧ nm < 2147483648) ∧ ((nmT f n α bn P).2.2.2.1 = 0 → nm = pkN f P.1 P.2.1) ∧ ∀ Q, Wp (d + 7) 181 23 [some (.ref 294), none, none, none, none, none] [] (mk N t w (pR P J) (sR L w (r64 α)) D) Q = Wp (d + 7) 181 119 [some (.ref 294), some (.int (Int32.ofInt nm)), none, none, none, none] [] (mk N t w (pR (nmT f n α bn P) J) (sR L w (r64 α)) D) Q := by
  have hr := WF_e hW
  have hk := WF_k hW
  have h1 := hW.1
  have h4 := hT.1
  have hp := pkN_b (f := f) (a := P.1) (e := P.2.1)
  have nm0 : nmF α bn 0 = -1 := by unfold nmF; rw [if_pos rfl]
  have W1 : WF f n (nm1 f P) := WF_nm1 hW
  have W2 : WF f n (nm2 f α bn P) := WF_nm2 hW
  have WN : WF f n (nmT f n α bn P) := WF_nx W2
  have l170 := fun (P : PS) (c : Nat) (z : Int) (hz : z = (c : Int)) (hc : c ≠ 0) (hr : P.2.2.2.1 ≤ 5) (Q : Rs → St → Prop) => c170 (d := d + 4) (N := N) (t := t) (w := w) (J := J) (L := sR L w (r64 α)) (D := D) (Q := Q) (P := P) (p := True) (c := c) (z := z) hz hc hr
  have m170 := fun (P : PS) (c : Nat) (z : Int) (hz : z = (c : Int)) (hc : c ≠ 0) (hr : P.2.2.2.1 ≤ 5) (Q : Rs → St → Prop) => c170 (d := d + 4) (N := N) (t := t) (w := w) (J := J) (L := sR L w (r64 α)) (D := D) (Q := Q) (P := P) (p := False) (c := c) (z := z) hz hc hr
  simp only [pI, if_true] at l170
  simp only [pI, if_false] at m170
  have n184 := fun (P : PS) (Q : Rs → St → Prop) (z : Int) (hz : 0 ≤ z ∧ z < 2147483648) => c184 (d := d + 5) (N := N) (t := t) (w := w) (I := pR P J) (L := L) (D := D) (Q := Q) hw hG.1 hN (z := z) hz
  by_cases h0 : P.2.2.2.1 = 0
  · by_cases hc : pkN f P.1 P.2.1 = 0 ∨ kwT f P = true
    · have e1 : nm1 f P = flT 1 P := by unfold nm1; rw [if_pos hc]
      have hfe : (flT 1 P).2.2.2.1 ≠ 0 := flT_e (by omega)
      have e2 : nm2 f α bn P = flT 1 P := by
        unfold nm2
        rw [e1]
        split
        · rfl
        · exact flT_x hfe
      have e3 : nmT f n α bn P = flT 1 P := by unfold nmT; rw [e2]; exact nxT_x hfe
      have hF : WF f n (flT 1 P) := WF_fl (by omega) hW
      refine ⟨0, by omega, fun q => ?_, fun Q => ?_⟩
      · rw [e3] at q; exact absurd q hfe
      · rw [e3]
        have tl : Wp (d + 7) 181 66 [some (.ref 294), none, none, none, none, none] [.int (Int32.ofInt 1), .int (Int32.ofInt 1), .ref 294] (mk N t w (pR P J) (sR L w (r64 α)) D) Q = Wp (d + 7) 181 119 [some (.ref 294), some (.int (Int32.ofInt 0)), none, none, none, none] [] (mk N t w (pR (flT 1 P) J) (sR L w (r64 α)) D) Q := by
          have x1 := c163 (d := d + 4) (N := N) (t := t) (w := w) (J := J) (L := sR L w (r64 α)) (D := D) (Q := kn (d + 6 + 1) 181 116 119 [some (.ref 294), some (.int (Int32.ofInt 0)), none, none, none, none] [] Q) hT hF
          rw [nxT_x hfe] at x1
          simp only [w181_66, w181_69, w181_70, w181_73, w181_76, w181_77, w181_80, w181_81, w181_84, w181_85, w181_88, w181_91, w181_94, w181_95, w181_96, w181_97, w181_98, w181_99, w181_102, w181_103, w181_106, w181_107, w181_110, w181_111, w181_112, w181_115, w181_116, kn_s, kn_n, zh_mk, zR_mk, zI_mk, zL_mk, zD_mk, wI_mk, wL_mk, wD_mk, zT_mk, zC_mk, kill_i, kill_r, kill_0, kill_n, kill_l, kill_q, zzk_r, zzk_0, zzk_q, zcat_r, zcat_i, zcat_0, cats_0, cats_i, cats_r, cats_l, cats_d, cats_f, rv_s, rv_0, Nat.reduceAdd, Nat.reduceLeDiff, Nat.add_zero, Nat.reduceMul, Nat.reduceSub, ne_eq, not_false_eq_true, not_true_eq_false, and_self, and_true, true_and, or_self, or_true, true_or, or_false, false_or, if_true, if_false, reduceIte, reduceCtorEq, implies_true, ite_self, ite_not, kM, kMr, kRow hw, sR_at, up2_r64, r64_at, o_add, o_sub, o_mul, o_neg, q_add, q_sub, q_mul, q_neg, o_32, cast_s, Int.toNat_natCast, l170 P 1 1 rfl (by omega) hr, c161 (WF_e hF), pI, eq_false hfe, i00, n184 _ _ 0 (by omega), nm0, m170 (flT 1 P) 3 3 rfl (by omega) (WF_e hF)]
          exact x1
        refine Eq.trans ?_ tl
        by_cases k1 : P.2.2.1 = 1
        · have k1' : (P.2.2.1 : Int) = 1 := by omega
          by_cases k6 : 6 < (P.2.1 : Int) - (P.1 : Int)
          · simp only [w181_23, w181_24, w181_25, w181_28, w181_31, w181_32, w181_35, w181_36, w181_39, w181_40, w181_43, w181_44, w181_47, w181_48, w181_50, w181_53, w181_54, w181_57, w181_60, w181_61, w181_64, w181_65, kn_s, kn_n, zh_mk, zR_mk, zI_mk, zL_mk, zD_mk, wI_mk, wL_mk, wD_mk, zT_mk, zC_mk, kill_i, kill_r, kill_0, kill_n, kill_l, kill_q, zzk_r, zzk_0, zzk_q, zcat_r, zcat_i, zcat_0, cats_0, cats_i, cats_r, cats_l, cats_d, cats_f, rv_s, rv_0, Nat.reduceAdd, Nat.reduceLeDiff, Nat.add_zero, Nat.reduceMul, Nat.reduceSub, ne_eq, not_false_eq_true, not_true_eq_false, and_self, and_true, true_and, or_self, or_true, true_or, or_false, false_or, if_true, if_false, reduceIte, reduceCtorEq, implies_true, ite_self, ite_not, o_sub, kM, c161 hr, pI, eq_true h0, i10, pR_15, pR_16, pR_17, o_eq (a := (P.2.2.1 : Int)) (b := 1) (by omega), eq_true k1', o_lt (a := 6) (b := (P.2.1 : Int) - (P.1 : Int)) (by omega), eq_true k6]
          · have kk : kwT f P = true := hc.resolve_left (fun q => (pk_iff hW).1 q ⟨k1, by omega⟩)
            have l182 := fun Q => c182 (d := d + 1) (N := N) (t := t) (w := w) (L := sR L w (r64 α)) (D := D) (Q := Q) hT hS hW h0
            simp only [w181_23, w181_24, w181_25, w181_28, w181_31, w181_32, w181_35, w181_36, w181_39, w181_40, w181_43, w181_44, w181_47, w181_48, w181_50, w181_53, w181_54, w181_57, w181_60, w181_61, w181_64, w181_65, kn_s, kn_n, zh_mk, zR_mk, zI_mk, zL_mk, zD_mk, wI_mk, wL_mk, wD_mk, zT_mk, zC_mk, kill_i, kill_r, kill_0, kill_n, kill_l, kill_q, zzk_r, zzk_0, zzk_q, zcat_r, zcat_i, zcat_0, cats_0, cats_i, cats_r, cats_l, cats_d, cats_f, rv_s, rv_0, Nat.reduceAdd, Nat.reduceLeDiff, Nat.add_zero, Nat.reduceMul, Nat.reduceSub, ne_eq, not_false_eq_true, not_true_eq_false, and_self, and_true, true_and, or_self, or_true, true_or, or_false, false_or, if_true, if_false, reduceIte, reduceCtorEq, implies_true, ite_self, ite_not, o_sub, kM, c161 hr, pI, eq_true h0, i10, pR_15, pR_16, pR_17, o_eq (a := (P.2.2.1 : Int)) (b := 1) (by omega), eq_true k1', o_lt (a := 6) (b := (P.2.1 : Int) - (P.1 : Int)) (by omega), eq_false k6, l182, eq_true kk]
        · have k1' : ¬ ((P.2.2.1 : Int) = 1) := by omega
          simp only [w181_23, w181_24, w181_25, w181_28, w181_31, w181_32, w181_35, w181_36, w181_39, w181_40, w181_43, w181_44, w181_47, w181_48, w181_50, w181_53, w181_54, w181_57, w181_60, w181_61, w181_64, w181_65, kn_s, kn_n, zh_mk, zR_mk, zI_mk, zL_mk, zD_mk, wI_mk, wL_mk, wD_mk, zT_mk, zC_mk, kill_i, kill_r, kill_0, kill_n, kill_l, kill_q, zzk_r, zzk_0, zzk_q, zcat_r, zcat_i, zcat_0, cats_0, cats_i, cats_r, cats_l, cats_d, cats_f, rv_s, rv_0, Nat.reduceAdd, Nat.reduceLeDiff, Nat.add_zero, Nat.reduceMul, Nat.reduceSub, ne_eq, not_false_eq_true, not_true_eq_false, and_self, and_true, true_and, or_self, or_true, true_or, or_false, false_or, if_true, if_false, reduceIte, reduceCtorEq, implies_true, ite_self, ite_not, kM, c161 hr, pI, eq_true h0, i10, pR_17, o_eq (a := (P.2.2.1 : Int)) (b := 1) (by omega), eq_false k1']
    · have e1 : nm1 f P = P := by unfold nm1; rw [if_neg hc]
      have hpk : P.2.2.1 = 1 ∧ P.2.1 - P.1 ≤ 6 := Decidable.byContradiction (fun q => hc (Or.inl ((pk_iff hW).2 q)))
      have k1' : (P.2.2.1 : Int) = 1 := by omega
      have k6 : ¬ (6 < (P.2.1 : Int) - (P.1 : Int)) := by omega
      have kk : ¬ (kwT f P = true) := fun q => hc (Or.inr q)
      have hnm := nmF_b (α := α) (bn := bn) (z := pkN f P.1 P.2.1) hG.1.1
      refine ⟨pkN f P.1 P.2.1, by omega, fun _ => rfl, fun Q => ?_⟩
      have l182 := fun Q => c182 (d := d + 1) (N := N) (t := t) (w := w) (L := sR L w (r64 α)) (D := D) (Q := Q) hT hS hW h0
      have l183 := fun (Q : Rs → St → Prop) => c183 (d := d + 6) (N := N) (t := t) (w := w) (I := pR P J) (L := sR L w (r64 α)) (D := D) (Q := Q) (A := 298) (a := P.1) (e := P.2.1) (f := f) k298 h1.1 (by omega) (fun j hj => by rw [pR_o (by omega)]; exact hT.2.2 j (by omega))
      rw [pk_name hW hpk] at l183
      unfold nmT nm2
      rw [e1]
      by_cases hf : nmF α bn (pkN f P.1 P.2.1) = -1
      · have x1 := c163 (d := d + 4) (N := N) (t := t) (w := w) (J := J) (L := sR L w (r64 α)) (D := D) (Q := kn (d + 6 + 1) 181 116 119 [some (.ref 294), some (.int (Int32.ofInt (pkN f P.1 P.2.1))), none, none, none, none] [] Q) hT hW
        rw [if_pos hf]
        refine Eq.trans ?_ (x1.trans ?_)
        · simp only [w181_23, w181_24, w181_25, w181_28, w181_31, w181_32, w181_35, w181_36, w181_39, w181_40, w181_43, w181_44, w181_47, w181_48, w181_50, w181_53, w181_54, w181_57, w181_60, w181_61, w181_64, w181_65, w181_66, w181_69, w181_70, w181_73, w181_76, w181_77, w181_80, w181_81, w181_84, w181_85, w181_88, w181_91, w181_94, w181_95, w181_96, w181_97, w181_98, w181_99, w181_102, w181_103, w181_106, w181_107, w181_110, w181_111, w181_112, w181_115, w181_116, kn_s, kn_n, zh_mk, zR_mk, zI_mk, zL_mk, zD_mk, wI_mk, wL_mk, wD_mk, zT_mk, zC_mk, kill_i, kill_r, kill_0, kill_n, kill_l, kill_q, zzk_r, zzk_0, zzk_q, zcat_r, zcat_i, zcat_0, cats_0, cats_i, cats_r, cats_l, cats_d, cats_f, rv_s, rv_0, Nat.reduceAdd, Nat.reduceLeDiff, Nat.add_zero, Nat.reduceMul, Nat.reduceSub, ne_eq, not_false_eq_true, not_true_eq_false, and_self, and_true, true_and, or_self, or_true, true_or, or_false, false_or, if_true, if_false, reduceIte, reduceCtorEq, implies_true, ite_self, ite_not, kM, kMr, kRow hw, sR_at, up2_r64, r64_at, o_add, o_sub, o_mul, o_neg, q_add, q_sub, q_mul, q_neg, o_32, cast_s, Int.toNat_natCast, c161 hr, pI, eq_true h0, i10, i00, pR_15, pR_16, pR_17, k298, kr294_12, o_eq (a := (P.2.2.1 : Int)) (b := 1) (by omega), eq_true k1', o_lt (a := 6) (b := (P.2.1 : Int) - (P.1 : Int)) (by omega), eq_false k6, l182, eq_false kk, m170 P 1 1 rfl (by omega) hr, l183, n184 _ _ (pkN f P.1 P.2.1) (by omega), o_eq (a := nmF α bn (pkN f P.1 P.2.1)) (b := -1) (by omega), eq_true hf, m170 P 3 3 rfl (by omega) hr]
        · simp only [kn_s, kn_n, zh_mk, zR_mk, zI_mk, zL_mk, zD_mk, wI_mk, wL_mk, wD_mk, zT_mk, zC_mk, kill_i, kill_r, kill_0, kill_n, kill_l, kill_q, zzk_r, zzk_0, zzk_q, zcat_r, zcat_i, zcat_0, cats_0, cats_i, cats_r, cats_l, cats_d, cats_f, rv_s, rv_0, Nat.reduceAdd, Nat.reduceLeDiff, Nat.add_zero, Nat.reduceMul, Nat.reduceSub, ne_eq, not_false_eq_true, not_true_eq_false, and_self, and_true, true_and, or_self, or_true, true_or, or_false, false_or, if_true, if_false, reduceIte, reduceCtorEq, implies_true, ite_self, ite_not]
      · have hF : WF f n (flT 3 P) := WF_fl (by omega) hW
        have x1 := c163 (d := d + 4) (N := N) (t := t) (w := w) (J := J) (L := sR L w (r64 α)) (D := D) (Q := kn (d + 6 + 1) 181 116 119 [some (.ref 294), some (.int (Int32.ofInt (pkN f P.1 P.2.1))), none, none, none, none] [] Q) hT hF
        rw [if_neg hf]
        refine Eq.trans ?_ (x1.trans ?_)
        · simp only [w181_23, w181_24, w181_25, w181_28, w181_31, w181_32, w181_35, w181_36, w181_39, w181_40, w181_43, w181_44, w181_47, w181_48, w181_50, w181_53, w181_54, w181_57, w181_60, w181_61, w181_64, w181_65, w181_66, w181_69, w181_70, w181_73, w181_76, w181_77, w181_80, w181_81, w181_84, w181_85, w181_88, w181_91, w181_94, w181_95, w181_96, w181_97, w181_98, w181_99, w181_102, w181_103, w181_106, w181_107, w181_110, w181_111, w181_112, w181_115, w181_116, kn_s, kn_n, zh_mk, zR_mk, zI_mk, zL_mk, zD_mk, wI_mk, wL_mk, wD_mk, zT_mk, zC_mk, kill_i, kill_r, kill_0, kill_n, kill_l, kill_q, zzk_r, zzk_0, zzk_q, zcat_r, zcat_i, zcat_0, cats_0, cats_i, cats_r, cats_l, cats_d, cats_f, rv_s, rv_0, Nat.reduceAdd, Nat.reduceLeDiff, Nat.add_zero, Nat.reduceMul, Nat.reduceSub, ne_eq, not_false_eq_true, not_true_eq_false, and_self, and_true, true_and, or_self, or_true, true_or, or_false, false_or, if_true, if_false, reduceIte, reduceCtorEq, implies_true, ite_self, ite_not, kM, kMr, kRow hw, sR_at, up2_r64, r64_at, o_add, o_sub, o_mul, o_neg, q_add, q_sub, q_mul, q_neg, o_32, cast_s, Int.toNat_natCast, c161 hr, pI, eq_true h0, i10, i00, pR_15, pR_16, pR_17, k298, kr294_12, o_eq (a := (P.2.2.1 : Int)) (b := 1) (by omega), eq_true k1', o_lt (a := 6) (b := (P.2.1 : Int) - (P.1 : Int)) (by omega), eq_false k6, l182, eq_false kk, m170 P 1 1 rfl (by omega) hr, l183, n184 _ _ (pkN f P.1 P.2.1) (by omega), o_eq (a := nmF α bn (pkN f P.1 P.2.1)) (b := -1) (by omega), eq_false hf, l170 P 3 3 rfl (by omega) hr]
        · simp only [kn_s, kn_n, zh_mk, zR_mk, zI_mk, zL_mk, zD_mk, wI_mk, wL_mk, wD_mk, zT_mk, zC_mk, kill_i, kill_r, kill_0, kill_n, kill_l, kill_q, zzk_r, zzk_0, zzk_q, zcat_r, zcat_i, zcat_0, cats_0, cats_i, cats_r, cats_l, cats_d, cats_f, rv_s, rv_0, Nat.reduceAdd, Nat.reduceLeDiff, Nat.add_zero, Nat.reduceMul, Nat.reduceSub, ne_eq, not_false_eq_true, not_true_eq_false, and_self, and_true, true_and, or_self, or_true, true_or, or_false, false_or, if_true, if_false, reduceIte, reduceCtorEq, implies_true, ite_self, ite_not]
  · have e1 : nm1 f P = P := by
      unfold nm1
      split
      · exact flT_x h0
      · rfl
    have e2 : nm2 f α bn P = P := by
      unfold nm2
      rw [e1]
      split
      · rfl
      · exact flT_x h0
    have e3 : nmT f n α bn P = P := by unfold nmT; rw [e2]; exact nxT_x h0
    refine ⟨0, by omega, fun q => ?_, fun Q => ?_⟩
    · rw [e3] at q; exact absurd q h0
    · rw [e3]
      have x1 := c163 (d := d + 4) (N := N) (t := t) (w := w) (J := J) (L := sR L w (r64 α)) (D := D) (Q := kn (d + 6 + 1) 181 116 119 [some (.ref 294), some (.int (Int32.ofInt 0)), none, none, none, none] [] Q) hT hW
      rw [nxT_x h0] at x1
      refine Eq.trans ?_ (x1.trans ?_)
      · simp only [w181_23, w181_24, w181_25, w181_28, w181_31, w181_32, w181_35, w181_36, w181_39, w181_40, w181_43, w181_44, w181_47, w181_48, w181_50, w181_53, w181_54, w181_57, w181_60, w181_61, w181_64, w181_65, w181_66, w181_69, w181_70, w181_73, w181_76, w181_77, w181_80, w181_81, w181_84, w181_85, w181_88, w181_91, w181_94, w181_95, w181_96, w181_97, w181_98, w181_99, w181_102, w181_103, w181_106, w181_107, w181_110, w181_111, w181_112, w181_115, w181_116, kn_s, kn_n, zh_mk, zR_mk, zI_mk, zL_mk, zD_mk, wI_mk, wL_mk, wD_mk, zT_mk, zC_mk, kill_i, kill_r, kill_0, kill_n, kill_l, kill_q, zzk_r, zzk_0, zzk_q, zcat_r, zcat_i, zcat_0, cats_0, cats_i, cats_r, cats_l, cats_d, cats_f, rv_s, rv_0, Nat.reduceAdd, Nat.reduceLeDiff, Nat.add_zero, Nat.reduceMul, Nat.reduceSub, ne_eq, not_false_eq_true, not_true_eq_false, and_self, and_true, true_and, or_self, or_true, true_or, or_false, false_or, if_true, if_false, reduceIte, reduceCtorEq, implies_true, ite_self, ite_not, kM, kMr, kRow hw, sR_at, up2_r64, r64_at, o_add, o_sub, o_mul, o_neg, q_add, q_sub, q_mul, q_neg, o_32, cast_s, Int.toNat_natCast, c161 hr, pI, eq_false h0, i00, m170 P 1 1 rfl (by omega) hr, n184 _ _ 0 (by omega), nm0, m170 P 3 3 rfl (by omega) hr]
      · simp only [kn_s, kn_n, zh_mk, zR_mk, zI_mk, zL_mk, zD_mk, wI_mk, wL_mk, wD_mk, zT_mk, zC_mk, kill_i, kill_r, kill_0, kill_n, kill_l, kill_q, zzk_r, zzk_0, zzk_q, zcat_r, zcat_i, zcat_0, cats_0, cats_i, cats_r, cats_l, cats_d, cats_f, rv_s, rv_0, Nat.reduceAdd, Nat.reduceLeDiff, Nat.add_zero, Nat.reduceMul, Nat.reduceSub, ne_eq, not_false_eq_true, not_true_eq_false, and_self, and_true, true_and, or_self, or_true, true_or, or_false, false_or, if_true, if_false, reduceIte, reduceCtorEq, implies_true, ite_self, ite_not]
theorem c181 {p1 pn p2 pt p3 ps p4 px pE : PS} (hP : baR f n α bn bm P p1 pn p2 pt p3 ps p4 px pE) (h0 : P.2.2.2.1 = 0) (hi : iw f 4 P = true) (hw : RW w) (hT : TR f n J) (hS : SW J) (hW : WF f n P) (hG : GA α bn bm o) (hN : ∀ i, i < bn → 0 ≤ α (B9 i 8) ∧ α (B9 i 8) < 2147483648) : Wp (d + 7) 181 0 [some (.ref 294), none, none, none, none, none] [] (mk N t w (pR P J) (sR L w (r64 α)) D) Q = Q (.inl none) (mk N t w (pR pE J) (sR L w (r64 (if pE.2.2.2.1 = 0 then bdA α bn (cvT f 0 p2) (tsV f n p3) (cvT f 1 p4) (pkN f p1.1 p1.2.1) else α))) D) := by
  have hn10 := hG.1.1
  have h2 := hG.1.2.1
  have ha0 : 10 ≤ α 0 ∧ α 0 ≤ 200 := ⟨hG.1.2.2.1, hG.1.2.2.2.1⟩
  have hok := ba_ok hP hW
  obtain ⟨w1, wn, w2, wt, w3, ws, w4, wx, wE⟩ := baR_W hP hW
  obtain ⟨e1, e2, e3, e4, e5, e6, e7, e8, e9⟩ := hP
  have w0 : WF f n (if 10 ≤ bn then flT 5 P else P) := WF_if (by omega) hW
  have l0 : ∀ Q, Wp (d + 6) 170 0 [some (.ref 294), some (.int (Int32.ofInt (if (bn : Int) = 10 then 1 else 0))), some (.int (Int32.ofInt 5))] [] (mk N t w (pR P J) (sR L w (r64 α)) D) Q = Q (.inl none) (mk N t w (pR (if 10 ≤ bn then flT 5 P else P) J) (sR L w (r64 α)) D) := fun Q => by
    have l := c170 (d := d + 4) (N := N) (t := t) (w := w) (J := J) (L := sR L w (r64 α)) (D := D) (Q := Q) (p := 10 ≤ bn) (c := 5) (z := 5) rfl (by omega) (WF_e hW)
    have e : Int32.ofInt (if (bn : Int) = 10 then 1 else 0) = pI (10 ≤ bn) := by
      unfold pI
      by_cases q : 10 ≤ bn
      · rw [if_pos q, if_pos (by omega)]
      · rw [if_neg q, if_neg (by omega)]
    rw [e]
    exact l
  have l1 := fun Q => c163 (d := d + 4) (N := N) (t := t) (w := w) (L := sR L w (r64 α)) (D := D) (Q := Q) hT w0
  rw [← tw_nx (a := 4) (f := f) (n := n) (by rw [iw_if]; exact hi), ← e1] at l1
  obtain ⟨nm, hnm1, hnm2, l2⟩ := c181_23 (d := d) (N := N) (t := t) (L := L) (D := D) hw hT hS w1 hG hN
  have l3 := fun Q => c159 (d := d + 1) (N := N) (t := t) (w := w) (L := sR L w (r64 α)) (D := D) (Q := Q) (a := 5) hT hS wn (by omega)
  have l4 := fun Q => c171 (d := d + 3) (N := N) (t := t) (w := w) (L := L) (D := D) (Q := Q) hw hT w2 hG
  have l5 := fun Q => c185 (d := d) (N := N) (t := t) (w := w) (L := sR L w (r64 α)) (D := D) (Q := Q) hT hS wt
  have l6 := fun Q => c180 (d := d) (N := N) (t := t) (w := w) (L := sR L w (r64 α)) (D := D) (Q := Q) (a := 7) (lo := 1) (hi := 20) hT hS ws (by omega) (by omega) (by omega)
  have l7 := fun Q => c166 (d := d + 3) (N := N) (t := t) (w := w) (L := sR L w (r64 α)) (D := D) (Q := Q) hT wx
  simp only [← e2] at l2 hnm2
  simp only [← e3] at l3
  simp only [← e4] at l4
  simp only [← e5, ← e6] at l5
  simp only [← e7, ← e8] at l6
  simp only [← e9] at l7
  have start : Wp (d + 7) 181 0 [some (.ref 294), none, none, none, none, none] [] (mk N t w (pR P J) (sR L w (r64 α)) D) Q = Wp (d + 7) 181 23 [some (.ref 294), none, none, none, none, none] [] (mk N t w (pR p1 J) (sR L w (r64 α)) D) Q := by
    by_cases q : (bn : Int) = 10
    · simp only [eq_true q, if_true] at l0
      simp only [w181_0, w181_1, w181_2, w181_5, w181_7, w181_10, w181_11, w181_14, w181_15, w181_16, w181_19, w181_20, kn_s, kn_n, zh_mk, zR_mk, zI_mk, zL_mk, zD_mk, wI_mk, wL_mk, wD_mk, zT_mk, zC_mk, kill_i, kill_r, kill_0, kill_n, kill_l, kill_q, zzk_r, zzk_0, zzk_q, zcat_r, zcat_i, zcat_0, cats_0, cats_i, cats_r, cats_l, cats_d, cats_f, rv_s, rv_0, Nat.reduceAdd, Nat.reduceLeDiff, Nat.add_zero, Nat.reduceMul, Nat.reduceSub, ne_eq, not_false_eq_true, not_true_eq_false, and_self, and_true, true_and, or_self, or_true, true_or, or_false, false_or, if_true, if_false, reduceIte, reduceCtorEq, implies_true, ite_self, ite_not, kM, kMr, kRow hw, sR_at, up2_r64, r64_at, o_add, o_sub, o_mul, o_neg, q_add, q_sub, q_mul, q_neg, o_32, cast_s, Int.toNat_natCast, c176 hw, h2, o_eq (a := (bn : Int)) (b := 10) (by omega), eq_true q, l0, l1]
    · simp only [eq_false q, if_false] at l0
      simp only [w181_0, w181_1, w181_2, w181_5, w181_7, w181_10, w181_11, w181_14, w181_15, w181_16, w181_19, w181_20, kn_s, kn_n, zh_mk, zR_mk, zI_mk, zL_mk, zD_mk, wI_mk, wL_mk, wD_mk, zT_mk, zC_mk, kill_i, kill_r, kill_0, kill_n, kill_l, kill_q, zzk_r, zzk_0, zzk_q, zcat_r, zcat_i, zcat_0, cats_0, cats_i, cats_r, cats_l, cats_d, cats_f, rv_s, rv_0, Nat.reduceAdd, Nat.reduceLeDiff, Nat.add_zero, Nat.reduceMul, Nat.reduceSub, ne_eq, not_false_eq_true, not_true_eq_false, and_self, and_true, true_and, or_self, or_true, true_or, or_false, false_or, if_true, if_false, reduceIte, reduceCtorEq, implies_true, ite_self, ite_not, kM, kMr, kRow hw, sR_at, up2_r64, r64_at, o_add, o_sub, o_mul, o_neg, q_add, q_sub, q_mul, q_neg, o_32, cast_s, Int.toNat_natCast, c176 hw, h2, o_eq (a := (bn : Int)) (b := 10) (by omega), eq_false q, l0, l1]
  refine start.trans ((l2 Q).trans ?_)
  by_cases hE : pE.2.2.2.1 = 0
  · obtain ⟨-, hn, -, hF, hsp, hwt, -⟩ := hok hE
    obtain ⟨a1, -⟩ := sm_st wx e9 hE
    have c4 : (chT f 1 20 p4).2.2.2.1 = 0 := by rw [e8, nxT_e] at a1; exact a1
    obtain ⟨b1, -⟩ := ch_st w4 e8 a1
    obtain ⟨d1, -⟩ := tw_st ws e7 b1
    obtain ⟨f1, -, -⟩ := ts_st w3 e6 d1
    obtain ⟨g1, -⟩ := tw_st wt e5 f1
    have c1 : (chT f 0 (α 0 - 1) p2).2.2.2.1 = 0 := by rw [e4] at g1; exact (tc_ok g1).2.2.2
    obtain ⟨h1, -, -⟩ := tc_st w2 e4 g1
    obtain ⟨i1, -⟩ := tw_st wn e3 h1
    have rn := hnm2 i1
    have r1 : rvT f 0 (α 0 - 1) p2 = cvT f 0 p2 := by unfold rvT; rw [if_pos c1]
    have r2 : rvT f 1 20 p4 = cvT f 1 p4 := by unfold rvT; rw [if_pos c4]
    have c3 : (chT f 0 60 (tsP f n p3)).2.2.2.1 = 0 := by
      rw [e6] at d1
      unfold tsT at d1
      rw [nxT_e] at d1
      exact d1
    have r3 : rsT f n p3 = tsV f n p3 := by
      unfold rsT tsV
      unfold tsP at c3
      by_cases q : syT f 45 p3 = true
      · rw [if_pos q] at c3 ⊢
        rw [if_pos ⟨f1, q⟩]
        unfold rvT
        rw [if_pos c3]
      · rw [if_neg q] at c3 ⊢
        rw [if_neg (fun z => q z.2)]
        unfold rvT
        rw [if_pos c3]
    have hF1 := hF.1
    rw [if_pos hE]
    rw [rn] at hnm1 ⊢
    simp only [w181_119, w181_120, w181_123, w181_126, w181_127, w181_130, w181_131, w181_132, w181_135, w181_136, w181_137, w181_140, w181_141, w181_143, w181_146, w181_148, w181_149, w181_152, w181_153, w181_156, w181_159, w181_160, w181_161, w181_162, w181_164, w181_165, w181_168, w181_170, kn_s, kn_n, zh_mk, zR_mk, zI_mk, zL_mk, zD_mk, wI_mk, wL_mk, wD_mk, zT_mk, zC_mk, kill_i, kill_r, kill_0, kill_n, kill_l, kill_q, zzk_r, zzk_0, zzk_q, zcat_r, zcat_i, zcat_0, cats_0, cats_i, cats_r, cats_l, cats_d, cats_f, rv_s, rv_0, Nat.reduceAdd, Nat.reduceLeDiff, Nat.add_zero, Nat.reduceMul, Nat.reduceSub, ne_eq, not_false_eq_true, not_true_eq_false, and_self, and_true, true_and, or_self, or_true, true_or, or_false, false_or, if_true, if_false, reduceIte, reduceCtorEq, implies_true, ite_self, ite_not, kM, kMr, kRow hw, sR_at, up2_r64, r64_at, o_add, o_sub, o_mul, o_neg, q_add, q_sub, q_mul, q_neg, o_32, cast_s, Int.toNat_natCast, l3, l4, l5, l6, l7, c161 (WF_e wE), pI, eq_true hE, i10, r1, r2, r3, c186 hw hn h2 (c := cvT f 0 p2) (s := tsV f n p3) (g := cvT f 1 p4) (nm := pkN f p1.1 p1.2.1) (by omega) (by omega) (by omega) (by omega)]
  · rw [if_neg hE]
    simp only [w181_119, w181_120, w181_123, w181_126, w181_127, w181_130, w181_131, w181_132, w181_135, w181_136, w181_137, w181_140, w181_141, w181_143, w181_146, w181_148, w181_149, w181_152, w181_153, w181_156, w181_159, w181_160, w181_161, w181_162, w181_164, w181_165, w181_168, w181_170, kn_s, kn_n, zh_mk, zR_mk, zI_mk, zL_mk, zD_mk, wI_mk, wL_mk, wD_mk, zT_mk, zC_mk, kill_i, kill_r, kill_0, kill_n, kill_l, kill_q, zzk_r, zzk_0, zzk_q, zcat_r, zcat_i, zcat_0, cats_0, cats_i, cats_r, cats_l, cats_d, cats_f, rv_s, rv_0, Nat.reduceAdd, Nat.reduceLeDiff, Nat.add_zero, Nat.reduceMul, Nat.reduceSub, ne_eq, not_false_eq_true, not_true_eq_false, and_self, and_true, true_and, or_self, or_true, true_or, or_false, false_or, if_true, if_false, reduceIte, reduceCtorEq, implies_true, ite_self, ite_not, kM, kMr, kRow hw, sR_at, up2_r64, r64_at, o_add, o_sub, o_mul, o_neg, q_add, q_sub, q_mul, q_neg, o_32, cast_s, Int.toNat_natCast, l3, l4, l5, l6, l7, c161 (WF_e wE), pI, eq_false hE, i00]
end S87
