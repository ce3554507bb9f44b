/-! THE PARSER of the class: the whole -/
section S83
variable {N : NX} {w : WX} {d t b n bn bm : Nat} {f : Nat → Int} {I J ℓ ℓ' : Nat → Nat → Int32} {L μ : Nat → Nat → Int64} {D : Nat → Nat → UInt64} {Q : Rs → St → Prop} {P : PS} {α : Nat → Int} {o : Nat → Nat} {S : SS}
theorem lay2 : lay 46 ℓ' (lay 46 ℓ J) = lay 46 ℓ' J := by
  funext a q
  unfold lay
  split <;> rfl
theorem RL_gl (h : RL ℓ μ α bn bm o) : RL (gl 46 (lay 46 ℓ J)) μ α bn bm o := RL_ext h (fun a ha k => by
  unfold gl
  exact lay_in ha) (fun _ _ _ => rfl)
theorem TC_lay (h : TC f n J) : TC f n (lay 46 ℓ J) := ⟨h.1, by rw [lay_out (by omega)]; exact h.2.1, fun j hj => by rw [lay_out (by omega)]; exact h.2.2 j hj⟩
theorem SW_lay (h : SW J) : SW (lay 46 ℓ J) := fun a h1 h2 j => by rw [lay_out (by omega)]; exact h a h1 h2 j
/-- a statement keeps what a draft is -/
theorem st_ok (hW : WF f n S.1) (hG : GA S.2.1 S.2.2.1 S.2.2.2 o) (hD : DR S.2.1 S.2.2.1 S.2.2.2) : WF f n (stS f n S).1 ∧ (S.1.2.2.2.1 = 0 → (stS f n S).1.2.2.2.1 = 0 → S.1.1 < (stS f n S).1.1) ∧ DR (stS f n S).2.1 (stS f n S).2.2.1 (stS f n S).2.2.2 := by
  unfold stS
  by_cases h3 : iw f 3 S.1 = true
  · rw [if_pos h3]
    have ok := po_ok (poS_R (f := f) (n := n) (S := S)) hW
    have wE := (poR_W (poS_R (f := f) (n := n) (S := S)) hW).2.2.2.2
    unfold poS
    generalize poEF f n S = pE at ok wE ⊢
    by_cases hE : pE.2.2.2.1 = 0
    · rw [if_pos hE]
      obtain ⟨-, a2, a3, a4, a5⟩ := ok hE
      exact ⟨wE, fun _ _ => a5, DR_po hD a2⟩
    · rw [if_neg hE]
      exact ⟨wE, fun _ q => absurd q hE, hD⟩
  · rw [if_neg h3]
    by_cases h4 : iw f 4 S.1 = true
    · rw [if_pos h4]
      have ok := ba_ok (baS_R (f := f) (n := n) (S := S)) hW
      have wE := (baR_W (baS_R (f := f) (n := n) (S := S)) hW).2.2.2.2.2.2.2.2
      unfold baS
      generalize bqE f n S = pE at ok wE ⊢
      by_cases hE : pE.2.2.2.1 = 0
      · rw [if_pos hE]
        obtain ⟨-, a2, -, -, -, -, a5⟩ := ok hE
        have hp := pkN_b (f := f) (a := (bq1 f n S).1) (e := (bq1 f n S).2.1)
        exact ⟨wE, fun _ _ => a5, DR_ba hD a2 hG.2.1.1 (by omega)⟩
      · rw [if_neg hE]
        exact ⟨wE, fun _ q => absurd q hE, hD⟩
    · rw [if_neg h4]
      exact ⟨WF_fl (by omega) hW, fun _ q => absurd q (flT_e (by omega)), hD⟩
theorem c63_33 (hT : TC f n J) (hS : SW J) {x : Int32} : ∀ (r : Nat) (S : SS) (i : Nat) (ℓ : Nat → Nat → Int32) (o : Nat → Nat), WF f n S.1 → RL ℓ (gl 46 L) S.2.1 S.2.2.1 S.2.2.2 o → GA S.2.1 S.2.2.1 S.2.2.2 o → DR S.2.1 S.2.2.1 S.2.2.2 → i ≤ 401 → (S.1.2.2.2.1 = 0 → i ≤ S.1.1 ∧ n - S.1.1 ≤ r) →
    (∀ (ℓ' : Nat → Nat → Int32) (o' : Nat → Nat), WF f n (lpS f n r S).1 → RL ℓ' (gl 46 L) (lpS f n r S).2.1 (lpS f n r S).2.2.1 (lpS f n r S).2.2.2 o' → GA (lpS f n r S).2.1 (lpS f n r S).2.2.1 (lpS f n r S).2.2.2 o' → DR (lpS f n r S).2.1 (lpS f n r S).2.2.1 (lpS f n r S).2.2.2 → lgS f n r S → Q (.inl (some (.int (Int32.ofInt ((lpS f n r S).1.2.2.2.1 : Int))))) (mk N t w (pC (lpS f n r S).1 (lay 46 ℓ' J)) L D)) →
    Wp (d + 8) 63 33 [some (.ref 73), some (.int x), some (.int (Int32.ofInt (i : Int)))] [] (mk N t w (pC S.1 (lay 46 ℓ J)) L D) Q := by
  have h4 := hT.1
  have e2 : ∀ (P : PS) (ℓ : Nat → Nat → Int32), pC P (lay 46 ℓ J) 73 2 = Int32.ofInt (n : Int) := fun P ℓ => by
    rw [pC_2, lay_out (by omega)]; exact hT.2.1
  intro r
  induction r with
  | zero =>
    intro S i ℓ o hW hR hG hD hi hs hQ
    have hx : ¬ (S.1.2.2.2.1 = 0 ∧ S.1.2.2.1 ≠ 0) := fun q => by
      have a1 := hs q.1
      have a2 := hW.2.1.2.2.2 q.2
      have a3 := hW.1
      omega
    have hq := hQ ℓ o hW hR hG hD ⟨o, hG⟩
    have he := WF_e hW
    have hk := WF_k hW
    have hq : Q (.inl (some (.int (Int32.ofInt (S.1.2.2.2.1 : Int))))) (mk N t w (pC S.1 (lay 46 ℓ J)) L D) := hq
    rw [w63_33]
    by_cases g1 : (i : Int) < n
    · by_cases g2 : S.1.2.2.2.1 = 0
      · have g2' : (S.1.2.2.2.1 : Int) = 0 := by omega
        have g3 : (S.1.2.2.1 : Int) = 0 := by
          have : S.1.2.2.1 = 0 := Decidable.byContradiction (fun q => hx ⟨g2, q⟩)
          omega
        simp only [w63_34, w63_35, w63_38, w63_41, w63_42, w63_45, w63_48, w63_49, w63_52, w63_98, w63_99, w63_102, kn_s, kn_n, zh_mk, zR_mk, zI_mk, zL_mk, zD_mk, wI_mk, wL_mk, wD_mk, zT_mk, zC_mk, kill_i, kill_r, kill_0, kill_n, kill_l, kill_q, zzk_r, zzk_0, zzk_q, zcat_r, zcat_i, zcat_0, zcat_q, cats_0, cats_i, cats_r, cats_l, cats_d, cats_f, cats_q, cats_n, rv_s, rv_0, Nat.reduceAdd, Nat.reduceLeDiff, Nat.reduceEqDiff, Nat.add_zero, Nat.reduceMul, Nat.reduceSub, ne_eq, not_false_eq_true, not_true_eq_false, and_self, and_true, true_and, or_self, or_true, true_or, or_false, false_or, if_true, if_false, reduceIte, reduceCtorEq, implies_true, ite_self, ite_not, k73, e2, pC_3, pC_6, o_lt (a := (i : Int)) (b := (n : Int)) (by omega), eq_true g1, o_eq (a := (S.1.2.2.2.1 : Int)) (b := 0) (by omega), eq_true g2', o_eq (a := (S.1.2.2.1 : Int)) (b := 0) (by omega), eq_true g3]
        exact hq
      · have g2' : ¬ ((S.1.2.2.2.1 : Int) = 0) := by omega
        simp only [w63_34, w63_35, w63_38, w63_41, w63_42, w63_45, w63_48, w63_49, w63_52, w63_98, w63_99, w63_102, kn_s, kn_n, zh_mk, zR_mk, zI_mk, zL_mk, zD_mk, wI_mk, wL_mk, wD_mk, zT_mk, zC_mk, kill_i, kill_r, kill_0, kill_n, kill_l, kill_q, zzk_r, zzk_0, zzk_q, zcat_r, zcat_i, zcat_0, zcat_q, cats_0, cats_i, cats_r, cats_l, cats_d, cats_f, cats_q, cats_n, rv_s, rv_0, Nat.reduceAdd, Nat.reduceLeDiff, Nat.reduceEqDiff, Nat.add_zero, Nat.reduceMul, Nat.reduceSub, ne_eq, not_false_eq_true, not_true_eq_false, and_self, and_true, true_and, or_self, or_true, true_or, or_false, false_or, if_true, if_false, reduceIte, reduceCtorEq, implies_true, ite_self, ite_not, k73, e2, pC_3, pC_6, o_lt (a := (i : Int)) (b := (n : Int)) (by omega), eq_true g1, o_eq (a := (S.1.2.2.2.1 : Int)) (b := 0) (by omega), eq_false g2']
        exact hq
    · simp only [w63_34, w63_35, w63_38, w63_41, w63_42, w63_45, w63_48, w63_49, w63_52, w63_98, w63_99, w63_102, kn_s, kn_n, zh_mk, zR_mk, zI_mk, zL_mk, zD_mk, wI_mk, wL_mk, wD_mk, zT_mk, zC_mk, kill_i, kill_r, kill_0, kill_n, kill_l, kill_q, zzk_r, zzk_0, zzk_q, zcat_r, zcat_i, zcat_0, zcat_q, cats_0, cats_i, cats_r, cats_l, cats_d, cats_f, cats_q, cats_n, rv_s, rv_0, Nat.reduceAdd, Nat.reduceLeDiff, Nat.reduceEqDiff, Nat.add_zero, Nat.reduceMul, Nat.reduceSub, ne_eq, not_false_eq_true, not_true_eq_false, and_self, and_true, true_and, or_self, or_true, true_or, or_false, false_or, if_true, if_false, reduceIte, reduceCtorEq, implies_true, ite_self, ite_not, k73, e2, pC_3, pC_6, o_lt (a := (i : Int)) (b := (n : Int)) (by omega), eq_false g1]
      exact hq
  | succ r ih =>
    intro S i ℓ o hW hR hG hD hi hs hQ
    have he := WF_e hW
    have hk := WF_k hW
    by_cases hx : S.1.2.2.2.1 = 0 ∧ S.1.2.2.1 ≠ 0
    · rw [lpS_s, if_pos hx] at hQ
      have a1 := hs hx.1
      have a2 := hW.2.1.2.2.2 hx.2
      have a3 := hW.1
      have g1 : (i : Int) < n := by omega
      have g2' : (S.1.2.2.2.1 : Int) = 0 := by omega
      have g3 : ¬ ((S.1.2.2.1 : Int) = 0) := by omega
      obtain ⟨s1, s2, s3⟩ := st_ok hW hG hD
      have l3 := fun Q => c68 (d := d + 3) (N := N) (t := t) (w := w) (L := L) (D := D) (Q := Q) (a := 3) (TC_lay (ℓ := ℓ) hT) (SW_lay (ℓ := ℓ) hS) hW (by omega)
      have l4 := fun Q => c68 (d := d + 3) (N := N) (t := t) (w := w) (L := L) (D := D) (Q := Q) (a := 4) (TC_lay (ℓ := ℓ) hT) (SW_lay (ℓ := ℓ) hS) hW (by omega)
      rw [w63_33]
      simp only [w63_34, w63_35, w63_38, w63_41, w63_42, w63_45, w63_48, w63_49, w63_52, w63_55, w63_56, w63_58, kn_s, kn_n, zh_mk, zR_mk, zI_mk, zL_mk, zD_mk, wI_mk, wL_mk, wD_mk, zT_mk, zC_mk, kill_i, kill_r, kill_0, kill_n, kill_l, kill_q, zzk_r, zzk_0, zzk_q, zcat_r, zcat_i, zcat_0, zcat_q, cats_0, cats_i, cats_r, cats_l, cats_d, cats_f, cats_q, cats_n, rv_s, rv_0, Nat.reduceAdd, Nat.reduceLeDiff, Nat.reduceEqDiff, Nat.add_zero, Nat.reduceMul, Nat.reduceSub, ne_eq, not_false_eq_true, not_true_eq_false, and_self, and_true, true_and, or_self, or_true, true_or, or_false, false_or, if_true, if_false, reduceIte, reduceCtorEq, implies_true, ite_self, ite_not, k73, e2, pC_3, pC_6, o_lt (a := (i : Int)) (b := (n : Int)) (by omega), eq_true g1, o_eq (a := (S.1.2.2.2.1 : Int)) (b := 0) (by omega), eq_true g2', o_eq (a := (S.1.2.2.1 : Int)) (b := 0) (by omega), eq_false g3, l3]
      have next : ∀ (ℓ2 : Nat → Nat → Int32) (o2 : Nat → Nat), RL ℓ2 (gl 46 L) (stS f n S).2.1 (stS f n S).2.2.1 (stS f n S).2.2.2 o2 → GA (stS f n S).2.1 (stS f n S).2.2.1 (stS f n S).2.2.2 o2 → Wp (d + 8) 63 33 [some (.ref 73), some (.int x), some (.int (Int32.ofInt ((i + 1 : Nat) : Int)))] [] (mk N t w (pC (stS f n S).1 (lay 46 ℓ2 J)) L D) Q := fun ℓ2 o2 q1 q2 => ih (stS f n S) (i + 1) ℓ2 o2 s1 q1 q2 s3 (by omega) (fun q => by
        have := s2 hx.1 q
        omega) (fun ℓ' o' q3 q4 q5 q6 lg => hQ ℓ' o' q3 q4 q5 q6 ⟨⟨o, hG⟩, fun _ => lg⟩)
      by_cases h3 : iw f 3 S.1 = true
      · have eS : stS f n S = poS f n S := by unfold stS; rw [if_pos h3]
        rw [eS] at next
        unfold poS at next
        have hPR := poS_R (f := f) (n := n) (S := S)
        generalize poEF f n S = pE at hPR next
        simp only [w63_61, w63_64, w63_65, kn_s, kn_n, zh_mk, zR_mk, zI_mk, zL_mk, zD_mk, wI_mk, wL_mk, wD_mk, zT_mk, zC_mk, kill_i, kill_r, kill_0, kill_n, kill_l, kill_q, zzk_r, zzk_0, zzk_q, zcat_r, zcat_i, zcat_0, zcat_q, cats_0, cats_i, cats_r, cats_l, cats_d, cats_f, cats_q, cats_n, rv_s, rv_0, Nat.reduceAdd, Nat.reduceLeDiff, Nat.reduceEqDiff, Nat.add_zero, Nat.reduceMul, Nat.reduceSub, ne_eq, not_false_eq_true, not_true_eq_false, and_self, and_true, true_and, or_self, or_true, true_or, or_false, false_or, if_true, if_false, reduceIte, reduceCtorEq, implies_true, ite_self, ite_not, k73, pI, eq_true h3, i10]
        refine c74 (d := d + 1) hPR (TC_lay hT) (SW_lay hS) hW (RL_gl hR) hG (fun hm => hD.2.2.1 _ (Nat.le_refl _) hm) (fun hE => ?_) (fun hE ℓ2 q1 q2 => ?_)
        · rw [if_neg hE] at next
          simp only [w63_68, w63_92, w63_95, kn_s, kn_n, zh_mk, zR_mk, zI_mk, zL_mk, zD_mk, wI_mk, wL_mk, wD_mk, zT_mk, zC_mk, kill_i, kill_r, kill_0, kill_n, kill_l, kill_q, zzk_r, zzk_0, zzk_q, zcat_r, zcat_i, zcat_0, zcat_q, cats_0, cats_i, cats_r, cats_l, cats_d, cats_f, cats_q, cats_n, rv_s, rv_0, Nat.reduceAdd, Nat.reduceLeDiff, Nat.reduceEqDiff, Nat.add_zero, Nat.reduceMul, Nat.reduceSub, ne_eq, not_false_eq_true, not_true_eq_false, and_self, and_true, true_and, or_self, or_true, true_or, or_false, false_or, if_true, if_false, reduceIte, reduceCtorEq, implies_true, ite_self, ite_not, o_add, cast_s]
          exact next ℓ o hR hG
        · rw [if_pos hE] at next
          simp only [w63_68, w63_92, w63_95, kn_s, kn_n, zh_mk, zR_mk, zI_mk, zL_mk, zD_mk, wI_mk, wL_mk, wD_mk, zT_mk, zC_mk, kill_i, kill_r, kill_0, kill_n, kill_l, kill_q, zzk_r, zzk_0, zzk_q, zcat_r, zcat_i, zcat_0, zcat_q, cats_0, cats_i, cats_r, cats_l, cats_d, cats_f, cats_q, cats_n, rv_s, rv_0, Nat.reduceAdd, Nat.reduceLeDiff, Nat.reduceEqDiff, Nat.add_zero, Nat.reduceMul, Nat.reduceSub, ne_eq, not_false_eq_true, not_true_eq_false, and_self, and_true, true_and, or_self, or_true, true_or, or_false, false_or, if_true, if_false, reduceIte, reduceCtorEq, implies_true, ite_self, ite_not, o_add, cast_s, lay2]
          exact next ℓ2 o q1 q2
      · by_cases h5 : iw f 4 S.1 = true
        · have eS : stS f n S = baS f n S := by unfold stS; rw [if_neg h3, if_pos h5]
          rw [eS] at next
          unfold baS at next
          have hPR := baS_R (f := f) (n := n) (S := S)
          generalize bqE f n S = pE at hPR next
          simp only [w63_61, w63_71, w63_72, w63_74, w63_77, w63_80, w63_81, kn_s, kn_n, zh_mk, zR_mk, zI_mk, zL_mk, zD_mk, wI_mk, wL_mk, wD_mk, zT_mk, zC_mk, kill_i, kill_r, kill_0, kill_n, kill_l, kill_q, zzk_r, zzk_0, zzk_q, zcat_r, zcat_i, zcat_0, zcat_q, cats_0, cats_i, cats_r, cats_l, cats_d, cats_f, cats_q, cats_n, rv_s, rv_0, Nat.reduceAdd, Nat.reduceLeDiff, Nat.reduceEqDiff, Nat.add_zero, Nat.reduceMul, Nat.reduceSub, ne_eq, not_false_eq_true, not_true_eq_false, and_self, and_true, true_and, or_self, or_true, true_or, or_false, false_or, if_true, if_false, reduceIte, reduceCtorEq, implies_true, ite_self, ite_not, k73, pI, eq_false h3, i00, l4, eq_true h5, i10]
          refine c76 (d := d) hPR (TC_lay hT) (SW_lay hS) hW (RL_gl hR) hG hD.2.2.2 (fun hE => ?_) (fun hE ℓ2 o2 q1 q2 => ?_)
          · rw [if_neg hE] at next
            simp only [w63_84, w63_92, w63_95, kn_s, kn_n, zh_mk, zR_mk, zI_mk, zL_mk, zD_mk, wI_mk, wL_mk, wD_mk, zT_mk, zC_mk, kill_i, kill_r, kill_0, kill_n, kill_l, kill_q, zzk_r, zzk_0, zzk_q, zcat_r, zcat_i, zcat_0, zcat_q, cats_0, cats_i, cats_r, cats_l, cats_d, cats_f, cats_q, cats_n, rv_s, rv_0, Nat.reduceAdd, Nat.reduceLeDiff, Nat.reduceEqDiff, Nat.add_zero, Nat.reduceMul, Nat.reduceSub, ne_eq, not_false_eq_true, not_true_eq_false, and_self, and_true, true_and, or_self, or_true, true_or, or_false, false_or, if_true, if_false, reduceIte, reduceCtorEq, implies_true, ite_self, ite_not, o_add, cast_s]
            exact next ℓ o hR hG
          · rw [if_pos hE] at next
            simp only [w63_84, w63_92, w63_95, kn_s, kn_n, zh_mk, zR_mk, zI_mk, zL_mk, zD_mk, wI_mk, wL_mk, wD_mk, zT_mk, zC_mk, kill_i, kill_r, kill_0, kill_n, kill_l, kill_q, zzk_r, zzk_0, zzk_q, zcat_r, zcat_i, zcat_0, zcat_q, cats_0, cats_i, cats_r, cats_l, cats_d, cats_f, cats_q, cats_n, rv_s, rv_0, Nat.reduceAdd, Nat.reduceLeDiff, Nat.reduceEqDiff, Nat.add_zero, Nat.reduceMul, Nat.reduceSub, ne_eq, not_false_eq_true, not_true_eq_false, and_self, and_true, true_and, or_self, or_true, true_or, or_false, false_or, if_true, if_false, reduceIte, reduceCtorEq, implies_true, ite_self, ite_not, o_add, cast_s, lay2]
            exact next ℓ2 o2 q1 q2
        · have eS : stS f n S = (flT 1 S.1, S.2) := by unfold stS; rw [if_neg h3, if_neg h5]
          rw [eS] at next
          simp only [w63_61, w63_71, w63_72, w63_74, w63_77, w63_80, w63_81, w63_84, w63_87, w63_88, w63_89, w63_92, w63_95, kn_s, kn_n, zh_mk, zR_mk, zI_mk, zL_mk, zD_mk, wI_mk, wL_mk, wD_mk, zT_mk, zC_mk, kill_i, kill_r, kill_0, kill_n, kill_l, kill_q, zzk_r, zzk_0, zzk_q, zcat_r, zcat_i, zcat_0, zcat_q, cats_0, cats_i, cats_r, cats_l, cats_d, cats_f, cats_q, cats_n, rv_s, rv_0, Nat.reduceAdd, Nat.reduceLeDiff, Nat.reduceEqDiff, Nat.add_zero, Nat.reduceMul, Nat.reduceSub, ne_eq, not_false_eq_true, not_true_eq_false, and_self, and_true, true_and, or_self, or_true, true_or, or_false, false_or, if_true, if_false, reduceIte, reduceCtorEq, implies_true, ite_self, ite_not, o_add, cast_s, k73, pI, eq_false h3, i00, l4, eq_false h5, c69 (c := 1) (z := 1) rfl he]
          exact next ℓ o hR hG
    · have hq := hQ ℓ o
      rw [lpS_x hx] at hq
      have hq := hq hW hR hG hD ⟨⟨o, hG⟩, fun q => absurd q hx⟩
      rw [w63_33]
      by_cases g1 : (i : Int) < n
      · by_cases g2 : S.1.2.2.2.1 = 0
        · have g2' : (S.1.2.2.2.1 : Int) = 0 := by omega
          have g3 : (S.1.2.2.1 : Int) = 0 := by
            have : S.1.2.2.1 = 0 := Decidable.byContradiction (fun q => hx ⟨g2, q⟩)
            omega
          simp only [w63_34, w63_35, w63_38, w63_41, w63_42, w63_45, w63_48, w63_49, w63_52, w63_98, w63_99, w63_102, kn_s, kn_n, zh_mk, zR_mk, zI_mk, zL_mk, zD_mk, wI_mk, wL_mk, wD_mk, zT_mk, zC_mk, kill_i, kill_r, kill_0, kill_n, kill_l, kill_q, zzk_r, zzk_0, zzk_q, zcat_r, zcat_i, zcat_0, zcat_q, cats_0, cats_i, cats_r, cats_l, cats_d, cats_f, cats_q, cats_n, rv_s, rv_0, Nat.reduceAdd, Nat.reduceLeDiff, Nat.reduceEqDiff, Nat.add_zero, Nat.reduceMul, Nat.reduceSub, ne_eq, not_false_eq_true, not_true_eq_false, and_self, and_true, true_and, or_self, or_true, true_or, or_false, false_or, if_true, if_false, reduceIte, reduceCtorEq, implies_true, ite_self, ite_not, k73, e2, pC_3, pC_6, o_lt (a := (i : Int)) (b := (n : Int)) (by omega), eq_true g1, o_eq (a := (S.1.2.2.2.1 : Int)) (b := 0) (by omega), eq_true g2', o_eq (a := (S.1.2.2.1 : Int)) (b := 0) (by omega), eq_true g3]
          exact hq
        · have g2' : ¬ ((S.1.2.2.2.1 : Int) = 0) := by omega
          simp only [w63_34, w63_35, w63_38, w63_41, w63_42, w63_45, w63_48, w63_49, w63_52, w63_98, w63_99, w63_102, kn_s, kn_n, zh_mk, zR_mk, zI_mk, zL_mk, zD_mk, wI_mk, wL_mk, wD_mk, zT_mk, zC_mk, kill_i, kill_r, kill_0, kill_n, kill_l, kill_q, zzk_r, zzk_0, zzk_q, zcat_r, zcat_i, zcat_0, zcat_q, cats_0, cats_i, cats_r, cats_l, cats_d, cats_f, cats_q, cats_n, rv_s, rv_0, Nat.reduceAdd, Nat.reduceLeDiff, Nat.reduceEqDiff, Nat.add_zero, Nat.reduceMul, Nat.reduceSub, ne_eq, not_false_eq_true, not_true_eq_false, and_self, and_true, true_and, or_self, or_true, true_or, or_false, false_or, if_true, if_false, reduceIte, reduceCtorEq, implies_true, ite_self, ite_not, k73, e2, pC_3, pC_6, o_lt (a := (i : Int)) (b := (n : Int)) (by omega), eq_true g1, o_eq (a := (S.1.2.2.2.1 : Int)) (b := 0) (by omega), eq_false g2']
          exact hq
      · simp only [w63_34, w63_35, w63_38, w63_41, w63_42, w63_45, w63_48, w63_49, w63_52, w63_98, w63_99, w63_102, kn_s, kn_n, zh_mk, zR_mk, zI_mk, zL_mk, zD_mk, wI_mk, wL_mk, wD_mk, zT_mk, zC_mk, kill_i, kill_r, kill_0, kill_n, kill_l, kill_q, zzk_r, zzk_0, zzk_q, zcat_r, zcat_i, zcat_0, zcat_q, cats_0, cats_i, cats_r, cats_l, cats_d, cats_f, cats_q, cats_n, rv_s, rv_0, Nat.reduceAdd, Nat.reduceLeDiff, Nat.reduceEqDiff, Nat.add_zero, Nat.reduceMul, Nat.reduceSub, ne_eq, not_false_eq_true, not_true_eq_false, and_self, and_true, true_and, or_self, or_true, true_or, or_false, false_or, if_true, if_false, reduceIte, reduceCtorEq, implies_true, ite_self, ite_not, k73, e2, pC_3, pC_6, o_lt (a := (i : Int)) (b := (n : Int)) (by omega), eq_false g1]
        exact hq
/-- any int is a natural number's -/
theorem o_natT (x : Int32) : ∃ k : Nat, x = Int32.ofInt (k : Int) := ⟨x.toUInt32.toNat, by
  rw [← Int32.toInt_inj, Int32.toInt_ofInt]
  show x.toBitVec.toInt = (x.toBitVec.toNat : Int).bmod _
  exact BitVec.toInt_eq_toNat_bmod _⟩
end S83
