/-! LOAD: both sides' runs -/
theorem RL_cg {ℓ : Nat → Nat → Int32} {μ : Nat → Nat → Int64} {α β : Nat → Int} {n m : Nat} {o : Nat → Nat} (h : RL ℓ μ α n m o) (hn : n ≤ 10) (hm : m ≤ 4) (e : ∀ k, k < 378 → β k = α k) : RL ℓ μ β n m o := by
  obtain ⟨g1, g2, ⟨g4, g5, g6⟩, g7, nx, g8, g9, g10, g11⟩ := h
  refine ⟨fun k hk => by rw [e k (by unfold kd at hk; omega)]; exact g1 k hk, g2, ⟨by rw [e 5 (by omega)]; exact g4, by rw [e 6 (by omega)]; exact g5, by rw [e 7 (by omega)]; exact g6⟩, g7, nx, g8, g9, by rw [e 4 (by omega)]; exact g10, fun k h1 h2 c hc => ?_⟩
  rw [e 4 (by omega)] at h1
  rw [e _ (by omega)]
  exact g11 k h1 h2 c hc
theorem GA_cg {α β : Nat → Int} {n m : Nat} {o : Nat → Nat} (h : GA α n m o) (e : ∀ k, k < 378 → β k = α k) : GA β n m o := by
  obtain ⟨⟨a1, a2, a3, a4, a5⟩, ⟨b1, b2, b3⟩, c1, d1, d2, d3, d4⟩ := h
  have eB : ∀ i k, i < n → k < 9 → β (B9 i k) = α (B9 i k) := fun i k h1 h2 => e _ (by unfold B9; omega)
  have eP : ∀ p k, p < m → k < 3 → β (P3 p k) = α (P3 p k) := fun p k h1 h2 => e _ (by unfold P3; omega)
  refine ⟨⟨a1, by rw [e 1 (by omega)]; exact a2, by rw [e 0 (by omega)]; exact a3, by rw [e 0 (by omega)]; exact a4, fun i hi => by rw [eB i 0 hi (by omega), eB i 1 hi (by omega), eB i 2 hi (by omega), eB i 3 hi (by omega), e 0 (by omega)]; exact a5 i hi⟩, ⟨b1, by rw [e 2 (by omega)]; exact b2, fun p hp => by rw [eP p 0 hp (by omega), eP p 1 hp (by omega), e 0 (by omega)]; exact b3 p hp⟩, by rw [e 8 (by omega), e 9 (by omega), e 4 (by omega)]; exact c1, d1, fun p q h1 h2 => by rw [eB _ 0 (d1 p (by omega)) (by omega), eB _ 0 (d1 q h2) (by omega)]; exact d2 p q h1 h2, d3, fun i hi p hp => by rw [eB i 0 hi (by omega), eP p 0 hp (by omega)]; exact d4 i hi p hp⟩
theorem DR_cg {α β : Nat → Int} {n m : Nat} (h : DR α n m) (hn : n ≤ 10) (e : ∀ k, k < 378 → β k = α k) : DR β n m := by
  obtain ⟨h1, h2, h3, h4⟩ := h
  exact ⟨by rw [e 3 (by omega)]; exact h1, by rw [e 4 (by omega)]; exact h2, fun k q1 q2 => by rw [e _ (by unfold P3; omega)]; exact h3 k q1 q2, fun i hi => by rw [e _ (by unfold B9; omega)]; exact h4 i hi⟩
section S89
variable {N : NX} {w : WX} {d t n : Nat} {f : Nat → Int} {I J : Nat → Nat → Int32} {L : Nat → Nat → Int64} {D : Nat → Nat → UInt64} {Q : Rs → St → Prop} {P : PS}
theorem c63 {p1 b1 b2 b3 b4 pE : PS} {l r v0 : Int} {α0 : Nat → Int} (hP : bxR f n (tok f n 0 v0) p1 b1 b2 b3 b4 pE l r) (hn : n ≤ 400) (hB : ∀ j, j < n → I 16 j = Int32.ofInt (f j) ∧ -128 ≤ f j ∧ f j < 128) (hS : SW I) (hα : pE.2.2.2.1 = 0 → ∀ k, k < 378 → α0 k = bxA (cvT f 10 p1) l r k)
    (hE : pE.2.2.2.1 ≠ 0 → Q (.inl (some (.int (Int32.ofInt (pE.2.2.2.1 : Int))))) (mk N t w (pC pE (up2 I 73 2 (Int32.ofInt (n : Int)))) L D))
    (hF : pE.2.2.2.1 = 0 → ∀ (ℓ' : Nat → Nat → Int32) (o' : Nat → Nat), WF f n (lpS f n n (pE, α0, 0, 0)).1 → RL ℓ' (gl 46 (ckL 57 L)) (lpS f n n (pE, α0, 0, 0)).2.1 (lpS f n n (pE, α0, 0, 0)).2.2.1 (lpS f n n (pE, α0, 0, 0)).2.2.2 o' → GA (lpS f n n (pE, α0, 0, 0)).2.1 (lpS f n n (pE, α0, 0, 0)).2.2.1 (lpS f n n (pE, α0, 0, 0)).2.2.2 o' → DR (lpS f n n (pE, α0, 0, 0)).2.1 (lpS f n n (pE, α0, 0, 0)).2.2.1 (lpS f n n (pE, α0, 0, 0)).2.2.2 → lgS f n n (pE, α0, 0, 0) → Q (.inl (some (.int (Int32.ofInt ((lpS f n n (pE, α0, 0, 0)).1.2.2.2.1 : Int))))) (mk N t w (pC (lpS f n n (pE, α0, 0, 0)).1 (lay 46 ℓ' (up2 I 73 2 (Int32.ofInt (n : Int))))) (ckL 57 L) D)) : Wp (d + 8) 63 0 [some (.ref 73), some (.int (Int32.ofInt (n : Int))), none] [] (mk N t w I L D) Q := by
  obtain ⟨s0, es⟩ := o_natT (I 73 4)
  obtain ⟨k0, ek⟩ := o_natT (I 73 3)
  have hT : TC f n (up2 I 73 2 (Int32.ofInt (n : Int))) := ⟨hn, u2_same, fun j hj => by rw [u2_ne (by omega)]; exact hB j hj⟩
  have hS' : SW (up2 I 73 2 (Int32.ofInt (n : Int))) := fun a h1 h2 j => by rw [u2_ne (by omega)]; exact hS a h1 h2 j
  have eM : up2 (up2 (up2 I 73 2 (Int32.ofInt (n : Int))) 73 6 (Int32.ofInt 0)) 73 5 (Int32.ofInt 0) = pC (s0, 0, k0, 0, v0) (up2 I 73 2 (Int32.ofInt (n : Int))) := by
    funext a q
    unfold pC
    by_cases h : a = 73
    · subst h
      rw [if_pos rfl]
      by_cases h3 : q = 3
      · rw [if_pos h3, u2_ne (by omega), u2_ne (by omega), u2_ne (by omega), h3]; exact ek
      · rw [if_neg h3]
        by_cases h4 : q = 4
        · rw [if_pos h4, u2_ne (by omega), u2_ne (by omega), u2_ne (by omega), h4]; exact es
        · rw [if_neg h4]
          by_cases h5 : q = 5
          · rw [if_pos h5, h5, u2_same]; rfl
          · rw [if_neg h5, u2_ne (by omega)]
            by_cases h6 : q = 6
            · rw [if_pos h6, h6, u2_same]; rfl
            · rw [if_neg h6, u2_ne (by omega)]
    · rw [if_neg h, u2_ne (by omega), u2_ne (by omega)]
  have hW : WF f n (tok f n 0 v0) := WF_tok (Nat.zero_le n)
  obtain ⟨w1, w2, w3, w4, w5, w6⟩ := bxR_W hP hW
  have l64 := fun Q => c64 (d := d + 6) (N := N) (t := t) (w := w) (J := up2 I 73 2 (Int32.ofInt (n : Int))) (L := L) (D := D) (Q := Q) (P := (s0, 0, k0, 0, v0)) hT (Nat.zero_le n) (Nat.zero_le 5)
  have et : nxT f n (s0, 0, k0, 0, v0) = tok f n 0 v0 := rfl
  rw [et] at l64
  have g400 : ¬ (400 < (n : Int)) := by omega
  simp only [w63_0, w63_1, w63_2, w63_3, w63_6, w63_7, w63_10, w63_13, w63_14, w63_15, w63_18, w63_19, w63_20, w63_23, w63_24, w63_27, w63_28, kn_s, kn_n, zh_mk, zR_mk, zI_mk, zL_mk, zD_mk, wI_mk, wL_mk, wD_mk, zT_mk, zC_mk, kill_i, kill_r, kill_0, kill_n, kill_l, kill_q, zzk_r, zzk_0, zzk_q, zcat_r, zcat_i, zcat_0, zcat_q, cats_0, cats_i, cats_r, cats_l, cats_d, cats_f, cats_q, cats_n, rv_s, rv_0, Nat.reduceAdd, Nat.reduceLeDiff, Nat.reduceEqDiff, Nat.add_zero, Nat.reduceMul, Nat.reduceSub, ne_eq, not_false_eq_true, not_true_eq_false, and_self, and_true, true_and, or_self, or_true, true_or, or_false, false_or, if_true, if_false, reduceIte, reduceCtorEq, implies_true, ite_self, ite_not, k73, k16, kr73_0, o_n400, o_lt (a := 400) (b := (n : Int)) (by omega), g400, eM, l64]
  refine c66 (d := d + 1) hP hT hS' hW (fun q => ?_) (fun q ℓ' hR => ?_)
  · have hq := hE q
    have he := WF_e w6
    have q' : ¬ ((pE.2.2.2.1 : Int) = 0) := by omega
    by_cases g : (0 : Int) < n
    · simp only [w63_31, w63_32, w63_33, w63_34, w63_35, w63_38, w63_41, w63_42, w63_45, w63_48, w63_49, w63_52, w63_98, w63_99, w63_102, kn_s, kn_n, zh_mk, zR_mk, zI_mk, zL_mk, zD_mk, wI_mk, wL_mk, wD_mk, zT_mk, zC_mk, kill_i, kill_r, kill_0, kill_n, kill_l, kill_q, zzk_r, zzk_0, zzk_q, zcat_r, zcat_i, zcat_0, zcat_q, cats_0, cats_i, cats_r, cats_l, cats_d, cats_f, cats_q, cats_n, rv_s, rv_0, Nat.reduceAdd, Nat.reduceLeDiff, Nat.reduceEqDiff, Nat.add_zero, Nat.reduceMul, Nat.reduceSub, ne_eq, not_false_eq_true, not_true_eq_false, and_self, and_true, true_and, or_self, or_true, true_or, or_false, false_or, if_true, if_false, reduceIte, reduceCtorEq, implies_true, ite_self, ite_not, k73, pC_2, pC_6, hT.2.1, o_lt (a := 0) (b := (n : Int)) (by omega), eq_true g, o_eq (a := (pE.2.2.2.1 : Int)) (b := 0) (by omega), eq_false q']
      exact hq
    · simp only [w63_31, w63_32, w63_33, w63_34, w63_35, w63_38, w63_41, w63_42, w63_45, w63_48, w63_49, w63_52, w63_98, w63_99, w63_102, kn_s, kn_n, zh_mk, zR_mk, zI_mk, zL_mk, zD_mk, wI_mk, wL_mk, wD_mk, zT_mk, zC_mk, kill_i, kill_r, kill_0, kill_n, kill_l, kill_q, zzk_r, zzk_0, zzk_q, zcat_r, zcat_i, zcat_0, zcat_q, cats_0, cats_i, cats_r, cats_l, cats_d, cats_f, cats_q, cats_n, rv_s, rv_0, Nat.reduceAdd, Nat.reduceLeDiff, Nat.reduceEqDiff, Nat.add_zero, Nat.reduceMul, Nat.reduceSub, ne_eq, not_false_eq_true, not_true_eq_false, and_self, and_true, true_and, or_self, or_true, true_or, or_false, false_or, if_true, if_false, reduceIte, reduceCtorEq, implies_true, ite_self, ite_not, k73, pC_2, pC_6, hT.2.1, o_lt (a := 0) (b := (n : Int)) (by omega), eq_false g]
      exact hq
  · obtain ⟨-, k1, k2, k3⟩ := bx_ok hP hW q
    have hG : GA α0 0 0 (fun _ => 0) := GA_cg (GA_bx k1 k2 k3) (hα q)
    have hD : DR α0 0 0 := DR_cg DR_bx (by omega) (hα q)
    have := c63_33 (d := d) (N := N) (t := t) (w := w) (L := ckL 57 L) (D := D) (Q := Q) (x := Int32.ofInt (n : Int)) hT hS' n (pE, α0, 0, 0) 0 ℓ' (fun _ => 0) w6 (RL_cg (hR _) (show (0 : Nat) ≤ 10 by omega) (show (0 : Nat) ≤ 4 by omega) (hα q)) hG hD (by omega) (fun _ => ⟨Nat.zero_le _, Nat.sub_le _ _⟩) (hF q)
    simp only [w63_31, w63_32, kn_s, kn_n, zh_mk, zR_mk, zI_mk, zL_mk, zD_mk, wI_mk, wL_mk, wD_mk, zT_mk, zC_mk, kill_i, kill_r, kill_0, kill_n, kill_l, kill_q, zzk_r, zzk_0, zzk_q, zcat_r, zcat_i, zcat_0, zcat_q, cats_0, cats_i, cats_r, cats_l, cats_d, cats_f, cats_q, cats_n, rv_s, rv_0, Nat.reduceAdd, Nat.reduceLeDiff, Nat.reduceEqDiff, Nat.add_zero, Nat.reduceMul, Nat.reduceSub, ne_eq, not_false_eq_true, not_true_eq_false, and_self, and_true, true_and, or_self, or_true, true_or, or_false, false_or, if_true, if_false, reduceIte, reduceCtorEq, implies_true, ite_self, ite_not]
    exact this
/-! the reference's draft row, cleared and filled -/
end S89
