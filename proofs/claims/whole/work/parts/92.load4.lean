/-! CLASS AND REFERENCE AGREE: load, put together -/
section S92
variable {xs : Nat → Int32} {d c t N : Nat} {I : Nat → Nat → Int32} {L : Nat → Nat → Int64} {D : Nat → Nat → UInt64}
theorem pk2 (hI : Inv xs c t I L) : PairI (d + 41) 83 [some (.ref 15)] [] (d + 41) 155 [some (.ref 294), none] N xs c t I L D := by
  obtain ⟨n, hn, g1, g2, g3⟩ := hI.2.1
  obtain ⟨f, hf⟩ : ∃ f : Nat → Int, ∀ j, j < n → (I 16 j = Int32.ofInt (f j) ∧ I 298 j = Int32.ofInt (f j)) ∧ -128 ≤ f j ∧ f j < 128 := ⟨fun j => (I 16 j).toInt, fun j hj => by
    obtain ⟨z, a1, a2, a3, a4⟩ := g3 j hj
    have e : (I 16 j).toInt = z := by rw [a3, o_ti (by omega)]
    dsimp only
    rw [e]
    exact ⟨⟨a3, a4⟩, a1, a2⟩⟩
  have hB : ∀ j, j < n → I 16 j = Int32.ofInt (f j) ∧ -128 ≤ f j ∧ f j < 128 := fun j hj => ⟨(hf j hj).1.1, (hf j hj).2⟩
  have hS : SW I := hI.1.2.2
  obtain ⟨v0, e18, -⟩ := o_z (I 294 18)
  obtain ⟨p1, b1, b2, b3, b4, pE, l, r, hP⟩ : ∃ (p1 b1 b2 b3 b4 pE : PS) (l r : Int), bxR f n (tok f n 0 v0) p1 b1 b2 b3 b4 pE l r := ⟨_, _, _, _, _, _, _, _, rfl, rfl, rfl, rfl, rfl, rfl, rfl, rfl⟩
  have hW : WF f n (tok f n 0 v0) := WF_tok (Nat.zero_le n)
  obtain ⟨-, -, -, -, -, wE⟩ := bxR_W hP hW
  have hα := fun (q : pE.2.2.2.1 = 0) => bxZ_ok (z := zrw L) hP hW q (fun k hk => by unfold zrw; rw [if_pos hk])
  -- the reference up to its loop, from any memory that keeps what it reads
  have pre : ∀ (IC : Nat → Nat → Int32) (L2 : Nat → Nat → Int64) (Q : Rs → St → Prop), (∀ a k, (a < 15 ∨ a = 294 ∨ a = 298) → IC a k = I a k) → L2 296 = L 296 → Wp (d + 41) 155 0 [some (.ref 294), none] [] (mk N t 295 IC L2 D) Q = Wp (d + 41) 155 71 [some (.ref 294), some (.int (Int32.ofInt ((378 : Nat) : Int)))] [] (mk N t 296 (pR pE (JR IC n)) (sR L2 296 (r64 (bxZ f (zrw L) p1 b1 b2 b3))) D) Q := by
    intro IC L2 Q hC hL2
    have := c155_a (d := d + 32) (N := N) (t := t) (I := IC) (L := L2) (D := D) (Q := Q) hP hn (by rw [hC _ _ (by omega)]; exact g2) (by rw [hC _ _ (by omega)]; exact e18) (fun j hj => by rw [hC _ _ (by omega)]; exact ⟨(hf j hj).1.2, (hf j hj).2⟩) (fun a h1 h2 j => by rw [hC _ _ (by omega)]; exact hS a h1 h2 j)
    rw [zrw_e hL2] at this
    exact this
  have oL : ∀ (PF : PS) (x : Int32) (J' : Nat → Nat → Int32), (∀ a k, (a < 15 ∨ a = 294 ∨ a = 298) → J' a k = I a k) → ∀ a k, (a < 15 ∨ a = 294 ∨ a = 298) → ldI PF x J' a k = I a k := fun PF x J' h a k ha => by
    rw [ldI_o (by omega)]; exact h a k ha
  intro Q h1 h2
  simp only [w83_0, w83_1, w83_2, w83_5, w83_6, w83_9, kn_s, kn_n, zh_mk, zR_mk, zI_mk, zL_mk, zD_mk, wI_mk, wL_mk, wD_mk, zT_mk, zC_mk, kill_i, kill_r, kill_0, kill_n, kill_l, kill_q, zzk_r, zzk_0, zzk_q, zcat_r, zcat_i, zcat_0, cats_0, cats_i, cats_r, cats_l, cats_d, cats_f, rv_s, rv_0, Nat.reduceAdd, Nat.reduceLeDiff, Nat.add_zero, Nat.reduceMul, Nat.reduceSub, ne_eq, not_false_eq_true, not_true_eq_false, and_self, and_true, true_and, or_self, or_true, true_or, or_false, false_or, if_true, if_false, reduceIte, reduceCtorEq, implies_true, ite_self, ite_not, k15, k73, kr15_7, g1]
  refine c63 (d := d + 32) (α0 := bxZ f (zrw L) p1 b1 b2 b3) hP hn hB hS hα (fun q => ?_) (fun q ℓ' o' hWF hR hG hD hg => ?_)
  · simp only [kn_s, kn_n, zh_mk, zR_mk, zI_mk, zL_mk, zD_mk, wI_mk, wL_mk, wD_mk, zT_mk, zC_mk, kill_i, kill_r, kill_0, kill_n, kill_l, kill_q, zzk_r, zzk_0, zzk_q, zcat_r, zcat_i, zcat_0, cats_0, cats_i, cats_r, cats_l, cats_d, cats_f, rv_s, rv_0, Nat.reduceAdd, Nat.reduceLeDiff, Nat.add_zero, Nat.reduceMul, Nat.reduceSub, ne_eq, not_false_eq_true, not_true_eq_false, and_self, and_true, true_and, or_self, or_true, true_or, or_false, false_or, if_true, if_false, reduceIte, reduceCtorEq, implies_true, ite_self, ite_not]
    refine ld_err (γ := bxZ f (zrw L) p1 b1 b2 b3) hI wE q (fun a k ha => u2_ne (by unfold rI at ha; omega)) (fun _ _ => rfl) h1 (fun L2 Q2 hL2 => ?_)
    rw [pre _ L2 Q2 (oL _ _ _ (fun a k ha => u2_ne (by omega))) (hL2 296 (by omega))]
    exact c155_out (d := d + 32) wE (fun z => q z.1)
  · have hG0 : DR (bxZ f (zrw L) p1 b1 b2 b3) 0 0 := DR_cg DR_bx (by omega) (hα q)
    have run : ∀ (IC : Nat → Nat → Int32) (L2 : Nat → Nat → Int64) (Q : Rs → St → Prop), (∀ a k, (a < 15 ∨ a = 294 ∨ a = 298) → IC a k = I a k) → L2 296 = L 296 → Wp (d + 41) 155 0 [some (.ref 294), none] [] (mk N t 295 IC L2 D) Q = Wp (d + 41) 155 92 [some (.ref 294), some (.int (Int32.ofInt ((378 : Nat) : Int)))] [] (mk N t 296 (pR (lpS f n n (pE, bxZ f (zrw L) p1 b1 b2 b3, 0, 0)).1 (JR IC n)) (sR L2 296 (r64 (lpS f n n (pE, bxZ f (zrw L) p1 b1 b2 b3, 0, 0)).2.1)) D) Q := by
      intro IC L2 Q hC hL2
      rw [pre IC L2 Q hC hL2]
      exact c155_71 (d := d + 32) (N := N) (t := t) (L := L2) (D := D) (Q := Q) (J := JR IC n) (Or.inr rfl) ⟨hn, by unfold JR; rw [u2_ne (by omega), u2_same], fun j hj => by rw [JR_o (by omega), hC _ _ (by omega)]; exact ⟨(hf j hj).1.2, (hf j hj).2⟩⟩ (fun a h1 h2 j => by rw [JR_o (by omega), hC _ _ (by omega)]; exact hS a h1 h2 j) n (pE, bxZ f (zrw L) p1 b1 b2 b3, 0, 0) wE hG0 (fun _ => Nat.sub_le _ _) hg
    generalize lpS f n n (pE, bxZ f (zrw L) p1 b1 b2 b3, 0, 0) = F at hWF hR hG hD run ⊢
    simp only [kn_s, kn_n, zh_mk, zR_mk, zI_mk, zL_mk, zD_mk, wI_mk, wL_mk, wD_mk, zT_mk, zC_mk, kill_i, kill_r, kill_0, kill_n, kill_l, kill_q, zzk_r, zzk_0, zzk_q, zcat_r, zcat_i, zcat_0, cats_0, cats_i, cats_r, cats_l, cats_d, cats_f, rv_s, rv_0, Nat.reduceAdd, Nat.reduceLeDiff, Nat.add_zero, Nat.reduceMul, Nat.reduceSub, ne_eq, not_false_eq_true, not_true_eq_false, and_self, and_true, true_and, or_self, or_true, true_or, or_false, false_or, if_true, if_false, reduceIte, reduceCtorEq, implies_true, ite_self, ite_not]
    by_cases h0 : F.1.2.2.2.1 = 0
    · exact ld_ok hI hWF h0 hn hR hG hD h1 run
    · refine ld_err (γ := F.2.1) hI hWF h0 (fun a k ha => by rw [lay_out (by unfold rI at ha; omega), u2_ne (by unfold rI at ha; omega)]) (fun a ha => ck_o (by unfold rLo at ha; omega)) h1 (fun L2 Q2 hL2 => ?_)
      exact run _ L2 Q2 (oL _ _ _ (fun a k ha => by rw [lay_out (by omega), u2_ne (by omega)])) (by rw [hL2 296 (by omega)]; exact ck_o (by omega))
end S92
