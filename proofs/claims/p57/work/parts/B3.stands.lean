/-! THE LAW'S STANDS -/
theorem i00o : Int32.ofInt 0 ||| Int32.ofInt 0 = Int32.ofInt 0 := by decide
theorem pF_last {f : Nat → Int} {c : Int} : ∀ (r i : Nat), pFind f c (r + 1) i = if pFind f c r i = -1 then (if f (i + r) = c then ((i + r : Nat) : Int) else -1) else pFind f c r i
  | 0, i => by
    rw [pFind_s, pFind_0, pFind_0, if_pos rfl]
    rfl
  | r + 1, i => by
    rw [pFind_s, pF_last r (i + 1)]
    by_cases h : f i = c
    · rw [if_pos h]
      have e : pFind f c (r + 1) i = (i : Int) := by rw [pFind_s, if_pos h]
      rw [e, if_neg (by omega)]
    · rw [if_neg h]
      have e : pFind f c (r + 1) i = pFind f c r (i + 1) := by rw [pFind_s, if_neg h]
      rw [e, show i + 1 + r = i + (r + 1) by omega]
/-- what the calls keep is not touched above the class's objects -/
theorem CI_hi {xs : Nat → Int32} {c : Nat} {I I' : Nat → Nat → Int32} {L : Nat → Nat → Int64} {α : Nat → Int} {n m : Nat} {o : Nat → Nat} (h : CI xs c I L α n m o) (e : ∀ a, a < 294 → I' a = I a) : CI xs c I' L α n m o := by
  obtain ⟨⟨h1, h2, f, r, h3, h4, h5, h6⟩, hR, hG, hE⟩ := h
  exact ⟨⟨fun j => by rw [e 0 (by omega)]; exact h1 j, fun a g1 g2 j => by rw [e a (by omega)]; exact h2 a g1 g2 j, f, r, h3, h4, by rw [e 74 (by omega)]; exact h5, by rw [e 74 (by omega)]; exact h6⟩, RL_ext hR (fun a ha k => by show I' (19 + a) k = I (19 + a) k; rw [e (19 + a) (by omega)]) (fun _ _ _ => rfl), hG, hE⟩
section SB3
variable {N : NX} {w : WX} {d t n m c : Nat} {α : Nat → Int} {o : Nat → Nat} {I : Nat → Nat → Int32} {L : Nat → Nat → Int64} {D : Nat → Nat → UInt64} {Q : Rs → St → Prop} {xs : Nat → Int32}
theorem c155_4 (hR : RL (gl 19 I) (gl 19 L) α n m o) (hG : GA α n m o) {z : Int} (hz : -1000 ≤ z ∧ z ≤ 1000) (hne : ∀ p, p < m → α (P3 p 0) ≠ z) : ∀ r p : Nat, p + r = m → Wp (d + 2) 155 4 [some (.ref 15), some (.int (Int32.ofInt z)), some (.int (Int32.ofInt 0)), some (.int (Int32.ofInt (p : Int)))] [] (mk N t w I L D) Q = Q (.inl (some (.int (Int32.ofInt 0)))) (mk N t w I L D) := by
  intro r
  have h4 := hG.2.1.1
  induction r with
  | zero =>
    intro p hp
    have g : ¬ ((p : Int) < (m : Int)) := by omega
    rw [w155_4]
    simp only [w155_0, w155_1, w155_2, w155_3, w155_5, w155_6, w155_7, w155_10, w155_13, w155_14, w155_15, w155_16, w155_17, w155_20, w155_21, w155_24, w155_25, w155_28, w155_29, w155_30, w155_31, w155_34, w155_37, w155_38, kn_s, kn_n, zh_mk, zR_mk, zI_mk, zL_mk, zD_mk, wI_mk, wL_mk, wD_mk, zT_mk, zC_mk, kill_i, kill_r, kill_0, kill_n, kill_l, kill_q, zzk_r, zzk_0, zzk_q, zcat_r, zcat_i, zcat_0, zcat_q, cats_0, cats_i, cats_r, cats_l, cats_d, cats_f, cats_q, cats_n, rv_s, rv_0, Nat.reduceAdd, Nat.reduceLeDiff, Nat.reduceEqDiff, Nat.add_zero, Nat.reduceMul, Nat.reduceSub, ne_eq, not_false_eq_true, not_true_eq_false, and_self, and_true, true_and, or_self, or_true, true_or, or_false, false_or, if_true, if_false, reduceIte, reduceCtorEq, implies_true, ite_self, ite_not, k15, c105_2 hR, o_lt (a := (p : Int)) (b := (m : Int)) (by omega), g, nz0]
  | succ r ih =>
    intro p hp
    have g : (p : Int) < (m : Int) := by omega
    have hb := (hG.2.1.2.2 p (by omega)).1
    have h0 : α 0 ≤ 200 := hG.1.2.2.2.1
    have gz : ¬ (α (P3 p 0) = z) := hne p (by omega)
    rw [w155_4]
    simp only [w155_0, w155_1, w155_2, w155_3, w155_5, w155_6, w155_7, w155_10, w155_13, w155_14, w155_15, w155_16, w155_17, w155_20, w155_21, w155_24, w155_25, w155_28, w155_29, w155_30, w155_31, w155_34, w155_37, w155_38, kn_s, kn_n, zh_mk, zR_mk, zI_mk, zL_mk, zD_mk, wI_mk, wL_mk, wD_mk, zT_mk, zC_mk, kill_i, kill_r, kill_0, kill_n, kill_l, kill_q, zzk_r, zzk_0, zzk_q, zcat_r, zcat_i, zcat_0, zcat_q, cats_0, cats_i, cats_r, cats_l, cats_d, cats_f, cats_q, cats_n, rv_s, rv_0, Nat.reduceAdd, Nat.reduceLeDiff, Nat.reduceEqDiff, Nat.add_zero, Nat.reduceMul, Nat.reduceSub, ne_eq, not_false_eq_true, not_true_eq_false, and_self, and_true, true_and, or_self, or_true, true_or, or_false, false_or, if_true, if_false, reduceIte, reduceCtorEq, implies_true, ite_self, ite_not, o_add, o_sub, o_mul, o_neg, q_add, q_sub, q_mul, q_neg, o_32, cast_s, k15, c105_2 hR, o_lt (a := (p : Int)) (b := (m : Int)) (by omega), g, c110_0 hR hG (p := p) (by omega), o_eq (a := α (P3 p 0)) (b := z) (by omega), gz, i00o]
    exact ih (p + 1) (by omega)
theorem c155 (hR : RL (gl 19 I) (gl 19 L) α n m o) (hG : GA α n m o) {z : Int} (hz : -1000 ≤ z ∧ z ≤ 1000) (hne : ∀ p, p < m → α (P3 p 0) ≠ z) : Wp (d + 2) 155 0 [some (.ref 15), some (.int (Int32.ofInt z)), none, none] [] (mk N t w I L D) Q = Q (.inl (some (.int (Int32.ofInt 0)))) (mk N t w I L D) := by
  simp only [w155_0, w155_1, w155_2, w155_3, kn_s, kn_n, zh_mk, zR_mk, zI_mk, zL_mk, zD_mk, wI_mk, wL_mk, wD_mk, zT_mk, zC_mk, kill_i, kill_r, kill_0, kill_n, kill_l, kill_q, zzk_r, zzk_0, zzk_q, zcat_r, zcat_i, zcat_0, zcat_q, cats_0, cats_i, cats_r, cats_l, cats_d, cats_f, cats_q, cats_n, rv_s, rv_0, Nat.reduceAdd, Nat.reduceLeDiff, Nat.reduceEqDiff, Nat.add_zero, Nat.reduceMul, Nat.reduceSub, ne_eq, not_false_eq_true, not_true_eq_false, and_self, and_true, true_and, or_self, or_true, true_or, or_false, false_or, if_true, if_false, reduceIte, reduceCtorEq, implies_true, ite_self, ite_not]
  exact c155_4 hR hG hz hne m 0 (by omega)
theorem lgc {x : Int64} : lg_cmp x x = Int32.ofInt 0 := by
  unfold lg_cmp
  simp
/-- memory that differs above the class's objects alone -/
theorem RL_hi {I' : Nat → Nat → Int32} (hR : RL (gl 19 I) (gl 19 L) α n m o) (e : ∀ a, a < 294 → I' a = I a) : RL (gl 19 I') (gl 19 L) α n m o := RL_ext hR (fun a ha k => by show I' (19 + a) k = I (19 + a) k; rw [e (19 + a) (by omega)]) (fun _ _ _ => rfl)
theorem c156_45 {W : Nat} {fi : Int64} (hW : 294 ≤ W ∧ KH N W = (11, 200)) (hR : RL (gl 19 I) (gl 19 L) α n m o) (hG : GA α n m o) : ∀ (r b : Nat) (I' : Nat → Nat → Int32) (u11 u12 : Option Value), b + r = n → (∀ a, a ≠ W → I' a = I a) → (∀ j : Nat, j < 200 → I' W j = Int32.ofInt (bAt α b (j : Int) + 1)) →
    (∀ (I' : Nat → Nat → Int32) (u11 u12 : Option Value), (∀ a, a ≠ W → I' a = I a) → (∀ j : Nat, j < 200 → I' W j = Int32.ofInt (bAt α n (j : Int) + 1)) → Wp (d + 3) 156 214 [some (.ref 15), some (.long fi), none, some (.long (Int64.ofInt (pushA α n))), none, some (.long (Int64.ofInt (enA α n))), none, some (.int (Int32.ofInt (wtA α n))), some (.int (Int32.ofInt ((n : Int) - mvA α n))), some (.ref W), some (.int (Int32.ofInt (n : Int))), u11, u12] [] (mk N t w I' L D) Q) →
    Wp (d + 3) 156 45 [some (.ref 15), some (.long fi), none, some (.long (Int64.ofInt (pushA α b))), none, some (.long (Int64.ofInt (enA α b))), none, some (.int (Int32.ofInt (wtA α b))), some (.int (Int32.ofInt ((b : Int) - mvA α b))), some (.ref W), some (.int (Int32.ofInt (b : Int))), u11, u12] [] (mk N t w I' L D) Q := by
  intro r
  have h10 := hG.1.1
  have h0 : α 0 ≤ 200 := hG.1.2.2.2.1
  induction r with
  | zero =>
    intro b I' u11 u12 hb hI hJ K
    obtain rfl : b = n := by omega
    have hR' := RL_hi (I' := I') hR fun a ha => hI a (by omega)
    have g : ¬ ((b : Int) < (b : Int)) := by omega
    rw [w156_45]
    simp only [w156_0, w156_1, w156_2, w156_5, w156_6, w156_7, w156_8, w156_11, w156_12, w156_13, w156_14, w156_17, w156_18, w156_19, w156_22, w156_23, w156_24, w156_25, w156_26, w156_27, w156_29, w156_30, w156_32, w156_33, w156_35, w156_38, w156_40, w156_42, w156_43, w156_47, w156_48, w156_49, w156_52, w156_55, w156_56, w156_58, w156_59, w156_62, w156_64, w156_65, w156_67, w156_68, w156_71, w156_73, w156_75, w156_77, w156_78, w156_81, w156_82, w156_84, w156_87, w156_90, w156_91, w156_93, w156_96, w156_98, w156_101, w156_103, w156_105, w156_108, w156_110, w156_112, w156_115, w156_116, w156_118, w156_119, w156_122, w156_125, w156_126, w156_128, w156_129, w156_132, w156_134, w156_137, w156_138, w156_139, w156_141, w156_143, w156_145, w156_146, w156_147, w156_148, w156_149, w156_150, w156_152, w156_153, w156_156, w156_158, w156_159, w156_160, w156_161, w156_162, w156_164, w156_165, w156_167, w156_168, w156_171, w156_173, w156_174, w156_176, w156_177, w156_178, w156_179, w156_181, w156_183, w156_184, w156_186, w156_187, w156_190, w156_191, w156_193, w156_195, w156_197, w156_200, w156_201, w156_204, w156_205, w156_206, w156_208, w156_211, w156_215, w156_219, w156_220, w156_221, w156_224, w156_227, w156_228, w156_230, w156_233, w156_235, w156_237, w156_238, w156_239, w156_240, w156_243, w156_244, w156_245, w156_248, w156_251, w156_252, w156_253, w156_256, w156_257, w156_258, w156_261, w156_262, w156_263, w156_266, w156_268, w156_269, w156_272, w156_273, w156_274, w156_277, w156_279, w156_282, w156_283, w156_285, w156_288, w156_290, w156_293, w156_294, w156_297, w156_298, kn_s, kn_n, zh_mk, zR_mk, zI_mk, zL_mk, zD_mk, wI_mk, wL_mk, wD_mk, zT_mk, zC_mk, kill_i, kill_r, kill_0, kill_n, kill_l, kill_q, zzk_r, zzk_0, zzk_q, zcat_r, zcat_i, zcat_0, zcat_q, cats_0, cats_i, cats_r, cats_l, cats_d, cats_f, cats_q, cats_n, rv_s, rv_0, Nat.reduceAdd, Nat.reduceLeDiff, Nat.reduceEqDiff, Nat.add_zero, Nat.reduceMul, Nat.reduceSub, ne_eq, not_false_eq_true, not_true_eq_false, and_self, and_true, true_and, or_self, or_true, true_or, or_false, false_or, if_true, if_false, reduceIte, reduceCtorEq, implies_true, ite_self, ite_not, k15, c105_1 hR', o_lt (a := (b : Int)) (b := (b : Int)) (by omega), g]
    exact K I' u11 u12 hI hJ
  | succ r ih =>
    intro b I' u11 u12 hb hI hJ K
    have hbn : b < n := by omega
    have hR' := RL_hi (I' := I') hR fun a ha => hI a (by omega)
    have g : (b : Int) < (n : Int) := by omega
    obtain ⟨q0, q1, q2, q3⟩ := hG.1.2.2.2.2 b hbn
    obtain ⟨κ, hκ⟩ : ∃ κ : Nat, α (B9 b 0) = (κ : Int) := ⟨(α (B9 b 0)).toNat, by omega⟩
    have hat := bAt_of hG hbn
    have hne : bAt α b (κ : Int) = -1 := pF_no fun j hj e => by
      have e2 := cell_inj hG (show j < n by omega) hbn (by rw [hκ]; exact e)
      omega
    have eJ := hJ κ (by omega)
    rw [hne] at eJ
    have hpost : ∀ p, p < m → α (P3 p 0) ≠ (κ : Int) := fun p hp e => hG.2.2.2.2.2.2 b hbn p hp (by rw [hκ]; exact e.symm)
    have hci : isC α (κ : Int) := by unfold isC; omega
    rw [hκ] at hat
    have b0 := fun (d : Nat) (Q : Rs → St → Prop) => c106_0 (d := d) (N := N) (w := w) (t := t) (D := D) (Q := Q) hR' hG hbn
    rw [hκ] at b0
    have b2 := fun (d : Nat) (Q : Rs → St → Prop) (J : Nat → Nat → Int32) (hJ : RL (gl 19 J) (gl 19 L) α n m o) => c106_2 (d := d) (N := N) (w := w) (t := t) (D := D) (Q := Q) hJ hG hbn
    have hR2 := RL_hi (I' := up2 I' W κ (Int32.ofInt ((b + 1 : Nat) : Int))) hR' fun a ha => by
      funext j
      rw [u2_ne (by omega)]
    have pb := push_b q2 q1
    have g60 : ¬ (α (B9 b 1) < -60) := by omega
    have g61 : ¬ (60 < α (B9 b 1)) := by omega
    have g62 : ¬ (α (B9 b 3) < 0) := by omega
    have g63 : ¬ (59 < α (B9 b 3)) := by omega
    have go := ih (b + 1) (up2 I' W κ (Int32.ofInt ((b + 1 : Nat) : Int))) (some (.int (Int32.ofInt (κ : Int)))) (some (.int (Int32.ofInt (α (B9 b 1))))) (by omega) (fun a ha => by
      rw [← hI a ha]
      funext j
      rw [u2_ne (by omega)]) (fun j hj => by
      have el : bAt α (b + 1) (j : Int) = if bAt α b (j : Int) = -1 then (if α (B9 b 0) = (j : Int) then (b : Int) else -1) else bAt α b (j : Int) := by
        have := pF_last (f := fun i => α (B9 i 0)) (c := (j : Int)) b 0
        rw [Nat.zero_add] at this
        exact this
      by_cases e : j = κ
      · subst e
        rw [u2_same, el, hne, if_pos rfl, if_pos hκ]
        rfl
      · rw [u2_ne (by omega), hJ j hj, el]
        by_cases e2 : bAt α b (j : Int) = -1
        · rw [if_pos e2, e2, hκ, if_neg (by omega)]
        · rw [if_neg e2]) K
    rw [w156_45]
    simp only [w156_0, w156_1, w156_2, w156_5, w156_6, w156_7, w156_8, w156_11, w156_12, w156_13, w156_14, w156_17, w156_18, w156_19, w156_22, w156_23, w156_24, w156_25, w156_26, w156_27, w156_29, w156_30, w156_32, w156_33, w156_35, w156_38, w156_40, w156_42, w156_43, w156_47, w156_48, w156_49, w156_52, w156_55, w156_56, w156_58, w156_59, w156_62, w156_64, w156_65, w156_67, w156_68, w156_71, w156_73, w156_75, w156_77, w156_78, w156_81, w156_82, w156_84, w156_87, w156_90, w156_91, w156_93, w156_96, w156_98, w156_101, w156_103, w156_105, w156_108, w156_110, w156_112, w156_115, w156_116, w156_118, w156_119, w156_122, w156_125, w156_126, w156_128, w156_129, w156_132, w156_134, w156_137, w156_138, w156_139, w156_141, w156_143, w156_145, w156_146, w156_147, w156_148, w156_149, w156_150, w156_152, w156_153, w156_156, w156_158, w156_159, w156_160, w156_161, w156_162, w156_164, w156_165, w156_167, w156_168, w156_171, w156_173, w156_174, w156_176, w156_177, w156_178, w156_179, w156_181, w156_183, w156_184, w156_186, w156_187, w156_190, w156_191, w156_193, w156_195, w156_197, w156_200, w156_201, w156_204, w156_205, w156_206, w156_208, w156_211, w156_215, w156_219, w156_220, w156_221, w156_224, w156_227, w156_228, w156_230, w156_233, w156_235, w156_237, w156_238, w156_239, w156_240, w156_243, w156_244, w156_245, w156_248, w156_251, w156_252, w156_253, w156_256, w156_257, w156_258, w156_261, w156_262, w156_263, w156_266, w156_268, w156_269, w156_272, w156_273, w156_274, w156_277, w156_279, w156_282, w156_283, w156_285, w156_288, w156_290, w156_293, w156_294, w156_297, w156_298, kn_s, kn_n, zh_mk, zR_mk, zI_mk, zL_mk, zD_mk, wI_mk, wL_mk, wD_mk, zT_mk, zC_mk, kill_i, kill_r, kill_0, kill_n, kill_l, kill_q, zzk_r, zzk_0, zzk_q, zcat_r, zcat_i, zcat_0, zcat_q, cats_0, cats_i, cats_r, cats_l, cats_d, cats_f, cats_q, cats_n, rv_s, rv_0, Nat.reduceAdd, Nat.reduceLeDiff, Nat.reduceEqDiff, Nat.add_zero, Nat.reduceMul, Nat.reduceSub, ne_eq, not_false_eq_true, not_true_eq_false, and_self, and_true, true_and, or_self, or_true, true_or, or_false, false_or, if_true, if_false, reduceIte, reduceCtorEq, implies_true, ite_self, ite_not, o_add, o_sub, o_mul, o_neg, q_add, q_sub, q_mul, q_neg, o_32, cast_s, k15, hW.2, c105_1 hR', o_lt (a := (b : Int)) (b := (n : Int)) (by omega), g, b0, c106_1 hR' hG hbn, o_ixn (j := κ) (n := 200) (by omega), o_tnn (j := κ) (by omega), eJ, show (-1 : Int) + 1 = 0 from rfl, i00, c155 hR' hG (z := (κ : Int)) (by omega) hpost, c108 hR' hG hci, hat, o_lt (a := α (B9 b 1)) (b := -60) (by omega), g60, o_lt (a := 60) (b := α (B9 b 1)) (by omega), g61, c106_3 hR' hG hbn, o_lt (a := α (B9 b 3)) (b := 0) (by omega), g62, o_lt (a := 59) (b := α (B9 b 3)) (by omega), g63, b2 _ _ _ hR2, o_64 (z := α (B9 b 2) * α (B9 b 1)) (by omega), o_64 (z := α (B9 b 2) * α (B9 b 1) * α (B9 b 1)) (by omega), pushA_s, enA_s, wtA_s, o_eq (a := α (B9 b 1)) (b := 0) (by omega)]
    by_cases hv : α (B9 b 1) = 0
    · have es : (b : Int) - mvA α b + 1 = ((b + 1 : Nat) : Int) - mvA α (b + 1) := by rw [mvA_s, if_pos hv]; omega
      rw [if_pos hv, es]
      exact go
    · have es : (b : Int) - mvA α b + 0 = ((b + 1 : Nat) : Int) - mvA α (b + 1) := by rw [mvA_s, if_neg hv]; omega
      rw [if_neg hv, es]
      exact go
theorem c156_217 {W : Nat} {fi : Int64} {u11 u12 : Option Value} (hW : 294 ≤ W ∧ KH N W = (11, 200)) (hR : RL (gl 19 I) (gl 19 L) α n m o) (hG : GA α n m o) (hJ : ∀ j : Nat, j < 200 → I W j = Int32.ofInt (bAt α n (j : Int) + 1)) : ∀ r b : Nat, ((b + r : Nat) : Int) = α 0 →
    Wp (d + 3) 156 217 [some (.ref 15), some (.long fi), none, some (.long (Int64.ofInt (pushA α n))), none, some (.long (Int64.ofInt (enA α n))), none, some (.int (Int32.ofInt (wtA α n))), some (.int (Int32.ofInt ((n : Int) - mvA α n))), some (.ref W), some (.int (Int32.ofInt (b : Int))), u11, u12] [] (mk N t w I L D) Q = Q (.inl (some (.int (Int32.ofInt 1)))) (mk N t w I L D) := by
  have h0 : α 0 ≤ 200 := hG.1.2.2.2.1
  intro r
  induction r with
  | zero =>
    intro b hb
    have g : ¬ ((b : Int) < α 0) := by omega
    rw [w156_217]
    simp only [w156_0, w156_1, w156_2, w156_5, w156_6, w156_7, w156_8, w156_11, w156_12, w156_13, w156_14, w156_17, w156_18, w156_19, w156_22, w156_23, w156_24, w156_25, w156_26, w156_27, w156_29, w156_30, w156_32, w156_33, w156_35, w156_38, w156_40, w156_42, w156_43, w156_47, w156_48, w156_49, w156_52, w156_55, w156_56, w156_58, w156_59, w156_62, w156_64, w156_65, w156_67, w156_68, w156_71, w156_73, w156_75, w156_77, w156_78, w156_81, w156_82, w156_84, w156_87, w156_90, w156_91, w156_93, w156_96, w156_98, w156_101, w156_103, w156_105, w156_108, w156_110, w156_112, w156_115, w156_116, w156_118, w156_119, w156_122, w156_125, w156_126, w156_128, w156_129, w156_132, w156_134, w156_137, w156_138, w156_139, w156_141, w156_143, w156_145, w156_146, w156_147, w156_148, w156_149, w156_150, w156_152, w156_153, w156_156, w156_158, w156_159, w156_160, w156_161, w156_162, w156_164, w156_165, w156_167, w156_168, w156_171, w156_173, w156_174, w156_176, w156_177, w156_178, w156_179, w156_181, w156_183, w156_184, w156_186, w156_187, w156_190, w156_191, w156_193, w156_195, w156_197, w156_200, w156_201, w156_204, w156_205, w156_206, w156_208, w156_211, w156_214, w156_215, w156_219, w156_220, w156_221, w156_224, w156_227, w156_228, w156_230, w156_233, w156_235, w156_237, w156_238, w156_239, w156_240, w156_243, w156_244, w156_245, w156_248, w156_251, w156_252, w156_253, w156_256, w156_257, w156_258, w156_261, w156_262, w156_263, w156_266, w156_268, w156_269, w156_272, w156_273, w156_274, w156_277, w156_279, w156_282, w156_283, w156_285, w156_288, w156_290, w156_293, w156_294, w156_297, w156_298, kn_s, kn_n, zh_mk, zR_mk, zI_mk, zL_mk, zD_mk, wI_mk, wL_mk, wD_mk, zT_mk, zC_mk, kill_i, kill_r, kill_0, kill_n, kill_l, kill_q, zzk_r, zzk_0, zzk_q, zcat_r, zcat_i, zcat_0, zcat_q, cats_0, cats_i, cats_r, cats_l, cats_d, cats_f, cats_q, cats_n, rv_s, rv_0, Nat.reduceAdd, Nat.reduceLeDiff, Nat.reduceEqDiff, Nat.add_zero, Nat.reduceMul, Nat.reduceSub, ne_eq, not_false_eq_true, not_true_eq_false, and_self, and_true, true_and, or_self, or_true, true_or, or_false, false_or, if_true, if_false, reduceIte, reduceCtorEq, implies_true, ite_self, ite_not, k15, c105_0 hR, o_lt (a := (b : Int)) (b := α 0) (by omega), g, c119_0 hR hG, c119_1 hR hG, lgc, i00, c105_5 hR hG, c105_6 hR hG, nz1]
  | succ r ih =>
    intro b hb
    have g : (b : Int) < α 0 := by omega
    have hci : isC α (b : Int) := by unfold isC; omega
    have eJ := hJ b (by omega)
    have hr := pFind_rng (f := fun i => α (B9 i 0)) (c := (b : Int)) n 0
    have e1 : bAt α n (b : Int) + 1 - 1 = bAt α n (b : Int) := by omega
    rw [w156_217]
    simp only [w156_0, w156_1, w156_2, w156_5, w156_6, w156_7, w156_8, w156_11, w156_12, w156_13, w156_14, w156_17, w156_18, w156_19, w156_22, w156_23, w156_24, w156_25, w156_26, w156_27, w156_29, w156_30, w156_32, w156_33, w156_35, w156_38, w156_40, w156_42, w156_43, w156_47, w156_48, w156_49, w156_52, w156_55, w156_56, w156_58, w156_59, w156_62, w156_64, w156_65, w156_67, w156_68, w156_71, w156_73, w156_75, w156_77, w156_78, w156_81, w156_82, w156_84, w156_87, w156_90, w156_91, w156_93, w156_96, w156_98, w156_101, w156_103, w156_105, w156_108, w156_110, w156_112, w156_115, w156_116, w156_118, w156_119, w156_122, w156_125, w156_126, w156_128, w156_129, w156_132, w156_134, w156_137, w156_138, w156_139, w156_141, w156_143, w156_145, w156_146, w156_147, w156_148, w156_149, w156_150, w156_152, w156_153, w156_156, w156_158, w156_159, w156_160, w156_161, w156_162, w156_164, w156_165, w156_167, w156_168, w156_171, w156_173, w156_174, w156_176, w156_177, w156_178, w156_179, w156_181, w156_183, w156_184, w156_186, w156_187, w156_190, w156_191, w156_193, w156_195, w156_197, w156_200, w156_201, w156_204, w156_205, w156_206, w156_208, w156_211, w156_214, w156_215, w156_219, w156_220, w156_221, w156_224, w156_227, w156_228, w156_230, w156_233, w156_235, w156_237, w156_238, w156_239, w156_240, w156_243, w156_244, w156_245, w156_248, w156_251, w156_252, w156_253, w156_256, w156_257, w156_258, w156_261, w156_262, w156_263, w156_266, w156_268, w156_269, w156_272, w156_273, w156_274, w156_277, w156_279, w156_282, w156_283, w156_285, w156_288, w156_290, w156_293, w156_294, w156_297, w156_298, kn_s, kn_n, zh_mk, zR_mk, zI_mk, zL_mk, zD_mk, wI_mk, wL_mk, wD_mk, zT_mk, zC_mk, kill_i, kill_r, kill_0, kill_n, kill_l, kill_q, zzk_r, zzk_0, zzk_q, zcat_r, zcat_i, zcat_0, zcat_q, cats_0, cats_i, cats_r, cats_l, cats_d, cats_f, cats_q, cats_n, rv_s, rv_0, Nat.reduceAdd, Nat.reduceLeDiff, Nat.reduceEqDiff, Nat.add_zero, Nat.reduceMul, Nat.reduceSub, ne_eq, not_false_eq_true, not_true_eq_false, and_self, and_true, true_and, or_self, or_true, true_or, or_false, false_or, if_true, if_false, reduceIte, reduceCtorEq, implies_true, ite_self, ite_not, o_add, o_sub, o_mul, o_neg, q_add, q_sub, q_mul, q_neg, o_32, cast_s, k15, hW.2, c105_0 hR, o_lt (a := (b : Int)) (b := α 0) (by omega), g, c108 hR hG hci, eJ, e1, o_ixn (j := b) (n := 200) (by omega), o_tnn (j := b) (by omega), cast_s]
    exact ih (b + 1) (by omega)
/-- stands: the push is what it was, less and more -/
theorem c156 {first : Int} (hCI : CI xs c I L α n m o) (hP : pushA α n = first + α 7 - α 5) (hZ : ZA N w I) (hN : 294 ≤ N.2.1 ∧ N.2.1 < 90000) (K : ∀ I', (∀ a, a < N.2.1 → I' a = I a) → ZA (nwN N (11, 200) 200) w I' → CI xs c I' L α n m o → Q (.inl (some (.int (Int32.ofInt 1)))) (mk (nwN N (11, 200) 200) t w I' L D)) : Wp (d + 3) 156 0 [some (.ref 15), some (.long (Int64.ofInt first)), none, none, none, none, none, none, none, none, none, none, none] [] (mk N t w I L D) Q := by
  have hR := hCI.2.1
  have hG := hCI.2.2.1
  have hKB : N.2.1 < KB := by show N.2.1 < 100000; omega
  have e1 : first + α 7 - α 5 = pushA α n := hP.symm
  have hW : KH (nwN N (11, 200) 200) N.2.1 = (11, 200) := KH_new hN.1
  have z0 : (Int32.ofInt 0 ≤ Int32.ofInt 200) = True := by decide
  have t2 : (Int32.ofInt 200).toNatClampNeg = 200 := by decide
  have h2 : (200 : Nat) ≤ 4000 := by decide
  simp only [w156_0, w156_1, w156_2, w156_5, w156_6, w156_7, w156_8, w156_11, w156_12, w156_13, w156_14, w156_17, w156_18, w156_19, w156_22, w156_23, w156_24, w156_25, w156_26, w156_27, w156_29, w156_30, w156_32, w156_33, w156_35, w156_38, w156_40, w156_42, w156_43, w156_47, w156_48, w156_49, w156_52, w156_55, w156_56, w156_58, w156_59, w156_62, w156_64, w156_65, w156_67, w156_68, w156_71, w156_73, w156_75, w156_77, w156_78, w156_81, w156_82, w156_84, w156_87, w156_90, w156_91, w156_93, w156_96, w156_98, w156_101, w156_103, w156_105, w156_108, w156_110, w156_112, w156_115, w156_116, w156_118, w156_119, w156_122, w156_125, w156_126, w156_128, w156_129, w156_132, w156_134, w156_137, w156_138, w156_139, w156_141, w156_143, w156_145, w156_146, w156_147, w156_148, w156_149, w156_150, w156_152, w156_153, w156_156, w156_158, w156_159, w156_160, w156_161, w156_162, w156_164, w156_165, w156_167, w156_168, w156_171, w156_173, w156_174, w156_176, w156_177, w156_178, w156_179, w156_181, w156_183, w156_184, w156_186, w156_187, w156_190, w156_191, w156_193, w156_195, w156_197, w156_200, w156_201, w156_204, w156_205, w156_206, w156_208, w156_211, w156_215, w156_219, w156_220, w156_221, w156_224, w156_227, w156_228, w156_230, w156_233, w156_235, w156_237, w156_238, w156_239, w156_240, w156_243, w156_244, w156_245, w156_248, w156_251, w156_252, w156_253, w156_256, w156_257, w156_258, w156_261, w156_262, w156_263, w156_266, w156_268, w156_269, w156_272, w156_273, w156_274, w156_277, w156_279, w156_282, w156_283, w156_285, w156_288, w156_290, w156_293, w156_294, w156_297, w156_298, kn_s, kn_n, zh_mk, zR_mk, zI_mk, zL_mk, zD_mk, wI_mk, wL_mk, wD_mk, zT_mk, zC_mk, kill_i, kill_r, kill_0, kill_n, kill_l, kill_q, zzk_r, zzk_0, zzk_q, zcat_r, zcat_i, zcat_0, zcat_q, cats_0, cats_i, cats_r, cats_l, cats_d, cats_f, cats_q, cats_n, rv_s, rv_0, Nat.reduceAdd, Nat.reduceLeDiff, Nat.reduceEqDiff, Nat.add_zero, Nat.reduceMul, Nat.reduceSub, ne_eq, not_false_eq_true, not_true_eq_false, and_self, and_true, true_and, or_self, or_true, true_or, or_false, false_or, if_true, if_false, reduceIte, reduceCtorEq, implies_true, ite_self, ite_not, o_add, o_sub, o_mul, o_neg, q_add, q_sub, q_mul, q_neg, o_32, cast_s, k15, c119_0 hR hG, c119_4 hR hG, c119_2 hR hG, e1, lgc, i00, z0, t2, h2, zn_mk, hKB, zNew_mk hN.1]
  have go := c156_45 (d := d) (t := t) (N := nwN N (11, 200) 200) (w := w) (D := D) (Q := Q) (W := N.2.1) (fi := Int64.ofInt first) ⟨hN.1, hW⟩ hR hG n 0 I none none (by omega) (fun a _ => rfl) (fun j hj => (hZ _ (Nat.le_refl _) j).1) fun I' u11 u12 hI hJ => ?_
  · exact go
  · have hR' := RL_hi (I' := I') hR fun a ha => hI a (by omega)
    have h17 := c156_217 (d := d) (t := t) (N := nwN N (11, 200) 200) (w := w) (D := D) (Q := Q) (W := N.2.1) (fi := Int64.ofInt first) (u11 := u11) (u12 := u12) ⟨hN.1, hW⟩ hR' hG hJ (α 0).toNat 0 (by have := hG.1.2.2.1; omega)
    simp only [w156_214, w156_215, kn_s, kn_n, zh_mk, zR_mk, zI_mk, zL_mk, zD_mk, wI_mk, wL_mk, wD_mk, zT_mk, zC_mk, kill_i, kill_r, kill_0, kill_n, kill_l, kill_q, zzk_r, zzk_0, zzk_q, zcat_r, zcat_i, zcat_0, zcat_q, cats_0, cats_i, cats_r, cats_l, cats_d, cats_f, cats_q, cats_n, rv_s, rv_0, Nat.reduceAdd, Nat.reduceLeDiff, Nat.reduceEqDiff, Nat.add_zero, Nat.reduceMul, Nat.reduceSub, ne_eq, not_false_eq_true, not_true_eq_false, and_self, and_true, true_and, or_self, or_true, true_or, or_false, false_or, if_true, if_false, reduceIte, reduceCtorEq, implies_true, ite_self, ite_not]
    refine Eq.mpr h17 ?_
    refine K I' (fun a ha => hI a (by omega)) (fun a ha j => ?_) (CI_hi hCI fun a ha => hI a (by omega))
    have ha' : N.2.1 + 1 ≤ a := ha
    exact ⟨by rw [hI a (by omega)]; exact (hZ a (by omega) j).1, (hZ a (by omega) j).2⟩
end SB3
