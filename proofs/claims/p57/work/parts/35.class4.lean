/-! CONTRACTS of the class's line: a meeting -/
section S35
variable {N : NX} {w : WX} {d t a a2 b n m : Nat} {I ℓ : Nat → Nat → Int32} {L μ : Nat → Nat → Int64} {D : Nat → Nat → UInt64} {Q : Rs → St → Prop} {x : Tn} {o : Nat → Nat} {ds : Nat → Int} {α : Nat → Int}
theorem pI_t {P : Prop} [Decidable P] (h : P) : pI P = Int32.ofInt 1 := by
  unfold pI
  rw [if_pos h]
theorem pI_f {P : Prop} [Decidable P] (h : ¬ P) : pI P = Int32.ofInt 0 := by
  unfold pI
  rw [if_neg h]
theorem c16 (hb : LB b) {i j : Nat} (hi : i < 10) (hj : j < 10) (hne : i ≠ j) : Wp d 16 0 [some (.ref (b + 11)), some (.int (Int32.ofInt (i : Int))), some (.int (Int32.ofInt (j : Int)))] [] (mk N t w (lay b ℓ I) L D) Q = Q (.inl none) (mk N t w (lay b (up2 (up2 (up2 ℓ 11 4 (ℓ 11 4 + Int32.ofInt 1)) 12 (10 * i + j) (ℓ 12 (10 * i + j) + Int32.ofInt 1)) 12 (10 * j + i) (ℓ 12 (10 * j + i) + Int32.ofInt 1)) I) L D) := by
  have e1 : ((i : Int) * 10 + (j : Int)).toNat = 10 * i + j := by omega
  have e2 : ((j : Int) * 10 + (i : Int)).toNat = 10 * j + i := by omega
  have n1 : (10 * j + i = 10 * i + j) = False := by simp only [eq_iff_iff, iff_false]; omega
  simp only [w16_0, w16_1, w16_2, w16_5, w16_6, w16_7, w16_10, w16_11, w16_14, w16_15, w16_17, w16_18, w16_19, w16_20, w16_21, w16_22, w16_23, w16_24, w16_25, w16_26, w16_29, w16_30, w16_32, w16_33, w16_34, w16_35, w16_36, w16_37, w16_38, w16_39, w16_40, kn_s, kn_n, zh_mk, zR_mk, zI_mk, zL_mk, zD_mk, wI_mk, wL_mk, wD_mk, zT_mk, zC_mk, kill_i, kill_r, kill_0, kill_n, kill_l, kill_q, zzk_r, zzk_0, zzk_q, zcat_r, zcat_i, zcat_0, zcat_q, cats_0, cats_i, cats_r, cats_l, cats_d, cats_f, cats_q, cats_n, rv_s, rv_0, Nat.reduceAdd, Nat.reduceLeDiff, Nat.reduceEqDiff, Nat.add_zero, Nat.reduceMul, Nat.reduceSub, ne_eq, not_false_eq_true, not_true_eq_false, and_self, and_true, true_and, or_self, or_true, true_or, or_false, false_or, if_true, if_false, reduceIte, reduceCtorEq, implies_true, ite_self, ite_not, lay_in, lay_0, up2_lay, up2_lay0, kh0, kh1, kh2, kh3, kh4, kh5, kh6, kh7, kh8, kh9, kh10, kh11, kh12, khB, khP, kr2, kr4, kr5, kr7, kr8, kr9, kr10, krB, krP, krG0, krG1, krG2, krG3, krK, Nat.reduceLT, up2_at, Nat.reduceEqDiff, and_false, false_and, hb, o_mul, o_add (a := (i : Int) * 10) (b := (j : Int)), o_add (a := (j : Int) * 10) (b := (i : Int)), o_ix (z := (i : Int) * 10 + (j : Int)) (n := 100) (by omega), o_tn (z := (i : Int) * 10 + (j : Int)) (by omega), o_ix (z := (j : Int) * 10 + (i : Int)) (n := 100) (by omega), o_tn (z := (j : Int) * 10 + (i : Int)) (by omega), e1, e2, n1]

theorem u2_same {β : Type} {f : Nat → Nat → β} {a k : Nat} {v : β} : up2 f a k v a k = v := up2_same
theorem c37_1 (hb : LB b) (hR : RT ℓ μ x n m o ds) (hG : XG x n m o) {l r : Nat} (hl : l < n) (hr : r < n) (hlr : l ≠ r)
    (hQ : ∀ (ℓ' : Nat → Nat → Int32) (μ' : Nat → Nat → Int64), RT ℓ' μ' (hitT x l r l r) n m o ds → Q (.inl none) (mk N t w (lay b ℓ' I) (lay b μ' L) D)) :
    Wp (d + 2) 37 0 [some (.ref b), some (.int (Int32.ofInt (l : Int))), some (.int (Int32.ofInt (r : Int))), some (.int (Int32.ofInt 1)), none, none, none, none] [] (mk N t w (lay b ℓ I) (lay b μ L) D) Q := by
  obtain ⟨α, p, r', M, z1, z2⟩ := x
  obtain ⟨hG, hM, -⟩ := hG
  have hG : GA α n m o := hG
  have hRL : RL ℓ μ α n m o := hR.1
  have h10 : n ≤ 10 := hG.1.1
  have hl10 : l < 10 := by omega
  have hr10 : r < 10 := by omega
  have gl := hG.1.2.2.2.2 l hl
  have gr := hG.1.2.2.2.2 r hr
  have h4 := hG.2.2.1.2.2
  have rl2 : ℓ (l + 13) 2 = Int32.ofInt (α (B9 l 1)) := RL_B hRL hl h10 (by omega)
  have rl3 : ℓ (l + 13) 3 = Int32.ofInt (α (B9 l 2)) := RL_B hRL hl h10 (by omega)
  have rl6 : ℓ (l + 13) 6 = Int32.ofInt (α (B9 l 5)) := RL_B hRL hl h10 (by omega)
  have rr2 : ℓ (r + 13) 2 = Int32.ofInt (α (B9 r 1)) := RL_B hRL hr h10 (by omega)
  have rr3 : ℓ (r + 13) 3 = Int32.ofInt (α (B9 r 2)) := RL_B hRL hr h10 (by omega)
  have rr6 : ℓ (r + 13) 6 = Int32.ofInt (α (B9 r 5)) := RL_B hRL hr h10 (by omega)
  have rb8 : ℓ (l + 13) 8 = Int32.ofInt (α (B9 l 7)) := RL_B hRL (by omega) h10 (by omega)
  have r16 : ℓ 11 6 = Int32.ofInt (α 14) := hRL.1 14 (by unfold kd; omega)
  have r14 : ℓ 11 4 = Int32.ofInt (α 12) := hRL.1 12 (by unfold kd; omega)
  have r01 : ℓ 0 1 = Int32.ofInt (α 3) := hRL.1 3 (by unfold kd; omega)
  have rg := hRL.2.2.1.2.1
  have rh1 : ℓ 12 (10 * l + r) = Int32.ofInt (α (HH l r)) := RL_H hRL (by omega) (by omega)
  have rh2 : ℓ 12 (10 * r + l) = Int32.ofInt (α (HH r l)) := RL_H hRL (by omega) (by omega)
  obtain ⟨nx, g1, g2, g3, -⟩ := hRL.2.2.2.2
  have n1 : (l + 13 = r + 13) = False := by simp only [eq_iff_iff, iff_false]; omega
  have n2 : (r + 13 = l + 13) = False := by simp only [eq_iff_iff, iff_false]; omega
  have n3 : (11 = l + 13) = False := by simp only [eq_iff_iff, iff_false]; omega
  have n4 : (11 = r + 13) = False := by simp only [eq_iff_iff, iff_false]; omega
  have n5 : (12 = l + 13) = False := by simp only [eq_iff_iff, iff_false]; omega
  have n6 : (12 = r + 13) = False := by simp only [eq_iff_iff, iff_false]; omega
  have n7 : (0 = l + 13) = False := by simp only [eq_iff_iff, iff_false]; omega
  have n8 : (0 = r + 13) = False := by simp only [eq_iff_iff, iff_false]; omega
  have c38' := fun (d' : Nat) (Q' : Rs → St → Prop) => c38 (d := d') (N := N) (t := t) (w := w) (L := lay b μ L) (D := D) (Q := Q') (I := lay b ℓ I) (a := b + (l + 13)) (a2 := b + (r + 13)) (khB hb hl10) (khB hb hr10) gl.2.1 gr.2.1 gl.2.2.1 gr.2.2.1 (by rw [lay_in (by omega)]; exact rl2) (by rw [lay_in (by omega)]; exact rr2) (by rw [lay_in (by omega)]; exact rl3) (by rw [lay_in (by omega)]; exact rr3)
  unfold hitT at hQ
  by_cases hlt : α (B9 l 1) ≤ α (B9 r 1)
  · simp only [hlt, if_true] at hQ
    simp only [w37_0, w37_1, w37_4, w37_5, w37_8, w37_9, w37_12, w37_13, w37_14, w37_16, w37_17, w37_20, w37_21, w37_24, w37_25, w37_28, w37_29, w37_30, w37_32, w37_34, w37_36, w37_39, w37_41, w37_43, w37_44, w37_47, w37_48, w37_51, w37_52, w37_53, w37_54, w37_57, w37_58, w37_59, w37_62, w37_63, w37_66, w37_67, w37_70, w37_71, w37_72, w37_75, w37_76, w37_78, w37_81, w37_83, w37_85, w37_86, w37_89, w37_91, w37_93, w37_95, w37_98, w37_99, w37_100, w37_103, w37_105, w37_106, w37_109, w37_111, w37_113, w37_115, w37_118, w37_119, w37_120, w37_123, w37_124, w37_127, w37_128, w37_131, w37_133, w37_136, w37_138, w37_139, w37_140, w37_141, w37_144, w37_146, w37_147, w37_150, w37_151, w37_152, w37_155, w37_157, w37_158, w37_161, w37_162, w37_163, w37_166, w37_168, w37_169, w37_172, w37_174, w37_175, w37_178, w37_179, w37_182, w37_183, w37_184, w37_187, w37_188, w37_191, w37_192, w37_195, w37_196, w37_197, w37_199, w37_202, kn_s, kn_n, zh_mk, zR_mk, zI_mk, zL_mk, zD_mk, wI_mk, wL_mk, wD_mk, zT_mk, zC_mk, kill_i, kill_r, kill_0, kill_n, kill_l, kill_q, zzk_r, zzk_0, zzk_q, zcat_r, zcat_i, zcat_0, zcat_q, cats_0, cats_i, cats_r, cats_l, cats_d, cats_f, cats_q, cats_n, rv_s, rv_0, Nat.reduceAdd, Nat.reduceLeDiff, Nat.reduceEqDiff, Nat.add_zero, Nat.reduceMul, Nat.reduceSub, ne_eq, not_false_eq_true, not_true_eq_false, and_self, and_true, true_and, or_self, or_true, true_or, or_false, false_or, if_true, if_false, reduceIte, reduceCtorEq, implies_true, ite_self, ite_not, lay_in, lay_0, up2_lay, up2_lay0, kh0, kh1, kh2, kh3, kh4, kh5, kh6, kh7, kh8, kh9, kh10, kh11, kh12, khB, khP, kr2, kr4, kr5, kr7, kr8, kr9, kr10, krB, krP, krG0, krG1, krG2, krG3, krK, Nat.reduceLT, o_add, o_sub, o_mul, o_neg, q_add, q_sub, q_mul, q_neg, o_32, cast_s, Int.toNat_natCast, up2_at, Nat.reduceEqDiff, and_false, false_and, hb, hl10, hr10, c38', hlt, o_lt (a := 0) (b := 1) (by omega), show ((0 : Int) < 1) = True by simp, show l + 13 < 27 by omega, show r + 13 < 27 by omega, o_ixn (j := l) (n := 10) (by omega), o_tnn (j := l) (by omega), o_ixn (j := r) (n := 10) (by omega), o_tnn (j := r) (by omega), rb8, r16, n3, n4]
    refine hQ _ _ ⟨?_, fun j hj => ?_⟩
    · have q1 := RL_i (key := B9 l 7) (v := α (B9 l 7) + 1) hRL (by unfold kd B9; omega)
      rw [mo_B (by omega) (by omega), mq_B (by omega) (by omega)] at q1
      exact RL_i (key := 14) (v := α 14 + 1) q1 (by unfold kd; omega)
    · have hd := hR.2 j hj
      rw [u2_ne (by omega), u2_ne (by omega), u2_ne (by omega), u2_ne (by omega)]
      exact hd
  · have g : α (B9 r 1) < α (B9 l 1) := by omega
    have hk := kA_b gl.2.1 gr.2.1 g gl.2.2.1 gr.2.2.1
    have hp := pa_b gl.2.2.1 gr.2.2.1
    have m1 := mulb (a := α (B9 r 2)) (b := hkA α l r) (A := 20) (B := 120) (by omega) (by unfold hkA; omega)
    have m2 := mulb (a := α (B9 r 2) * hkA α l r) (b := hpl α r l) (A := 2400) (B := 20) (by omega) (by unfold hpl; omega)
    have f1 : kA (α (B9 l 1)) (α (B9 r 1)) (α (B9 l 2)) (α (B9 r 2)) = hkA α l r := rfl
    have f2 : paA (α (B9 l 2)) (α (B9 r 2)) = hpl α l r := rfl
    have f3 : paA (α (B9 r 2)) (α (B9 l 2)) = hpl α r l := rfl
    rw [f1, f2, f3] at hk
    have hkm : (hkA α l r = -1) = False := by simp only [eq_iff_iff, iff_false]; omega
    have cA := fun (ℓ' : Nat → Nat → Int32) (L' : Nat → Nat → Int64) (d' : Nat) (Q' : Rs → St → Prop) (e1 : ℓ' (l + 13) 3 = Int32.ofInt (α (B9 l 2))) (e2 : ℓ' (r + 13) 3 = Int32.ofInt (α (B9 r 2))) => c7 (d := d') (N := N) (t := t) (w := w) (L := L') (D := D) (Q := Q') (I := lay b ℓ' I) (a := b + (l + 13)) (a2 := b + (r + 13)) (khB hb hl10) (khB hb hr10) gl.2.2.1 gr.2.2.1 (by rw [lay_in (by omega)]; exact e1) (by rw [lay_in (by omega)]; exact e2)
    have cB := fun (ℓ' : Nat → Nat → Int32) (L' : Nat → Nat → Int64) (d' : Nat) (Q' : Rs → St → Prop) (e1 : ℓ' (l + 13) 3 = Int32.ofInt (α (B9 l 2))) (e2 : ℓ' (r + 13) 3 = Int32.ofInt (α (B9 r 2))) => c7 (d := d') (N := N) (t := t) (w := w) (L := L') (D := D) (Q := Q') (I := lay b ℓ' I) (a := b + (r + 13)) (a2 := b + (l + 13)) (khB hb hr10) (khB hb hl10) gr.2.2.1 gl.2.2.1 (by rw [lay_in (by omega)]; exact e2) (by rw [lay_in (by omega)]; exact e1)
    rw [f2] at cA
    rw [f3] at cB
    have e64 : α (B9 r 2) * (α (B9 r 1) + hkA α l r * hpl α r l) - α (B9 r 2) * α (B9 r 1) = α (B9 r 2) * hkA α l r * hpl α r l := by
      rw [Int.mul_add, Int.mul_assoc]
      omega
    simp only [hlt, if_false] at hQ
    simp only [w37_0, w37_1, w37_4, w37_5, w37_8, w37_9, w37_12, w37_13, w37_14, w37_16, w37_17, w37_20, w37_21, w37_24, w37_25, w37_28, w37_29, w37_30, w37_32, w37_34, w37_36, w37_39, w37_41, w37_43, w37_44, w37_47, w37_48, w37_51, w37_52, w37_53, w37_54, w37_57, w37_58, w37_59, w37_62, w37_63, w37_66, w37_67, w37_70, w37_71, w37_72, w37_75, w37_76, w37_78, w37_81, w37_83, w37_85, w37_86, w37_89, w37_91, w37_93, w37_95, w37_98, w37_99, w37_100, w37_103, w37_105, w37_106, w37_109, w37_111, w37_113, w37_115, w37_118, w37_119, w37_120, w37_123, w37_124, w37_127, w37_128, w37_131, w37_133, w37_136, w37_138, w37_139, w37_140, w37_141, w37_144, w37_146, w37_147, w37_150, w37_151, w37_152, w37_155, w37_157, w37_158, w37_161, w37_162, w37_163, w37_166, w37_168, w37_169, w37_172, w37_174, w37_175, w37_178, w37_179, w37_182, w37_183, w37_184, w37_187, w37_188, w37_191, w37_192, w37_195, w37_196, w37_197, w37_199, w37_202, kn_s, kn_n, zh_mk, zR_mk, zI_mk, zL_mk, zD_mk, wI_mk, wL_mk, wD_mk, zT_mk, zC_mk, kill_i, kill_r, kill_0, kill_n, kill_l, kill_q, zzk_r, zzk_0, zzk_q, zcat_r, zcat_i, zcat_0, zcat_q, cats_0, cats_i, cats_r, cats_l, cats_d, cats_f, cats_q, cats_n, rv_s, rv_0, Nat.reduceAdd, Nat.reduceLeDiff, Nat.reduceEqDiff, Nat.add_zero, Nat.reduceMul, Nat.reduceSub, ne_eq, not_false_eq_true, not_true_eq_false, and_self, and_true, true_and, or_self, or_true, true_or, or_false, false_or, if_true, if_false, reduceIte, reduceCtorEq, implies_true, ite_self, ite_not, lay_in, lay_0, up2_lay, up2_lay0, kh0, kh1, kh2, kh3, kh4, kh5, kh6, kh7, kh8, kh9, kh10, kh11, kh12, khB, khP, kr2, kr4, kr5, kr7, kr8, kr9, kr10, krB, krP, krG0, krG1, krG2, krG3, krK, Nat.reduceLT, o_add, o_sub, o_mul, o_neg, q_add, q_sub, q_mul, q_neg, o_32, cast_s, Int.toNat_natCast, up2_at, Nat.reduceEqDiff, and_false, false_and, hb, hl10, hr10, c38', hlt, f1, o_lt (a := 0) (b := 1) (by omega), show ((0 : Int) < 1) = True by simp, show l + 13 < 27 by omega, show r + 13 < 27 by omega, o_ixn (j := l) (n := 10) (by omega), o_tnn (j := l) (by omega), o_ixn (j := r) (n := 10) (by omega), o_tnn (j := r) (by omega), o_eq (a := hkA α l r) (b := -1) (by omega), hkm, c5, cA, cB, rl2, rl3, rl6, rr2, rr3, rr6, r14, r01, rg, rh1, rh2, n1, n2, n3, n4, n5, n6, n7, n8, e64, o_64 (z := α (B9 r 2) * hkA α l r * hpl α r l) (by omega), p_o1, c16 hb (i := l) (j := r) (by omega) (by omega) (by omega)]
    rw [c49 hb g1 (by rw [u2_ne (by omega), u2_ne (by omega), u2_ne (by omega), u2_ne (by omega), u2_ne (by omega), u2_ne (by omega), u2_ne (by omega), u2_ne (by omega), u2_ne (by omega)]; exact g2) (by rw [u2_ne (by omega), u2_ne (by omega), u2_ne (by omega), u2_ne (by omega), u2_ne (by omega), u2_ne (by omega), u2_ne (by omega), u2_ne (by omega), u2_ne (by omega)]; exact g3) h4]
    simp only [w37_0, w37_1, w37_4, w37_5, w37_8, w37_9, w37_12, w37_13, w37_14, w37_16, w37_17, w37_20, w37_21, w37_24, w37_25, w37_28, w37_29, w37_30, w37_32, w37_34, w37_36, w37_39, w37_41, w37_43, w37_44, w37_47, w37_48, w37_51, w37_52, w37_53, w37_54, w37_57, w37_58, w37_59, w37_62, w37_63, w37_66, w37_67, w37_70, w37_71, w37_72, w37_75, w37_76, w37_78, w37_81, w37_83, w37_85, w37_86, w37_89, w37_91, w37_93, w37_95, w37_98, w37_99, w37_100, w37_103, w37_105, w37_106, w37_109, w37_111, w37_113, w37_115, w37_118, w37_119, w37_120, w37_123, w37_124, w37_127, w37_128, w37_131, w37_133, w37_136, w37_138, w37_139, w37_140, w37_141, w37_144, w37_146, w37_147, w37_150, w37_151, w37_152, w37_155, w37_157, w37_158, w37_161, w37_162, w37_163, w37_166, w37_168, w37_169, w37_172, w37_174, w37_175, w37_178, w37_179, w37_182, w37_183, w37_184, w37_187, w37_188, w37_191, w37_192, w37_195, w37_196, w37_197, w37_199, w37_202, kn_s, kn_n, zh_mk, zR_mk, zI_mk, zL_mk, zD_mk, wI_mk, wL_mk, wD_mk, zT_mk, zC_mk, kill_i, kill_r, kill_0, kill_n, kill_l, kill_q, zzk_r, zzk_0, zzk_q, zcat_r, zcat_i, zcat_0, zcat_q, cats_0, cats_i, cats_r, cats_l, cats_d, cats_f, cats_q, cats_n, rv_s, rv_0, Nat.reduceAdd, Nat.reduceLeDiff, Nat.reduceEqDiff, Nat.add_zero, Nat.reduceMul, Nat.reduceSub, ne_eq, not_false_eq_true, not_true_eq_false, and_self, and_true, true_and, or_self, or_true, true_or, or_false, false_or, if_true, if_false, reduceIte, reduceCtorEq, implies_true, ite_self, ite_not, lay_in, lay_0, up2_lay, up2_lay0, kh0, kh1, kh2, kh3, kh4, kh5, kh6, kh7, kh8, kh9, kh10, kh11, kh12, khB, khP, kr2, kr4, kr5, kr7, kr8, kr9, kr10, krB, krP, krG0, krG1, krG2, krG3, krK, Nat.reduceLT, o_add, o_sub, o_mul, o_neg, q_add, q_sub, q_mul, q_neg, o_32, cast_s, Int.toNat_natCast]
    refine hQ _ _ ⟨?_, fun j hj => ?_⟩
    · have q1 := RL_i (key := B9 l 1) (v := α (B9 l 1) - hkA α l r * hpl α l r) hRL (by unfold kd B9; omega)
      rw [mo_B hl10 (by omega), mq_B hl10 (by omega)] at q1
      have q2 := RL_i (key := B9 r 1) (v := α (B9 r 1) + hkA α l r * hpl α r l) q1 (by unfold kd B9; omega)
      rw [mo_B hr10 (by omega), mq_B hr10 (by omega)] at q2
      have q3 := RL_6 (v := α 6 + α (B9 r 2) * hkA α l r * hpl α r l) q2
      have q4 := RL_i (key := B9 l 5) (v := α (B9 l 5) + 1) q3 (by unfold kd B9; omega)
      rw [mo_B hl10 (by omega), mq_B hl10 (by omega)] at q4
      have q5 := RL_i (key := B9 r 5) (v := α (B9 r 5) + 1) q4 (by unfold kd B9; omega)
      rw [mo_B hr10 (by omega), mq_B hr10 (by omega)] at q5
      have q6 := RL_d (a := l + 13) (k := 10) (v := Int32.ofInt 1) q5 (by omega)
      have q7 := RL_d (a := r + 13) (k := 10) (v := Int32.ofInt 1) q6 (by omega)
      have q8 := RL_i (key := 12) (v := α 12 + 1) q7 (by unfold kd; omega)
      have q9 := RL_i (key := HH l r) (v := α (HH l r) + 1) q8 (by unfold kd HH; omega)
      rw [mo_H (by omega) (by omega), mq_H (by omega) (by omega)] at q9
      have q10 := RL_i (key := HH r l) (v := α (HH r l) + 1) q9 (by unfold kd HH; omega)
      rw [mo_H (by omega) (by omega), mq_H (by omega) (by omega)] at q10
      have b4 : ∀ (k : Nat) (v1 v2 v3 v4 v5 v6 v7 v8 : Int), k = 3 ∨ k = 4 → up1 (up1 (up1 (up1 (up1 (up1 (up1 (up1 α (B9 l 1) v1) (B9 r 1) v2) 6 v3) (B9 l 5) v4) (B9 r 5) v5) 12 v6) (HH l r) v7) (HH r l) v8 k = α k := by
        intro k v1 v2 v3 v4 v5 v6 v7 v8 hk
        rw [up1_ne (by unfold HH; omega), up1_ne (by unfold HH; omega), up1_ne (by omega), up1_ne (by unfold B9; omega), up1_ne (by unfold B9; omega), up1_ne (by omega), up1_ne (by unfold B9; omega), up1_ne (by unfold B9; omega)]
      have q11 := RL_g (nx := nx) (b := (l : Int)) (c := (r : Int)) (z := hkA α l r) q10 g1 (by rw [u2_ne (by omega), u2_ne (by omega), u2_ne (Or.inl (by decide)), u2_ne (by omega), u2_ne (by omega), u2_ne (by omega), u2_ne (by omega), u2_ne (by omega), u2_ne (by omega)]; exact g2) (by rw [b4 4 _ _ _ _ _ _ _ _ (Or.inr rfl)]; exact h4)
      rw [b4 4 _ _ _ _ _ _ _ _ (Or.inr rfl), b4 3 _ _ _ _ _ _ _ _ (Or.inl rfl), hiR_comm hl10 hr10 (by omega) (by omega) hlr (by omega)] at q11
      exact q11
    · have hd := hR.2 j hj
      show lgM _ _ _ _ _ _ _ (j + 13) 9 = _ ∧ lgM _ _ _ _ _ _ _ (j + 13) 10 = _
      unfold lgM
      refine ⟨?_, ?_⟩
      · rw [u2_ne (by omega), u2_ne (by omega), u2_ne (by omega), u2_ne (by omega), u2_ne (by omega), u2_ne (by omega), u2_ne (by omega), u2_ne (by omega), u2_ne (by omega), u2_ne (by omega), u2_ne (by omega), u2_ne (by omega), u2_ne (by omega), u2_ne (by omega), u2_ne (by omega)]
        exact hd.1
      · rw [u2_ne (by omega), u2_ne (by omega), u2_ne (by omega), u2_ne (by omega), u2_ne (by omega), u2_ne (by omega), u2_ne (by omega), u2_ne (by omega), u2_ne (by omega)]
        have hbit : (M ||| 2 ^ l ||| 2 ^ r).testBit j = (M.testBit j || decide (l = j) || decide (r = j)) := by rw [or_t, or_t]
        by_cases hjr : j = r
        · subst hjr
          rw [u2_same, pI_t]
          rw [hbit]
          simp
        · rw [u2_ne (by omega)]
          by_cases hjl : j = l
          · subst hjl
            rw [u2_same, pI_t]
            rw [hbit]
            simp
          · rw [u2_ne (by omega), u2_ne (by omega), u2_ne (by omega), u2_ne (by omega), u2_ne (by omega)]
            have e : (M ||| 2 ^ l ||| 2 ^ r).testBit j = M.testBit j := by
              rw [hbit, decide_eq_false (show ¬ (l = j) by omega), decide_eq_false (show ¬ (r = j) by omega), Bool.or_false, Bool.or_false]
            show ℓ (j + 13) 10 = pI ((M ||| 2 ^ l ||| 2 ^ r).testBit j = true)
            rw [hd.2]
            simp only [e]

theorem c37_0 (hb : LB b) (hR : RT ℓ μ x n m o ds) (hG : XG x n m o) {l r : Nat} (hl : l < n) (hr : r < n) (hlr : l ≠ r)
    (hQ : ∀ (ℓ' : Nat → Nat → Int32) (μ' : Nat → Nat → Int64), RT ℓ' μ' (hitT x l r r l) n m o ds → Q (.inl none) (mk N t w (lay b ℓ' I) (lay b μ' L) D)) :
    Wp (d + 2) 37 0 [some (.ref b), some (.int (Int32.ofInt (r : Int))), some (.int (Int32.ofInt (l : Int))), some (.int (Int32.ofInt (-1))), none, none, none, none] [] (mk N t w (lay b ℓ I) (lay b μ L) D) Q := by
  obtain ⟨α, p, r', M, z1, z2⟩ := x
  obtain ⟨hG, hM, -⟩ := hG
  have hG : GA α n m o := hG
  have hRL : RL ℓ μ α n m o := hR.1
  have h10 : n ≤ 10 := hG.1.1
  have hl10 : l < 10 := by omega
  have hr10 : r < 10 := by omega
  have gl := hG.1.2.2.2.2 l hl
  have gr := hG.1.2.2.2.2 r hr
  have h4 := hG.2.2.1.2.2
  have rl2 : ℓ (l + 13) 2 = Int32.ofInt (α (B9 l 1)) := RL_B hRL hl h10 (by omega)
  have rl3 : ℓ (l + 13) 3 = Int32.ofInt (α (B9 l 2)) := RL_B hRL hl h10 (by omega)
  have rl6 : ℓ (l + 13) 6 = Int32.ofInt (α (B9 l 5)) := RL_B hRL hl h10 (by omega)
  have rr2 : ℓ (r + 13) 2 = Int32.ofInt (α (B9 r 1)) := RL_B hRL hr h10 (by omega)
  have rr3 : ℓ (r + 13) 3 = Int32.ofInt (α (B9 r 2)) := RL_B hRL hr h10 (by omega)
  have rr6 : ℓ (r + 13) 6 = Int32.ofInt (α (B9 r 5)) := RL_B hRL hr h10 (by omega)
  have rb8 : ℓ (r + 13) 8 = Int32.ofInt (α (B9 r 7)) := RL_B hRL (by omega) h10 (by omega)
  have r16 : ℓ 11 6 = Int32.ofInt (α 14) := hRL.1 14 (by unfold kd; omega)
  have r14 : ℓ 11 4 = Int32.ofInt (α 12) := hRL.1 12 (by unfold kd; omega)
  have r01 : ℓ 0 1 = Int32.ofInt (α 3) := hRL.1 3 (by unfold kd; omega)
  have rg := hRL.2.2.1.2.1
  have rh1 : ℓ 12 (10 * r + l) = Int32.ofInt (α (HH r l)) := RL_H hRL (by omega) (by omega)
  have rh2 : ℓ 12 (10 * l + r) = Int32.ofInt (α (HH l r)) := RL_H hRL (by omega) (by omega)
  obtain ⟨nx, g1, g2, g3, -⟩ := hRL.2.2.2.2
  have n1 : (l + 13 = r + 13) = False := by simp only [eq_iff_iff, iff_false]; omega
  have n2 : (r + 13 = l + 13) = False := by simp only [eq_iff_iff, iff_false]; omega
  have n3 : (11 = l + 13) = False := by simp only [eq_iff_iff, iff_false]; omega
  have n4 : (11 = r + 13) = False := by simp only [eq_iff_iff, iff_false]; omega
  have n5 : (12 = l + 13) = False := by simp only [eq_iff_iff, iff_false]; omega
  have n6 : (12 = r + 13) = False := by simp only [eq_iff_iff, iff_false]; omega
  have n7 : (0 = l + 13) = False := by simp only [eq_iff_iff, iff_false]; omega
  have n8 : (0 = r + 13) = False := by simp only [eq_iff_iff, iff_false]; omega
  have c38' := fun (d' : Nat) (Q' : Rs → St → Prop) => c38 (d := d') (N := N) (t := t) (w := w) (L := lay b μ L) (D := D) (Q := Q') (I := lay b ℓ I) (a := b + (l + 13)) (a2 := b + (r + 13)) (khB hb hl10) (khB hb hr10) gl.2.1 gr.2.1 gl.2.2.1 gr.2.2.1 (by rw [lay_in (by omega)]; exact rl2) (by rw [lay_in (by omega)]; exact rr2) (by rw [lay_in (by omega)]; exact rl3) (by rw [lay_in (by omega)]; exact rr3)
  unfold hitT at hQ
  by_cases hlt : α (B9 l 1) ≤ α (B9 r 1)
  · simp only [hlt, if_true] at hQ
    simp only [w37_0, w37_1, w37_4, w37_5, w37_8, w37_9, w37_12, w37_13, w37_14, w37_16, w37_17, w37_20, w37_21, w37_24, w37_25, w37_28, w37_29, w37_30, w37_32, w37_34, w37_36, w37_39, w37_41, w37_43, w37_44, w37_47, w37_48, w37_51, w37_52, w37_53, w37_54, w37_57, w37_58, w37_59, w37_62, w37_63, w37_66, w37_67, w37_70, w37_71, w37_72, w37_75, w37_76, w37_78, w37_81, w37_83, w37_85, w37_86, w37_89, w37_91, w37_93, w37_95, w37_98, w37_99, w37_100, w37_103, w37_105, w37_106, w37_109, w37_111, w37_113, w37_115, w37_118, w37_119, w37_120, w37_123, w37_124, w37_127, w37_128, w37_131, w37_133, w37_136, w37_138, w37_139, w37_140, w37_141, w37_144, w37_146, w37_147, w37_150, w37_151, w37_152, w37_155, w37_157, w37_158, w37_161, w37_162, w37_163, w37_166, w37_168, w37_169, w37_172, w37_174, w37_175, w37_178, w37_179, w37_182, w37_183, w37_184, w37_187, w37_188, w37_191, w37_192, w37_195, w37_196, w37_197, w37_199, w37_202, kn_s, kn_n, zh_mk, zR_mk, zI_mk, zL_mk, zD_mk, wI_mk, wL_mk, wD_mk, zT_mk, zC_mk, kill_i, kill_r, kill_0, kill_n, kill_l, kill_q, zzk_r, zzk_0, zzk_q, zcat_r, zcat_i, zcat_0, zcat_q, cats_0, cats_i, cats_r, cats_l, cats_d, cats_f, cats_q, cats_n, rv_s, rv_0, Nat.reduceAdd, Nat.reduceLeDiff, Nat.reduceEqDiff, Nat.add_zero, Nat.reduceMul, Nat.reduceSub, ne_eq, not_false_eq_true, not_true_eq_false, and_self, and_true, true_and, or_self, or_true, true_or, or_false, false_or, if_true, if_false, reduceIte, reduceCtorEq, implies_true, ite_self, ite_not, lay_in, lay_0, up2_lay, up2_lay0, kh0, kh1, kh2, kh3, kh4, kh5, kh6, kh7, kh8, kh9, kh10, kh11, kh12, khB, khP, kr2, kr4, kr5, kr7, kr8, kr9, kr10, krB, krP, krG0, krG1, krG2, krG3, krK, Nat.reduceLT, o_add, o_sub, o_mul, o_neg, q_add, q_sub, q_mul, q_neg, o_32, cast_s, Int.toNat_natCast, up2_at, Nat.reduceEqDiff, and_false, false_and, hb, hl10, hr10, c38', hlt, o_lt (a := 0) (b := (-1)) (by omega), show ((0 : Int) < (-1)) = False by simp, show l + 13 < 27 by omega, show r + 13 < 27 by omega, o_ixn (j := l) (n := 10) (by omega), o_tnn (j := l) (by omega), o_ixn (j := r) (n := 10) (by omega), o_tnn (j := r) (by omega), rb8, r16, n3, n4]
    refine hQ _ _ ⟨?_, fun j hj => ?_⟩
    · have q1 := RL_i (key := B9 r 7) (v := α (B9 r 7) + 1) hRL (by unfold kd B9; omega)
      rw [mo_B (by omega) (by omega), mq_B (by omega) (by omega)] at q1
      exact RL_i (key := 14) (v := α 14 + 1) q1 (by unfold kd; omega)
    · have hd := hR.2 j hj
      rw [u2_ne (by omega), u2_ne (by omega), u2_ne (by omega), u2_ne (by omega)]
      exact hd
  · have g : α (B9 r 1) < α (B9 l 1) := by omega
    have hk := kA_b gl.2.1 gr.2.1 g gl.2.2.1 gr.2.2.1
    have hp := pa_b gl.2.2.1 gr.2.2.1
    have m1 := mulb (a := α (B9 r 2)) (b := hkA α l r) (A := 20) (B := 120) (by omega) (by unfold hkA; omega)
    have m2 := mulb (a := α (B9 r 2) * hkA α l r) (b := hpl α r l) (A := 2400) (B := 20) (by omega) (by unfold hpl; omega)
    have f1 : kA (α (B9 l 1)) (α (B9 r 1)) (α (B9 l 2)) (α (B9 r 2)) = hkA α l r := rfl
    have f2 : paA (α (B9 l 2)) (α (B9 r 2)) = hpl α l r := rfl
    have f3 : paA (α (B9 r 2)) (α (B9 l 2)) = hpl α r l := rfl
    rw [f1, f2, f3] at hk
    have hkm : (hkA α l r = -1) = False := by simp only [eq_iff_iff, iff_false]; omega
    have cA := fun (ℓ' : Nat → Nat → Int32) (L' : Nat → Nat → Int64) (d' : Nat) (Q' : Rs → St → Prop) (e1 : ℓ' (l + 13) 3 = Int32.ofInt (α (B9 l 2))) (e2 : ℓ' (r + 13) 3 = Int32.ofInt (α (B9 r 2))) => c7 (d := d') (N := N) (t := t) (w := w) (L := L') (D := D) (Q := Q') (I := lay b ℓ' I) (a := b + (l + 13)) (a2 := b + (r + 13)) (khB hb hl10) (khB hb hr10) gl.2.2.1 gr.2.2.1 (by rw [lay_in (by omega)]; exact e1) (by rw [lay_in (by omega)]; exact e2)
    have cB := fun (ℓ' : Nat → Nat → Int32) (L' : Nat → Nat → Int64) (d' : Nat) (Q' : Rs → St → Prop) (e1 : ℓ' (l + 13) 3 = Int32.ofInt (α (B9 l 2))) (e2 : ℓ' (r + 13) 3 = Int32.ofInt (α (B9 r 2))) => c7 (d := d') (N := N) (t := t) (w := w) (L := L') (D := D) (Q := Q') (I := lay b ℓ' I) (a := b + (r + 13)) (a2 := b + (l + 13)) (khB hb hr10) (khB hb hl10) gr.2.2.1 gl.2.2.1 (by rw [lay_in (by omega)]; exact e2) (by rw [lay_in (by omega)]; exact e1)
    rw [f2] at cA
    rw [f3] at cB
    have e64 : α (B9 r 2) * (α (B9 r 1) + hkA α l r * hpl α r l) - α (B9 r 2) * α (B9 r 1) = α (B9 r 2) * hkA α l r * hpl α r l := by
      rw [Int.mul_add, Int.mul_assoc]
      omega
    simp only [hlt, if_false] at hQ
    simp only [w37_0, w37_1, w37_4, w37_5, w37_8, w37_9, w37_12, w37_13, w37_14, w37_16, w37_17, w37_20, w37_21, w37_24, w37_25, w37_28, w37_29, w37_30, w37_32, w37_34, w37_36, w37_39, w37_41, w37_43, w37_44, w37_47, w37_48, w37_51, w37_52, w37_53, w37_54, w37_57, w37_58, w37_59, w37_62, w37_63, w37_66, w37_67, w37_70, w37_71, w37_72, w37_75, w37_76, w37_78, w37_81, w37_83, w37_85, w37_86, w37_89, w37_91, w37_93, w37_95, w37_98, w37_99, w37_100, w37_103, w37_105, w37_106, w37_109, w37_111, w37_113, w37_115, w37_118, w37_119, w37_120, w37_123, w37_124, w37_127, w37_128, w37_131, w37_133, w37_136, w37_138, w37_139, w37_140, w37_141, w37_144, w37_146, w37_147, w37_150, w37_151, w37_152, w37_155, w37_157, w37_158, w37_161, w37_162, w37_163, w37_166, w37_168, w37_169, w37_172, w37_174, w37_175, w37_178, w37_179, w37_182, w37_183, w37_184, w37_187, w37_188, w37_191, w37_192, w37_195, w37_196, w37_197, w37_199, w37_202, kn_s, kn_n, zh_mk, zR_mk, zI_mk, zL_mk, zD_mk, wI_mk, wL_mk, wD_mk, zT_mk, zC_mk, kill_i, kill_r, kill_0, kill_n, kill_l, kill_q, zzk_r, zzk_0, zzk_q, zcat_r, zcat_i, zcat_0, zcat_q, cats_0, cats_i, cats_r, cats_l, cats_d, cats_f, cats_q, cats_n, rv_s, rv_0, Nat.reduceAdd, Nat.reduceLeDiff, Nat.reduceEqDiff, Nat.add_zero, Nat.reduceMul, Nat.reduceSub, ne_eq, not_false_eq_true, not_true_eq_false, and_self, and_true, true_and, or_self, or_true, true_or, or_false, false_or, if_true, if_false, reduceIte, reduceCtorEq, implies_true, ite_self, ite_not, lay_in, lay_0, up2_lay, up2_lay0, kh0, kh1, kh2, kh3, kh4, kh5, kh6, kh7, kh8, kh9, kh10, kh11, kh12, khB, khP, kr2, kr4, kr5, kr7, kr8, kr9, kr10, krB, krP, krG0, krG1, krG2, krG3, krK, Nat.reduceLT, o_add, o_sub, o_mul, o_neg, q_add, q_sub, q_mul, q_neg, o_32, cast_s, Int.toNat_natCast, up2_at, Nat.reduceEqDiff, and_false, false_and, hb, hl10, hr10, c38', hlt, f1, o_lt (a := 0) (b := (-1)) (by omega), show ((0 : Int) < (-1)) = False by simp, show l + 13 < 27 by omega, show r + 13 < 27 by omega, o_ixn (j := l) (n := 10) (by omega), o_tnn (j := l) (by omega), o_ixn (j := r) (n := 10) (by omega), o_tnn (j := r) (by omega), o_eq (a := hkA α l r) (b := -1) (by omega), hkm, c5, cA, cB, rl2, rl3, rl6, rr2, rr3, rr6, r14, r01, rg, rh1, rh2, n1, n2, n3, n4, n5, n6, n7, n8, e64, o_64 (z := α (B9 r 2) * hkA α l r * hpl α r l) (by omega), p_o1, c16 hb (i := r) (j := l) (by omega) (by omega) (by omega)]
    rw [c49 hb g1 (by rw [u2_ne (by omega), u2_ne (by omega), u2_ne (by omega), u2_ne (by omega), u2_ne (by omega), u2_ne (by omega), u2_ne (by omega), u2_ne (by omega), u2_ne (by omega)]; exact g2) (by rw [u2_ne (by omega), u2_ne (by omega), u2_ne (by omega), u2_ne (by omega), u2_ne (by omega), u2_ne (by omega), u2_ne (by omega), u2_ne (by omega), u2_ne (by omega)]; exact g3) h4]
    simp only [w37_0, w37_1, w37_4, w37_5, w37_8, w37_9, w37_12, w37_13, w37_14, w37_16, w37_17, w37_20, w37_21, w37_24, w37_25, w37_28, w37_29, w37_30, w37_32, w37_34, w37_36, w37_39, w37_41, w37_43, w37_44, w37_47, w37_48, w37_51, w37_52, w37_53, w37_54, w37_57, w37_58, w37_59, w37_62, w37_63, w37_66, w37_67, w37_70, w37_71, w37_72, w37_75, w37_76, w37_78, w37_81, w37_83, w37_85, w37_86, w37_89, w37_91, w37_93, w37_95, w37_98, w37_99, w37_100, w37_103, w37_105, w37_106, w37_109, w37_111, w37_113, w37_115, w37_118, w37_119, w37_120, w37_123, w37_124, w37_127, w37_128, w37_131, w37_133, w37_136, w37_138, w37_139, w37_140, w37_141, w37_144, w37_146, w37_147, w37_150, w37_151, w37_152, w37_155, w37_157, w37_158, w37_161, w37_162, w37_163, w37_166, w37_168, w37_169, w37_172, w37_174, w37_175, w37_178, w37_179, w37_182, w37_183, w37_184, w37_187, w37_188, w37_191, w37_192, w37_195, w37_196, w37_197, w37_199, w37_202, kn_s, kn_n, zh_mk, zR_mk, zI_mk, zL_mk, zD_mk, wI_mk, wL_mk, wD_mk, zT_mk, zC_mk, kill_i, kill_r, kill_0, kill_n, kill_l, kill_q, zzk_r, zzk_0, zzk_q, zcat_r, zcat_i, zcat_0, zcat_q, cats_0, cats_i, cats_r, cats_l, cats_d, cats_f, cats_q, cats_n, rv_s, rv_0, Nat.reduceAdd, Nat.reduceLeDiff, Nat.reduceEqDiff, Nat.add_zero, Nat.reduceMul, Nat.reduceSub, ne_eq, not_false_eq_true, not_true_eq_false, and_self, and_true, true_and, or_self, or_true, true_or, or_false, false_or, if_true, if_false, reduceIte, reduceCtorEq, implies_true, ite_self, ite_not, lay_in, lay_0, up2_lay, up2_lay0, kh0, kh1, kh2, kh3, kh4, kh5, kh6, kh7, kh8, kh9, kh10, kh11, kh12, khB, khP, kr2, kr4, kr5, kr7, kr8, kr9, kr10, krB, krP, krG0, krG1, krG2, krG3, krK, Nat.reduceLT, o_add, o_sub, o_mul, o_neg, q_add, q_sub, q_mul, q_neg, o_32, cast_s, Int.toNat_natCast]
    refine hQ _ _ ⟨?_, fun j hj => ?_⟩
    · have q1 := RL_i (key := B9 l 1) (v := α (B9 l 1) - hkA α l r * hpl α l r) hRL (by unfold kd B9; omega)
      rw [mo_B hl10 (by omega), mq_B hl10 (by omega)] at q1
      have q2 := RL_i (key := B9 r 1) (v := α (B9 r 1) + hkA α l r * hpl α r l) q1 (by unfold kd B9; omega)
      rw [mo_B hr10 (by omega), mq_B hr10 (by omega)] at q2
      have q3 := RL_6 (v := α 6 + α (B9 r 2) * hkA α l r * hpl α r l) q2
      have q4 := RL_i (key := B9 l 5) (v := α (B9 l 5) + 1) q3 (by unfold kd B9; omega)
      rw [mo_B hl10 (by omega), mq_B hl10 (by omega)] at q4
      have q5 := RL_i (key := B9 r 5) (v := α (B9 r 5) + 1) q4 (by unfold kd B9; omega)
      rw [mo_B hr10 (by omega), mq_B hr10 (by omega)] at q5
      have q6 := RL_d (a := l + 13) (k := 10) (v := Int32.ofInt 1) q5 (by omega)
      have q7 := RL_d (a := r + 13) (k := 10) (v := Int32.ofInt 1) q6 (by omega)
      have q8 := RL_i (key := 12) (v := α 12 + 1) q7 (by unfold kd; omega)
      have q9 := RL_i (key := HH r l) (v := α (HH r l) + 1) q8 (by unfold kd HH; omega)
      rw [mo_H (by omega) (by omega), mq_H (by omega) (by omega)] at q9
      have q10 := RL_i (key := HH l r) (v := α (HH l r) + 1) q9 (by unfold kd HH; omega)
      rw [mo_H (by omega) (by omega), mq_H (by omega) (by omega)] at q10
      have b4 : ∀ (k : Nat) (v1 v2 v3 v4 v5 v6 v7 v8 : Int), k = 3 ∨ k = 4 → up1 (up1 (up1 (up1 (up1 (up1 (up1 (up1 α (B9 l 1) v1) (B9 r 1) v2) 6 v3) (B9 l 5) v4) (B9 r 5) v5) 12 v6) (HH r l) v7) (HH l r) v8 k = α k := by
        intro k v1 v2 v3 v4 v5 v6 v7 v8 hk
        rw [up1_ne (by unfold HH; omega), up1_ne (by unfold HH; omega), up1_ne (by omega), up1_ne (by unfold B9; omega), up1_ne (by unfold B9; omega), up1_ne (by omega), up1_ne (by unfold B9; omega), up1_ne (by unfold B9; omega)]
      have q11 := RL_g (nx := nx) (b := (r : Int)) (c := (l : Int)) (z := hkA α l r) q10 g1 (by rw [u2_ne (by omega), u2_ne (by omega), u2_ne (Or.inl (by decide)), u2_ne (by omega), u2_ne (by omega), u2_ne (by omega), u2_ne (by omega), u2_ne (by omega), u2_ne (by omega)]; exact g2) (by rw [b4 4 _ _ _ _ _ _ _ _ (Or.inr rfl)]; exact h4)
      rw [b4 4 _ _ _ _ _ _ _ _ (Or.inr rfl), b4 3 _ _ _ _ _ _ _ _ (Or.inl rfl), hiR_comm hl10 hr10 (by omega) (by omega) hlr (by omega)] at q11
      exact q11
    · have hd := hR.2 j hj
      show lgM _ _ _ _ _ _ _ (j + 13) 9 = _ ∧ lgM _ _ _ _ _ _ _ (j + 13) 10 = _
      unfold lgM
      refine ⟨?_, ?_⟩
      · rw [u2_ne (by omega), u2_ne (by omega), u2_ne (by omega), u2_ne (by omega), u2_ne (by omega), u2_ne (by omega), u2_ne (by omega), u2_ne (by omega), u2_ne (by omega), u2_ne (by omega), u2_ne (by omega), u2_ne (by omega), u2_ne (by omega), u2_ne (by omega), u2_ne (by omega)]
        exact hd.1
      · rw [u2_ne (by omega), u2_ne (by omega), u2_ne (by omega), u2_ne (by omega), u2_ne (by omega), u2_ne (by omega), u2_ne (by omega), u2_ne (by omega), u2_ne (by omega)]
        have hbit : (M ||| 2 ^ r ||| 2 ^ l).testBit j = (M.testBit j || decide (r = j) || decide (l = j)) := by rw [or_t, or_t]
        by_cases hjr : j = r
        · subst hjr
          rw [u2_same, pI_t]
          rw [hbit]
          simp
        · rw [u2_ne (by omega)]
          by_cases hjl : j = l
          · subst hjl
            rw [u2_same, pI_t]
            rw [hbit]
            simp
          · rw [u2_ne (by omega), u2_ne (by omega), u2_ne (by omega), u2_ne (by omega), u2_ne (by omega)]
            have e : (M ||| 2 ^ r ||| 2 ^ l).testBit j = M.testBit j := by
              rw [hbit, decide_eq_false (show ¬ (r = j) by omega), decide_eq_false (show ¬ (l = j) by omega), Bool.or_false, Bool.or_false]
            show ℓ (j + 13) 10 = pI ((M ||| 2 ^ r ||| 2 ^ l).testBit j = true)
            rw [hd.2]
            simp only [e]

end S35
