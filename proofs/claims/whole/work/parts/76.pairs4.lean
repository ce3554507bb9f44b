/-! CLASS AND REFERENCE AGREE: truncate, meanSpeed, share, middle -/
theorem sumN_nb {f : Nat → Int} {B : Int} : ∀ n : Nat, (∀ i, i < n → 0 ≤ f i ∧ f i ≤ B) → 0 ≤ sumN f n ∧ sumN f n ≤ B * (n : Int)
  | 0, _ => by
    rw [sumN_0]
    omega
  | n + 1, h => by
    have h1 := sumN_nb n (fun i hi => h i (by omega))
    have h2 := h n (by omega)
    rw [sumN_s, show B * ((n + 1 : Nat) : Int) = B * (n : Int) + B by rw [Int.natCast_succ, Int.mul_add, Int.mul_one]]
    omega
/-- the sum of paces, and of places by weight -/
def pcA (α : Nat → Int) (n : Nat) : Int := sumN (fun i => zabs (α (B9 i 1))) n
def mdA (α : Nat → Int) (n : Nat) : Int := sumN (fun i => α (B9 i 0) * α (B9 i 2)) n
section S76
variable {xs : Nat → Int32} {d c t N w b n m : Nat} {I J : Nat → Nat → Int32} {L : Nat → Nat → Int64} {D : Nat → Nat → UInt64} {x : Int32} {Q : Rs → St → Prop} {α : Nat → Int} {o : Nat → Nat}
theorem pcA_s {n : Nat} : pcA α n + zabs (α (B9 n 1)) = pcA α (n + 1) := nr rfl
theorem mdA_s {n : Nat} : mdA α n + α (B9 n 0) * α (B9 n 2) = mdA α (n + 1) := nr rfl
theorem pcA_b (hG : GA α n m o) {i : Nat} (hi : i ≤ n) : 0 ≤ pcA α i ∧ pcA α i ≤ 600 := by
  have h1 := sumN_nb (f := fun i => zabs (α (B9 i 1))) (B := 60) i (fun j hj => zabs_b hG (by omega))
  have h2 := hG.1.1
  unfold pcA
  omega
theorem mdA_b (hG : GA α n m o) {i : Nat} (hi : i ≤ n) : 0 ≤ mdA α i ∧ mdA α i ≤ 40000 := by
  have h1 := sumN_nb (f := fun i => α (B9 i 0) * α (B9 i 2)) (B := 4000) i (fun j hj => by
    have h := hG.1.2.2.2.2 j (by omega)
    have h0 := hG.1.2.2.2.1
    refine ⟨Int.mul_nonneg h.1.1 (by omega), ?_⟩
    calc α (B9 j 0) * α (B9 j 2) ≤ 200 * 20 := Int.mul_le_mul (by omega) (by omega) (by omega) (by omega)
      _ ≤ 4000 := by omega)
  have h2 := hG.1.1
  unfold mdA
  omega
theorem wtA_nb (hG : GA α n m o) : (n : Int) ≤ wtA α n ∧ wtA α n ≤ 200 := by
  have h2 := hG.1.1
  have g : ∀ i : Nat, i ≤ n → (i : Int) ≤ wtA α i ∧ wtA α i ≤ 20 * (i : Int) := by
    intro i
    induction i with
    | zero => intro _; exact ⟨Int.le_refl 0, Int.le_refl 0⟩
    | succ i ih =>
      intro hi
      have h := (hG.1.2.2.2.2 i (by omega)).2.2.1
      have := ih (by omega)
      rw [← wtA_s]
      omega
  have := g n (Nat.le_refl n)
  omega
theorem sq_nb {s g : Int} (hg : 1 ≤ g ∧ g ≤ 20) (hs : -60 ≤ s ∧ s ≤ 60) : 0 ≤ g * s * s ∧ g * s * s ≤ 72000 := by
  refine ⟨?_, (push_b hg hs).2.2⟩
  rw [Int.mul_assoc]
  exact Int.mul_nonneg (by omega) (by
    rcases Int.le_total 0 s with h | h
    · exact Int.mul_nonneg h h
    · exact Int.mul_nonneg_of_nonpos_of_nonpos h h)
theorem enA_nb (hG : GA α n m o) : 0 ≤ enA α n ∧ enA α n ≤ 720000 := by
  have h1 := sumN_nb (f := fun i => α (B9 i 2) * α (B9 i 1) * α (B9 i 1)) (B := 72000) n (fun i hi => sq_nb (hG.1.2.2.2.2 i hi).2.2.1 (hG.1.2.2.2.2 i hi).2.1)
  have h2 := hG.1.1
  unfold enA
  omega
theorem pk1 (hI : Inv xs c t I L) : PairV (d + 40) 103 [some (.ref 15), some (.int x)] [(1, 1)] (d + 41) 153 [some (.ref 294), some (.int x)] N xs c t I L D := by
  obtain ⟨z, rfl, hz⟩ := o_z x
  obtain ⟨k, hk, g1, g2, g3⟩ := hI.2.1
  have ht := hI.1.2.1
  intro Q h1 h2
  by_cases hi : 0 ≤ z ∧ z ≤ (k : Int)
  · obtain ⟨j, rfl⟩ : ∃ j : Nat, z = (j : Int) := ⟨z.toNat, by omega⟩
    have := h1 t (up2 I 15 1 (Int32.ofInt (j : Int))) L (fun q => by rw [u2_ne (by omega)]; exact hI.1.1 q) ?_
    · simp only [w103_0, w103_1, w103_2, w103_3, w103_6, w103_9, w103_10, w103_11, w103_14, kn_s, kn_n, zh_mk, zR_mk, zI_mk, zL_mk, zD_mk, wI_mk, wL_mk, wD_mk, zT_mk, zC_mk, kill_i, kill_r, kill_0, kill_n, kill_l, kill_q, zzk_r, zzk_0, zzk_q, zcat_r, zcat_i, zcat_0, cats_0, cats_i, cats_r, cats_l, cats_d, cats_f, rv_s, rv_0, Nat.reduceAdd, Nat.reduceLeDiff, Nat.add_zero, Nat.reduceMul, Nat.reduceSub, ne_eq, not_false_eq_true, not_true_eq_false, and_self, and_true, true_and, or_self, or_true, true_or, or_false, false_or, if_true, if_false, reduceIte, reduceCtorEq, implies_true, ite_self, ite_not, k15, g1, c104 (z := (j : Int)) (l := 0) (h := (k : Int)) (by omega) (by omega) (by omega) hi]
      exact this
    · intro L2 Q2 hL2 hQ
      have e13 : up2 I 15 1 (Int32.ofInt (j : Int)) 294 13 = Int32.ofInt (k : Int) := by rw [u2_ne (by omega)]; exact g2
      simp only [w153_0, w153_1, w153_2, w153_3, w153_4, w153_5, w153_8, w153_9, w153_12, w153_15, w153_18, w153_19, w153_20, w153_23, kn_s, kn_n, zh_mk, zR_mk, zI_mk, zL_mk, zD_mk, wI_mk, wL_mk, wD_mk, zT_mk, zC_mk, kill_i, kill_r, kill_0, kill_n, kill_l, kill_q, zzk_r, zzk_0, zzk_q, zcat_r, zcat_i, zcat_0, cats_0, cats_i, cats_r, cats_l, cats_d, cats_f, rv_s, rv_0, Nat.reduceAdd, Nat.reduceLeDiff, Nat.add_zero, Nat.reduceMul, Nat.reduceSub, ne_eq, not_false_eq_true, not_true_eq_false, and_self, and_true, true_and, or_self, or_true, true_or, or_false, false_or, if_true, if_false, reduceIte, reduceCtorEq, implies_true, ite_self, ite_not, kM, e13, o_64 (z := (j : Int)) (by omega), o_64 (z := (k : Int)) (by omega), c154 (a := (j : Int)) (b := 0) (c := (k : Int)) (by omega), pI, eq_true hi, c150t, i10]
      refine hQ _ _ (by rw [u2_ne (by omega), u2_same]) ?_
      refine Inv_in hI (by omega) (by omega) ⟨j, by omega, ?_, u2_same, fun q hq => ?_⟩ (fun a q ha hq => by rw [u2_ne (by omega), u2_ne (by unfold rI at ha; omega), u2_ne (by omega)]) (fun a ha => hL2 a (by unfold rLo at ha; omega))
      · rw [u2_ne (by omega), u2_ne (by omega), u2_same]
      · obtain ⟨y, y1, y2, y3, y4⟩ := g3 q (by omega)
        refine ⟨y, y1, y2, ?_, ?_⟩
        · rw [u2_ne (by omega), u2_ne (by omega), u2_ne (by omega)]; exact y3
        · rw [u2_ne (by omega), u2_ne (by omega), u2_ne (by omega)]; exact y4
  · have := h2 1 1 (t + 1) I L (List.mem_singleton.2 rfl) hI.1.1 ?_
    · simp only [w103_0, w103_1, w103_2, w103_3, w103_6, w103_9, w103_10, w103_11, w103_14, kn_s, kn_n, zh_mk, zR_mk, zI_mk, zL_mk, zD_mk, wI_mk, wL_mk, wD_mk, zT_mk, zC_mk, kill_i, kill_r, kill_0, kill_n, kill_l, kill_q, zzk_r, zzk_0, zzk_q, zcat_r, zcat_i, zcat_0, cats_0, cats_i, cats_r, cats_l, cats_d, cats_f, rv_s, rv_0, Nat.reduceAdd, Nat.reduceLeDiff, Nat.add_zero, Nat.reduceMul, Nat.reduceSub, ne_eq, not_false_eq_true, not_true_eq_false, and_self, and_true, true_and, or_self, or_true, true_or, or_false, false_or, if_true, if_false, reduceIte, reduceCtorEq, implies_true, ite_self, ite_not, k15, g1, c104_x (z := z) (l := 0) (h := (k : Int)) (by omega) (by omega) (by omega) hi, kn_x mh103]
      exact this
    · intro L2 Q2 hL2 hQ
      simp only [w153_0, w153_1, w153_2, w153_3, w153_4, w153_5, w153_8, w153_9, w153_12, w153_15, w153_18, w153_19, w153_20, w153_23, kn_s, kn_n, zh_mk, zR_mk, zI_mk, zL_mk, zD_mk, wI_mk, wL_mk, wD_mk, zT_mk, zC_mk, kill_i, kill_r, kill_0, kill_n, kill_l, kill_q, zzk_r, zzk_0, zzk_q, zcat_r, zcat_i, zcat_0, cats_0, cats_i, cats_r, cats_l, cats_d, cats_f, rv_s, rv_0, Nat.reduceAdd, Nat.reduceLeDiff, Nat.add_zero, Nat.reduceMul, Nat.reduceSub, ne_eq, not_false_eq_true, not_true_eq_false, and_self, and_true, true_and, or_self, or_true, true_or, or_false, false_or, if_true, if_false, reduceIte, reduceCtorEq, implies_true, ite_self, ite_not, kM, g2, o_64 hz, o_64 (z := (k : Int)) (by omega), c154 (a := z) (b := 0) (c := (k : Int)) (by omega), pI, eq_false hi, c150f, i00]
      refine hQ _ _ u2_same ?_
      exact Inv_irr hI (by omega) (by omega) u0_r (fun a ha => hL2 a (by unfold rLo at ha; omega))
theorem c3r (hb : LB b) (hR : RL (gl b J) (gl b L) α n m o) (hG : GA α n m o) {i : Nat} (hi : i < n) : Wp d 3 0 [some (.ref (b + (i + 13)))] [] (mk N t w J L D) Q = Q (.inl (some (.int (Int32.ofInt (zabs (α (B9 i 1))))))) (mk N t w J L D) := by
  have := c3' (d := d) (N := N) (t := t) (w := w) (ℓ := gl b J) (I := J) (L := L) (D := D) (Q := Q) hb hR hG hi
  rw [lay_gl] at this
  exact this
theorem c40r (hb : LB b) (hR : RL (gl b J) (gl b L) α n m o) (hG : GA α n m o) : Wp d 40 0 [some (.ref b), none, none] [] (mk N t w J L D) Q = Q (.inl (some (.int (Int32.ofInt (wtA α n))))) (mk N t w J L D) := by
  have := c40 (d := d) (N := N) (t := t) (w := w) (ℓ := gl b J) (I := J) (L := L) (D := D) (Q := Q) hb hR hG
  rw [lay_gl] at this
  exact this
theorem c44r (hb : LB b) (hR : RL (gl b J) (gl b L) α n m o) (hG : GA α n m o) : Wp (d + 1) 44 0 [some (.ref b), none, none] [] (mk N t w J L D) Q = Q (.inl (some (.int (Int32.ofInt (enA α n))))) (mk N t w J L D) := by
  have := c44 (d := d) (N := N) (t := t) (w := w) (ℓ := gl b J) (I := J) (L := L) (D := D) (Q := Q) hb hR hG
  rw [lay_gl] at this
  exact this
/-- both answer the double v, and nothing changes -/
theorem PairD_v {dA a dB bB : Nat} {EA EB : Lo} {v : UInt64} (hI : Inv xs c t I L) (hL : L 295 = r64 α) (hg : v &&& 0x7fffffffffffffff ≤ 0x7ff0000000000000) (hcls : ∀ Q : Rs → St → Prop, Wp dA a 0 EA [] (mk N t 295 I L D) Q = Q (.inl (some (.double v))) (mk N t 295 I L D)) (href : ∀ (L2 : Nat → Nat → Int64) (Q : Rs → St → Prop), Wp dB bB 0 EB [] (mk N t 295 I (sR L2 295 (r64 α)) D) Q = Q (.inl (some (.double v))) (mk N t 295 (up2 I 294 0 (Int32.ofInt 0)) (sR L2 295 (r64 α)) D)) : PairD dA a EA dB bB EB N xs c t I L D := by
  intro Q h1
  rw [hcls]
  refine h1 _ _ _ _ hg hI.1.1 ?_
  intro L2 Q2 hL2 hQ
  have e : sR L2 295 (r64 α) = L2 := by rw [← hL, ← hL2 295 (by omega)]; exact sR_self
  have := href L2 Q2
  rw [e] at this
  rw [this]
  exact hQ _ _ (Inv_irr hI (by omega) (by have := hI.1.2.1; omega) u0_r (fun a ha => hL2 a (by unfold rLo at ha; omega)))
theorem c93_16 (hb : LB b) (h5 : rv (KR w 15 5) = .ref b) (hR : RL (gl b J) (gl b L) α n m o) (hG : GA α n m o) (hn : 0 < n) : ∀ r i, i + r = n → Wp (d + 1) 93 16 [some (.ref 15), some (.int (Int32.ofInt (pcA α i))), some (.int (Int32.ofInt (i : Int)))] [] (mk N t w J L D) Q = Q (.inl (some (.double (FP.ddiv (FP.i2d (Int32.ofInt (pcA α n))) (FP.i2d (Int32.ofInt (n : Int))))))) (mk N t w J L D) := by
  have en : J b 3 = Int32.ofInt (n : Int) := rd_n hR
  have h10 := hG.1.1
  intro r
  induction r with
  | zero =>
    intro i hi
    obtain rfl : i = n := by omega
    have g : ¬ ((i : Int) < i) := by omega
    have hp := pcA_b hG (Nat.le_refl i)
    have hnn := nn64 (a := pcA α i) (b := (i : Int)) (by omega) (by omega)
    rw [w93_16]
    simp only [w93_0, w93_1, w93_4, w93_7, w93_10, w93_11, w93_12, w93_13, w93_14, w93_15, w93_17, w93_18, w93_21, w93_24, w93_27, w93_28, w93_29, w93_32, w93_35, w93_36, w93_37, w93_40, w93_41, w93_42, w93_45, w93_48, w93_49, w93_50, w93_51, w93_54, w93_57, w93_58, w93_59, kn_s, kn_n, zh_mk, zR_mk, zI_mk, zL_mk, zD_mk, wI_mk, wL_mk, wD_mk, zT_mk, zC_mk, kill_i, kill_r, kill_0, kill_n, kill_l, kill_q, zzk_r, zzk_0, zzk_q, zcat_r, zcat_i, zcat_0, cats_0, cats_i, cats_r, cats_l, cats_d, cats_f, rv_s, rv_0, Nat.reduceAdd, Nat.reduceLeDiff, Nat.add_zero, Nat.reduceMul, Nat.reduceSub, ne_eq, not_false_eq_true, not_true_eq_false, and_self, and_true, true_and, or_self, or_true, true_or, or_false, false_or, if_true, if_false, reduceIte, reduceCtorEq, implies_true, ite_self, ite_not, lay_in, lay_0, up2_lay, up2_lay0, kh0, kh1, kh2, kh3, kh4, kh5, kh6, kh7, kh8, kh9, kh10, kh11, kh12, khB, khP, kr2, kr4, kr5, kr7, kr8, kr9, kr10, krB, krP, krG0, krG1, krG2, krG3, krK, Nat.reduceLT, o_add, o_sub, o_mul, o_neg, q_add, q_sub, q_mul, q_neg, o_32, cast_s, Int.toNat_natCast, k15, h5, hb, en, o_lt (a := (i : Int)) (b := (i : Int)) (by omega), g, hnn]
  | succ r ih =>
    intro i hi
    have g : (i : Int) < n := by omega
    have ih' := ih (i + 1) (by omega)
    rw [w93_16]
    simp only [w93_0, w93_1, w93_4, w93_7, w93_10, w93_11, w93_12, w93_13, w93_14, w93_15, w93_17, w93_18, w93_21, w93_24, w93_27, w93_28, w93_29, w93_32, w93_35, w93_36, w93_37, w93_40, w93_41, w93_42, w93_45, w93_48, w93_49, w93_50, w93_51, w93_54, w93_57, w93_58, w93_59, kn_s, kn_n, zh_mk, zR_mk, zI_mk, zL_mk, zD_mk, wI_mk, wL_mk, wD_mk, zT_mk, zC_mk, kill_i, kill_r, kill_0, kill_n, kill_l, kill_q, zzk_r, zzk_0, zzk_q, zcat_r, zcat_i, zcat_0, cats_0, cats_i, cats_r, cats_l, cats_d, cats_f, rv_s, rv_0, Nat.reduceAdd, Nat.reduceLeDiff, Nat.add_zero, Nat.reduceMul, Nat.reduceSub, ne_eq, not_false_eq_true, not_true_eq_false, and_self, and_true, true_and, or_self, or_true, true_or, or_false, false_or, if_true, if_false, reduceIte, reduceCtorEq, implies_true, ite_self, ite_not, lay_in, lay_0, up2_lay, up2_lay0, kh0, kh1, kh2, kh3, kh4, kh5, kh6, kh7, kh8, kh9, kh10, kh11, kh12, khB, khP, kr2, kr4, kr5, kr7, kr8, kr9, kr10, krB, krP, krG0, krG1, krG2, krG3, krK, Nat.reduceLT, o_add, o_sub, o_mul, o_neg, q_add, q_sub, q_mul, q_neg, o_32, cast_s, Int.toNat_natCast, k15, h5, hb, en, show i < 10 by omega, show i + 13 < 27 by omega, o_lt (a := (i : Int)) (b := (n : Int)) (by omega), g, o_ixn (j := i) (n := 10) (by omega), o_tnn (j := i) (by omega), c3r hb hR hG (show i < n by omega), pcA_s]
    exact ih'
theorem c259_9 (hw : RW w) (hG : GA α n m o) : ∀ r i, i + r = n → Wp (d + 3) 259 9 [some (.ref 294), some (.int (Int32.ofInt (pcA α i))), some (.int (Int32.ofInt (i : Int)))] [] (mk N t w J (sR L w (r64 α)) D) Q = Q (.inl (some (.double (if n = 0 then FP.dconst0 else FP.ddiv (FP.i2d (Int32.ofInt (pcA α n))) (FP.i2d (Int32.ofInt (n : Int))))))) (mk N t w J (sR L w (r64 α)) D) := by
  have h10 := hG.1.1
  have hn := hG.1.2.1
  intro r
  induction r with
  | zero =>
    intro i hi
    obtain rfl : i = n := by omega
    have g : ¬ ((i : Int) < i) := by omega
    have hp := pcA_b hG (Nat.le_refl i)
    rw [w259_9]
    by_cases h0 : i = 0
    · have h0' : (i : Int) = 0 := by omega
      simp only [w259_0, w259_1, w259_2, w259_5, w259_6, w259_7, w259_8, w259_10, w259_11, w259_14, w259_17, w259_18, w259_19, w259_20, w259_23, w259_24, w259_25, w259_28, w259_31, w259_32, w259_35, w259_38, w259_39, w259_42, w259_43, w259_44, w259_45, w259_48, w259_49, w259_50, kn_s, kn_n, zh_mk, zR_mk, zI_mk, zL_mk, zD_mk, wI_mk, wL_mk, wD_mk, zT_mk, zC_mk, kill_i, kill_r, kill_0, kill_n, kill_l, kill_q, zzk_r, zzk_0, zzk_q, zcat_r, zcat_i, zcat_0, cats_0, cats_i, cats_r, cats_l, cats_d, cats_f, rv_s, rv_0, Nat.reduceAdd, Nat.reduceLeDiff, Nat.add_zero, Nat.reduceMul, Nat.reduceSub, ne_eq, not_false_eq_true, not_true_eq_false, and_self, and_true, true_and, or_self, or_true, true_or, or_false, false_or, if_true, if_false, reduceIte, reduceCtorEq, implies_true, ite_self, ite_not, kM, kMr, kRow hw, sR_at, up2_r64, r64_at, o_add, o_sub, o_mul, o_neg, q_add, q_sub, q_mul, q_neg, o_32, cast_s, Int.toNat_natCast, c176 hw, hn, o_lt (a := (i : Int)) (b := (i : Int)) (by omega), g, o_eq (a := (i : Int)) (b := 0) (by omega), eq_true h0, eq_true h0']
    · have h0' : ¬ ((i : Int) = 0) := by omega
      have hnn := nn64 (a := pcA α i) (b := (i : Int)) (by omega) (by omega)
      simp only [w259_0, w259_1, w259_2, w259_5, w259_6, w259_7, w259_8, w259_10, w259_11, w259_14, w259_17, w259_18, w259_19, w259_20, w259_23, w259_24, w259_25, w259_28, w259_31, w259_32, w259_35, w259_38, w259_39, w259_42, w259_43, w259_44, w259_45, w259_48, w259_49, w259_50, kn_s, kn_n, zh_mk, zR_mk, zI_mk, zL_mk, zD_mk, wI_mk, wL_mk, wD_mk, zT_mk, zC_mk, kill_i, kill_r, kill_0, kill_n, kill_l, kill_q, zzk_r, zzk_0, zzk_q, zcat_r, zcat_i, zcat_0, cats_0, cats_i, cats_r, cats_l, cats_d, cats_f, rv_s, rv_0, Nat.reduceAdd, Nat.reduceLeDiff, Nat.add_zero, Nat.reduceMul, Nat.reduceSub, ne_eq, not_false_eq_true, not_true_eq_false, and_self, and_true, true_and, or_self, or_true, true_or, or_false, false_or, if_true, if_false, reduceIte, reduceCtorEq, implies_true, ite_self, ite_not, kM, kMr, kRow hw, sR_at, up2_r64, r64_at, o_add, o_sub, o_mul, o_neg, q_add, q_sub, q_mul, q_neg, o_32, cast_s, Int.toNat_natCast, c176 hw, hn, o_lt (a := (i : Int)) (b := (i : Int)) (by omega), g, o_eq (a := (i : Int)) (b := 0) (by omega), eq_false h0, eq_false h0', hnn]
  | succ r ih =>
    intro i hi
    have g : (i : Int) < n := by omega
    have ih' := ih (i + 1) (by omega)
    rw [w259_9]
    simp only [w259_0, w259_1, w259_2, w259_5, w259_6, w259_7, w259_8, w259_10, w259_11, w259_14, w259_17, w259_18, w259_19, w259_20, w259_23, w259_24, w259_25, w259_28, w259_31, w259_32, w259_35, w259_38, w259_39, w259_42, w259_43, w259_44, w259_45, w259_48, w259_49, w259_50, kn_s, kn_n, zh_mk, zR_mk, zI_mk, zL_mk, zD_mk, wI_mk, wL_mk, wD_mk, zT_mk, zC_mk, kill_i, kill_r, kill_0, kill_n, kill_l, kill_q, zzk_r, zzk_0, zzk_q, zcat_r, zcat_i, zcat_0, cats_0, cats_i, cats_r, cats_l, cats_d, cats_f, rv_s, rv_0, Nat.reduceAdd, Nat.reduceLeDiff, Nat.add_zero, Nat.reduceMul, Nat.reduceSub, ne_eq, not_false_eq_true, not_true_eq_false, and_self, and_true, true_and, or_self, or_true, true_or, or_false, false_or, if_true, if_false, reduceIte, reduceCtorEq, implies_true, ite_self, ite_not, kM, kMr, kRow hw, sR_at, up2_r64, r64_at, o_add, o_sub, o_mul, o_neg, q_add, q_sub, q_mul, q_neg, o_32, cast_s, Int.toNat_natCast, c176 hw, hn, o_lt (a := (i : Int)) (b := (n : Int)) (by omega), g, c220 hw (show i < 10 by omega) (hG.1.2.2.2.2 i (by omega)).2.1, pcA_s]
    exact ih'
theorem pk33 (hI : Inv xs c t I L) : PairD (d + 41) 93 [some (.ref 15), none, none] (d + 41) 259 [some (.ref 294), none, none] N xs c t I L D := by
  obtain ⟨α, n, m, o, ⟨hR, hG, hE⟩, hL⟩ := hI.2.2.2.2.1
  have h5 : rv (KR 295 15 5) = .ref 19 := rfl
  have h10 := hG.1.1
  have en : I 19 3 = Int32.ofInt (n : Int) := rd_n hR
  have hp := pcA_b hG (Nat.le_refl n)
  refine PairD_v (α := α) (v := if n = 0 then FP.dconst0 else FP.ddiv (FP.i2d (Int32.ofInt (pcA α n))) (FP.i2d (Int32.ofInt (n : Int)))) hI hL ?_ (fun Q => ?_) (fun L2 Q => ?_)
  · by_cases h0 : n = 0
    · rw [if_pos h0]; decide +kernel
    · rw [if_neg h0]
      exact nn64 (by omega) (by omega)
  · by_cases h0 : n = 0
    · have h0' : (n : Int) = 0 := by omega
      simp only [w93_0, w93_1, w93_4, w93_7, w93_10, w93_11, w93_12, w93_13, w93_14, w93_15, kn_s, kn_n, zh_mk, zR_mk, zI_mk, zL_mk, zD_mk, wI_mk, wL_mk, wD_mk, zT_mk, zC_mk, kill_i, kill_r, kill_0, kill_n, kill_l, kill_q, zzk_r, zzk_0, zzk_q, zcat_r, zcat_i, zcat_0, cats_0, cats_i, cats_r, cats_l, cats_d, cats_f, rv_s, rv_0, Nat.reduceAdd, Nat.reduceLeDiff, Nat.add_zero, Nat.reduceMul, Nat.reduceSub, ne_eq, not_false_eq_true, not_true_eq_false, and_self, and_true, true_and, or_self, or_true, true_or, or_false, false_or, if_true, if_false, reduceIte, reduceCtorEq, implies_true, ite_self, ite_not, lay_in, lay_0, up2_lay, up2_lay0, kh0, kh1, kh2, kh3, kh4, kh5, kh6, kh7, kh8, kh9, kh10, kh11, kh12, khB, khP, kr2, kr4, kr5, kr7, kr8, kr9, kr10, krB, krP, krG0, krG1, krG2, krG3, krK, Nat.reduceLT, o_add, o_sub, o_mul, o_neg, q_add, q_sub, q_mul, q_neg, o_32, cast_s, Int.toNat_natCast, k15, h5, LB_now, en, o_eq (a := (n : Int)) (b := 0) (by omega), eq_true h0, eq_true h0']
    · have h0' : ¬ ((n : Int) = 0) := by omega
      have := c93_16 (d := d + 40) (N := N) (t := t) (w := 295) (J := I) (L := L) (D := D) (Q := Q) LB_now h5 hR hG (by omega) n 0 (by omega)
      rw [if_neg h0]
      simp only [w93_0, w93_1, w93_4, w93_7, w93_10, w93_11, w93_12, w93_13, w93_14, w93_15, kn_s, kn_n, zh_mk, zR_mk, zI_mk, zL_mk, zD_mk, wI_mk, wL_mk, wD_mk, zT_mk, zC_mk, kill_i, kill_r, kill_0, kill_n, kill_l, kill_q, zzk_r, zzk_0, zzk_q, zcat_r, zcat_i, zcat_0, cats_0, cats_i, cats_r, cats_l, cats_d, cats_f, rv_s, rv_0, Nat.reduceAdd, Nat.reduceLeDiff, Nat.add_zero, Nat.reduceMul, Nat.reduceSub, ne_eq, not_false_eq_true, not_true_eq_false, and_self, and_true, true_and, or_self, or_true, true_or, or_false, false_or, if_true, if_false, reduceIte, reduceCtorEq, implies_true, ite_self, ite_not, lay_in, lay_0, up2_lay, up2_lay0, kh0, kh1, kh2, kh3, kh4, kh5, kh6, kh7, kh8, kh9, kh10, kh11, kh12, khB, khP, kr2, kr4, kr5, kr7, kr8, kr9, kr10, krB, krP, krG0, krG1, krG2, krG3, krK, Nat.reduceLT, o_add, o_sub, o_mul, o_neg, q_add, q_sub, q_mul, q_neg, o_32, cast_s, Int.toNat_natCast, k15, h5, LB_now, en, o_eq (a := (n : Int)) (b := 0) (by omega), eq_false h0']
      exact this
  · have := c259_9 (d := d + 38) (N := N) (t := t) (w := 295) (J := up2 I 294 0 (Int32.ofInt 0)) (L := L2) (D := D) (Q := Q) (Or.inl rfl) hG n 0 (by omega)
    simp only [w259_0, w259_1, w259_2, w259_5, w259_6, w259_7, w259_8, kn_s, kn_n, zh_mk, zR_mk, zI_mk, zL_mk, zD_mk, wI_mk, wL_mk, wD_mk, zT_mk, zC_mk, kill_i, kill_r, kill_0, kill_n, kill_l, kill_q, zzk_r, zzk_0, zzk_q, zcat_r, zcat_i, zcat_0, cats_0, cats_i, cats_r, cats_l, cats_d, cats_f, rv_s, rv_0, Nat.reduceAdd, Nat.reduceLeDiff, Nat.add_zero, Nat.reduceMul, Nat.reduceSub, ne_eq, not_false_eq_true, not_true_eq_false, and_self, and_true, true_and, or_self, or_true, true_or, or_false, false_or, if_true, if_false, reduceIte, reduceCtorEq, implies_true, ite_self, ite_not, kM]
    exact this
theorem c94_20 (hb : LB b) (h5 : rv (KR w 15 5) = .ref b) (hR : RL (gl b J) (gl b L) α n m o) (hG : GA α n m o) (hn : 0 < n) : ∀ r i, i + r = n → Wp (d + 1) 94 20 [some (.ref 15), some (.int (Int32.ofInt (wtA α n))), some (.int (Int32.ofInt (mdA α i))), some (.int (Int32.ofInt (i : Int)))] [] (mk N t w J L D) Q = Q (.inl (some (.double (FP.ddiv (FP.i2d (Int32.ofInt (mdA α n))) (FP.i2d (Int32.ofInt (wtA α n))))))) (mk N t w J L D) := by
  have en : J b 3 = Int32.ofInt (n : Int) := rd_n hR
  have h10 := hG.1.1
  have hw := wtA_nb hG
  intro r
  induction r with
  | zero =>
    intro i hi
    obtain rfl : i = n := by omega
    have g : ¬ ((i : Int) < i) := by omega
    have hp := mdA_b hG (Nat.le_refl i)
    have hnn := nn64 (a := mdA α i) (b := wtA α i) (by omega) (by omega)
    rw [w94_20]
    simp only [w94_0, w94_1, w94_4, w94_7, w94_8, w94_9, w94_12, w94_15, w94_16, w94_17, w94_18, w94_19, w94_21, w94_22, w94_25, w94_28, w94_31, w94_32, w94_33, w94_36, w94_39, w94_40, w94_41, w94_44, w94_45, w94_48, w94_51, w94_52, w94_53, w94_56, w94_57, w94_58, w94_59, w94_62, w94_65, w94_66, w94_67, w94_68, w94_69, w94_70, kn_s, kn_n, zh_mk, zR_mk, zI_mk, zL_mk, zD_mk, wI_mk, wL_mk, wD_mk, zT_mk, zC_mk, kill_i, kill_r, kill_0, kill_n, kill_l, kill_q, zzk_r, zzk_0, zzk_q, zcat_r, zcat_i, zcat_0, cats_0, cats_i, cats_r, cats_l, cats_d, cats_f, rv_s, rv_0, Nat.reduceAdd, Nat.reduceLeDiff, Nat.add_zero, Nat.reduceMul, Nat.reduceSub, ne_eq, not_false_eq_true, not_true_eq_false, and_self, and_true, true_and, or_self, or_true, true_or, or_false, false_or, if_true, if_false, reduceIte, reduceCtorEq, implies_true, ite_self, ite_not, lay_in, lay_0, up2_lay, up2_lay0, kh0, kh1, kh2, kh3, kh4, kh5, kh6, kh7, kh8, kh9, kh10, kh11, kh12, khB, khP, kr2, kr4, kr5, kr7, kr8, kr9, kr10, krB, krP, krG0, krG1, krG2, krG3, krK, Nat.reduceLT, o_add, o_sub, o_mul, o_neg, q_add, q_sub, q_mul, q_neg, o_32, cast_s, Int.toNat_natCast, k15, h5, hb, en, o_lt (a := (i : Int)) (b := (i : Int)) (by omega), g, hnn]
  | succ r ih =>
    intro i hi
    have g : (i : Int) < n := by omega
    have ih' := ih (i + 1) (by omega)
    have ec : J (b + (i + 13)) 1 = Int32.ofInt (α (B9 i 0)) := rd_c hR hG (show i < n by omega)
    have ew : J (b + (i + 13)) 3 = Int32.ofInt (α (B9 i 2)) := rd_w hR hG (show i < n by omega)
    rw [w94_20]
    simp only [w94_0, w94_1, w94_4, w94_7, w94_8, w94_9, w94_12, w94_15, w94_16, w94_17, w94_18, w94_19, w94_21, w94_22, w94_25, w94_28, w94_31, w94_32, w94_33, w94_36, w94_39, w94_40, w94_41, w94_44, w94_45, w94_48, w94_51, w94_52, w94_53, w94_56, w94_57, w94_58, w94_59, w94_62, w94_65, w94_66, w94_67, w94_68, w94_69, w94_70, kn_s, kn_n, zh_mk, zR_mk, zI_mk, zL_mk, zD_mk, wI_mk, wL_mk, wD_mk, zT_mk, zC_mk, kill_i, kill_r, kill_0, kill_n, kill_l, kill_q, zzk_r, zzk_0, zzk_q, zcat_r, zcat_i, zcat_0, cats_0, cats_i, cats_r, cats_l, cats_d, cats_f, rv_s, rv_0, Nat.reduceAdd, Nat.reduceLeDiff, Nat.add_zero, Nat.reduceMul, Nat.reduceSub, ne_eq, not_false_eq_true, not_true_eq_false, and_self, and_true, true_and, or_self, or_true, true_or, or_false, false_or, if_true, if_false, reduceIte, reduceCtorEq, implies_true, ite_self, ite_not, lay_in, lay_0, up2_lay, up2_lay0, kh0, kh1, kh2, kh3, kh4, kh5, kh6, kh7, kh8, kh9, kh10, kh11, kh12, khB, khP, kr2, kr4, kr5, kr7, kr8, kr9, kr10, krB, krP, krG0, krG1, krG2, krG3, krK, Nat.reduceLT, o_add, o_sub, o_mul, o_neg, q_add, q_sub, q_mul, q_neg, o_32, cast_s, Int.toNat_natCast, k15, h5, hb, en, ec, ew, show i < 10 by omega, show i + 13 < 27 by omega, o_lt (a := (i : Int)) (b := (n : Int)) (by omega), g, o_ixn (j := i) (n := 10) (by omega), o_tnn (j := i) (by omega), mdA_s]
    exact ih'
theorem c261_9 (hw : RW w) (hG : GA α n m o) : ∀ r i, i + r = n → Wp (d + 2) 261 9 [some (.ref 294), some (.int (Int32.ofInt (mdA α i))), some (.int (Int32.ofInt (i : Int)))] [] (mk N t w J (sR L w (r64 α)) D) Q = Q (.inl (some (.double (if n = 0 then UInt64.ofNat 13830554455654793216 else FP.ddiv (FP.i2d (Int32.ofInt (mdA α n))) (FP.i2d (Int32.ofInt (wtA α n))))))) (mk N t w J (sR L w (r64 α)) D) := by
  have h10 := hG.1.1
  have hn := hG.1.2.1
  have hwt := wtA_nb hG
  intro r
  induction r with
  | zero =>
    intro i hi
    obtain rfl : i = n := by omega
    have g : ¬ ((i : Int) < i) := by omega
    have hp := mdA_b hG (Nat.le_refl i)
    rw [w261_9]
    by_cases h0 : i = 0
    · have h0' : (i : Int) = 0 := by omega
      simp only [w261_0, w261_1, w261_2, w261_5, w261_6, w261_7, w261_8, w261_10, w261_11, w261_14, w261_17, w261_18, w261_19, w261_20, w261_21, w261_24, w261_25, w261_26, w261_27, w261_30, w261_31, w261_32, w261_33, w261_36, w261_39, w261_40, w261_43, w261_46, w261_49, w261_52, w261_53, w261_54, w261_55, w261_58, w261_59, w261_60, kn_s, kn_n, zh_mk, zR_mk, zI_mk, zL_mk, zD_mk, wI_mk, wL_mk, wD_mk, zT_mk, zC_mk, kill_i, kill_r, kill_0, kill_n, kill_l, kill_q, zzk_r, zzk_0, zzk_q, zcat_r, zcat_i, zcat_0, cats_0, cats_i, cats_r, cats_l, cats_d, cats_f, rv_s, rv_0, Nat.reduceAdd, Nat.reduceLeDiff, Nat.add_zero, Nat.reduceMul, Nat.reduceSub, ne_eq, not_false_eq_true, not_true_eq_false, and_self, and_true, true_and, or_self, or_true, true_or, or_false, false_or, if_true, if_false, reduceIte, reduceCtorEq, implies_true, ite_self, ite_not, kM, kMr, kRow hw, sR_at, up2_r64, r64_at, o_add, o_sub, o_mul, o_neg, q_add, q_sub, q_mul, q_neg, o_32, cast_s, Int.toNat_natCast, c176 hw, hn, o_lt (a := (i : Int)) (b := (i : Int)) (by omega), g, o_eq (a := (i : Int)) (b := 0) (by omega), eq_true h0, eq_true h0']
    · have h0' : ¬ ((i : Int) = 0) := by omega
      have hnn := nn64 (a := mdA α i) (b := wtA α i) (by omega) (by omega)
      simp only [w261_0, w261_1, w261_2, w261_5, w261_6, w261_7, w261_8, w261_10, w261_11, w261_14, w261_17, w261_18, w261_19, w261_20, w261_21, w261_24, w261_25, w261_26, w261_27, w261_30, w261_31, w261_32, w261_33, w261_36, w261_39, w261_40, w261_43, w261_46, w261_49, w261_52, w261_53, w261_54, w261_55, w261_58, w261_59, w261_60, kn_s, kn_n, zh_mk, zR_mk, zI_mk, zL_mk, zD_mk, wI_mk, wL_mk, wD_mk, zT_mk, zC_mk, kill_i, kill_r, kill_0, kill_n, kill_l, kill_q, zzk_r, zzk_0, zzk_q, zcat_r, zcat_i, zcat_0, cats_0, cats_i, cats_r, cats_l, cats_d, cats_f, rv_s, rv_0, Nat.reduceAdd, Nat.reduceLeDiff, Nat.add_zero, Nat.reduceMul, Nat.reduceSub, ne_eq, not_false_eq_true, not_true_eq_false, and_self, and_true, true_and, or_self, or_true, true_or, or_false, false_or, if_true, if_false, reduceIte, reduceCtorEq, implies_true, ite_self, ite_not, kM, kMr, kRow hw, sR_at, up2_r64, r64_at, o_add, o_sub, o_mul, o_neg, q_add, q_sub, q_mul, q_neg, o_32, cast_s, Int.toNat_natCast, c176 hw, c195 hw hG.1, hn, o_lt (a := (i : Int)) (b := (i : Int)) (by omega), g, o_eq (a := (i : Int)) (b := 0) (by omega), eq_false h0, eq_false h0', hnn]
  | succ r ih =>
    intro i hi
    have g : (i : Int) < n := by omega
    have ih' := ih (i + 1) (by omega)
    rw [w261_9]
    simp only [w261_0, w261_1, w261_2, w261_5, w261_6, w261_7, w261_8, w261_10, w261_11, w261_14, w261_17, w261_18, w261_19, w261_20, w261_21, w261_24, w261_25, w261_26, w261_27, w261_30, w261_31, w261_32, w261_33, w261_36, w261_39, w261_40, w261_43, w261_46, w261_49, w261_52, w261_53, w261_54, w261_55, w261_58, w261_59, w261_60, kn_s, kn_n, zh_mk, zR_mk, zI_mk, zL_mk, zD_mk, wI_mk, wL_mk, wD_mk, zT_mk, zC_mk, kill_i, kill_r, kill_0, kill_n, kill_l, kill_q, zzk_r, zzk_0, zzk_q, zcat_r, zcat_i, zcat_0, cats_0, cats_i, cats_r, cats_l, cats_d, cats_f, rv_s, rv_0, Nat.reduceAdd, Nat.reduceLeDiff, Nat.add_zero, Nat.reduceMul, Nat.reduceSub, ne_eq, not_false_eq_true, not_true_eq_false, and_self, and_true, true_and, or_self, or_true, true_or, or_false, false_or, if_true, if_false, reduceIte, reduceCtorEq, implies_true, ite_self, ite_not, kM, kMr, kRow hw, sR_at, up2_r64, r64_at, o_add, o_sub, o_mul, o_neg, q_add, q_sub, q_mul, q_neg, o_32, cast_s, Int.toNat_natCast, c176 hw, hn, o_lt (a := (i : Int)) (b := (n : Int)) (by omega), g, c177_0 hw (show i < 10 by omega), c177_2 hw (show i < 10 by omega), mdA_s]
    exact ih'
theorem pk35 (hI : Inv xs c t I L) : PairD (d + 41) 94 [some (.ref 15), none, none, none] (d + 41) 261 [some (.ref 294), none, none] N xs c t I L D := by
  obtain ⟨α, n, m, o, ⟨hR, hG, hE⟩, hL⟩ := hI.2.2.2.2.1
  have h5 : rv (KR 295 15 5) = .ref 19 := rfl
  have h10 := hG.1.1
  have hp := mdA_b hG (Nat.le_refl n)
  have hwt := wtA_nb hG
  refine PairD_v (α := α) (v := if n = 0 then UInt64.ofNat 13830554455654793216 else FP.ddiv (FP.i2d (Int32.ofInt (mdA α n))) (FP.i2d (Int32.ofInt (wtA α n)))) hI hL ?_ (fun Q => ?_) (fun L2 Q => ?_)
  · by_cases h0 : n = 0
    · rw [if_pos h0]; decide +kernel
    · rw [if_neg h0]
      exact nn64 (by omega) (by omega)
  · by_cases h0 : n = 0
    · have h0' : wtA α n = 0 := by rw [h0]; rfl
      simp only [w94_0, w94_1, w94_4, w94_7, w94_8, w94_9, w94_12, w94_15, w94_16, w94_17, w94_18, w94_19, kn_s, kn_n, zh_mk, zR_mk, zI_mk, zL_mk, zD_mk, wI_mk, wL_mk, wD_mk, zT_mk, zC_mk, kill_i, kill_r, kill_0, kill_n, kill_l, kill_q, zzk_r, zzk_0, zzk_q, zcat_r, zcat_i, zcat_0, cats_0, cats_i, cats_r, cats_l, cats_d, cats_f, rv_s, rv_0, Nat.reduceAdd, Nat.reduceLeDiff, Nat.add_zero, Nat.reduceMul, Nat.reduceSub, ne_eq, not_false_eq_true, not_true_eq_false, and_self, and_true, true_and, or_self, or_true, true_or, or_false, false_or, if_true, if_false, reduceIte, reduceCtorEq, implies_true, ite_self, ite_not, lay_in, lay_0, up2_lay, up2_lay0, kh0, kh1, kh2, kh3, kh4, kh5, kh6, kh7, kh8, kh9, kh10, kh11, kh12, khB, khP, kr2, kr4, kr5, kr7, kr8, kr9, kr10, krB, krP, krG0, krG1, krG2, krG3, krK, Nat.reduceLT, o_add, o_sub, o_mul, o_neg, q_add, q_sub, q_mul, q_neg, o_32, cast_s, Int.toNat_natCast, k15, h5, LB_now, c40r LB_now hR hG, o_eq (a := wtA α n) (b := 0) (by omega), eq_true h0, eq_true h0']
    · have h0' : ¬ (wtA α n = 0) := by omega
      have := c94_20 (d := d + 40) (N := N) (t := t) (w := 295) (J := I) (L := L) (D := D) (Q := Q) LB_now h5 hR hG (by omega) n 0 (by omega)
      rw [if_neg h0]
      simp only [w94_0, w94_1, w94_4, w94_7, w94_8, w94_9, w94_12, w94_15, w94_16, w94_17, w94_18, w94_19, kn_s, kn_n, zh_mk, zR_mk, zI_mk, zL_mk, zD_mk, wI_mk, wL_mk, wD_mk, zT_mk, zC_mk, kill_i, kill_r, kill_0, kill_n, kill_l, kill_q, zzk_r, zzk_0, zzk_q, zcat_r, zcat_i, zcat_0, cats_0, cats_i, cats_r, cats_l, cats_d, cats_f, rv_s, rv_0, Nat.reduceAdd, Nat.reduceLeDiff, Nat.add_zero, Nat.reduceMul, Nat.reduceSub, ne_eq, not_false_eq_true, not_true_eq_false, and_self, and_true, true_and, or_self, or_true, true_or, or_false, false_or, if_true, if_false, reduceIte, reduceCtorEq, implies_true, ite_self, ite_not, lay_in, lay_0, up2_lay, up2_lay0, kh0, kh1, kh2, kh3, kh4, kh5, kh6, kh7, kh8, kh9, kh10, kh11, kh12, khB, khP, kr2, kr4, kr5, kr7, kr8, kr9, kr10, krB, krP, krG0, krG1, krG2, krG3, krK, Nat.reduceLT, o_add, o_sub, o_mul, o_neg, q_add, q_sub, q_mul, q_neg, o_32, cast_s, Int.toNat_natCast, k15, h5, LB_now, c40r LB_now hR hG, o_eq (a := wtA α n) (b := 0) (by omega), eq_false h0']
      exact this
  · have := c261_9 (d := d + 39) (N := N) (t := t) (w := 295) (J := up2 I 294 0 (Int32.ofInt 0)) (L := L2) (D := D) (Q := Q) (Or.inl rfl) hG n 0 (by omega)
    simp only [w261_0, w261_1, w261_2, w261_5, w261_6, w261_7, w261_8, kn_s, kn_n, zh_mk, zR_mk, zI_mk, zL_mk, zD_mk, wI_mk, wL_mk, wD_mk, zT_mk, zC_mk, kill_i, kill_r, kill_0, kill_n, kill_l, kill_q, zzk_r, zzk_0, zzk_q, zcat_r, zcat_i, zcat_0, cats_0, cats_i, cats_r, cats_l, cats_d, cats_f, rv_s, rv_0, Nat.reduceAdd, Nat.reduceLeDiff, Nat.add_zero, Nat.reduceMul, Nat.reduceSub, ne_eq, not_false_eq_true, not_true_eq_false, and_self, and_true, true_and, or_self, or_true, true_or, or_false, false_or, if_true, if_false, reduceIte, reduceCtorEq, implies_true, ite_self, ite_not, kM]
    exact this
theorem l2f_i2f {z : Int} (hz : -2147483648 ≤ z ∧ z < 2147483648) : FP.l2f (Int64.ofInt z) = FP.i2f (Int32.ofInt z) := by
  show UInt32.ofNat (FP.Core.fromInt FP.Core.b32 (Int64.ofInt z).toInt) = UInt32.ofNat (FP.Core.fromInt FP.Core.b32 (Int32.ofInt z).toInt)
  rw [o_ti (by omega), Int64.toInt_ofInt_of_le (by omega) (by omega)]
theorem lg0 {z : Int} (hz : -2147483648 ≤ z ∧ z < 2147483648) : (lg_cmp (Int64.ofInt z) (Int64.ofInt 0) = Int32.ofInt 0) = (z = 0) := by
  by_cases h : z = 0
  · rw [h, lg_self, eq_true rfl]
  · rw [eq_false h]
    have hne : Int64.ofInt z ≠ Int64.ofInt 0 := fun e => h (by
      have := congrArg Int64.toInt e
      rw [Int64.toInt_ofInt_of_le (by omega) (by omega), Int64.toInt_ofInt_of_le (by omega) (by omega)] at this
      exact this)
    unfold lg_cmp
    rw [if_neg hne]
    split <;> exact eq_false (by decide)
theorem pk34 (hI : Inv xs c t I L) : PairF (d + 40) 132 [some (.ref 15), some (.int x), none, none] [(1, 2)] (d + 41) 260 [some (.ref 294), some (.int x), none, none] N xs c t I L D := by
  obtain ⟨z, rfl, hz⟩ := o_z x
  obtain ⟨α, n, m, o, ⟨hR, hG, hE⟩, hL⟩ := hI.2.2.2.2.1
  have ht := hI.1.2.1
  have h5 : rv (KR 295 15 5) = .ref 19 := rfl
  have h10 := hG.1.1
  have hw : RW 295 := Or.inl rfl
  have he := enA_nb hG
  have row : ∀ L2 : Nat → Nat → Int64, (∀ a, a ≠ 303 → L2 a = L a) → sR L2 295 (r64 α) = L2 := fun L2 hL2 => by rw [← hL, ← hL2 295 (by omega)]; exact sR_self
  intro Q h1 h2
  by_cases hi : 0 ≤ z ∧ z ≤ (n : Int) - 1
  · obtain ⟨i, rfl⟩ : ∃ i : Nat, z = (i : Int) := ⟨z.toNat, by omega⟩
    have hin : i < n := by omega
    have gi := hG.1.2.2.2.2 i hin
    have hs := sq_nb gi.2.2.1 gi.2.1
    have es : I (19 + (i + 13)) 2 = Int32.ofInt (α (B9 i 1)) := rd_s hR hG hin
    have ew : I (19 + (i + 13)) 3 = Int32.ofInt (α (B9 i 2)) := rd_w hR hG hin
    have fin : ∀ v : UInt32, (v &&& 0x7fffffff ≤ 0x7f800000) → (∀ (L2 : Nat → Nat → Int64) (D2 : Nat → Nat → UInt64) (Q : Rs → St → Prop), Wp (d + 41) 260 0 [some (.ref 294), some (.int (Int32.ofInt (i : Int))), none, none] [] (mk N t 295 I (sR L2 295 (r64 α)) D2) Q = Q (.inl (some (.float v))) (mk N t 295 (up2 I 294 0 (Int32.ofInt 0)) (sR L2 295 (r64 α)) D2)) → Q (.inl (some (.float v))) (mk N t 295 I L D) := fun v hv hr => by
      refine h1 v t I L hv hI.1.1 ?_
      intro L2 D2 Q2 hL2 hQ
      have := hr L2 D2 Q2
      rw [row L2 hL2] at this
      rw [this]
      exact hQ v _ _ u2_same (fun _ => rfl) (Inv_irr hI (by omega) (by omega) u0_r (fun a ha => hL2 a (by unfold rLo at ha; omega)))
    by_cases h0 : enA α n = 0
    · have := fin FP.fconst0 (by decide +kernel) (fun L2 D2 Q => by
        simp only [w260_0, w260_1, w260_2, w260_3, w260_6, w260_9, w260_12, w260_13, w260_14, w260_15, w260_18, w260_19, w260_20, w260_21, w260_22, w260_25, w260_26, w260_29, w260_30, w260_31, w260_34, w260_35, w260_36, w260_37, w260_38, kn_s, kn_n, zh_mk, zR_mk, zI_mk, zL_mk, zD_mk, wI_mk, wL_mk, wD_mk, zT_mk, zC_mk, kill_i, kill_r, kill_0, kill_n, kill_l, kill_q, zzk_r, zzk_0, zzk_q, zcat_r, zcat_i, zcat_0, cats_0, cats_i, cats_r, cats_l, cats_d, cats_f, rv_s, rv_0, Nat.reduceAdd, Nat.reduceLeDiff, Nat.add_zero, Nat.reduceMul, Nat.reduceSub, ne_eq, not_false_eq_true, not_true_eq_false, and_self, and_true, true_and, or_self, or_true, true_or, or_false, false_or, if_true, if_false, reduceIte, reduceCtorEq, implies_true, ite_self, ite_not, kM, kMr, kRow hw, sR_at, up2_r64, r64_at, o_add, o_sub, o_mul, o_neg, q_add, q_sub, q_mul, q_neg, o_32, cast_s, Int.toNat_natCast, kM1, c197 hw hG.1 hz, pI, eq_true hi, c150t, i10, c216 hw hG.1, lg0 (z := enA α n) (by omega), eq_true h0])
      simp only [w132_0, w132_1, w132_2, w132_5, w132_6, w132_7, w132_10, w132_13, w132_14, w132_15, w132_18, w132_19, w132_20, w132_21, w132_24, w132_25, w132_26, w132_27, w132_28, kn_s, kn_n, zh_mk, zR_mk, zI_mk, zL_mk, zD_mk, wI_mk, wL_mk, wD_mk, zT_mk, zC_mk, kill_i, kill_r, kill_0, kill_n, kill_l, kill_q, zzk_r, zzk_0, zzk_q, zcat_r, zcat_i, zcat_0, cats_0, cats_i, cats_r, cats_l, cats_d, cats_f, rv_s, rv_0, Nat.reduceAdd, Nat.reduceLeDiff, Nat.add_zero, Nat.reduceMul, Nat.reduceSub, ne_eq, not_false_eq_true, not_true_eq_false, and_self, and_true, true_and, or_self, or_true, true_or, or_false, false_or, if_true, if_false, reduceIte, reduceCtorEq, implies_true, ite_self, ite_not, lay_in, lay_0, up2_lay, up2_lay0, kh0, kh1, kh2, kh3, kh4, kh5, kh6, kh7, kh8, kh9, kh10, kh11, kh12, khB, khP, kr2, kr4, kr5, kr7, kr8, kr9, kr10, krB, krP, krG0, krG1, krG2, krG3, krK, Nat.reduceLT, o_add, o_sub, o_mul, o_neg, q_add, q_sub, q_mul, q_neg, o_32, cast_s, Int.toNat_natCast, k15, h5, LB_now, c107r LB_now h5 hR hG hin, c44r LB_now hR hG, o_eq (a := enA α n) (b := 0) (by omega), eq_true h0]
      exact this
    · have hnn := nn32 (a := α (B9 i 2) * α (B9 i 1) * α (B9 i 1)) (b := enA α n) (by omega) (by omega)
      have := fin _ hnn (fun L2 D2 Q => by
        simp only [w260_0, w260_1, w260_2, w260_3, w260_6, w260_9, w260_12, w260_13, w260_14, w260_15, w260_18, w260_19, w260_20, w260_21, w260_22, w260_25, w260_26, w260_29, w260_30, w260_31, w260_34, w260_35, w260_36, w260_37, w260_38, kn_s, kn_n, zh_mk, zR_mk, zI_mk, zL_mk, zD_mk, wI_mk, wL_mk, wD_mk, zT_mk, zC_mk, kill_i, kill_r, kill_0, kill_n, kill_l, kill_q, zzk_r, zzk_0, zzk_q, zcat_r, zcat_i, zcat_0, cats_0, cats_i, cats_r, cats_l, cats_d, cats_f, rv_s, rv_0, Nat.reduceAdd, Nat.reduceLeDiff, Nat.add_zero, Nat.reduceMul, Nat.reduceSub, ne_eq, not_false_eq_true, not_true_eq_false, and_self, and_true, true_and, or_self, or_true, true_or, or_false, false_or, if_true, if_false, reduceIte, reduceCtorEq, implies_true, ite_self, ite_not, kM, kMr, kRow hw, sR_at, up2_r64, r64_at, o_add, o_sub, o_mul, o_neg, q_add, q_sub, q_mul, q_neg, o_32, cast_s, Int.toNat_natCast, kM1, c197 hw hG.1 hz, pI, eq_true hi, c150t, i10, c216 hw hG.1, lg0 (z := enA α n) (by omega), eq_false h0, c217 hw (show i < 10 by omega), l2f_i2f (z := enA α n) (by omega), hnn])
      simp only [w132_0, w132_1, w132_2, w132_5, w132_6, w132_7, w132_10, w132_13, w132_14, w132_15, w132_18, w132_19, w132_20, w132_21, w132_24, w132_25, w132_26, w132_27, w132_28, kn_s, kn_n, zh_mk, zR_mk, zI_mk, zL_mk, zD_mk, wI_mk, wL_mk, wD_mk, zT_mk, zC_mk, kill_i, kill_r, kill_0, kill_n, kill_l, kill_q, zzk_r, zzk_0, zzk_q, zcat_r, zcat_i, zcat_0, cats_0, cats_i, cats_r, cats_l, cats_d, cats_f, rv_s, rv_0, Nat.reduceAdd, Nat.reduceLeDiff, Nat.add_zero, Nat.reduceMul, Nat.reduceSub, ne_eq, not_false_eq_true, not_true_eq_false, and_self, and_true, true_and, or_self, or_true, true_or, or_false, false_or, if_true, if_false, reduceIte, reduceCtorEq, implies_true, ite_self, ite_not, lay_in, lay_0, up2_lay, up2_lay0, kh0, kh1, kh2, kh3, kh4, kh5, kh6, kh7, kh8, kh9, kh10, kh11, kh12, khB, khP, kr2, kr4, kr5, kr7, kr8, kr9, kr10, krB, krP, krG0, krG1, krG2, krG3, krK, Nat.reduceLT, o_add, o_sub, o_mul, o_neg, q_add, q_sub, q_mul, q_neg, o_32, cast_s, Int.toNat_natCast, k15, h5, LB_now, c107r LB_now h5 hR hG hin, c44r LB_now hR hG, o_eq (a := enA α n) (b := 0) (by omega), eq_false h0, khB (N := N) LB_now (show i < 10 by omega), c8 (khB (N := N) LB_now (show i < 10 by omega)), es, ew, hnn]
      exact this
  · have := h2 1 2 (t + 1) I L (List.mem_singleton.2 rfl) hI.1.1 ?_
    · simp only [w132_0, w132_1, w132_2, w132_5, w132_6, w132_7, w132_10, w132_13, w132_14, w132_15, w132_18, w132_19, w132_20, w132_21, w132_24, w132_25, w132_26, w132_27, w132_28, kn_s, kn_n, zh_mk, zR_mk, zI_mk, zL_mk, zD_mk, wI_mk, wL_mk, wD_mk, zT_mk, zC_mk, kill_i, kill_r, kill_0, kill_n, kill_l, kill_q, zzk_r, zzk_0, zzk_q, zcat_r, zcat_i, zcat_0, cats_0, cats_i, cats_r, cats_l, cats_d, cats_f, rv_s, rv_0, Nat.reduceAdd, Nat.reduceLeDiff, Nat.add_zero, Nat.reduceMul, Nat.reduceSub, ne_eq, not_false_eq_true, not_true_eq_false, and_self, and_true, true_and, or_self, or_true, true_or, or_false, false_or, if_true, if_false, reduceIte, reduceCtorEq, implies_true, ite_self, ite_not, lay_in, lay_0, up2_lay, up2_lay0, kh0, kh1, kh2, kh3, kh4, kh5, kh6, kh7, kh8, kh9, kh10, kh11, kh12, khB, khP, kr2, kr4, kr5, kr7, kr8, kr9, kr10, krB, krP, krG0, krG1, krG2, krG3, krK, Nat.reduceLT, o_add, o_sub, o_mul, o_neg, q_add, q_sub, q_mul, q_neg, o_32, cast_s, Int.toNat_natCast, k15, h5, LB_now, c107rx LB_now h5 hR hG hz hi, kn_x mh132]
      exact this
    · intro L2 D2 Q2 hL2 hQ
      have : Wp (d + 41) 260 0 [some (.ref 294), some (.int (Int32.ofInt z)), none, none] [] (mk N (t + 1) 295 I (sR L2 295 (r64 α)) D2) Q2 = Q2 (.inl (some (.float FP.fconst0))) (mk N (t + 1) 295 (up2 I 294 0 (Int32.ofInt 1)) (sR L2 295 (r64 α)) D2) := by
        simp only [w260_0, w260_1, w260_2, w260_3, w260_6, w260_9, w260_12, w260_13, w260_14, w260_15, w260_18, w260_19, w260_20, w260_21, w260_22, w260_25, w260_26, w260_29, w260_30, w260_31, w260_34, w260_35, w260_36, w260_37, w260_38, kn_s, kn_n, zh_mk, zR_mk, zI_mk, zL_mk, zD_mk, wI_mk, wL_mk, wD_mk, zT_mk, zC_mk, kill_i, kill_r, kill_0, kill_n, kill_l, kill_q, zzk_r, zzk_0, zzk_q, zcat_r, zcat_i, zcat_0, cats_0, cats_i, cats_r, cats_l, cats_d, cats_f, rv_s, rv_0, Nat.reduceAdd, Nat.reduceLeDiff, Nat.add_zero, Nat.reduceMul, Nat.reduceSub, ne_eq, not_false_eq_true, not_true_eq_false, and_self, and_true, true_and, or_self, or_true, true_or, or_false, false_or, if_true, if_false, reduceIte, reduceCtorEq, implies_true, ite_self, ite_not, kM, kMr, kRow hw, sR_at, up2_r64, r64_at, o_add, o_sub, o_mul, o_neg, q_add, q_sub, q_mul, q_neg, o_32, cast_s, Int.toNat_natCast, kM1, c197 hw hG.1 hz, pI, eq_false hi, c150f, i00]
      rw [row L2 hL2] at this
      rw [this]
      exact hQ _ _ _ u2_same (fun h => by omega) (Inv_irr hI (by omega) (by omega) u0_r (fun a ha => hL2 a (by unfold rLo at ha; omega)))
end S76
