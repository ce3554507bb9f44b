/-! CONTRACTS of the class: questions to a line -/
section S54
variable {N : NX} {w : WX} {d t b n m : Nat} {I ℓ : Nat → Nat → Int32} {L μ : Nat → Nat → Int64} {D : Nat → Nat → UInt64} {Q : Rs → St → Prop} {o : Nat → Nat} {α : Nat → Int}
theorem rd_0 (hR : RL ℓ μ α n m o) : ℓ 0 0 = Int32.ofInt (α 0) := hR.1 0 (Or.inl rfl)
theorem rd_n (hR : RL ℓ μ α n m o) : ℓ 0 3 = Int32.ofInt (n : Int) := hR.2.1.1
theorem rd_m (hR : RL ℓ μ α n m o) : ℓ 0 6 = Int32.ofInt (m : Int) := hR.2.1.2
theorem rd_c (hR : RL ℓ μ α n m o) (hG : GA α n m o) {i : Nat} (hi : i < n) : ℓ (i + 13) 1 = Int32.ofInt (α (B9 i 0)) := RL_B hR hi hG.1.1 (by omega)
theorem rd_s (hR : RL ℓ μ α n m o) (hG : GA α n m o) {i : Nat} (hi : i < n) : ℓ (i + 13) 2 = Int32.ofInt (α (B9 i 1)) := RL_B hR hi hG.1.1 (by omega)
theorem rd_w (hR : RL ℓ μ α n m o) (hG : GA α n m o) {i : Nat} (hi : i < n) : ℓ (i + 13) 3 = Int32.ofInt (α (B9 i 2)) := RL_B hR hi hG.1.1 (by omega)
theorem rd_nm (hR : RL ℓ μ α n m o) (hG : GA α n m o) {i : Nat} (hi : i < n) : ℓ (i + 13) 0 = Int32.ofInt (α (B9 i 8)) := by
  have h10 := hG.1.1
  have := hR.1 (B9 i 8) (by unfold kd B9; omega)
  rwa [mo_B (by omega) (by omega), mq_B8 (by omega)] at this
theorem c27_2 (hb : LB b) (hR : RL ℓ μ α n m o) (hG : GA α n m o) {c : Int} (hc : -2147483648 ≤ c ∧ c < 2147483648) : ∀ r i, i + r = n → Wp d 27 2 [some (.ref b), some (.int (Int32.ofInt c)), some (.int (Int32.ofInt (i : Int)))] [] (mk N t w (lay b ℓ I) L D) Q = Q (.inl (some (.int (Int32.ofInt (pFind (fun i => α (B9 i 0)) c r i))))) (mk N t w (lay b ℓ I) L D) := by
  have h10 := hG.1.1
  have en := rd_n hR
  have h0 := hG.1.2.2.2.1
  intro r
  induction r with
  | zero =>
    intro i hi
    have g : ¬ ((i : Int) < n) := by omega
    simp only [w27_0, w27_1, w27_2, w27_3, w27_4, w27_7, w27_10, w27_11, w27_14, w27_15, w27_16, w27_19, w27_20, w27_23, w27_24, w27_25, w27_28, w27_31, w27_32, kn_s, kn_n, zh_mk, zR_mk, zI_mk, zL_mk, zD_mk, wI_mk, wL_mk, wD_mk, zT_mk, zC_mk, kill_i, kill_r, kill_0, kill_n, kill_l, kill_q, zzk_r, zzk_0, zzk_q, zcat_r, zcat_i, zcat_0, zcat_q, cats_0, cats_i, cats_r, cats_l, cats_d, cats_f, cats_q, cats_n, rv_s, rv_0, Nat.reduceAdd, Nat.reduceLeDiff, Nat.reduceEqDiff, Nat.add_zero, Nat.reduceMul, Nat.reduceSub, ne_eq, not_false_eq_true, not_true_eq_false, and_self, and_true, true_and, or_self, or_true, true_or, or_false, false_or, if_true, if_false, reduceIte, reduceCtorEq, implies_true, ite_self, ite_not, lay_in, lay_0, up2_lay, up2_lay0, kh0, kh1, kh2, kh3, kh4, kh5, kh6, kh7, kh8, kh9, kh10, kh11, kh12, khB, khP, kr2, kr4, kr5, kr7, kr8, kr9, kr10, krB, krP, krG0, krG1, krG2, krG3, krK, Nat.reduceLT, o_add, o_sub, o_mul, o_neg, q_add, q_sub, q_mul, q_neg, o_32, cast_s, Int.toNat_natCast, hb, en, o_lt (a := (i : Int)) (b := (n : Int)) (by omega), g, pFind_0]
  | succ r ih =>
    intro i hi
    have g : (i : Int) < n := by omega
    have hi10 : i < 10 := by omega
    have ec := rd_c hR hG (show i < n by omega)
    have gi := (hG.1.2.2.2.2 i (by omega)).1
    rw [w27_2]
    by_cases hx : α (B9 i 0) = c
    · simp only [w27_0, w27_1, w27_3, w27_4, w27_7, w27_10, w27_11, w27_14, w27_15, w27_16, w27_19, w27_20, w27_23, w27_24, w27_25, w27_28, w27_31, w27_32, kn_s, kn_n, zh_mk, zR_mk, zI_mk, zL_mk, zD_mk, wI_mk, wL_mk, wD_mk, zT_mk, zC_mk, kill_i, kill_r, kill_0, kill_n, kill_l, kill_q, zzk_r, zzk_0, zzk_q, zcat_r, zcat_i, zcat_0, zcat_q, cats_0, cats_i, cats_r, cats_l, cats_d, cats_f, cats_q, cats_n, rv_s, rv_0, Nat.reduceAdd, Nat.reduceLeDiff, Nat.reduceEqDiff, Nat.add_zero, Nat.reduceMul, Nat.reduceSub, ne_eq, not_false_eq_true, not_true_eq_false, and_self, and_true, true_and, or_self, or_true, true_or, or_false, false_or, if_true, if_false, reduceIte, reduceCtorEq, implies_true, ite_self, ite_not, lay_in, lay_0, up2_lay, up2_lay0, kh0, kh1, kh2, kh3, kh4, kh5, kh6, kh7, kh8, kh9, kh10, kh11, kh12, khB, khP, kr2, kr4, kr5, kr7, kr8, kr9, kr10, krB, krP, krG0, krG1, krG2, krG3, krK, Nat.reduceLT, o_add, o_sub, o_mul, o_neg, q_add, q_sub, q_mul, q_neg, o_32, cast_s, Int.toNat_natCast, hb, hi10, en, ec, o_lt (a := (i : Int)) (b := (n : Int)) (by omega), g, show i + 13 < 27 by omega, o_ixn (j := i) (n := 10) (by omega), o_tnn (j := i) (by omega), o_eq (a := α (B9 i 0)) (b := c) (by omega), hx, pFind_s]
    · simp only [w27_0, w27_1, w27_3, w27_4, w27_7, w27_10, w27_11, w27_14, w27_15, w27_16, w27_19, w27_20, w27_23, w27_24, w27_25, w27_28, w27_31, w27_32, kn_s, kn_n, zh_mk, zR_mk, zI_mk, zL_mk, zD_mk, wI_mk, wL_mk, wD_mk, zT_mk, zC_mk, kill_i, kill_r, kill_0, kill_n, kill_l, kill_q, zzk_r, zzk_0, zzk_q, zcat_r, zcat_i, zcat_0, zcat_q, cats_0, cats_i, cats_r, cats_l, cats_d, cats_f, cats_q, cats_n, rv_s, rv_0, Nat.reduceAdd, Nat.reduceLeDiff, Nat.reduceEqDiff, Nat.add_zero, Nat.reduceMul, Nat.reduceSub, ne_eq, not_false_eq_true, not_true_eq_false, and_self, and_true, true_and, or_self, or_true, true_or, or_false, false_or, if_true, if_false, reduceIte, reduceCtorEq, implies_true, ite_self, ite_not, lay_in, lay_0, up2_lay, up2_lay0, kh0, kh1, kh2, kh3, kh4, kh5, kh6, kh7, kh8, kh9, kh10, kh11, kh12, khB, khP, kr2, kr4, kr5, kr7, kr8, kr9, kr10, krB, krP, krG0, krG1, krG2, krG3, krK, Nat.reduceLT, o_add, o_sub, o_mul, o_neg, q_add, q_sub, q_mul, q_neg, o_32, cast_s, Int.toNat_natCast, hb, hi10, en, ec, o_lt (a := (i : Int)) (b := (n : Int)) (by omega), g, show i + 13 < 27 by omega, o_ixn (j := i) (n := 10) (by omega), o_tnn (j := i) (by omega), o_eq (a := α (B9 i 0)) (b := c) (by omega), hx, pFind_s, ih (i + 1) (by omega)]
theorem c27 (hb : LB b) (hR : RL ℓ μ α n m o) (hG : GA α n m o) {c : Int} (hc : -2147483648 ≤ c ∧ c < 2147483648) : Wp d 27 0 [some (.ref b), some (.int (Int32.ofInt c)), none] [] (mk N t w (lay b ℓ I) L D) Q = Q (.inl (some (.int (Int32.ofInt (bAt α n c))))) (mk N t w (lay b ℓ I) L D) := by
  have := c27_2 (d := d) (N := N) (t := t) (w := w) (I := I) (L := L) (D := D) (Q := Q) hb hR hG hc n 0 (by omega)
  simp only [w27_0, w27_1, kn_s, kn_n, zh_mk, zR_mk, zI_mk, zL_mk, zD_mk, wI_mk, wL_mk, wD_mk, zT_mk, zC_mk, kill_i, kill_r, kill_0, kill_n, kill_l, kill_q, zzk_r, zzk_0, zzk_q, zcat_r, zcat_i, zcat_0, zcat_q, cats_0, cats_i, cats_r, cats_l, cats_d, cats_f, cats_q, cats_n, rv_s, rv_0, Nat.reduceAdd, Nat.reduceLeDiff, Nat.reduceEqDiff, Nat.add_zero, Nat.reduceMul, Nat.reduceSub, ne_eq, not_false_eq_true, not_true_eq_false, and_self, and_true, true_and, or_self, or_true, true_or, or_false, false_or, if_true, if_false, reduceIte, reduceCtorEq, implies_true, ite_self, ite_not]
  exact this
theorem c26' (hb : LB b) (hR : RL ℓ μ α n m o) (hG : GA α n m o) {c : Int} (hc : -2147483648 ≤ c ∧ c < 2147483648) : Wp d 26 0 [some (.ref b), some (.int (Int32.ofInt c)), none] [] (mk N t w (lay b ℓ I) L D) Q = Q (.inl (some (brV b α m c))) (mk N t w (lay b ℓ I) L D) :=
  c26 hb hG.2.1.1 (rd_0 hR) ⟨hG.1.2.2.1, hG.1.2.2.2.1⟩ (rd_m hR) (RL_eP hR hG) hc
theorem c25 (hb : LB b) (hR : RL ℓ μ α n m o) (hG : GA α n m o) {c : Int} (hc : -2147483648 ≤ c ∧ c < 2147483648) : Wp (d + 1) 25 0 [some (.ref b), some (.int (Int32.ofInt c))] [] (mk N t w (lay b ℓ I) L D) Q = Q (.inl (some (.int (pI (¬ isF α n m c))))) (mk N t w (lay b ℓ I) L D) := by
  have hn := bAt_rng (α := α) (c := c) hG.1.1
  have e27 := fun Q => c27 (d := d) (N := N) (t := t) (w := w) (I := I) (L := L) (D := D) (Q := Q) hb hR hG hc
  have e26 := fun Q => c26' (d := d) (N := N) (t := t) (w := w) (I := I) (L := L) (D := D) (Q := Q) hb hR hG hc
  unfold brV at e26
  unfold isF isC
  by_cases h1 : c < 0
  · have h2 : ¬ (0 ≤ c) := by omega
    simp only [h1, if_true] at e26
    simp only [w25_0, w25_1, w25_2, w25_5, w25_5r, w25_5q, w25_8, w25_9, w25_10, w25_13, w25_14, w25_17, w25_18, w25_21, w25_22, kn_s, kn_n, zh_mk, zR_mk, zI_mk, zL_mk, zD_mk, wI_mk, wL_mk, wD_mk, zT_mk, zC_mk, kill_i, kill_r, kill_0, kill_n, kill_l, kill_q, zzk_r, zzk_0, zzk_q, zcat_r, zcat_i, zcat_0, zcat_q, cats_0, cats_i, cats_r, cats_l, cats_d, cats_f, cats_q, cats_n, rv_s, rv_0, Nat.reduceAdd, Nat.reduceLeDiff, Nat.reduceEqDiff, Nat.add_zero, Nat.reduceMul, Nat.reduceSub, ne_eq, not_false_eq_true, not_true_eq_false, and_self, and_true, true_and, or_self, or_true, true_or, or_false, false_or, if_true, if_false, reduceIte, reduceCtorEq, implies_true, ite_self, ite_not, lay_in, lay_0, up2_lay, up2_lay0, kh0, kh1, kh2, kh3, kh4, kh5, kh6, kh7, kh8, kh9, kh10, kh11, kh12, khB, khP, kr2, kr4, kr5, kr7, kr8, kr9, kr10, krB, krP, krG0, krG1, krG2, krG3, krK, Nat.reduceLT, o_add, o_sub, o_mul, o_neg, q_add, q_sub, q_mul, q_neg, o_32, cast_s, Int.toNat_natCast, hb, e26, h2, false_and, not_false_eq_true, pI, p_n1]
  · by_cases h2 : α 0 ≤ c
    · have h3 : ¬ (c ≤ α 0 - 1) := by omega
      simp only [h1, h2, if_true, if_false] at e26
      simp only [w25_0, w25_1, w25_2, w25_5, w25_5r, w25_5q, w25_8, w25_9, w25_10, w25_13, w25_14, w25_17, w25_18, w25_21, w25_22, kn_s, kn_n, zh_mk, zR_mk, zI_mk, zL_mk, zD_mk, wI_mk, wL_mk, wD_mk, zT_mk, zC_mk, kill_i, kill_r, kill_0, kill_n, kill_l, kill_q, zzk_r, zzk_0, zzk_q, zcat_r, zcat_i, zcat_0, zcat_q, cats_0, cats_i, cats_r, cats_l, cats_d, cats_f, cats_q, cats_n, rv_s, rv_0, Nat.reduceAdd, Nat.reduceLeDiff, Nat.reduceEqDiff, Nat.add_zero, Nat.reduceMul, Nat.reduceSub, ne_eq, not_false_eq_true, not_true_eq_false, and_self, and_true, true_and, or_self, or_true, true_or, or_false, false_or, if_true, if_false, reduceIte, reduceCtorEq, implies_true, ite_self, ite_not, lay_in, lay_0, up2_lay, up2_lay0, kh0, kh1, kh2, kh3, kh4, kh5, kh6, kh7, kh8, kh9, kh10, kh11, kh12, khB, khP, kr2, kr4, kr5, kr7, kr8, kr9, kr10, krB, krP, krG0, krG1, krG2, krG3, krK, Nat.reduceLT, o_add, o_sub, o_mul, o_neg, q_add, q_sub, q_mul, q_neg, o_32, cast_s, Int.toNat_natCast, hb, e26, h3, and_false, false_and, not_false_eq_true, pI, p_n1]
    · have h3 : c ≤ α 0 - 1 := by omega
      have h4 : 0 ≤ c := by omega
      by_cases h5 : pAt α m c = -1
      · simp only [h1, h2, h5, if_true, if_false] at e26
        by_cases h6 : bAt α n c = -1
        · simp only [w25_0, w25_1, w25_2, w25_5, w25_5r, w25_5q, w25_8, w25_9, w25_10, w25_13, w25_14, w25_17, w25_18, w25_21, w25_22, kn_s, kn_n, zh_mk, zR_mk, zI_mk, zL_mk, zD_mk, wI_mk, wL_mk, wD_mk, zT_mk, zC_mk, kill_i, kill_r, kill_0, kill_n, kill_l, kill_q, zzk_r, zzk_0, zzk_q, zcat_r, zcat_i, zcat_0, zcat_q, cats_0, cats_i, cats_r, cats_l, cats_d, cats_f, cats_q, cats_n, rv_s, rv_0, Nat.reduceAdd, Nat.reduceLeDiff, Nat.reduceEqDiff, Nat.add_zero, Nat.reduceMul, Nat.reduceSub, ne_eq, not_false_eq_true, not_true_eq_false, and_self, and_true, true_and, or_self, or_true, true_or, or_false, false_or, if_true, if_false, reduceIte, reduceCtorEq, implies_true, ite_self, ite_not, lay_in, lay_0, up2_lay, up2_lay0, kh0, kh1, kh2, kh3, kh4, kh5, kh6, kh7, kh8, kh9, kh10, kh11, kh12, khB, khP, kr2, kr4, kr5, kr7, kr8, kr9, kr10, krB, krP, krG0, krG1, krG2, krG3, krK, Nat.reduceLT, o_add, o_sub, o_mul, o_neg, q_add, q_sub, q_mul, q_neg, o_32, cast_s, Int.toNat_natCast, hb, e26, e27, h3, h4, h5, h6, pI, p_n1, p_n0, and_self, not_true_eq_false]
        · simp only [w25_0, w25_1, w25_2, w25_5, w25_5r, w25_5q, w25_8, w25_9, w25_10, w25_13, w25_14, w25_17, w25_18, w25_21, w25_22, kn_s, kn_n, zh_mk, zR_mk, zI_mk, zL_mk, zD_mk, wI_mk, wL_mk, wD_mk, zT_mk, zC_mk, kill_i, kill_r, kill_0, kill_n, kill_l, kill_q, zzk_r, zzk_0, zzk_q, zcat_r, zcat_i, zcat_0, zcat_q, cats_0, cats_i, cats_r, cats_l, cats_d, cats_f, cats_q, cats_n, rv_s, rv_0, Nat.reduceAdd, Nat.reduceLeDiff, Nat.reduceEqDiff, Nat.add_zero, Nat.reduceMul, Nat.reduceSub, ne_eq, not_false_eq_true, not_true_eq_false, and_self, and_true, true_and, or_self, or_true, true_or, or_false, false_or, if_true, if_false, reduceIte, reduceCtorEq, implies_true, ite_self, ite_not, lay_in, lay_0, up2_lay, up2_lay0, kh0, kh1, kh2, kh3, kh4, kh5, kh6, kh7, kh8, kh9, kh10, kh11, kh12, khB, khP, kr2, kr4, kr5, kr7, kr8, kr9, kr10, krB, krP, krG0, krG1, krG2, krG3, krK, Nat.reduceLT, o_add, o_sub, o_mul, o_neg, q_add, q_sub, q_mul, q_neg, o_32, cast_s, Int.toNat_natCast, hb, e26, e27, h3, h4, h5, h6, o_eq (a := bAt α n c) (b := -1) (by omega), pI, p_n1, p_n0, false_and, and_false, not_false_eq_true]
      · simp only [h1, h2, h5, if_true, if_false] at e26
        simp only [w25_0, w25_1, w25_2, w25_5, w25_5r, w25_5q, w25_8, w25_9, w25_10, w25_13, w25_14, w25_17, w25_18, w25_21, w25_22, kn_s, kn_n, zh_mk, zR_mk, zI_mk, zL_mk, zD_mk, wI_mk, wL_mk, wD_mk, zT_mk, zC_mk, kill_i, kill_r, kill_0, kill_n, kill_l, kill_q, zzk_r, zzk_0, zzk_q, zcat_r, zcat_i, zcat_0, zcat_q, cats_0, cats_i, cats_r, cats_l, cats_d, cats_f, cats_q, cats_n, rv_s, rv_0, Nat.reduceAdd, Nat.reduceLeDiff, Nat.reduceEqDiff, Nat.add_zero, Nat.reduceMul, Nat.reduceSub, ne_eq, not_false_eq_true, not_true_eq_false, and_self, and_true, true_and, or_self, or_true, true_or, or_false, false_or, if_true, if_false, reduceIte, reduceCtorEq, implies_true, ite_self, ite_not, lay_in, lay_0, up2_lay, up2_lay0, kh0, kh1, kh2, kh3, kh4, kh5, kh6, kh7, kh8, kh9, kh10, kh11, kh12, khB, khP, kr2, kr4, kr5, kr7, kr8, kr9, kr10, krB, krP, krG0, krG1, krG2, krG3, krK, Nat.reduceLT, o_add, o_sub, o_mul, o_neg, q_add, q_sub, q_mul, q_neg, o_32, cast_s, Int.toNat_natCast, hb, e26, h5, and_false, not_false_eq_true, pI, p_n1]
/-- balls that move -/
def mvA (α : Nat → Int) (n : Nat) : Int := sumN (fun i => if α (B9 i 1) = 0 then 0 else 1) n
theorem mvA_s {n : Nat} : mvA α (n + 1) = mvA α n + (if α (B9 n 1) = 0 then 0 else 1) := nr rfl
theorem c39_4 (hb : LB b) (hR : RL ℓ μ α n m o) (hG : GA α n m o) : ∀ r i, i + r = n → Wp d 39 4 [some (.ref b), some (.int (Int32.ofInt (mvA α i))), some (.int (Int32.ofInt (i : Int)))] [] (mk N t w (lay b ℓ I) L D) Q = Q (.inl (some (.int (Int32.ofInt (mvA α n))))) (mk N t w (lay b ℓ I) L D) := by
  have h10 := hG.1.1
  have en := rd_n hR
  intro r
  induction r with
  | zero =>
    intro i hi
    obtain rfl : i = n := by omega
    have g : ¬ ((i : Int) < i) := by omega
    simp only [w39_0, w39_1, w39_2, w39_3, w39_4, w39_5, w39_6, w39_9, w39_12, w39_13, w39_16, w39_17, w39_18, w39_21, w39_24, w39_27, w39_30, w39_33, w39_34, kn_s, kn_n, zh_mk, zR_mk, zI_mk, zL_mk, zD_mk, wI_mk, wL_mk, wD_mk, zT_mk, zC_mk, kill_i, kill_r, kill_0, kill_n, kill_l, kill_q, zzk_r, zzk_0, zzk_q, zcat_r, zcat_i, zcat_0, zcat_q, cats_0, cats_i, cats_r, cats_l, cats_d, cats_f, cats_q, cats_n, rv_s, rv_0, Nat.reduceAdd, Nat.reduceLeDiff, Nat.reduceEqDiff, Nat.add_zero, Nat.reduceMul, Nat.reduceSub, ne_eq, not_false_eq_true, not_true_eq_false, and_self, and_true, true_and, or_self, or_true, true_or, or_false, false_or, if_true, if_false, reduceIte, reduceCtorEq, implies_true, ite_self, ite_not, lay_in, lay_0, up2_lay, up2_lay0, kh0, kh1, kh2, kh3, kh4, kh5, kh6, kh7, kh8, kh9, kh10, kh11, kh12, khB, khP, kr2, kr4, kr5, kr7, kr8, kr9, kr10, krB, krP, krG0, krG1, krG2, krG3, krK, Nat.reduceLT, o_add, o_sub, o_mul, o_neg, q_add, q_sub, q_mul, q_neg, o_32, cast_s, Int.toNat_natCast, hb, en, o_lt (a := (i : Int)) (b := (i : Int)) (by omega), g]
  | succ r ih =>
    intro i hi
    have g : (i : Int) < n := by omega
    have hi10 : i < 10 := by omega
    have es := rd_s hR hG (show i < n by omega)
    have gi := (hG.1.2.2.2.2 i (by omega)).2.1
    have ih' := ih (i + 1) (by omega)
    rw [w39_4]
    rw [mvA_s] at ih'
    by_cases hx : α (B9 i 1) = 0
    · simp only [hx, if_true, Int.add_zero] at ih'
      simp only [w39_0, w39_1, w39_2, w39_3, w39_5, w39_6, w39_9, w39_12, w39_13, w39_16, w39_17, w39_18, w39_21, w39_24, w39_27, w39_30, w39_33, w39_34, kn_s, kn_n, zh_mk, zR_mk, zI_mk, zL_mk, zD_mk, wI_mk, wL_mk, wD_mk, zT_mk, zC_mk, kill_i, kill_r, kill_0, kill_n, kill_l, kill_q, zzk_r, zzk_0, zzk_q, zcat_r, zcat_i, zcat_0, zcat_q, cats_0, cats_i, cats_r, cats_l, cats_d, cats_f, cats_q, cats_n, rv_s, rv_0, Nat.reduceAdd, Nat.reduceLeDiff, Nat.reduceEqDiff, Nat.add_zero, Nat.reduceMul, Nat.reduceSub, ne_eq, not_false_eq_true, not_true_eq_false, and_self, and_true, true_and, or_self, or_true, true_or, or_false, false_or, if_true, if_false, reduceIte, reduceCtorEq, implies_true, ite_self, ite_not, lay_in, lay_0, up2_lay, up2_lay0, kh0, kh1, kh2, kh3, kh4, kh5, kh6, kh7, kh8, kh9, kh10, kh11, kh12, khB, khP, kr2, kr4, kr5, kr7, kr8, kr9, kr10, krB, krP, krG0, krG1, krG2, krG3, krK, Nat.reduceLT, o_add, o_sub, o_mul, o_neg, q_add, q_sub, q_mul, q_neg, o_32, cast_s, Int.toNat_natCast, hb, hi10, en, es, o_lt (a := (i : Int)) (b := (n : Int)) (by omega), g, show i + 13 < 27 by omega, o_ixn (j := i) (n := 10) (by omega), o_tnn (j := i) (by omega), o_eq (a := α (B9 i 1)) (b := 0) (by omega), hx, ih']
    · simp only [hx, if_false] at ih'
      simp only [w39_0, w39_1, w39_2, w39_3, w39_5, w39_6, w39_9, w39_12, w39_13, w39_16, w39_17, w39_18, w39_21, w39_24, w39_27, w39_30, w39_33, w39_34, kn_s, kn_n, zh_mk, zR_mk, zI_mk, zL_mk, zD_mk, wI_mk, wL_mk, wD_mk, zT_mk, zC_mk, kill_i, kill_r, kill_0, kill_n, kill_l, kill_q, zzk_r, zzk_0, zzk_q, zcat_r, zcat_i, zcat_0, zcat_q, cats_0, cats_i, cats_r, cats_l, cats_d, cats_f, cats_q, cats_n, rv_s, rv_0, Nat.reduceAdd, Nat.reduceLeDiff, Nat.reduceEqDiff, Nat.add_zero, Nat.reduceMul, Nat.reduceSub, ne_eq, not_false_eq_true, not_true_eq_false, and_self, and_true, true_and, or_self, or_true, true_or, or_false, false_or, if_true, if_false, reduceIte, reduceCtorEq, implies_true, ite_self, ite_not, lay_in, lay_0, up2_lay, up2_lay0, kh0, kh1, kh2, kh3, kh4, kh5, kh6, kh7, kh8, kh9, kh10, kh11, kh12, khB, khP, kr2, kr4, kr5, kr7, kr8, kr9, kr10, krB, krP, krG0, krG1, krG2, krG3, krK, Nat.reduceLT, o_add, o_sub, o_mul, o_neg, q_add, q_sub, q_mul, q_neg, o_32, cast_s, Int.toNat_natCast, hb, hi10, en, es, o_lt (a := (i : Int)) (b := (n : Int)) (by omega), g, show i + 13 < 27 by omega, o_ixn (j := i) (n := 10) (by omega), o_tnn (j := i) (by omega), o_eq (a := α (B9 i 1)) (b := 0) (by omega), hx, ih']
theorem c39 (hb : LB b) (hR : RL ℓ μ α n m o) (hG : GA α n m o) : Wp d 39 0 [some (.ref b), none, none] [] (mk N t w (lay b ℓ I) L D) Q = Q (.inl (some (.int (Int32.ofInt (mvA α n))))) (mk N t w (lay b ℓ I) L D) := by
  have := c39_4 (d := d) (N := N) (t := t) (w := w) (I := I) (L := L) (D := D) (Q := Q) hb hR hG n 0 (by omega)
  simp only [w39_0, w39_1, w39_2, w39_3, kn_s, kn_n, zh_mk, zR_mk, zI_mk, zL_mk, zD_mk, wI_mk, wL_mk, wD_mk, zT_mk, zC_mk, kill_i, kill_r, kill_0, kill_n, kill_l, kill_q, zzk_r, zzk_0, zzk_q, zcat_r, zcat_i, zcat_0, zcat_q, cats_0, cats_i, cats_r, cats_l, cats_d, cats_f, cats_q, cats_n, rv_s, rv_0, Nat.reduceAdd, Nat.reduceLeDiff, Nat.reduceEqDiff, Nat.add_zero, Nat.reduceMul, Nat.reduceSub, ne_eq, not_false_eq_true, not_true_eq_false, and_self, and_true, true_and, or_self, or_true, true_or, or_false, false_or, if_true, if_false, reduceIte, reduceCtorEq, implies_true, ite_self, ite_not]
  exact this
theorem wtA_s {n : Nat} : wtA α n + α (B9 n 2) = wtA α (n + 1) := nr rfl
theorem pushA_s {n : Nat} : pushA α n + α (B9 n 2) * α (B9 n 1) = pushA α (n + 1) := nr rfl
theorem enA_s {n : Nat} : enA α n + α (B9 n 2) * α (B9 n 1) * α (B9 n 1) = enA α (n + 1) := nr rfl
theorem c40_4 (hb : LB b) (hR : RL ℓ μ α n m o) (hG : GA α n m o) : ∀ r i, i + r = n → Wp d 40 4 [some (.ref b), some (.int (Int32.ofInt (wtA α i))), some (.int (Int32.ofInt (i : Int)))] [] (mk N t w (lay b ℓ I) L D) Q = Q (.inl (some (.int (Int32.ofInt (wtA α n))))) (mk N t w (lay b ℓ I) L D) := by
  have h10 := hG.1.1
  have en := rd_n hR
  intro r
  induction r with
  | zero =>
    intro i hi
    obtain rfl : i = n := by omega
    have g : ¬ ((i : Int) < i) := by omega
    simp only [w40_0, w40_1, w40_2, w40_3, w40_4, w40_5, w40_6, w40_9, w40_12, w40_13, w40_14, w40_17, w40_18, w40_19, w40_22, w40_23, w40_24, w40_27, w40_30, w40_31, kn_s, kn_n, zh_mk, zR_mk, zI_mk, zL_mk, zD_mk, wI_mk, wL_mk, wD_mk, zT_mk, zC_mk, kill_i, kill_r, kill_0, kill_n, kill_l, kill_q, zzk_r, zzk_0, zzk_q, zcat_r, zcat_i, zcat_0, zcat_q, cats_0, cats_i, cats_r, cats_l, cats_d, cats_f, cats_q, cats_n, rv_s, rv_0, Nat.reduceAdd, Nat.reduceLeDiff, Nat.reduceEqDiff, Nat.add_zero, Nat.reduceMul, Nat.reduceSub, ne_eq, not_false_eq_true, not_true_eq_false, and_self, and_true, true_and, or_self, or_true, true_or, or_false, false_or, if_true, if_false, reduceIte, reduceCtorEq, implies_true, ite_self, ite_not, lay_in, lay_0, up2_lay, up2_lay0, kh0, kh1, kh2, kh3, kh4, kh5, kh6, kh7, kh8, kh9, kh10, kh11, kh12, khB, khP, kr2, kr4, kr5, kr7, kr8, kr9, kr10, krB, krP, krG0, krG1, krG2, krG3, krK, Nat.reduceLT, o_add, o_sub, o_mul, o_neg, q_add, q_sub, q_mul, q_neg, o_32, cast_s, Int.toNat_natCast, hb, en, o_lt (a := (i : Int)) (b := (i : Int)) (by omega), g]
  | succ r ih =>
    intro i hi
    have g : (i : Int) < n := by omega
    have hi10 : i < 10 := by omega
    have es := rd_w hR hG (show i < n by omega)
    rw [w40_4]
    simp only [w40_0, w40_1, w40_2, w40_3, w40_5, w40_6, w40_9, w40_12, w40_13, w40_14, w40_17, w40_18, w40_19, w40_22, w40_23, w40_24, w40_27, w40_30, w40_31, kn_s, kn_n, zh_mk, zR_mk, zI_mk, zL_mk, zD_mk, wI_mk, wL_mk, wD_mk, zT_mk, zC_mk, kill_i, kill_r, kill_0, kill_n, kill_l, kill_q, zzk_r, zzk_0, zzk_q, zcat_r, zcat_i, zcat_0, zcat_q, cats_0, cats_i, cats_r, cats_l, cats_d, cats_f, cats_q, cats_n, rv_s, rv_0, Nat.reduceAdd, Nat.reduceLeDiff, Nat.reduceEqDiff, Nat.add_zero, Nat.reduceMul, Nat.reduceSub, ne_eq, not_false_eq_true, not_true_eq_false, and_self, and_true, true_and, or_self, or_true, true_or, or_false, false_or, if_true, if_false, reduceIte, reduceCtorEq, implies_true, ite_self, ite_not, lay_in, lay_0, up2_lay, up2_lay0, kh0, kh1, kh2, kh3, kh4, kh5, kh6, kh7, kh8, kh9, kh10, kh11, kh12, khB, khP, kr2, kr4, kr5, kr7, kr8, kr9, kr10, krB, krP, krG0, krG1, krG2, krG3, krK, Nat.reduceLT, o_add, o_sub, o_mul, o_neg, q_add, q_sub, q_mul, q_neg, o_32, cast_s, Int.toNat_natCast, hb, hi10, en, es, o_lt (a := (i : Int)) (b := (n : Int)) (by omega), g, show i + 13 < 27 by omega, o_ixn (j := i) (n := 10) (by omega), o_tnn (j := i) (by omega), wtA_s, ih (i + 1) (by omega)]
theorem c40 (hb : LB b) (hR : RL ℓ μ α n m o) (hG : GA α n m o) : Wp d 40 0 [some (.ref b), none, none] [] (mk N t w (lay b ℓ I) L D) Q = Q (.inl (some (.int (Int32.ofInt (wtA α n))))) (mk N t w (lay b ℓ I) L D) := by
  have := c40_4 (d := d) (N := N) (t := t) (w := w) (I := I) (L := L) (D := D) (Q := Q) hb hR hG n 0 (by omega)
  simp only [w40_0, w40_1, w40_2, w40_3, kn_s, kn_n, zh_mk, zR_mk, zI_mk, zL_mk, zD_mk, wI_mk, wL_mk, wD_mk, zT_mk, zC_mk, kill_i, kill_r, kill_0, kill_n, kill_l, kill_q, zzk_r, zzk_0, zzk_q, zcat_r, zcat_i, zcat_0, zcat_q, cats_0, cats_i, cats_r, cats_l, cats_d, cats_f, cats_q, cats_n, rv_s, rv_0, Nat.reduceAdd, Nat.reduceLeDiff, Nat.reduceEqDiff, Nat.add_zero, Nat.reduceMul, Nat.reduceSub, ne_eq, not_false_eq_true, not_true_eq_false, and_self, and_true, true_and, or_self, or_true, true_or, or_false, false_or, if_true, if_false, reduceIte, reduceCtorEq, implies_true, ite_self, ite_not]
  exact this
theorem c41_4 (hb : LB b) (hR : RL ℓ μ α n m o) (hG : GA α n m o) : ∀ r i, i + r = n → Wp (d + 1) 41 4 [some (.ref b), some (.int (Int32.ofInt (pushA α i))), some (.int (Int32.ofInt (i : Int)))] [] (mk N t w (lay b ℓ I) L D) Q = Q (.inl (some (.int (Int32.ofInt (pushA α n))))) (mk N t w (lay b ℓ I) L D) := by
  have h10 := hG.1.1
  have en := rd_n hR
  intro r
  induction r with
  | zero =>
    intro i hi
    obtain rfl : i = n := by omega
    have g : ¬ ((i : Int) < i) := by omega
    simp only [w41_0, w41_1, w41_2, w41_3, w41_4, w41_5, w41_6, w41_9, w41_12, w41_13, w41_14, w41_17, w41_18, w41_19, w41_22, w41_23, w41_24, w41_27, w41_30, w41_31, kn_s, kn_n, zh_mk, zR_mk, zI_mk, zL_mk, zD_mk, wI_mk, wL_mk, wD_mk, zT_mk, zC_mk, kill_i, kill_r, kill_0, kill_n, kill_l, kill_q, zzk_r, zzk_0, zzk_q, zcat_r, zcat_i, zcat_0, zcat_q, cats_0, cats_i, cats_r, cats_l, cats_d, cats_f, cats_q, cats_n, rv_s, rv_0, Nat.reduceAdd, Nat.reduceLeDiff, Nat.reduceEqDiff, Nat.add_zero, Nat.reduceMul, Nat.reduceSub, ne_eq, not_false_eq_true, not_true_eq_false, and_self, and_true, true_and, or_self, or_true, true_or, or_false, false_or, if_true, if_false, reduceIte, reduceCtorEq, implies_true, ite_self, ite_not, lay_in, lay_0, up2_lay, up2_lay0, kh0, kh1, kh2, kh3, kh4, kh5, kh6, kh7, kh8, kh9, kh10, kh11, kh12, khB, khP, kr2, kr4, kr5, kr7, kr8, kr9, kr10, krB, krP, krG0, krG1, krG2, krG3, krK, Nat.reduceLT, o_add, o_sub, o_mul, o_neg, q_add, q_sub, q_mul, q_neg, o_32, cast_s, Int.toNat_natCast, hb, en, o_lt (a := (i : Int)) (b := (i : Int)) (by omega), g]
  | succ r ih =>
    intro i hi
    have g : (i : Int) < n := by omega
    have hi10 : i < 10 := by omega
    have es := rd_s hR hG (show i < n by omega)
    have ew := rd_w hR hG (show i < n by omega)
    rw [w41_4]
    simp only [w41_0, w41_1, w41_2, w41_3, w41_5, w41_6, w41_9, w41_12, w41_13, w41_14, w41_17, w41_18, w41_19, w41_22, w41_23, w41_24, w41_27, w41_30, w41_31, kn_s, kn_n, zh_mk, zR_mk, zI_mk, zL_mk, zD_mk, wI_mk, wL_mk, wD_mk, zT_mk, zC_mk, kill_i, kill_r, kill_0, kill_n, kill_l, kill_q, zzk_r, zzk_0, zzk_q, zcat_r, zcat_i, zcat_0, zcat_q, cats_0, cats_i, cats_r, cats_l, cats_d, cats_f, cats_q, cats_n, rv_s, rv_0, Nat.reduceAdd, Nat.reduceLeDiff, Nat.reduceEqDiff, Nat.add_zero, Nat.reduceMul, Nat.reduceSub, ne_eq, not_false_eq_true, not_true_eq_false, and_self, and_true, true_and, or_self, or_true, true_or, or_false, false_or, if_true, if_false, reduceIte, reduceCtorEq, implies_true, ite_self, ite_not, lay_in, lay_0, up2_lay, up2_lay0, kh0, kh1, kh2, kh3, kh4, kh5, kh6, kh7, kh8, kh9, kh10, kh11, kh12, khB, khP, kr2, kr4, kr5, kr7, kr8, kr9, kr10, krB, krP, krG0, krG1, krG2, krG3, krK, Nat.reduceLT, o_add, o_sub, o_mul, o_neg, q_add, q_sub, q_mul, q_neg, o_32, cast_s, Int.toNat_natCast, hb, hi10, en, es, ew, o_lt (a := (i : Int)) (b := (n : Int)) (by omega), g, show i + 13 < 27 by omega, o_ixn (j := i) (n := 10) (by omega), o_tnn (j := i) (by omega), c5 (khB (N := N) hb hi10), pushA_s, ih (i + 1) (by omega)]
theorem c41 (hb : LB b) (hR : RL ℓ μ α n m o) (hG : GA α n m o) : Wp (d + 1) 41 0 [some (.ref b), none, none] [] (mk N t w (lay b ℓ I) L D) Q = Q (.inl (some (.int (Int32.ofInt (pushA α n))))) (mk N t w (lay b ℓ I) L D) := by
  have := c41_4 (d := d) (N := N) (t := t) (w := w) (I := I) (L := L) (D := D) (Q := Q) hb hR hG n 0 (by omega)
  simp only [w41_0, w41_1, w41_2, w41_3, kn_s, kn_n, zh_mk, zR_mk, zI_mk, zL_mk, zD_mk, wI_mk, wL_mk, wD_mk, zT_mk, zC_mk, kill_i, kill_r, kill_0, kill_n, kill_l, kill_q, zzk_r, zzk_0, zzk_q, zcat_r, zcat_i, zcat_0, zcat_q, cats_0, cats_i, cats_r, cats_l, cats_d, cats_f, cats_q, cats_n, rv_s, rv_0, Nat.reduceAdd, Nat.reduceLeDiff, Nat.reduceEqDiff, Nat.add_zero, Nat.reduceMul, Nat.reduceSub, ne_eq, not_false_eq_true, not_true_eq_false, and_self, and_true, true_and, or_self, or_true, true_or, or_false, false_or, if_true, if_false, reduceIte, reduceCtorEq, implies_true, ite_self, ite_not]
  exact this
theorem c44_4 (hb : LB b) (hR : RL ℓ μ α n m o) (hG : GA α n m o) : ∀ r i, i + r = n → Wp (d + 1) 44 4 [some (.ref b), some (.int (Int32.ofInt (enA α i))), some (.int (Int32.ofInt (i : Int)))] [] (mk N t w (lay b ℓ I) L D) Q = Q (.inl (some (.int (Int32.ofInt (enA α n))))) (mk N t w (lay b ℓ I) L D) := by
  have h10 := hG.1.1
  have en := rd_n hR
  intro r
  induction r with
  | zero =>
    intro i hi
    obtain rfl : i = n := by omega
    have g : ¬ ((i : Int) < i) := by omega
    simp only [w44_0, w44_1, w44_2, w44_3, w44_4, w44_5, w44_6, w44_9, w44_12, w44_13, w44_14, w44_17, w44_18, w44_19, w44_22, w44_23, w44_24, w44_27, w44_30, w44_31, kn_s, kn_n, zh_mk, zR_mk, zI_mk, zL_mk, zD_mk, wI_mk, wL_mk, wD_mk, zT_mk, zC_mk, kill_i, kill_r, kill_0, kill_n, kill_l, kill_q, zzk_r, zzk_0, zzk_q, zcat_r, zcat_i, zcat_0, zcat_q, cats_0, cats_i, cats_r, cats_l, cats_d, cats_f, cats_q, cats_n, rv_s, rv_0, Nat.reduceAdd, Nat.reduceLeDiff, Nat.reduceEqDiff, Nat.add_zero, Nat.reduceMul, Nat.reduceSub, ne_eq, not_false_eq_true, not_true_eq_false, and_self, and_true, true_and, or_self, or_true, true_or, or_false, false_or, if_true, if_false, reduceIte, reduceCtorEq, implies_true, ite_self, ite_not, lay_in, lay_0, up2_lay, up2_lay0, kh0, kh1, kh2, kh3, kh4, kh5, kh6, kh7, kh8, kh9, kh10, kh11, kh12, khB, khP, kr2, kr4, kr5, kr7, kr8, kr9, kr10, krB, krP, krG0, krG1, krG2, krG3, krK, Nat.reduceLT, o_add, o_sub, o_mul, o_neg, q_add, q_sub, q_mul, q_neg, o_32, cast_s, Int.toNat_natCast, hb, en, o_lt (a := (i : Int)) (b := (i : Int)) (by omega), g]
  | succ r ih =>
    intro i hi
    have g : (i : Int) < n := by omega
    have hi10 : i < 10 := by omega
    have es := rd_s hR hG (show i < n by omega)
    have ew := rd_w hR hG (show i < n by omega)
    rw [w44_4]
    simp only [w44_0, w44_1, w44_2, w44_3, w44_5, w44_6, w44_9, w44_12, w44_13, w44_14, w44_17, w44_18, w44_19, w44_22, w44_23, w44_24, w44_27, w44_30, w44_31, kn_s, kn_n, zh_mk, zR_mk, zI_mk, zL_mk, zD_mk, wI_mk, wL_mk, wD_mk, zT_mk, zC_mk, kill_i, kill_r, kill_0, kill_n, kill_l, kill_q, zzk_r, zzk_0, zzk_q, zcat_r, zcat_i, zcat_0, zcat_q, cats_0, cats_i, cats_r, cats_l, cats_d, cats_f, cats_q, cats_n, rv_s, rv_0, Nat.reduceAdd, Nat.reduceLeDiff, Nat.reduceEqDiff, Nat.add_zero, Nat.reduceMul, Nat.reduceSub, ne_eq, not_false_eq_true, not_true_eq_false, and_self, and_true, true_and, or_self, or_true, true_or, or_false, false_or, if_true, if_false, reduceIte, reduceCtorEq, implies_true, ite_self, ite_not, lay_in, lay_0, up2_lay, up2_lay0, kh0, kh1, kh2, kh3, kh4, kh5, kh6, kh7, kh8, kh9, kh10, kh11, kh12, khB, khP, kr2, kr4, kr5, kr7, kr8, kr9, kr10, krB, krP, krG0, krG1, krG2, krG3, krK, Nat.reduceLT, o_add, o_sub, o_mul, o_neg, q_add, q_sub, q_mul, q_neg, o_32, cast_s, Int.toNat_natCast, hb, hi10, en, es, ew, o_lt (a := (i : Int)) (b := (n : Int)) (by omega), g, show i + 13 < 27 by omega, o_ixn (j := i) (n := 10) (by omega), o_tnn (j := i) (by omega), c8 (khB (N := N) hb hi10), enA_s, ih (i + 1) (by omega)]
theorem c44 (hb : LB b) (hR : RL ℓ μ α n m o) (hG : GA α n m o) : Wp (d + 1) 44 0 [some (.ref b), none, none] [] (mk N t w (lay b ℓ I) L D) Q = Q (.inl (some (.int (Int32.ofInt (enA α n))))) (mk N t w (lay b ℓ I) L D) := by
  have := c44_4 (d := d) (N := N) (t := t) (w := w) (I := I) (L := L) (D := D) (Q := Q) hb hR hG n 0 (by omega)
  simp only [w44_0, w44_1, w44_2, w44_3, kn_s, kn_n, zh_mk, zR_mk, zI_mk, zL_mk, zD_mk, wI_mk, wL_mk, wD_mk, zT_mk, zC_mk, kill_i, kill_r, kill_0, kill_n, kill_l, kill_q, zzk_r, zzk_0, zzk_q, zcat_r, zcat_i, zcat_0, zcat_q, cats_0, cats_i, cats_r, cats_l, cats_d, cats_f, cats_q, cats_n, rv_s, rv_0, Nat.reduceAdd, Nat.reduceLeDiff, Nat.reduceEqDiff, Nat.add_zero, Nat.reduceMul, Nat.reduceSub, ne_eq, not_false_eq_true, not_true_eq_false, and_self, and_true, true_and, or_self, or_true, true_or, or_false, false_or, if_true, if_false, reduceIte, reduceCtorEq, implies_true, ite_self, ite_not]
  exact this
theorem pushA_b (hG : GA α n m o) : -12000 ≤ pushA α n ∧ pushA α n ≤ 12000 := by
  have h1 := sumN_b (f := fun i => α (B9 i 2) * α (B9 i 1)) (B := 1200) n (fun i hi => (push_b (hG.1.2.2.2.2 i hi).2.2.1 (hG.1.2.2.2.2 i hi).2.1).1)
  have h2 := hG.1.1
  unfold pushA
  omega
theorem c42 (hb : LB b) (hR : RL ℓ μ α n m o) (hG : GA α n m o) {B : Int} (hB : -100000 ≤ B ∧ B ≤ 100000) : Wp (d + 2) 42 0 [some (.ref b), some (.int (Int32.ofInt B))] [] (mk N t w (lay b ℓ I) (lay b μ L) D) Q = Q (.inl none) (mk N t w (lay b ℓ I) (lay b (up2 μ 11 3 (Int64.ofInt (α 7 + (pushA α n - B)))) L) D) := by
  have h1 := pushA_b hG
  have e7 : μ 11 3 = Int64.ofInt (α 7) := hR.2.2.1.2.2
  simp only [w42_0, w42_1, w42_4, w42_5, w42_8, w42_9, w42_12, w42_13, w42_14, w42_15, w42_16, w42_19, kn_s, kn_n, zh_mk, zR_mk, zI_mk, zL_mk, zD_mk, wI_mk, wL_mk, wD_mk, zT_mk, zC_mk, kill_i, kill_r, kill_0, kill_n, kill_l, kill_q, zzk_r, zzk_0, zzk_q, zcat_r, zcat_i, zcat_0, zcat_q, cats_0, cats_i, cats_r, cats_l, cats_d, cats_f, cats_q, cats_n, rv_s, rv_0, Nat.reduceAdd, Nat.reduceLeDiff, Nat.reduceEqDiff, Nat.add_zero, Nat.reduceMul, Nat.reduceSub, ne_eq, not_false_eq_true, not_true_eq_false, and_self, and_true, true_and, or_self, or_true, true_or, or_false, false_or, if_true, if_false, reduceIte, reduceCtorEq, implies_true, ite_self, ite_not, lay_in, lay_0, up2_lay, up2_lay0, kh0, kh1, kh2, kh3, kh4, kh5, kh6, kh7, kh8, kh9, kh10, kh11, kh12, khB, khP, kr2, kr4, kr5, kr7, kr8, kr9, kr10, krB, krP, krG0, krG1, krG2, krG3, krK, Nat.reduceLT, o_add, o_sub, o_mul, o_neg, q_add, q_sub, q_mul, q_neg, o_32, cast_s, Int.toNat_natCast, hb, c41 hb hR hG, e7, o_64 (z := pushA α n - B) (by omega)]
/-- the ball of a name -/
def nmF (α : Nat → Int) (n : Nat) (z : Int) : Int := if z = 0 then -1 else pFind (fun i => α (B9 i 8)) z n 0
theorem c29_2 (hb : LB b) (hR : RL ℓ μ α n m o) (hG : GA α n m o) (hN : ∀ i, i < n → 0 ≤ α (B9 i 8) ∧ α (B9 i 8) < 2147483648) {c : Int} (hc : -2147483648 ≤ c ∧ c < 2147483648) (hz : c ≠ 0) : ∀ r i, i + r = n → Wp d 29 2 [some (.ref b), some (.int (Int32.ofInt c)), some (.int (Int32.ofInt (i : Int)))] [] (mk N t w (lay b ℓ I) L D) Q = Q (.inl (some (.int (Int32.ofInt (pFind (fun i => α (B9 i 8)) c r i))))) (mk N t w (lay b ℓ I) L D) := by
  have h10 := hG.1.1
  have en := rd_n hR
  intro r
  induction r with
  | zero =>
    intro i hi
    have g : ¬ ((i : Int) < n) := by omega
    simp only [w29_0, w29_1, w29_2, w29_3, w29_4, w29_7, w29_10, w29_11, w29_14, w29_15, w29_18, w29_19, w29_20, w29_23, w29_24, w29_27, w29_28, w29_29, w29_32, w29_35, w29_36, kn_s, kn_n, zh_mk, zR_mk, zI_mk, zL_mk, zD_mk, wI_mk, wL_mk, wD_mk, zT_mk, zC_mk, kill_i, kill_r, kill_0, kill_n, kill_l, kill_q, zzk_r, zzk_0, zzk_q, zcat_r, zcat_i, zcat_0, zcat_q, cats_0, cats_i, cats_r, cats_l, cats_d, cats_f, cats_q, cats_n, rv_s, rv_0, Nat.reduceAdd, Nat.reduceLeDiff, Nat.reduceEqDiff, Nat.add_zero, Nat.reduceMul, Nat.reduceSub, ne_eq, not_false_eq_true, not_true_eq_false, and_self, and_true, true_and, or_self, or_true, true_or, or_false, false_or, if_true, if_false, reduceIte, reduceCtorEq, implies_true, ite_self, ite_not, lay_in, lay_0, up2_lay, up2_lay0, kh0, kh1, kh2, kh3, kh4, kh5, kh6, kh7, kh8, kh9, kh10, kh11, kh12, khB, khP, kr2, kr4, kr5, kr7, kr8, kr9, kr10, krB, krP, krG0, krG1, krG2, krG3, krK, Nat.reduceLT, o_add, o_sub, o_mul, o_neg, q_add, q_sub, q_mul, q_neg, o_32, cast_s, Int.toNat_natCast, hb, en, o_lt (a := (i : Int)) (b := (n : Int)) (by omega), g, pFind_0]
  | succ r ih =>
    intro i hi
    have g : (i : Int) < n := by omega
    have hi10 : i < 10 := by omega
    have ec := rd_nm hR hG (show i < n by omega)
    have gi := hN i (by omega)
    rw [w29_2]
    by_cases hx : α (B9 i 8) = c
    · simp only [w29_0, w29_1, w29_3, w29_4, w29_7, w29_10, w29_11, w29_14, w29_15, w29_18, w29_19, w29_20, w29_23, w29_24, w29_27, w29_28, w29_29, w29_32, w29_35, w29_36, kn_s, kn_n, zh_mk, zR_mk, zI_mk, zL_mk, zD_mk, wI_mk, wL_mk, wD_mk, zT_mk, zC_mk, kill_i, kill_r, kill_0, kill_n, kill_l, kill_q, zzk_r, zzk_0, zzk_q, zcat_r, zcat_i, zcat_0, zcat_q, cats_0, cats_i, cats_r, cats_l, cats_d, cats_f, cats_q, cats_n, rv_s, rv_0, Nat.reduceAdd, Nat.reduceLeDiff, Nat.reduceEqDiff, Nat.add_zero, Nat.reduceMul, Nat.reduceSub, ne_eq, not_false_eq_true, not_true_eq_false, and_self, and_true, true_and, or_self, or_true, true_or, or_false, false_or, if_true, if_false, reduceIte, reduceCtorEq, implies_true, ite_self, ite_not, lay_in, lay_0, up2_lay, up2_lay0, kh0, kh1, kh2, kh3, kh4, kh5, kh6, kh7, kh8, kh9, kh10, kh11, kh12, khB, khP, kr2, kr4, kr5, kr7, kr8, kr9, kr10, krB, krP, krG0, krG1, krG2, krG3, krK, Nat.reduceLT, o_add, o_sub, o_mul, o_neg, q_add, q_sub, q_mul, q_neg, o_32, cast_s, Int.toNat_natCast, hb, hi10, en, ec, o_lt (a := (i : Int)) (b := (n : Int)) (by omega), g, show i + 13 < 27 by omega, o_ixn (j := i) (n := 10) (by omega), o_tnn (j := i) (by omega), o_eq (a := c) (b := 0) (by omega), hz, o_eq (a := α (B9 i 8)) (b := c) (by omega), hx, pFind_s]
    · simp only [w29_0, w29_1, w29_3, w29_4, w29_7, w29_10, w29_11, w29_14, w29_15, w29_18, w29_19, w29_20, w29_23, w29_24, w29_27, w29_28, w29_29, w29_32, w29_35, w29_36, kn_s, kn_n, zh_mk, zR_mk, zI_mk, zL_mk, zD_mk, wI_mk, wL_mk, wD_mk, zT_mk, zC_mk, kill_i, kill_r, kill_0, kill_n, kill_l, kill_q, zzk_r, zzk_0, zzk_q, zcat_r, zcat_i, zcat_0, zcat_q, cats_0, cats_i, cats_r, cats_l, cats_d, cats_f, cats_q, cats_n, rv_s, rv_0, Nat.reduceAdd, Nat.reduceLeDiff, Nat.reduceEqDiff, Nat.add_zero, Nat.reduceMul, Nat.reduceSub, ne_eq, not_false_eq_true, not_true_eq_false, and_self, and_true, true_and, or_self, or_true, true_or, or_false, false_or, if_true, if_false, reduceIte, reduceCtorEq, implies_true, ite_self, ite_not, lay_in, lay_0, up2_lay, up2_lay0, kh0, kh1, kh2, kh3, kh4, kh5, kh6, kh7, kh8, kh9, kh10, kh11, kh12, khB, khP, kr2, kr4, kr5, kr7, kr8, kr9, kr10, krB, krP, krG0, krG1, krG2, krG3, krK, Nat.reduceLT, o_add, o_sub, o_mul, o_neg, q_add, q_sub, q_mul, q_neg, o_32, cast_s, Int.toNat_natCast, hb, hi10, en, ec, o_lt (a := (i : Int)) (b := (n : Int)) (by omega), g, show i + 13 < 27 by omega, o_ixn (j := i) (n := 10) (by omega), o_tnn (j := i) (by omega), o_eq (a := c) (b := 0) (by omega), hz, o_eq (a := α (B9 i 8)) (b := c) (by omega), hx, pFind_s, ih (i + 1) (by omega)]
theorem c29 (hb : LB b) (hR : RL ℓ μ α n m o) (hG : GA α n m o) (hN : ∀ i, i < n → 0 ≤ α (B9 i 8) ∧ α (B9 i 8) < 2147483648) {c : Int} (hc : -2147483648 ≤ c ∧ c < 2147483648) : Wp d 29 0 [some (.ref b), some (.int (Int32.ofInt c)), none] [] (mk N t w (lay b ℓ I) L D) Q = Q (.inl (some (.int (Int32.ofInt (nmF α n c))))) (mk N t w (lay b ℓ I) L D) := by
  unfold nmF
  by_cases hz : c = 0
  · subst hz
    have en := rd_n hR
    have h10 := hG.1.1
    by_cases hn : (0 : Int) < n
    · simp only [w29_0, w29_1, w29_2, w29_3, w29_4, w29_7, w29_10, w29_11, w29_14, w29_15, w29_18, w29_19, w29_20, w29_23, w29_24, w29_27, w29_28, w29_29, w29_32, w29_35, w29_36, kn_s, kn_n, zh_mk, zR_mk, zI_mk, zL_mk, zD_mk, wI_mk, wL_mk, wD_mk, zT_mk, zC_mk, kill_i, kill_r, kill_0, kill_n, kill_l, kill_q, zzk_r, zzk_0, zzk_q, zcat_r, zcat_i, zcat_0, zcat_q, cats_0, cats_i, cats_r, cats_l, cats_d, cats_f, cats_q, cats_n, rv_s, rv_0, Nat.reduceAdd, Nat.reduceLeDiff, Nat.reduceEqDiff, Nat.add_zero, Nat.reduceMul, Nat.reduceSub, ne_eq, not_false_eq_true, not_true_eq_false, and_self, and_true, true_and, or_self, or_true, true_or, or_false, false_or, if_true, if_false, reduceIte, reduceCtorEq, implies_true, ite_self, ite_not, lay_in, lay_0, up2_lay, up2_lay0, kh0, kh1, kh2, kh3, kh4, kh5, kh6, kh7, kh8, kh9, kh10, kh11, kh12, khB, khP, kr2, kr4, kr5, kr7, kr8, kr9, kr10, krB, krP, krG0, krG1, krG2, krG3, krK, Nat.reduceLT, o_add, o_sub, o_mul, o_neg, q_add, q_sub, q_mul, q_neg, o_32, cast_s, Int.toNat_natCast, hb, en, o_lt (a := 0) (b := (n : Int)) (by omega), hn]
    · simp only [w29_0, w29_1, w29_2, w29_3, w29_4, w29_7, w29_10, w29_11, w29_14, w29_15, w29_18, w29_19, w29_20, w29_23, w29_24, w29_27, w29_28, w29_29, w29_32, w29_35, w29_36, kn_s, kn_n, zh_mk, zR_mk, zI_mk, zL_mk, zD_mk, wI_mk, wL_mk, wD_mk, zT_mk, zC_mk, kill_i, kill_r, kill_0, kill_n, kill_l, kill_q, zzk_r, zzk_0, zzk_q, zcat_r, zcat_i, zcat_0, zcat_q, cats_0, cats_i, cats_r, cats_l, cats_d, cats_f, cats_q, cats_n, rv_s, rv_0, Nat.reduceAdd, Nat.reduceLeDiff, Nat.reduceEqDiff, Nat.add_zero, Nat.reduceMul, Nat.reduceSub, ne_eq, not_false_eq_true, not_true_eq_false, and_self, and_true, true_and, or_self, or_true, true_or, or_false, false_or, if_true, if_false, reduceIte, reduceCtorEq, implies_true, ite_self, ite_not, lay_in, lay_0, up2_lay, up2_lay0, kh0, kh1, kh2, kh3, kh4, kh5, kh6, kh7, kh8, kh9, kh10, kh11, kh12, khB, khP, kr2, kr4, kr5, kr7, kr8, kr9, kr10, krB, krP, krG0, krG1, krG2, krG3, krK, Nat.reduceLT, o_add, o_sub, o_mul, o_neg, q_add, q_sub, q_mul, q_neg, o_32, cast_s, Int.toNat_natCast, hb, en, o_lt (a := 0) (b := (n : Int)) (by omega), hn]
  · have := c29_2 (d := d) (N := N) (t := t) (w := w) (I := I) (L := L) (D := D) (Q := Q) hb hR hG hN hc hz n 0 (by omega)
    simp only [w29_0, w29_1, kn_s, kn_n, zh_mk, zR_mk, zI_mk, zL_mk, zD_mk, wI_mk, wL_mk, wD_mk, zT_mk, zC_mk, kill_i, kill_r, kill_0, kill_n, kill_l, kill_q, zzk_r, zzk_0, zzk_q, zcat_r, zcat_i, zcat_0, zcat_q, cats_0, cats_i, cats_r, cats_l, cats_d, cats_f, cats_q, cats_n, rv_s, rv_0, Nat.reduceAdd, Nat.reduceLeDiff, Nat.reduceEqDiff, Nat.add_zero, Nat.reduceMul, Nat.reduceSub, ne_eq, not_false_eq_true, not_true_eq_false, and_self, and_true, true_and, or_self, or_true, true_or, or_false, false_or, if_true, if_false, reduceIte, reduceCtorEq, implies_true, ite_self, ite_not, hz]
    exact this
end S54
