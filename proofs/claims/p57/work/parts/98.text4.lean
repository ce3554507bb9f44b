/-! THE TEXT, 4: a number is appended -/
def dl (n : Int) : Nat := if n < 0 then (if n ≤ -10 then 3 else 2) else if n < 10 then 1 else if n < 100 then 2 else 3
def decP (m : Int) : List Int := if m < 10 then [48 + m] else if m < 100 then [48 + m / 10, 48 + m % 10] else [49, 48 + (m - 100) / 10, 48 + (m - 100) % 10]
/-- a number from -99 to 199 in decimal digits -/
def dec (n : Int) : List Int := if n < 0 then 45 :: decP (-n) else decP n
theorem dec_l {n : Int} (h : -99 ≤ n ∧ n ≤ 199) : (dec n).length = dl n := by
  unfold dec decP dl
  (repeat' split) <;> first | rfl | omega
theorem dec_a {n : Int} (h : -99 ≤ n ∧ n ≤ 199) : asc (dec n) := by
  intro x hx
  unfold dec decP at hx
  (repeat' split at hx) <;> simp only [List.mem_cons, List.not_mem_nil, or_false] at hx <;> omega
theorem dl_le {n : Int} : 1 ≤ dl n ∧ dl n ≤ 3 := by
  unfold dl
  (repeat' split) <;> omega
section S98
variable {N : NX} {w : WX} {d t B v cap p : Nat} {T : List Int} {I : Nat → Nat → Int32} {L : Nat → Nat → Int64} {D : Nat → Nat → UInt64} {Q : Rs → St → Prop}
theorem c181_y {x dd p i : Int} {σ : St} (h : -2147483648 ≤ x ∧ x < 2147483648 ∧ -1000 ≤ p ∧ p < 0 ∧ 0 ≤ i ∧ i < 10 ∧ p < x) : Wp d 181 16 [some (.int (Int32.ofInt x)), some (.int (Int32.ofInt dd)), some (.int (Int32.ofInt p)), some (.int (Int32.ofInt i))] [] σ Q = Q (.inl (some (.int (Int32.ofInt (i + dd))))) σ := by
  rw [w181_16]
  simp only [w181_0, w181_1, w181_2, w181_3, w181_6, w181_7, w181_8, w181_9, w181_10, w181_11, w181_13, w181_14, w181_15, w181_17, w181_19, w181_22, w181_23, w181_24, w181_27, w181_28, w181_29, w181_30, w181_31, w181_33, w181_34, w181_35, w181_36, w181_42, w181_44, w181_45, w181_46, kn_s, kn_n, zh_mk, zR_mk, zI_mk, zL_mk, zD_mk, wI_mk, wL_mk, wD_mk, zT_mk, zC_mk, kill_i, kill_r, kill_0, kill_n, kill_l, kill_q, zzk_r, zzk_0, zzk_q, zcat_r, zcat_i, zcat_0, zcat_q, cats_0, cats_i, cats_r, cats_l, cats_d, cats_f, cats_q, cats_n, rv_s, rv_0, Nat.reduceAdd, Nat.reduceLeDiff, Nat.reduceEqDiff, Nat.add_zero, Nat.reduceMul, Nat.reduceSub, ne_eq, not_false_eq_true, not_true_eq_false, and_self, and_true, true_and, or_self, or_true, true_or, or_false, false_or, if_true, if_false, reduceIte, reduceCtorEq, implies_true, ite_self, ite_not, o_add, o_sub, o_mul, o_neg, q_add, q_sub, q_mul, q_neg, o_32, cast_s, o_lt (a := i) (b := 10) (by omega), h.2.2.2.2.2.1, o_lt (a := p) (b := x) (by omega), h.2.2.2.2.2.2]
theorem c181_n {x dd p i p' i' : Int} {σ : St} (h : -2147483648 ≤ x ∧ x < 2147483648 ∧ -1000 ≤ p ∧ p < 0 ∧ 0 ≤ i ∧ i < 10 ∧ ¬ (p < x)) (hp : 10 * p = p') (hi : i + 1 = i') : Wp d 181 16 [some (.int (Int32.ofInt x)), some (.int (Int32.ofInt dd)), some (.int (Int32.ofInt p)), some (.int (Int32.ofInt i))] [] σ Q = Wp d 181 16 [some (.int (Int32.ofInt x)), some (.int (Int32.ofInt dd)), some (.int (Int32.ofInt p')), some (.int (Int32.ofInt i'))] [] σ Q := by
  rw [w181_16]
  simp only [w181_0, w181_1, w181_2, w181_3, w181_6, w181_7, w181_8, w181_9, w181_10, w181_11, w181_13, w181_14, w181_15, w181_17, w181_19, w181_22, w181_23, w181_24, w181_27, w181_28, w181_29, w181_30, w181_31, w181_33, w181_34, w181_35, w181_36, w181_39, w181_42, w181_44, w181_45, w181_46, kn_s, kn_n, zh_mk, zR_mk, zI_mk, zL_mk, zD_mk, wI_mk, wL_mk, wD_mk, zT_mk, zC_mk, kill_i, kill_r, kill_0, kill_n, kill_l, kill_q, zzk_r, zzk_0, zzk_q, zcat_r, zcat_i, zcat_0, zcat_q, cats_0, cats_i, cats_r, cats_l, cats_d, cats_f, cats_q, cats_n, rv_s, rv_0, Nat.reduceAdd, Nat.reduceLeDiff, Nat.reduceEqDiff, Nat.add_zero, Nat.reduceMul, Nat.reduceSub, ne_eq, not_false_eq_true, not_true_eq_false, and_self, and_true, true_and, or_self, or_true, true_or, or_false, false_or, if_true, if_false, reduceIte, reduceCtorEq, implies_true, ite_self, ite_not, o_add, o_sub, o_mul, o_neg, q_add, q_sub, q_mul, q_neg, o_32, cast_s, o_lt (a := i) (b := 10) (by omega), h.2.2.2.2.2.1, o_lt (a := p) (b := x) (by omega), h.2.2.2.2.2.2, hp, hi]
theorem c181 {n : Int} {σ : St} (h : -99 ≤ n ∧ n ≤ 199) : Wp d 181 0 [some (.int (Int32.ofInt n)), none, none, none] [] σ Q = Q (.inl (some (.int (Int32.ofInt (dl n : Int))))) σ := by
  unfold dl
  by_cases h0 : n < 0
  · simp only [w181_0, w181_1, w181_2, w181_3, w181_6, w181_7, w181_8, w181_9, w181_10, w181_11, w181_13, w181_14, w181_15, w181_17, w181_19, w181_22, w181_23, w181_24, w181_27, w181_28, w181_29, w181_30, w181_31, w181_33, w181_34, w181_35, w181_36, w181_39, w181_42, w181_44, w181_45, w181_46, kn_s, kn_n, zh_mk, zR_mk, zI_mk, zL_mk, zD_mk, wI_mk, wL_mk, wD_mk, zT_mk, zC_mk, kill_i, kill_r, kill_0, kill_n, kill_l, kill_q, zzk_r, zzk_0, zzk_q, zcat_r, zcat_i, zcat_0, zcat_q, cats_0, cats_i, cats_r, cats_l, cats_d, cats_f, cats_q, cats_n, rv_s, rv_0, Nat.reduceAdd, Nat.reduceLeDiff, Nat.reduceEqDiff, Nat.add_zero, Nat.reduceMul, Nat.reduceSub, ne_eq, not_false_eq_true, not_true_eq_false, and_self, and_true, true_and, or_self, or_true, true_or, or_false, false_or, if_true, if_false, reduceIte, reduceCtorEq, implies_true, ite_self, ite_not, o_add, o_sub, o_mul, o_neg, q_add, q_sub, q_mul, q_neg, o_32, cast_s, o_lt (a := n) (b := 0) (by omega), h0]
    by_cases h1 : n ≤ -10
    · rw [if_pos h1, c181_n (p' := -100) (i' := 2) (by omega) (by rfl) (by rfl), c181_y (by omega)]
      rfl
    · rw [if_neg h1, c181_y (by omega)]
      rfl
  · simp only [w181_0, w181_1, w181_2, w181_3, w181_6, w181_7, w181_8, w181_9, w181_10, w181_11, w181_13, w181_14, w181_15, w181_17, w181_19, w181_22, w181_23, w181_24, w181_27, w181_28, w181_29, w181_30, w181_31, w181_33, w181_34, w181_35, w181_36, w181_39, w181_42, w181_44, w181_45, w181_46, kn_s, kn_n, zh_mk, zR_mk, zI_mk, zL_mk, zD_mk, wI_mk, wL_mk, wD_mk, zT_mk, zC_mk, kill_i, kill_r, kill_0, kill_n, kill_l, kill_q, zzk_r, zzk_0, zzk_q, zcat_r, zcat_i, zcat_0, zcat_q, cats_0, cats_i, cats_r, cats_l, cats_d, cats_f, cats_q, cats_n, rv_s, rv_0, Nat.reduceAdd, Nat.reduceLeDiff, Nat.reduceEqDiff, Nat.add_zero, Nat.reduceMul, Nat.reduceSub, ne_eq, not_false_eq_true, not_true_eq_false, and_self, and_true, true_and, or_self, or_true, true_or, or_false, false_or, if_true, if_false, reduceIte, reduceCtorEq, implies_true, ite_self, ite_not, o_add, o_sub, o_mul, o_neg, q_add, q_sub, q_mul, q_neg, o_32, cast_s, o_lt (a := n) (b := 0) (by omega), h0]
    by_cases h1 : n < 10
    · rw [if_pos h1, c181_y (by omega)]
      rfl
    · rw [if_neg h1, c181_n (p' := -100) (i' := 2) (by omega) (by rfl) (by rfl)]
      by_cases h2 : n < 100
      · rw [if_pos h2, c181_y (by omega)]
        rfl
      · rw [if_neg h2, c181_n (p' := -1000) (i' := 3) (by omega) (by rfl) (by rfl), c181_y (by omega)]
        rfl
theorem dg1 {r : Int} (h : 0 ≤ r ∧ r < 100) : kdg 18 (Int32.ofInt r).toNatClampNeg = Int32.ofInt (48 + r % 10) := by
  obtain ⟨k, rfl⟩ : ∃ k : Nat, r = (k : Int) := ⟨r.toNat, by omega⟩
  rw [o_tnn (by omega)]
  have : ∀ k : Nat, k < 100 → kdg 18 k = Int32.ofInt (48 + ((k : Nat) : Int) % 10) := by decide +kernel
  exact this k (by omega)
theorem dg2 {r : Int} (h : 0 ≤ r ∧ r < 100) : kdg 19 (Int32.ofInt r).toNatClampNeg = Int32.ofInt (48 + r / 10) := by
  obtain ⟨k, rfl⟩ : ∃ k : Nat, r = (k : Int) := ⟨r.toNat, by omega⟩
  rw [o_tnn (by omega)]
  have : ∀ k : Nat, k < 100 → kdg 19 k = Int32.ofInt (48 + ((k : Nat) : Int) / 10) := by decide +kernel
  exact this k (by omega)
theorem kf18 {j : Nat} : kfn 18 j = kdg 18 j := rfl
theorem kf19 {j : Nat} : kfn 19 j = kdg 19 j := rfl
theorem kl18 : kle 18 = 100 := rfl
theorem kl19 : kle 19 = 100 := rfl
theorem wl1 {I : Nat → Nat → Int32} {f : Nat → Int32} {v p : Nat} {z0 : Int32} (h0 : f 0 = z0) : up2 I v p z0 = cpk I f v 0 p 1 := by
  funext a j
  unfold up2 cpk va_cpy
  by_cases ha : a = v
  · simp only [ha, true_and, if_true]
    by_cases hj : j = p
    · rw [if_pos hj, if_pos (by omega), ← h0, show 0 + (j - p) = 0 by omega]
    · rw [if_neg hj, if_neg (by omega)]
  · simp only [ha, false_and, if_false]
theorem wl2 {I : Nat → Nat → Int32} {f : Nat → Int32} {v p : Nat} {z0 z1 : Int32} (h0 : f 0 = z0) (h1 : f 1 = z1) : up2 (up2 I v (p + 1) z1) v p z0 = cpk I f v 0 p 2 := by
  funext a j
  unfold up2 cpk va_cpy
  by_cases ha : a = v
  · simp only [ha, true_and, if_true]
    by_cases hj : j = p
    · rw [if_pos hj, if_pos (by omega), ← h0, show 0 + (j - p) = 0 by omega]
    · rw [if_neg hj]
      by_cases hj2 : j = p + 1
      · rw [if_pos hj2, if_pos (by omega), ← h1, show 0 + (j - p) = 1 by omega]
      · rw [if_neg hj2, if_neg (by omega)]
  · simp only [ha, false_and, if_false]
theorem wl3 {I : Nat → Nat → Int32} {f : Nat → Int32} {v p : Nat} {z0 z1 z2 : Int32} (h0 : f 0 = z0) (h1 : f 1 = z1) (h2 : f 2 = z2) : up2 (up2 (up2 I v (p + 2) z2) v (p + 1) z1) v p z0 = cpk I f v 0 p 3 := by
  funext a j
  unfold up2 cpk va_cpy
  by_cases ha : a = v
  · simp only [ha, true_and, if_true]
    by_cases hj : j = p
    · rw [if_pos hj, if_pos (by omega), ← h0, show 0 + (j - p) = 0 by omega]
    · rw [if_neg hj]
      by_cases hj2 : j = p + 1
      · rw [if_pos hj2, if_pos (by omega), ← h1, show 0 + (j - p) = 1 by omega]
      · rw [if_neg hj2]
        by_cases hj3 : j = p + 2
        · rw [if_pos hj3, if_pos (by omega), ← h2, show 0 + (j - p) = 2 by omega]
        · rw [if_neg hj3, if_neg (by omega)]
  · simp only [ha, false_and, if_false]
def dcf (n : Int) (j : Nat) : Int32 := Int32.ofInt ((dec n).getD j 0)
theorem c182 {n : Int} (h : -99 ≤ n ∧ n ≤ 199) (hk : KH N v = (13, cap)) (hp : p + dl n ≤ cap ∧ cap ≤ 700) : Wp d 182 0 [some (.int (Int32.ofInt n)), some (.int (Int32.ofInt ((p + dl n : Nat) : Int))), some (.ref v), none, none, none, none] [] (mk N t w I L D) Q = Q (.inl (some (.int (Int32.ofInt (p : Int))))) (mk N t w (cpk I (dcf n) v 0 p (dl n)) L D) := by
  have e1 : ((p + 1 : Nat) : Int) + -1 = (p : Int) := by omega
  have e2 : ((p + 2 : Nat) : Int) + -1 = ((p + 1 : Nat) : Int) := by omega
  have e3 : ((p + 3 : Nat) : Int) + -1 = ((p + 2 : Nat) : Int) := by omega
  by_cases h0 : n < 0
  · by_cases h1 : n ≤ -10
    · have hd : dl n = 3 := by unfold dl; rw [if_pos h0, if_pos h1]
      rw [hd] at hp ⊢
      have g1 : -100 < n := by omega
      have g2 : n < -9 := by omega
      rw [← wl3 (z0 := Int32.ofInt 45) (z1 := Int32.ofInt (48 + (-n) / 10)) (z2 := Int32.ofInt (48 + (-n) % 10)) (by unfold dcf dec; rw [if_pos h0]; rfl) (by unfold dcf dec decP; rw [if_pos h0, if_neg (by omega), if_pos (by omega)]; rfl) (by unfold dcf dec decP; rw [if_pos h0, if_neg (by omega), if_pos (by omega)]; rfl)]
      simp only [w182_0, w182_1, w182_3, w182_4, w182_7, w182_8, w182_11, w182_12, w182_14, w182_16, w182_19, w182_20, w182_21, w182_23, w182_25, w182_28, w182_29, w182_31, w182_32, w182_33, w182_34, w182_36, w182_37, w182_38, w182_39, w182_41, w182_42, w182_43, w182_44, w182_47, w182_49, w182_52, w182_54, w182_54q, w182_55, w182_56, w182_57, w182_60, w182_62, w182_65, w182_67, w182_67q, w182_68, w182_69, w182_72, w182_73, w182_76, w182_78, w182_81, w182_82, w182_83, w182_83q, w182_84, w182_85, w182_86, w182_88, w182_91, w182_92, w182_95, w182_97, w182_100, w182_101, w182_102, w182_102q, w182_103, w182_104, w182_106, w182_109, w182_110, w182_113, w182_115, w182_117, w182_118, w182_120, w182_22, kn_s, kn_n, zh_mk, zR_mk, zI_mk, zL_mk, zD_mk, wI_mk, wL_mk, wD_mk, zT_mk, zC_mk, kill_i, kill_r, kill_0, kill_n, kill_l, kill_q, zzk_r, zzk_0, zzk_q, zcat_r, zcat_i, zcat_0, zcat_q, cats_0, cats_i, cats_r, cats_l, cats_d, cats_f, cats_q, cats_n, rv_s, rv_0, Nat.reduceAdd, Nat.reduceLeDiff, Nat.reduceEqDiff, Nat.add_zero, Nat.reduceMul, Nat.reduceSub, ne_eq, not_false_eq_true, not_true_eq_false, and_self, and_true, true_and, or_self, or_true, true_or, or_false, false_or, if_true, if_false, reduceIte, reduceCtorEq, implies_true, ite_self, ite_not, o_add, o_sub, o_mul, o_neg, q_add, q_sub, q_mul, q_neg, o_32, cast_s, o_lt (a := n) (b := 0) (by omega), h0, o_lt (a := -100) (b := n) (by omega), g1, o_lt (a := n) (b := -9) (by omega), g2, e3, e2, e1, i10, hk, kf18, kf19, kl18, kl19, dg1 (r := -n) (by omega), dg2 (r := -n) (by omega), o_ix (z := -n) (n := 100) (by omega), o_ixn (j := p + 2) (n := cap) (by omega), o_ixn (j := p + 1) (n := cap) (by omega), o_ixn (j := p) (n := cap) (by omega), o_tnn (j := p + 2) (by omega), o_tnn (j := p + 1) (by omega), o_tnn (j := p) (by omega), (vp_n (x := 48 + (-n) % 10) (by omega)).2, (vp_n (x := 48 + (-n) / 10) (by omega)).2, (vp_n (x := 45) (by omega)).2]
    · have hd : dl n = 2 := by unfold dl; rw [if_pos h0, if_neg h1]
      rw [hd] at hp ⊢
      have g1 : -100 < n := by omega
      have g2 : ¬ (n < -9) := by omega
      rw [← wl2 (z0 := Int32.ofInt 45) (z1 := Int32.ofInt (48 + (-n) % 10)) (by unfold dcf dec; rw [if_pos h0]; rfl) (by unfold dcf dec decP; rw [if_pos h0, if_pos (by omega)]; show Int32.ofInt (48 + -n) = _; rw [show (-n) % 10 = -n by omega])]
      simp only [w182_0, w182_1, w182_3, w182_4, w182_7, w182_8, w182_11, w182_12, w182_14, w182_16, w182_19, w182_20, w182_21, w182_23, w182_25, w182_28, w182_29, w182_31, w182_32, w182_33, w182_34, w182_36, w182_37, w182_38, w182_39, w182_41, w182_42, w182_43, w182_44, w182_47, w182_49, w182_52, w182_54, w182_54q, w182_55, w182_56, w182_57, w182_60, w182_62, w182_65, w182_67, w182_67q, w182_68, w182_69, w182_72, w182_73, w182_76, w182_78, w182_81, w182_82, w182_83, w182_83q, w182_84, w182_85, w182_86, w182_88, w182_91, w182_92, w182_95, w182_97, w182_100, w182_101, w182_102, w182_102q, w182_103, w182_104, w182_106, w182_109, w182_110, w182_113, w182_115, w182_117, w182_118, w182_120, w182_22, kn_s, kn_n, zh_mk, zR_mk, zI_mk, zL_mk, zD_mk, wI_mk, wL_mk, wD_mk, zT_mk, zC_mk, kill_i, kill_r, kill_0, kill_n, kill_l, kill_q, zzk_r, zzk_0, zzk_q, zcat_r, zcat_i, zcat_0, zcat_q, cats_0, cats_i, cats_r, cats_l, cats_d, cats_f, cats_q, cats_n, rv_s, rv_0, Nat.reduceAdd, Nat.reduceLeDiff, Nat.reduceEqDiff, Nat.add_zero, Nat.reduceMul, Nat.reduceSub, ne_eq, not_false_eq_true, not_true_eq_false, and_self, and_true, true_and, or_self, or_true, true_or, or_false, false_or, if_true, if_false, reduceIte, reduceCtorEq, implies_true, ite_self, ite_not, o_add, o_sub, o_mul, o_neg, q_add, q_sub, q_mul, q_neg, o_32, cast_s, o_lt (a := n) (b := 0) (by omega), h0, o_lt (a := -100) (b := n) (by omega), g1, o_lt (a := n) (b := -9) (by omega), g2, e2, e1, i10, hk, kf18, kl18, dg1 (r := -n) (by omega), o_ix (z := -n) (n := 100) (by omega), o_ixn (j := p + 1) (n := cap) (by omega), o_ixn (j := p) (n := cap) (by omega), o_tnn (j := p + 1) (by omega), o_tnn (j := p) (by omega), (vp_n (x := 48 + (-n) % 10) (by omega)).2, (vp_n (x := 45) (by omega)).2]
  · have g0 : ¬ ((0 : Int) = 1) := by omega
    by_cases h1 : n < 10
    · have hd : dl n = 1 := by unfold dl; rw [if_neg h0, if_pos h1]
      rw [hd] at hp ⊢
      have g1 : -100 < -n := by omega
      have g2 : ¬ (-n < -9) := by omega
      rw [← wl1 (z0 := Int32.ofInt (48 + n % 10)) (by unfold dcf dec decP; rw [if_neg h0, if_pos h1]; show Int32.ofInt (48 + n) = _; rw [show n % 10 = n by omega])]
      simp only [w182_0, w182_1, w182_3, w182_4, w182_7, w182_8, w182_11, w182_12, w182_14, w182_16, w182_19, w182_20, w182_21, w182_23, w182_25, w182_28, w182_29, w182_31, w182_32, w182_33, w182_34, w182_36, w182_37, w182_38, w182_39, w182_41, w182_42, w182_43, w182_44, w182_47, w182_49, w182_52, w182_54, w182_54q, w182_55, w182_56, w182_57, w182_60, w182_62, w182_65, w182_67, w182_67q, w182_68, w182_69, w182_72, w182_73, w182_76, w182_78, w182_81, w182_82, w182_83, w182_83q, w182_84, w182_85, w182_86, w182_88, w182_91, w182_92, w182_95, w182_97, w182_100, w182_101, w182_102, w182_102q, w182_103, w182_104, w182_106, w182_109, w182_110, w182_113, w182_115, w182_117, w182_118, w182_120, w182_22, kn_s, kn_n, zh_mk, zR_mk, zI_mk, zL_mk, zD_mk, wI_mk, wL_mk, wD_mk, zT_mk, zC_mk, kill_i, kill_r, kill_0, kill_n, kill_l, kill_q, zzk_r, zzk_0, zzk_q, zcat_r, zcat_i, zcat_0, zcat_q, cats_0, cats_i, cats_r, cats_l, cats_d, cats_f, cats_q, cats_n, rv_s, rv_0, Nat.reduceAdd, Nat.reduceLeDiff, Nat.reduceEqDiff, Nat.add_zero, Nat.reduceMul, Nat.reduceSub, ne_eq, not_false_eq_true, not_true_eq_false, and_self, and_true, true_and, or_self, or_true, true_or, or_false, false_or, if_true, if_false, reduceIte, reduceCtorEq, implies_true, ite_self, ite_not, o_add, o_sub, o_mul, o_neg, q_add, q_sub, q_mul, q_neg, o_32, cast_s, Int.neg_neg, o_lt (a := n) (b := 0) (by omega), h0, o_lt (a := -100) (b := -n) (by omega), g1, o_lt (a := -n) (b := -9) (by omega), g2, e1, i00, hk, kf18, kl18, dg1 (r := n) (by omega), o_ix (z := n) (n := 100) (by omega), o_ixn (j := p) (n := cap) (by omega), o_tnn (j := p) (by omega), (vp_n (x := 48 + n % 10) (by omega)).2]
    · by_cases h2 : n < 100
      · have hd : dl n = 2 := by unfold dl; rw [if_neg h0, if_neg h1, if_pos h2]
        rw [hd] at hp ⊢
        have g1 : -100 < -n := by omega
        have g2 : -n < -9 := by omega
        rw [← wl2 (z0 := Int32.ofInt (48 + n / 10)) (z1 := Int32.ofInt (48 + n % 10)) (by unfold dcf dec decP; rw [if_neg h0, if_neg h1, if_pos h2]; rfl) (by unfold dcf dec decP; rw [if_neg h0, if_neg h1, if_pos h2]; rfl)]
        simp only [w182_0, w182_1, w182_3, w182_4, w182_7, w182_8, w182_11, w182_12, w182_14, w182_16, w182_19, w182_20, w182_21, w182_23, w182_25, w182_28, w182_29, w182_31, w182_32, w182_33, w182_34, w182_36, w182_37, w182_38, w182_39, w182_41, w182_42, w182_43, w182_44, w182_47, w182_49, w182_52, w182_54, w182_54q, w182_55, w182_56, w182_57, w182_60, w182_62, w182_65, w182_67, w182_67q, w182_68, w182_69, w182_72, w182_73, w182_76, w182_78, w182_81, w182_82, w182_83, w182_83q, w182_84, w182_85, w182_86, w182_88, w182_91, w182_92, w182_95, w182_97, w182_100, w182_101, w182_102, w182_102q, w182_103, w182_104, w182_106, w182_109, w182_110, w182_113, w182_115, w182_117, w182_118, w182_120, w182_22, kn_s, kn_n, zh_mk, zR_mk, zI_mk, zL_mk, zD_mk, wI_mk, wL_mk, wD_mk, zT_mk, zC_mk, kill_i, kill_r, kill_0, kill_n, kill_l, kill_q, zzk_r, zzk_0, zzk_q, zcat_r, zcat_i, zcat_0, zcat_q, cats_0, cats_i, cats_r, cats_l, cats_d, cats_f, cats_q, cats_n, rv_s, rv_0, Nat.reduceAdd, Nat.reduceLeDiff, Nat.reduceEqDiff, Nat.add_zero, Nat.reduceMul, Nat.reduceSub, ne_eq, not_false_eq_true, not_true_eq_false, and_self, and_true, true_and, or_self, or_true, true_or, or_false, false_or, if_true, if_false, reduceIte, reduceCtorEq, implies_true, ite_self, ite_not, o_add, o_sub, o_mul, o_neg, q_add, q_sub, q_mul, q_neg, o_32, cast_s, Int.neg_neg, o_lt (a := n) (b := 0) (by omega), h0, o_lt (a := -100) (b := -n) (by omega), g1, o_lt (a := -n) (b := -9) (by omega), g2, e2, e1, i00, hk, kf18, kl18, kf19, kl19, dg1 (r := n) (by omega), dg2 (r := n) (by omega), o_ix (z := n) (n := 100) (by omega), o_ixn (j := p + 1) (n := cap) (by omega), o_ixn (j := p) (n := cap) (by omega), o_tnn (j := p + 1) (by omega), o_tnn (j := p) (by omega), (vp_n (x := 48 + n % 10) (by omega)).2, (vp_n (x := 48 + n / 10) (by omega)).2]
      · have hd : dl n = 3 := by unfold dl; rw [if_neg h0, if_neg h1, if_neg h2]
        rw [hd] at hp ⊢
        have g1 : ¬ (-100 < -n) := by omega
        have g3 : (-100 : Int) < -1 := by omega
        have g2 : ¬ ((-1 : Int) < -9) := by omega
        have hq : (-n).tdiv 100 = -1 := by rw [Int.neg_tdiv, Int.tdiv_eq_ediv_of_nonneg (by omega)]; omega
        have er : -1 * 100 - -n = n - 100 := by omega
        have d1 : kdg 18 (Int32.ofInt 1).toNatClampNeg = Int32.ofInt 49 := by decide +kernel
        have h100 : ¬ (Int32.ofInt 100 = Int32.ofInt 0) := by decide
        rw [← wl3 (z0 := Int32.ofInt 49) (z1 := Int32.ofInt (48 + (n - 100) / 10)) (z2 := Int32.ofInt (48 + (n - 100) % 10)) (by unfold dcf dec decP; rw [if_neg h0, if_neg h1, if_neg h2]; rfl) (by unfold dcf dec decP; rw [if_neg h0, if_neg h1, if_neg h2]; rfl) (by unfold dcf dec decP; rw [if_neg h0, if_neg h1, if_neg h2]; rfl)]
        simp only [w182_0, w182_1, w182_3, w182_4, w182_7, w182_8, w182_11, w182_12, w182_14, w182_16, w182_19, w182_20, w182_21, w182_23, w182_25, w182_28, w182_29, w182_31, w182_32, w182_33, w182_34, w182_36, w182_37, w182_38, w182_39, w182_41, w182_42, w182_43, w182_44, w182_47, w182_49, w182_52, w182_54, w182_54q, w182_55, w182_56, w182_57, w182_60, w182_62, w182_65, w182_67, w182_67q, w182_68, w182_69, w182_72, w182_73, w182_76, w182_78, w182_81, w182_82, w182_83, w182_83q, w182_84, w182_85, w182_86, w182_88, w182_91, w182_92, w182_95, w182_97, w182_100, w182_101, w182_102, w182_102q, w182_103, w182_104, w182_106, w182_109, w182_110, w182_113, w182_115, w182_117, w182_118, w182_120, w182_22, kn_s, kn_n, zh_mk, zR_mk, zI_mk, zL_mk, zD_mk, wI_mk, wL_mk, wD_mk, zT_mk, zC_mk, kill_i, kill_r, kill_0, kill_n, kill_l, kill_q, zzk_r, zzk_0, zzk_q, zcat_r, zcat_i, zcat_0, zcat_q, cats_0, cats_i, cats_r, cats_l, cats_d, cats_f, cats_q, cats_n, rv_s, rv_0, Nat.reduceAdd, Nat.reduceLeDiff, Nat.reduceEqDiff, Nat.add_zero, Nat.reduceMul, Nat.reduceSub, ne_eq, not_false_eq_true, not_true_eq_false, and_self, and_true, true_and, or_self, or_true, true_or, or_false, false_or, if_true, if_false, reduceIte, reduceCtorEq, implies_true, ite_self, ite_not, o_add, o_sub, o_mul, o_neg, q_add, q_sub, q_mul, q_neg, o_32, cast_s, Int.neg_neg, o_lt (a := n) (b := 0) (by omega), h0, o_lt (a := -100) (b := -n) (by omega), g1, o_lt (a := -100) (b := -1) (by omega), g3, o_lt (a := -1) (b := -9) (by omega), g2, h100, o_div (a := -n) (b := 100) (by omega), hq, er, e3, e2, e1, i00, hk, kf18, kl18, kf19, kl19, d1, dg1 (r := n - 100) (by omega), dg2 (r := n - 100) (by omega), o_ix (z := n - 100) (n := 100) (by omega), o_ix (z := 1) (n := 100) (by omega), o_ixn (j := p + 2) (n := cap) (by omega), o_ixn (j := p + 1) (n := cap) (by omega), o_ixn (j := p) (n := cap) (by omega), o_tnn (j := p + 2) (by omega), o_tnn (j := p + 1) (by omega), o_tnn (j := p) (by omega), (vp_n (x := 48 + (n - 100) % 10) (by omega)).2, (vp_n (x := 48 + (n - 100) / 10) (by omega)).2, (vp_n (x := 49) (by omega)).2]
theorem c168 {n : Int} (hS : SB N w I B v cap T) (hZ : ZA N w I) (h : -99 ≤ n ∧ n ≤ 199) (hl : T.length + 3 ≤ 300) (hN : N.2.1 < 90000)
    (K : ∀ N' w' I' v' cap', SB N' w' I' B v' cap' (T ++ dec n) → GO B v 1 700 N w I N' w' I' v' → Q (.inl (some (.ref B))) (mk N' t w' I' L D)) : Wp (d + 3) 168 0 [some (.ref B), some (.int (Int32.ofInt n)), none, none] [] (mk N t w I L D) Q := by
  have hS0 := hS
  obtain ⟨s1, s2, s3, s4, s5, s6, s7, s8, s9, s10, s11, s12, s13⟩ := hS
  have hd := dl_le (n := n)
  have e : (T.length : Int) + (dl n : Int) = ((T.length + dl n : Nat) : Int) := by omega
  simp only [w168_0, w168_1, w168_4, w168_5, w168_6, w168_7, w168_10, w168_11, w168_12, w168_13, w168_14, w168_17, w168_18, w168_21, w168_24, w168_25, w168_26, w168_27, w168_30, w168_33, w168_34, w168_37, w168_38, w168_39, w168_40, w168_41, w168_47, w168_48, w168_49, w168_50, w168_53, w168_54, w168_54n, kn_s, kn_n, zh_mk, zR_mk, zI_mk, zL_mk, zD_mk, wI_mk, wL_mk, wD_mk, zT_mk, zC_mk, kill_i, kill_r, kill_0, kill_n, kill_l, kill_q, zzk_r, zzk_0, zzk_q, zcat_r, zcat_i, zcat_0, zcat_q, cats_0, cats_i, cats_r, cats_l, cats_d, cats_f, cats_q, cats_n, rv_s, rv_0, Nat.reduceAdd, Nat.reduceLeDiff, Nat.reduceEqDiff, Nat.add_zero, Nat.reduceMul, Nat.reduceSub, ne_eq, not_false_eq_true, not_true_eq_false, and_self, and_true, true_and, or_self, or_true, true_or, or_false, false_or, if_true, if_false, reduceIte, reduceCtorEq, implies_true, ite_self, ite_not, o_add, o_sub, o_mul, o_neg, q_add, q_sub, q_mul, q_neg, o_32, cast_s, s1, s8, c181 h, e]
  refine c170 hS0 hZ (m := T.length + dl n) (by omega) hN fun N' w' I' v' cap' hS' hc hG => ?_
  have hS2 := hS'
  obtain ⟨s1, s2, s3, s4, s5, s6, s7, s8, s9, s10, s11, s12, s13⟩ := hS'
  have c4 := fun (d : Nat) (Q : Rs → St → Prop) => c174 (d := d) (Q := Q) (σ := mk N' t w' I' L D) (B := B) s1 s7
  simp only [w168_0, w168_1, w168_4, w168_5, w168_6, w168_7, w168_10, w168_11, w168_12, w168_13, w168_14, w168_17, w168_18, w168_21, w168_24, w168_25, w168_26, w168_27, w168_30, w168_33, w168_34, w168_37, w168_38, w168_39, w168_40, w168_41, w168_47, w168_48, w168_49, w168_50, w168_53, w168_54, w168_54n, kn_s, kn_n, zh_mk, zR_mk, zI_mk, zL_mk, zD_mk, wI_mk, wL_mk, wD_mk, zT_mk, zC_mk, kill_i, kill_r, kill_0, kill_n, kill_l, kill_q, zzk_r, zzk_0, zzk_q, zcat_r, zcat_i, zcat_0, zcat_q, cats_0, cats_i, cats_r, cats_l, cats_d, cats_f, cats_q, cats_n, rv_s, rv_0, Nat.reduceAdd, Nat.reduceLeDiff, Nat.reduceEqDiff, Nat.add_zero, Nat.reduceMul, Nat.reduceSub, ne_eq, not_false_eq_true, not_true_eq_false, and_self, and_true, true_and, or_self, or_true, true_or, or_false, false_or, if_true, if_false, reduceIte, reduceCtorEq, implies_true, ite_self, ite_not, o_add, o_sub, o_mul, o_neg, q_add, q_sub, q_mul, q_neg, o_32, cast_s, s1, c4, i10, kR s3.1, s6, c182 h s2 (p := T.length) ⟨hc, s11⟩]
  rw [show ((T.length + dl n : Nat) : Int) = ((T ++ dec n).length : Int) by rw [List.length_append, dec_l h]]
  rw [← dec_l h]
  exact K _ _ _ v' cap' (SB_wr (s := dec n) hS2 (fun j hj => rfl) (dec_a h) (by rw [dec_l h]; exact hc) (by rw [dec_l h]; omega)) (hG.trans (GO_wr (k := 0) (m := 0) hS2 hG.2.2.2.2.2.2.2) (by omega) (by omega))
theorem c161 {n : Int} (hS : SB N w I B v cap T) (hZ : ZA N w I) (h : -99 ≤ n ∧ n ≤ 199) (hl : T.length + 3 ≤ 300) (hN : N.2.1 < 90000)
    (K : ∀ N' w' I' v' cap', SB N' w' I' B v' cap' (T ++ dec n) → GO B v 1 700 N w I N' w' I' v' → Q (.inl (some (.ref B))) (mk N' t w' I' L D)) : Wp (d + 4) 161 0 [some (.ref B), some (.int (Int32.ofInt n))] [] (mk N t w I L D) Q := by
  simp only [w161_0, w161_1, w161_2, w161_5, w161_6, w161_7, w161_7n, kn_s, kn_n, zh_mk, zR_mk, zI_mk, zL_mk, zD_mk, wI_mk, wL_mk, wD_mk, zT_mk, zC_mk, kill_i, kill_r, kill_0, kill_n, kill_l, kill_q, zzk_r, zzk_0, zzk_q, zcat_r, zcat_i, zcat_0, zcat_q, cats_0, cats_i, cats_r, cats_l, cats_d, cats_f, cats_q, cats_n, rv_s, rv_0, Nat.reduceAdd, Nat.reduceLeDiff, Nat.reduceEqDiff, Nat.add_zero, Nat.reduceMul, Nat.reduceSub, ne_eq, not_false_eq_true, not_true_eq_false, and_self, and_true, true_and, or_self, or_true, true_or, or_false, false_or, if_true, if_false, reduceIte, reduceCtorEq, implies_true, ite_self, ite_not, hS.1]
  refine c168 hS hZ h hl hN fun N' w' I' v' cap' hS' hG => ?_
  simp only [w161_0, w161_1, w161_2, w161_5, w161_6, w161_7, w161_7n, kn_s, kn_n, zh_mk, zR_mk, zI_mk, zL_mk, zD_mk, wI_mk, wL_mk, wD_mk, zT_mk, zC_mk, kill_i, kill_r, kill_0, kill_n, kill_l, kill_q, zzk_r, zzk_0, zzk_q, zcat_r, zcat_i, zcat_0, zcat_q, cats_0, cats_i, cats_r, cats_l, cats_d, cats_f, cats_q, cats_n, rv_s, rv_0, Nat.reduceAdd, Nat.reduceLeDiff, Nat.reduceEqDiff, Nat.add_zero, Nat.reduceMul, Nat.reduceSub, ne_eq, not_false_eq_true, not_true_eq_false, and_self, and_true, true_and, or_self, or_true, true_or, or_false, false_or, if_true, if_false, reduceIte, reduceCtorEq, implies_true, ite_self, ite_not]
  exact K _ _ _ _ _ hS' hG
end S98
