/-! CONTRACTS of the reference: questions -/
def slA (α : Nat → Int) (n : Nat) : Int := sumN (fun i => if α (B9 i 1) = 0 then 1 else 0) n
theorem slA_s {α : Nat → Int} {n : Nat} : slA α (n + 1) = slA α n + (if α (B9 n 1) = 0 then 1 else 0) := nr rfl
theorem mv_sl {α : Nat → Int} : ∀ n : Nat, mvA α n + slA α n = n
  | 0 => rfl
  | n + 1 => by
    have := mv_sl (α := α) n
    rw [mvA_s, slA_s]
    split <;> omega
section S59
variable {d N t w n m : Nat} {I : Nat → Nat → Int32} {L : Nat → Nat → Int64} {D : Nat → Nat → UInt64} {Q : Rs → St → Prop} {o : Nat → Nat} {α : Nat → Int}
theorem c193_4 (hw : RW w) (hB : GB α n) : ∀ r i, i + r = n → Wp (d + 2) 193 4 [some (.ref 294), some (.int (Int32.ofInt (slA α i))), some (.int (Int32.ofInt (i : Int)))] [] (mk N t w I (sR L w (r64 α)) D) Q = Q (.inl (some (.int (Int32.ofInt (slA α n))))) (mk N t w I (sR L w (r64 α)) D) := by
  obtain ⟨h1, h2, h3, h4, h5⟩ := hB
  intro r
  induction r with
  | zero =>
    intro i hi
    have g : ¬ ((i : Int) < n) := by omega
    obtain rfl : i = n := by omega
    simp only [w193_0, w193_1, w193_2, w193_3, w193_4, w193_5, w193_6, w193_9, w193_12, w193_13, w193_14, w193_15, w193_18, w193_21, w193_22, w193_25, w193_26, w193_27, w193_28, w193_31, w193_34, w193_35, kn_s, kn_n, zh_mk, zR_mk, zI_mk, zL_mk, zD_mk, wI_mk, wL_mk, wD_mk, zT_mk, zC_mk, kill_i, kill_r, kill_0, kill_n, kill_l, kill_q, zzk_r, zzk_0, zzk_q, zcat_r, zcat_i, zcat_0, cats_0, cats_i, cats_r, cats_l, cats_d, cats_f, rv_s, rv_0, Nat.reduceAdd, Nat.reduceLeDiff, Nat.add_zero, Nat.reduceMul, Nat.reduceSub, ne_eq, not_false_eq_true, not_true_eq_false, and_self, and_true, true_and, or_self, or_true, true_or, or_false, false_or, if_true, if_false, reduceIte, reduceCtorEq, implies_true, ite_self, ite_not, kM, kMr, kRow hw, sR_at, up2_r64, r64_at, o_add, o_sub, o_mul, o_neg, q_add, q_sub, q_mul, q_neg, o_32, cast_s, Int.toNat_natCast, c176 hw, h2, o_lt (a := (i : Int)) (b := (i : Int)) (by omega), g]
  | succ r ih =>
    intro i hi
    have g : (i : Int) < n := by omega
    have h6 := h5 i (by omega)
    have ih' := ih (i + 1) (by omega)
    rw [slA_s] at ih'
    rw [w193_4]
    by_cases hx : α (B9 i 1) = 0
    · simp only [hx, if_true] at ih'
      simp only [w193_0, w193_1, w193_2, w193_3, w193_5, w193_6, w193_9, w193_12, w193_13, w193_14, w193_15, w193_18, w193_21, w193_22, w193_25, w193_26, w193_27, w193_28, w193_31, w193_34, w193_35, kn_s, kn_n, zh_mk, zR_mk, zI_mk, zL_mk, zD_mk, wI_mk, wL_mk, wD_mk, zT_mk, zC_mk, kill_i, kill_r, kill_0, kill_n, kill_l, kill_q, zzk_r, zzk_0, zzk_q, zcat_r, zcat_i, zcat_0, cats_0, cats_i, cats_r, cats_l, cats_d, cats_f, rv_s, rv_0, Nat.reduceAdd, Nat.reduceLeDiff, Nat.add_zero, Nat.reduceMul, Nat.reduceSub, ne_eq, not_false_eq_true, not_true_eq_false, and_self, and_true, true_and, or_self, or_true, true_or, or_false, false_or, if_true, if_false, reduceIte, reduceCtorEq, implies_true, ite_self, ite_not, kM, kMr, kRow hw, sR_at, up2_r64, r64_at, o_add, o_sub, o_mul, o_neg, q_add, q_sub, q_mul, q_neg, o_32, cast_s, Int.toNat_natCast, c176 hw, h2, o_lt (a := (i : Int)) (b := (n : Int)) (by omega), g, c194 hw (show i < 10 by omega), o_eq (a := α (B9 i 1)) (b := 0) (by omega), eq_true hx, ih']
    · simp only [hx, if_false] at ih'
      simp only [w193_0, w193_1, w193_2, w193_3, w193_5, w193_6, w193_9, w193_12, w193_13, w193_14, w193_15, w193_18, w193_21, w193_22, w193_25, w193_26, w193_27, w193_28, w193_31, w193_34, w193_35, kn_s, kn_n, zh_mk, zR_mk, zI_mk, zL_mk, zD_mk, wI_mk, wL_mk, wD_mk, zT_mk, zC_mk, kill_i, kill_r, kill_0, kill_n, kill_l, kill_q, zzk_r, zzk_0, zzk_q, zcat_r, zcat_i, zcat_0, cats_0, cats_i, cats_r, cats_l, cats_d, cats_f, rv_s, rv_0, Nat.reduceAdd, Nat.reduceLeDiff, Nat.add_zero, Nat.reduceMul, Nat.reduceSub, ne_eq, not_false_eq_true, not_true_eq_false, and_self, and_true, true_and, or_self, or_true, true_or, or_false, false_or, if_true, if_false, reduceIte, reduceCtorEq, implies_true, ite_self, ite_not, kM, kMr, kRow hw, sR_at, up2_r64, r64_at, o_add, o_sub, o_mul, o_neg, q_add, q_sub, q_mul, q_neg, o_32, cast_s, Int.toNat_natCast, c176 hw, h2, o_lt (a := (i : Int)) (b := (n : Int)) (by omega), g, c194 hw (show i < 10 by omega), o_eq (a := α (B9 i 1)) (b := 0) (by omega), eq_false hx, ih']
theorem c193 (hw : RW w) (hB : GB α n) : Wp (d + 2) 193 0 [some (.ref 294), none, none] [] (mk N t w I (sR L w (r64 α)) D) Q = Q (.inl (some (.int (Int32.ofInt (slA α n))))) (mk N t w I (sR L w (r64 α)) D) := by
  have := c193_4 (d := d) (N := N) (t := t) (I := I) (L := L) (D := D) (Q := Q) hw hB n 0 (by omega)
  simp only [w193_0, w193_1, w193_2, w193_3, kn_s, kn_n, zh_mk, zR_mk, zI_mk, zL_mk, zD_mk, wI_mk, wL_mk, wD_mk, zT_mk, zC_mk, kill_i, kill_r, kill_0, kill_n, kill_l, kill_q, zzk_r, zzk_0, zzk_q, zcat_r, zcat_i, zcat_0, cats_0, cats_i, cats_r, cats_l, cats_d, cats_f, rv_s, rv_0, Nat.reduceAdd, Nat.reduceLeDiff, Nat.add_zero, Nat.reduceMul, Nat.reduceSub, ne_eq, not_false_eq_true, not_true_eq_false, and_self, and_true, true_and, or_self, or_true, true_or, or_false, false_or, if_true, if_false, reduceIte, reduceCtorEq, implies_true, ite_self, ite_not]
  exact this
theorem c195_4 (hw : RW w) (hB : GB α n) : ∀ r i, i + r = n → Wp (d + 1) 195 4 [some (.ref 294), some (.int (Int32.ofInt (wtA α i))), some (.int (Int32.ofInt (i : Int)))] [] (mk N t w I (sR L w (r64 α)) D) Q = Q (.inl (some (.int (Int32.ofInt (wtA α n))))) (mk N t w I (sR L w (r64 α)) D) := by
  obtain ⟨h1, h2, h3, h4, h5⟩ := hB
  intro r
  induction r with
  | zero =>
    intro i hi
    have g : ¬ ((i : Int) < n) := by omega
    obtain rfl : i = n := by omega
    simp only [w195_0, w195_1, w195_2, w195_3, w195_4, w195_5, w195_6, w195_9, w195_12, w195_13, w195_14, w195_15, w195_16, w195_19, w195_20, w195_21, w195_24, w195_27, w195_28, kn_s, kn_n, zh_mk, zR_mk, zI_mk, zL_mk, zD_mk, wI_mk, wL_mk, wD_mk, zT_mk, zC_mk, kill_i, kill_r, kill_0, kill_n, kill_l, kill_q, zzk_r, zzk_0, zzk_q, zcat_r, zcat_i, zcat_0, cats_0, cats_i, cats_r, cats_l, cats_d, cats_f, rv_s, rv_0, Nat.reduceAdd, Nat.reduceLeDiff, Nat.add_zero, Nat.reduceMul, Nat.reduceSub, ne_eq, not_false_eq_true, not_true_eq_false, and_self, and_true, true_and, or_self, or_true, true_or, or_false, false_or, if_true, if_false, reduceIte, reduceCtorEq, implies_true, ite_self, ite_not, kM, kMr, kRow hw, sR_at, up2_r64, r64_at, o_add, o_sub, o_mul, o_neg, q_add, q_sub, q_mul, q_neg, o_32, cast_s, Int.toNat_natCast, c176 hw, h2, o_lt (a := (i : Int)) (b := (i : Int)) (by omega), g]
  | succ r ih =>
    intro i hi
    have g : (i : Int) < n := by omega
    rw [w195_4]
    simp only [w195_0, w195_1, w195_2, w195_3, w195_5, w195_6, w195_9, w195_12, w195_13, w195_14, w195_15, w195_16, w195_19, w195_20, w195_21, w195_24, w195_27, w195_28, kn_s, kn_n, zh_mk, zR_mk, zI_mk, zL_mk, zD_mk, wI_mk, wL_mk, wD_mk, zT_mk, zC_mk, kill_i, kill_r, kill_0, kill_n, kill_l, kill_q, zzk_r, zzk_0, zzk_q, zcat_r, zcat_i, zcat_0, cats_0, cats_i, cats_r, cats_l, cats_d, cats_f, rv_s, rv_0, Nat.reduceAdd, Nat.reduceLeDiff, Nat.add_zero, Nat.reduceMul, Nat.reduceSub, ne_eq, not_false_eq_true, not_true_eq_false, and_self, and_true, true_and, or_self, or_true, true_or, or_false, false_or, if_true, if_false, reduceIte, reduceCtorEq, implies_true, ite_self, ite_not, kM, kMr, kRow hw, sR_at, up2_r64, r64_at, o_add, o_sub, o_mul, o_neg, q_add, q_sub, q_mul, q_neg, o_32, cast_s, Int.toNat_natCast, c176 hw, h2, o_lt (a := (i : Int)) (b := (n : Int)) (by omega), g, c177_2 hw (show i < 10 by omega), wtA_s, ih (i + 1) (by omega)]
theorem c195 (hw : RW w) (hB : GB α n) : Wp (d + 1) 195 0 [some (.ref 294), none, none] [] (mk N t w I (sR L w (r64 α)) D) Q = Q (.inl (some (.int (Int32.ofInt (wtA α n))))) (mk N t w I (sR L w (r64 α)) D) := by
  have := c195_4 (d := d) (N := N) (t := t) (I := I) (L := L) (D := D) (Q := Q) hw hB n 0 (by omega)
  simp only [w195_0, w195_1, w195_2, w195_3, kn_s, kn_n, zh_mk, zR_mk, zI_mk, zL_mk, zD_mk, wI_mk, wL_mk, wD_mk, zT_mk, zC_mk, kill_i, kill_r, kill_0, kill_n, kill_l, kill_q, zzk_r, zzk_0, zzk_q, zcat_r, zcat_i, zcat_0, cats_0, cats_i, cats_r, cats_l, cats_d, cats_f, rv_s, rv_0, Nat.reduceAdd, Nat.reduceLeDiff, Nat.add_zero, Nat.reduceMul, Nat.reduceSub, ne_eq, not_false_eq_true, not_true_eq_false, and_self, and_true, true_and, or_self, or_true, true_or, or_false, false_or, if_true, if_false, reduceIte, reduceCtorEq, implies_true, ite_self, ite_not]
  exact this
theorem c212 : Wp d 212 0 [some (.ref 294)] [] (mk N t w I (sR L 295 (r64 α)) D) Q = Q (.inl (some (.int (Int32.ofInt (α 4))))) (mk N t w I (sR L 295 (r64 α)) D) := by
  simp only [w212_0, w212_1, w212_4, w212_5, w212_6, w212_7, kn_s, kn_n, zh_mk, zR_mk, zI_mk, zL_mk, zD_mk, wI_mk, wL_mk, wD_mk, zT_mk, zC_mk, kill_i, kill_r, kill_0, kill_n, kill_l, kill_q, zzk_r, zzk_0, zzk_q, zcat_r, zcat_i, zcat_0, cats_0, cats_i, cats_r, cats_l, cats_d, cats_f, rv_s, rv_0, Nat.reduceAdd, Nat.reduceLeDiff, Nat.add_zero, Nat.reduceMul, Nat.reduceSub, ne_eq, not_false_eq_true, not_true_eq_false, and_self, and_true, true_and, or_self, or_true, true_or, or_false, false_or, if_true, if_false, reduceIte, reduceCtorEq, implies_true, ite_self, ite_not, o_add, o_sub, o_mul, o_neg, q_add, q_sub, q_mul, q_neg, o_32, cast_s, kM, kM1, kA295, sR_at, r64_at, ixc4, tnc4]
theorem c213 {k v : Nat} (hk : k < 40) (hv : v < 4) : Wp d 213 0 [some (.ref 294), some (.int (Int32.ofInt (k : Int))), some (.int (Int32.ofInt (v : Int)))] [] (mk N t w I (sR L 295 (r64 α)) D) Q = Q (.inl (some (.int (Int32.ofInt (α (218 + 4 * k + v)))))) (mk N t w I (sR L 295 (r64 α)) D) := by
  have e : 218 + 4 * (k : Int) + (v : Int) = ((218 + 4 * k + v : Nat) : Int) := by omega
  simp only [w213_0, w213_1, w213_4, w213_7, w213_8, w213_9, w213_10, w213_11, w213_12, w213_13, w213_14, w213_15, kn_s, kn_n, zh_mk, zR_mk, zI_mk, zL_mk, zD_mk, wI_mk, wL_mk, wD_mk, zT_mk, zC_mk, kill_i, kill_r, kill_0, kill_n, kill_l, kill_q, zzk_r, zzk_0, zzk_q, zcat_r, zcat_i, zcat_0, cats_0, cats_i, cats_r, cats_l, cats_d, cats_f, rv_s, rv_0, Nat.reduceAdd, Nat.reduceLeDiff, Nat.add_zero, Nat.reduceMul, Nat.reduceSub, ne_eq, not_false_eq_true, not_true_eq_false, and_self, and_true, true_and, or_self, or_true, true_or, or_false, false_or, if_true, if_false, reduceIte, reduceCtorEq, implies_true, ite_self, ite_not, o_add, o_sub, o_mul, o_neg, q_add, q_sub, q_mul, q_neg, o_32, cast_s, kM, kM1, kA295, e, o_ixn (j := 218 + 4 * k + v) (n := 378) (by omega), o_tnn (j := 218 + 4 * k + v) (by omega), sR_at, r64_at]
theorem not_isF {c : Int} (h : ¬ isC α c) : ¬ isF α n m c := fun e => h e.1
theorem c208_15 (hw : RW w) (hB : GB α n) (hP : GP α m) {c s : Int} {b x : Int32} (hc : 0 ≤ c ∧ c < α 0) (hs : x = Int32.ofInt 1 ∧ s = 1 ∨ x = Int32.ofInt 0 ∧ s = -1) : ∀ r f : Nat, f + r = (α 0).toNat → Wp (d + 3) 208 15 [some (.ref 294), some (.int b), some (.int x), some (.int (Int32.ofInt (f : Int))), some (.int (Int32.ofInt (c + s * ((f + 1 : Nat) : Int))))] [] (mk N t w I (sR L w (r64 α)) D) Q = Q (.inl (some (.int (Int32.ofInt (rmA α n m c s r f : Int))))) (mk N t w I (sR L w (r64 α)) D) := by
  have h0 : 10 ≤ α 0 ∧ α 0 ≤ 200 := ⟨hB.2.2.1, hB.2.2.2.1⟩
  have hcc : ∀ f : Nat, f ≤ 200 → -2147483648 ≤ c + s * ((f + 1 : Nat) : Int) ∧ c + s * ((f + 1 : Nat) : Int) < 2147483648 := by
    intro f hf
    rcases hs with ⟨-, rfl⟩ | ⟨-, rfl⟩ <;> omega
  intro r
  induction r with
  | zero =>
    intro f hf
    have g : ¬ isF α n m (c + s * ((f + 1 : Nat) : Int)) := not_isF (fun e => by
      unfold isC at e
      rcases hs with ⟨-, rfl⟩ | ⟨-, rfl⟩ <;> omega)
    rw [w208_15 zzk_r]
    simp only [w208_0, w208_1, w208_2, w208_3, w208_4, w208_5, w208_8, w208_9, w208_12, w208_13, w208_16, w208_18, w208_21, w208_24, w208_27, w208_29, w208_30, w208_33, w208_34, w208_36, w208_39, w208_40, kn_s, kn_n, zh_mk, zR_mk, zI_mk, zL_mk, zD_mk, wI_mk, wL_mk, wD_mk, zT_mk, zC_mk, kill_i, kill_r, kill_0, kill_n, kill_l, kill_q, zzk_r, zzk_0, zzk_q, zcat_r, zcat_i, zcat_0, cats_0, cats_i, cats_r, cats_l, cats_d, cats_f, rv_s, rv_0, Nat.reduceAdd, Nat.reduceLeDiff, Nat.add_zero, Nat.reduceMul, Nat.reduceSub, ne_eq, not_false_eq_true, not_true_eq_false, and_self, and_true, true_and, or_self, or_true, true_or, or_false, false_or, if_true, if_false, reduceIte, reduceCtorEq, implies_true, ite_self, ite_not, kM, kMr, kRow hw, sR_at, up2_r64, r64_at, o_add, o_sub, o_mul, o_neg, q_add, q_sub, q_mul, q_neg, o_32, cast_s, Int.toNat_natCast, c173 hw hB hP (hcc f (by omega)), p_0, eq_false g, rmA]
  | succ r ih =>
    intro f hf
    have ih' := ih (f + 1) (by omega)
    have e : c + s * ((f + 1 : Nat) : Int) + s = c + s * ((f + 1 + 1 : Nat) : Int) := by
      rcases hs with ⟨-, rfl⟩ | ⟨-, rfl⟩ <;> omega
    rw [← e] at ih'
    rw [w208_15 zzk_r, rmA_s]
    by_cases hx : isF α n m (c + s * ((f + 1 : Nat) : Int))
    · rcases hs with ⟨rfl, rfl⟩ | ⟨rfl, rfl⟩
      · simp only [w208_0, w208_1, w208_2, w208_3, w208_4, w208_5, w208_8, w208_9, w208_12, w208_13, w208_16, w208_18, w208_21, w208_24, w208_27, w208_29, w208_30, w208_33, w208_34, w208_36, w208_39, w208_40, kn_s, kn_n, zh_mk, zR_mk, zI_mk, zL_mk, zD_mk, wI_mk, wL_mk, wD_mk, zT_mk, zC_mk, kill_i, kill_r, kill_0, kill_n, kill_l, kill_q, zzk_r, zzk_0, zzk_q, zcat_r, zcat_i, zcat_0, cats_0, cats_i, cats_r, cats_l, cats_d, cats_f, rv_s, rv_0, Nat.reduceAdd, Nat.reduceLeDiff, Nat.add_zero, Nat.reduceMul, Nat.reduceSub, ne_eq, not_false_eq_true, not_true_eq_false, and_self, and_true, true_and, or_self, or_true, true_or, or_false, false_or, if_true, if_false, reduceIte, reduceCtorEq, implies_true, ite_self, ite_not, kM, kMr, kRow hw, sR_at, up2_r64, r64_at, o_add, o_sub, o_mul, o_neg, q_add, q_sub, q_mul, q_neg, o_32, cast_s, Int.toNat_natCast, c173 hw hB hP (hcc f (by omega)), p_0, eq_true hx, c207, i10, ih']
      · simp only [w208_0, w208_1, w208_2, w208_3, w208_4, w208_5, w208_8, w208_9, w208_12, w208_13, w208_16, w208_18, w208_21, w208_24, w208_27, w208_29, w208_30, w208_33, w208_34, w208_36, w208_39, w208_40, kn_s, kn_n, zh_mk, zR_mk, zI_mk, zL_mk, zD_mk, wI_mk, wL_mk, wD_mk, zT_mk, zC_mk, kill_i, kill_r, kill_0, kill_n, kill_l, kill_q, zzk_r, zzk_0, zzk_q, zcat_r, zcat_i, zcat_0, cats_0, cats_i, cats_r, cats_l, cats_d, cats_f, rv_s, rv_0, Nat.reduceAdd, Nat.reduceLeDiff, Nat.add_zero, Nat.reduceMul, Nat.reduceSub, ne_eq, not_false_eq_true, not_true_eq_false, and_self, and_true, true_and, or_self, or_true, true_or, or_false, false_or, if_true, if_false, reduceIte, reduceCtorEq, implies_true, ite_self, ite_not, kM, kMr, kRow hw, sR_at, up2_r64, r64_at, o_add, o_sub, o_mul, o_neg, q_add, q_sub, q_mul, q_neg, o_32, cast_s, Int.toNat_natCast, c173 hw hB hP (hcc f (by omega)), p_0, eq_true hx, c207, i00, ih']
    · simp only [w208_0, w208_1, w208_2, w208_3, w208_4, w208_5, w208_8, w208_9, w208_12, w208_13, w208_16, w208_18, w208_21, w208_24, w208_27, w208_29, w208_30, w208_33, w208_34, w208_36, w208_39, w208_40, kn_s, kn_n, zh_mk, zR_mk, zI_mk, zL_mk, zD_mk, wI_mk, wL_mk, wD_mk, zT_mk, zC_mk, kill_i, kill_r, kill_0, kill_n, kill_l, kill_q, zzk_r, zzk_0, zzk_q, zcat_r, zcat_i, zcat_0, cats_0, cats_i, cats_r, cats_l, cats_d, cats_f, rv_s, rv_0, Nat.reduceAdd, Nat.reduceLeDiff, Nat.add_zero, Nat.reduceMul, Nat.reduceSub, ne_eq, not_false_eq_true, not_true_eq_false, and_self, and_true, true_and, or_self, or_true, true_or, or_false, false_or, if_true, if_false, reduceIte, reduceCtorEq, implies_true, ite_self, ite_not, kM, kMr, kRow hw, sR_at, up2_r64, r64_at, o_add, o_sub, o_mul, o_neg, q_add, q_sub, q_mul, q_neg, o_32, cast_s, Int.toNat_natCast, c173 hw hB hP (hcc f (by omega)), p_0, eq_false hx]
theorem c208 (hw : RW w) (hB : GB α n) (hP : GP α m) {i : Nat} (hi : i < n) {s : Int} {x : Int32} (hs : x = Int32.ofInt 1 ∧ s = 1 ∨ x = Int32.ofInt 0 ∧ s = -1) : Wp (d + 3) 208 0 [some (.ref 294), some (.int (Int32.ofInt (i : Int))), some (.int x), none, none] [] (mk N t w I (sR L w (r64 α)) D) Q = Q (.inl (some (.int (Int32.ofInt (rmN α n m (α (B9 i 0)) s : Int))))) (mk N t w I (sR L w (r64 α)) D) := by
  have h10 := hB.1
  have := c208_15 (d := d) (N := N) (t := t) (w := w) (I := I) (L := L) (D := D) (Q := Q) (b := Int32.ofInt (i : Int)) (c := α (B9 i 0)) hw hB hP (hB.2.2.2.2 i hi).1 hs (α 0).toNat 0 (by omega)
  have e : α (B9 i 0) + s * ((0 + 1 : Nat) : Int) = α (B9 i 0) + s := by omega
  rw [e] at this
  rcases hs with ⟨rfl, rfl⟩ | ⟨rfl, rfl⟩
  · simp only [w208_0, w208_1, w208_2, w208_3, w208_4, w208_5, w208_8, w208_9, w208_12, w208_13, w208_16, w208_18, w208_21, w208_24, w208_27, w208_29, w208_30, w208_33, w208_34, w208_36, w208_39, w208_40, kn_s, kn_n, zh_mk, zR_mk, zI_mk, zL_mk, zD_mk, wI_mk, wL_mk, wD_mk, zT_mk, zC_mk, kill_i, kill_r, kill_0, kill_n, kill_l, kill_q, zzk_r, zzk_0, zzk_q, zcat_r, zcat_i, zcat_0, cats_0, cats_i, cats_r, cats_l, cats_d, cats_f, rv_s, rv_0, Nat.reduceAdd, Nat.reduceLeDiff, Nat.add_zero, Nat.reduceMul, Nat.reduceSub, ne_eq, not_false_eq_true, not_true_eq_false, and_self, and_true, true_and, or_self, or_true, true_or, or_false, false_or, if_true, if_false, reduceIte, reduceCtorEq, implies_true, ite_self, ite_not, kM, kMr, kRow hw, sR_at, up2_r64, r64_at, o_add, o_sub, o_mul, o_neg, q_add, q_sub, q_mul, q_neg, o_32, cast_s, Int.toNat_natCast, c177_0 hw (show i < 10 by omega), c207, i10]
    exact this
  · simp only [w208_0, w208_1, w208_2, w208_3, w208_4, w208_5, w208_8, w208_9, w208_12, w208_13, w208_16, w208_18, w208_21, w208_24, w208_27, w208_29, w208_30, w208_33, w208_34, w208_36, w208_39, w208_40, kn_s, kn_n, zh_mk, zR_mk, zI_mk, zL_mk, zD_mk, wI_mk, wL_mk, wD_mk, zT_mk, zC_mk, kill_i, kill_r, kill_0, kill_n, kill_l, kill_q, zzk_r, zzk_0, zzk_q, zcat_r, zcat_i, zcat_0, cats_0, cats_i, cats_r, cats_l, cats_d, cats_f, rv_s, rv_0, Nat.reduceAdd, Nat.reduceLeDiff, Nat.add_zero, Nat.reduceMul, Nat.reduceSub, ne_eq, not_false_eq_true, not_true_eq_false, and_self, and_true, true_and, or_self, or_true, true_or, or_false, false_or, if_true, if_false, reduceIte, reduceCtorEq, implies_true, ite_self, ite_not, kM, kMr, kRow hw, sR_at, up2_r64, r64_at, o_add, o_sub, o_mul, o_neg, q_add, q_sub, q_mul, q_neg, o_32, cast_s, Int.toNat_natCast, c177_0 hw (show i < 10 by omega), c207, i00]
    exact this
def ltC (n : Nat) : Bool := decide ((Int32.ofInt 1 <<< (Int32.ofInt (n : Int) &&& 31)) - Int32.ofInt 1 = Int32.ofInt ((2 ^ n - 1 : Nat) : Int)) && decide (2 ^ n - 1 < 1024) && (List.range 12).all (fun j => (2 ^ n - 1).testBit j == decide (j < n))
theorem lt_d : ∀ n, n < 11 → ltC n = true := by decide +kernel
theorem lt_e {n : Nat} (h : n ≤ 10) : (Int32.ofInt 1 <<< (Int32.ofInt (n : Int) &&& 31)) - Int32.ofInt 1 = Int32.ofInt ((2 ^ n - 1 : Nat) : Int) ∧ 2 ^ n - 1 < 1024 ∧ ∀ j, (2 ^ n - 1).testBit j = decide (j < n) := by
  have := lt_d n (by omega)
  unfold ltC at this
  simp only [Bool.and_eq_true, decide_eq_true_eq] at this
  exact ⟨this.1.1, this.1.2, fun j => Nat.testBit_two_pow_sub_one n j⟩
theorem o_inj (hG : GA α n m o) {p q : Nat} (hp : p < n) (hq : q < n) (h : o p = o q) : p = q := by
  have h5 := hG.2.2.2.2.1
  rcases Nat.lt_trichotomy p q with h1 | h1 | h1
  · have := h5 p q h1 hq
    rw [h] at this
    omega
  · exact h1
  · have := h5 q p h1 hp
    rw [h] at this
    omega
theorem c203_19 (hw : RW w) (hG : GA α n m o) {P : Nat} (hP : P < n) : ∀ (r k X : Nat), k + r = P → X < 1024 → (∀ p, p < n → X.testBit (o p) = decide (k ≤ p)) → Wp (d + 2) 203 19 [some (.ref 294), some (.int (Int32.ofInt (P : Int))), some (.int (Int32.ofInt (X : Int))), some (.int (Int32.ofInt (o k : Int))), some (.int (Int32.ofInt (k : Int)))] [] (mk N t w I (sR L w (r64 α)) D) Q = Q (.inl (some (.int (Int32.ofInt (o P : Int))))) (mk N t w I (sR L w (r64 α)) D) := by
  have h10 := hG.1.1
  intro r
  induction r with
  | zero =>
    intro k X hk hX hT
    obtain rfl : k = P := by omega
    have g : ¬ ((k : Int) < k) := by omega
    rw [w203_19]
    simp only [w203_0, w203_1, w203_2, w203_5, w203_6, w203_7, w203_8, w203_9, w203_10, w203_11, w203_12, w203_15, w203_16, w203_17, w203_21, w203_22, w203_25, w203_26, w203_27, w203_28, w203_29, w203_30, w203_31, w203_32, w203_33, w203_34, w203_35, w203_36, w203_39, w203_40, w203_43, w203_46, w203_47, kn_s, kn_n, zh_mk, zR_mk, zI_mk, zL_mk, zD_mk, wI_mk, wL_mk, wD_mk, zT_mk, zC_mk, kill_i, kill_r, kill_0, kill_n, kill_l, kill_q, zzk_r, zzk_0, zzk_q, zcat_r, zcat_i, zcat_0, cats_0, cats_i, cats_r, cats_l, cats_d, cats_f, rv_s, rv_0, Nat.reduceAdd, Nat.reduceLeDiff, Nat.add_zero, Nat.reduceMul, Nat.reduceSub, ne_eq, not_false_eq_true, not_true_eq_false, and_self, and_true, true_and, or_self, or_true, true_or, or_false, false_or, if_true, if_false, reduceIte, reduceCtorEq, implies_true, ite_self, ite_not, kM, kMr, kRow hw, sR_at, up2_r64, r64_at, o_add, o_sub, o_mul, o_neg, q_add, q_sub, q_mul, q_neg, o_32, cast_s, Int.toNat_natCast, o_lt (a := (k : Int)) (b := (k : Int)) (by omega), g]
  | succ r ih =>
    intro k X hk hX hT
    have g : (k : Int) < P := by omega
    have hok := hG.2.2.2.1 k (by omega)
    have hX' := nd_lt (i := o k) hX
    have hT' : ∀ p, p < n → (X &&& (1023 ^^^ 2 ^ o k)).testBit (o p) = decide (k + 1 ≤ p) := by
      intro p hp
      have hop := hG.2.2.2.1 p hp
      rw [nd_t (by omega), hT p hp]
      by_cases e : o k = o p
      · have := o_inj hG (by omega) hp e
        subst this
        simp
      · have : k ≠ p := fun e' => e (by rw [e'])
        simp only [e, decide_false, Bool.not_false, Bool.and_true, decide_eq_decide]
        omega
    have hlow := fOA_low (α := α) (n := n) (m := m) (o := o) (X := X &&& (1023 ^^^ 2 ^ o k)) (P := k + 1) hG (fun p hp h => by rw [hT' p hp] at h; exact of_decide_eq_true h) (by omega) (by rw [hT' (k + 1) (by omega)]; exact decide_eq_true (Nat.le_refl _))
    have c204' := fun Q => c204 (d := d) (N := N) (t := t) (w := w) (I := I) (L := L) (D := D) (Q := Q) (α := α) (n := n) (X := X &&& (1023 ^^^ 2 ^ o k)) (hi := false) hw hG.1 hX'
    simp only [hlow, Bool.false_eq_true, if_false] at c204'
    rw [w203_19]
    simp only [w203_0, w203_1, w203_2, w203_5, w203_6, w203_7, w203_8, w203_9, w203_10, w203_11, w203_12, w203_15, w203_16, w203_17, w203_21, w203_22, w203_25, w203_26, w203_27, w203_28, w203_29, w203_30, w203_31, w203_32, w203_33, w203_34, w203_35, w203_36, w203_39, w203_40, w203_43, w203_46, w203_47, kn_s, kn_n, zh_mk, zR_mk, zI_mk, zL_mk, zD_mk, wI_mk, wL_mk, wD_mk, zT_mk, zC_mk, kill_i, kill_r, kill_0, kill_n, kill_l, kill_q, zzk_r, zzk_0, zzk_q, zcat_r, zcat_i, zcat_0, cats_0, cats_i, cats_r, cats_l, cats_d, cats_f, rv_s, rv_0, Nat.reduceAdd, Nat.reduceLeDiff, Nat.add_zero, Nat.reduceMul, Nat.reduceSub, ne_eq, not_false_eq_true, not_true_eq_false, and_self, and_true, true_and, or_self, or_true, true_or, or_false, false_or, if_true, if_false, reduceIte, reduceCtorEq, implies_true, ite_self, ite_not, kM, kMr, kRow hw, sR_at, up2_r64, r64_at, o_add, o_sub, o_mul, o_neg, q_add, q_sub, q_mul, q_neg, o_32, cast_s, Int.toNat_natCast, o_lt (a := (k : Int)) (b := (P : Int)) (by omega), g, nd_e hX (show o k < 10 by omega), c204']
    exact ih (k + 1) _ (by omega) hX' hT'
theorem c203 (hw : RW w) (hG : GA α n m o) {P : Nat} (hP : P < n) : Wp (d + 2) 203 0 [some (.ref 294), some (.int (Int32.ofInt (P : Int))), none, none, none] [] (mk N t w I (sR L w (r64 α)) D) Q = Q (.inl (some (.int (Int32.ofInt (o P : Int))))) (mk N t w I (sR L w (r64 α)) D) := by
  have h10 := hG.1.1
  have hl := lt_e h10
  have hT : ∀ p, p < n → (2 ^ n - 1).testBit (o p) = decide (0 ≤ p) := fun p hp => by
    rw [hl.2.2]
    have := hG.2.2.2.1 p hp
    simp only [this, decide_true, Nat.zero_le]
  have hlow := fOA_low (α := α) (n := n) (m := m) (o := o) (X := 2 ^ n - 1) (P := 0) hG (fun p _ _ => Nat.zero_le p) (by omega) (by rw [hT 0 (by omega)]; exact decide_eq_true (Nat.le_refl _))
  have c204' := fun Q => c204 (d := d) (N := N) (t := t) (w := w) (I := I) (L := L) (D := D) (Q := Q) (α := α) (n := n) (X := 2 ^ n - 1) (hi := false) hw hG.1 hl.2.1
  simp only [hlow, Bool.false_eq_true, if_false] at c204'
  have := c203_19 (d := d) (N := N) (t := t) (w := w) (I := I) (L := L) (D := D) (Q := Q) hw hG hP P 0 (2 ^ n - 1) (by omega) hl.2.1 hT
  simp only [w203_0, w203_1, w203_2, w203_5, w203_6, w203_7, w203_8, w203_9, w203_10, w203_11, w203_12, w203_15, w203_16, w203_17, w203_21, w203_22, w203_25, w203_26, w203_27, w203_28, w203_29, w203_30, w203_31, w203_32, w203_33, w203_34, w203_35, w203_36, w203_39, w203_40, w203_43, w203_46, w203_47, kn_s, kn_n, zh_mk, zR_mk, zI_mk, zL_mk, zD_mk, wI_mk, wL_mk, wD_mk, zT_mk, zC_mk, kill_i, kill_r, kill_0, kill_n, kill_l, kill_q, zzk_r, zzk_0, zzk_q, zcat_r, zcat_i, zcat_0, cats_0, cats_i, cats_r, cats_l, cats_d, cats_f, rv_s, rv_0, Nat.reduceAdd, Nat.reduceLeDiff, Nat.add_zero, Nat.reduceMul, Nat.reduceSub, ne_eq, not_false_eq_true, not_true_eq_false, and_self, and_true, true_and, or_self, or_true, true_or, or_false, false_or, if_true, if_false, reduceIte, reduceCtorEq, implies_true, ite_self, ite_not, kM, kMr, kRow hw, sR_at, up2_r64, r64_at, o_add, o_sub, o_mul, o_neg, q_add, q_sub, q_mul, q_neg, o_32, cast_s, Int.toNat_natCast, c176 hw, hG.1.2.1, hl.1, c204']
  exact this
theorem c226 {z : Int} (hz : -2147483648 ≤ z ∧ z < 2147483648) {σ : St} : Wp (d + 1) 226 0 [some (.int (Int32.ofInt z))] [] σ Q = Q (.inl (some (.int (pI (0 ≤ z ∧ z ≤ 100))))) σ := by
  simp only [w226_0, w226_1, w226_2, w226_3, w226_6, w226_9, kn_s, kn_n, zh_mk, zR_mk, zI_mk, zL_mk, zD_mk, wI_mk, wL_mk, wD_mk, zT_mk, zC_mk, kill_i, kill_r, kill_0, kill_n, kill_l, kill_q, zzk_r, zzk_0, zzk_q, zcat_r, zcat_i, zcat_0, cats_0, cats_i, cats_r, cats_l, cats_d, cats_f, rv_s, rv_0, Nat.reduceAdd, Nat.reduceLeDiff, Nat.add_zero, Nat.reduceMul, Nat.reduceSub, ne_eq, not_false_eq_true, not_true_eq_false, and_self, and_true, true_and, or_self, or_true, true_or, or_false, false_or, if_true, if_false, reduceIte, reduceCtorEq, implies_true, ite_self, ite_not, o_64 hz, c154 (a := z) (b := 0) (c := 100) (by omega), p_n]
theorem c249 {z : Int} (hz : -2147483648 ≤ z ∧ z < 2147483648) {σ : St} : Wp (d + 1) 249 0 [some (.int (Int32.ofInt z))] [] σ Q = Q (.inl (some (.int (pI (0 ≤ z ∧ z ≤ 50))))) σ := by
  simp only [w249_0, w249_1, w249_2, w249_3, w249_6, w249_9, kn_s, kn_n, zh_mk, zR_mk, zI_mk, zL_mk, zD_mk, wI_mk, wL_mk, wD_mk, zT_mk, zC_mk, kill_i, kill_r, kill_0, kill_n, kill_l, kill_q, zzk_r, zzk_0, zzk_q, zcat_r, zcat_i, zcat_0, cats_0, cats_i, cats_r, cats_l, cats_d, cats_f, rv_s, rv_0, Nat.reduceAdd, Nat.reduceLeDiff, Nat.add_zero, Nat.reduceMul, Nat.reduceSub, ne_eq, not_false_eq_true, not_true_eq_false, and_self, and_true, true_and, or_self, or_true, true_or, or_false, false_or, if_true, if_false, reduceIte, reduceCtorEq, implies_true, ite_self, ite_not, o_64 hz, c154 (a := z) (b := 0) (c := 50) (by omega), p_n]
/-- the fastest ball -/
def ftA (α : Nat → Int) : Nat → Nat → Int → Int
  | 0, _, best => best
  | r + 1, i, best => ftA α r (i + 1) (if best = -1 ∨ zabs (α (B9 best.toNat 1)) < zabs (α (B9 i 1)) then (i : Int) else best)
theorem ftA_s {r i : Nat} {best : Int} : ftA α (r + 1) i best = ftA α r (i + 1) (if best = -1 ∨ zabs (α (B9 best.toNat 1)) < zabs (α (B9 i 1)) then (i : Int) else best) := nr rfl
theorem c219_9 (hw : RW w) (hB : GB α n) : ∀ (r i : Nat) (best : Int), i + r = n → -1 ≤ best ∧ best < n → Wp (d + 3) 219 9 [some (.ref 294), some (.int (Int32.ofInt best)), some (.int (Int32.ofInt (i : Int)))] [] (mk N t w I (sR L w (r64 α)) D) Q = Q (.inl (some (.int (Int32.ofInt (ftA α r i best))))) (mk N t w I (sR L w (r64 α)) D) := by
  obtain ⟨h1, h2, h3, h4, h5⟩ := hB
  have hza : ∀ i, i < n → -2147483648 ≤ zabs (α (B9 i 1)) ∧ zabs (α (B9 i 1)) < 2147483648 := by
    intro i hi
    have := (h5 i hi).2.1
    unfold zabs
    split <;> omega
  intro r
  induction r with
  | zero =>
    intro i best hi hb
    have g : ¬ ((i : Int) < n) := by omega
    rw [w219_9]
    simp only [w219_0, w219_1, w219_2, w219_5, w219_6, w219_7, w219_8, w219_10, w219_11, w219_14, w219_17, w219_18, w219_19, w219_22, w219_23, w219_24, w219_27, w219_28, w219_29, w219_32, w219_35, w219_36, w219_39, w219_40, w219_41, w219_44, w219_47, w219_48, kn_s, kn_n, zh_mk, zR_mk, zI_mk, zL_mk, zD_mk, wI_mk, wL_mk, wD_mk, zT_mk, zC_mk, kill_i, kill_r, kill_0, kill_n, kill_l, kill_q, zzk_r, zzk_0, zzk_q, zcat_r, zcat_i, zcat_0, cats_0, cats_i, cats_r, cats_l, cats_d, cats_f, rv_s, rv_0, Nat.reduceAdd, Nat.reduceLeDiff, Nat.add_zero, Nat.reduceMul, Nat.reduceSub, ne_eq, not_false_eq_true, not_true_eq_false, and_self, and_true, true_and, or_self, or_true, true_or, or_false, false_or, if_true, if_false, reduceIte, reduceCtorEq, implies_true, ite_self, ite_not, kM, kMr, kRow hw, sR_at, up2_r64, r64_at, o_add, o_sub, o_mul, o_neg, q_add, q_sub, q_mul, q_neg, o_32, cast_s, Int.toNat_natCast, c176 hw, h2, o_lt (a := (i : Int)) (b := (n : Int)) (by omega), g, ftA]
  | succ r ih =>
    intro i best hi hb
    have g : (i : Int) < n := by omega
    rw [w219_9, ftA_s]
    have z1 := hza i (by omega)
    by_cases hx : best = -1
    · simp only [eq_true hx, true_or, if_true]
      simp only [w219_0, w219_1, w219_2, w219_5, w219_6, w219_7, w219_8, w219_10, w219_11, w219_14, w219_17, w219_18, w219_19, w219_22, w219_23, w219_24, w219_27, w219_28, w219_29, w219_32, w219_35, w219_36, w219_39, w219_40, w219_41, w219_44, w219_47, w219_48, kn_s, kn_n, zh_mk, zR_mk, zI_mk, zL_mk, zD_mk, wI_mk, wL_mk, wD_mk, zT_mk, zC_mk, kill_i, kill_r, kill_0, kill_n, kill_l, kill_q, zzk_r, zzk_0, zzk_q, zcat_r, zcat_i, zcat_0, cats_0, cats_i, cats_r, cats_l, cats_d, cats_f, rv_s, rv_0, Nat.reduceAdd, Nat.reduceLeDiff, Nat.add_zero, Nat.reduceMul, Nat.reduceSub, ne_eq, not_false_eq_true, not_true_eq_false, and_self, and_true, true_and, or_self, or_true, true_or, or_false, false_or, if_true, if_false, reduceIte, reduceCtorEq, implies_true, ite_self, ite_not, kM, kMr, kRow hw, sR_at, up2_r64, r64_at, o_add, o_sub, o_mul, o_neg, q_add, q_sub, q_mul, q_neg, o_32, cast_s, Int.toNat_natCast, c176 hw, h2, o_lt (a := (i : Int)) (b := (n : Int)) (by omega), g, o_eq (a := best) (b := -1) (by omega), eq_true hx, ih (i + 1) (i : Int) (by omega) (by omega)]
    · obtain ⟨j, rfl⟩ : ∃ j : Nat, best = (j : Int) := ⟨best.toNat, by omega⟩
      have z2 := hza j (by omega)
      simp only [eq_false hx, false_or, Int.toNat_natCast]
      by_cases hy : zabs (α (B9 j 1)) < zabs (α (B9 i 1))
      · simp only [w219_0, w219_1, w219_2, w219_5, w219_6, w219_7, w219_8, w219_10, w219_11, w219_14, w219_17, w219_18, w219_19, w219_22, w219_23, w219_24, w219_27, w219_28, w219_29, w219_32, w219_35, w219_36, w219_39, w219_40, w219_41, w219_44, w219_47, w219_48, kn_s, kn_n, zh_mk, zR_mk, zI_mk, zL_mk, zD_mk, wI_mk, wL_mk, wD_mk, zT_mk, zC_mk, kill_i, kill_r, kill_0, kill_n, kill_l, kill_q, zzk_r, zzk_0, zzk_q, zcat_r, zcat_i, zcat_0, cats_0, cats_i, cats_r, cats_l, cats_d, cats_f, rv_s, rv_0, Nat.reduceAdd, Nat.reduceLeDiff, Nat.add_zero, Nat.reduceMul, Nat.reduceSub, ne_eq, not_false_eq_true, not_true_eq_false, and_self, and_true, true_and, or_self, or_true, true_or, or_false, false_or, if_true, if_false, reduceIte, reduceCtorEq, implies_true, ite_self, ite_not, kM, kMr, kRow hw, sR_at, up2_r64, r64_at, o_add, o_sub, o_mul, o_neg, q_add, q_sub, q_mul, q_neg, o_32, cast_s, Int.toNat_natCast, c176 hw, h2, o_lt (a := (i : Int)) (b := (n : Int)) (by omega), g, o_eq (a := (j : Int)) (b := -1) (by omega), eq_false hx, c220 hw (show i < 10 by omega) (h5 i (by omega)).2.1, c220 hw (show j < 10 by omega) (h5 j (by omega)).2.1, o_lt (a := zabs (α (B9 j 1))) (b := zabs (α (B9 i 1))) (by omega), eq_true hy, ih (i + 1) (i : Int) (by omega) (by omega)]
      · simp only [w219_0, w219_1, w219_2, w219_5, w219_6, w219_7, w219_8, w219_10, w219_11, w219_14, w219_17, w219_18, w219_19, w219_22, w219_23, w219_24, w219_27, w219_28, w219_29, w219_32, w219_35, w219_36, w219_39, w219_40, w219_41, w219_44, w219_47, w219_48, kn_s, kn_n, zh_mk, zR_mk, zI_mk, zL_mk, zD_mk, wI_mk, wL_mk, wD_mk, zT_mk, zC_mk, kill_i, kill_r, kill_0, kill_n, kill_l, kill_q, zzk_r, zzk_0, zzk_q, zcat_r, zcat_i, zcat_0, cats_0, cats_i, cats_r, cats_l, cats_d, cats_f, rv_s, rv_0, Nat.reduceAdd, Nat.reduceLeDiff, Nat.add_zero, Nat.reduceMul, Nat.reduceSub, ne_eq, not_false_eq_true, not_true_eq_false, and_self, and_true, true_and, or_self, or_true, true_or, or_false, false_or, if_true, if_false, reduceIte, reduceCtorEq, implies_true, ite_self, ite_not, kM, kMr, kRow hw, sR_at, up2_r64, r64_at, o_add, o_sub, o_mul, o_neg, q_add, q_sub, q_mul, q_neg, o_32, cast_s, Int.toNat_natCast, c176 hw, h2, o_lt (a := (i : Int)) (b := (n : Int)) (by omega), g, o_eq (a := (j : Int)) (b := -1) (by omega), eq_false hx, c220 hw (show i < 10 by omega) (h5 i (by omega)).2.1, c220 hw (show j < 10 by omega) (h5 j (by omega)).2.1, o_lt (a := zabs (α (B9 j 1))) (b := zabs (α (B9 i 1))) (by omega), eq_false hy, ih (i + 1) (j : Int) (by omega) (by omega)]
theorem c219 (hw : RW w) (hB : GB α n) : Wp (d + 3) 219 0 [some (.ref 294), none, none] [] (mk N t w I (sR L w (r64 α)) D) Q = Q (.inl (some (.int (Int32.ofInt (ftA α n 0 (-1)))))) (mk N t w (up2 I 294 0 (Int32.ofInt 0)) (sR L w (r64 α)) D) := by
  have := c219_9 (d := d) (N := N) (t := t) (w := w) (I := up2 I 294 0 (Int32.ofInt 0)) (L := L) (D := D) (Q := Q) hw hB n 0 (-1) (by omega) (by omega)
  simp only [w219_0 zzk_r, w219_1, w219_2, w219_5, w219_6, w219_7, w219_8, kn_s, kn_n, zh_mk, zR_mk, zI_mk, zL_mk, zD_mk, wI_mk, wL_mk, wD_mk, zT_mk, zC_mk, kill_i, kill_r, kill_0, kill_n, kill_l, kill_q, zzk_r, zzk_0, zzk_q, zcat_r, zcat_i, zcat_0, cats_0, cats_i, cats_r, cats_l, cats_d, cats_f, rv_s, rv_0, Nat.reduceAdd, Nat.reduceLeDiff, Nat.add_zero, Nat.reduceMul, Nat.reduceSub, ne_eq, not_false_eq_true, not_true_eq_false, and_self, and_true, true_and, or_self, or_true, true_or, or_false, false_or, if_true, if_false, reduceIte, reduceCtorEq, implies_true, ite_self, ite_not, kM]
  exact this
/-- the balls that go to one side -/
def gnA (α : Nat → Int) (s : Bool) : Nat → Nat
  | 0 => 0
  | i + 1 => if (if s then 0 < α (B9 i 1) else α (B9 i 1) < 0) then gnA α s i ||| 2 ^ i else gnA α s i
theorem gnA_lt {s : Bool} : ∀ i, i ≤ 10 → gnA α s i < 1024
  | 0, _ => by unfold gnA; omega
  | i + 1, h => by
    have h1 := gnA_lt (s := s) i (by omega)
    have h2 := or_lt (i := i) h1 (by omega)
    unfold gnA
    cases s
    · simp only [Bool.false_eq_true, if_false]
      split
      · exact h2
      · exact h1
    · simp only [if_true]
      split
      · exact h2
      · exact h1
theorem gnA_s {s : Bool} {i : Nat} : gnA α s (i + 1) = if (if s = true then 0 < α (B9 i 1) else α (B9 i 1) < 0) then gnA α s i ||| 2 ^ i else gnA α s i := nr rfl
theorem c221_9 (hw : RW w) (hB : GB α n) {s : Bool} : ∀ (r i : Nat), i + r = n → Wp (d + 2) 221 9 [some (.ref 294), some (.int (Int32.ofInt (if s then 1 else 0))), some (.int (Int32.ofInt (gnA α s i : Int))), some (.int (Int32.ofInt (i : Int)))] [] (mk N t w I (sR L w (r64 α)) D) Q = Q (.inl (some (.int (Int32.ofInt (gnA α s n : Int))))) (mk N t w I (sR L w (r64 α)) D) := by
  obtain ⟨h1, h2, h3, h4, h5⟩ := hB
  intro r
  induction r with
  | zero =>
    intro i hi
    obtain rfl : i = n := by omega
    have g : ¬ ((i : Int) < i) := by omega
    rw [w221_9]
    simp only [w221_0, w221_1, w221_2, w221_5, w221_6, w221_7, w221_8, w221_10, w221_11, w221_14, w221_17, w221_18, w221_19, w221_22, w221_23, w221_24, w221_27, w221_30, w221_31, w221_34, w221_35, w221_36, w221_39, w221_42, w221_43, w221_44, w221_45, w221_48, w221_49, w221_50, w221_51, w221_54, w221_57, w221_58, kn_s, kn_n, zh_mk, zR_mk, zI_mk, zL_mk, zD_mk, wI_mk, wL_mk, wD_mk, zT_mk, zC_mk, kill_i, kill_r, kill_0, kill_n, kill_l, kill_q, zzk_r, zzk_0, zzk_q, zcat_r, zcat_i, zcat_0, cats_0, cats_i, cats_r, cats_l, cats_d, cats_f, rv_s, rv_0, Nat.reduceAdd, Nat.reduceLeDiff, Nat.add_zero, Nat.reduceMul, Nat.reduceSub, ne_eq, not_false_eq_true, not_true_eq_false, and_self, and_true, true_and, or_self, or_true, true_or, or_false, false_or, if_true, if_false, reduceIte, reduceCtorEq, implies_true, ite_self, ite_not, kM, kMr, kRow hw, sR_at, up2_r64, r64_at, o_add, o_sub, o_mul, o_neg, q_add, q_sub, q_mul, q_neg, o_32, cast_s, Int.toNat_natCast, c176 hw, h2, o_lt (a := (i : Int)) (b := (i : Int)) (by omega), g]
  | succ r ih =>
    intro i hi
    have g : (i : Int) < n := by omega
    have hs := (h5 i (by omega)).2.1
    have ih' := ih (i + 1) (by omega)
    have hl := gnA_lt (α := α) (s := s) i (by omega)
    rw [gnA_s] at ih'
    rw [w221_9]
    cases s
    · simp only [Bool.false_eq_true, if_false] at ih' ⊢
      by_cases hx : α (B9 i 1) < 0
      · simp only [eq_true hx, if_true] at ih'
        simp only [w221_0, w221_1, w221_2, w221_5, w221_6, w221_7, w221_8, w221_10, w221_11, w221_14, w221_17, w221_18, w221_19, w221_22, w221_23, w221_24, w221_27, w221_30, w221_31, w221_34, w221_35, w221_36, w221_39, w221_42, w221_43, w221_44, w221_45, w221_48, w221_49, w221_50, w221_51, w221_54, w221_57, w221_58, kn_s, kn_n, zh_mk, zR_mk, zI_mk, zL_mk, zD_mk, wI_mk, wL_mk, wD_mk, zT_mk, zC_mk, kill_i, kill_r, kill_0, kill_n, kill_l, kill_q, zzk_r, zzk_0, zzk_q, zcat_r, zcat_i, zcat_0, cats_0, cats_i, cats_r, cats_l, cats_d, cats_f, rv_s, rv_0, Nat.reduceAdd, Nat.reduceLeDiff, Nat.add_zero, Nat.reduceMul, Nat.reduceSub, ne_eq, not_false_eq_true, not_true_eq_false, and_self, and_true, true_and, or_self, or_true, true_or, or_false, false_or, if_true, if_false, reduceIte, reduceCtorEq, implies_true, ite_self, ite_not, kM, kMr, kRow hw, sR_at, up2_r64, r64_at, o_add, o_sub, o_mul, o_neg, q_add, q_sub, q_mul, q_neg, o_32, cast_s, Int.toNat_natCast, c176 hw, h2, o_lt (a := (i : Int)) (b := (n : Int)) (by omega), g, i00, c194 hw (show i < 10 by omega), o_lt (a := α (B9 i 1)) (b := 0) (by omega), eq_true hx, or_e hl (show i < 10 by omega), ih']
      · simp only [eq_false hx, if_false] at ih'
        simp only [w221_0, w221_1, w221_2, w221_5, w221_6, w221_7, w221_8, w221_10, w221_11, w221_14, w221_17, w221_18, w221_19, w221_22, w221_23, w221_24, w221_27, w221_30, w221_31, w221_34, w221_35, w221_36, w221_39, w221_42, w221_43, w221_44, w221_45, w221_48, w221_49, w221_50, w221_51, w221_54, w221_57, w221_58, kn_s, kn_n, zh_mk, zR_mk, zI_mk, zL_mk, zD_mk, wI_mk, wL_mk, wD_mk, zT_mk, zC_mk, kill_i, kill_r, kill_0, kill_n, kill_l, kill_q, zzk_r, zzk_0, zzk_q, zcat_r, zcat_i, zcat_0, cats_0, cats_i, cats_r, cats_l, cats_d, cats_f, rv_s, rv_0, Nat.reduceAdd, Nat.reduceLeDiff, Nat.add_zero, Nat.reduceMul, Nat.reduceSub, ne_eq, not_false_eq_true, not_true_eq_false, and_self, and_true, true_and, or_self, or_true, true_or, or_false, false_or, if_true, if_false, reduceIte, reduceCtorEq, implies_true, ite_self, ite_not, kM, kMr, kRow hw, sR_at, up2_r64, r64_at, o_add, o_sub, o_mul, o_neg, q_add, q_sub, q_mul, q_neg, o_32, cast_s, Int.toNat_natCast, c176 hw, h2, o_lt (a := (i : Int)) (b := (n : Int)) (by omega), g, i00, c194 hw (show i < 10 by omega), o_lt (a := α (B9 i 1)) (b := 0) (by omega), eq_false hx, or0, ih']
    · simp only [if_true] at ih' ⊢
      by_cases hx : 0 < α (B9 i 1)
      · simp only [eq_true hx, if_true] at ih'
        simp only [w221_0, w221_1, w221_2, w221_5, w221_6, w221_7, w221_8, w221_10, w221_11, w221_14, w221_17, w221_18, w221_19, w221_22, w221_23, w221_24, w221_27, w221_30, w221_31, w221_34, w221_35, w221_36, w221_39, w221_42, w221_43, w221_44, w221_45, w221_48, w221_49, w221_50, w221_51, w221_54, w221_57, w221_58, kn_s, kn_n, zh_mk, zR_mk, zI_mk, zL_mk, zD_mk, wI_mk, wL_mk, wD_mk, zT_mk, zC_mk, kill_i, kill_r, kill_0, kill_n, kill_l, kill_q, zzk_r, zzk_0, zzk_q, zcat_r, zcat_i, zcat_0, cats_0, cats_i, cats_r, cats_l, cats_d, cats_f, rv_s, rv_0, Nat.reduceAdd, Nat.reduceLeDiff, Nat.add_zero, Nat.reduceMul, Nat.reduceSub, ne_eq, not_false_eq_true, not_true_eq_false, and_self, and_true, true_and, or_self, or_true, true_or, or_false, false_or, if_true, if_false, reduceIte, reduceCtorEq, implies_true, ite_self, ite_not, kM, kMr, kRow hw, sR_at, up2_r64, r64_at, o_add, o_sub, o_mul, o_neg, q_add, q_sub, q_mul, q_neg, o_32, cast_s, Int.toNat_natCast, c176 hw, h2, o_lt (a := (i : Int)) (b := (n : Int)) (by omega), g, i10, c194 hw (show i < 10 by omega), o_lt (a := 0) (b := α (B9 i 1)) (by omega), eq_true hx, or_e hl (show i < 10 by omega), ih']
      · simp only [eq_false hx, if_false] at ih'
        simp only [w221_0, w221_1, w221_2, w221_5, w221_6, w221_7, w221_8, w221_10, w221_11, w221_14, w221_17, w221_18, w221_19, w221_22, w221_23, w221_24, w221_27, w221_30, w221_31, w221_34, w221_35, w221_36, w221_39, w221_42, w221_43, w221_44, w221_45, w221_48, w221_49, w221_50, w221_51, w221_54, w221_57, w221_58, kn_s, kn_n, zh_mk, zR_mk, zI_mk, zL_mk, zD_mk, wI_mk, wL_mk, wD_mk, zT_mk, zC_mk, kill_i, kill_r, kill_0, kill_n, kill_l, kill_q, zzk_r, zzk_0, zzk_q, zcat_r, zcat_i, zcat_0, cats_0, cats_i, cats_r, cats_l, cats_d, cats_f, rv_s, rv_0, Nat.reduceAdd, Nat.reduceLeDiff, Nat.add_zero, Nat.reduceMul, Nat.reduceSub, ne_eq, not_false_eq_true, not_true_eq_false, and_self, and_true, true_and, or_self, or_true, true_or, or_false, false_or, if_true, if_false, reduceIte, reduceCtorEq, implies_true, ite_self, ite_not, kM, kMr, kRow hw, sR_at, up2_r64, r64_at, o_add, o_sub, o_mul, o_neg, q_add, q_sub, q_mul, q_neg, o_32, cast_s, Int.toNat_natCast, c176 hw, h2, o_lt (a := (i : Int)) (b := (n : Int)) (by omega), g, i10, c194 hw (show i < 10 by omega), o_lt (a := 0) (b := α (B9 i 1)) (by omega), eq_false hx, or0, ih']
theorem c221 (hw : RW w) (hB : GB α n) {s : Bool} : Wp (d + 2) 221 0 [some (.ref 294), some (.int (Int32.ofInt (if s then 1 else 0))), none, none] [] (mk N t w I (sR L w (r64 α)) D) Q = Q (.inl (some (.int (Int32.ofInt (gnA α s n : Int))))) (mk N t w (up2 I 294 0 (Int32.ofInt 0)) (sR L w (r64 α)) D) := by
  have := c221_9 (d := d) (N := N) (t := t) (w := w) (I := up2 I 294 0 (Int32.ofInt 0)) (L := L) (D := D) (Q := Q) (s := s) hw hB n 0 (by omega)
  simp only [w221_0 zzk_r, w221_1, w221_2, w221_5, w221_6, w221_7, w221_8, kn_s, kn_n, zh_mk, zR_mk, zI_mk, zL_mk, zD_mk, wI_mk, wL_mk, wD_mk, zT_mk, zC_mk, kill_i, kill_r, kill_0, kill_n, kill_l, kill_q, zzk_r, zzk_0, zzk_q, zcat_r, zcat_i, zcat_0, cats_0, cats_i, cats_r, cats_l, cats_d, cats_f, rv_s, rv_0, Nat.reduceAdd, Nat.reduceLeDiff, Nat.add_zero, Nat.reduceMul, Nat.reduceSub, ne_eq, not_false_eq_true, not_true_eq_false, and_self, and_true, true_and, or_self, or_true, true_or, or_false, false_or, if_true, if_false, reduceIte, reduceCtorEq, implies_true, ite_self, ite_not, kM]
  exact this
end S59
