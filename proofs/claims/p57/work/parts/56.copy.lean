/-! CONTRACTS of the class: a line copied into another one -/
noncomputable def mg {β : Type} (P : Nat → Nat → Prop) (s ℓ : Nat → Nat → β) : Nat → Nat → β := fun o k => @ite β (P o k) (Classical.propDecidable _) (s o k) (ℓ o k)
section S56
variable {β : Type} {P P' : Nat → Nat → Prop} {s ℓ : Nat → Nat → β}
theorem mg_y {o k : Nat} (h : P o k) : mg P s ℓ o k = s o k := by
  unfold mg
  rw [if_pos h]
theorem mg_n {o k : Nat} (h : ¬ P o k) : mg P s ℓ o k = ℓ o k := by
  unfold mg
  rw [if_neg h]
theorem mg_up {o k : Nat} : up2 (mg P s ℓ) o k (s o k) = mg (fun a j => P a j ∨ (a = o ∧ j = k)) s ℓ := by
  funext a j
  by_cases h : a = o ∧ j = k
  · rw [mg_y (Or.inr h), h.1, h.2, up2_same]
  · rw [u2_ne (by omega)]
    by_cases h2 : P a j
    · rw [mg_y h2, mg_y (Or.inl h2)]
    · rw [mg_n h2, mg_n (fun e => e.elim h2 h)]
theorem mg_c (h : ∀ o k, P o k ↔ P' o k) : mg P s ℓ = mg P' s ℓ := by
  rw [show P = P' from funext fun o => funext fun k => propext (h o k)]
theorem mg_0 (h : ∀ o k, ¬ P o k) : mg P s ℓ = ℓ := by
  funext o k
  rw [mg_n (h o k)]
end S56
/-- two lines apart -/
def apt (b b2 : Nat) : Prop := b2 + 27 ≤ b ∨ b + 27 ≤ b2
def cp9 (I : Nat → Nat → Int32) (a a2 : Nat) : Nat → Nat → Int32 := up2 (up2 (up2 (up2 (up2 (up2 (up2 (up2 (up2 I a 0 (I a2 0)) a 1 (I a2 1)) a 2 (I a2 2)) a 3 (I a2 3)) a 4 (I a2 4)) a 5 (I a2 5)) a 6 (I a2 6)) a 7 (I a2 7)) a 8 (I a2 8)
def cp3 (I : Nat → Nat → Int32) (a a2 : Nat) : Nat → Nat → Int32 := up2 (up2 (up2 I a 0 (I a2 0)) a 1 (I a2 1)) a 2 (I a2 2)
section S56b
variable {N : NX} {w : WX} {d t a a2 b b2 n m : Nat} {I ℓ : Nat → Nat → Int32} {L μ : Nat → Nat → Int64} {D : Nat → Nat → UInt64} {Q : Rs → St → Prop} {o : Nat → Nat} {α : Nat → Int} {P : Nat → Nat → Prop}
theorem c2 (h : KH N a = (1, 0)) (h2 : KH N a2 = (1, 0)) : Wp d 2 0 [some (.ref a), some (.ref a2)] [] (mk N t w I L D) Q = Q (.inl none) (mk N t w (cp9 I a a2) L D) := by
  simp only [w2_0, w2_1, w2_2, w2_5, w2_8, w2_9, w2_10, w2_13, w2_16, w2_17, w2_18, w2_21, w2_24, w2_25, w2_26, w2_29, w2_32, w2_33, w2_34, w2_37, w2_40, w2_41, w2_42, w2_45, w2_48, w2_49, w2_50, w2_53, w2_56, w2_57, w2_58, w2_61, w2_64, w2_65, w2_66, w2_69, w2_72, kn_s, kn_n, zh_mk, zR_mk, zI_mk, zL_mk, zD_mk, wI_mk, wL_mk, wD_mk, zT_mk, zC_mk, kill_i, kill_r, kill_0, kill_n, kill_l, kill_q, zzk_r, zzk_0, zzk_q, zcat_r, zcat_i, zcat_0, zcat_q, cats_0, cats_i, cats_r, cats_l, cats_d, cats_f, cats_q, cats_n, rv_s, rv_0, Nat.reduceAdd, Nat.reduceLeDiff, Nat.reduceEqDiff, Nat.add_zero, Nat.reduceMul, Nat.reduceSub, ne_eq, not_false_eq_true, not_true_eq_false, and_self, and_true, true_and, or_self, or_true, true_or, or_false, false_or, if_true, if_false, reduceIte, reduceCtorEq, implies_true, ite_self, ite_not, h, h2, up2_at, Nat.reduceEqDiff, and_false, cp9]
theorem c12 (h : KH N a = (2, 0)) (h2 : KH N a2 = (2, 0)) : Wp d 12 0 [some (.ref a), some (.ref a2)] [] (mk N t w I L D) Q = Q (.inl none) (mk N t w (cp3 I a a2) L D) := by
  simp only [w12_0, w12_1, w12_2, w12_5, w12_8, w12_9, w12_10, w12_13, w12_16, w12_17, w12_18, w12_21, w12_24, kn_s, kn_n, zh_mk, zR_mk, zI_mk, zL_mk, zD_mk, wI_mk, wL_mk, wD_mk, zT_mk, zC_mk, kill_i, kill_r, kill_0, kill_n, kill_l, kill_q, zzk_r, zzk_0, zzk_q, zcat_r, zcat_i, zcat_0, zcat_q, cats_0, cats_i, cats_r, cats_l, cats_d, cats_f, cats_q, cats_n, rv_s, rv_0, Nat.reduceAdd, Nat.reduceLeDiff, Nat.reduceEqDiff, Nat.add_zero, Nat.reduceMul, Nat.reduceSub, ne_eq, not_false_eq_true, not_true_eq_false, and_self, and_true, true_and, or_self, or_true, true_or, or_false, false_or, if_true, if_false, reduceIte, reduceCtorEq, implies_true, ite_self, ite_not, h, h2, up2_at, Nat.reduceEqDiff, and_false, cp3]
theorem lay_far {β : Type} {f g : Nat → Nat → β} {q k : Nat} (hd : apt b b2) (hq : q < 27) : lay b f g (b2 + q) k = g (b2 + q) k := by
  unfold apt at hd
  exact lay_out (by omega)
theorem lay_far0 {β : Type} {f g : Nat → Nat → β} {k : Nat} (hd : apt b b2) : lay b f g b2 k = g b2 k := by
  unfold apt at hd
  exact lay_out (by omega)
theorem mg_u2 {q k : Nat} (hd : apt b b2) (hq : q < 27) : up2 (lay b (mg P (gl b2 I) ℓ) I) (b + q) k (I (b2 + q) k) = lay b (mg (fun a j => P a j ∨ (a = q ∧ j = k)) (gl b2 I) ℓ) I := by
  rw [up2_lay hq, ← mg_up]
  rfl
theorem cp9_lay {q : Nat} (hd : apt b b2) (hq : q < 27) : cp9 (lay b (mg P (gl b2 I) ℓ) I) (b + q) (b2 + q) = lay b (mg (fun a j => P a j ∨ (a = q ∧ j < 9)) (gl b2 I) ℓ) I := by
  unfold cp9
  simp only [lay_far hd hq]
  rw [mg_u2 hd hq, mg_u2 hd hq, mg_u2 hd hq, mg_u2 hd hq, mg_u2 hd hq, mg_u2 hd hq, mg_u2 hd hq, mg_u2 hd hq, mg_u2 hd hq]
  rw [mg_c (P' := fun a j => P a j ∨ (a = q ∧ j < 9))]
  intro o k
  have e : k < 9 ↔ (k = 0 ∨ k = 1 ∨ k = 2 ∨ k = 3 ∨ k = 4 ∨ k = 5 ∨ k = 6 ∨ k = 7 ∨ k = 8) := by omega
  simp only [e, or_assoc, and_or_left]
theorem cp3_lay {q : Nat} (hd : apt b b2) (hq : q < 27) : cp3 (lay b (mg P (gl b2 I) ℓ) I) (b + q) (b2 + q) = lay b (mg (fun a j => P a j ∨ (a = q ∧ j < 3)) (gl b2 I) ℓ) I := by
  unfold cp3
  simp only [lay_far hd hq]
  rw [mg_u2 hd hq, mg_u2 hd hq, mg_u2 hd hq]
  rw [mg_c (P' := fun a j => P a j ∨ (a = q ∧ j < 3))]
  intro o k
  have e : k < 3 ↔ (k = 0 ∨ k = 1 ∨ k = 2) := by omega
  simp only [e, or_assoc, and_or_left]
theorem cpy_lay {q z : Nat} (hd : apt b b2) (hq : q < 27) : cpy2 (lay b (mg P (gl b2 I) ℓ) I) (b2 + q) (b + q) 0 0 z = lay b (mg (fun a j => P a j ∨ (a = q ∧ j < z)) (gl b2 I) ℓ) I := by
  funext a k
  unfold cpy2
  by_cases h : a = b + q
  · subst h
    rw [if_pos rfl, lay_in hq]
    unfold va_cpy
    by_cases hk : k < z
    · rw [if_pos (by omega), mg_y (Or.inr ⟨rfl, hk⟩), lay_far hd hq, show 0 + (k - 0) = k by omega]
      rfl
    · rw [if_neg (by omega), lay_in hq]
      by_cases hp : P q k
      · rw [mg_y hp, mg_y (Or.inl hp)]
      · rw [mg_n hp, mg_n (fun e => e.elim hp (fun e => hk e.2))]
  · rw [if_neg h]
    unfold lay
    by_cases h2 : b ≤ a ∧ a < b + 27
    · rw [if_pos h2, if_pos h2]
      by_cases hp : P (a - b) k
      · rw [mg_y hp, mg_y (Or.inl hp)]
      · rw [mg_n hp, mg_n (fun e => e.elim hp (fun e => by omega))]
    · rw [if_neg h2, if_neg h2]
/-- copied so far -/
def PB (i : Nat) : Nat → Nat → Prop := fun o k => (o = 0 ∧ (k = 0 ∨ k = 1 ∨ k = 3)) ∨ (13 ≤ o ∧ o < 13 + i ∧ k < 9) ∨ (o = 2 ∧ k < i)
def PP (i : Nat) : Nat → Nat → Prop := fun o k => PB 10 o k ∨ (o = 0 ∧ k = 6) ∨ (23 ≤ o ∧ o < 23 + i ∧ k < 3)
/-- copied -/
def CP : Nat → Nat → Prop := fun o k => (o = 0 ∧ (k = 0 ∨ k = 1 ∨ k = 3 ∨ k = 6)) ∨ (o = 2 ∧ k < 10) ∨ ((o = 4 ∨ o = 5 ∨ (23 ≤ o ∧ o < 27)) ∧ k < 3) ∨ (o = 6 ∧ (k = 4 ∨ k = 5)) ∨ (7 ≤ o ∧ o < 11 ∧ k < 40) ∨ (o = 11 ∧ 4 ≤ k ∧ k ≤ 7) ∨ (o = 12 ∧ k < 100) ∨ (13 ≤ o ∧ o < 23 ∧ k < 9)
def muC (s μ : Nat → Nat → Int64) : Nat → Nat → Int64 := up2 (up2 (up2 μ 11 1 (s 11 1)) 11 2 (s 11 2)) 11 3 (s 11 3)
theorem c32_26 (hb : LB b) (hb2 : LB b2) (hd : apt b b2) : ∀ k i : Nat, i + k = 10 → Wp (d + 1) 32 26 [some (.ref b), some (.ref b2), some (.int (Int32.ofInt (i : Int)))] [] (mk N t w (lay b (mg (PB i) (gl b2 I) ℓ) I) L D) Q = Wp (d + 1) 32 65 [some (.ref b), some (.ref b2), some (.int (Int32.ofInt ((10 : Nat) : Int)))] [] (mk N t w (lay b (mg (PB 10) (gl b2 I) ℓ) I) L D) Q := by
  intro k
  induction k with
  | zero =>
    intro i hi
    obtain rfl : i = 10 := by omega
    have g0 : ¬ (((10 : Nat) : Int) < 10) := by omega
    rw [w32_26]
    simp only [w32_27, w32_29, kn_s, kn_n, zh_mk, zR_mk, zI_mk, zL_mk, zD_mk, wI_mk, wL_mk, wD_mk, zT_mk, zC_mk, kill_i, kill_r, kill_0, kill_n, kill_l, kill_q, zzk_r, zzk_0, zzk_q, zcat_r, zcat_i, zcat_0, zcat_q, cats_0, cats_i, cats_r, cats_l, cats_d, cats_f, cats_q, cats_n, rv_s, rv_0, Nat.reduceAdd, Nat.reduceLeDiff, Nat.reduceEqDiff, Nat.add_zero, Nat.reduceMul, Nat.reduceSub, ne_eq, not_false_eq_true, not_true_eq_false, and_self, and_true, true_and, or_self, or_true, true_or, or_false, false_or, if_true, if_false, reduceIte, reduceCtorEq, implies_true, ite_self, ite_not, lay_in, lay_0, up2_lay, up2_lay0, kh0, kh1, kh2, kh3, kh4, kh5, kh6, kh7, kh8, kh9, kh10, kh11, kh12, khB, khP, kr2, kr4, kr5, kr7, kr8, kr9, kr10, krB, krP, krG0, krG1, krG2, krG3, krK, Nat.reduceLT, o_add, o_sub, o_mul, o_neg, q_add, q_sub, q_mul, q_neg, o_32, cast_s, Int.toNat_natCast, hb, o_lt (a := ((10 : Nat) : Int)) (b := 10) (by omega), g0]
  | succ k ih =>
    intro i hi
    have g0 : (i : Int) < 10 := by omega
    have hi10 : i < 10 := by omega
    have ih' := ih (i + 1) (by omega)
    have e : mg (PB (i + 1)) (gl b2 I) ℓ = mg (fun a j => (PB i a j ∨ (a = i + 13 ∧ j < 9)) ∨ (a = 2 ∧ j = i)) (gl b2 I) ℓ := mg_c fun o k => by unfold PB; omega
    rw [e, ← mg_u2 hd (by omega)] at ih'
    rw [w32_26]
    simp only [w32_0, w32_1, w32_2, w32_5, w32_8, w32_9, w32_10, w32_13, w32_16, w32_17, w32_18, w32_21, w32_24, w32_25, w32_27, w32_29, w32_32, w32_33, w32_36, w32_37, w32_38, w32_39, w32_42, w32_43, w32_44, w32_47, w32_48, w32_51, w32_52, w32_53, w32_56, w32_57, w32_58, w32_59, w32_62, w32_66, w32_67, w32_70, w32_73, w32_74, w32_75, w32_76, w32_77, w32_80, w32_81, w32_84, w32_85, w32_86, w32_87, w32_90, w32_91, w32_92, w32_95, w32_98, w32_101, w32_102, w32_105, w32_106, w32_109, w32_112, w32_113, w32_116, w32_117, w32_120, w32_123, w32_124, w32_127, w32_128, w32_131, w32_134, w32_135, w32_138, w32_139, w32_142, w32_145, kn_s, kn_n, zh_mk, zR_mk, zI_mk, zL_mk, zD_mk, wI_mk, wL_mk, wD_mk, zT_mk, zC_mk, kill_i, kill_r, kill_0, kill_n, kill_l, kill_q, zzk_r, zzk_0, zzk_q, zcat_r, zcat_i, zcat_0, zcat_q, cats_0, cats_i, cats_r, cats_l, cats_d, cats_f, cats_q, cats_n, rv_s, rv_0, Nat.reduceAdd, Nat.reduceLeDiff, Nat.reduceEqDiff, Nat.add_zero, Nat.reduceMul, Nat.reduceSub, ne_eq, not_false_eq_true, not_true_eq_false, and_self, and_true, true_and, or_self, or_true, true_or, or_false, false_or, if_true, if_false, reduceIte, reduceCtorEq, implies_true, ite_self, ite_not, lay_in, lay_0, up2_lay, up2_lay0, kh0, kh1, kh2, kh3, kh4, kh5, kh6, kh7, kh8, kh9, kh10, kh11, kh12, khB, khP, kr2, kr4, kr5, kr7, kr8, kr9, kr10, krB, krP, krG0, krG1, krG2, krG3, krK, Nat.reduceLT, o_add, o_sub, o_mul, o_neg, q_add, q_sub, q_mul, q_neg, o_32, cast_s, Int.toNat_natCast, hb, hb2, hi10, o_lt (a := (i : Int)) (b := 10) (by omega), g0, o_ixn (j := i) (n := 10) (by omega), o_tnn (j := i) (by omega), c2 (khB (N := N) hb hi10) (khB (N := N) hb2 hi10)]
    rw [cp9_lay hd (by omega), lay_far hd (by omega)]
    exact ih'
theorem c32_75 (hb : LB b) (hb2 : LB b2) (hd : apt b b2) : ∀ k i : Nat, i + k = 4 → Wp (d + 1) 32 75 [some (.ref b), some (.ref b2), some (.int (Int32.ofInt (i : Int)))] [] (mk N t w (lay b (mg (PP i) (gl b2 I) ℓ) I) L D) Q = Wp (d + 1) 32 101 [some (.ref b), some (.ref b2), some (.int (Int32.ofInt ((4 : Nat) : Int)))] [] (mk N t w (lay b (mg (PP 4) (gl b2 I) ℓ) I) L D) Q := by
  intro k
  induction k with
  | zero =>
    intro i hi
    obtain rfl : i = 4 := by omega
    have g0 : ¬ (((4 : Nat) : Int) < 4) := by omega
    rw [w32_75]
    simp only [w32_76, w32_77, kn_s, kn_n, zh_mk, zR_mk, zI_mk, zL_mk, zD_mk, wI_mk, wL_mk, wD_mk, zT_mk, zC_mk, kill_i, kill_r, kill_0, kill_n, kill_l, kill_q, zzk_r, zzk_0, zzk_q, zcat_r, zcat_i, zcat_0, zcat_q, cats_0, cats_i, cats_r, cats_l, cats_d, cats_f, cats_q, cats_n, rv_s, rv_0, Nat.reduceAdd, Nat.reduceLeDiff, Nat.reduceEqDiff, Nat.add_zero, Nat.reduceMul, Nat.reduceSub, ne_eq, not_false_eq_true, not_true_eq_false, and_self, and_true, true_and, or_self, or_true, true_or, or_false, false_or, if_true, if_false, reduceIte, reduceCtorEq, implies_true, ite_self, ite_not, lay_in, lay_0, up2_lay, up2_lay0, kh0, kh1, kh2, kh3, kh4, kh5, kh6, kh7, kh8, kh9, kh10, kh11, kh12, khB, khP, kr2, kr4, kr5, kr7, kr8, kr9, kr10, krB, krP, krG0, krG1, krG2, krG3, krK, Nat.reduceLT, o_add, o_sub, o_mul, o_neg, q_add, q_sub, q_mul, q_neg, o_32, cast_s, Int.toNat_natCast, hb, o_lt (a := ((4 : Nat) : Int)) (b := 4) (by omega), g0]
  | succ k ih =>
    intro i hi
    have g0 : (i : Int) < 4 := by omega
    have hi4 : i < 4 := by omega
    have ih' := ih (i + 1) (by omega)
    have e : mg (PP (i + 1)) (gl b2 I) ℓ = mg (fun a j => PP i a j ∨ (a = i + 23 ∧ j < 3)) (gl b2 I) ℓ := mg_c fun o k => by unfold PP PB; omega
    rw [e] at ih'
    rw [w32_75]
    simp only [w32_0, w32_1, w32_2, w32_5, w32_8, w32_9, w32_10, w32_13, w32_16, w32_17, w32_18, w32_21, w32_24, w32_25, w32_26, w32_27, w32_29, w32_32, w32_33, w32_36, w32_37, w32_38, w32_39, w32_42, w32_43, w32_44, w32_47, w32_48, w32_51, w32_52, w32_53, w32_56, w32_57, w32_58, w32_59, w32_62, w32_65, w32_66, w32_67, w32_70, w32_73, w32_74, w32_76, w32_77, w32_80, w32_81, w32_84, w32_85, w32_86, w32_87, w32_90, w32_91, w32_92, w32_95, w32_98, w32_102, w32_105, w32_106, w32_109, w32_112, w32_113, w32_116, w32_117, w32_120, w32_123, w32_124, w32_127, w32_128, w32_131, w32_134, w32_135, w32_138, w32_139, w32_142, w32_145, kn_s, kn_n, zh_mk, zR_mk, zI_mk, zL_mk, zD_mk, wI_mk, wL_mk, wD_mk, zT_mk, zC_mk, kill_i, kill_r, kill_0, kill_n, kill_l, kill_q, zzk_r, zzk_0, zzk_q, zcat_r, zcat_i, zcat_0, zcat_q, cats_0, cats_i, cats_r, cats_l, cats_d, cats_f, cats_q, cats_n, rv_s, rv_0, Nat.reduceAdd, Nat.reduceLeDiff, Nat.reduceEqDiff, Nat.add_zero, Nat.reduceMul, Nat.reduceSub, ne_eq, not_false_eq_true, not_true_eq_false, and_self, and_true, true_and, or_self, or_true, true_or, or_false, false_or, if_true, if_false, reduceIte, reduceCtorEq, implies_true, ite_self, ite_not, lay_in, lay_0, up2_lay, up2_lay0, kh0, kh1, kh2, kh3, kh4, kh5, kh6, kh7, kh8, kh9, kh10, kh11, kh12, khB, khP, kr2, kr4, kr5, kr7, kr8, kr9, kr10, krB, krP, krG0, krG1, krG2, krG3, krK, Nat.reduceLT, o_add, o_sub, o_mul, o_neg, q_add, q_sub, q_mul, q_neg, o_32, cast_s, Int.toNat_natCast, hb, hb2, hi4, o_lt (a := (i : Int)) (b := 4) (by omega), g0, o_ixn (j := i) (n := 4) (by omega), o_tnn (j := i) (by omega), c12 (khP (N := N) hb hi4) (khP (N := N) hb2 hi4)]
    rw [cp3_lay hd (by omega)]
    exact ih'
theorem c48 (hb : LB b) (hb2 : LB b2) (hd : apt b b2) : Wp d 48 0 [some (.ref (b + 6)), some (.ref (b2 + 6))] [] (mk N t w (lay b (mg P (gl b2 I) ℓ) I) L D) Q = Q (.inl none) (mk N t w (lay b (mg (fun o k => P o k ∨ (7 ≤ o ∧ o < 11 ∧ k < 40) ∨ (o = 6 ∧ (k = 4 ∨ k = 5))) (gl b2 I) ℓ) I) L D) := by
  have hne : ∀ q q2 : Nat, q < 27 → q2 < 27 → b2 + q ≠ b + q2 := fun q q2 h1 h2 => by unfold apt at hd; omega
  have z0 : (Int32.ofInt 0 ≤ Int32.ofInt 0) = True := by decide
  have z40 : (Int32.ofInt 0 ≤ Int32.ofInt 40) = True := by decide
  have t0 : (Int32.ofInt 0).toNatClampNeg = 0 := by decide
  have t40 : (Int32.ofInt 40).toNatClampNeg = 40 := by decide
  have e : mg (fun o k => P o k ∨ (7 ≤ o ∧ o < 11 ∧ k < 40) ∨ (o = 6 ∧ (k = 4 ∨ k = 5))) (gl b2 I) ℓ = mg (fun a j => (((((P a j ∨ (a = 7 ∧ j < 40)) ∨ (a = 8 ∧ j < 40)) ∨ (a = 9 ∧ j < 40)) ∨ (a = 10 ∧ j < 40)) ∨ (a = 6 ∧ j = 4)) ∨ (a = 6 ∧ j = 5)) (gl b2 I) ℓ := mg_c fun o k => by
    constructor
    · rintro (h | h | h)
      · exact Or.inl (Or.inl (Or.inl (Or.inl (Or.inl (Or.inl h)))))
      · have : o = 7 ∨ o = 8 ∨ o = 9 ∨ o = 10 := by omega
        rcases this with rfl | rfl | rfl | rfl
        · exact Or.inl (Or.inl (Or.inl (Or.inl (Or.inl (Or.inr ⟨rfl, h.2.2⟩)))))
        · exact Or.inl (Or.inl (Or.inl (Or.inl (Or.inr ⟨rfl, h.2.2⟩))))
        · exact Or.inl (Or.inl (Or.inl (Or.inr ⟨rfl, h.2.2⟩)))
        · exact Or.inl (Or.inl (Or.inr ⟨rfl, h.2.2⟩))
      · rcases h with ⟨h1, h2 | h2⟩
        · exact Or.inl (Or.inr ⟨h1, h2⟩)
        · exact Or.inr ⟨h1, h2⟩
    · rintro ((((((h | h) | h) | h) | h) | h) | h)
      · exact Or.inl h
      all_goals exact Or.inr (by omega)
  rw [e, ← mg_u2 hd (by omega), ← mg_u2 hd (by omega), ← cpy_lay hd (by omega), ← cpy_lay hd (by omega), ← cpy_lay hd (by omega), ← cpy_lay hd (by omega)]
  simp only [w48_0, w48_1, w48_4, w48_5, w48_6, w48_9, w48_10, w48_12, w48_15, w48_16, w48_19, w48_20, w48_21, w48_24, w48_25, w48_27, w48_30, w48_31, w48_34, w48_35, w48_36, w48_39, w48_40, w48_42, w48_45, w48_46, w48_49, w48_50, w48_51, w48_54, w48_55, w48_57, w48_60, w48_61, w48_62, w48_65, w48_68, w48_69, w48_70, w48_73, w48_76, kn_s, kn_n, zh_mk, zR_mk, zI_mk, zL_mk, zD_mk, wI_mk, wL_mk, wD_mk, zT_mk, zC_mk, kill_i, kill_r, kill_0, kill_n, kill_l, kill_q, zzk_r, zzk_0, zzk_q, zcat_r, zcat_i, zcat_0, zcat_q, cats_0, cats_i, cats_r, cats_l, cats_d, cats_f, cats_q, cats_n, rv_s, rv_0, Nat.reduceAdd, Nat.reduceLeDiff, Nat.reduceEqDiff, Nat.add_zero, Nat.reduceMul, Nat.reduceSub, ne_eq, not_false_eq_true, not_true_eq_false, and_self, and_true, true_and, or_self, or_true, true_or, or_false, false_or, if_true, if_false, reduceIte, reduceCtorEq, implies_true, ite_self, ite_not, lay_in, lay_0, up2_lay, up2_lay0, kh0, kh1, kh2, kh3, kh4, kh5, kh6, kh7, kh8, kh9, kh10, kh11, kh12, khB, khP, kr2, kr4, kr5, kr7, kr8, kr9, kr10, krB, krP, krG0, krG1, krG2, krG3, krK, Nat.reduceLT, o_add, o_sub, o_mul, o_neg, q_add, q_sub, q_mul, q_neg, o_32, cast_s, Int.toNat_natCast, hb, hb2, z0, z40, t0, t40, hne 7 7 (by omega) (by omega), hne 8 8 (by omega) (by omega), hne 9 9 (by omega) (by omega), hne 10 10 (by omega) (by omega), Nat.le_refl, Nat.zero_add, cpy_lay hd (show 7 < 27 by omega), cpy_lay hd (show 8 < 27 by omega), cpy_lay hd (show 9 < 27 by omega), cpy_lay hd (show 10 < 27 by omega), lay_far hd (show 6 < 27 by omega), mg_u2 hd (show 6 < 27 by omega)]
theorem c15 (hb : LB b) (hb2 : LB b2) (hd : apt b b2) : Wp d 15 0 [some (.ref (b + 11)), some (.ref (b2 + 11))] [] (mk N t w (lay b (mg P (gl b2 I) ℓ) I) (lay b μ L) D) Q = Q (.inl none) (mk N t w (lay b (mg (fun o k => P o k ∨ (o = 12 ∧ k < 100) ∨ (o = 11 ∧ 4 ≤ k ∧ k ≤ 7)) (gl b2 I) ℓ) I) (lay b (muC (gl b2 L) μ) L) D) := by
  have hne : b2 + 12 ≠ b + 12 := by unfold apt at hd; omega
  have z0 : (Int32.ofInt 0 ≤ Int32.ofInt 0) = True := by decide
  have z100 : (Int32.ofInt 0 ≤ Int32.ofInt 100) = True := by decide
  have t0 : (Int32.ofInt 0).toNatClampNeg = 0 := by decide
  have t100 : (Int32.ofInt 100).toNatClampNeg = 100 := by decide
  have e : mg (fun o k => P o k ∨ (o = 12 ∧ k < 100) ∨ (o = 11 ∧ 4 ≤ k ∧ k ≤ 7)) (gl b2 I) ℓ = mg (fun a j => ((((P a j ∨ (a = 12 ∧ j < 100)) ∨ (a = 11 ∧ j = 4)) ∨ (a = 11 ∧ j = 5)) ∨ (a = 11 ∧ j = 6)) ∨ (a = 11 ∧ j = 7)) (gl b2 I) ℓ := mg_c fun o k => by
    constructor
    · rintro (h | h | h)
      · exact Or.inl (Or.inl (Or.inl (Or.inl (Or.inl h))))
      · exact Or.inl (Or.inl (Or.inl (Or.inl (Or.inr h))))
      · have : k = 4 ∨ k = 5 ∨ k = 6 ∨ k = 7 := by omega
        rcases this with h2 | h2 | h2 | h2
        · exact Or.inl (Or.inl (Or.inl (Or.inr ⟨h.1, h2⟩)))
        · exact Or.inl (Or.inl (Or.inr ⟨h.1, h2⟩))
        · exact Or.inl (Or.inr ⟨h.1, h2⟩)
        · exact Or.inr ⟨h.1, h2⟩
    · rintro (((((h | h) | h) | h) | h) | h)
      · exact Or.inl h
      all_goals exact Or.inr (by omega)
  have el : lay b (muC (gl b2 L) μ) L = up2 (up2 (up2 (lay b μ L) (b + 11) 1 (L (b2 + 11) 1)) (b + 11) 2 (L (b2 + 11) 2)) (b + 11) 3 (L (b2 + 11) 3) := by
    rw [up2_lay (by omega), up2_lay (by omega), up2_lay (by omega)]
    rfl
  rw [el, e, ← mg_u2 hd (by omega), ← mg_u2 hd (by omega), ← mg_u2 hd (by omega), ← mg_u2 hd (by omega), ← cpy_lay hd (by omega)]
  have hl : ∀ k, k < 4 → 0 < k → ∀ (f : Nat → Nat → Int64), lay b f L (b2 + 11) k = L (b2 + 11) k := fun k _ _ f => lay_far hd (by omega)
  simp only [w15_0, w15_1, w15_4, w15_5, w15_6, w15_9, w15_10, w15_11, w15_14, w15_15, w15_18, w15_19, w15_20, w15_23, w15_26, w15_27, w15_28, w15_31, w15_34, w15_35, w15_36, w15_39, w15_42, w15_43, w15_44, w15_47, w15_50, w15_51, w15_52, w15_55, w15_58, w15_59, w15_60, w15_63, w15_66, w15_67, w15_68, w15_71, w15_74, kn_s, kn_n, zh_mk, zR_mk, zI_mk, zL_mk, zD_mk, wI_mk, wL_mk, wD_mk, zT_mk, zC_mk, kill_i, kill_r, kill_0, kill_n, kill_l, kill_q, zzk_r, zzk_0, zzk_q, zcat_r, zcat_i, zcat_0, zcat_q, cats_0, cats_i, cats_r, cats_l, cats_d, cats_f, cats_q, cats_n, rv_s, rv_0, Nat.reduceAdd, Nat.reduceLeDiff, Nat.reduceEqDiff, Nat.add_zero, Nat.reduceMul, Nat.reduceSub, ne_eq, not_false_eq_true, not_true_eq_false, and_self, and_true, true_and, or_self, or_true, true_or, or_false, false_or, if_true, if_false, reduceIte, reduceCtorEq, implies_true, ite_self, ite_not, lay_in, lay_0, up2_lay, up2_lay0, kh0, kh1, kh2, kh3, kh4, kh5, kh6, kh7, kh8, kh9, kh10, kh11, kh12, khB, khP, kr2, kr4, kr5, kr7, kr8, kr9, kr10, krB, krP, krG0, krG1, krG2, krG3, krK, Nat.reduceLT, o_add, o_sub, o_mul, o_neg, q_add, q_sub, q_mul, q_neg, o_32, cast_s, Int.toNat_natCast, hb, hb2, z0, z100, t0, t100, o_n100, hne, Nat.le_refl, Nat.zero_add, cpy_lay hd (show 12 < 27 by omega), lay_far hd (show 11 < 27 by omega), mg_u2 hd (show 11 < 27 by omega)]
theorem c32 (hb : LB b) (hb2 : LB b2) (hd : apt b b2) : Wp (d + 1) 32 0 [some (.ref b), some (.ref b2), none] [] (mk N t w (lay b ℓ I) (lay b μ L) D) Q = Q (.inl none) (mk N t w (lay b (mg CP (gl b2 I) ℓ) I) (lay b (muC (gl b2 L) μ) L) D) := by
  have e0 : mg (fun _ _ => False) (gl b2 I) ℓ = ℓ := mg_0 (fun _ _ h => h)
  have l1 := c32_26 (d := d) (N := N) (t := t) (w := w) (I := I) (ℓ := ℓ) (L := lay b μ L) (D := D) (Q := Q) hb hb2 hd 10 0 (by omega)
  have l2 := c32_75 (d := d) (N := N) (t := t) (w := w) (I := I) (ℓ := ℓ) (L := lay b μ L) (D := D) (Q := Q) hb hb2 hd 4 0 (by omega)
  have u0 : ∀ {P : Nat → Nat → Prop} {k : Nat}, up2 (lay b (mg P (gl b2 I) ℓ) I) b k (I b2 k) = lay b (mg (fun a j => P a j ∨ (a = 0 ∧ j = k)) (gl b2 I) ℓ) I := fun {P k} => mg_u2 (q := 0) hd (by omega)
  have p1 : lay b (mg (PB 0) (gl b2 I) ℓ) I = up2 (up2 (up2 (lay b ℓ I) b 0 (I b2 0)) b 1 (I b2 1)) b 3 (I b2 3) := by
    conv => rhs; rw [← e0]
    rw [u0, u0, u0]
    refine congrArg (fun z => lay b z I) (mg_c ?_)
    intro o k
    unfold PB
    simp only [false_or]
    omega
  have p2 : lay b (mg (PP 0) (gl b2 I) ℓ) I = up2 (lay b (mg (PB 10) (gl b2 I) ℓ) I) b 6 (I b2 6) := by
    rw [u0]
    refine congrArg (fun z => lay b z I) (mg_c ?_)
    intro o k
    unfold PP
    constructor
    · rintro (h | h)
      · exact Or.inl h
      · exact Or.inr (by omega)
    · rintro (h | h)
      · exact Or.inl h
      · exact Or.inr (by omega)
  have far0 : ∀ {f : Nat → Nat → Int32} {k : Nat}, lay b f I b2 k = I b2 k := lay_far0 hd
  rw [p1] at l1
  simp only [w32_0 zzk_r, w32_1 zzk_r, w32_2, w32_5, w32_8 zzk_r, w32_9 zzk_r, w32_10, w32_13, w32_16 zzk_r, w32_17 zzk_r, w32_18, w32_21, w32_24, w32_25, kn_s, kn_n, zh_mk, zR_mk, zI_mk, zL_mk, zD_mk, wI_mk, wL_mk, wD_mk, zT_mk, zC_mk, kill_i, kill_r, kill_0, kill_n, kill_l, kill_q, zzk_r, zzk_0, zzk_q, zcat_r, zcat_i, zcat_0, zcat_q, cats_0, cats_i, cats_r, cats_l, cats_d, cats_f, cats_q, cats_n, rv_s, rv_0, Nat.reduceAdd, Nat.reduceLeDiff, Nat.reduceEqDiff, Nat.add_zero, Nat.reduceMul, Nat.reduceSub, ne_eq, not_false_eq_true, not_true_eq_false, and_self, and_true, true_and, or_self, or_true, true_or, or_false, false_or, if_true, if_false, reduceIte, reduceCtorEq, implies_true, ite_self, ite_not, kh0 hb, kh0 hb2, far0, up2_at, Nat.reduceEqDiff, and_false]
  refine l1.trans ?_
  rw [p2] at l2
  simp only [w32_65 zzk_r, w32_66 zzk_r, w32_67, w32_70, w32_73, w32_74, kn_s, kn_n, zh_mk, zR_mk, zI_mk, zL_mk, zD_mk, wI_mk, wL_mk, wD_mk, zT_mk, zC_mk, kill_i, kill_r, kill_0, kill_n, kill_l, kill_q, zzk_r, zzk_0, zzk_q, zcat_r, zcat_i, zcat_0, zcat_q, cats_0, cats_i, cats_r, cats_l, cats_d, cats_f, cats_q, cats_n, rv_s, rv_0, Nat.reduceAdd, Nat.reduceLeDiff, Nat.reduceEqDiff, Nat.add_zero, Nat.reduceMul, Nat.reduceSub, ne_eq, not_false_eq_true, not_true_eq_false, and_self, and_true, true_and, or_self, or_true, true_or, or_false, false_or, if_true, if_false, reduceIte, reduceCtorEq, implies_true, ite_self, ite_not, kh0 hb, kh0 hb2, far0]
  refine l2.trans ?_
  simp only [w32_0, w32_1, w32_2, w32_5, w32_8, w32_9, w32_10, w32_13, w32_16, w32_17, w32_18, w32_21, w32_24, w32_25, w32_27, w32_29, w32_32, w32_33, w32_36, w32_37, w32_38, w32_39, w32_42, w32_43, w32_44, w32_47, w32_48, w32_51, w32_52, w32_53, w32_56, w32_57, w32_58, w32_59, w32_62, w32_66, w32_67, w32_70, w32_73, w32_74, w32_76, w32_77, w32_80, w32_81, w32_84, w32_85, w32_86, w32_87, w32_90, w32_91, w32_92, w32_95, w32_98, w32_101, w32_102, w32_105, w32_106, w32_109, w32_112, w32_113, w32_116, w32_117, w32_120, w32_123, w32_124, w32_127, w32_128, w32_131, w32_134, w32_135, w32_138, w32_139, w32_142, w32_145, kn_s, kn_n, zh_mk, zR_mk, zI_mk, zL_mk, zD_mk, wI_mk, wL_mk, wD_mk, zT_mk, zC_mk, kill_i, kill_r, kill_0, kill_n, kill_l, kill_q, zzk_r, zzk_0, zzk_q, zcat_r, zcat_i, zcat_0, zcat_q, cats_0, cats_i, cats_r, cats_l, cats_d, cats_f, cats_q, cats_n, rv_s, rv_0, Nat.reduceAdd, Nat.reduceLeDiff, Nat.reduceEqDiff, Nat.add_zero, Nat.reduceMul, Nat.reduceSub, ne_eq, not_false_eq_true, not_true_eq_false, and_self, and_true, true_and, or_self, or_true, true_or, or_false, false_or, if_true, if_false, reduceIte, reduceCtorEq, implies_true, ite_self, ite_not, lay_in, lay_0, up2_lay, up2_lay0, kh0, kh1, kh2, kh3, kh4, kh5, kh6, kh7, kh8, kh9, kh10, kh11, kh12, khB, khP, kr2, kr4, kr5, kr7, kr8, kr9, kr10, krB, krP, krG0, krG1, krG2, krG3, krK, Nat.reduceLT, o_add, o_sub, o_mul, o_neg, q_add, q_sub, q_mul, q_neg, o_32, cast_s, Int.toNat_natCast, hb, hb2, c12 (kh4 (N := N) hb) (kh4 (N := N) hb2), c12 (kh5 (N := N) hb) (kh5 (N := N) hb2), cp3_lay hd (show 4 < 27 by omega), cp3_lay hd (show 5 < 27 by omega), c48 hb hb2 hd, c15 hb hb2 hd]
  rw [mg_c (P' := CP)]
  intro o k
  unfold PP PB CP
  omega
end S56b
