/-! CONTRACTS of the class: the log and the book, read and renumbered -/
/-- where a ball's number goes behind the removal of ball g -/
def xg (g a : Nat) : Nat := if a < g then a else a + 1
def rnA (g v : Int) : Int := if v = g then -2 else if g < v then v - 1 else v
def rnI (g x : Int32) : Int32 := if x = g then Int32.ofInt (-2) else if g < x then x - Int32.ofInt 1 else x
theorem rnI_o {g v : Int} (hg : -2147483648 ≤ g ∧ g < 2147483648) (hv : -2147483648 ≤ v ∧ v < 2147483648) : rnI (Int32.ofInt g) (Int32.ofInt v) = Int32.ofInt (rnA g v) := by
  unfold rnI rnA
  simp only [o_eq (a := v) (b := g) (by omega), o_lt (a := g) (b := v) (by omega), o_sub]
  by_cases h : v = g
  · rw [if_pos h, if_pos h]
  · rw [if_neg h, if_neg h]
    by_cases h2 : g < v
    · rw [if_pos h2, if_pos h2]
    · rw [if_neg h2, if_neg h2]
def rnL (ℓ : Nat → Nat → Int32) (g : Int32) (i : Nat) : Nat → Nat → Int32 := fun o k => if (o = 8 ∨ o = 9) ∧ k < i then rnI g (ℓ o k) else ℓ o k
theorem rnL_0 {ℓ : Nat → Nat → Int32} {g : Int32} : rnL ℓ g 0 = ℓ := by
  funext o k
  unfold rnL
  rw [if_neg (by omega)]
theorem rnL_r {ℓ : Nat → Nat → Int32} {g : Int32} {i o : Nat} : rnL ℓ g i o i = ℓ o i := by
  unfold rnL
  rw [if_neg (by omega)]
theorem rnL_s {ℓ : Nat → Nat → Int32} {g : Int32} {i : Nat} : up2 (up2 (rnL ℓ g i) 8 i (rnI g (ℓ 8 i))) 9 i (rnI g (ℓ 9 i)) = rnL ℓ g (i + 1) := by
  funext o k
  unfold up2 rnL
  by_cases h9 : o = 9 ∧ k = i
  · obtain ⟨rfl, rfl⟩ := h9
    rw [if_pos ⟨rfl, rfl⟩, if_pos (by omega)]
  · rw [if_neg h9]
    by_cases h8 : o = 8 ∧ k = i
    · obtain ⟨rfl, rfl⟩ := h8
      rw [if_pos ⟨rfl, rfl⟩, if_pos (by omega)]
    · rw [if_neg h8]
      by_cases h : (o = 8 ∨ o = 9) ∧ k < i
      · rw [if_pos h, if_pos (by omega)]
      · rw [if_neg h, if_neg (by omega)]
/-- the pairs behind the removal of ball g, up to place i -/
def dpV {β : Type} (z : β) (p : Nat → β) (g k : Nat) : β := if xg g (k / 10) < 10 ∧ xg g (k % 10) < 10 then p (10 * xg g (k / 10) + xg g (k % 10)) else z
def dpF {β : Type} (z : β) (p : Nat → β) (g i : Nat) : Nat → β := fun k => if k < i then dpV z p g k else p k
theorem dpF_r {β : Type} {z : β} {p : Nat → β} {g a b x y : Nat} (h : a ≤ x ∧ b ≤ y) : dpF z p g (10 * a + b) (10 * x + y) = p (10 * x + y) := by
  unfold dpF
  rw [if_neg (by omega)]
theorem dpF_s {β : Type} {z : β} {p : Nat → β} {g i : Nat} : up1 (dpF z p g i) i (dpV z p g i) = dpF z p g (i + 1) := by
  funext k
  unfold up1 dpF
  by_cases h : k = i
  · subst h
    rw [if_pos rfl, if_pos (by omega)]
  · rw [if_neg h]
    by_cases h2 : k < i
    · rw [if_pos h2, if_pos (by omega)]
    · rw [if_neg h2, if_neg (by omega)]
theorem dpV_at {β : Type} {z : β} {p : Nat → β} {g a b : Nat} (hb : b < 10) : dpV z p g (10 * a + b) = if xg g a < 10 ∧ xg g b < 10 then p (10 * xg g a + xg g b) else z := by
  unfold dpV
  rw [show (10 * a + b) / 10 = a by omega, show (10 * a + b) % 10 = b by omega]
def oL (c : Nat) (ℓ : Nat → Nat → Int32) (p : Nat → Int32) : Nat → Nat → Int32 := fun o k => if o = c then p k else ℓ o k
theorem oL_at {c k : Nat} {ℓ : Nat → Nat → Int32} {p : Nat → Int32} : oL c ℓ p c k = p k := by
  unfold oL
  rw [if_pos rfl]
theorem oL_ne {c o k : Nat} {ℓ : Nat → Nat → Int32} {p : Nat → Int32} (h : o ≠ c) : oL c ℓ p o k = ℓ o k := by
  unfold oL
  rw [if_neg h]
theorem oL_up {c k : Nat} {ℓ : Nat → Nat → Int32} {p : Nat → Int32} {v : Int32} : up2 (oL c ℓ p) c k v = oL c ℓ (up1 p k v) := by
  funext o j
  unfold up2 oL up1
  by_cases h : o = c
  · simp only [h, true_and, if_true]
  · simp only [h, false_and, if_false]
theorem oL_self {c : Nat} {ℓ : Nat → Nat → Int32} : oL c ℓ (ℓ c) = ℓ := by
  funext o k
  unfold oL
  by_cases h : o = c
  · rw [if_pos h, h]
  · rw [if_neg h]
section S55
variable {N : NX} {w : WX} {d t b n m : Nat} {I ℓ : Nat → Nat → Int32} {L μ : Nat → Nat → Int64} {D : Nat → Nat → UInt64} {Q : Rs → St → Prop} {o : Nat → Nat} {α : Nat → Int}
/-- the log in order: times before now, balls, amounts -/
def LX (α : Nat → Int) : Prop := ∀ k : Nat, k < 40 → (k : Int) < α 4 → (0 ≤ α (218 + 4 * k) ∧ α (218 + 4 * k) < α 3) ∧ (α (218 + 4 * k + 1) = -2 ∨ 0 ≤ α (218 + 4 * k + 1)) ∧ (-2 ≤ α (218 + 4 * k + 1) ∧ α (218 + 4 * k + 1) ≤ 9) ∧ (-2 ≤ α (218 + 4 * k + 2) ∧ α (218 + 4 * k + 2) ≤ 9) ∧ (0 ≤ α (218 + 4 * k + 3) ∧ α (218 + 4 * k + 3) ≤ 120)
theorem c57 {x g : Int32} {σ : St} : Wp d 57 0 [some (.int x), some (.int g)] [] σ Q = Q (.inl (some (.int (rnI g x)))) σ := by
  unfold rnI
  by_cases h : x = g
  · simp only [w57_0, w57_1, w57_2, w57_5, w57_7, w57_8, w57_9, w57_10, w57_13, w57_14, w57_15, w57_16, w57_19, w57_20, kn_s, kn_n, zh_mk, zR_mk, zI_mk, zL_mk, zD_mk, wI_mk, wL_mk, wD_mk, zT_mk, zC_mk, kill_i, kill_r, kill_0, kill_n, kill_l, kill_q, zzk_r, zzk_0, zzk_q, zcat_r, zcat_i, zcat_0, zcat_q, cats_0, cats_i, cats_r, cats_l, cats_d, cats_f, cats_q, cats_n, rv_s, rv_0, Nat.reduceAdd, Nat.reduceLeDiff, Nat.reduceEqDiff, Nat.add_zero, Nat.reduceMul, Nat.reduceSub, ne_eq, not_false_eq_true, not_true_eq_false, and_self, and_true, true_and, or_self, or_true, true_or, or_false, false_or, if_true, if_false, reduceIte, reduceCtorEq, implies_true, ite_self, ite_not, h]
  · by_cases h2 : g < x
    · simp only [w57_0, w57_1, w57_2, w57_5, w57_7, w57_8, w57_9, w57_10, w57_13, w57_14, w57_15, w57_16, w57_19, w57_20, kn_s, kn_n, zh_mk, zR_mk, zI_mk, zL_mk, zD_mk, wI_mk, wL_mk, wD_mk, zT_mk, zC_mk, kill_i, kill_r, kill_0, kill_n, kill_l, kill_q, zzk_r, zzk_0, zzk_q, zcat_r, zcat_i, zcat_0, zcat_q, cats_0, cats_i, cats_r, cats_l, cats_d, cats_f, cats_q, cats_n, rv_s, rv_0, Nat.reduceAdd, Nat.reduceLeDiff, Nat.reduceEqDiff, Nat.add_zero, Nat.reduceMul, Nat.reduceSub, ne_eq, not_false_eq_true, not_true_eq_false, and_self, and_true, true_and, or_self, or_true, true_or, or_false, false_or, if_true, if_false, reduceIte, reduceCtorEq, implies_true, ite_self, ite_not, h, h2]
    · simp only [w57_0, w57_1, w57_2, w57_5, w57_7, w57_8, w57_9, w57_10, w57_13, w57_14, w57_15, w57_16, w57_19, w57_20, kn_s, kn_n, zh_mk, zR_mk, zI_mk, zL_mk, zD_mk, wI_mk, wL_mk, wD_mk, zT_mk, zC_mk, kill_i, kill_r, kill_0, kill_n, kill_l, kill_q, zzk_r, zzk_0, zzk_q, zcat_r, zcat_i, zcat_0, zcat_q, cats_0, cats_i, cats_r, cats_l, cats_d, cats_f, cats_q, cats_n, rv_s, rv_0, Nat.reduceAdd, Nat.reduceLeDiff, Nat.reduceEqDiff, Nat.add_zero, Nat.reduceMul, Nat.reduceSub, ne_eq, not_false_eq_true, not_true_eq_false, and_self, and_true, true_and, or_self, or_true, true_or, or_false, false_or, if_true, if_false, reduceIte, reduceCtorEq, implies_true, ite_self, ite_not, h, h2]
theorem c56_2 (hb : LB b) {g : Int32} : ∀ k i : Nat, i + k = 40 → Wp (d + 1) 56 2 [some (.ref (b + 6)), some (.int g), some (.int (Int32.ofInt (i : Int)))] [] (mk N t w (lay b (rnL ℓ g i) I) L D) Q = Q (.inl none) (mk N t w (lay b (rnL ℓ g 40) I) L D) := by
  intro k
  induction k with
  | zero =>
    intro i hi
    obtain rfl : i = 40 := by omega
    have g0 : ¬ (((40 : Nat) : Int) < 40) := by omega
    simp only [w56_0, w56_1, w56_2, w56_3, w56_5, w56_8, w56_9, w56_12, w56_13, w56_14, w56_17, w56_18, w56_19, w56_20, w56_23, w56_24, w56_25, w56_28, w56_29, w56_30, w56_33, w56_34, w56_35, w56_36, w56_39, w56_40, w56_43, w56_46, kn_s, kn_n, zh_mk, zR_mk, zI_mk, zL_mk, zD_mk, wI_mk, wL_mk, wD_mk, zT_mk, zC_mk, kill_i, kill_r, kill_0, kill_n, kill_l, kill_q, zzk_r, zzk_0, zzk_q, zcat_r, zcat_i, zcat_0, zcat_q, cats_0, cats_i, cats_r, cats_l, cats_d, cats_f, cats_q, cats_n, rv_s, rv_0, Nat.reduceAdd, Nat.reduceLeDiff, Nat.reduceEqDiff, Nat.add_zero, Nat.reduceMul, Nat.reduceSub, ne_eq, not_false_eq_true, not_true_eq_false, and_self, and_true, true_and, or_self, or_true, true_or, or_false, false_or, if_true, if_false, reduceIte, reduceCtorEq, implies_true, ite_self, ite_not, lay_in, lay_0, up2_lay, up2_lay0, kh0, kh1, kh2, kh3, kh4, kh5, kh6, kh7, kh8, kh9, kh10, kh11, kh12, khB, khP, kr2, kr4, kr5, kr7, kr8, kr9, kr10, krB, krP, krG0, krG1, krG2, krG3, krK, Nat.reduceLT, o_add, o_sub, o_mul, o_neg, q_add, q_sub, q_mul, q_neg, o_32, cast_s, Int.toNat_natCast, hb, o_lt (a := ((40 : Nat) : Int)) (b := 40) (by omega), g0]
  | succ k ih =>
    intro i hi
    have g0 : (i : Int) < 40 := by omega
    rw [w56_2]
    simp only [w56_0, w56_1, w56_3, w56_5, w56_8, w56_9, w56_12, w56_13, w56_14, w56_17, w56_18, w56_19, w56_20, w56_23, w56_24, w56_25, w56_28, w56_29, w56_30, w56_33, w56_34, w56_35, w56_36, w56_39, w56_40, w56_43, w56_46, kn_s, kn_n, zh_mk, zR_mk, zI_mk, zL_mk, zD_mk, wI_mk, wL_mk, wD_mk, zT_mk, zC_mk, kill_i, kill_r, kill_0, kill_n, kill_l, kill_q, zzk_r, zzk_0, zzk_q, zcat_r, zcat_i, zcat_0, zcat_q, cats_0, cats_i, cats_r, cats_l, cats_d, cats_f, cats_q, cats_n, rv_s, rv_0, Nat.reduceAdd, Nat.reduceLeDiff, Nat.reduceEqDiff, Nat.add_zero, Nat.reduceMul, Nat.reduceSub, ne_eq, not_false_eq_true, not_true_eq_false, and_self, and_true, true_and, or_self, or_true, true_or, or_false, false_or, if_true, if_false, reduceIte, reduceCtorEq, implies_true, ite_self, ite_not, lay_in, lay_0, up2_lay, up2_lay0, kh0, kh1, kh2, kh3, kh4, kh5, kh6, kh7, kh8, kh9, kh10, kh11, kh12, khB, khP, kr2, kr4, kr5, kr7, kr8, kr9, kr10, krB, krP, krG0, krG1, krG2, krG3, krK, Nat.reduceLT, o_add, o_sub, o_mul, o_neg, q_add, q_sub, q_mul, q_neg, o_32, cast_s, Int.toNat_natCast, hb, o_lt (a := (i : Int)) (b := 40) (by omega), g0, o_ixn (j := i) (n := 40) (by omega), o_tnn (j := i) (by omega), c57, rnL_r, u2_ne (show (9 : Nat) ≠ 8 ∨ i ≠ i from Or.inl (by omega)), rnL_s, ih (i + 1) (by omega)]
theorem c56 (hb : LB b) {g : Int32} : Wp (d + 1) 56 0 [some (.ref (b + 6)), some (.int g), none] [] (mk N t w (lay b ℓ I) L D) Q = Q (.inl none) (mk N t w (lay b (rnL ℓ g 40) I) L D) := by
  have := c56_2 (d := d) (N := N) (t := t) (w := w) (I := I) (L := L) (D := D) (Q := Q) (ℓ := ℓ) (g := g) hb 40 0 (by omega)
  rw [rnL_0] at this
  simp only [w56_0, w56_1, kn_s, kn_n, zh_mk, zR_mk, zI_mk, zL_mk, zD_mk, wI_mk, wL_mk, wD_mk, zT_mk, zC_mk, kill_i, kill_r, kill_0, kill_n, kill_l, kill_q, zzk_r, zzk_0, zzk_q, zcat_r, zcat_i, zcat_0, zcat_q, cats_0, cats_i, cats_r, cats_l, cats_d, cats_f, cats_q, cats_n, rv_s, rv_0, Nat.reduceAdd, Nat.reduceLeDiff, Nat.reduceEqDiff, Nat.add_zero, Nat.reduceMul, Nat.reduceSub, ne_eq, not_false_eq_true, not_true_eq_false, and_self, and_true, true_and, or_self, or_true, true_or, or_false, false_or, if_true, if_false, reduceIte, reduceCtorEq, implies_true, ite_self, ite_not]
  exact this
theorem c17 (hb : LB b) {i j : Nat} (hi : i < 10) (hj : j < 10) : Wp d 17 0 [some (.ref (b + 11)), some (.int (Int32.ofInt (i : Int))), some (.int (Int32.ofInt (j : Int)))] [] (mk N t w (lay b ℓ I) L D) Q = Q (.inl (some (.int (ℓ 12 (10 * i + j))))) (mk N t w (lay b ℓ I) L D) := by
  have e : (i : Int) * 10 + (j : Int) = ((10 * i + j : Nat) : Int) := by omega
  simp only [w17_0, w17_1, w17_4, w17_5, w17_7, w17_8, w17_9, w17_10, w17_11, kn_s, kn_n, zh_mk, zR_mk, zI_mk, zL_mk, zD_mk, wI_mk, wL_mk, wD_mk, zT_mk, zC_mk, kill_i, kill_r, kill_0, kill_n, kill_l, kill_q, zzk_r, zzk_0, zzk_q, zcat_r, zcat_i, zcat_0, zcat_q, cats_0, cats_i, cats_r, cats_l, cats_d, cats_f, cats_q, cats_n, rv_s, rv_0, Nat.reduceAdd, Nat.reduceLeDiff, Nat.reduceEqDiff, Nat.add_zero, Nat.reduceMul, Nat.reduceSub, ne_eq, not_false_eq_true, not_true_eq_false, and_self, and_true, true_and, or_self, or_true, true_or, or_false, false_or, if_true, if_false, reduceIte, reduceCtorEq, implies_true, ite_self, ite_not, lay_in, lay_0, up2_lay, up2_lay0, kh0, kh1, kh2, kh3, kh4, kh5, kh6, kh7, kh8, kh9, kh10, kh11, kh12, khB, khP, kr2, kr4, kr5, kr7, kr8, kr9, kr10, krB, krP, krG0, krG1, krG2, krG3, krK, Nat.reduceLT, o_add, o_sub, o_mul, o_neg, q_add, q_sub, q_mul, q_neg, o_32, cast_s, Int.toNat_natCast, hb, e, o_ixn (j := 10 * i + j) (n := 100) (by omega), o_tnn (j := 10 * i + j) (by omega)]
theorem c19 (hb : LB b) {x y : Nat} (hx : x ≤ 10) (hy : y ≤ 10) : Wp (d + 1) 19 0 [some (.ref (b + 11)), some (.int (Int32.ofInt (x : Int))), some (.int (Int32.ofInt (y : Int)))] [] (mk N t w (lay b ℓ I) L D) Q = Q (.inl (some (.int (if x < 10 ∧ y < 10 then ℓ 12 (10 * x + y) else Int32.ofInt 0)))) (mk N t w (lay b ℓ I) L D) := by
  by_cases h1 : x < 10
  · have g1 : (x : Int) < 10 := by omega
    by_cases h2 : y < 10
    · have g2 : (y : Int) < 10 := by omega
      simp only [w19_0, w19_1, w19_3, w19_6, w19_7, w19_9, w19_12, w19_13, w19_14, w19_15, w19_18, w19_21, w19_22, kn_s, kn_n, zh_mk, zR_mk, zI_mk, zL_mk, zD_mk, wI_mk, wL_mk, wD_mk, zT_mk, zC_mk, kill_i, kill_r, kill_0, kill_n, kill_l, kill_q, zzk_r, zzk_0, zzk_q, zcat_r, zcat_i, zcat_0, zcat_q, cats_0, cats_i, cats_r, cats_l, cats_d, cats_f, cats_q, cats_n, rv_s, rv_0, Nat.reduceAdd, Nat.reduceLeDiff, Nat.reduceEqDiff, Nat.add_zero, Nat.reduceMul, Nat.reduceSub, ne_eq, not_false_eq_true, not_true_eq_false, and_self, and_true, true_and, or_self, or_true, true_or, or_false, false_or, if_true, if_false, reduceIte, reduceCtorEq, implies_true, ite_self, ite_not, lay_in, lay_0, up2_lay, up2_lay0, kh0, kh1, kh2, kh3, kh4, kh5, kh6, kh7, kh8, kh9, kh10, kh11, kh12, khB, khP, kr2, kr4, kr5, kr7, kr8, kr9, kr10, krB, krP, krG0, krG1, krG2, krG3, krK, Nat.reduceLT, o_add, o_sub, o_mul, o_neg, q_add, q_sub, q_mul, q_neg, o_32, cast_s, Int.toNat_natCast, hb, o_lt (a := (x : Int)) (b := 10) (by omega), o_lt (a := (y : Int)) (b := 10) (by omega), g1, g2, h1, h2, c17 hb h1 h2]
    · have g2 : ¬ ((y : Int) < 10) := by omega
      simp only [w19_0, w19_1, w19_3, w19_6, w19_7, w19_9, w19_12, w19_13, w19_14, w19_15, w19_18, w19_21, w19_22, kn_s, kn_n, zh_mk, zR_mk, zI_mk, zL_mk, zD_mk, wI_mk, wL_mk, wD_mk, zT_mk, zC_mk, kill_i, kill_r, kill_0, kill_n, kill_l, kill_q, zzk_r, zzk_0, zzk_q, zcat_r, zcat_i, zcat_0, zcat_q, cats_0, cats_i, cats_r, cats_l, cats_d, cats_f, cats_q, cats_n, rv_s, rv_0, Nat.reduceAdd, Nat.reduceLeDiff, Nat.reduceEqDiff, Nat.add_zero, Nat.reduceMul, Nat.reduceSub, ne_eq, not_false_eq_true, not_true_eq_false, and_self, and_true, true_and, or_self, or_true, true_or, or_false, false_or, if_true, if_false, reduceIte, reduceCtorEq, implies_true, ite_self, ite_not, lay_in, lay_0, up2_lay, up2_lay0, kh0, kh1, kh2, kh3, kh4, kh5, kh6, kh7, kh8, kh9, kh10, kh11, kh12, khB, khP, kr2, kr4, kr5, kr7, kr8, kr9, kr10, krB, krP, krG0, krG1, krG2, krG3, krK, Nat.reduceLT, o_add, o_sub, o_mul, o_neg, q_add, q_sub, q_mul, q_neg, o_32, cast_s, Int.toNat_natCast, hb, o_lt (a := (x : Int)) (b := 10) (by omega), o_lt (a := (y : Int)) (b := 10) (by omega), g1, g2, h2, and_false]
  · have g1 : ¬ ((x : Int) < 10) := by omega
    simp only [w19_0, w19_1, w19_3, w19_6, w19_7, w19_9, w19_12, w19_13, w19_14, w19_15, w19_18, w19_21, w19_22, kn_s, kn_n, zh_mk, zR_mk, zI_mk, zL_mk, zD_mk, wI_mk, wL_mk, wD_mk, zT_mk, zC_mk, kill_i, kill_r, kill_0, kill_n, kill_l, kill_q, zzk_r, zzk_0, zzk_q, zcat_r, zcat_i, zcat_0, zcat_q, cats_0, cats_i, cats_r, cats_l, cats_d, cats_f, cats_q, cats_n, rv_s, rv_0, Nat.reduceAdd, Nat.reduceLeDiff, Nat.reduceEqDiff, Nat.add_zero, Nat.reduceMul, Nat.reduceSub, ne_eq, not_false_eq_true, not_true_eq_false, and_self, and_true, true_and, or_self, or_true, true_or, or_false, false_or, if_true, if_false, reduceIte, reduceCtorEq, implies_true, ite_self, ite_not, lay_in, lay_0, up2_lay, up2_lay0, kh0, kh1, kh2, kh3, kh4, kh5, kh6, kh7, kh8, kh9, kh10, kh11, kh12, khB, khP, kr2, kr4, kr5, kr7, kr8, kr9, kr10, krB, krP, krG0, krG1, krG2, krG3, krK, Nat.reduceLT, o_add, o_sub, o_mul, o_neg, q_add, q_sub, q_mul, q_neg, o_32, cast_s, Int.toNat_natCast, hb, o_lt (a := (x : Int)) (b := 10) (by omega), g1, h1, false_and]
theorem xg_le {g a : Nat} (ha : a < 10) : a ≤ xg g a ∧ xg g a ≤ 10 := by
  unfold xg
  split <;> omega
theorem c18_10 (hb : LB b) {g a : Nat} (hg : g < 10) (ha : a < 10) : ∀ k j : Nat, j + k = 10 → Wp (d + 2) 18 10 [some (.ref (b + 11)), some (.int (Int32.ofInt (g : Int))), some (.int (Int32.ofInt (a : Int))), some (.int (Int32.ofInt (j : Int)))] [] (mk N t w (lay b (oL 12 ℓ (dpF (Int32.ofInt 0) (ℓ 12) g (10 * a + j))) I) L D) Q = Wp (d + 2) 18 61 [some (.ref (b + 11)), some (.int (Int32.ofInt (g : Int))), some (.int (Int32.ofInt (a : Int))), some (.int (Int32.ofInt ((10 : Nat) : Int)))] [] (mk N t w (lay b (oL 12 ℓ (dpF (Int32.ofInt 0) (ℓ 12) g (10 * a + 10))) I) L D) Q := by
  intro k
  induction k with
  | zero =>
    intro j hj
    obtain rfl : j = 10 := by omega
    have g0 : ¬ (((10 : Nat) : Int) < 10) := by omega
    rw [w18_10]
    simp only [w18_11, w18_13, kn_s, kn_n, zh_mk, zR_mk, zI_mk, zL_mk, zD_mk, wI_mk, wL_mk, wD_mk, zT_mk, zC_mk, kill_i, kill_r, kill_0, kill_n, kill_l, kill_q, zzk_r, zzk_0, zzk_q, zcat_r, zcat_i, zcat_0, zcat_q, cats_0, cats_i, cats_r, cats_l, cats_d, cats_f, cats_q, cats_n, rv_s, rv_0, Nat.reduceAdd, Nat.reduceLeDiff, Nat.reduceEqDiff, Nat.add_zero, Nat.reduceMul, Nat.reduceSub, ne_eq, not_false_eq_true, not_true_eq_false, and_self, and_true, true_and, or_self, or_true, true_or, or_false, false_or, if_true, if_false, reduceIte, reduceCtorEq, implies_true, ite_self, ite_not, lay_in, lay_0, up2_lay, up2_lay0, kh0, kh1, kh2, kh3, kh4, kh5, kh6, kh7, kh8, kh9, kh10, kh11, kh12, khB, khP, kr2, kr4, kr5, kr7, kr8, kr9, kr10, krB, krP, krG0, krG1, krG2, krG3, krK, Nat.reduceLT, o_add, o_sub, o_mul, o_neg, q_add, q_sub, q_mul, q_neg, o_32, cast_s, Int.toNat_natCast, hb, o_lt (a := ((10 : Nat) : Int)) (b := 10) (by omega), g0]
  | succ k ih =>
    intro j hj
    have g0 : (j : Int) < 10 := by omega
    have e : (a : Int) * 10 + (j : Int) = ((10 * a + j : Nat) : Int) := by omega
    have hxa := xg_le (g := g) ha
    have hxj := xg_le (g := g) (a := j) (by omega)
    have ih' := ih (j + 1) (by omega)
    rw [← Nat.add_assoc, ← dpF_s, dpV_at (by omega), ← oL_up] at ih'
    have er := dpF_r (z := Int32.ofInt 0) (p := ℓ 12) (g := g) (a := a) (b := j) (x := xg g a) (y := xg g j) ⟨hxa.1, hxj.1⟩
    have e1 : (if a < g then (a : Int) else ((a + 1 : Nat) : Int)) = (xg g a : Int) := by unfold xg; split <;> rfl
    have e2 : (if j < g then (j : Int) else ((j + 1 : Nat) : Int)) = (xg g j : Int) := by unfold xg; split <;> rfl
    have c := fun Q => c19 (d := d) (N := N) (t := t) (w := w) (b := b) (I := I) (ℓ := oL 12 ℓ (dpF (Int32.ofInt 0) (ℓ 12) g (10 * a + j))) (L := L) (D := D) (Q := Q) hb (x := xg g a) (y := xg g j) hxa.2 hxj.2
    simp only [oL_at, er] at c
    by_cases ca : a < g
    · have ca' : (a : Int) < g := by omega
      by_cases cj : j < g
      · have cj' : (j : Int) < g := by omega
        simp only [ca, cj, if_true, if_false] at e1 e2
        simp only [← e1, ← e2] at c
        rw [w18_10]
        simp only [w18_0, w18_1, w18_2, w18_3, w18_5, w18_8, w18_9, w18_11, w18_13, w18_16, w18_17, w18_20, w18_21, w18_23, w18_24, w18_25, w18_26, w18_27, w18_28, w18_29, w18_32, w18_33, w18_36, w18_37, w18_38, w18_39, w18_40, w18_41, w18_44, w18_45, w18_48, w18_49, w18_50, w18_51, w18_54, w18_55, w18_58, w18_64, w18_67, kn_s, kn_n, zh_mk, zR_mk, zI_mk, zL_mk, zD_mk, wI_mk, wL_mk, wD_mk, zT_mk, zC_mk, kill_i, kill_r, kill_0, kill_n, kill_l, kill_q, zzk_r, zzk_0, zzk_q, zcat_r, zcat_i, zcat_0, zcat_q, cats_0, cats_i, cats_r, cats_l, cats_d, cats_f, cats_q, cats_n, rv_s, rv_0, Nat.reduceAdd, Nat.reduceLeDiff, Nat.reduceEqDiff, Nat.add_zero, Nat.reduceMul, Nat.reduceSub, ne_eq, not_false_eq_true, not_true_eq_false, and_self, and_true, true_and, or_self, or_true, true_or, or_false, false_or, if_true, if_false, reduceIte, reduceCtorEq, implies_true, ite_self, ite_not, lay_in, lay_0, up2_lay, up2_lay0, kh0, kh1, kh2, kh3, kh4, kh5, kh6, kh7, kh8, kh9, kh10, kh11, kh12, khB, khP, kr2, kr4, kr5, kr7, kr8, kr9, kr10, krB, krP, krG0, krG1, krG2, krG3, krK, Nat.reduceLT, o_add, o_sub, o_mul, o_neg, q_add, q_sub, q_mul, q_neg, o_32, cast_s, Int.toNat_natCast, hb, o_lt (a := (j : Int)) (b := 10) (by omega), g0, o_lt (a := (a : Int)) (b := (g : Int)) (by omega), o_lt (a := (j : Int)) (b := (g : Int)) (by omega), ca', cj', e, o_ixn (j := 10 * a + j) (n := 100) (by omega), o_tnn (j := 10 * a + j) (by omega), c, ih']
      · have cj' : ¬ ((j : Int) < g) := by omega
        simp only [ca, cj, if_true, if_false] at e1 e2
        simp only [← e1, ← e2] at c
        rw [w18_10]
        simp only [w18_0, w18_1, w18_2, w18_3, w18_5, w18_8, w18_9, w18_11, w18_13, w18_16, w18_17, w18_20, w18_21, w18_23, w18_24, w18_25, w18_26, w18_27, w18_28, w18_29, w18_32, w18_33, w18_36, w18_37, w18_38, w18_39, w18_40, w18_41, w18_44, w18_45, w18_48, w18_49, w18_50, w18_51, w18_54, w18_55, w18_58, w18_64, w18_67, kn_s, kn_n, zh_mk, zR_mk, zI_mk, zL_mk, zD_mk, wI_mk, wL_mk, wD_mk, zT_mk, zC_mk, kill_i, kill_r, kill_0, kill_n, kill_l, kill_q, zzk_r, zzk_0, zzk_q, zcat_r, zcat_i, zcat_0, zcat_q, cats_0, cats_i, cats_r, cats_l, cats_d, cats_f, cats_q, cats_n, rv_s, rv_0, Nat.reduceAdd, Nat.reduceLeDiff, Nat.reduceEqDiff, Nat.add_zero, Nat.reduceMul, Nat.reduceSub, ne_eq, not_false_eq_true, not_true_eq_false, and_self, and_true, true_and, or_self, or_true, true_or, or_false, false_or, if_true, if_false, reduceIte, reduceCtorEq, implies_true, ite_self, ite_not, lay_in, lay_0, up2_lay, up2_lay0, kh0, kh1, kh2, kh3, kh4, kh5, kh6, kh7, kh8, kh9, kh10, kh11, kh12, khB, khP, kr2, kr4, kr5, kr7, kr8, kr9, kr10, krB, krP, krG0, krG1, krG2, krG3, krK, Nat.reduceLT, o_add, o_sub, o_mul, o_neg, q_add, q_sub, q_mul, q_neg, o_32, cast_s, Int.toNat_natCast, hb, o_lt (a := (j : Int)) (b := 10) (by omega), g0, o_lt (a := (a : Int)) (b := (g : Int)) (by omega), o_lt (a := (j : Int)) (b := (g : Int)) (by omega), ca', cj', e, o_ixn (j := 10 * a + j) (n := 100) (by omega), o_tnn (j := 10 * a + j) (by omega), c, ih']
    · have ca' : ¬ ((a : Int) < g) := by omega
      by_cases cj : j < g
      · have cj' : (j : Int) < g := by omega
        simp only [ca, cj, if_true, if_false] at e1 e2
        simp only [← e1, ← e2] at c
        rw [w18_10]
        simp only [w18_0, w18_1, w18_2, w18_3, w18_5, w18_8, w18_9, w18_11, w18_13, w18_16, w18_17, w18_20, w18_21, w18_23, w18_24, w18_25, w18_26, w18_27, w18_28, w18_29, w18_32, w18_33, w18_36, w18_37, w18_38, w18_39, w18_40, w18_41, w18_44, w18_45, w18_48, w18_49, w18_50, w18_51, w18_54, w18_55, w18_58, w18_64, w18_67, kn_s, kn_n, zh_mk, zR_mk, zI_mk, zL_mk, zD_mk, wI_mk, wL_mk, wD_mk, zT_mk, zC_mk, kill_i, kill_r, kill_0, kill_n, kill_l, kill_q, zzk_r, zzk_0, zzk_q, zcat_r, zcat_i, zcat_0, zcat_q, cats_0, cats_i, cats_r, cats_l, cats_d, cats_f, cats_q, cats_n, rv_s, rv_0, Nat.reduceAdd, Nat.reduceLeDiff, Nat.reduceEqDiff, Nat.add_zero, Nat.reduceMul, Nat.reduceSub, ne_eq, not_false_eq_true, not_true_eq_false, and_self, and_true, true_and, or_self, or_true, true_or, or_false, false_or, if_true, if_false, reduceIte, reduceCtorEq, implies_true, ite_self, ite_not, lay_in, lay_0, up2_lay, up2_lay0, kh0, kh1, kh2, kh3, kh4, kh5, kh6, kh7, kh8, kh9, kh10, kh11, kh12, khB, khP, kr2, kr4, kr5, kr7, kr8, kr9, kr10, krB, krP, krG0, krG1, krG2, krG3, krK, Nat.reduceLT, o_add, o_sub, o_mul, o_neg, q_add, q_sub, q_mul, q_neg, o_32, cast_s, Int.toNat_natCast, hb, o_lt (a := (j : Int)) (b := 10) (by omega), g0, o_lt (a := (a : Int)) (b := (g : Int)) (by omega), o_lt (a := (j : Int)) (b := (g : Int)) (by omega), ca', cj', e, o_ixn (j := 10 * a + j) (n := 100) (by omega), o_tnn (j := 10 * a + j) (by omega), c, ih']
      · have cj' : ¬ ((j : Int) < g) := by omega
        simp only [ca, cj, if_true, if_false] at e1 e2
        simp only [← e1, ← e2] at c
        rw [w18_10]
        simp only [w18_0, w18_1, w18_2, w18_3, w18_5, w18_8, w18_9, w18_11, w18_13, w18_16, w18_17, w18_20, w18_21, w18_23, w18_24, w18_25, w18_26, w18_27, w18_28, w18_29, w18_32, w18_33, w18_36, w18_37, w18_38, w18_39, w18_40, w18_41, w18_44, w18_45, w18_48, w18_49, w18_50, w18_51, w18_54, w18_55, w18_58, w18_64, w18_67, kn_s, kn_n, zh_mk, zR_mk, zI_mk, zL_mk, zD_mk, wI_mk, wL_mk, wD_mk, zT_mk, zC_mk, kill_i, kill_r, kill_0, kill_n, kill_l, kill_q, zzk_r, zzk_0, zzk_q, zcat_r, zcat_i, zcat_0, zcat_q, cats_0, cats_i, cats_r, cats_l, cats_d, cats_f, cats_q, cats_n, rv_s, rv_0, Nat.reduceAdd, Nat.reduceLeDiff, Nat.reduceEqDiff, Nat.add_zero, Nat.reduceMul, Nat.reduceSub, ne_eq, not_false_eq_true, not_true_eq_false, and_self, and_true, true_and, or_self, or_true, true_or, or_false, false_or, if_true, if_false, reduceIte, reduceCtorEq, implies_true, ite_self, ite_not, lay_in, lay_0, up2_lay, up2_lay0, kh0, kh1, kh2, kh3, kh4, kh5, kh6, kh7, kh8, kh9, kh10, kh11, kh12, khB, khP, kr2, kr4, kr5, kr7, kr8, kr9, kr10, krB, krP, krG0, krG1, krG2, krG3, krK, Nat.reduceLT, o_add, o_sub, o_mul, o_neg, q_add, q_sub, q_mul, q_neg, o_32, cast_s, Int.toNat_natCast, hb, o_lt (a := (j : Int)) (b := 10) (by omega), g0, o_lt (a := (a : Int)) (b := (g : Int)) (by omega), o_lt (a := (j : Int)) (b := (g : Int)) (by omega), ca', cj', e, o_ixn (j := 10 * a + j) (n := 100) (by omega), o_tnn (j := 10 * a + j) (by omega), c, ih']
theorem c18_2 (hb : LB b) {g : Nat} (hg : g < 10) : ∀ (k a : Nat) (u : Option Value), a + k = 10 → Wp (d + 2) 18 2 [some (.ref (b + 11)), some (.int (Int32.ofInt (g : Int))), some (.int (Int32.ofInt (a : Int))), u] [] (mk N t w (lay b (oL 12 ℓ (dpF (Int32.ofInt 0) (ℓ 12) g (10 * a))) I) L D) Q = Q (.inl none) (mk N t w (lay b (oL 12 ℓ (dpF (Int32.ofInt 0) (ℓ 12) g 100)) I) L D) := by
  intro k
  induction k with
  | zero =>
    intro a u ha
    obtain rfl : a = 10 := by omega
    have g0 : ¬ (((10 : Nat) : Int) < 10) := by omega
    rw [w18_2]
    simp only [w18_3, w18_5, w18_67, kn_s, kn_n, zh_mk, zR_mk, zI_mk, zL_mk, zD_mk, wI_mk, wL_mk, wD_mk, zT_mk, zC_mk, kill_i, kill_r, kill_0, kill_n, kill_l, kill_q, zzk_r, zzk_0, zzk_q, zcat_r, zcat_i, zcat_0, zcat_q, cats_0, cats_i, cats_r, cats_l, cats_d, cats_f, cats_q, cats_n, rv_s, rv_0, Nat.reduceAdd, Nat.reduceLeDiff, Nat.reduceEqDiff, Nat.add_zero, Nat.reduceMul, Nat.reduceSub, ne_eq, not_false_eq_true, not_true_eq_false, and_self, and_true, true_and, or_self, or_true, true_or, or_false, false_or, if_true, if_false, reduceIte, reduceCtorEq, implies_true, ite_self, ite_not, lay_in, lay_0, up2_lay, up2_lay0, kh0, kh1, kh2, kh3, kh4, kh5, kh6, kh7, kh8, kh9, kh10, kh11, kh12, khB, khP, kr2, kr4, kr5, kr7, kr8, kr9, kr10, krB, krP, krG0, krG1, krG2, krG3, krK, Nat.reduceLT, o_add, o_sub, o_mul, o_neg, q_add, q_sub, q_mul, q_neg, o_32, cast_s, Int.toNat_natCast, hb, o_lt (a := ((10 : Nat) : Int)) (b := 10) (by omega), g0]
  | succ k ih =>
    intro a u ha
    have g0 : (a : Int) < 10 := by omega
    have l := c18_10 (d := d) (N := N) (t := t) (w := w) (b := b) (I := I) (ℓ := ℓ) (L := L) (D := D) (Q := Q) hb hg (show a < 10 by omega) 10 0 (by omega)
    rw [Nat.add_zero, show 10 * a + 10 = 10 * (a + 1) by omega] at l
    rw [w18_2]
    simp only [w18_3, w18_5, w18_8, w18_9, kn_s, kn_n, zh_mk, zR_mk, zI_mk, zL_mk, zD_mk, wI_mk, wL_mk, wD_mk, zT_mk, zC_mk, kill_i, kill_r, kill_0, kill_n, kill_l, kill_q, zzk_r, zzk_0, zzk_q, zcat_r, zcat_i, zcat_0, zcat_q, cats_0, cats_i, cats_r, cats_l, cats_d, cats_f, cats_q, cats_n, rv_s, rv_0, Nat.reduceAdd, Nat.reduceLeDiff, Nat.reduceEqDiff, Nat.add_zero, Nat.reduceMul, Nat.reduceSub, ne_eq, not_false_eq_true, not_true_eq_false, and_self, and_true, true_and, or_self, or_true, true_or, or_false, false_or, if_true, if_false, reduceIte, reduceCtorEq, implies_true, ite_self, ite_not, lay_in, lay_0, up2_lay, up2_lay0, kh0, kh1, kh2, kh3, kh4, kh5, kh6, kh7, kh8, kh9, kh10, kh11, kh12, khB, khP, kr2, kr4, kr5, kr7, kr8, kr9, kr10, krB, krP, krG0, krG1, krG2, krG3, krK, Nat.reduceLT, o_add, o_sub, o_mul, o_neg, q_add, q_sub, q_mul, q_neg, o_32, cast_s, Int.toNat_natCast, hb, o_lt (a := (a : Int)) (b := 10) (by omega), g0]
    refine l.trans ?_
    simp only [w18_61, w18_64, kn_s, kn_n, zh_mk, zR_mk, zI_mk, zL_mk, zD_mk, wI_mk, wL_mk, wD_mk, zT_mk, zC_mk, kill_i, kill_r, kill_0, kill_n, kill_l, kill_q, zzk_r, zzk_0, zzk_q, zcat_r, zcat_i, zcat_0, zcat_q, cats_0, cats_i, cats_r, cats_l, cats_d, cats_f, cats_q, cats_n, rv_s, rv_0, Nat.reduceAdd, Nat.reduceLeDiff, Nat.reduceEqDiff, Nat.add_zero, Nat.reduceMul, Nat.reduceSub, ne_eq, not_false_eq_true, not_true_eq_false, and_self, and_true, true_and, or_self, or_true, true_or, or_false, false_or, if_true, if_false, reduceIte, reduceCtorEq, implies_true, ite_self, ite_not, lay_in, lay_0, up2_lay, up2_lay0, kh0, kh1, kh2, kh3, kh4, kh5, kh6, kh7, kh8, kh9, kh10, kh11, kh12, khB, khP, kr2, kr4, kr5, kr7, kr8, kr9, kr10, krB, krP, krG0, krG1, krG2, krG3, krK, Nat.reduceLT, o_add, o_sub, o_mul, o_neg, q_add, q_sub, q_mul, q_neg, o_32, cast_s, Int.toNat_natCast, hb]
    exact ih (a + 1) _ (by omega)
theorem c18 (hb : LB b) {g : Nat} (hg : g < 10) : Wp (d + 2) 18 0 [some (.ref (b + 11)), some (.int (Int32.ofInt (g : Int))), none, none] [] (mk N t w (lay b ℓ I) L D) Q = Q (.inl none) (mk N t w (lay b (oL 12 ℓ (dpF (Int32.ofInt 0) (ℓ 12) g 100)) I) L D) := by
  have := c18_2 (d := d) (N := N) (t := t) (w := w) (b := b) (I := I) (ℓ := ℓ) (L := L) (D := D) (Q := Q) hb hg 10 0 none (by omega)
  have e : dpF (Int32.ofInt 0) (ℓ 12) g (10 * 0) = ℓ 12 := by
    funext k
    unfold dpF
    rw [if_neg (by omega)]
  rw [e, oL_self] at this
  simp only [w18_0, w18_1, kn_s, kn_n, zh_mk, zR_mk, zI_mk, zL_mk, zD_mk, wI_mk, wL_mk, wD_mk, zT_mk, zC_mk, kill_i, kill_r, kill_0, kill_n, kill_l, kill_q, zzk_r, zzk_0, zzk_q, zcat_r, zcat_i, zcat_0, zcat_q, cats_0, cats_i, cats_r, cats_l, cats_d, cats_f, cats_q, cats_n, rv_s, rv_0, Nat.reduceAdd, Nat.reduceLeDiff, Nat.reduceEqDiff, Nat.add_zero, Nat.reduceMul, Nat.reduceSub, ne_eq, not_false_eq_true, not_true_eq_false, and_self, and_true, true_and, or_self, or_true, true_or, or_false, false_or, if_true, if_false, reduceIte, reduceCtorEq, implies_true, ite_self, ite_not]
  exact this
end S55
