/-! CONTRACTS of the reference: what stands where; sums -/
theorem mulb {a b A B : Int} (ha : -A ≤ a ∧ a ≤ A) (hb : -B ≤ b ∧ b ≤ B) : -(A * B) ≤ a * b ∧ a * b ≤ A * B := by
  have h1 : a.natAbs ≤ A.toNat := by omega
  have h2 : b.natAbs ≤ B.toNat := by omega
  have h3 : (a * b).natAbs ≤ A.toNat * B.toNat := by
    rw [Int.natAbs_mul]
    exact Nat.mul_le_mul h1 h2
  have h4 : ((A.toNat * B.toNat : Nat) : Int) = A * B := by
    rw [Int.natCast_mul, Int.toNat_of_nonneg (by omega), Int.toNat_of_nonneg (by omega)]
  omega
def pFind (f : Nat → Int) (c : Int) : Nat → Nat → Int
  | 0, _ => -1
  | r + 1, i => if f i = c then (i : Int) else pFind f c r (i + 1)
theorem pFind_0 {f : Nat → Int} {c : Int} {i : Nat} : pFind f c 0 i = -1 := nr rfl
theorem pFind_s {f : Nat → Int} {c : Int} {r i : Nat} : pFind f c (r + 1) i = if f i = c then (i : Int) else pFind f c r (i + 1) := nr rfl
theorem pFind_rng {f : Nat → Int} {c : Int} : ∀ r i, -1 ≤ pFind f c r i ∧ pFind f c r i < i + r + (if r = 0 then 1 else 0)
  | 0, i => by rw [pFind_0]; simp only [if_true]; omega
  | r + 1, i => by
    rw [pFind_s]
    have := pFind_rng (f := f) (c := c) r (i + 1)
    by_cases h : f i = c
    · rw [if_pos h]
      split <;> omega
    · rw [if_neg h]
      by_cases hr : r = 0
      · subst hr; simp only [pFind_0]; split <;> omega
      · rw [if_neg hr] at this; split <;> omega
/-- it is found, or nowhere -/
theorem pFind_spec {f : Nat → Int} {c : Int} : ∀ r i, (pFind f c r i = -1 ∧ ∀ j, i ≤ j → j < i + r → f j ≠ c) ∨ (∃ j : Nat, pFind f c r i = (j : Int) ∧ i ≤ j ∧ j < i + r ∧ f j = c ∧ ∀ q, i ≤ q → q < j → f q ≠ c)
  | 0, i => Or.inl ⟨rfl, fun j h1 h2 => by omega⟩
  | r + 1, i => by
    rw [pFind_s]
    by_cases h : f i = c
    · rw [if_pos h]
      exact Or.inr ⟨i, rfl, Nat.le_refl _, by omega, h, fun q h1 h2 => by omega⟩
    · rw [if_neg h]
      rcases pFind_spec (f := f) (c := c) r (i + 1) with ⟨h1, h2⟩ | ⟨j, h1, h2, h3, h4, h5⟩
      · refine Or.inl ⟨h1, fun j g1 g2 => ?_⟩
        by_cases hj : j = i
        · subst hj; exact h
        · exact h2 j (by omega) (by omega)
      · refine Or.inr ⟨j, h1, by omega, by omega, h4, fun q g1 g2 => ?_⟩
        by_cases hq : q = i
        · subst hq; exact h
        · exact h5 q (by omega) g2
def sumN (f : Nat → Int) : Nat → Int
  | 0 => 0
  | n + 1 => sumN f n + f n
theorem sumN_0 {f : Nat → Int} : sumN f 0 = 0 := nr rfl
theorem sumN_s {f : Nat → Int} {n : Nat} : sumN f (n + 1) = sumN f n + f n := nr rfl
theorem sumN_b {f : Nat → Int} {B : Int} : ∀ n, (∀ i, i < n → -B ≤ f i ∧ f i ≤ B) → -(B * n) ≤ sumN f n ∧ sumN f n ≤ B * n
  | 0, _ => by rw [sumN_0]; simp
  | n + 1, h => by
    have h1 := sumN_b n (fun i hi => h i (by omega))
    have h2 := h n (by omega)
    have h3 : B * ((n + 1 : Nat) : Int) = B * n + B := by rw [Int.natCast_add, Int.mul_add]; simp
    rw [sumN_s, h3]
    omega
def GB (α : Nat → Int) (n : Nat) : Prop := n ≤ 10 ∧ α 1 = n ∧ 10 ≤ α 0 ∧ α 0 ≤ 200 ∧ ∀ i, i < n → (0 ≤ α (B9 i 0) ∧ α (B9 i 0) < α 0) ∧ (-60 ≤ α (B9 i 1) ∧ α (B9 i 1) ≤ 60) ∧ (1 ≤ α (B9 i 2) ∧ α (B9 i 2) ≤ 20) ∧ (0 ≤ α (B9 i 3) ∧ α (B9 i 3) ≤ 59)
def GP (α : Nat → Int) (m : Nat) : Prop := m ≤ 4 ∧ α 2 = m ∧ ∀ p, p < m → (0 ≤ α (P3 p 0) ∧ α (P3 p 0) < α 0) ∧ (0 ≤ α (P3 p 1) ∧ α (P3 p 1) ≤ 100)
def bAt (α : Nat → Int) (n : Nat) (c : Int) : Int := pFind (fun i => α (B9 i 0)) c n 0
def pAt (α : Nat → Int) (m : Nat) (c : Int) : Int := pFind (fun p => α (P3 p 0)) c m 0
abbrev isC (α : Nat → Int) (c : Int) : Prop := 0 ≤ c ∧ c ≤ α 0 - 1
abbrev isF (α : Nat → Int) (n m : Nat) (c : Int) : Prop := isC α c ∧ bAt α n c = -1 ∧ pAt α m c = -1
theorem bAt_rng {α : Nat → Int} {n : Nat} {c : Int} (h : n ≤ 10) : -1 ≤ bAt α n c ∧ bAt α n c < 10 := by
  have := pFind_rng (f := fun i => α (B9 i 0)) (c := c) n 0
  unfold bAt
  split at this <;> omega
theorem pAt_rng {α : Nat → Int} {m : Nat} {c : Int} (h : m ≤ 4) : -1 ≤ pAt α m c ∧ pAt α m c < 4 := by
  have := pFind_rng (f := fun p => α (P3 p 0)) (c := c) m 0
  unfold pAt
  split at this <;> omega
section S24
variable {d N t w n m : Nat} {I : Nat → Nat → Int32} {L : Nat → Nat → Int64} {D : Nat → Nat → UInt64} {Q : Rs → St → Prop} {α : Nat → Int}
theorem c197 (hw : RW w) (hB : GB α n) {z : Int} (hz : -2147483648 ≤ z ∧ z < 2147483648) : Wp (d + 1) 197 0 [some (.ref 294), some (.int (Int32.ofInt z))] [] (mk N t w I (sR L w (r64 α)) D) Q = Q (.inl (some (.int (pI (0 ≤ z ∧ z ≤ (n : Int) - 1))))) (mk N t w I (sR L w (r64 α)) D) := by
  obtain ⟨h1, h2, -⟩ := hB
  simp only [w197_0, w197_1, w197_2, w197_3, w197_4, w197_7, w197_8, w197_9, w197_10, w197_13, kn_s, kn_n, zh_mk, zR_mk, zI_mk, zL_mk, zD_mk, wI_mk, wL_mk, wD_mk, zT_mk, zC_mk, kill_i, kill_r, kill_0, kill_n, kill_l, kill_q, zzk_r, zzk_0, zzk_q, zcat_r, zcat_i, zcat_0, cats_0, cats_i, cats_r, cats_l, cats_d, cats_f, rv_s, rv_0, Nat.reduceAdd, Nat.reduceLeDiff, Nat.add_zero, Nat.reduceMul, Nat.reduceSub, ne_eq, not_false_eq_true, not_true_eq_false, and_self, and_true, true_and, or_self, or_true, true_or, or_false, false_or, if_true, if_false, reduceIte, reduceCtorEq, implies_true, ite_self, ite_not, kM, kMr, kRow hw, sR_at, up2_r64, r64_at, o_add, o_sub, o_mul, o_neg, q_add, q_sub, q_mul, q_neg, o_32, cast_s, Int.toNat_natCast, c176 hw, h2, o_64 hz, o_64 (z := (n : Int) - 1) (by omega), c154 (a := z) (b := 0) (c := (n : Int) - 1) (by omega), p_n]
theorem c174 (hw : RW w) (h0 : 10 ≤ α 0 ∧ α 0 ≤ 200) {z : Int} (hz : -2147483648 ≤ z ∧ z < 2147483648) : Wp (d + 1) 174 0 [some (.ref 294), some (.int (Int32.ofInt z))] [] (mk N t w I (sR L w (r64 α)) D) Q = Q (.inl (some (.int (pI (isC α z))))) (mk N t w I (sR L w (r64 α)) D) := by
  simp only [w174_0, w174_1, w174_2, w174_3, w174_4, w174_7, w174_8, w174_9, w174_10, w174_13, kn_s, kn_n, zh_mk, zR_mk, zI_mk, zL_mk, zD_mk, wI_mk, wL_mk, wD_mk, zT_mk, zC_mk, kill_i, kill_r, kill_0, kill_n, kill_l, kill_q, zzk_r, zzk_0, zzk_q, zcat_r, zcat_i, zcat_0, cats_0, cats_i, cats_r, cats_l, cats_d, cats_f, rv_s, rv_0, Nat.reduceAdd, Nat.reduceLeDiff, Nat.add_zero, Nat.reduceMul, Nat.reduceSub, ne_eq, not_false_eq_true, not_true_eq_false, and_self, and_true, true_and, or_self, or_true, true_or, or_false, false_or, if_true, if_false, reduceIte, reduceCtorEq, implies_true, ite_self, ite_not, kM, kMr, kRow hw, sR_at, up2_r64, r64_at, o_add, o_sub, o_mul, o_neg, q_add, q_sub, q_mul, q_neg, o_32, cast_s, Int.toNat_natCast, c172 hw, o_64 hz, o_64 (z := α 0 - 1) (by omega), c154 (a := z) (b := 0) (c := α 0 - 1) (by omega), p_n]
theorem c175_2 (hw : RW w) (hB : GB α n) {c : Int} (hc : -2147483648 ≤ c ∧ c < 2147483648) : ∀ r i, i + r = n → Wp (d + 1) 175 2 [some (.ref 294), some (.int (Int32.ofInt c)), some (.int (Int32.ofInt (i : Int)))] [] (mk N t w I (sR L w (r64 α)) D) Q = Q (.inl (some (.int (Int32.ofInt (pFind (fun i => α (B9 i 0)) c r i))))) (mk N t w I (sR L w (r64 α)) D) := by
  obtain ⟨h1, h2, h3, h4, h5⟩ := hB
  intro r
  induction r with
  | zero =>
    intro i hi
    have g : ¬ ((i : Int) < n) := by omega
    simp only [w175_0, w175_1, w175_2, w175_3, w175_4, w175_7, w175_10, w175_11, w175_12, w175_13, w175_16, w175_17, w175_20, w175_21, w175_22, w175_25, w175_28, w175_29, kn_s, kn_n, zh_mk, zR_mk, zI_mk, zL_mk, zD_mk, wI_mk, wL_mk, wD_mk, zT_mk, zC_mk, kill_i, kill_r, kill_0, kill_n, kill_l, kill_q, zzk_r, zzk_0, zzk_q, zcat_r, zcat_i, zcat_0, cats_0, cats_i, cats_r, cats_l, cats_d, cats_f, rv_s, rv_0, Nat.reduceAdd, Nat.reduceLeDiff, Nat.add_zero, Nat.reduceMul, Nat.reduceSub, ne_eq, not_false_eq_true, not_true_eq_false, and_self, and_true, true_and, or_self, or_true, true_or, or_false, false_or, if_true, if_false, reduceIte, reduceCtorEq, implies_true, ite_self, ite_not, kM, kMr, kRow hw, sR_at, up2_r64, r64_at, o_add, o_sub, o_mul, o_neg, q_add, q_sub, q_mul, q_neg, o_32, cast_s, Int.toNat_natCast, c176 hw, h2, o_lt (a := (i : Int)) (b := (n : Int)) (by omega), g, pFind_0]
  | succ r ih =>
    intro i hi
    have g : (i : Int) < n := by omega
    have h6 := h5 i (by omega)
    rw [w175_2]
    simp only [w175_0, w175_1, w175_3, w175_4, w175_7, w175_10, w175_11, w175_12, w175_13, w175_16, w175_17, w175_20, w175_21, w175_22, w175_25, w175_28, w175_29, kn_s, kn_n, zh_mk, zR_mk, zI_mk, zL_mk, zD_mk, wI_mk, wL_mk, wD_mk, zT_mk, zC_mk, kill_i, kill_r, kill_0, kill_n, kill_l, kill_q, zzk_r, zzk_0, zzk_q, zcat_r, zcat_i, zcat_0, cats_0, cats_i, cats_r, cats_l, cats_d, cats_f, rv_s, rv_0, Nat.reduceAdd, Nat.reduceLeDiff, Nat.add_zero, Nat.reduceMul, Nat.reduceSub, ne_eq, not_false_eq_true, not_true_eq_false, and_self, and_true, true_and, or_self, or_true, true_or, or_false, false_or, if_true, if_false, reduceIte, reduceCtorEq, implies_true, ite_self, ite_not, kM, kMr, kRow hw, sR_at, up2_r64, r64_at, o_add, o_sub, o_mul, o_neg, q_add, q_sub, q_mul, q_neg, o_32, cast_s, Int.toNat_natCast, c176 hw, h2, o_lt (a := (i : Int)) (b := (n : Int)) (by omega), g, c177_0 hw (show i < 10 by omega), o_eq (a := α (B9 i 0)) (b := c) (by omega), ih (i + 1) (by omega), pFind_s]
    by_cases hx : α (B9 i 0) = c <;> simp only [hx, if_true, if_false]
theorem c175 (hw : RW w) (hB : GB α n) {c : Int} (hc : -2147483648 ≤ c ∧ c < 2147483648) : Wp (d + 1) 175 0 [some (.ref 294), some (.int (Int32.ofInt c)), none] [] (mk N t w I (sR L w (r64 α)) D) Q = Q (.inl (some (.int (Int32.ofInt (bAt α n c))))) (mk N t w I (sR L w (r64 α)) D) := by
  have := c175_2 (d := d) (N := N) (t := t) (I := I) (L := L) (D := D) (Q := Q) hw hB hc n 0 (by omega)
  simp only [w175_0, w175_1, kn_s, kn_n, zh_mk, zR_mk, zI_mk, zL_mk, zD_mk, wI_mk, wL_mk, wD_mk, zT_mk, zC_mk, kill_i, kill_r, kill_0, kill_n, kill_l, kill_q, zzk_r, zzk_0, zzk_q, zcat_r, zcat_i, zcat_0, cats_0, cats_i, cats_r, cats_l, cats_d, cats_f, rv_s, rv_0, Nat.reduceAdd, Nat.reduceLeDiff, Nat.add_zero, Nat.reduceMul, Nat.reduceSub, ne_eq, not_false_eq_true, not_true_eq_false, and_self, and_true, true_and, or_self, or_true, true_or, or_false, false_or, if_true, if_false, reduceIte, reduceCtorEq, implies_true, ite_self, ite_not]
  exact this
theorem c178_2 (hw : RW w) (hP : GP α m) (h0 : 10 ≤ α 0 ∧ α 0 ≤ 200) {c : Int} (hc : -2147483648 ≤ c ∧ c < 2147483648) : ∀ r i, i + r = m → Wp (d + 1) 178 2 [some (.ref 294), some (.int (Int32.ofInt c)), some (.int (Int32.ofInt (i : Int)))] [] (mk N t w I (sR L w (r64 α)) D) Q = Q (.inl (some (.int (Int32.ofInt (pFind (fun p => α (P3 p 0)) c r i))))) (mk N t w I (sR L w (r64 α)) D) := by
  obtain ⟨h1, h2, h5⟩ := hP
  intro r
  induction r with
  | zero =>
    intro i hi
    have g : ¬ ((i : Int) < m) := by omega
    simp only [w178_0, w178_1, w178_2, w178_3, w178_4, w178_7, w178_10, w178_11, w178_12, w178_13, w178_16, w178_17, w178_20, w178_21, w178_22, w178_25, w178_28, w178_29, kn_s, kn_n, zh_mk, zR_mk, zI_mk, zL_mk, zD_mk, wI_mk, wL_mk, wD_mk, zT_mk, zC_mk, kill_i, kill_r, kill_0, kill_n, kill_l, kill_q, zzk_r, zzk_0, zzk_q, zcat_r, zcat_i, zcat_0, cats_0, cats_i, cats_r, cats_l, cats_d, cats_f, rv_s, rv_0, Nat.reduceAdd, Nat.reduceLeDiff, Nat.add_zero, Nat.reduceMul, Nat.reduceSub, ne_eq, not_false_eq_true, not_true_eq_false, and_self, and_true, true_and, or_self, or_true, true_or, or_false, false_or, if_true, if_false, reduceIte, reduceCtorEq, implies_true, ite_self, ite_not, kM, kMr, kRow hw, sR_at, up2_r64, r64_at, o_add, o_sub, o_mul, o_neg, q_add, q_sub, q_mul, q_neg, o_32, cast_s, Int.toNat_natCast, c169 hw, h2, o_lt (a := (i : Int)) (b := (m : Int)) (by omega), g, pFind_0]
  | succ r ih =>
    intro i hi
    have g : (i : Int) < m := by omega
    have h6 := h5 i (by omega)
    rw [w178_2]
    simp only [w178_0, w178_1, w178_3, w178_4, w178_7, w178_10, w178_11, w178_12, w178_13, w178_16, w178_17, w178_20, w178_21, w178_22, w178_25, w178_28, w178_29, kn_s, kn_n, zh_mk, zR_mk, zI_mk, zL_mk, zD_mk, wI_mk, wL_mk, wD_mk, zT_mk, zC_mk, kill_i, kill_r, kill_0, kill_n, kill_l, kill_q, zzk_r, zzk_0, zzk_q, zcat_r, zcat_i, zcat_0, cats_0, cats_i, cats_r, cats_l, cats_d, cats_f, rv_s, rv_0, Nat.reduceAdd, Nat.reduceLeDiff, Nat.add_zero, Nat.reduceMul, Nat.reduceSub, ne_eq, not_false_eq_true, not_true_eq_false, and_self, and_true, true_and, or_self, or_true, true_or, or_false, false_or, if_true, if_false, reduceIte, reduceCtorEq, implies_true, ite_self, ite_not, kM, kMr, kRow hw, sR_at, up2_r64, r64_at, o_add, o_sub, o_mul, o_neg, q_add, q_sub, q_mul, q_neg, o_32, cast_s, Int.toNat_natCast, c169 hw, h2, o_lt (a := (i : Int)) (b := (m : Int)) (by omega), g, c179_0 hw (show i < 4 by omega), o_eq (a := α (P3 i 0)) (b := c) (by omega), ih (i + 1) (by omega), pFind_s]
    by_cases hx : α (P3 i 0) = c <;> simp only [hx, if_true, if_false]
theorem c178 (hw : RW w) (hP : GP α m) (h0 : 10 ≤ α 0 ∧ α 0 ≤ 200) {c : Int} (hc : -2147483648 ≤ c ∧ c < 2147483648) : Wp (d + 1) 178 0 [some (.ref 294), some (.int (Int32.ofInt c)), none] [] (mk N t w I (sR L w (r64 α)) D) Q = Q (.inl (some (.int (Int32.ofInt (pAt α m c))))) (mk N t w I (sR L w (r64 α)) D) := by
  have := c178_2 (d := d) (N := N) (t := t) (I := I) (L := L) (D := D) (Q := Q) hw hP h0 hc m 0 (by omega)
  simp only [w178_0, w178_1, kn_s, kn_n, zh_mk, zR_mk, zI_mk, zL_mk, zD_mk, wI_mk, wL_mk, wD_mk, zT_mk, zC_mk, kill_i, kill_r, kill_0, kill_n, kill_l, kill_q, zzk_r, zzk_0, zzk_q, zcat_r, zcat_i, zcat_0, cats_0, cats_i, cats_r, cats_l, cats_d, cats_f, rv_s, rv_0, Nat.reduceAdd, Nat.reduceLeDiff, Nat.add_zero, Nat.reduceMul, Nat.reduceSub, ne_eq, not_false_eq_true, not_true_eq_false, and_self, and_true, true_and, or_self, or_true, true_or, or_false, false_or, if_true, if_false, reduceIte, reduceCtorEq, implies_true, ite_self, ite_not]
  exact this
theorem c173 (hw : RW w) (hB : GB α n) (hP : GP α m) {c : Int} (hc : -2147483648 ≤ c ∧ c < 2147483648) : Wp (d + 2) 173 0 [some (.ref 294), some (.int (Int32.ofInt c))] [] (mk N t w I (sR L w (r64 α)) D) Q = Q (.inl (some (.int (pI (isF α n m c))))) (mk N t w I (sR L w (r64 α)) D) := by
  have h0 : 10 ≤ α 0 ∧ α 0 ≤ 200 := ⟨hB.2.2.1, hB.2.2.2.1⟩
  have hb := bAt_rng (α := α) (c := c) hB.1
  have hp := pAt_rng (α := α) (c := c) hP.1
  simp only [w173_0, w173_1, w173_2, w173_5, w173_8, w173_9, w173_10, w173_13, w173_14, w173_17, w173_18, w173_19, w173_22, w173_23, w173_26, w173_27, w173_30, w173_31, kn_s, kn_n, zh_mk, zR_mk, zI_mk, zL_mk, zD_mk, wI_mk, wL_mk, wD_mk, zT_mk, zC_mk, kill_i, kill_r, kill_0, kill_n, kill_l, kill_q, zzk_r, zzk_0, zzk_q, zcat_r, zcat_i, zcat_0, cats_0, cats_i, cats_r, cats_l, cats_d, cats_f, rv_s, rv_0, Nat.reduceAdd, Nat.reduceLeDiff, Nat.add_zero, Nat.reduceMul, Nat.reduceSub, ne_eq, not_false_eq_true, not_true_eq_false, and_self, and_true, true_and, or_self, or_true, true_or, or_false, false_or, if_true, if_false, reduceIte, reduceCtorEq, implies_true, ite_self, ite_not, kM, kMr, kRow hw, sR_at, up2_r64, r64_at, o_add, o_sub, o_mul, o_neg, q_add, q_sub, q_mul, q_neg, o_32, cast_s, Int.toNat_natCast, c174 hw h0 hc, c175 hw hB hc, c178 hw hP h0 hc, p_0, o_eq (a := bAt α n c) (b := -1) (by omega), o_eq (a := pAt α m c) (b := -1) (by omega), p_n1, p_n0, ite_not]
  unfold pI isF
  by_cases h1 : isC α c
  · by_cases h2 : bAt α n c = -1 <;> by_cases h3 : pAt α m c = -1 <;> simp only [eq_true h1, h2, h3, and_self, and_true, and_false, false_and, if_true, if_false, ite_self]
  · simp only [eq_false h1, false_and, if_false]
theorem c207 {x : Int32} {σ : St} : Wp d 207 0 [some (.int x)] [] σ Q = Q (.inl (some (.int (Int32.ofInt (if x = Int32.ofInt 0 then -1 else 1))))) σ := by
  simp only [w207_0, w207_1, w207_4, w207_5, w207_8, w207_9, kn_s, kn_n, zh_mk, zR_mk, zI_mk, zL_mk, zD_mk, wI_mk, wL_mk, wD_mk, zT_mk, zC_mk, kill_i, kill_r, kill_0, kill_n, kill_l, kill_q, zzk_r, zzk_0, zzk_q, zcat_r, zcat_i, zcat_0, cats_0, cats_i, cats_r, cats_l, cats_d, cats_f, rv_s, rv_0, Nat.reduceAdd, Nat.reduceLeDiff, Nat.add_zero, Nat.reduceMul, Nat.reduceSub, ne_eq, not_false_eq_true, not_true_eq_false, and_self, and_true, true_and, or_self, or_true, true_or, or_false, false_or, if_true, if_false, reduceIte, reduceCtorEq, implies_true, ite_self, ite_not]
  by_cases hx : x = Int32.ofInt 0 <;> simp only [hx, if_true, if_false]
theorem c194 (hw : RW w) {i : Nat} (hi : i < 10) : Wp (d + 1) 194 0 [some (.ref 294), some (.int (Int32.ofInt (i : Int)))] [] (mk N t w I (sR L w (r64 α)) D) Q = Q (.inl (some (.int (Int32.ofInt (α (B9 i 1)))))) (mk N t w I (sR L w (r64 α)) D) := by
  simp only [w194_0, w194_1, w194_2, w194_3, w194_6, kn_s, kn_n, zh_mk, zR_mk, zI_mk, zL_mk, zD_mk, wI_mk, wL_mk, wD_mk, zT_mk, zC_mk, kill_i, kill_r, kill_0, kill_n, kill_l, kill_q, zzk_r, zzk_0, zzk_q, zcat_r, zcat_i, zcat_0, cats_0, cats_i, cats_r, cats_l, cats_d, cats_f, rv_s, rv_0, Nat.reduceAdd, Nat.reduceLeDiff, Nat.add_zero, Nat.reduceMul, Nat.reduceSub, ne_eq, not_false_eq_true, not_true_eq_false, and_self, and_true, true_and, or_self, or_true, true_or, or_false, false_or, if_true, if_false, reduceIte, reduceCtorEq, implies_true, ite_self, ite_not, kM, kMr, kRow hw, sR_at, up2_r64, r64_at, o_add, o_sub, o_mul, o_neg, q_add, q_sub, q_mul, q_neg, o_32, cast_s, Int.toNat_natCast, c177_1 hw hi]
def zabs (z : Int) : Int := if z < 0 then -z else z
theorem c220 (hw : RW w) {i : Nat} (hi : i < 10) (hs : -60 ≤ α (B9 i 1) ∧ α (B9 i 1) ≤ 60) : Wp (d + 2) 220 0 [some (.ref 294), some (.int (Int32.ofInt (i : Int)))] [] (mk N t w I (sR L w (r64 α)) D) Q = Q (.inl (some (.int (Int32.ofInt (zabs (α (B9 i 1))))))) (mk N t w I (sR L w (r64 α)) D) := by
  simp only [w220_0, w220_1, w220_2, w220_5, w220_8, kn_s, kn_n, zh_mk, zR_mk, zI_mk, zL_mk, zD_mk, wI_mk, wL_mk, wD_mk, zT_mk, zC_mk, kill_i, kill_r, kill_0, kill_n, kill_l, kill_q, zzk_r, zzk_0, zzk_q, zcat_r, zcat_i, zcat_0, cats_0, cats_i, cats_r, cats_l, cats_d, cats_f, rv_s, rv_0, Nat.reduceAdd, Nat.reduceLeDiff, Nat.add_zero, Nat.reduceMul, Nat.reduceSub, ne_eq, not_false_eq_true, not_true_eq_false, and_self, and_true, true_and, or_self, or_true, true_or, or_false, false_or, if_true, if_false, reduceIte, reduceCtorEq, implies_true, ite_self, ite_not, kM, kMr, kRow hw, sR_at, up2_r64, r64_at, o_add, o_sub, o_mul, o_neg, q_add, q_sub, q_mul, q_neg, o_32, cast_s, Int.toNat_natCast, c194 hw hi, o_le (a := 0) (b := α (B9 i 1)) (by omega)]
  unfold zabs
  by_cases h : α (B9 i 1) < 0
  · have h1 : ¬ (0 ≤ α (B9 i 1)) := by omega
    simp only [h, h1, if_true, if_false, Int.zero_sub]
  · have h1 : 0 ≤ α (B9 i 1) := by omega
    simp only [h, h1, if_true, if_false]
theorem c217 (hw : RW w) {i : Nat} (hi : i < 10) : Wp (d + 2) 217 0 [some (.ref 294), some (.int (Int32.ofInt (i : Int)))] [] (mk N t w I (sR L w (r64 α)) D) Q = Q (.inl (some (.int (Int32.ofInt (α (B9 i 2) * α (B9 i 1) * α (B9 i 1)))))) (mk N t w I (sR L w (r64 α)) D) := by
  simp only [w217_0, w217_1, w217_2, w217_3, w217_6, w217_7, w217_8, w217_11, w217_12, w217_13, w217_14, w217_17, w217_18, kn_s, kn_n, zh_mk, zR_mk, zI_mk, zL_mk, zD_mk, wI_mk, wL_mk, wD_mk, zT_mk, zC_mk, kill_i, kill_r, kill_0, kill_n, kill_l, kill_q, zzk_r, zzk_0, zzk_q, zcat_r, zcat_i, zcat_0, cats_0, cats_i, cats_r, cats_l, cats_d, cats_f, rv_s, rv_0, Nat.reduceAdd, Nat.reduceLeDiff, Nat.add_zero, Nat.reduceMul, Nat.reduceSub, ne_eq, not_false_eq_true, not_true_eq_false, and_self, and_true, true_and, or_self, or_true, true_or, or_false, false_or, if_true, if_false, reduceIte, reduceCtorEq, implies_true, ite_self, ite_not, kM, kMr, kRow hw, sR_at, up2_r64, r64_at, o_add, o_sub, o_mul, o_neg, q_add, q_sub, q_mul, q_neg, o_32, cast_s, Int.toNat_natCast, c194 hw hi, c177_2 hw hi]
def pushA (α : Nat → Int) (n : Nat) : Int := sumN (fun i => α (B9 i 2) * α (B9 i 1)) n
def enA (α : Nat → Int) (n : Nat) : Int := sumN (fun i => α (B9 i 2) * α (B9 i 1) * α (B9 i 1)) n
def wtA (α : Nat → Int) (n : Nat) : Int := sumN (fun i => α (B9 i 2)) n
theorem push_b {w s : Int} (hw : 1 ≤ w ∧ w ≤ 20) (hs : -60 ≤ s ∧ s ≤ 60) : (-1200 ≤ w * s ∧ w * s ≤ 1200) ∧ (-72000 ≤ w * s * s ∧ w * s * s ≤ 72000) := by
  have h1 := mulb (a := w) (b := s) (A := 20) (B := 60) (by omega) (by omega)
  have h2 := mulb (a := w * s) (b := s) (A := 1200) (B := 60) (by omega) (by omega)
  omega
theorem c215_4 (hw : RW w) (hB : GB α n) : ∀ r i, i + r = n → Wp (d + 2) 215 4 [some (.ref 294), some (.long (Int64.ofInt (pushA α i))), none, some (.int (Int32.ofInt (i : Int)))] [] (mk N t w I (sR L w (r64 α)) D) Q = Q (.inl (some (.long (Int64.ofInt (pushA α n))))) (mk N t w I (sR L w (r64 α)) D) := by
  obtain ⟨h1, h2, h3, h4, h5⟩ := hB
  intro r
  induction r with
  | zero =>
    intro i hi
    have g : ¬ ((i : Int) < n) := by omega
    obtain rfl : i = n := by omega
    simp only [w215_0, w215_1, w215_2, w215_3, w215_4, w215_5, w215_6, w215_9, w215_12, w215_13, w215_14, w215_15, w215_16, w215_19, w215_20, w215_21, w215_24, w215_25, w215_26, w215_27, w215_28, w215_31, w215_34, w215_35, kn_s, kn_n, zh_mk, zR_mk, zI_mk, zL_mk, zD_mk, wI_mk, wL_mk, wD_mk, zT_mk, zC_mk, kill_i, kill_r, kill_0, kill_n, kill_l, kill_q, zzk_r, zzk_0, zzk_q, zcat_r, zcat_i, zcat_0, cats_0, cats_i, cats_r, cats_l, cats_d, cats_f, rv_s, rv_0, Nat.reduceAdd, Nat.reduceLeDiff, Nat.add_zero, Nat.reduceMul, Nat.reduceSub, ne_eq, not_false_eq_true, not_true_eq_false, and_self, and_true, true_and, or_self, or_true, true_or, or_false, false_or, if_true, if_false, reduceIte, reduceCtorEq, implies_true, ite_self, ite_not, kM, kMr, kRow hw, sR_at, up2_r64, r64_at, o_add, o_sub, o_mul, o_neg, q_add, q_sub, q_mul, q_neg, o_32, cast_s, Int.toNat_natCast, c176 hw, h2, o_lt (a := (i : Int)) (b := (i : Int)) (by omega), g]
  | succ r ih =>
    intro i hi
    have g : (i : Int) < n := by omega
    have h6 := h5 i (by omega)
    have h7 := push_b h6.2.2.1 h6.2.1
    have h8 : pushA α i + α (B9 i 2) * α (B9 i 1) = pushA α (i + 1) := rfl
    rw [w215_4]
    simp only [w215_0, w215_1, w215_2, w215_3, w215_5, w215_6, w215_9, w215_12, w215_13, w215_14, w215_15, w215_16, w215_19, w215_20, w215_21, w215_24, w215_25, w215_26, w215_27, w215_28, w215_31, w215_34, w215_35, kn_s, kn_n, zh_mk, zR_mk, zI_mk, zL_mk, zD_mk, wI_mk, wL_mk, wD_mk, zT_mk, zC_mk, kill_i, kill_r, kill_0, kill_n, kill_l, kill_q, zzk_r, zzk_0, zzk_q, zcat_r, zcat_i, zcat_0, cats_0, cats_i, cats_r, cats_l, cats_d, cats_f, rv_s, rv_0, Nat.reduceAdd, Nat.reduceLeDiff, Nat.add_zero, Nat.reduceMul, Nat.reduceSub, ne_eq, not_false_eq_true, not_true_eq_false, and_self, and_true, true_and, or_self, or_true, true_or, or_false, false_or, if_true, if_false, reduceIte, reduceCtorEq, implies_true, ite_self, ite_not, kM, kMr, kRow hw, sR_at, up2_r64, r64_at, o_add, o_sub, o_mul, o_neg, q_add, q_sub, q_mul, q_neg, o_32, cast_s, Int.toNat_natCast, c176 hw, h2, o_lt (a := (i : Int)) (b := (n : Int)) (by omega), g, c177_2 hw (show i < 10 by omega), c194 hw (show i < 10 by omega), o_64 (z := α (B9 i 2) * α (B9 i 1)) (by omega), h8, ih (i + 1) (by omega)]
theorem c215 (hw : RW w) (hB : GB α n) : Wp (d + 2) 215 0 [some (.ref 294), none, none, none] [] (mk N t w I (sR L w (r64 α)) D) Q = Q (.inl (some (.long (Int64.ofInt (pushA α n))))) (mk N t w I (sR L w (r64 α)) D) := by
  have := c215_4 (d := d) (N := N) (t := t) (I := I) (L := L) (D := D) (Q := Q) hw hB n 0 (by omega)
  simp only [w215_0, w215_1, w215_2, w215_3, kn_s, kn_n, zh_mk, zR_mk, zI_mk, zL_mk, zD_mk, wI_mk, wL_mk, wD_mk, zT_mk, zC_mk, kill_i, kill_r, kill_0, kill_n, kill_l, kill_q, zzk_r, zzk_0, zzk_q, zcat_r, zcat_i, zcat_0, cats_0, cats_i, cats_r, cats_l, cats_d, cats_f, rv_s, rv_0, Nat.reduceAdd, Nat.reduceLeDiff, Nat.add_zero, Nat.reduceMul, Nat.reduceSub, ne_eq, not_false_eq_true, not_true_eq_false, and_self, and_true, true_and, or_self, or_true, true_or, or_false, false_or, if_true, if_false, reduceIte, reduceCtorEq, implies_true, ite_self, ite_not]
  exact this
theorem c216_4 (hw : RW w) (hB : GB α n) : ∀ r i, i + r = n → Wp (d + 3) 216 4 [some (.ref 294), some (.long (Int64.ofInt (enA α i))), none, some (.int (Int32.ofInt (i : Int)))] [] (mk N t w I (sR L w (r64 α)) D) Q = Q (.inl (some (.long (Int64.ofInt (enA α n))))) (mk N t w I (sR L w (r64 α)) D) := by
  obtain ⟨h1, h2, h3, h4, h5⟩ := hB
  intro r
  induction r with
  | zero =>
    intro i hi
    have g : ¬ ((i : Int) < n) := by omega
    obtain rfl : i = n := by omega
    simp only [w216_0, w216_1, w216_2, w216_3, w216_4, w216_5, w216_6, w216_9, w216_12, w216_13, w216_14, w216_15, w216_18, w216_19, w216_20, w216_21, w216_24, w216_27, w216_28, kn_s, kn_n, zh_mk, zR_mk, zI_mk, zL_mk, zD_mk, wI_mk, wL_mk, wD_mk, zT_mk, zC_mk, kill_i, kill_r, kill_0, kill_n, kill_l, kill_q, zzk_r, zzk_0, zzk_q, zcat_r, zcat_i, zcat_0, cats_0, cats_i, cats_r, cats_l, cats_d, cats_f, rv_s, rv_0, Nat.reduceAdd, Nat.reduceLeDiff, Nat.add_zero, Nat.reduceMul, Nat.reduceSub, ne_eq, not_false_eq_true, not_true_eq_false, and_self, and_true, true_and, or_self, or_true, true_or, or_false, false_or, if_true, if_false, reduceIte, reduceCtorEq, implies_true, ite_self, ite_not, kM, kMr, kRow hw, sR_at, up2_r64, r64_at, o_add, o_sub, o_mul, o_neg, q_add, q_sub, q_mul, q_neg, o_32, cast_s, Int.toNat_natCast, c176 hw, h2, o_lt (a := (i : Int)) (b := (i : Int)) (by omega), g]
  | succ r ih =>
    intro i hi
    have g : (i : Int) < n := by omega
    have h6 := h5 i (by omega)
    have h7 := push_b h6.2.2.1 h6.2.1
    have h8 : enA α i + α (B9 i 2) * α (B9 i 1) * α (B9 i 1) = enA α (i + 1) := rfl
    rw [w216_4]
    simp only [w216_0, w216_1, w216_2, w216_3, w216_5, w216_6, w216_9, w216_12, w216_13, w216_14, w216_15, w216_18, w216_19, w216_20, w216_21, w216_24, w216_27, w216_28, kn_s, kn_n, zh_mk, zR_mk, zI_mk, zL_mk, zD_mk, wI_mk, wL_mk, wD_mk, zT_mk, zC_mk, kill_i, kill_r, kill_0, kill_n, kill_l, kill_q, zzk_r, zzk_0, zzk_q, zcat_r, zcat_i, zcat_0, cats_0, cats_i, cats_r, cats_l, cats_d, cats_f, rv_s, rv_0, Nat.reduceAdd, Nat.reduceLeDiff, Nat.add_zero, Nat.reduceMul, Nat.reduceSub, ne_eq, not_false_eq_true, not_true_eq_false, and_self, and_true, true_and, or_self, or_true, true_or, or_false, false_or, if_true, if_false, reduceIte, reduceCtorEq, implies_true, ite_self, ite_not, kM, kMr, kRow hw, sR_at, up2_r64, r64_at, o_add, o_sub, o_mul, o_neg, q_add, q_sub, q_mul, q_neg, o_32, cast_s, Int.toNat_natCast, c176 hw, h2, o_lt (a := (i : Int)) (b := (n : Int)) (by omega), g, c217 hw (show i < 10 by omega), o_64 (z := α (B9 i 2) * α (B9 i 1) * α (B9 i 1)) (by omega), h8, ih (i + 1) (by omega)]
theorem c216 (hw : RW w) (hB : GB α n) : Wp (d + 3) 216 0 [some (.ref 294), none, none, none] [] (mk N t w I (sR L w (r64 α)) D) Q = Q (.inl (some (.long (Int64.ofInt (enA α n))))) (mk N t w I (sR L w (r64 α)) D) := by
  have := c216_4 (d := d) (N := N) (t := t) (I := I) (L := L) (D := D) (Q := Q) hw hB n 0 (by omega)
  simp only [w216_0, w216_1, w216_2, w216_3, kn_s, kn_n, zh_mk, zR_mk, zI_mk, zL_mk, zD_mk, wI_mk, wL_mk, wD_mk, zT_mk, zC_mk, kill_i, kill_r, kill_0, kill_n, kill_l, kill_q, zzk_r, zzk_0, zzk_q, zcat_r, zcat_i, zcat_0, cats_0, cats_i, cats_r, cats_l, cats_d, cats_f, rv_s, rv_0, Nat.reduceAdd, Nat.reduceLeDiff, Nat.add_zero, Nat.reduceMul, Nat.reduceSub, ne_eq, not_false_eq_true, not_true_eq_false, and_self, and_true, true_and, or_self, or_true, true_or, or_false, false_or, if_true, if_false, reduceIte, reduceCtorEq, implies_true, ite_self, ite_not]
  exact this
end S24
