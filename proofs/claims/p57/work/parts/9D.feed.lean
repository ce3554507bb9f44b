/-! FEED: a String into the input buffer -/
theorem pk4_i {a b c e : Int} (ha : 0 ≤ a ∧ a < 128) (hb : 0 ≤ b ∧ b < 128) (hc : 0 ≤ c ∧ c < 128) (he : 0 ≤ e ∧ e < 128) : bt (pk4 a b c e) 24 = Int32.ofInt a ∧ bt (pk4 a b c e) 16 = Int32.ofInt b ∧ bt (pk4 a b c e) 8 = Int32.ofInt c ∧ bt (pk4 a b c e) 0 = Int32.ofInt e := by
  obtain ⟨a, rfl⟩ : ∃ k : Nat, a = (k : Int) := ⟨a.toNat, by omega⟩
  obtain ⟨b, rfl⟩ : ∃ k : Nat, b = (k : Int) := ⟨b.toNat, by omega⟩
  obtain ⟨c, rfl⟩ : ∃ k : Nat, c = (k : Int) := ⟨c.toNat, by omega⟩
  obtain ⟨e, rfl⟩ : ∃ k : Nat, e = (k : Int) := ⟨e.toNat, by omega⟩
  exact pk4_b (by omega) (by omega) (by omega) (by omega)
/-- the first q bytes of the text lie in the buffer -/
def FD (I : Nat → Nat → Int32) (T : List Int) (q : Nat) : Nat → Nat → Int32 := fun a j => if a = 16 ∧ j < q then Int32.ofInt (T.getD j 0) else if a = 15 ∧ j = 1 then Int32.ofInt (q : Int) else I a j
theorem FD_1 {I : Nat → Nat → Int32} {T : List Int} {q : Nat} : a1 16 15 1 q (Int32.ofInt (T.getD q 0)) (FD I T q) = FD I T (q + 1) := by
  funext a j
  unfold a1 up2 FD
  by_cases h1 : a = 15 ∧ j = 1
  · rw [if_pos h1, if_neg (by omega), if_pos h1]
  · rw [if_neg h1]
    by_cases h2 : a = 16 ∧ j = q
    · rw [if_pos h2, if_pos (by omega), h2.2]
    · rw [if_neg h2]
      by_cases h3 : a = 16 ∧ j < q
      · rw [if_pos h3, if_pos (by omega)]
      · rw [if_neg h3, if_neg h1, if_neg (by omega), if_neg h1]
theorem FD_4 {I : Nat → Nat → Int32} {T : List Int} {q : Nat} (h : asc T) : a4 16 15 1 q (pk4 (T.getD q 0) (T.getD (q + 1) 0) (T.getD (q + 2) 0) (T.getD (q + 3) 0)) (FD I T q) = FD I T (q + 4) := by
  obtain ⟨h1, h2, h3, h4⟩ := pk4_i (asc_at h q) (asc_at h (q + 1)) (asc_at h (q + 2)) (asc_at h (q + 3))
  unfold a4
  rw [h1, h2, h3, h4, FD_1, FD_1, FD_1, FD_1]
theorem FD_20 {I : Nat → Nat → Int32} {T : List Int} {q : Nat} (h : asc T) : a20 16 15 1 q (pk4 (T.getD q 0) (T.getD (q + 1) 0) (T.getD (q + 2) 0) (T.getD (q + 3) 0)) (pk4 (T.getD (q + 4) 0) (T.getD (q + 4 + 1) 0) (T.getD (q + 4 + 2) 0) (T.getD (q + 4 + 3) 0)) (pk4 (T.getD (q + 8) 0) (T.getD (q + 8 + 1) 0) (T.getD (q + 8 + 2) 0) (T.getD (q + 8 + 3) 0)) (pk4 (T.getD (q + 12) 0) (T.getD (q + 12 + 1) 0) (T.getD (q + 12 + 2) 0) (T.getD (q + 12 + 3) 0)) (pk4 (T.getD (q + 16) 0) (T.getD (q + 16 + 1) 0) (T.getD (q + 16 + 2) 0) (T.getD (q + 16 + 3) 0)) (FD I T q) = FD I T (q + 20) := by
  unfold a20
  rw [FD_4 h, show q + 8 = q + 4 + 4 by omega, FD_4 h, show q + 12 = q + 4 + 4 + 4 by omega, FD_4 h, show q + 16 = q + 4 + 4 + 4 + 4 by omega, FD_4 h, FD_4 h]
theorem FD_0 {I : Nat → Nat → Int32} {T : List Int} (h : I 15 1 = Int32.ofInt 0) : FD I T 0 = I := by
  funext a j
  unfold FD
  rw [if_neg (by omega)]
  by_cases h1 : a = 15 ∧ j = 1
  · rw [if_pos h1, h1.1, h1.2, h]
    rfl
  · rw [if_neg h1]
section S9D
variable {N : NX} {w : WX} {d t S v p : Nat} {T : List Int} {I : Nat → Nat → Int32} {L : Nat → Nat → Int64} {D : Nat → Nat → UInt64} {Q : Rs → St → Prop}
theorem STR_FD {q : Nat} (hS : STR N w I S v T) : STR N w (FD I T q) S v T := by
  obtain ⟨s1, s2, s3, s4, s5, s6, s7, s8, s9⟩ := hS
  refine ⟨s1, s2, s3, s4, s5, ?_, ?_, s8, s9⟩
  · unfold FD
    rw [if_neg (by omega), if_neg (by omega)]
    exact s6
  · rw [← s7]
    funext j
    unfold FD
    rw [if_neg (by omega), if_neg (by omega)]
theorem c103 {k m : Nat} (hk : k ≤ m ∧ m ≤ 400) (e : I 15 1 = Int32.ofInt (m : Int)) : Wp (d + 1) 103 0 [some (.ref 15), some (.int (Int32.ofInt (k : Int)))] [] (mk N t w I L D) Q = Q (.inl none) (mk N t w (up2 I 15 1 (Int32.ofInt (k : Int))) L D) := by
  simp only [w103_0, w103_1, w103_2, w103_3, w103_6, w103_9, w103_10, w103_11, w103_14, kn_s, kn_n, zh_mk, zR_mk, zI_mk, zL_mk, zD_mk, wI_mk, wL_mk, wD_mk, zT_mk, zC_mk, kill_i, kill_r, kill_0, kill_n, kill_l, kill_q, zzk_r, zzk_0, zzk_q, zcat_r, zcat_i, zcat_0, zcat_q, cats_0, cats_i, cats_r, cats_l, cats_d, cats_f, cats_q, cats_n, rv_s, rv_0, Nat.reduceAdd, Nat.reduceLeDiff, Nat.reduceEqDiff, Nat.add_zero, Nat.reduceMul, Nat.reduceSub, ne_eq, not_false_eq_true, not_true_eq_false, and_self, and_true, true_and, or_self, or_true, true_or, or_false, false_or, if_true, if_false, reduceIte, reduceCtorEq, implies_true, ite_self, ite_not, k15, e, c104 (z := (k : Int)) (l := 0) (h := (m : Int)) (by omega) (by omega) (by omega) (by omega)]
/-- the buffer behind a feed -/
def FE (I : Nat → Nat → Int32) (T : List Int) (q : Nat) : Nat → Nat → Int32 := up2 (FD I T q) 15 1 (Int32.ofInt (T.length : Int))
theorem c149_4 (hS : STR N w I S v T) : ∀ m q : Nat, T.length ≤ q + 20 * m → q < T.length + 20 → (0 < q ∨ 0 < T.length) → q ≤ 380 → T.length ≤ 280 → (∀ q', T.length ≤ q' → q' ≤ 300 → Q (.inl none) (mk N t w (FE I T q') L D)) →
    Wp (d + 5) 149 4 [some (.ref 15), some (.ref S), some (.int (Int32.ofInt (q : Int))), some (.int (Int32.ofInt (q : Int)))] [] (mk N t w (FD I T q) L D) Q := by
  intro m
  have hS0 := hS
  obtain ⟨s1, s2, s3, s4, s5, s6, s7, s8, s9⟩ := hS
  induction m with
  | zero =>
    intro q h1 h2 h3 h4 h5 K
    have g : ¬ ((q : Int) < (T.length : Int)) := by omega
    have g2 : ¬ ((q : Int) = 0) := by omega
    have g3 : ((T.length : Int) < (q : Int)) = (T.length < q) := by rw [Int.ofNat_lt]
    have e : FD I T q 15 1 = Int32.ofInt (q : Int) := by unfold FD; rw [if_neg (by omega), if_pos ⟨rfl, rfl⟩]
    have em : (if Int32.ofInt (T.length : Int) < Int32.ofInt (q : Int) then Int32.ofInt (T.length : Int) else Int32.ofInt (q : Int)) = Int32.ofInt (T.length : Int) := by
      by_cases hlt : Int32.ofInt (T.length : Int) < Int32.ofInt (q : Int)
      · rw [if_pos hlt]
      · rw [if_neg hlt]
        have h9 := hlt
        rw [o_lt (by omega)] at h9
        rw [show (q : Int) = (T.length : Int) by omega]
    rw [w149_4]
    simp only [w149_0, w149_1, w149_2, w149_3, w149_5, w149_6, w149_6q, w149_9, w149_12, w149_13, w149_16, w149_17, w149_18, w149_19, w149_19q, w149_22, w149_23, w149_24, w149_25, w149_26, w149_26q, w149_29, w149_30, w149_31, w149_33, w149_34, w149_34q, w149_37, w149_38, w149_39, w149_41, w149_42, w149_42q, w149_45, w149_46, w149_47, w149_49, w149_50, w149_50q, w149_53, w149_56, w149_57, w149_60, w149_63, w149_64, w149_65, w149_66, w149_66q, w149_69, w149_72, w149_75, kn_s, kn_n, zh_mk, zR_mk, zI_mk, zL_mk, zD_mk, wI_mk, wL_mk, wD_mk, zT_mk, zC_mk, kill_i, kill_r, kill_0, kill_n, kill_l, kill_q, zzk_r, zzk_0, zzk_q, zcat_r, zcat_i, zcat_0, zcat_q, cats_0, cats_i, cats_r, cats_l, cats_d, cats_f, cats_q, cats_n, rv_s, rv_0, Nat.reduceAdd, Nat.reduceLeDiff, Nat.reduceEqDiff, Nat.add_zero, Nat.reduceMul, Nat.reduceSub, ne_eq, not_false_eq_true, not_true_eq_false, and_self, and_true, true_and, or_self, or_true, true_or, or_false, false_or, if_true, if_false, reduceIte, reduceCtorEq, implies_true, ite_self, ite_not, s1, k15, c188S (STR_FD (q := q) hS0), o_lt (a := (q : Int)) (b := (T.length : Int)) (by omega), g, o_eq (a := (q : Int)) (b := 0) (by omega), g2, em, c103 (k := T.length) (m := q) (by omega) e]
    exact K q (by omega) (by omega)
  | succ m ih =>
    intro q h1 h2 h3 h4 h5 K
    by_cases hq : q < T.length
    · have g : (q : Int) < (T.length : Int) := by omega
      have e : FD I T q 15 1 = Int32.ofInt (q : Int) := by unfold FD; rw [if_neg (by omega), if_pos ⟨rfl, rfl⟩]
      have q4 : (q : Int) + 4 = ((q + 4 : Nat) : Int) := by omega
      have q8 : (q : Int) + 8 = ((q + 8 : Nat) : Int) := by omega
      have q12 : (q : Int) + 12 = ((q + 12 : Nat) : Int) := by omega
      have q16 : (q : Int) + 16 = ((q + 16 : Nat) : Int) := by omega
      have q20 : (q : Int) + 20 = ((q + 20 : Nat) : Int) := by omega
      have hF := STR_FD (q := q) hS0
      rw [w149_4]
      simp only [w149_0, w149_1, w149_2, w149_3, w149_5, w149_6, w149_6q, w149_9, w149_12, w149_13, w149_16, w149_17, w149_18, w149_19, w149_19q, w149_22, w149_23, w149_24, w149_25, w149_26, w149_26q, w149_29, w149_30, w149_31, w149_33, w149_34, w149_34q, w149_37, w149_38, w149_39, w149_41, w149_42, w149_42q, w149_45, w149_46, w149_47, w149_49, w149_50, w149_50q, w149_53, w149_56, w149_57, w149_60, w149_63, w149_64, w149_65, w149_66, w149_66q, w149_69, w149_72, w149_75, kn_s, kn_n, zh_mk, zR_mk, zI_mk, zL_mk, zD_mk, wI_mk, wL_mk, wD_mk, zT_mk, zC_mk, kill_i, kill_r, kill_0, kill_n, kill_l, kill_q, zzk_r, zzk_0, zzk_q, zcat_r, zcat_i, zcat_0, zcat_q, cats_0, cats_i, cats_r, cats_l, cats_d, cats_f, cats_q, cats_n, rv_s, rv_0, Nat.reduceAdd, Nat.reduceLeDiff, Nat.reduceEqDiff, Nat.add_zero, Nat.reduceMul, Nat.reduceSub, ne_eq, not_false_eq_true, not_true_eq_false, and_self, and_true, true_and, or_self, or_true, true_or, or_false, false_or, if_true, if_false, reduceIte, reduceCtorEq, implies_true, ite_self, ite_not, o_add, o_sub, o_mul, o_neg, q_add, q_sub, q_mul, q_neg, o_32, cast_s, s1, k15, c188S hF, o_lt (a := (q : Int)) (b := (T.length : Int)) (by omega), g, q4, q8, q12, q16, q20, c148 hF (q := q) (by omega), c148 hF (q := q + 4) (by omega), c148 hF (q := q + 8) (by omega), c148 hF (q := q + 12) (by omega), c148 hF (q := q + 16) (by omega), c101 (k := q) (by omega) e, FD_20 s8]
      exact ih (q + 20) (by omega) (by omega) (Or.inl (by omega)) (by omega) h5 K
    · have h0 := ih q (by omega) h2 h3 h4 h5 K
      exact h0
theorem c149 (hS : STR N w I S v T) (h0 : I 15 1 = Int32.ofInt 0) (hl : 0 < T.length ∧ T.length ≤ 280) (K : ∀ q', T.length ≤ q' → q' ≤ 300 → Q (.inl none) (mk N t w (FE I T q') L D)) : Wp (d + 5) 149 0 [some (.ref 15), some (.ref S), none, none] [] (mk N t w I L D) Q := by
  simp only [w149_0, w149_1, w149_2, w149_3, kn_s, kn_n, zh_mk, zR_mk, zI_mk, zL_mk, zD_mk, wI_mk, wL_mk, wD_mk, zT_mk, zC_mk, kill_i, kill_r, kill_0, kill_n, kill_l, kill_q, zzk_r, zzk_0, zzk_q, zcat_r, zcat_i, zcat_0, zcat_q, cats_0, cats_i, cats_r, cats_l, cats_d, cats_f, cats_q, cats_n, rv_s, rv_0, Nat.reduceAdd, Nat.reduceLeDiff, Nat.reduceEqDiff, Nat.add_zero, Nat.reduceMul, Nat.reduceSub, ne_eq, not_false_eq_true, not_true_eq_false, and_self, and_true, true_and, or_self, or_true, true_or, or_false, false_or, if_true, if_false, reduceIte, reduceCtorEq, implies_true, ite_self, ite_not]
  have h := c149_4 (d := d) (N := N) (w := w) (t := t) (L := L) (D := D) (Q := Q) hS T.length 0 (by omega) (by omega) (Or.inr hl.1) (by omega) hl.2 K
  rw [FD_0 h0] at h
  exact h
end S9D
