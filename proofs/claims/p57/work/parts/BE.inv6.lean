/-! WHAT THE LAW HOLDS: at the start -/
/-- what is 0 on a line that is read -/
def ZKk (k : Nat) : Prop := CK k ∨ k = 5 ∨ k = 7
def ZK (α : Nat → Int) : Prop := ∀ k, ZKk k → α k = 0
theorem ZKk_n {k : Nat} (h : ZKk k) : k ≠ 0 ∧ k ≠ 1 ∧ k ≠ 2 ∧ k ≠ 8 ∧ k ≠ 9 ∧ (∀ p, p < 4 → k ≠ P3 p 0 ∧ k ≠ P3 p 1) ∧ ∀ i, i < 10 → k ≠ B9 i 0 ∧ k ≠ B9 i 1 ∧ k ≠ B9 i 2 ∧ k ≠ B9 i 8 := by
  rcases h with (h | h | h | h | ⟨p, h1, h2⟩ | ⟨i, q, h1, h2, h3, h4⟩) | h | h
  · refine ⟨by omega, by omega, by omega, by omega, by omega, fun p hp => by unfold P3; omega, fun i hi => by unfold B9; omega⟩
  · refine ⟨by omega, by omega, by omega, by omega, by omega, fun p hp => by unfold P3; omega, fun i hi => by unfold B9; omega⟩
  · refine ⟨by omega, by omega, by omega, by omega, by omega, fun p hp => by unfold P3; omega, fun i hi => by unfold B9; omega⟩
  · refine ⟨by omega, by omega, by omega, by omega, by omega, fun p hp => by unfold P3; omega, fun i hi => by unfold B9; omega⟩
  · unfold P3 at h2
    refine ⟨by omega, by omega, by omega, by omega, by omega, fun p hp => by unfold P3; omega, fun i hi => by unfold B9; omega⟩
  · unfold B9 at h4
    refine ⟨by omega, by omega, by omega, by omega, by omega, fun p hp => by unfold P3; omega, fun i hi => by unfold B9; omega⟩
  · refine ⟨by omega, by omega, by omega, by omega, by omega, fun p hp => by unfold P3; omega, fun i hi => by unfold B9; omega⟩
  · refine ⟨by omega, by omega, by omega, by omega, by omega, fun p hp => by unfold P3; omega, fun i hi => by unfold B9; omega⟩
theorem ZK_po {α : Nat → Int} {m : Nat} {c s : Int} (h : ZK α) (hm : m < 4) : ZK (poA α m c s) := fun k hk => by
  obtain ⟨h0, h1, h2, h8, h9, hP, hB⟩ := ZKk_n hk
  rw [poA_ne ⟨h2, (hP m hm).1, (hP m hm).2⟩]
  exact h k hk
theorem ZK_ba {α : Nat → Int} {n : Nat} {c s g nm : Int} (h : ZK α) (hn : n < 10) : ZK (bdA α n c s g nm) := fun k hk => by
  obtain ⟨h0, h1, h2, h8, h9, hP, hB⟩ := ZKk_n hk
  by_cases hr : k < 28 + 9 * n ∨ 37 + 9 * n ≤ k
  · rw [bdA_ne ⟨h1, hr⟩]
    exact h k hk
  · obtain ⟨q, hq, rfl⟩ : ∃ q, q < 9 ∧ k = B9 n q := ⟨k - 28 - 9 * n, by omega, by unfold B9; omega⟩
    obtain ⟨b0, b1, b2, b8⟩ := hB n hn
    have hne : ∀ r, B9 n q ≠ B9 n r → q ≠ r := fun r e e2 => e (by rw [e2])
    rw [bdA_at hq, if_neg (hne 0 b0), if_neg (hne 1 b1), if_neg (hne 2 b2), if_neg (hne 8 b8)]
theorem ZK_eff : ∀ (Z : List Stm) (A : LN3), ZK A.1 → okZ A Z → ZK (effs A Z).1
  | [], _, h, _ => h
  | z :: Z, A, h, hz => by
    refine ZK_eff Z (eff A z) ?_ hz.2
    match z, hz.1 with
    | .inl (c, s), hz => exact ZK_po h hz.1
    | .inr (c, v, g), hz => exact ZK_ba h (by have := hz.1; omega)
theorem ZK_bx {x : Int} {o : Option (Int × Int)} : ZK (bxO x o).1 := fun k hk => by
  obtain ⟨h0, h1, h2, h8, h9, -, -⟩ := ZKk_n hk
  have : ∀ l r : Int, bxA x l r k = 0 := fun l r => by
    unfold bxA
    rw [if_neg h0, if_neg h8, if_neg h9]
  match o with
  | none => exact this 0 0
  | some (y, z) => exact this y z
theorem LI_0 {α : Nat → Int} {n m : Nat} {W : Prop} (h : ZK α) (hn : n ≤ 10) (hm : m ≤ 4) : LI (pushA α n) W α n m := by
  have hK : ∀ k, k = 3 ∨ k = 4 ∨ (10 ≤ k ∧ k ≤ 15) → α k = 0 := fun k hk => h k (Or.inl (by unfold CK; omega))
  have hH : ∀ i j, i < 10 → j < 10 → α (HH i j) = 0 := fun i j hi hj => h _ (Or.inl (Or.inr (Or.inr (Or.inr (Or.inl (by unfold HH; omega))))))
  have hB : ∀ i q, i < n → 4 ≤ q → q ≤ 7 → α (B9 i q) = 0 := fun i q hi h1 h2 => h _ (Or.inl (Or.inr (Or.inr (Or.inr (Or.inr (Or.inr ⟨i, q, by omega, h1, h2, rfl⟩))))))
  have hP : ∀ p, p < m → α (P3 p 2) = 0 := fun p hp => h _ (Or.inl (Or.inr (Or.inr (Or.inr (Or.inr (Or.inl ⟨p, by omega, rfl⟩))))))
  refine ⟨?_, fun _ => ⟨fun i j hi hj => by rw [hH i j hi hj, hH j i hj hi], fun i hi => hH i i hi hi, fun i j hi hj _ => hH i j hi hj, fun i hi => ?_, ?_, ?_, ?_, ?_, ?_, ?_, ?_⟩⟩
  · unfold PU
    rw [h 7 (Or.inr (Or.inr rfl)), h 5 (Or.inr (Or.inl rfl))]
    omega
  · rw [hB i 5 hi (by omega) (by omega)]
    exact sumN_z n fun j hj => hH i j (by omega) (by omega)
  · rw [hK 12 (by omega)]
    exact sumN_z n fun i hi => hB i 5 hi (by omega) (by omega)
  · rw [hK 13 (by omega)]
    exact sumN_z n fun i hi => hB i 6 hi (by omega) (by omega)
  · rw [hK 13 (by omega), hK 10 (by omega), hK 11 (by omega), sumN_z m hP]
    rfl
  · rw [hK 14 (by omega)]
    exact sumN_z n fun i hi => hB i 7 hi (by omega) (by omega)
  · rw [hK 15 (by omega)]
    exact sumN_z n fun i hi => hB i 4 hi (by omega) (by omega)
  · rw [hK 4 (by omega), hK 12 (by omega), hK 13 (by omega)]
    rfl
  · rw [hK 3 (by omega), hK 12 (by omega), hK 13 (by omega)]
    omega
