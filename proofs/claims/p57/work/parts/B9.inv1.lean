/-! WHAT THE LAW HOLDS: pushes and counts, through all but pulses -/
def PU (first : Int) (α : Nat → Int) (n : Nat) : Prop := pushA α n = first + α 7 - α 5
/-- what counts speak of -/
def CK (k : Nat) : Prop := k = 3 ∨ k = 4 ∨ (10 ≤ k ∧ k ≤ 15) ∨ (118 ≤ k ∧ k < 218) ∨ (∃ p, p < 4 ∧ k = P3 p 2) ∨ ∃ i q, i < 10 ∧ 4 ≤ q ∧ q ≤ 7 ∧ k = B9 i q
theorem sumN_cg {f g : Nat → Int} : ∀ n, (∀ i, i < n → f i = g i) → sumN f n = sumN g n
  | 0, _ => rfl
  | n + 1, h => by
    rw [sumN_s, sumN_s, sumN_cg n (fun i hi => h i (by omega)), h n (by omega)]
theorem sumN_z {f : Nat → Int} : ∀ n, (∀ i, i < n → f i = 0) → sumN f n = 0
  | 0, _ => rfl
  | n + 1, h => by
    rw [sumN_s, sumN_z n (fun i hi => h i (by omega)), h n (by omega)]
    rfl
section SB9
variable {n m n' : Nat} {α β : Nat → Int} {first : Int}
theorem PU_7 (h : PU first α n) (e7 : β 7 = α 7) (e5 : β 5 = α 5) : PU first (up1 β 7 (β 7 + (pushA β n' - pushA α n))) n' := by
  unfold PU at h ⊢
  rw [push_7, up1_eq', up1_ne (by omega), e7, e5]
  omega
theorem pushA_cg (h : ∀ i, i < n → β (B9 i 1) = α (B9 i 1) ∧ β (B9 i 2) = α (B9 i 2)) : pushA β n = pushA α n := by
  unfold pushA
  exact sumN_cg n fun i hi => by rw [(h i hi).1, (h i hi).2]
theorem PU_cg (h : PU first α n) (hB : ∀ i, i < n → β (B9 i 1) = α (B9 i 1) ∧ β (B9 i 2) = α (B9 i 2)) (e7 : β 7 = α 7) (e5 : β 5 = α 5) : PU first β n := by
  unfold PU at h ⊢
  rw [pushA_cg hB, e7, e5]
  exact h
theorem CN_cg (h : CN α n m) (hn : n ≤ 10) (hm : m ≤ 4) (e : ∀ k, CK k → β k = α k) : CN β n m := by
  obtain ⟨h1, h2, h3, h4, h5, h6, h7, h8, h9, h10, h11⟩ := h
  have eH : ∀ i j, i < 10 → j < 10 → β (HH i j) = α (HH i j) := fun i j hi hj => e _ (Or.inr (Or.inr (Or.inr (Or.inl (by unfold HH; omega)))))
  have eB : ∀ i q, i < n → 4 ≤ q → q ≤ 7 → β (B9 i q) = α (B9 i q) := fun i q hi h1 h2 => e _ (Or.inr (Or.inr (Or.inr (Or.inr (Or.inr ⟨i, q, by omega, h1, h2, rfl⟩)))))
  have eP : ∀ p, p < m → β (P3 p 2) = α (P3 p 2) := fun p hp => e _ (Or.inr (Or.inr (Or.inr (Or.inr (Or.inl ⟨p, by omega, rfl⟩)))))
  have eK : ∀ k, k = 3 ∨ k = 4 ∨ (10 ≤ k ∧ k ≤ 15) → β k = α k := fun k hk => e k (by unfold CK; omega)
  refine ⟨fun i j hi hj => by rw [eH i j hi hj, eH j i hj hi]; exact h1 i j hi hj, fun i hi => by rw [eH i i hi hi]; exact h2 i hi, fun i j hi hj hnj => by rw [eH i j hi hj]; exact h3 i j hi hj hnj, fun i hi => ?_, ?_, ?_, ?_, ?_, ?_, ?_, ?_⟩
  · rw [eB i 5 hi (by omega) (by omega), ← h4 i hi]
    exact sumN_cg n fun j hj => eH i j (by omega) (by omega)
  · rw [eK 12 (by omega), ← h5]
    exact sumN_cg n fun i hi => eB i 5 hi (by omega) (by omega)
  · rw [eK 13 (by omega), ← h6]
    exact sumN_cg n fun i hi => eB i 6 hi (by omega) (by omega)
  · rw [eK 13 (by omega), eK 10 (by omega), eK 11 (by omega), ← h7, sumN_cg m fun p hp => eP p hp]
  · rw [eK 14 (by omega), ← h8]
    exact sumN_cg n fun i hi => eB i 7 hi (by omega) (by omega)
  · rw [eK 15 (by omega), ← h9]
    exact sumN_cg n fun i hi => eB i 4 hi (by omega) (by omega)
  · rw [eK 4 (by omega), eK 12 (by omega), eK 13 (by omega)]; exact h10
  · rw [eK 3 (by omega), eK 12 (by omega), eK 13 (by omega)]; exact h11
/-- a key of the row that no count speaks of -/
theorem CK_up (k : Nat) {v : Int} (hk : ¬ CK k) : ∀ j, CK j → up1 α k v j = α j := fun j hj => up1_ne (fun e => hk (e ▸ hj))
theorem CK_7 : ¬ CK 7 := by
  rintro (h | h | h | h | ⟨p, h1, h2⟩ | ⟨i, q, h1, h2, h3, h4⟩)
  · omega
  · omega
  · omega
  · omega
  · unfold P3 at h2; omega
  · unfold B9 at h4; omega
theorem CK_B {i q : Nat} (hi : i < 10) (hq : q < 4 ∨ q = 8) : ¬ CK (B9 i q) := by
  rintro (h | h | h | h | ⟨p, h1, h2⟩ | ⟨j, r, h1, h2, h3, h4⟩)
  · unfold B9 at h; omega
  · unfold B9 at h; omega
  · unfold B9 at h; omega
  · unfold B9 at h; omega
  · unfold P3 B9 at h2; omega
  · unfold B9 at h4; omega
theorem CK_st {z : Int} (hz : -2 ≤ z ∧ z ≤ 3) : ¬ CK (stK z) := by
  have hk : stK z = 8 ∨ stK z = 9 ∨ ∃ p, p < 4 ∧ stK z = P3 p 1 := by
    unfold stK
    by_cases h1 : z = -1
    · rw [if_pos h1]; exact Or.inl rfl
    · rw [if_neg h1]
      by_cases h2 : z = -2
      · rw [if_pos h2]; exact Or.inr (Or.inl rfl)
      · rw [if_neg h2]; exact Or.inr (Or.inr ⟨z.toNat, by omega, rfl⟩)
  intro hC
  have key : ∀ k, (k = 8 ∨ k = 9 ∨ ∃ p, p < 4 ∧ k = P3 p 1) → ¬ CK k := by
    rintro k hk (h | h | h | h | ⟨p, h1, h2⟩ | ⟨j, r, h1, h2, h3, h4⟩) <;> rcases hk with hk | hk | ⟨p', hp', hk⟩ <;> (try unfold P3 at *) <;> (try unfold B9 at *) <;> omega
  exact key _ hk hC
theorem CN_ps (h : CN α n m) (hn : n ≤ 10) (hm : m ≤ 4) {v : Int} (e : ∀ k, CK k → β k = α k) : CN (up1 β 7 v) n m := CN_cg h hn hm fun k hk => by rw [CK_up 7 CK_7 k hk, e k hk]
/-- a ball more -/
theorem CN_add (h : CN α n m) (hn : n < 10) (hm : m ≤ 4) {cc s g nm : Int} : CN (bdA α n cc s g nm) (n + 1) m := by
  obtain ⟨h1, h2, h3, h4, h5, h6, h7, h8, h9, h10, h11⟩ := h
  have eH : ∀ i j, i < 10 → j < 10 → bdA α n cc s g nm (HH i j) = α (HH i j) := fun i j hi hj => bdA_ne (by unfold HH; omega)
  have eB : ∀ i q, i < n → q < 9 → bdA α n cc s g nm (B9 i q) = α (B9 i q) := fun i q hi hq => bdA_ne (by unfold B9; omega)
  have e0 : ∀ q, 3 ≤ q → q < 8 → bdA α n cc s g nm (B9 n q) = 0 := fun q h1 h2 => by rw [bdA_at (by omega), if_neg (by omega), if_neg (by omega), if_neg (by omega), if_neg (by omega)]
  have eP : ∀ p, p < m → bdA α n cc s g nm (P3 p 2) = α (P3 p 2) := fun p hp => bdA_ne (by unfold P3; omega)
  have eK : ∀ k, 2 ≤ k ∧ k ≤ 15 → bdA α n cc s g nm k = α k := fun k hk => bdA_ne (by omega)
  refine ⟨fun i j hi hj => by rw [eH i j hi hj, eH j i hj hi]; exact h1 i j hi hj, fun i hi => by rw [eH i i hi hi]; exact h2 i hi, fun i j hi hj hnj => by rw [eH i j hi hj]; exact h3 i j hi hj (by omega), fun i hi => ?_, ?_, ?_, ?_, ?_, ?_, ?_, ?_⟩
  · rw [sumN_s, eH i n (by omega) (by omega), h3 i n (by omega) (by omega) (Nat.le_refl n), sumN_cg n (g := fun j => α (HH i j)) fun j hj => eH i j (by omega) (by omega), Int.add_zero]
    by_cases e : i = n
    · subst e
      rw [e0 5 (by omega) (by omega)]
      exact sumN_z i fun j hj => by rw [h1 i j (by omega) (by omega)]; exact h3 j i (by omega) (by omega) (Nat.le_refl i)
    · rw [eB i 5 (by omega) (by omega)]
      exact h4 i (by omega)
  · rw [sumN_s, e0 5 (by omega) (by omega), eK 12 (by omega), ← h5, Int.add_zero]
    exact sumN_cg n fun i hi => eB i 5 hi (by omega)
  · rw [sumN_s, e0 6 (by omega) (by omega), eK 13 (by omega), ← h6, Int.add_zero]
    exact sumN_cg n fun i hi => eB i 6 hi (by omega)
  · rw [eK 13 (by omega), eK 10 (by omega), eK 11 (by omega), ← h7, sumN_cg m fun p hp => eP p hp]
  · rw [sumN_s, e0 7 (by omega) (by omega), eK 14 (by omega), ← h8, Int.add_zero]
    exact sumN_cg n fun i hi => eB i 7 hi (by omega)
  · rw [sumN_s, e0 4 (by omega) (by omega), eK 15 (by omega), ← h9, Int.add_zero]
    exact sumN_cg n fun i hi => eB i 4 hi (by omega)
  · rw [eK 4 (by omega), eK 12 (by omega), eK 13 (by omega)]; exact h10
  · rw [eK 3 (by omega), eK 12 (by omega), eK 13 (by omega)]; exact h11
end SB9
