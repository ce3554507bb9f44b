/-! THE INVARIANT behind each call of the law -/
section S57
variable {ℓ ℓ' : Nat → Nat → Int32} {μ μ' : Nat → Nat → Int64} {α : Nat → Int} {n m : Nat} {o : Nat → Nat}
theorem mo_lt {k : Nat} (h : kd n m k) : mo k < 27 := by
  have := mo_rng h
  omega
/-- the relation speaks of the line's own objects alone -/
theorem RL_ext (h : RL ℓ μ α n m o) (h1 : ∀ a, a < 27 → ∀ k, ℓ' a k = ℓ a k) (h2 : ∀ a, a < 27 → ∀ k, μ' a k = μ a k) : RL ℓ' μ' α n m o := by
  obtain ⟨g1, ⟨g2, g3⟩, ⟨g4, g5, g6⟩, g7, nx, g8, g9, g10, g11⟩ := h
  refine ⟨fun k hk => by rw [h1 _ (mo_lt hk)]; exact g1 k hk, ⟨by rw [h1 _ (by omega)]; exact g2, by rw [h1 _ (by omega)]; exact g3⟩, ⟨by rw [h2 _ (by omega)]; exact g4, by rw [h2 _ (by omega)]; exact g5, by rw [h2 _ (by omega)]; exact g6⟩, fun p hp => by rw [h1 _ (by omega)]; exact g7 p hp, nx, g8, by rw [h1 _ (by omega)]; exact g9, by rw [h1 _ (by omega)]; exact g10, fun k hk1 hk2 c hc => by rw [h1 _ (by omega)]; exact g11 k hk1 hk2 c hc⟩
/-- what else holds of a row: its time behind c calls, its log, its names -/
def EX (c : Nat) (α : Nat → Int) (n : Nat) : Prop := (0 ≤ α 3 ∧ α 3 ≤ 3000 * (c : Int)) ∧ LX α ∧ ∀ i, i < n → 0 ≤ α (B9 i 8) ∧ α (B9 i 8) < 2147483648
end S57
section S57b
variable {xs : Nat → Int32} {c c' t t' s : Nat} {I I' : Nat → Nat → Int32} {L L' : Nat → Nat → Int64}
end S57b
