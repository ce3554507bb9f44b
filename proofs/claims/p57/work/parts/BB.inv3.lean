/-! WHAT THE LAW HOLDS: counts through a turn -/
/-- the counts in the midst of a pulse: q turns of it are done at most -/
def CM (q : Int) (α : Nat → Int) (n m : Nat) : Prop :=
  (∀ i j, i < 10 → j < 10 → α (HH i j) = α (HH j i)) ∧ (∀ i, i < 10 → α (HH i i) = 0) ∧ (∀ i j, i < 10 → j < 10 → n ≤ j → α (HH i j) = 0) ∧
  (∀ i, i < n → sumN (fun j => α (HH i j)) n = α (B9 i 5)) ∧ sumN (fun i => α (B9 i 5)) n = 2 * α 12 ∧ sumN (fun i => α (B9 i 6)) n = α 13 ∧ α 10 + α 11 + sumN (fun p => α (P3 p 2)) m = α 13 ∧ sumN (fun i => α (B9 i 7)) n = α 14 ∧ sumN (fun i => α (B9 i 4)) n = α 15 ∧
  α 4 = (if α 12 + α 13 < 40 then α 12 + α 13 else 40) ∧ (0 ≤ α 12 ∧ 0 ≤ α 13 ∧ α 12 + α 13 ≤ 20 * α 3 + q)
section SBB
variable {n m i l r b u : Nat} {α β : Nat → Int} {first q : Int} {o : Nat → Nat}
theorem CN_CM : CN α n m ↔ CM 0 α n m := by
  unfold CN CM
  rw [Int.add_zero]
theorem CM_le {q' : Int} (h : CM q α n m) (hq : q ≤ q') : CM q' α n m := by
  obtain ⟨h1, h2, h3, h4, h5, h6, h7, h8, h9, h10, h11⟩ := h
  exact ⟨h1, h2, h3, h4, h5, h6, h7, h8, h9, h10, by omega⟩
/-- a ball's count and its sum are one more -/
theorem CM_1 (h : CM q α n m) (hn : n ≤ 10) (hm : m ≤ 4) (hi : i < n) (k : Nat) (K : Nat) (hk : (k = 7 ∧ K = 14) ∨ (k = 4 ∧ K = 15)) : CM q (up1 (up1 α (B9 i k) (α (B9 i k) + 1)) K (α K + 1)) n m := by
  obtain ⟨h1, h2, h3, h4, h5, h6, h7, h8, h9, h10, h11⟩ := h
  have eH : ∀ a c, a < 10 → c < 10 → up1 (up1 α (B9 i k) (α (B9 i k) + 1)) K (α K + 1) (HH a c) = α (HH a c) := fun a c ha hc => by rw [up1_ne (by unfold HH; omega), up1_ne (by unfold HH B9; omega)]
  have eB : ∀ a p, a < n → p < 9 → (a ≠ i ∨ p ≠ k) → up1 (up1 α (B9 i k) (α (B9 i k) + 1)) K (α K + 1) (B9 a p) = α (B9 a p) := fun a p ha hp hne => by rw [up1_ne (by unfold B9; omega), up1_ne (B9_in hp (by omega) hne)]
  have eK : ∀ a, a < 16 → a ≠ K → up1 (up1 α (B9 i k) (α (B9 i k) + 1)) K (α K + 1) a = α a := fun a ha hne => by rw [up1_ne hne, up1_ne (by unfold B9; omega)]
  have eP : ∀ p, p < m → up1 (up1 α (B9 i k) (α (B9 i k) + 1)) K (α K + 1) (P3 p 2) = α (P3 p 2) := fun p hp => by rw [up1_ne (by unfold P3; omega), up1_ne (by unfold P3 B9; omega)]
  have eS : ∀ p, p < 9 → p ≠ k → sumN (fun a => up1 (up1 α (B9 i k) (α (B9 i k) + 1)) K (α K + 1) (B9 a p)) n = sumN (fun a => α (B9 a p)) n := fun p hp hne => sumN_cg n fun a ha => eB a p ha hp (Or.inr hne)
  have eS2 : sumN (fun a => up1 (up1 α (B9 i k) (α (B9 i k) + 1)) K (α K + 1) (B9 a k)) n = sumN (fun a => α (B9 a k)) n + 1 := by
    rw [sumN_at (g := fun a => α (B9 a k)) n hi (fun a ha hne => eB a k ha (by omega) (Or.inl hne))]
    rw [up1_ne (by unfold B9; omega), up1_eq']
    omega
  refine ⟨fun a c ha hc => by rw [eH a c ha hc, eH c a hc ha]; exact h1 a c ha hc, fun a ha => by rw [eH a a ha ha]; exact h2 a ha, fun a c ha hc hnc => by rw [eH a c ha hc]; exact h3 a c ha hc hnc, fun a ha => ?_, ?_, ?_, ?_, ?_, ?_, ?_, ?_⟩
  · rw [eB a 5 ha (by omega) (by omega), ← h4 a ha]
    exact sumN_cg n fun c hc => eH a c (by omega) (by omega)
  · rw [eK 12 (by omega) (by omega), eS 5 (by omega) (by omega)]; exact h5
  · rw [eK 13 (by omega) (by omega), eS 6 (by omega) (by omega)]; exact h6
  · rw [eK 13 (by omega) (by omega), eK 10 (by omega) (by omega), eK 11 (by omega) (by omega), sumN_cg m fun p hp => eP p hp]; exact h7
  · rcases hk with ⟨rfl, rfl⟩ | ⟨rfl, rfl⟩
    · rw [eS2, up1_eq', h8]
    · rw [eK 14 (by omega) (by omega), eS 7 (by omega) (by omega)]; exact h8
  · rcases hk with ⟨rfl, rfl⟩ | ⟨rfl, rfl⟩
    · rw [eK 15 (by omega) (by omega), eS 4 (by omega) (by omega)]; exact h9
    · rw [eS2, up1_eq', h9]
  · rw [eK 4 (by omega) (by omega), eK 12 (by omega) (by omega), eK 13 (by omega) (by omega)]; exact h10
  · rw [eK 3 (by omega) (by omega), eK 12 (by omega) (by omega), eK 13 (by omega) (by omega)]; exact h11
/-- counts of a row that agrees in what they speak of -/
theorem CM_cg (h : CM q α n m) (hn : n ≤ 10) (hm : m ≤ 4) (e : ∀ k, CK k → β k = α k) : CM q β n m := by
  have h0 : CN (up1 α 3 (α 3 + 0)) n m ∨ True := Or.inr trivial
  obtain ⟨h1, h2, h3, h4, h5, h6, h7, h8, h9, h10, h11⟩ := h
  have eH : ∀ i j, i < 10 → j < 10 → β (HH i j) = α (HH i j) := fun i j hi hj => e _ (Or.inr (Or.inr (Or.inr (Or.inl (by unfold HH; omega)))))
  have eB : ∀ i q, i < n → 4 ≤ q → q ≤ 7 → β (B9 i q) = α (B9 i q) := fun i q hi h1 h2 => e _ (Or.inr (Or.inr (Or.inr (Or.inr (Or.inr ⟨i, q, by omega, h1, h2, rfl⟩)))))
  have eP : ∀ p, p < m → β (P3 p 2) = α (P3 p 2) := fun p hp => e _ (Or.inr (Or.inr (Or.inr (Or.inr (Or.inl ⟨p, by omega, rfl⟩)))))
  have eK : ∀ k, k = 3 ∨ k = 4 ∨ (10 ≤ k ∧ k ≤ 15) → β k = α k := fun k hk => e k (by unfold CK; omega)
  refine ⟨fun i j hi hj => by rw [eH i j hi hj, eH j i hj hi]; exact h1 i j hi hj, fun i hi => by rw [eH i i hi hi]; exact h2 i hi, fun i j hi hj hnj => by rw [eH i j hi hj]; exact h3 i j hi hj hnj, fun i hi => ?_, ?_, ?_, ?_, ?_, ?_, ?_, ?_⟩
  · rw [eB i 5 hi (by omega) (by omega), ← h4 i hi]
    exact sumN_cg n fun j hj => eH i j (by omega) (by omega)
  · rw [eK 12 (by omega), ← h5]
    exact sumN_cg n fun i hi => eB i 5 hi (by omega) (by omega)
  · rw [eK 13 (by omega), ← h6]
    exact sumN_cg n fun i hi => eB i 6 hi (by omega) (by omega)
  · rw [eK 13 (by omega), eK 10 (by omega), eK 11 (by omega), ← h7, sumN_cg m fun p hp => eP p hp]
  · rw [eK 14 (by omega), ← h8]
    exact sumN_cg n fun i hi => eB i 7 hi (by omega) (by omega)
  · rw [eK 15 (by omega), ← h9]
    exact sumN_cg n fun i hi => eB i 4 hi (by omega) (by omega)
  · rw [eK 4 (by omega), eK 12 (by omega), eK 13 (by omega)]; exact h10
  · rw [eK 3 (by omega), eK 12 (by omega), eK 13 (by omega)]; exact h11
theorem CM_wt (h : CM q α n m) (hn : n ≤ 10) (hm : m ≤ 4) (hb : b < n) : CM q (wtR α b) n m := CM_1 h hn hm hb 7 14 (Or.inl ⟨rfl, rfl⟩)
theorem CM_mv (h : CM q α n m) (hn : n ≤ 10) (hm : m ≤ 4) (hi : i < n) {c : Int} : CM q (mvR α i c) n m := by
  have h1 : CM q (up1 α (B9 i 0) c) n m := CM_cg h hn hm (CK_up _ (CK_B (by omega) (by omega)))
  have h2 := CM_1 h1 hn hm hi 4 15 (Or.inr ⟨rfl, rfl⟩)
  rw [up1_ne (B9_in (by omega) (by omega) (by omega)), up1_ne (by unfold B9; omega)] at h2
  exact h2
/-- the log: everything but its number stays, of what counts speak of -/
theorem lg_e {x y z : Int} {k : Nat} (hk : k < 218 ∧ k ≠ 4) : lgA α x y z k = α k := by
  unfold lgA
  rw [up1_ne (by omega), up1_ne (by omega), up1_ne (by omega), up1_ne (by omega), up1_ne (by omega)]
  unfold shK
  rw [if_neg (by omega)]
theorem lg_4 {x y z : Int} : lgA α x y z 4 = if α 4 + 1 < 40 then α 4 + 1 else 40 := by
  unfold lgA
  exact up1_eq'
end SBB
