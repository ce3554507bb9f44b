/-! CLASS AND REFERENCE AGREE: place, addBall. Made by wip/whole/gen/gen70.py -/
section S70
variable {xs : Nat → Int32} {N : NX} {w : WX} {d c t b n m : Nat} {I ℓ : Nat → Nat → Int32} {L μ : Nat → Nat → Int64} {D : Nat → Nat → UInt64} {x y z : Int32} {Q : Rs → St → Prop} {α : Nat → Int} {o : Nat → Nat}
theorem c109r (hb : LB b) (h5 : rv (KR w 15 5) = .ref b) (hR : RL (gl b I) (gl b L) α n m o) (hG : GA α n m o) {z : Int} (hz : -2147483648 ≤ z ∧ z < 2147483648) (hi : isC α z) : Wp d 109 0 [some (.ref 15), some (.int (Int32.ofInt z))] [] (mk N t w I L D) Q = Q (.inl none) (mk N t w I L D) := by
  have := c109 (d := d) (N := N) (t := t) (w := w) (ℓ := gl b I) (I := I) (L := L) (D := D) (Q := Q) hb h5 ⟨hG.1.2.2.1, hG.1.2.2.2.1⟩ (rd_0 hR) hz hi
  rw [lay_gl] at this
  exact this
theorem c25r (hb : LB b) (hR : RL (gl b I) (gl b L) α n m o) (hG : GA α n m o) {c : Int} (hc : -2147483648 ≤ c ∧ c < 2147483648) : Wp (d + 1) 25 0 [some (.ref b), some (.int (Int32.ofInt c))] [] (mk N t w I L D) Q = Q (.inl (some (.int (pI (¬ isF α n m c))))) (mk N t w I L D) := by
  have := c25 (d := d) (N := N) (t := t) (w := w) (ℓ := gl b I) (I := I) (L := L) (D := D) (Q := Q) hb hR hG hc
  rw [lay_gl] at this
  exact this
theorem c30r (hb : LB b) (hR : RL (gl b I) (gl b L) α n m o) (hG : GA α n m o) (hn : n < 10) {c s g nm : Int} (hF : isF α n m c) (hs : -60 ≤ s ∧ s ≤ 60) (hg : 1 ≤ g ∧ g ≤ 20) (hQ : ∀ (ℓ' : Nat → Nat → Int32) (o' : Nat → Nat), RL ℓ' (gl b L) (bdA α n c s g nm) (n + 1) m o' → GA (bdA α n c s g nm) (n + 1) m o' → Q (.inl none) (mk N t w (lay b ℓ' I) L D)) : Wp (d + 1) 30 0 [some (.ref b), some (.int (Int32.ofInt nm)), some (.int (Int32.ofInt c)), some (.int (Int32.ofInt s)), some (.int (Int32.ofInt g))] [] (mk N t w I L D) Q := by
  have := c30 (d := d) (N := N) (t := t) (w := w) (ℓ := gl b I) (μ := gl b L) (I := I) (L := L) (D := D) (Q := Q) hb hR hG hn hF hs hg hQ
  rw [lay_gl] at this
  exact this
/-- a ball may stand in another cell -/
theorem plc_G (hG : GA α n m o) {i : Nat} {v : Int} (hi : i < n) (hv : isC α v) (hb : ∀ j, j < n → j ≠ i → α (B9 j 0) ≠ v) (hp : ∀ p, p < m → α (P3 p 0) ≠ v) : GB (up1 α (B9 i 0) v) n ∧ GP (up1 α (B9 i 0) v) m ∧ ((0 ≤ up1 α (B9 i 0) v 8 ∧ up1 α (B9 i 0) v 8 ≤ 100) ∧ (0 ≤ up1 α (B9 i 0) v 9 ∧ up1 α (B9 i 0) v 9 ≤ 100) ∧ (0 ≤ up1 α (B9 i 0) v 4 ∧ up1 α (B9 i 0) v 4 ≤ 40)) ∧ (∀ j, j < n → ∀ p, p < m → up1 α (B9 i 0) v (B9 j 0) ≠ up1 α (B9 i 0) v (P3 p 0)) ∧ (∀ j k, j < n → k < n → up1 α (B9 i 0) v (B9 j 0) = up1 α (B9 i 0) v (B9 k 0) → j = k) := by
  have h10 := hG.1.1
  have m4 := hG.2.1.1
  unfold isC at hv
  have nb : ∀ j k, k ≠ 0 → k < 9 → up1 α (B9 i 0) v (B9 j k) = α (B9 j k) := fun j k h h2 => up1_ne (by unfold B9; omega)
  have n0 : ∀ j, j ≠ i → up1 α (B9 i 0) v (B9 j 0) = α (B9 j 0) := fun j h => up1_ne (by unfold B9; omega)
  have np : ∀ p k, p < m → k < 3 → up1 α (B9 i 0) v (P3 p k) = α (P3 p k) := fun p k h h2 => up1_ne (by unfold B9 P3; omega)
  have nz : ∀ k, k < 16 → up1 α (B9 i 0) v k = α k := fun k h => up1_ne (by unfold B9; omega)
  refine ⟨⟨h10, by rw [nz 1 (by omega)]; exact hG.1.2.1, by rw [nz 0 (by omega)]; exact hG.1.2.2.1, by rw [nz 0 (by omega)]; exact hG.1.2.2.2.1, fun j hj => ?_⟩, ⟨m4, by rw [nz 2 (by omega)]; exact hG.2.1.2.1, fun p q => by rw [np p 0 q (by omega), np p 1 q (by omega), nz 0 (by omega)]; exact hG.2.1.2.2 p q⟩, by rw [nz 8 (by omega), nz 9 (by omega), nz 4 (by omega)]; exact hG.2.2.1, fun j hj p q => ?_, fun j k hj hk e => ?_⟩
  · rw [nz 0 (by omega), nb j 1 (by omega) (by omega), nb j 2 (by omega) (by omega), nb j 3 (by omega) (by omega)]
    have g := hG.1.2.2.2.2 j hj
    refine ⟨?_, g.2⟩
    by_cases e : j = i
    · rw [e, up1_eq']; omega
    · rw [n0 j e]; exact g.1
  · rw [np p 0 q (by omega)]
    by_cases e : j = i
    · rw [e, up1_eq']; exact fun h => hp p q h.symm
    · rw [n0 j e]; exact hG.2.2.2.2.2.2 j hj p q
  · by_cases ej : j = i
    · by_cases ek : k = i
      · omega
      · rw [ej, up1_eq', n0 k ek] at e
        exact absurd e.symm (hb k hk ek)
    · by_cases ek : k = i
      · rw [ek, up1_eq', n0 j ej] at e
        exact absurd e (hb j hj ej)
      · rw [n0 j ej, n0 k ek] at e
        exact cell_inj hG hj hk e
theorem push_0 {i : Nat} {v : Int} : ∀ k : Nat, pushA (up1 α (B9 i 0) v) k = pushA α k
  | 0 => rfl
  | k + 1 => by
    show pushA (up1 α (B9 i 0) v) k + up1 α (B9 i 0) v (B9 k 2) * up1 α (B9 i 0) v (B9 k 1) = pushA α k + α (B9 k 2) * α (B9 k 1)
    rw [push_0 k, up1_ne (by unfold B9; omega), up1_ne (by unfold B9; omega)]
theorem ps_0 {i : Nat} {v : Int} : psA α (up1 α (B9 i 0) v) n = up1 α (B9 i 0) v := by
  unfold psA
  rw [push_0, Int.sub_self, Int.add_zero]
  funext k
  by_cases h : k = 7
  · rw [h, up1_eq']
  · rw [up1_ne h]
end S70
