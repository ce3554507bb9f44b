/-! CLASS AND REFERENCE AGREE: changes without a new order. Made by wip/whole/gen/gen68.py -/
section S68a
variable {N : NX} {w : WX} {d t b n m c c' : Nat} {I J ℓ : Nat → Nat → Int32} {L μ : Nat → Nat → Int64} {D : Nat → Nat → UInt64} {Q : Rs → St → Prop} {o : Nat → Nat} {α β : Nat → Int} {u : Un}
theorem c41r (hb : LB b) (hR : RL (gl b I) (gl b L) α n m o) (hG : GA α n m o) : Wp (d + 1) 41 0 [some (.ref b), none, none] [] (mk N t w I L D) Q = Q (.inl (some (.int (Int32.ofInt (pushA α n))))) (mk N t w I L D) := by
  have := c41 (d := d) (N := N) (t := t) (w := w) (I := I) (L := L) (D := D) (Q := Q) hb hR hG
  rw [lay_gl] at this
  exact this
theorem c39r (hb : LB b) (hR : RL (gl b I) (gl b L) α n m o) (hG : GA α n m o) : Wp d 39 0 [some (.ref b), none, none] [] (mk N t w I L D) Q = Q (.inl (some (.int (Int32.ofInt (mvA α n))))) (mk N t w I L D) := by
  have := c39 (d := d) (N := N) (t := t) (w := w) (I := I) (L := L) (D := D) (Q := Q) hb hR hG
  rw [lay_gl] at this
  exact this
theorem c42m (hb : LB b) (hR : RL ℓ (gl b L) α n m o) (hG : GA α n m o) {B : Int} (hB : -100000 ≤ B ∧ B ≤ 100000) : Wp (d + 2) 42 0 [some (.ref b), some (.int (Int32.ofInt B))] [] (mk N t w (lay b ℓ I) L D) Q = Q (.inl none) (mk N t w (lay b ℓ I) (lay b (up2 (gl b L) 11 3 (Int64.ofInt (α 7 + (pushA α n - B)))) L) D) := by
  have := c42 (d := d) (N := N) (t := t) (w := w) (I := I) (ℓ := ℓ) (μ := gl b L) (L := L) (D := D) (Q := Q) hb hR hG hB
  rw [lay_gl] at this
  exact this
theorem c33r (hb : LB b) {k : Nat} (hk : k < 100000) (hR : RL (gl b I) (gl b L) u.1 n m o) (hG : GA u.1 n m o) (hQ : ∀ (ℓ' : Nat → Nat → Int32) (μ' : Nat → Nat → Int64), RL ℓ' μ' (uK n m o k u).1 n m o → Q (.inl (some (.int (Int32.ofInt ((uK n m o k u).1 12 - u.1 12))))) (mk N t w (lay b ℓ' I) (lay b μ' L) D)) : Wp (d + 4) 33 0 [some (.ref b), some (.int (Int32.ofInt (k : Int))), none, none, none] [] (mk N t w I L D) Q := by
  have := c33 (d := d) (N := N) (t := t) (w := w) (I := I) (L := L) (D := D) (Q := Q) (ℓ := gl b I) (μ := gl b L) hb hk hR hG hQ
  rw [lay_gl, lay_gl] at this
  exact this
theorem EX_ext (h : EX c α n) (hc : c ≤ c') (e : ∀ k, k = 3 ∨ k = 4 ∨ 218 ≤ k → β k = α k) (eN : ∀ i, i < n → β (B9 i 8) = α (B9 i 8)) : EX c' β n := by
  obtain ⟨h1, h2, h3⟩ := h
  refine ⟨by rw [e 3 (by omega)]; omega, fun k hk h4 => ?_, fun i hi => by rw [eN i hi]; exact h3 i hi⟩
  rw [e 4 (by omega)] at h4
  rw [e _ (by omega), e 3 (by omega), e _ (by omega), e _ (by omega), e _ (by omega)]
  exact h2 k hk h4
/-- a number of a ball changes -/
theorem spd_G (hG : GA α n m o) {i : Nat} {v : Int} (hi : i < n) (hv : -60 ≤ v ∧ v ≤ 60) : GA (up1 α (B9 i 1) v) n m o := by
  have h10 := hG.1.1
  have m4 := hG.2.1.1
  have nb : ∀ j k, k ≠ 1 → k < 9 → up1 α (B9 i 1) v (B9 j k) = α (B9 j k) := fun j k h h2 => up1_ne (by unfold B9; omega)
  have np : ∀ p k, p < m → k < 3 → up1 α (B9 i 1) v (P3 p k) = α (P3 p k) := fun p k h h2 => up1_ne (by unfold B9 P3; omega)
  have nz : ∀ k, k < 16 → up1 α (B9 i 1) v k = α k := fun k h => up1_ne (by unfold B9; omega)
  refine GA_ext hG ⟨nz 0 (by omega), nz 1 (by omega), nz 2 (by omega), nz 8 (by omega), nz 9 (by omega)⟩ (fun j hj => ?_) (fun p hp => ?_) (by rw [nz 4 (by omega)]; exact hG.2.2.1.2.2)
  · rw [nb j 0 (by omega) (by omega), nb j 2 (by omega) (by omega), nb j 3 (by omega) (by omega)]
    have g := hG.1.2.2.2.2 j hj
    refine ⟨rfl, ?_, g.2.2⟩
    by_cases e : j = i
    · rw [e, up1_eq']; exact hv
    · rw [up1_ne (by unfold B9; omega)]; exact g.2.1
  · rw [np p 0 hp (by omega), np p 1 hp (by omega)]
    exact ⟨rfl, (hG.2.1.2.2 p hp).2⟩
theorem wgt_G (hG : GA α n m o) {i : Nat} {v : Int} (hi : i < n) (hv : 1 ≤ v ∧ v ≤ 20) : GA (up1 α (B9 i 2) v) n m o := by
  have h10 := hG.1.1
  have m4 := hG.2.1.1
  have nb : ∀ j k, k ≠ 2 → k < 9 → up1 α (B9 i 2) v (B9 j k) = α (B9 j k) := fun j k h h2 => up1_ne (by unfold B9; omega)
  have np : ∀ p k, p < m → k < 3 → up1 α (B9 i 2) v (P3 p k) = α (P3 p k) := fun p k h h2 => up1_ne (by unfold B9 P3; omega)
  have nz : ∀ k, k < 16 → up1 α (B9 i 2) v k = α k := fun k h => up1_ne (by unfold B9; omega)
  refine GA_ext hG ⟨nz 0 (by omega), nz 1 (by omega), nz 2 (by omega), nz 8 (by omega), nz 9 (by omega)⟩ (fun j hj => ?_) (fun p hp => ?_) (by rw [nz 4 (by omega)]; exact hG.2.2.1.2.2)
  · rw [nb j 0 (by omega) (by omega), nb j 1 (by omega) (by omega), nb j 3 (by omega) (by omega)]
    have g := hG.1.2.2.2.2 j hj
    refine ⟨rfl, g.2.1, ?_, g.2.2.2⟩
    by_cases e : j = i
    · rw [e, up1_eq']; exact hv
    · rw [up1_ne (by unfold B9; omega)]; exact g.2.2.1
  · rw [np p 0 hp (by omega), np p 1 hp (by omega)]
    exact ⟨rfl, (hG.2.1.2.2 p hp).2⟩
theorem pst_G (hG : GA α n m o) {i : Nat} {v : Int} (hi : i < m) (hv : 0 ≤ v ∧ v ≤ 100) : GA (up1 α (P3 i 1) v) n m o := by
  have h10 := hG.1.1
  have m4 := hG.2.1.1
  have nb : ∀ j k, k < 9 → up1 α (P3 i 1) v (B9 j k) = α (B9 j k) := fun j k h2 => up1_ne (by unfold B9 P3; omega)
  have np : ∀ p k, k ≠ 1 → k < 3 → up1 α (P3 i 1) v (P3 p k) = α (P3 p k) := fun p k h h2 => up1_ne (by unfold P3; omega)
  have nz : ∀ k, k < 16 → up1 α (P3 i 1) v k = α k := fun k h => up1_ne (by unfold P3; omega)
  refine GA_ext hG ⟨nz 0 (by omega), nz 1 (by omega), nz 2 (by omega), nz 8 (by omega), nz 9 (by omega)⟩ (fun j hj => ?_) (fun p hp => ?_) (by rw [nz 4 (by omega)]; exact hG.2.2.1.2.2)
  · rw [nb j 0 (by omega), nb j 1 (by omega), nb j 2 (by omega), nb j 3 (by omega)]
    have g := hG.1.2.2.2.2 j hj
    exact ⟨rfl, g.2⟩
  · rw [np p 0 (by omega) (by omega)]
    refine ⟨rfl, ?_⟩
    by_cases e : p = i
    · rw [e, up1_eq']; exact hv
    · rw [up1_ne (by unfold P3; omega)]; exact (hG.2.1.2.2 p hp).2
theorem g7_G (hG : GA α n m o) {v : Int} : GA (up1 α 7 v) n m o := up_G hG (by omega) (fun p hp => by unfold P3; omega) (fun i hi => by unfold B9; omega)
theorem push_7 {v : Int} {k : Nat} : pushA (up1 α 7 v) k = pushA α k := by
  induction k with
  | zero => rfl
  | succ k ih =>
    show pushA (up1 α 7 v) k + up1 α 7 v (B9 k 2) * up1 α 7 v (B9 k 1) = pushA α k + α (B9 k 2) * α (B9 k 1)
    rw [ih, up1_ne (by unfold B9; omega), up1_ne (by unfold B9; omega)]
/-- the account of pushes behind a change -/
def psA (α β : Nat → Int) (n : Nat) : Nat → Int := up1 β 7 (β 7 + (pushA β n - pushA α n))
end S68a
section S68
variable {xs : Nat → Int32} {N : NX} {w : WX} {d c t b n m : Nat} {I ℓ : Nat → Nat → Int32} {L μ : Nat → Nat → Int64} {D : Nat → Nat → UInt64} {x y z : Int32} {Q : Rs → St → Prop} {α : Nat → Int} {o : Nat → Nat}
theorem c111r (hb : LB b) (h5 : rv (KR w 15 5) = .ref b) (hR : RL (gl b I) (gl b L) α n m o) (hG : GA α n m o) {z : Int} (hz : -2 ≤ z ∧ z ≤ (m : Int) - 1) : Wp d 111 0 [some (.ref 15), some (.int (Int32.ofInt z))] [] (mk N t w I L D) Q = Q (.inl (some (.ref (b + brO z)))) (mk N t w I L D) := by
  have := c111 (d := d) (N := N) (t := t) (w := w) (ℓ := gl b I) (I := I) (L := L) (D := D) (Q := Q) hb h5 hG.2.1.1 (rd_m hR) hz
  rw [lay_gl] at this
  exact this
end S68
