/-! CONTRACTS of the reference: what stands where; sums -/
theorem mulb {a b A B : Int} (ha : -A ≤ a ∧ a ≤ A) (hb : -B ≤ b ∧ b ≤ B) : -(A * B) ≤ a * b ∧ a * b ≤ A * B := by
  have h1 : a.natAbs ≤ A.toNat := by omega
  have h2 : b.natAbs ≤ B.toNat := by omega
  have h3 : (a * b).natAbs ≤ A.toNat * B.toNat := by
    rw [Int.natAbs_mul]
    exact Nat.mul_le_mul h1 h2
  have h4 : ((A.toNat * B.toNat : Nat) : Int) = A * B := by
    rw [Int.natCast_mul, Int.toNat_of_nonneg (by omega), Int.toNat_of_nonneg (by omega)]
  omega
def pFind (f : Nat → Int) (c : Int) : Nat → Nat → Int
  | 0, _ => -1
  | r + 1, i => if f i = c then (i : Int) else pFind f c r (i + 1)
theorem pFind_0 {f : Nat → Int} {c : Int} {i : Nat} : pFind f c 0 i = -1 := nr rfl
theorem pFind_s {f : Nat → Int} {c : Int} {r i : Nat} : pFind f c (r + 1) i = if f i = c then (i : Int) else pFind f c r (i + 1) := nr rfl
theorem pFind_rng {f : Nat → Int} {c : Int} : ∀ r i, -1 ≤ pFind f c r i ∧ pFind f c r i < i + r + (if r = 0 then 1 else 0)
  | 0, i => by rw [pFind_0]; simp only [if_true]; omega
  | r + 1, i => by
    rw [pFind_s]
    have := pFind_rng (f := f) (c := c) r (i + 1)
    by_cases h : f i = c
    · rw [if_pos h]
      split <;> omega
    · rw [if_neg h]
      by_cases hr : r = 0
      · subst hr; simp only [pFind_0]; split <;> omega
      · rw [if_neg hr] at this; split <;> omega
/-- it is found, or nowhere -/
theorem pFind_spec {f : Nat → Int} {c : Int} : ∀ r i, (pFind f c r i = -1 ∧ ∀ j, i ≤ j → j < i + r → f j ≠ c) ∨ (∃ j : Nat, pFind f c r i = (j : Int) ∧ i ≤ j ∧ j < i + r ∧ f j = c ∧ ∀ q, i ≤ q → q < j → f q ≠ c)
  | 0, i => Or.inl ⟨rfl, fun j h1 h2 => by omega⟩
  | r + 1, i => by
    rw [pFind_s]
    by_cases h : f i = c
    · rw [if_pos h]
      exact Or.inr ⟨i, rfl, Nat.le_refl _, by omega, h, fun q h1 h2 => by omega⟩
    · rw [if_neg h]
      rcases pFind_spec (f := f) (c := c) r (i + 1) with ⟨h1, h2⟩ | ⟨j, h1, h2, h3, h4, h5⟩
      · refine Or.inl ⟨h1, fun j g1 g2 => ?_⟩
        by_cases hj : j = i
        · subst hj; exact h
        · exact h2 j (by omega) (by omega)
      · refine Or.inr ⟨j, h1, by omega, by omega, h4, fun q g1 g2 => ?_⟩
        by_cases hq : q = i
        · subst hq; exact h
        · exact h5 q (by omega) g2
def sumN (f : Nat → Int) : Nat → Int
  | 0 => 0
  | n + 1 => sumN f n + f n
theorem sumN_0 {f : Nat → Int} : sumN f 0 = 0 := nr rfl
theorem sumN_s {f : Nat → Int} {n : Nat} : sumN f (n + 1) = sumN f n + f n := nr rfl
theorem sumN_b {f : Nat → Int} {B : Int} : ∀ n, (∀ i, i < n → -B ≤ f i ∧ f i ≤ B) → -(B * n) ≤ sumN f n ∧ sumN f n ≤ B * n
  | 0, _ => by rw [sumN_0]; simp
  | n + 1, h => by
    have h1 := sumN_b n (fun i hi => h i (by omega))
    have h2 := h n (by omega)
    have h3 : B * ((n + 1 : Nat) : Int) = B * n + B := by rw [Int.natCast_add, Int.mul_add]; simp
    rw [sumN_s, h3]
    omega
def GB (α : Nat → Int) (n : Nat) : Prop := n ≤ 10 ∧ α 1 = n ∧ 10 ≤ α 0 ∧ α 0 ≤ 200 ∧ ∀ i, i < n → (0 ≤ α (B9 i 0) ∧ α (B9 i 0) < α 0) ∧ (-60 ≤ α (B9 i 1) ∧ α (B9 i 1) ≤ 60) ∧ (1 ≤ α (B9 i 2) ∧ α (B9 i 2) ≤ 20) ∧ (0 ≤ α (B9 i 3) ∧ α (B9 i 3) ≤ 59)
def GP (α : Nat → Int) (m : Nat) : Prop := m ≤ 4 ∧ α 2 = m ∧ ∀ p, p < m → (0 ≤ α (P3 p 0) ∧ α (P3 p 0) < α 0) ∧ (0 ≤ α (P3 p 1) ∧ α (P3 p 1) ≤ 100)
def bAt (α : Nat → Int) (n : Nat) (c : Int) : Int := pFind (fun i => α (B9 i 0)) c n 0
def pAt (α : Nat → Int) (m : Nat) (c : Int) : Int := pFind (fun p => α (P3 p 0)) c m 0
abbrev isC (α : Nat → Int) (c : Int) : Prop := 0 ≤ c ∧ c ≤ α 0 - 1
abbrev isF (α : Nat → Int) (n m : Nat) (c : Int) : Prop := isC α c ∧ bAt α n c = -1 ∧ pAt α m c = -1
theorem bAt_rng {α : Nat → Int} {n : Nat} {c : Int} (h : n ≤ 10) : -1 ≤ bAt α n c ∧ bAt α n c < 10 := by
  have := pFind_rng (f := fun i => α (B9 i 0)) (c := c) n 0
  unfold bAt
  split at this <;> omega
section S24
variable {N : NX} {w : WX} {d t n m : Nat} {I : Nat → Nat → Int32} {L : Nat → Nat → Int64} {D : Nat → Nat → UInt64} {Q : Rs → St → Prop} {α : Nat → Int}
def zabs (z : Int) : Int := if z < 0 then -z else z
def pushA (α : Nat → Int) (n : Nat) : Int := sumN (fun i => α (B9 i 2) * α (B9 i 1)) n
def enA (α : Nat → Int) (n : Nat) : Int := sumN (fun i => α (B9 i 2) * α (B9 i 1) * α (B9 i 1)) n
def wtA (α : Nat → Int) (n : Nat) : Int := sumN (fun i => α (B9 i 2)) n
theorem push_b {w s : Int} (hw : 1 ≤ w ∧ w ≤ 20) (hs : -60 ≤ s ∧ s ≤ 60) : (-1200 ≤ w * s ∧ w * s ≤ 1200) ∧ (-72000 ≤ w * s * s ∧ w * s * s ≤ 72000) := by
  have h1 := mulb (a := w) (b := s) (A := 20) (B := 60) (by omega) (by omega)
  have h2 := mulb (a := w * s) (b := s) (A := 1200) (B := 60) (by omega) (by omega)
  omega
end S24
