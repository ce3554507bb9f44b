/-! CONTRACTS of the reference: the log, bounces, hits -/
def shK (α : Nat → Int) (K : Nat) : Nat → Int := fun j => if K < j ∧ 222 ≤ j ∧ j < 378 then α (j - 4) else α j
/-- the log with one more entry ahead -/
def lgA (α : Nat → Int) (b o h : Int) : Nat → Int := up1 (up1 (up1 (up1 (up1 (shK α 221) 218 (α 3)) 219 b) 220 o) 221 h) 4 (if α 4 + 1 < 40 then α 4 + 1 else 40)
section S25
variable {N : NX} {w : WX} {d t n m : Nat} {I : Nat → Nat → Int32} {L : Nat → Nat → Int64} {D : Nat → Nat → UInt64} {Q : Rs → St → Prop} {α : Nat → Int} {f : Nat → Int32}
/-- what a bounce takes of a speed -/
def stA (s st : Int) : Int := zabs s * st / 100
/-- the speed behind it -/
def bsA (s st : Int) : Int := if 0 < s then -(zabs s - stA s st) else zabs s - stA s st
theorem stA_b {s st : Int} (hs : -60 ≤ s ∧ s ≤ 60) (ht : 0 ≤ st ∧ st ≤ 100) : 0 ≤ stA s st ∧ stA s st ≤ zabs s ∧ 0 ≤ zabs s ∧ zabs s ≤ 60 ∧ 0 ≤ zabs s * st ∧ zabs s * st ≤ 6000 := by
  have h1 : 0 ≤ zabs s ∧ zabs s ≤ 60 := by unfold zabs; split <;> omega
  have h2 : 0 ≤ zabs s * st := Int.mul_nonneg h1.1 ht.1
  have h3 : zabs s * st ≤ zabs s * 100 := Int.mul_le_mul_of_nonneg_left ht.2 h1.1
  unfold stA
  omega
theorem bsA_b {s st : Int} (hs : -60 ≤ s ∧ s ≤ 60) (ht : 0 ≤ st ∧ st ≤ 100) : -60 ≤ bsA s st ∧ bsA s st ≤ 60 := by
  have := stA_b hs ht
  unfold bsA
  split <;> omega
/-- the row behind a bounce, but for the count of what it bounced at -/
def boA (α : Nat → Int) (i : Nat) (st : Int) : Nat → Int :=
  lgA (up1 (up1 (up1 (up1 α (B9 i 1) (bsA (α (B9 i 1)) st)) (B9 i 6) (α (B9 i 6) + 1)) 13 (α 13 + 1)) 5 (α 5 + α (B9 i 2) * (α (B9 i 1) - bsA (α (B9 i 1)) st))) i (-1) (stA (α (B9 i 1)) st)
end S25
