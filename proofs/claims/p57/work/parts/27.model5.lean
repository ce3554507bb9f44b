/-! CONTRACTS of the reference: hits, turns -/
theorem or_lt {M i : Nat} (hM : M < 1024) (hi : i < 10) : M ||| 2 ^ i < 1024 := by
  have h : 2 ^ i < 2 ^ 10 := Nat.pow_lt_pow_right (by omega) hi
  exact Nat.or_lt_two_pow (n := 10) hM h
theorem or_t {M i j : Nat} : (M ||| 2 ^ i).testBit j = (M.testBit j || decide (i = j)) := by
  rw [Nat.testBit_or, Nat.testBit_two_pow]
section SFN
variable {p r M t o l q z : Int}
end SFN
/-- what a pulse works on: row, parts, who has been hit, the first hit's turn and other -/
abbrev Tn : Type := (Nat → Int) × Int × Int × Nat × Int × Int
def wtR (α : Nat → Int) (b : Nat) : Nat → Int := up1 (up1 α (B9 b 7) (α (B9 b 7) + 1)) 14 (α 14 + 1)
def hkA (α : Nat → Int) (l r : Nat) : Int := kA (α (B9 l 1)) (α (B9 r 1)) (α (B9 l 2)) (α (B9 r 2))
def hpl (α : Nat → Int) (l r : Nat) : Int := paA (α (B9 l 2)) (α (B9 r 2))
def spR (α : Nat → Int) (l r : Nat) : Nat → Int := up1 (up1 (up1 α (B9 l 1) (α (B9 l 1) - hkA α l r * hpl α l r)) (B9 r 1) (α (B9 r 1) + hkA α l r * hpl α r l)) 6 (α 6 + α (B9 r 2) * hkA α l r * hpl α r l)
def cnR (α : Nat → Int) (b o : Nat) : Nat → Int := up1 (up1 (up1 (up1 (up1 α (B9 b 5) (α (B9 b 5) + 1)) (B9 o 5) (α (B9 o 5) + 1)) (HH b o) (α (HH b o) + 1)) (HH o b) (α (HH o b) + 1)) 12 (α 12 + 1)
def hiR (α : Nat → Int) (l r b o : Nat) : Nat → Int := lgA (cnR (spR α l r) b o) b o (hkA α l r)
def hitT (x : Tn) (l r b o : Nat) : Tn :=
  if x.1 (B9 l 1) ≤ x.1 (B9 r 1) then (wtR x.1 b, x.2)
  else (hiR x.1 l r b o, hpl x.1 l r, hpl x.1 r l, x.2.2.2.1 ||| 2 ^ b ||| 2 ^ o, if x.2.2.2.2.1 = -1 then (b : Int) else x.2.2.2.2.1, if x.2.2.2.2.1 = -1 then (o : Int) else x.2.2.2.2.2)
section S27
variable {N : NX} {w : WX} {d t n m : Nat} {I : Nat → Nat → Int32} {L : Nat → Nat → Int64} {D : Nat → Nat → UInt64} {Q : Rs → St → Prop} {α : Nat → Int} {f : Nat → Int32} {x : Tn} {l q : Int}
theorem rt01 : (Int32.ofInt 1 = Int32.ofInt 0) = False := by
  simp only [eq_iff_iff, iff_false]
  decide
end S27
