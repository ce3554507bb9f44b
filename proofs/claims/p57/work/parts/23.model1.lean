/-! CONTRACTS of the reference: its row, small questions -/
/-- where a number of a ball stands -/
def B9 (i k : Nat) : Nat := 28 + 9 * i + k
/-- where a number of a post stands -/
def P3 (p k : Nat) : Nat := 16 + 3 * p + k
section S23
variable {N : NX} {w : WX} {d t : Nat} {I : Nat → Nat → Int32} {L : Nat → Nat → Int64} {D : Nat → Nat → UInt64} {Q : Rs → St → Prop} {α : Nat → Int}
end S23
