/-! EACH CALL OF THE LAW, out of the agreement of class and reference. Made by wip/whole/gen/gen58.py -/
theorem i11 : (Int32.ofInt 1 = Int32.ofInt 1) = True := by decide
section S58
variable {N : NX} {d c t : Nat} {xs : Nat → Int32} {I : Nat → Nat → Int32} {L : Nat → Nat → Int64} {D : Nat → Nat → UInt64} {u6 u7 u8 u9 : Option Value} {Q : Rs → St → Prop}
end S58
