/-! CLASS AND REFERENCE AGREE: questions. Made by wip/whole/gen/gen61.py -/
section S61a
variable {xs : Nat → Int32} {N : NX} {c t dA a dB b : Nat} {I I' : Nat → Nat → Int32} {L L' : Nat → Nat → Int64} {D : Nat → Nat → UInt64} {EA EB : Lo} {ex : List (Nat × Nat)} {α : Nat → Int}
end S61a
theorem m1 {E : Nat} {l : List (Nat × Nat)} : (1, E) ∈ (1, E) :: l := List.mem_cons_self
theorem m2 {q : Nat × Nat} {E : Nat} {l : List (Nat × Nat)} : (2, E) ∈ q :: (2, E) :: l := List.mem_cons_of_mem _ List.mem_cons_self
section S61
variable {xs : Nat → Int32} {N : NX} {d c t : Nat} {I : Nat → Nat → Int32} {L : Nat → Nat → Int64} {D : Nat → Nat → UInt64} {x y z : Int32}
end S61
