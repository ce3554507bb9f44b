/-! CLASS AND REFERENCE AGREE: what will be. Made by wip/whole/gen/gen66.py -/
section S66a
variable {xs : Nat → Int32} {N : NX} {c t dA a dB b' e : Nat} {I : Nat → Nat → Int32} {L : Nat → Nat → Int64} {D : Nat → Nat → UInt64} {EA EB : Lo} {ex : List (Nat × Nat)} {α β : Nat → Int}
end S66a
section S66
variable {xs : Nat → Int32} {N : NX} {w : WX} {d c t b e n m : Nat} {I ℓ : Nat → Nat → Int32} {L μ : Nat → Nat → Int64} {D : Nat → Nat → UInt64} {x y z : Int32} {Q : Rs → St → Prop} {α : Nat → Int} {o : Nat → Nat} {v : Int × Int × Int × Int × Int × Int × Int}
theorem c107r (hb : LB b) (h5 : rv (KR w 15 5) = .ref b) (hR : RL (gl b I) (gl b L) α n m o) (hG : GA α n m o) {i : Nat} (hi : i < n) : Wp d 107 0 [some (.ref 15), some (.int (Int32.ofInt (i : Int)))] [] (mk N t w I L D) Q = Q (.inl (some (.ref (b + (i + 13))))) (mk N t w I L D) := by
  have := c107 (d := d) (N := N) (t := t) (w := w) (ℓ := gl b I) (I := I) (L := L) (D := D) (Q := Q) hb h5 hG.1.1 (rd_n hR) hi
  rw [lay_gl] at this
  exact this
end S66
