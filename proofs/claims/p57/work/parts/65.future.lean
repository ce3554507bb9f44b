/-! CONTRACTS: what will be, of the class over its trial line, of the reference with its row laid aside -/
section S65
variable {N : NX} {w : WX} {d t b e n m : Nat} {I J ℓ : Nat → Nat → Int32} {L μ : Nat → Nat → Int64} {D : Nat → Nat → UInt64} {Q : Rs → St → Prop} {o : Nat → Nat} {α : Nat → Int} {u : Un} {v : Int × Int × Int × Int × Int × Int × Int}
/-! the class -/
theorem c32t (he : LB e) (hb : LB b) (hd : apt e b) : Wp (d + 1) 32 0 [some (.ref e), some (.ref b), none] [] (mk N t w I L D) Q = Q (.inl none) (mk N t w (lay e (mg CP (gl b I) (gl e I)) I) (lay e (muC (gl b L) (gl e L)) L) D) := by
  have := c32 (d := d) (N := N) (t := t) (w := w) (I := I) (ℓ := gl e I) (L := L) (μ := gl e L) (D := D) (Q := Q) he hb hd
  rw [lay_gl, lay_gl] at this
  exact this
/-! the reference -/
/-! until all is calm -/
/-! until the next hit -/
end S65
