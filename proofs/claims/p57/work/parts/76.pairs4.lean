/-! CLASS AND REFERENCE AGREE: truncate, meanSpeed, share, middle -/
section S76
variable {xs : Nat → Int32} {N : NX} {w : WX} {d c t b n m : Nat} {I J : Nat → Nat → Int32} {L : Nat → Nat → Int64} {D : Nat → Nat → UInt64} {x : Int32} {Q : Rs → St → Prop} {α : Nat → Int} {o : Nat → Nat}
theorem c40r (hb : LB b) (hR : RL (gl b J) (gl b L) α n m o) (hG : GA α n m o) : Wp d 40 0 [some (.ref b), none, none] [] (mk N t w J L D) Q = Q (.inl (some (.int (Int32.ofInt (wtA α n))))) (mk N t w J L D) := by
  have := c40 (d := d) (N := N) (t := t) (w := w) (ℓ := gl b J) (I := J) (L := L) (D := D) (Q := Q) hb hR hG
  rw [lay_gl] at this
  exact this
theorem c44r (hb : LB b) (hR : RL (gl b J) (gl b L) α n m o) (hG : GA α n m o) : Wp (d + 1) 44 0 [some (.ref b), none, none] [] (mk N t w J L D) Q = Q (.inl (some (.int (Int32.ofInt (enA α n))))) (mk N t w J L D) := by
  have := c44 (d := d) (N := N) (t := t) (w := w) (ℓ := gl b J) (I := J) (L := L) (D := D) (Q := Q) hb hR hG
  rw [lay_gl] at this
  exact this
end S76
