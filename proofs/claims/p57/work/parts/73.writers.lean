/-! CLASS AND REFERENCE AGREE: the three writers -/
/-- the byte of a code -/
def by8 (z : Int) : Int32 := vp_nar .byte (Int32.ofInt z).toInt8.toInt32
def pf : List Int → Nat → (Nat → Int32) → Nat → Int32
  | [], _, f => f
  | z :: zs, k, f => pf zs (k + 1) (up1 f k (by8 z))
/-- digits -/
def dg (a : Nat) : List Int := if 100 ≤ a then [48 + ((a / 100 : Nat) : Int), 48 + ((a / 10 % 10 : Nat) : Int), 48 + ((a % 10 : Nat) : Int)] else if 10 ≤ a then [48 + ((a / 10 % 10 : Nat) : Int), 48 + ((a % 10 : Nat) : Int)] else [48 + ((a % 10 : Nat) : Int)]
def nb (z : Int) : List Int := if z < 0 then 45 :: dg z.natAbs else dg z.natAbs
section S73
variable {N : NX} {w : WX} {A C F k t d b n m : Nat} {zs ys : List Int} {I J : Nat → Nat → Int32} {L : Nat → Nat → Int64} {D : Nat → Nat → UInt64} {Q : Rs → St → Prop} {α : Nat → Int} {o : Nat → Nat}
theorem q10 {a : Nat} (h : a < 2147483648) : Int32.ofInt (a : Int) / Int32.ofInt 10 = Int32.ofInt ((a / 10 : Nat) : Int) := o_quo (y := 10) h (by omega)
end S73
section S73b
variable {N : NX} {w : WX} {t d b n m : Nat} {J : Nat → Nat → Int32} {L : Nat → Nat → Int64} {D : Nat → Nat → UInt64} {Q : Rs → St → Prop} {α : Nat → Int} {o : Nat → Nat}
theorem c27r (hb : LB b) (hR : RL (gl b J) (gl b L) α n m o) (hG : GA α n m o) {c : Int} (hc : -2147483648 ≤ c ∧ c < 2147483648) : Wp d 27 0 [some (.ref b), some (.int (Int32.ofInt c)), none] [] (mk N t w J L D) Q = Q (.inl (some (.int (Int32.ofInt (bAt α n c))))) (mk N t w J L D) := by
  have := c27 (d := d) (N := N) (t := t) (w := w) (ℓ := gl b J) (I := J) (L := L) (D := D) (Q := Q) hb hR hG hc
  rw [lay_gl] at this
  exact this
end S73b
section S73c
variable {xs : Nat → Int32} {N : NX} {d c t n m dA a dB b : Nat} {I : Nat → Nat → Int32} {L : Nat → Nat → Int64} {D : Nat → Nat → UInt64} {EA EB : Lo} {ex : List (Nat × Nat)} {α : Nat → Int} {o : Nat → Nat}
end S73c
