/-! CONTRACTS of the reference: all turns, pulses -/
/-- turns to the left: places P, P + 1, .. -/
def tnL (n m : Nat) (o : Nat → Nat) (X : Nat) : Nat → Nat → Tn → Tn
  | 0, _, x => x
  | r + 1, P, x => tnL n m o X r (P + 1) (if X.testBit (o P) = true then ttT n m x (o P) (-1) else x)
/-- turns to the right: places r - 1, r - 2, .. -/
def tnR (n m : Nat) (o : Nat → Nat) (X : Nat) : Nat → Tn → Tn
  | 0, x => x
  | r + 1, x => tnR n m o X r (if X.testBit (o r) = true then ttT n m x (o r) 1 else x)
theorem tnL_G {n m X : Nat} {o : Nat → Nat} : ∀ (r P : Nat) (x : Tn), P + r = n → XG x n m o → XG (tnL n m o X r P x) n m o
  | 0, _, _, _, h => h
  | r + 1, P, x, hP, h => by
    refine tnL_G r (P + 1) _ (by omega) ?_
    split
    · exact ttT_G h (h.1.2.2.2.1 P (by omega)) (Or.inr rfl)
    · exact h
theorem tnR_G {n m X : Nat} {o : Nat → Nat} : ∀ (r : Nat) (x : Tn), r ≤ n → XG x n m o → XG (tnR n m o X r x) n m o
  | 0, _, _, h => h
  | r + 1, x, hr, h => by
    refine tnR_G r _ (by omega) ?_
    split
    · exact ttT_G h (h.1.2.2.2.1 r (by omega)) (Or.inl rfl)
    · exact h
section S30
variable {N : NX} {w : WX} {d t n m : Nat} {I : Nat → Nat → Int32} {L : Nat → Nat → Int64} {D : Nat → Nat → UInt64} {Q : Rs → St → Prop} {α : Nat → Int} {f : Nat → Int32} {x : Tn} {l q p r z1 z2 M : Int} {o : Nat → Nat}
/-- a row and the reference's seven ints -/
abbrev Un : Type := (Nat → Int) × Int × Int × Int × Int × Int × Int × Int
/-- the turns of a pulse -/
def tuT (n m : Nat) (o : Nat → Nat) (α : Nat → Int) (p r : Int) : Tn := tnR n m o (dqA α n) n (tnL n m o (dlA α n) n 0 (svA α n, p, r, 0, -1, -1))
/-- a pulse -/
def puU (n m : Nat) (o : Nat → Nat) (u : Un) : Un :=
  let x := tuT n m o u.1 u.2.1 u.2.2.1
  (up1 x.1 3 (x.1 3 + 1), x.2.1, x.2.2.1, (x.2.2.2.1 : Int), x.2.2.2.2.1, x.2.2.2.2.2, (dlA u.1 n : Int), (dqA u.1 n : Int))
theorem tu_G {u : Un} (h : GA u.1 n m o) : XG (tnL n m o (dlA u.1 n) n 0 (svA u.1 n, u.2.1, u.2.2.1, 0, -1, -1)) n m o ∧ XG (tuT n m o u.1 u.2.1 u.2.2.1) n m o := by
  have h1 : XG (svA u.1 n, u.2.1, u.2.2.1, 0, -1, -1) n m o := ⟨svA_G h n (Nat.le_refl n), by show 0 < 1024; omega, by show -1 ≤ (-1 : Int) ∧ (-1 : Int) < 10; omega⟩
  have h2 := tnL_G (X := dlA u.1 n) n 0 _ (by omega) h1
  exact ⟨h2, tnR_G (X := dqA u.1 n) n _ (Nat.le_refl n) h2⟩
theorem puU_G {u : Un} (h : GA u.1 n m o) : GA (puU n m o u).1 n m o := up_G (tu_G h).2.1 (by omega) (fun p hp => by unfold P3; omega) (fun i hi => by unfold B9; omega)
end S30
