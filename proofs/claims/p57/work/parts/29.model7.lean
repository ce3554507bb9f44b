/-! CONTRACTS of the reference: a pulse -/
def sdA (α : Nat → Int) (j : Nat) : Int := α (B9 j 3) + zabs (α (B9 j 1))
def nsv (α : Nat → Int) (j : Nat) : Int := if 60 ≤ sdA α j then sdA α j - 60 else sdA α j
def svA (α : Nat → Int) : Nat → (Nat → Int)
  | 0 => α
  | i + 1 => up1 (svA α i) (B9 i 3) (nsv α i)
def dlA (α : Nat → Int) : Nat → Nat
  | 0 => 0
  | i + 1 => if 60 ≤ sdA α i ∧ α (B9 i 1) < 0 then dlA α i ||| 2 ^ i else dlA α i
def dqA (α : Nat → Int) : Nat → Nat
  | 0 => 0
  | i + 1 => if 60 ≤ sdA α i ∧ 0 < α (B9 i 1) then dqA α i ||| 2 ^ i else dqA α i
theorem svA_ne {α : Nat → Int} {k : Nat} : ∀ i, (∀ j, j < i → k ≠ B9 j 3) → svA α i k = α k
  | 0, _ => rfl
  | i + 1, h => by
    show up1 (svA α i) (B9 i 3) (nsv α i) k = α k
    rw [up1_ne (h i (by omega)), svA_ne i (fun j hj => h j (by omega))]
theorem svA_k {α : Nat → Int} {i j k : Nat} (h : k ≠ 3 ∨ i ≤ j) (hk : k < 9) : svA α i (B9 j k) = α (B9 j k) := svA_ne i (fun q hq => by unfold B9; omega)
theorem dlA_t {α : Nat → Int} {j : Nat} : ∀ i, (dlA α i).testBit j = decide (j < i ∧ 60 ≤ sdA α j ∧ α (B9 j 1) < 0)
  | 0 => by
    show Nat.testBit 0 j = _
    rw [Nat.zero_testBit]
    exact (decide_eq_false (by omega)).symm
  | i + 1 => by
    show Nat.testBit (if _ then _ else _) j = _
    by_cases h : 60 ≤ sdA α i ∧ α (B9 i 1) < 0
    · rw [if_pos h, or_t, dlA_t i]
      by_cases hj : i = j
      · subst hj
        simp only [decide_true, Bool.or_true, h, and_self, and_true]
        exact (decide_eq_true (by omega)).symm
      · simp only [hj, decide_false, Bool.or_false]
        exact decide_eq_decide.mpr ⟨fun g => ⟨by omega, g.2⟩, fun g => ⟨by omega, g.2⟩⟩
    · rw [if_neg h, dlA_t i]
      refine decide_eq_decide.mpr ⟨fun g => ⟨by omega, g.2⟩, fun g => ⟨?_, g.2⟩⟩
      by_cases hj : i = j
      · subst hj
        exact absurd g.2 h
      · omega
theorem dqA_t {α : Nat → Int} {j : Nat} : ∀ i, (dqA α i).testBit j = decide (j < i ∧ 60 ≤ sdA α j ∧ 0 < α (B9 j 1))
  | 0 => by
    show Nat.testBit 0 j = _
    rw [Nat.zero_testBit]
    exact (decide_eq_false (by omega)).symm
  | i + 1 => by
    show Nat.testBit (if _ then _ else _) j = _
    by_cases h : 60 ≤ sdA α i ∧ 0 < α (B9 i 1)
    · rw [if_pos h, or_t, dqA_t i]
      by_cases hj : i = j
      · subst hj
        simp only [decide_true, Bool.or_true, h, and_self, and_true]
        exact (decide_eq_true (by omega)).symm
      · simp only [hj, decide_false, Bool.or_false]
        exact decide_eq_decide.mpr ⟨fun g => ⟨by omega, g.2⟩, fun g => ⟨by omega, g.2⟩⟩
    · rw [if_neg h, dqA_t i]
      refine decide_eq_decide.mpr ⟨fun g => ⟨by omega, g.2⟩, fun g => ⟨?_, g.2⟩⟩
      by_cases hj : i = j
      · subst hj
        exact absurd g.2 h
      · omega
theorem nsv_b {α : Nat → Int} {j : Nat} (h1 : -60 ≤ α (B9 j 1) ∧ α (B9 j 1) ≤ 60) (h3 : 0 ≤ α (B9 j 3) ∧ α (B9 j 3) ≤ 59) : 0 ≤ nsv α j ∧ nsv α j ≤ 59 ∧ 0 ≤ sdA α j ∧ sdA α j ≤ 119 ∧ (60 ≤ sdA α j → α (B9 j 1) ≠ 0) := by
  unfold nsv sdA zabs
  split <;> split <;> omega
theorem svA_G {α : Nat → Int} {n m : Nat} {o : Nat → Nat} (h : GA α n m o) : ∀ i, i ≤ n → GA (svA α i) n m o
  | 0, _ => h
  | i + 1, hi => by
    have h10 : n ≤ 10 := h.1.1
    have hm4 : m ≤ 4 := h.2.1.1
    have ih := svA_G h i (by omega)
    have gi := h.1.2.2.2.2 i (by omega)
    have nb := nsv_b gi.2.1 gi.2.2.2
    show GA (up1 (svA α i) (B9 i 3) (nsv α i)) n m o
    refine GA_ext ih ⟨up1_ne (by unfold B9; omega), up1_ne (by unfold B9; omega), up1_ne (by unfold B9; omega), up1_ne (by unfold B9; omega), up1_ne (by unfold B9; omega)⟩ (fun j hj => ?_) (fun p hp => ?_) ?_
    · have g := ih.1.2.2.2.2 j hj
      rw [up1_ne (by unfold B9; omega), up1_ne (by unfold B9; omega), up1_ne (by unfold B9; omega)]
      refine ⟨rfl, g.2.1, g.2.2.1, ?_⟩
      by_cases hij : j = i
      · subst hij
        rw [up1_eq']
        omega
      · rw [up1_ne (by unfold B9; omega)]
        exact g.2.2.2
    · have g := ih.2.1.2.2 p hp
      rw [up1_ne (by unfold B9 P3; omega), up1_ne (by unfold B9 P3; omega)]
      exact ⟨rfl, g.2⟩
    · rw [up1_ne (by unfold B9; omega)]
      exact ih.2.2.1.2.2
section S29
variable {N : NX} {w : WX} {d t n m : Nat} {I : Nat → Nat → Int32} {L : Nat → Nat → Int64} {D : Nat → Nat → UInt64} {Q : Rs → St → Prop} {α : Nat → Int} {f : Nat → Int32} {x : Tn} {l q p r z1 z2 M : Int} {o : Nat → Nat}
end S29
