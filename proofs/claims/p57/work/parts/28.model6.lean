/-! PURE: what a turn leaves as it was; a row in order -/
theorem up1_ne {α : Type} {f : Nat → α} {k j : Nat} {v : α} (h : j ≠ k) : up1 f k v j = f j := by
  unfold up1
  rw [if_neg h]
theorem up1_eq' {α : Type} {f : Nat → α} {k : Nat} {v : α} : up1 f k v k = v := by
  unfold up1
  rw [if_pos rfl]
theorem lgA_lo {α : Nat → Int} {b o h : Int} {k : Nat} (hk : k < 218 ∧ k ≠ 4) : lgA α b o h k = α k := by
  unfold lgA
  rw [up1_ne (by omega), up1_ne (by omega), up1_ne (by omega), up1_ne (by omega), up1_ne (by omega)]
  unfold shK
  rw [if_neg (by omega)]
theorem lgA_4 {α : Nat → Int} {b o h : Int} (h4 : 0 ≤ α 4 ∧ α 4 ≤ 40) : 0 ≤ lgA α b o h 4 ∧ lgA α b o h 4 ≤ 40 := by
  unfold lgA
  rw [up1_eq']
  split <;> omega
/-- the row in order: numbers in their ranges, balls in the order o, no ball on a post -/
def GA (α : Nat → Int) (n m : Nat) (o : Nat → Nat) : Prop :=
  GB α n ∧ GP α m ∧ ((0 ≤ α 8 ∧ α 8 ≤ 100) ∧ (0 ≤ α 9 ∧ α 9 ≤ 100) ∧ (0 ≤ α 4 ∧ α 4 ≤ 40)) ∧ (∀ p, p < n → o p < n) ∧ (∀ p q, p < q → q < n → α (B9 (o p) 0) < α (B9 (o q) 0)) ∧ (∀ i, i < n → ∃ p, p < n ∧ o p = i) ∧ (∀ i, i < n → ∀ p, p < m → α (B9 i 0) ≠ α (P3 p 0))
theorem GA_ext {α β : Nat → Int} {n m : Nat} {o : Nat → Nat} (h : GA α n m o) (h0 : β 0 = α 0 ∧ β 1 = α 1 ∧ β 2 = α 2 ∧ β 8 = α 8 ∧ β 9 = α 9) (hB : ∀ i, i < n → β (B9 i 0) = α (B9 i 0) ∧ (-60 ≤ β (B9 i 1) ∧ β (B9 i 1) ≤ 60) ∧ (1 ≤ β (B9 i 2) ∧ β (B9 i 2) ≤ 20) ∧ (0 ≤ β (B9 i 3) ∧ β (B9 i 3) ≤ 59)) (hP : ∀ p, p < m → β (P3 p 0) = α (P3 p 0) ∧ (0 ≤ β (P3 p 1) ∧ β (P3 p 1) ≤ 100)) (h4 : 0 ≤ β 4 ∧ β 4 ≤ 40) : GA β n m o := by
  obtain ⟨⟨a1, a2, a3, a4, a5⟩, ⟨b1, b2, b3⟩, ⟨c1, c2, c3⟩, d1, d2, d3, d4⟩ := h
  obtain ⟨e0, e1, e2, e8, e9⟩ := h0
  refine ⟨⟨a1, by rw [e1]; exact a2, by rw [e0]; exact a3, by rw [e0]; exact a4, fun i hi => ?_⟩, ⟨b1, by rw [e2]; exact b2, fun p hp => ?_⟩, ⟨by rw [e8]; exact c1, by rw [e9]; exact c2, h4⟩, d1, fun p q hpq hq => ?_, d3, fun i hi p hp => ?_⟩
  · have g := hB i hi
    rw [g.1, e0]
    exact ⟨(a5 i hi).1, g.2⟩
  · have g := hP p hp
    rw [g.1, e0]
    exact ⟨(b3 p hp).1, g.2⟩
  · rw [(hB _ (d1 p (by omega))).1, (hB _ (d1 q hq)).1]
    exact d2 p q hpq hq
  · rw [(hB i hi).1, (hP p hp).1]
    exact d4 i hi p hp
theorem boA_lo {α : Nat → Int} {i k : Nat} {st : Int} (hk : k < 218 ∧ k ≠ 4 ∧ k ≠ 5 ∧ k ≠ 13 ∧ k ≠ B9 i 1 ∧ k ≠ B9 i 6) : boA α i st k = α k := by
  unfold boA
  rw [lgA_lo ⟨hk.1, hk.2.1⟩, up1_ne (by omega), up1_ne (by omega), up1_ne (by omega), up1_ne (by omega)]
theorem boA_s {α : Nat → Int} {i : Nat} {st : Int} (hi : i < 10) : boA α i st (B9 i 1) = bsA (α (B9 i 1)) st := by
  unfold boA
  rw [lgA_lo (by unfold B9; omega), up1_ne (by unfold B9; omega), up1_ne (by unfold B9; omega), up1_ne (by unfold B9; omega), up1_eq']
theorem boA_4 {α : Nat → Int} {i : Nat} {st : Int} (h4 : 0 ≤ α 4 ∧ α 4 ≤ 40) : 0 ≤ boA α i st 4 ∧ boA α i st 4 ≤ 40 := by
  unfold boA
  refine lgA_4 ?_
  rw [up1_ne (by omega), up1_ne (by omega), up1_ne (by unfold B9; omega), up1_ne (by unfold B9; omega)]
  exact h4
theorem boA_G {α : Nat → Int} {n m i : Nat} {o : Nat → Nat} {st : Int} (h : GA α n m o) (hi : i < n) (ht : 0 ≤ st ∧ st ≤ 100) : GA (boA α i st) n m o := by
  have h10 : n ≤ 10 := h.1.1
  refine GA_ext h ⟨boA_lo (by unfold B9; omega), boA_lo (by unfold B9; omega), boA_lo (by unfold B9; omega), boA_lo (by unfold B9; omega), boA_lo (by unfold B9; omega)⟩ (fun j hj => ?_) (fun p hp => ?_) (boA_4 h.2.2.1.2.2)
  · have g := h.1.2.2.2.2 j hj
    refine ⟨boA_lo (by unfold B9; omega), ?_, ?_, ?_⟩
    · by_cases hij : j = i
      · subst hij
        rw [boA_s (by omega)]
        exact bsA_b g.2.1 ht
      · rw [boA_lo (by unfold B9; omega)]
        exact g.2.1
    · rw [boA_lo (by unfold B9; omega)]
      exact g.2.2.1
    · rw [boA_lo (by unfold B9; omega)]
      exact g.2.2.2
  · have h3 : m ≤ 4 := h.2.1.1
    have g := h.2.1.2.2 p hp
    refine ⟨boA_lo (by unfold B9 P3; omega), ?_⟩
    rw [boA_lo (by unfold B9 P3; omega)]
    exact g.2
/-- a number that is no part of the order is changed -/
theorem up_G {α : Nat → Int} {n m k : Nat} {o : Nat → Nat} {v : Int} (h : GA α n m o) (hk : k ≠ 0 ∧ k ≠ 1 ∧ k ≠ 2 ∧ k ≠ 4 ∧ k ≠ 8 ∧ k ≠ 9) (hP : ∀ p, p < m → k ≠ P3 p 0 ∧ k ≠ P3 p 1) (hB : ∀ i, i < n → k ≠ B9 i 0 ∧ k ≠ B9 i 1 ∧ k ≠ B9 i 2 ∧ k ≠ B9 i 3) : GA (up1 α k v) n m o := by
  refine GA_ext h ⟨up1_ne (by omega), up1_ne (by omega), up1_ne (by omega), up1_ne (by omega), up1_ne (by omega)⟩ (fun j hj => ?_) (fun p hp => ?_) ?_
  · have g := h.1.2.2.2.2 j hj
    have g2 := hB j hj
    rw [up1_ne (by omega), up1_ne (by omega), up1_ne (by omega), up1_ne (by omega)]
    exact ⟨rfl, g.2⟩
  · have g := h.2.1.2.2 p hp
    have g2 := hP p hp
    rw [up1_ne (by omega), up1_ne (by omega)]
    exact ⟨rfl, g.2⟩
  · rw [up1_ne (by omega)]
    exact h.2.2.1.2.2
theorem btA_G {α : Nat → Int} {n m i : Nat} {o : Nat → Nat} {c : Int} (h : GA α n m o) (hi : i < n) : GA (btA α m i c) n m o := by
  have h10 : n ≤ 10 := h.1.1
  have hm4 : m ≤ 4 := h.2.1.1
  unfold btA
  split
  · split
    · exact boA_G (up_G h (by omega) (fun p hp => by unfold P3; omega) (fun j hj => by unfold B9; omega)) hi h.2.2.1.1
    · exact boA_G (up_G h (by omega) (fun p hp => by unfold P3; omega) (fun j hj => by unfold B9; omega)) hi h.2.2.1.2.1
  · rename_i hne
    rcases pFind_spec (f := fun p => α (P3 p 0)) (c := c) m 0 with ⟨g1, -⟩ | ⟨j, g1, -, g3, -⟩
    · exact absurd g1 hne
    · have e : (pAt α m c).toNat = j := by
        have : pAt α m c = (j : Int) := g1
        rw [this]
        rfl
      rw [e]
      exact boA_G (up_G h (by unfold P3; omega) (fun p hp => by unfold P3; omega) (fun i hi => by unfold B9 P3; omega)) hi (h.2.1.2.2 j (by omega)).2
theorem wtR_G {α : Nat → Int} {n m i : Nat} {o : Nat → Nat} (h : GA α n m o) (hi : i < n) : GA (wtR α i) n m o := by
  have h10 : n ≤ 10 := h.1.1
  have hm4 : m ≤ 4 := h.2.1.1
  unfold wtR
  exact up_G (up_G h (by unfold B9; omega) (fun p hp => by unfold B9 P3; omega) (fun j hj => by unfold B9; omega)) (by omega) (fun p hp => by unfold P3; omega) (fun j hj => by unfold B9; omega)
theorem cnR_G {α : Nat → Int} {n m b c : Nat} {o : Nat → Nat} (h : GA α n m o) (hb : b < n) (hc : c < n) : GA (cnR α b c) n m o := by
  have h10 : n ≤ 10 := h.1.1
  have hm4 : m ≤ 4 := h.2.1.1
  unfold cnR
  refine up_G (up_G (up_G (up_G (up_G h ?_ ?_ ?_) ?_ ?_ ?_) ?_ ?_ ?_) ?_ ?_ ?_) ?_ ?_ ?_
  all_goals first
    | (unfold B9; omega)
    | (unfold HH; omega)
    | omega
    | (intro p hp; unfold B9 P3; omega)
    | (intro p hp; unfold HH P3; omega)
    | (intro p hp; unfold P3; omega)
    | (intro p hp; unfold B9; omega)
    | (intro p hp; unfold HH B9; omega)
theorem spR_G {α : Nat → Int} {n m l r : Nat} {o : Nat → Nat} (h : GA α n m o) (hl : l < n) (hr : r < n) (hne : l ≠ r) (hlt : α (B9 r 1) < α (B9 l 1)) : GA (spR α l r) n m o := by
  have h10 : n ≤ 10 := h.1.1
  have hm4 : m ≤ 4 := h.2.1.1
  have gl := h.1.2.2.2.2 l hl
  have gr := h.1.2.2.2.2 r hr
  have hk := kA_b gl.2.1 gr.2.1 hlt gl.2.2.1 gr.2.2.1
  unfold spR
  refine up_G (α := up1 (up1 α (B9 l 1) (α (B9 l 1) - hkA α l r * hpl α l r)) (B9 r 1) (α (B9 r 1) + hkA α l r * hpl α r l)) ?_ (by omega) (fun p hp => by unfold P3; omega) (fun j hj => by unfold B9; omega)
  refine GA_ext h ⟨?_, ?_, ?_, ?_, ?_⟩ (fun j hj => ?_) (fun p hp => ?_) ?_
  · rw [up1_ne (by unfold B9; omega), up1_ne (by unfold B9; omega)]
  · rw [up1_ne (by unfold B9; omega), up1_ne (by unfold B9; omega)]
  · rw [up1_ne (by unfold B9; omega), up1_ne (by unfold B9; omega)]
  · rw [up1_ne (by unfold B9; omega), up1_ne (by unfold B9; omega)]
  · rw [up1_ne (by unfold B9; omega), up1_ne (by unfold B9; omega)]
  · have g := h.1.2.2.2.2 j hj
    refine ⟨?_, ?_, ?_, ?_⟩
    · rw [up1_ne (by unfold B9; omega), up1_ne (by unfold B9; omega)]
    · by_cases h1 : j = r
      · subst h1
        rw [up1_eq']
        exact hk.2.2
      · rw [up1_ne (by unfold B9; omega)]
        by_cases h2 : j = l
        · subst h2
          rw [up1_eq']
          exact hk.2.1
        · rw [up1_ne (by unfold B9; omega)]
          exact g.2.1
    · rw [up1_ne (by unfold B9; omega), up1_ne (by unfold B9; omega)]
      exact g.2.2.1
    · rw [up1_ne (by unfold B9; omega), up1_ne (by unfold B9; omega)]
      exact g.2.2.2
  · have g := h.2.1.2.2 p hp
    rw [up1_ne (by unfold B9 P3; omega), up1_ne (by unfold B9 P3; omega), up1_ne (by unfold B9 P3; omega), up1_ne (by unfold B9 P3; omega)]
    exact ⟨rfl, g.2⟩
  · rw [up1_ne (by unfold B9; omega), up1_ne (by unfold B9; omega)]
    exact h.2.2.1.2.2
theorem lgA_G {α : Nat → Int} {n m : Nat} {o : Nat → Nat} {b c k : Int} (h : GA α n m o) : GA (lgA α b c k) n m o := by
  have h10 : n ≤ 10 := h.1.1
  have hm4 : m ≤ 4 := h.2.1.1
  refine GA_ext h ⟨lgA_lo (by omega), lgA_lo (by omega), lgA_lo (by omega), lgA_lo (by omega), lgA_lo (by omega)⟩ (fun j hj => ?_) (fun p hp => ?_) (lgA_4 h.2.2.1.2.2)
  · have g := h.1.2.2.2.2 j hj
    rw [lgA_lo (by unfold B9; omega), lgA_lo (by unfold B9; omega), lgA_lo (by unfold B9; omega), lgA_lo (by unfold B9; omega)]
    exact ⟨rfl, g.2⟩
  · have g := h.2.1.2.2 p hp
    rw [lgA_lo (by unfold P3; omega), lgA_lo (by unfold P3; omega)]
    exact ⟨rfl, g.2⟩
/-- what holds of a pulse's things -/
def XG (x : Tn) (n m : Nat) (o : Nat → Nat) : Prop := GA x.1 n m o ∧ x.2.2.2.1 < 1024 ∧ (-1 ≤ x.2.2.2.2.1 ∧ x.2.2.2.2.1 < 10)
theorem hitT_G {x : Tn} {n m l r b c : Nat} {o : Nat → Nat} (h : XG x n m o) (hl : l < n) (hr : r < n) (hne : l ≠ r) (hb : b < n) (hc : c < n) : XG (hitT x l r b c) n m o := by
  obtain ⟨hG, hM, ht⟩ := h
  have h10 : n ≤ 10 := hG.1.1
  unfold hitT
  split
  · exact ⟨wtR_G hG hb, hM, ht⟩
  · rename_i hlt
    refine ⟨lgA_G (cnR_G (spR_G hG hl hr hne (by omega)) hb hc), or_lt (or_lt hM (by omega)) (by omega), ?_⟩
    show -1 ≤ (if x.2.2.2.2.1 = -1 then (b : Int) else x.2.2.2.2.1) ∧ (if x.2.2.2.2.1 = -1 then (b : Int) else x.2.2.2.2.1) < 10
    split <;> omega
/-- it goes to the next cell -/
def mvR (α : Nat → Int) (i : Nat) (c : Int) : Nat → Int := up1 (up1 (up1 α (B9 i 0) c) (B9 i 4) (α (B9 i 4) + 1)) 15 (α 15 + 1)
theorem bAt_ne {α : Nat → Int} {n : Nat} {c : Int} (h : bAt α n c = -1) : ∀ j, j < n → α (B9 j 0) ≠ c := by
  rcases pFind_spec (f := fun i => α (B9 i 0)) (c := c) n 0 with ⟨-, h2⟩ | ⟨j, h1, -⟩
  · exact fun j hj => h2 j (by omega) (by omega)
  · have : bAt α n c = (j : Int) := h1
    omega
theorem pAt_ne {α : Nat → Int} {m : Nat} {c : Int} (h : pAt α m c = -1) : ∀ j, j < m → α (P3 j 0) ≠ c := by
  rcases pFind_spec (f := fun p => α (P3 p 0)) (c := c) m 0 with ⟨-, h2⟩ | ⟨j, h1, -⟩
  · exact fun j hj => h2 j (by omega) (by omega)
  · have : pAt α m c = (j : Int) := h1
    omega
theorem bAt_some {α : Nat → Int} {n : Nat} {c : Int} (h : bAt α n c ≠ -1) : ∃ j : Nat, bAt α n c = (j : Int) ∧ j < n ∧ α (B9 j 0) = c := by
  rcases pFind_spec (f := fun i => α (B9 i 0)) (c := c) n 0 with ⟨h1, -⟩ | ⟨j, h1, -, h3, h4, -⟩
  · exact absurd h1 h
  · exact ⟨j, h1, by omega, h4⟩
theorem mvR_G {α : Nat → Int} {n m i : Nat} {o : Nat → Nat} {s : Int} (h : GA α n m o) (hi : i < n) (hs : s = 1 ∨ s = -1) (hF : isF α n m (α (B9 i 0) + s)) : GA (mvR α i (α (B9 i 0) + s)) n m o := by
  have h10 : n ≤ 10 := h.1.1
  have hm4 : m ≤ 4 := h.2.1.1
  obtain ⟨hC, hb, hp⟩ := hF
  have nb := bAt_ne hb
  have np := pAt_ne hp
  unfold mvR
  refine up_G (up_G ?_ ?_ ?_ ?_) ?_ ?_ ?_
  · obtain ⟨⟨a1, a2, a3, a4, a5⟩, ⟨b1, b2, b3⟩, c1, d1, d2, d3, d4⟩ := h
    have e0 : ∀ j, j ≠ i → up1 α (B9 i 0) (α (B9 i 0) + s) (B9 j 0) = α (B9 j 0) := fun j hj => up1_ne (by unfold B9; omega)
    have e1 : up1 α (B9 i 0) (α (B9 i 0) + s) (B9 i 0) = α (B9 i 0) + s := up1_eq'
    have ek : ∀ k, k < 28 → up1 α (B9 i 0) (α (B9 i 0) + s) k = α k := fun k hk => up1_ne (by unfold B9; omega)
    have ew : ∀ j k, 1 ≤ k → k < 9 → up1 α (B9 i 0) (α (B9 i 0) + s) (B9 j k) = α (B9 j k) := fun j k h1 h2 => up1_ne (by unfold B9; omega)
    have eP : ∀ p k, p < m → k < 3 → up1 α (B9 i 0) (α (B9 i 0) + s) (P3 p k) = α (P3 p k) := fun p k h1 h2 => ek _ (by unfold P3; omega)
    refine ⟨⟨a1, by rw [ek _ (by omega)]; exact a2, by rw [ek _ (by omega)]; exact a3, by rw [ek _ (by omega)]; exact a4, fun j hj => ?_⟩, ⟨b1, by rw [ek _ (by omega)]; exact b2, fun p hp => ?_⟩, ?_, d1, fun p q hpq hq => ?_, d3, fun j hj p hp9 => ?_⟩
    · have g := a5 j hj
      rw [ek 0 (by omega), ew j 1 (by omega) (by omega), ew j 2 (by omega) (by omega), ew j 3 (by omega) (by omega)]
      refine ⟨?_, g.2⟩
      by_cases hj2 : j = i
      · subst hj2
        rw [e1]
        omega
      · rw [e0 j hj2]
        exact g.1
    · rw [eP p 0 hp (by omega), eP p 1 hp (by omega), ek 0 (by omega)]
      exact b3 p hp
    · rw [ek 8 (by omega), ek 9 (by omega), ek 4 (by omega)]
      exact c1
    · have g := d2 p q hpq hq
      by_cases h1 : o p = i
      · by_cases h2 : o q = i
        · rw [h1, h2] at g
          omega
        · rw [e0 _ h2, h1, e1]
          rw [h1] at g
          have := nb (o q) (d1 q hq)
          omega
      · by_cases h2 : o q = i
        · rw [e0 _ h1, h2, e1]
          rw [h2] at g
          have := nb (o p) (d1 p (by omega))
          omega
        · rw [e0 _ h1, e0 _ h2]
          exact g
    · rw [eP p 0 hp9 (by omega)]
      by_cases hj2 : j = i
      · subst hj2
        rw [e1]
        exact fun e => np p hp9 e.symm
      · rw [e0 j hj2]
        exact d4 j hj p hp9
  all_goals first
    | (unfold B9; omega)
    | omega
    | (intro p hp; unfold B9 P3; omega)
    | (intro p hp; unfold P3; omega)
    | (intro p hp; unfold B9; omega)
/-- a turn of ball i to the side s -/
def ttT (n m : Nat) (x : Tn) (i : Nat) (s : Int) : Tn :=
  if x.2.2.2.1.testBit i = true then x
  else if isF x.1 n m (x.1 (B9 i 0) + s) then (mvR x.1 i (x.1 (B9 i 0) + s), x.2)
  else if isC x.1 (x.1 (B9 i 0) + s) ∧ bAt x.1 n (x.1 (B9 i 0) + s) ≠ -1 then
    (if s = 1 then hitT x i (bAt x.1 n (x.1 (B9 i 0) + s)).toNat i (bAt x.1 n (x.1 (B9 i 0) + s)).toNat else hitT x (bAt x.1 n (x.1 (B9 i 0) + s)).toNat i i (bAt x.1 n (x.1 (B9 i 0) + s)).toNat)
  else (btA x.1 m i (x.1 (B9 i 0) + s), x.2)
theorem ttT_G {x : Tn} {n m i : Nat} {o : Nat → Nat} {s : Int} (h : XG x n m o) (hi : i < n) (hs : s = 1 ∨ s = -1) : XG (ttT n m x i s) n m o := by
  unfold ttT
  split
  · exact h
  · split
    · rename_i hF
      exact ⟨mvR_G h.1 hi hs hF, h.2⟩
    · split
      · rename_i hb
        obtain ⟨j, e1, e2, e3⟩ := bAt_some hb.2
        have hne : j ≠ i := by
          intro hj
          subst hj
          omega
        rw [e1]
        show XG (if s = 1 then hitT x i j i j else hitT x j i i j) n m o
        split
        · exact hitT_G h hi e2 (Ne.symm hne) hi e2
        · exact hitT_G h e2 hi hne hi e2
      · exact ⟨btA_G h.1 hi, h.2⟩
section S28
variable {N : NX} {w : WX} {d t n m : Nat} {I : Nat → Nat → Int32} {L : Nat → Nat → Int64} {D : Nat → Nat → UInt64} {Q : Rs → St → Prop} {α : Nat → Int} {f : Nat → Int32} {x : Tn} {l q : Int} {o : Nat → Nat}
end S28
