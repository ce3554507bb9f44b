/-! PURE: what a pulse does to the log, the counts of hits and the names -/
/-- a new entry -/
def NE (T : Int) (ρ : Nat → Int) (k : Nat) : Prop := ρ (218 + 4 * k) = T ∧ (0 ≤ ρ (218 + 4 * k + 1) ∧ ρ (218 + 4 * k + 1) ≤ 9) ∧ (-1 ≤ ρ (218 + 4 * k + 2) ∧ ρ (218 + 4 * k + 2) ≤ 9) ∧ (0 ≤ ρ (218 + 4 * k + 3) ∧ ρ (218 + 4 * k + 3) ≤ 120)
/-- q new entries stand ahead of the old ones -/
def LG (a ρ : Nat → Int) (q : Nat) : Prop := ρ 3 = a 3 ∧ ρ 4 = (if a 4 + q < 40 then a 4 + q else 40) ∧ (0 ≤ a 4 ∧ a 4 ≤ 40) ∧ ∀ k : Nat, k < 40 → (k < q → NE (a 3) ρ k) ∧ (q ≤ k → ∀ c, c < 4 → ρ (218 + 4 * k + c) = a (218 + 4 * (k - q) + c))
/-- the first hit of balls among them -/
def FH (ρ : Nat → Int) (q : Nat) (tt to : Int) : Prop := (tt = -1 ∧ ∀ k, k < q → ρ (218 + 4 * k + 2) < 0) ∨ (0 ≤ tt ∧ ∃ e, e < q ∧ ρ (218 + 4 * e + 1) = tt ∧ ρ (218 + 4 * e + 2) = to ∧ 0 ≤ to ∧ ∀ k, e < k → k < q → ρ (218 + 4 * k + 2) < 0)
def HC (a : Nat → Int) (n j : Nat) (ρ : Nat → Int) (M : Nat) (tt : Int) : Prop := (tt = -1 ∧ ρ 12 = a 12 ∨ tt ≠ -1 ∧ a 12 < ρ 12) ∧ ρ 12 ≤ a 12 + j ∧ ∀ i, i < n → (M.testBit i = false ∧ ρ (B9 i 5) = a (B9 i 5) ∨ M.testBit i = true ∧ a (B9 i 5) < ρ (B9 i 5)) ∧ ρ (B9 i 5) ≤ a (B9 i 5) + j
def PT (a : Nat → Int) (n j : Nat) (x : Tn) : Prop := (∃ q, q ≤ j ∧ LG a x.1 q ∧ FH x.1 q x.2.2.2.2.1 x.2.2.2.2.2) ∧ HC a n j x.1 x.2.2.2.1 x.2.2.2.2.1 ∧ ∀ i, i < n → x.1 (B9 i 8) = a (B9 i 8)
section S64
variable {a ρ σ : Nat → Int} {n m q j : Nat} {tt to b c h : Int} {o : Nat → Nat} {x : Tn}
theorem LG_ext (hL : LG a ρ q) (e : ∀ k, k = 3 ∨ k = 4 ∨ 218 ≤ k → σ k = ρ k) : LG a σ q := by
  obtain ⟨h1, h2, h3, h4⟩ := hL
  refine ⟨by rw [e _ (by omega)]; exact h1, by rw [e _ (by omega)]; exact h2, h3, fun k hk => ⟨fun g => ?_, fun g c hc => ?_⟩⟩
  · have := (h4 k hk).1 g
    unfold NE at this ⊢
    rw [e _ (by omega), e _ (by omega), e _ (by omega), e _ (by omega)]
    exact this
  · rw [e _ (by omega)]
    exact (h4 k hk).2 g c hc
theorem FH_ext (hF : FH ρ q tt to) (e : ∀ k, 218 ≤ k → σ k = ρ k) : FH σ q tt to := by
  rcases hF with ⟨h1, h2⟩ | ⟨h1, i, h2, h3, h4, h5, h6⟩
  · exact Or.inl ⟨h1, fun k hk => by rw [e _ (by omega)]; exact h2 k hk⟩
  · exact Or.inr ⟨h1, i, h2, by rw [e _ (by omega)]; exact h3, by rw [e _ (by omega)]; exact h4, h5, fun k g1 g2 => by rw [e _ (by omega)]; exact h6 k g1 g2⟩
theorem LG_lg (hL : LG a ρ q) (hq : q < 40) (hb : 0 ≤ b ∧ b ≤ 9) (hc : -1 ≤ c ∧ c ≤ 9) (hh : 0 ≤ h ∧ h ≤ 120) : LG a (lgA ρ b c h) (q + 1) := by
  obtain ⟨h1, h2, h3, h4⟩ := hL
  refine ⟨by rw [lgA_lo (by omega)]; exact h1, ?_, h3, fun k hk => ⟨fun g => ?_, fun g c' hc' => ?_⟩⟩
  · rw [lgA_4e, h2]
    by_cases g1 : a 4 + q < 40
    · rw [if_pos g1]
      by_cases g2 : a 4 + q + 1 < 40
      · rw [if_pos g2, if_pos (by omega)]; omega
      · rw [if_neg g2, if_neg (by omega)]
    · rw [if_neg g1, if_neg (by omega), if_neg (by omega)]
  · have l0 := lgA_0 (α := ρ) (b := b) (c := c) (h := h)
    by_cases k0 : k = 0
    · subst k0
      unfold NE
      refine ⟨by rw [show 218 + 4 * 0 = 218 from rfl, l0.1]; exact h1, by rw [show 218 + 4 * 0 + 1 = 219 from rfl, l0.2.1]; exact hb, by rw [show 218 + 4 * 0 + 2 = 220 from rfl, l0.2.2.1]; exact hc, by rw [show 218 + 4 * 0 + 3 = 221 from rfl, l0.2.2.2]; exact hh⟩
    · have := (h4 (k - 1) (by omega)).1 (by omega)
      unfold NE at this ⊢
      have hi : ∀ w, w < 4 → lgA ρ b c h (218 + 4 * k + w) = ρ (218 + 4 * (k - 1) + w) := fun w hw => lgA_hi hw (by omega)
      have h0 := hi 0 (by omega)
      rw [Nat.add_zero, Nat.add_zero] at h0
      rw [h0, hi 1 (by omega), hi 2 (by omega), hi 3 (by omega)]
      exact this
  · rw [lgA_hi hc' (by omega), (h4 (k - 1) (by omega)).2 (by omega) c' hc', show k - 1 - q = k - (q + 1) by omega]
/-- an entry without another ball: the first hit stays -/
theorem FH_lg1 (hF : FH ρ q tt to) (hq : q < 40) (hc : c < 0) : FH (lgA ρ b c h) (q + 1) tt to := by
  have l0 := lgA_0 (α := ρ) (b := b) (c := c) (h := h)
  have hi : ∀ k, 1 ≤ k → k < 40 → ∀ w, w < 4 → lgA ρ b c h (218 + 4 * k + w) = ρ (218 + 4 * (k - 1) + w) := fun k h1 h2 w hw => lgA_hi hw ⟨h1, h2⟩
  rcases hF with ⟨h1, h2⟩ | ⟨h1, i, h2, h3, h4, h5, h6⟩
  · refine Or.inl ⟨h1, fun k hk => ?_⟩
    by_cases k0 : k = 0
    · subst k0; rw [show 218 + 4 * 0 + 2 = 220 from rfl, l0.2.2.1]; exact hc
    · rw [hi k (by omega) (by omega) 2 (by omega)]; exact h2 _ (by omega)
  · refine Or.inr ⟨h1, i + 1, by omega, by rw [hi (i + 1) (by omega) (by omega) 1 (by omega)]; exact h3, by rw [hi (i + 1) (by omega) (by omega) 2 (by omega)]; exact h4, h5, fun k g1 g2 => ?_⟩
    rw [hi k (by omega) (by omega) 2 (by omega)]
    exact h6 _ (by omega) (by omega)
/-- an entry of a hit -/
theorem FH_lg2 (hF : FH ρ q tt to) (hq : q < 40) (hb : 0 ≤ b) (hc : 0 ≤ c) : FH (lgA ρ b c h) (q + 1) (if tt = -1 then b else tt) (if tt = -1 then c else to) := by
  have l0 := lgA_0 (α := ρ) (b := b) (c := c) (h := h)
  have hi : ∀ k, 1 ≤ k → k < 40 → ∀ w, w < 4 → lgA ρ b c h (218 + 4 * k + w) = ρ (218 + 4 * (k - 1) + w) := fun k h1 h2 w hw => lgA_hi hw ⟨h1, h2⟩
  rcases hF with ⟨h1, h2⟩ | ⟨h1, i, h2, h3, h4, h5, h6⟩
  · rw [if_pos h1, if_pos h1]
    refine Or.inr ⟨hb, 0, by omega, by rw [show 218 + 4 * 0 + 1 = 219 from rfl, l0.2.1], by rw [show 218 + 4 * 0 + 2 = 220 from rfl, l0.2.2.1], hc, fun k g1 g2 => ?_⟩
    rw [hi k (by omega) (by omega) 2 (by omega)]
    exact h2 _ (by omega)
  · rw [if_neg (by omega), if_neg (by omega)]
    refine Or.inr ⟨h1, i + 1, by omega, by rw [hi (i + 1) (by omega) (by omega) 1 (by omega)]; exact h3, by rw [hi (i + 1) (by omega) (by omega) 2 (by omega)]; exact h4, h5, fun k g1 g2 => ?_⟩
    rw [hi k (by omega) (by omega) 2 (by omega)]
    exact h6 _ (by omega) (by omega)
theorem HC_mono {M : Nat} (hH : HC a n j ρ M tt) (e12 : σ 12 = ρ 12) (e5 : ∀ i, i < n → σ (B9 i 5) = ρ (B9 i 5)) : HC a n (j + 1) σ M tt := by
  obtain ⟨h1, h2, h3⟩ := hH
  refine ⟨by rw [e12]; exact h1, by rw [e12]; omega, fun i hi => ?_⟩
  have := h3 i hi
  rw [e5 i hi]
  exact ⟨this.1, by omega⟩
theorem PT_mono (hP : PT a n j x) : PT a n (j + 1) x := by
  obtain ⟨⟨q, h1, h2⟩, h3, h4⟩ := hP
  exact ⟨⟨q, by omega, h2⟩, HC_mono h3 rfl (fun _ _ => rfl), h4⟩
/-- a step that leaves the log, the hits and the names -/
theorem PT_ext (hP : PT a n j x) (e : ∀ k, k = 3 ∨ k = 4 ∨ k = 12 ∨ 218 ≤ k → ρ k = x.1 k) (e5 : ∀ i, i < n → ρ (B9 i 5) = x.1 (B9 i 5) ∧ ρ (B9 i 8) = x.1 (B9 i 8)) : PT a n (j + 1) (ρ, x.2) := by
  obtain ⟨⟨q, h1, h2, h3⟩, h4, h5⟩ := hP
  exact ⟨⟨q, by omega, LG_ext h2 (fun k hk => e k (by omega)), FH_ext h3 (fun k hk => e k (by omega))⟩, HC_mono h4 (e _ (by omega)) (fun i hi => (e5 i hi).1), fun i hi => by show ρ (B9 i 8) = _; rw [(e5 i hi).2]; exact h5 i hi⟩
/-- a bounce -/
theorem PT_bo {st : Int} {i : Nat} (hP : PT a n j x) (hj : j < 40) (hi : i < 10) (hn : n ≤ 10) (hs : -60 ≤ ρ (B9 i 1) ∧ ρ (B9 i 1) ≤ 60) (ht : 0 ≤ st ∧ st ≤ 100) (e : ∀ k, k = 3 ∨ k = 4 ∨ k = 12 ∨ 218 ≤ k → ρ k = x.1 k) (e5 : ∀ i, i < n → ρ (B9 i 5) = x.1 (B9 i 5) ∧ ρ (B9 i 8) = x.1 (B9 i 8)) : PT a n (j + 1) (boA ρ i st, x.2) := by
  have hst := stA_b hs ht
  obtain ⟨⟨q, h1, h2, h3⟩, h4, h5⟩ := hP
  have e' : ∀ k, k = 3 ∨ k = 4 ∨ k = 12 ∨ 218 ≤ k → up1 (up1 (up1 (up1 ρ (B9 i 1) (bsA (ρ (B9 i 1)) st)) (B9 i 6) (ρ (B9 i 6) + 1)) 13 (ρ 13 + 1)) 5 (ρ 5 + ρ (B9 i 2) * (ρ (B9 i 1) - bsA (ρ (B9 i 1)) st)) k = x.1 k := by
    intro k hk
    rw [up1_ne (by omega), up1_ne (by omega), up1_ne (by unfold B9; omega), up1_ne (by unfold B9; omega)]
    exact e k hk
  refine ⟨⟨q + 1, by omega, LG_lg (LG_ext h2 (fun k hk => e' k (by omega))) (by omega) (by omega) (by omega) (by omega), FH_lg1 (FH_ext h3 (fun k hk => e' k (by omega))) (by omega) (by omega)⟩, HC_mono h4 ?_ (fun i' hi' => ?_), fun i' hi' => ?_⟩
  · show boA ρ i st 12 = _
    rw [boA_lo (by unfold B9; omega)]
    exact e _ (by omega)
  · show boA ρ i st (B9 i' 5) = _
    rw [boA_lo (by unfold B9; omega)]
    exact (e5 i' hi').1
  · show boA ρ i st (B9 i' 8) = _
    rw [boA_lo (by unfold B9; omega), (e5 i' hi').2]
    exact h5 i' hi'
/-- a hit -/
theorem PT_hi {l r b c : Nat} (hP : PT a n j x) (hj : j < 40) (hG : GA x.1 n m o) (hl : l < n) (hr : r < n) (hlr : l ≠ r) (hb : b < n) (hc : c < n) (hbc : b ≠ c) : PT a n (j + 1) (hitT x l r b c) := by
  have h10 : n ≤ 10 := hG.1.1
  obtain ⟨⟨q, h1, h2, h3⟩, ⟨h4, h5, h6⟩, h7⟩ := hP
  unfold hitT
  by_cases hs : x.1 (B9 l 1) ≤ x.1 (B9 r 1)
  · rw [if_pos hs]
    refine PT_ext (ρ := wtR x.1 b) ⟨⟨q, h1, h2, h3⟩, ⟨h4, h5, h6⟩, h7⟩ (fun k hk => ?_) (fun i hi => ⟨?_, ?_⟩)
    · unfold wtR; rw [up1_ne (by omega), up1_ne (by unfold B9; omega)]
    · unfold wtR; rw [up1_ne (by unfold B9; omega), up1_ne (by unfold B9; omega)]
    · unfold wtR; rw [up1_ne (by unfold B9; omega), up1_ne (by unfold B9; omega)]
  · rw [if_neg hs]
    have gl := hG.1.2.2.2.2 l hl
    have gr := hG.1.2.2.2.2 r hr
    have hk := kA_b gl.2.1 gr.2.1 (show x.1 (B9 r 1) < x.1 (B9 l 1) by omega) gl.2.2.1 gr.2.2.1
    have es : ∀ k, k = 3 ∨ k = 4 ∨ k = 12 ∨ 218 ≤ k ∨ (∃ i, k = B9 i 5 ∧ i < 10) ∨ (∃ i, k = B9 i 8 ∧ i < 10) → spR x.1 l r k = x.1 k := by
      intro k hk
      unfold spR
      rcases hk with hk | hk | hk | hk | ⟨i, hk, hk2⟩ | ⟨i, hk, hk2⟩
      all_goals rw [up1_ne (by unfold B9 at *; omega), up1_ne (by unfold B9 at *; omega), up1_ne (by unfold B9 at *; omega)]
    have ec : ∀ k, k = 3 ∨ k = 4 ∨ 218 ≤ k → cnR (spR x.1 l r) b c k = x.1 k := by
      intro k hk
      unfold cnR
      rw [up1_ne (by omega), up1_ne (by unfold HH; omega), up1_ne (by unfold HH; omega), up1_ne (by unfold B9; omega), up1_ne (by unfold B9; omega)]
      exact es k (by omega)
    refine ⟨⟨q + 1, by omega, LG_lg (LG_ext h2 ec) (by omega) (by omega) (by omega) hk.1, FH_lg2 (FH_ext h3 (fun k hk => ec k (by omega))) (by omega) (by omega) (by omega)⟩, ⟨?_, ?_, fun i hi => ?_⟩, fun i hi => ?_⟩
    · have e12 : hiR x.1 l r b c 12 = x.1 12 + 1 := by
        unfold hiR
        rw [lgA_lo (by omega)]
        unfold cnR
        rw [up1_eq', es 12 (by omega)]
      show (_ = -1 ∧ hiR x.1 l r b c 12 = a 12 ∨ _ ≠ -1 ∧ a 12 < hiR x.1 l r b c 12)
      rw [e12]
      right
      refine ⟨?_, by rcases h4 with h | h <;> omega⟩
      show (if x.2.2.2.2.1 = -1 then (b : Int) else x.2.2.2.2.1) ≠ -1
      by_cases ht : x.2.2.2.2.1 = -1
      · rw [if_pos ht]; omega
      · rw [if_neg ht]; exact ht
    · have e12 : hiR x.1 l r b c 12 = x.1 12 + 1 := by
        unfold hiR
        rw [lgA_lo (by omega)]
        unfold cnR
        rw [up1_eq', es 12 (by omega)]
      show hiR x.1 l r b c 12 ≤ _
      rw [e12]
      omega
    · have h8 := h6 i hi
      have e5 : hiR x.1 l r b c (B9 i 5) = x.1 (B9 i 5) + (if i = b ∨ i = c then 1 else 0) := by
        unfold hiR
        rw [lgA_lo (by unfold B9; omega)]
        unfold cnR
        rw [up1_ne (by unfold B9; omega), up1_ne (by unfold B9 HH; omega), up1_ne (by unfold B9 HH; omega)]
        by_cases ic : i = c
        · subst ic
          rw [up1_eq', if_pos (Or.inr rfl), es _ (Or.inr (Or.inr (Or.inr (Or.inr (Or.inl ⟨i, rfl, by omega⟩)))))]
        · rw [up1_ne (by unfold B9; omega)]
          by_cases ib : i = b
          · subst ib
            rw [up1_eq', if_pos (Or.inl rfl), es _ (Or.inr (Or.inr (Or.inr (Or.inr (Or.inl ⟨i, rfl, by omega⟩)))))]
          · rw [up1_ne (by unfold B9; omega), if_neg (by omega), es _ (Or.inr (Or.inr (Or.inr (Or.inr (Or.inl ⟨i, rfl, by omega⟩)))))]
            omega
      show ((x.2.2.2.1 ||| 2 ^ b ||| 2 ^ c).testBit i = false ∧ hiR x.1 l r b c (B9 i 5) = _ ∨ (x.2.2.2.1 ||| 2 ^ b ||| 2 ^ c).testBit i = true ∧ _ < hiR x.1 l r b c (B9 i 5)) ∧ hiR x.1 l r b c (B9 i 5) ≤ _
      rw [e5, or_t, or_t]
      by_cases ibc : i = b ∨ i = c
      · rw [if_pos ibc]
        refine ⟨Or.inr ⟨?_, by rcases h8.1 with h | h <;> omega⟩, by omega⟩
        rcases ibc with rfl | rfl <;> simp
      · rw [if_neg ibc]
        have n1 : ¬ (b = i) := by omega
        have n2 : ¬ (c = i) := by omega
        simp only [n1, n2, decide_false, Bool.or_false, Int.add_zero]
        exact ⟨h8.1, by omega⟩
    · show hiR x.1 l r b c (B9 i 8) = _
      unfold hiR
      rw [lgA_lo (by unfold B9; omega)]
      unfold cnR
      rw [up1_ne (by unfold B9; omega), up1_ne (by unfold B9 HH; omega), up1_ne (by unfold B9 HH; omega), up1_ne (by unfold B9; omega), up1_ne (by unfold B9; omega), es _ (Or.inr (Or.inr (Or.inr (Or.inr (Or.inr ⟨i, rfl, by omega⟩)))))]
      exact h7 i hi
theorem PT_tt {i : Nat} {s : Int} (hP : PT a n j x) (hj : j < 40) (hX : XG x n m o) (hi : i < n) (hs : s = 1 ∨ s = -1) : PT a n (j + 1) (ttT n m x i s) := by
  have hG := hX.1
  have h10 : n ≤ 10 := hG.1.1
  have m4 : m ≤ 4 := hG.2.1.1
  have gi := hG.1.2.2.2.2 i hi
  unfold ttT
  by_cases c1 : x.2.2.2.1.testBit i = true
  · rw [if_pos c1]; exact PT_mono hP
  · rw [if_neg c1]
    by_cases c2 : isF x.1 n m (x.1 (B9 i 0) + s)
    · rw [if_pos c2]
      refine PT_ext hP (fun k hk => ?_) (fun i' hi' => ⟨?_, ?_⟩)
      · unfold mvR; rw [up1_ne (by omega), up1_ne (by unfold B9; omega), up1_ne (by unfold B9; omega)]
      · unfold mvR; rw [up1_ne (by unfold B9; omega), up1_ne (by unfold B9; omega), up1_ne (by unfold B9; omega)]
      · unfold mvR; rw [up1_ne (by unfold B9; omega), up1_ne (by unfold B9; omega), up1_ne (by unfold B9; omega)]
    · rw [if_neg c2]
      by_cases c3 : isC x.1 (x.1 (B9 i 0) + s) ∧ bAt x.1 n (x.1 (B9 i 0) + s) ≠ -1
      · rw [if_pos c3]
        obtain ⟨k, e1, e2, e3⟩ := bAt_some c3.2
        rw [e1, Int.toNat_natCast]
        have hik : i ≠ k := fun e => by
          subst e
          rcases hs with rfl | rfl <;> omega
        by_cases c4 : s = 1
        · rw [if_pos c4]; exact PT_hi hP hj hG hi e2 hik hi e2 hik
        · rw [if_neg c4]; exact PT_hi hP hj hG e2 hi (fun e => hik e.symm) hi e2 hik
      · rw [if_neg c3]
        unfold btA
        by_cases c4 : pAt x.1 m (x.1 (B9 i 0) + s) = -1
        · rw [if_pos c4]
          by_cases c5 : x.1 (B9 i 0) + s < 0
          · rw [if_pos c5]
            exact PT_bo hP hj (by omega) h10 (by rw [up1_ne (by unfold B9; omega)]; exact gi.2.1) hG.2.2.1.1 (fun k hk => by rw [up1_ne (by omega)]) (fun i' hi' => ⟨by rw [up1_ne (by unfold B9; omega)], by rw [up1_ne (by unfold B9; omega)]⟩)
          · rw [if_neg c5]
            exact PT_bo hP hj (by omega) h10 (by rw [up1_ne (by unfold B9; omega)]; exact gi.2.1) hG.2.2.1.2.1 (fun k hk => by rw [up1_ne (by omega)]) (fun i' hi' => ⟨by rw [up1_ne (by unfold B9; omega)], by rw [up1_ne (by unfold B9; omega)]⟩)
        · rw [if_neg c4]
          have hp := pFind_spec (f := fun p => x.1 (P3 p 0)) (c := x.1 (B9 i 0) + s) m 0
          obtain ⟨p, e1, e2⟩ : ∃ p : Nat, pAt x.1 m (x.1 (B9 i 0) + s) = (p : Int) ∧ p < m := by
            rcases hp with ⟨h, _⟩ | ⟨p, h1, _, h2, _⟩
            · exact absurd h c4
            · exact ⟨p, h1, by omega⟩
          rw [e1, Int.toNat_natCast]
          exact PT_bo hP hj (by omega) h10 (by rw [up1_ne (by unfold B9 P3; omega)]; exact gi.2.1) (hG.2.1.2.2 p e2).2 (fun k hk => by rw [up1_ne (by unfold P3; omega)]) (fun i' hi' => ⟨by rw [up1_ne (by unfold B9 P3; omega)], by rw [up1_ne (by unfold B9 P3; omega)]⟩)
theorem PT_L {X : Nat} : ∀ (r P j : Nat) (x : Tn), P + r = n → j + r ≤ 40 → XG x n m o → PT a n j x → PT a n (j + r) (tnL n m o X r P x)
  | 0, _, _, _, _, _, _, hP => hP
  | r + 1, P, j, x, hr, hj, hX, hP => by
    have hoP := hX.1.2.2.2.1 P (by omega)
    have e : j + (r + 1) = (j + 1) + r := by omega
    rw [e]
    refine PT_L r (P + 1) (j + 1) _ (by omega) (by omega) ?_ ?_
    · split
      · exact ttT_G hX hoP (Or.inr rfl)
      · exact hX
    · split
      · exact PT_tt hP (by omega) hX hoP (Or.inr rfl)
      · exact PT_mono hP
theorem PT_R {X : Nat} : ∀ (r j : Nat) (x : Tn), r ≤ n → j + r ≤ 40 → XG x n m o → PT a n j x → PT a n (j + r) (tnR n m o X r x)
  | 0, _, _, _, _, _, hP => hP
  | r + 1, j, x, hr, hj, hX, hP => by
    have hoP := hX.1.2.2.2.1 r (by omega)
    have e : j + (r + 1) = (j + 1) + r := by omega
    rw [e]
    refine PT_R r (j + 1) _ (by omega) (by omega) ?_ ?_
    · split
      · exact ttT_G hX hoP (Or.inl rfl)
      · exact hX
    · split
      · exact PT_tt hP (by omega) hX hoP (Or.inl rfl)
      · exact PT_mono hP
/-- a pulse, whole -/
theorem PT_u {u : Un} (hG : GA u.1 n m o) : PT u.1 n 20 (tuT n m o u.1 u.2.1 u.2.2.1) := by
  have h10 : n ≤ 10 := hG.1.1
  have g := tu_G (u := u) hG
  have h1 : XG (svA u.1 n, u.2.1, u.2.2.1, 0, -1, -1) n m o := ⟨svA_G hG n (Nat.le_refl n), by show 0 < 1024; omega, by show -1 ≤ (-1 : Int) ∧ (-1 : Int) < 10; omega⟩
  have sv : ∀ k, (∀ q, q < n → k ≠ B9 q 3) → svA u.1 n k = u.1 k := fun k hk => svA_ne n hk
  have h0 : PT u.1 n 0 (svA u.1 n, u.2.1, u.2.2.1, 0, -1, -1) := by
    refine ⟨⟨0, Nat.le_refl 0, ⟨sv 3 (fun q hq => by unfold B9; omega), ?_, hG.2.2.1.2.2, fun k hk => ⟨fun h => absurd h (by omega), fun _ c hc => ?_⟩⟩, Or.inl ⟨rfl, fun k hk => by omega⟩⟩, ⟨Or.inl ⟨rfl, sv 12 (fun q hq => by unfold B9; omega)⟩, ?_, fun i hi => ⟨Or.inl ⟨Nat.zero_testBit i, sv _ (fun q hq => by unfold B9; omega)⟩, ?_⟩⟩, fun i hi => sv _ (fun q hq => by unfold B9; omega)⟩
    · show svA u.1 n 4 = _
      rw [sv 4 (fun q hq => by unfold B9; omega)]
      have := hG.2.2.1.2.2
      split <;> omega
    · show svA u.1 n _ = _
      rw [sv _ (fun q hq => by unfold B9; omega), Nat.sub_zero]
    · show svA u.1 n 12 ≤ _
      rw [sv 12 (fun q hq => by unfold B9; omega)]
      omega
    · show svA u.1 n (B9 i 5) ≤ _
      rw [sv _ (fun q hq => by unfold B9; omega)]
      omega
  have h2 := PT_L (X := dlA u.1 n) n 0 0 _ (by omega) (by omega) h1 h0
  have h3 := PT_R (X := dqA u.1 n) n (0 + n) _ (Nat.le_refl n) (by omega) g.1 h2
  have h3 : PT u.1 n (0 + n + n) (tuT n m o u.1 u.2.1 u.2.2.1) := h3
  obtain ⟨⟨q, q1, q2⟩, ⟨q3, q4, q5⟩, q6⟩ := h3
  exact ⟨⟨q, by omega, q2⟩, ⟨q3, by omega, fun i hi => ⟨(q5 i hi).1, by have := (q5 i hi).2; omega⟩⟩, q6⟩
theorem puU_ne {u : Un} {k : Nat} (hk : k ≠ 3) : (puU n m o u).1 k = (tuT n m o u.1 u.2.1 u.2.2.1).1 k := up1_ne hk
theorem puU_3 {u : Un} (hG : GA u.1 n m o) : (puU n m o u).1 3 = u.1 3 + 1 := by
  obtain ⟨⟨q, -, q2, -⟩, -⟩ := PT_u hG
  show up1 (tuT n m o u.1 u.2.1 u.2.2.1).1 3 ((tuT n m o u.1 u.2.1 u.2.2.1).1 3 + 1) 3 = _
  rw [up1_eq', q2.1]
/-- the log behind a pulse -/
theorem puU_LX {u : Un} (hG : GA u.1 n m o) (h3 : 0 ≤ u.1 3) (hX : LX u.1) : LX (puU n m o u).1 := by
  obtain ⟨⟨q, q1, ⟨l1, l2, l3, l4⟩, -⟩, -⟩ := PT_u hG
  intro k hk h4
  rw [puU_ne (by omega), l2] at h4
  rw [puU_3 hG, puU_ne (by omega), puU_ne (by omega), puU_ne (by omega), puU_ne (by omega)]
  by_cases hq : k < q
  · have := (l4 k hk).1 hq
    unfold NE at this
    omega
  · have e := (l4 k hk).2 (by omega)
    have e0 := e 0 (by omega)
    have e1 := e 1 (by omega)
    have e2 := e 2 (by omega)
    have e3 := e 3 (by omega)
    have := hX (k - q) (by omega) (by split at h4 <;> omega)
    rw [Nat.add_zero, Nat.add_zero] at e0
    rw [e0, e1, e2, e3]
    omega
theorem puU_EX {u : Un} (hG : GA u.1 n m o) {T : Int} (h3 : 0 ≤ u.1 3 ∧ u.1 3 ≤ T) (hX : LX u.1) (hN : ∀ i, i < n → 0 ≤ u.1 (B9 i 8) ∧ u.1 (B9 i 8) < 2147483648) : (0 ≤ (puU n m o u).1 3 ∧ (puU n m o u).1 3 ≤ T + 1) ∧ LX (puU n m o u).1 ∧ ∀ i, i < n → 0 ≤ (puU n m o u).1 (B9 i 8) ∧ (puU n m o u).1 (B9 i 8) < 2147483648 := by
  have e3 := puU_3 hG
  refine ⟨by omega, puU_LX hG h3.1 hX, fun i hi => ?_⟩
  obtain ⟨-, -, q3⟩ := PT_u hG
  rw [puU_ne (by unfold B9; omega), q3 i hi]
  exact hN i hi
theorem uK_EX : ∀ (k : Nat) (u : Un) (T : Int), GA u.1 n m o → (0 ≤ u.1 3 ∧ u.1 3 ≤ T) → LX u.1 → (∀ i, i < n → 0 ≤ u.1 (B9 i 8) ∧ u.1 (B9 i 8) < 2147483648) → (0 ≤ (uK n m o k u).1 3 ∧ (uK n m o k u).1 3 ≤ T + k) ∧ LX (uK n m o k u).1 ∧ ∀ i, i < n → 0 ≤ (uK n m o k u).1 (B9 i 8) ∧ (uK n m o k u).1 (B9 i 8) < 2147483648
  | 0, u, T, _, h3, hX, hN => ⟨by show 0 ≤ u.1 3 ∧ u.1 3 ≤ T + ((0 : Nat) : Int); omega, hX, hN⟩
  | k + 1, u, T, hG, h3, hX, hN => by
    have h := puU_EX hG h3 hX hN
    have := uK_EX k (puU n m o u) (T + 1) (puU_G hG) h.1 h.2.1 h.2.2
    refine ⟨⟨this.1.1, ?_⟩, this.2⟩
    have h1 := this.1.2
    show (uK n m o k (puU n m o u)).1 3 ≤ T + ((k + 1 : Nat) : Int)
    omega
end S64
