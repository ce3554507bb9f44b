/-! THE LAW BUILDS ITS TEXT: what holds between two appends -/
def LD (Ib : Nat → Nat → Int32) (s : Nat) (N : NX) (w : WX) (I : Nat → Nat → Int32) (B v cap : Nat) (T : List Int) (q ℓ : Nat) : Prop :=
  SB N w I B v cap T ∧ ZA N w I ∧ (∀ a, a < 294 → I a = Ib a) ∧ N.1 = s ∧ N.2.1 ≤ 294 + q ∧ N.2.2.1 ≤ 5059 + 1000 * q ∧ T.length ≤ ℓ
/-- the cells that are taken -/
def TK (N : NX) (I : Nat → Nat → Int32) (B v tk x : Nat) (τ : Nat → Bool) : Prop :=
  KH N tk = (14, x) ∧ (294 ≤ tk ∧ tk < N.2.1) ∧ tk ≠ B ∧ tk ≠ v ∧ ∀ c, c < x → I tk c = Int32.ofInt (if τ c = true then 1 else 0)
set_option maxRecDepth 20000 in
theorem ar_s {a b q : Nat} (h : a ≤ b + 700) (g : b ≤ 5059 + 1000 * q) : a ≤ 5059 + 1000 * (q + 1) := by omega
theorem LD_go {Ib : Nat → Nat → Int32} {s : Nat} {N N' : NX} {w w' : WX} {I I' : Nat → Nat → Int32} {B v v' cap cap' q ℓ e : Nat} {T T' : List Int} (h : LD Ib s N w I B v cap T q ℓ) (hS : SB N' w' I' B v' cap' T') (g : GO B v 1 700 N w I N' w' I' v') (hl : T'.length ≤ ℓ + e) : LD Ib s N' w' I' B v' cap' T' (q + 1) (ℓ + e) := by
  obtain ⟨h1, h2, h3, h4, h5, h6, h7⟩ := h
  obtain ⟨a1, a2, a3, a4, a5, a6, a7, a8⟩ := g
  have hB := h1.2.2.1
  have hv := h1.2.2.2.1
  refine ⟨hS, a8, fun a ha => ?_, a1.trans h4, ?_, ?_, hl⟩
  · exact (a6 a (by omega) (by omega) (by omega)).1.trans (h3 a ha)
  · clear h1 h2 h3 hS a5 a6 a8 hB hv h7 hl a7
    omega
  · exact ar_s a4 h6
theorem TK_go {N N' : NX} {w w' : WX} {I I' : Nat → Nat → Int32} {B v v' tk x : Nat} {τ : Nat → Bool} (h : TK N I B v tk x τ) (g : GO B v 1 700 N w I N' w' I' v') : TK N' I' B v' tk x τ := by
  obtain ⟨h1, h2, h3, h4, h5⟩ := h
  obtain ⟨a1, a2, a3, a4, a5, a6, a7, a8⟩ := g
  exact ⟨(a5 _ h2.2).trans h1, ⟨h2.1, by omega⟩, h3, by omega, fun c hc => by rw [(a6 _ h2.2 h3 h4).1]; exact h5 c hc⟩
/-- with the taken cells, or before there are any (x = 0, tk = 0 is no array) -/
def LT (Ib : Nat → Nat → Int32) (s : Nat) (N : NX) (w : WX) (I : Nat → Nat → Int32) (B v cap : Nat) (T : List Int) (q ℓ tk x : Nat) (τ : Nat → Bool) : Prop := LD Ib s N w I B v cap T q ℓ ∧ (x = 0 ∨ TK N I B v tk x τ)
theorem LT_go {Ib : Nat → Nat → Int32} {s : Nat} {N N' : NX} {w w' : WX} {I I' : Nat → Nat → Int32} {B v v' cap cap' q ℓ e tk x : Nat} {τ : Nat → Bool} {T T' : List Int} (h : LT Ib s N w I B v cap T q ℓ tk x τ) (hS : SB N' w' I' B v' cap' T') (g : GO B v 1 700 N w I N' w' I' v') (hl : T'.length ≤ ℓ + e) : LT Ib s N' w' I' B v' cap' T' (q + 1) (ℓ + e) tk x τ :=
  ⟨LD_go h.1 hS g hl, h.2.imp id (fun h => TK_go h g)⟩
section SA5
variable {N : NX} {w : WX} {d t s B v cap q ℓ tk x : Nat} {τ : Nat → Bool} {T : List Int} {Ib I : Nat → Nat → Int32} {L : Nat → Nat → Int64} {D : Nat → Nat → UInt64} {Q : Rs → St → Prop} {xs : Nat → Int32}
theorem l162 {i e : Nat} (h : LT Ib s N w I B v cap T q ℓ tk x τ) (hi : i < 9) (he : (kT i).length = e) (hl : ℓ + e ≤ 300) (hq : q ≤ 1000) (K : ∀ N' w' I' v' cap', LT Ib s N' w' I' B v' cap' (T ++ kT i) (q + 1) (ℓ + e) tk x τ → Q (.inl (some (.ref B))) (mk N' t w' I' L D)) : Wp (d + 4) 162 0 [some (.ref B), some (.retAddr (i + 1))] [] (mk N t w I L D) Q :=
  c162 h.1.1 h.1.2.1 hi (by have := h.1.2.2.2.2.2.2; omega) (by have := h.1.2.2.2.2.1; omega) fun N' w' I' v' cap' hS hG => K _ _ _ _ _ (LT_go h hS hG (by have := h.1.2.2.2.2.2.2; rw [List.length_append]; omega))
theorem l161 {n : Int} (h : LT Ib s N w I B v cap T q ℓ tk x τ) (hn : -99 ≤ n ∧ n ≤ 199) (hl : ℓ + 3 ≤ 300) (hq : q ≤ 1000) (K : ∀ N' w' I' v' cap', LT Ib s N' w' I' B v' cap' (T ++ dec n) (q + 1) (ℓ + 3) tk x τ → Q (.inl (some (.ref B))) (mk N' t w' I' L D)) : Wp (d + 4) 161 0 [some (.ref B), some (.int (Int32.ofInt n))] [] (mk N t w I L D) Q :=
  c161 h.1.1 h.1.2.1 hn (by have := h.1.2.2.2.2.2.2; omega) (by have := h.1.2.2.2.2.1; omega) fun N' w' I' v' cap' hS hG => K _ _ _ _ _ (LT_go h hS hG (by have := h.1.2.2.2.2.2.2; have := dl_le (n := n); rw [List.length_append, dec_l hn]; omega))
theorem l160 {z : Int} (h : LT Ib s N w I B v cap T q ℓ tk x τ) (hn : 0 ≤ z ∧ z < 128) (hl : ℓ + 1 ≤ 300) (hq : q ≤ 1000) (K : ∀ N' w' I' v' cap', LT Ib s N' w' I' B v' cap' (T ++ [z]) (q + 1) (ℓ + 1) tk x τ → Q (.inl (some (.ref B))) (mk N' t w' I' L D)) : Wp (d + 4) 160 0 [some (.ref B), some (.int (Int32.ofInt z))] [] (mk N t w I L D) Q :=
  c160 h.1.1 h.1.2.1 hn (by have := h.1.2.2.2.2.2.2; omega) (by have := h.1.2.2.2.2.1; omega) fun N' w' I' v' cap' hS hG => K _ _ _ _ _ (LT_go h hS hG (by have := h.1.2.2.2.2.2.2; rw [List.length_append, List.length_singleton]; omega))
theorem c147' {κ ν : Nat} {k n : Int} (ek : k = (κ : Int)) (en : n = (ν : Int)) (hx : I 0 = xs) (hL : N.1 ≤ 260) (hk : κ ≤ 1000) (hn : 0 < ν ∧ ν ≤ 1000000) : Wp d 147 0 [some (.ref 0), some (.int (Int32.ofInt k)), some (.int (Int32.ofInt n))] [] (mk N t w I L D) Q = Q (.inl (some (.int (Int32.ofInt (dr N.1 xs κ ν : Int))))) (mk N t w I L D) := by
  subst ek en
  exact c147 hx hL hk hn
/-- draws while the text is built -/
theorem l147 {κ ν : Nat} {k n : Int} (h : LT Ib s N w I B v cap T q ℓ tk x τ) (hx : Ib 0 = xs) (hs : s ≤ 260) (ek : k = (κ : Int)) (en : n = (ν : Int)) (hk : κ ≤ 1000) (hn : 0 < ν ∧ ν ≤ 1000000) : Wp d 147 0 [some (.ref 0), some (.int (Int32.ofInt k)), some (.int (Int32.ofInt n))] [] (mk N t w I L D) Q = Q (.inl (some (.int (Int32.ofInt (dr s xs κ ν : Int))))) (mk N t w I L D) := by
  have := c147' (d := d) (N := N) (t := t) (w := w) (L := L) (D := D) (Q := Q) ek en ((h.1.2.2.1 0 (by omega)).trans hx) (by have := h.1.2.2.2.1; omega) hk hn
  rw [h.1.2.2.2.1] at this
  exact this
/-- cells that posts and balls do not lie on -/
def REL (A : LN3) (x : Nat) (τ : Nat → Bool) : Prop := A.1 0 = (x : Int) ∧ (∀ c : Nat, c < x → τ c = false → (∀ j, j < A.2.1 → A.1 (B9 j 0) ≠ (c : Int)) ∧ ∀ j, j < A.2.2 → A.1 (P3 j 0) ≠ (c : Int)) ∧ ∀ i, i < A.2.1 → A.1 (B9 i 8) = 55 + (i : Int)
theorem pF_no {f : Nat → Int} {c : Int} {n : Nat} (h : ∀ j, j < n → f j ≠ c) : pFind f c n 0 = -1 := by
  rcases pFind_spec (f := f) (c := c) n 0 with h1 | ⟨j, -, -, h3, h4, -⟩
  · exact h1.1
  · exact absurd h4 (h j (by omega))
theorem REL_F {A : LN3} {c : Nat} (h : REL A x τ) (hc : c < x) (hx : x ≤ 200) (ht : τ c = false) : isF A.1 A.2.1 A.2.2 (c : Int) ∧ (0 ≤ (c : Int) ∧ (c : Int) ≤ A.1 0 - 1 ∧ A.1 0 ≤ 200) := by
  obtain ⟨h1, h2, h3⟩ := h
  obtain ⟨g1, g2⟩ := h2 c hc ht
  refine ⟨⟨?_, pF_no g1, pF_no g2⟩, by omega, by omega, by omega⟩
  unfold isC
  omega
theorem REL_nm {A : LN3} (h : REL A x τ) : nmF A.1 A.2.1 (55 + (A.2.1 : Int)) = -1 := by
  unfold nmF
  rw [if_neg (by omega)]
  exact pF_no fun j hj => by rw [h.2.2 j hj]; omega
theorem REL_post {A : LN3} {c : Nat} {y : Int} (h : REL A x τ) (hm : A.2.2 < 4) (hn : A.2.1 ≤ 10) : REL (eff A (.inl ((c : Int), y))) x (fun z => if z = c then true else τ z) := by
  obtain ⟨h1, h2, h3⟩ := h
  refine ⟨?_, fun z hz ht => ?_, fun i hi => ?_⟩
  · show poA A.1 A.2.2 c y 0 = _
    rw [poA_ne (by unfold P3; omega)]
    exact h1
  · have ht : (if z = c then true else τ z) = false := ht
    have hzc : ¬ (z = c) := fun e => by rw [if_pos e] at ht; cases ht
    rw [if_neg hzc] at ht
    obtain ⟨g1, g2⟩ := h2 z hz ht
    refine ⟨fun j hj => ?_, fun j hj => ?_⟩
    · show poA A.1 A.2.2 c y (B9 j 0) ≠ _
      have hj : j < A.2.1 := hj
      rw [poA_ne (by unfold P3 B9; omega)]
      exact g1 j hj
    · show poA A.1 A.2.2 c y (P3 j 0) ≠ _
      have hj : j < A.2.2 + 1 := hj
      by_cases e : j = A.2.2
      · rw [e, poA_0]
        omega
      · rw [poA_ne (by unfold P3; omega)]
        exact g2 j (by omega)
  · show poA A.1 A.2.2 c y (B9 i 8) = _
    have hi : i < A.2.1 := hi
    rw [poA_ne (by unfold P3 B9; omega)]
    exact h3 i hi
theorem REL_ball {A : LN3} {c : Nat} {y g : Int} (h : REL A x τ) (hm : A.2.2 ≤ 4) (hn : A.2.1 < 10) : REL (eff A (.inr ((c : Int), y, g))) x (fun z => if z = c then true else τ z) := by
  obtain ⟨h1, h2, h3⟩ := h
  refine ⟨?_, fun z hz ht => ?_, fun i hi => ?_⟩
  · show bdA A.1 A.2.1 c y g (55 + (A.2.1 : Int)) 0 = _
    rw [bdA_ne (by omega)]
    exact h1
  · have ht : (if z = c then true else τ z) = false := ht
    have hzc : ¬ (z = c) := fun e => by rw [if_pos e] at ht; cases ht
    rw [if_neg hzc] at ht
    obtain ⟨g1, g2⟩ := h2 z hz ht
    refine ⟨fun j hj => ?_, fun j hj => ?_⟩
    · show bdA A.1 A.2.1 c y g (55 + (A.2.1 : Int)) (B9 j 0) ≠ _
      have hj : j < A.2.1 + 1 := hj
      by_cases e : j = A.2.1
      · rw [e, bdA_at (by omega), if_pos rfl]
        omega
      · rw [bdA_ne (by unfold B9; omega)]
        exact g1 j (by omega)
    · show bdA A.1 A.2.1 c y g (55 + (A.2.1 : Int)) (P3 j 0) ≠ _
      have hj : j < A.2.2 := hj
      rw [bdA_ne (by unfold P3; omega)]
      exact g2 j hj
  · show bdA A.1 A.2.1 c y g (55 + (A.2.1 : Int)) (B9 i 8) = _
    have hi : i < A.2.1 + 1 := hi
    by_cases e : i = A.2.1
    · rw [e, bdA_at (by omega), if_neg (by omega), if_neg (by omega), if_neg (by omega), if_pos rfl]
    · rw [bdA_ne (by unfold B9; omega)]
      exact h3 i (by omega)
end SA5
