/-! THE INVARIANT behind each call of the law -/
section S57
variable {ℓ ℓ' : Nat → Nat → Int32} {μ μ' : Nat → Nat → Int64} {α : Nat → Int} {n m : Nat} {o : Nat → Nat}
theorem mo_lt {k : Nat} (h : kd n m k) : mo k < 27 := by
  have := mo_rng h
  omega
/-- the relation speaks of the line's own objects alone -/
theorem RL_ext (h : RL ℓ μ α n m o) (h1 : ∀ a, a < 27 → ∀ k, ℓ' a k = ℓ a k) (h2 : ∀ a, a < 27 → ∀ k, μ' a k = μ a k) : RL ℓ' μ' α n m o := by
  obtain ⟨g1, ⟨g2, g3⟩, ⟨g4, g5, g6⟩, g7, nx, g8, g9, g10, g11⟩ := h
  refine ⟨fun k hk => by rw [h1 _ (mo_lt hk)]; exact g1 k hk, ⟨by rw [h1 _ (by omega)]; exact g2, by rw [h1 _ (by omega)]; exact g3⟩, ⟨by rw [h2 _ (by omega)]; exact g4, by rw [h2 _ (by omega)]; exact g5, by rw [h2 _ (by omega)]; exact g6⟩, fun p hp => by rw [h1 _ (by omega)]; exact g7 p hp, nx, g8, by rw [h1 _ (by omega)]; exact g9, by rw [h1 _ (by omega)]; exact g10, fun k hk1 hk2 c hc => by rw [h1 _ (by omega)]; exact g11 k hk1 hk2 c hc⟩
/-- what else holds of a row: its time behind c calls, its log, its names -/
def EX (c : Nat) (α : Nat → Int) (n : Nat) : Prop := (0 ≤ α 3 ∧ α 3 ≤ 3000 * (c : Int)) ∧ LX α ∧ ∀ i, i < n → 0 ≤ α (B9 i 8) ∧ α (B9 i 8) < 2147483648
theorem EX_le {c c' : Nat} (h : EX c α n) (hc : c ≤ c') : EX c' α n := ⟨⟨h.1.1, by have := h.1.2; omega⟩, h.2⟩
end S57
/-- a line in memory -/
def LN (b : Nat) (I : Nat → Nat → Int32) (L : Nat → Nat → Int64) (c : Nat) (α : Nat → Int) (n m : Nat) (o : Nat → Nat) : Prop := RL (gl b I) (gl b L) α n m o ∧ GA α n m o ∧ EX c α n
theorem LN_ext {b c c' : Nat} {I I' : Nat → Nat → Int32} {L L' : Nat → Nat → Int64} {α : Nat → Int} {n m : Nat} {o : Nat → Nat} (h : LN b I L c α n m o) (hc : c ≤ c') (h1 : ∀ a, b ≤ a → a < b + 27 → ∀ k, I' a k = I a k) (h2 : ∀ a, b ≤ a → a < b + 27 → ∀ k, L' a k = L a k) : LN b I' L' c' α n m o :=
  ⟨RL_ext h.1 (fun a ha k => h1 (b + a) (by omega) (by omega) k) (fun a ha k => h2 (b + a) (by omega) (by omega) k), h.2.1, EX_le h.2.2 hc⟩
/-- the input buffers -/
def IN (I : Nat → Nat → Int32) : Prop := ∃ k : Nat, k ≤ 400 ∧ I 15 1 = Int32.ofInt (k : Int) ∧ I 294 13 = Int32.ofInt (k : Int) ∧ ∀ j, j < k → ∃ z : Int, -128 ≤ z ∧ z < 128 ∧ I 16 j = Int32.ofInt z ∧ I 298 j = Int32.ofInt z
/-- the output buffers -/
def OU (I : Nat → Nat → Int32) : Prop := ∃ k : Nat, k ≤ 256 ∧ I 17 1 = Int32.ofInt (k : Int) ∧ I 294 26 = Int32.ofInt (k : Int) ∧ ∀ j, j < k → I 18 j = I 302 j
/-- the line and the reference's row -/
def NW (c : Nat) (I : Nat → Nat → Int32) (L : Nat → Nat → Int64) : Prop := ∃ α n m o, LN 19 I L c α n m o ∧ L 295 = r64 α
/-- a slot -/
def KE (c : Nat) (I : Nat → Nat → Int32) (L : Nat → Nat → Int64) (s : Nat) : Prop := (I 239 s = Int32.ofInt 0 ∧ I 300 s = Int32.ofInt 0) ∨ (I 239 s = Int32.ofInt 1 ∧ I 300 s = Int32.ofInt 1 ∧ ∃ α n m o, LN (240 + 27 * s) I L c α n m o ∧ ∀ k, k < 378 → L 299 (378 * s + k) = Int64.ofInt (α k))
/-- what can be undone -/
def HI (c : Nat) (I : Nat → Nat → Int32) (L : Nat → Nat → Int64) : Prop := ∃ f r : Nat, f < 6 ∧ r ≤ 6 ∧ I 74 1 = Int32.ofInt (f : Int) ∧ I 74 2 = Int32.ofInt (r : Int) ∧ I 294 24 = Int32.ofInt (r : Int) ∧ ∀ i, i < r → ∃ α n m o, LN (76 + 27 * ((f + i) % 6)) I L c α n m o ∧ ∀ k, k < 378 → L 301 (378 * i + k) = Int64.ofInt (α k)
def Inv (xs : Nat → Int32) (c t : Nat) (I : Nat → Nat → Int32) (L : Nat → Nat → Int64) : Prop :=
  ((∀ j, I 0 j = xs j) ∧ t ≤ c ∧ ∀ a, 8 ≤ a → a < 15 → ∀ j, I a j = (sby.getD (a - 8) []).getD j 0) ∧ IN I ∧ (I 15 3 = I 294 19 ∧ I 15 4 = I 294 20) ∧ OU I ∧ NW c I L ∧ (KE c I L 0 ∧ KE c I L 1) ∧ HI c I L
section S57b
variable {xs : Nat → Int32} {c c' t t' s : Nat} {I I' : Nat → Nat → Int32} {L L' : Nat → Nat → Int64}
theorem IN_ext (h : IN I) (h1 : ∀ k, I' 15 k = I 15 k) (h2 : I' 294 13 = I 294 13) (h3 : ∀ k, I' 16 k = I 16 k) (h4 : ∀ k, I' 298 k = I 298 k) : IN I' := by
  obtain ⟨k, g1, g2, g3, g4⟩ := h
  exact ⟨k, g1, by rw [h1]; exact g2, by rw [h2]; exact g3, fun j hj => by rw [h3, h4]; exact g4 j hj⟩
theorem OU_ext (h : OU I) (h1 : ∀ k, I' 17 k = I 17 k) (h2 : I' 294 26 = I 294 26) (h3 : ∀ k, I' 18 k = I 18 k) (h4 : ∀ k, I' 302 k = I 302 k) : OU I' := by
  obtain ⟨k, g1, g2, g3, g4⟩ := h
  exact ⟨k, g1, by rw [h1]; exact g2, by rw [h2]; exact g3, fun j hj => by rw [h3, h4]; exact g4 j hj⟩
theorem NW_ext (h : NW c I L) (hc : c ≤ c') (h1 : ∀ a, 19 ≤ a → a < 46 → ∀ k, I' a k = I a k) (h2 : ∀ a, 19 ≤ a → a < 46 → ∀ k, L' a k = L a k) (h3 : L' 295 = L 295) : NW c' I' L' := by
  obtain ⟨α, n, m, o, g1, g2⟩ := h
  exact ⟨α, n, m, o, LN_ext g1 hc (fun a ha hb k => h1 a ha (by omega) k) (fun a ha hb k => h2 a ha (by omega) k), by rw [h3]; exact g2⟩
theorem KE_ext (h : KE c I L s) (hc : c ≤ c') (h0 : ∀ k, I' 239 k = I 239 k) (h4 : ∀ k, I' 300 k = I 300 k) (h1 : ∀ a, 240 + 27 * s ≤ a → a < 267 + 27 * s → ∀ k, I' a k = I a k) (h2 : ∀ a, 240 + 27 * s ≤ a → a < 267 + 27 * s → ∀ k, L' a k = L a k) (h3 : ∀ k, L' 299 (378 * s + k) = L 299 (378 * s + k) ∨ 378 ≤ k) : KE c' I' L' s := by
  rcases h with ⟨g1, g2⟩ | ⟨g1, g2, α, n, m, o, g3, g4⟩
  · exact Or.inl ⟨by rw [h0]; exact g1, by rw [h4]; exact g2⟩
  · refine Or.inr ⟨by rw [h0]; exact g1, by rw [h4]; exact g2, α, n, m, o, LN_ext g3 hc (fun a ha hb k => h1 a ha (by omega) k) (fun a ha hb k => h2 a ha (by omega) k), fun k hk => ?_⟩
    rcases h3 k with h | h
    · rw [h]; exact g4 k hk
    · omega
theorem HI_ext (h : HI c I L) (hc : c ≤ c') (h0 : ∀ k, I' 74 k = I 74 k) (h4 : I' 294 24 = I 294 24) (h1 : ∀ a, 76 ≤ a → a < 238 → ∀ k, I' a k = I a k) (h2 : ∀ a, 76 ≤ a → a < 238 → ∀ k, L' a k = L a k) (h3 : ∀ k, L' 301 k = L 301 k) : HI c' I' L' := by
  obtain ⟨f, r, g1, g2, g3, g4, g5, g6⟩ := h
  refine ⟨f, r, g1, g2, by rw [h0]; exact g3, by rw [h0]; exact g4, by rw [h4]; exact g5, fun i hi => ?_⟩
  obtain ⟨α, n, m, o, g7, g8⟩ := g6 i hi
  have hm : (f + i) % 6 < 6 := Nat.mod_lt _ (by omega)
  exact ⟨α, n, m, o, LN_ext g7 hc (fun a ha hb k => h1 a (by omega) (by omega) k) (fun a ha hb k => h2 a (by omega) (by omega) k), fun k hk => by rw [h3]; exact g8 k hk⟩
/-- what the invariant speaks of -/
def rI (a k : Nat) : Prop := a < 46 ∨ (74 ≤ a ∧ a < 294) ∨ (a = 294 ∧ (k = 13 ∨ 19 ≤ k)) ∨ (295 ≤ a ∧ a < 303)
def rLo (a : Nat) : Prop := a < 46 ∨ (74 ≤ a ∧ a < 296) ∨ (298 ≤ a ∧ a < 303)
/-- nothing of it changed -/
theorem Inv_irr (h : Inv xs c t I L) (hc : c ≤ c') (ht : t' ≤ c') (h1 : ∀ a k, rI a k → I' a k = I a k) (h2 : ∀ a, rLo a → L' a = L a) : Inv xs c' t' I' L' := by
  obtain ⟨⟨g1, g2, g3⟩, g4, ⟨g5, g5'⟩, g6, g7, ⟨g8, g9⟩, g10⟩ := h
  have q : ∀ a k, rI a k → I' a k = I a k := h1
  refine ⟨⟨fun j => by rw [q 0 j (by unfold rI; omega)]; exact g1 j, ht, fun a ha hb j => by rw [q a j (by unfold rI; omega)]; exact g3 a ha hb j⟩, IN_ext g4 (fun k => q _ _ (by unfold rI; omega)) (q _ _ (by unfold rI; omega)) (fun k => q _ _ (by unfold rI; omega)) (fun k => q _ _ (by unfold rI; omega)), ⟨?_, ?_⟩, OU_ext g6 (fun k => q _ _ (by unfold rI; omega)) (q _ _ (by unfold rI; omega)) (fun k => q _ _ (by unfold rI; omega)) (fun k => q _ _ (by unfold rI; omega)), NW_ext g7 hc (fun a _ _ k => q _ _ (by unfold rI; omega)) (fun a _ _ k => by rw [h2 a (by unfold rLo; omega)]) (h2 _ (by unfold rLo; omega)), ⟨?_, ?_⟩, HI_ext g10 hc (fun k => q _ _ (by unfold rI; omega)) (q _ _ (by unfold rI; omega)) (fun a _ _ k => q _ _ (by unfold rI; omega)) (fun a _ _ k => by rw [h2 a (by unfold rLo; omega)]) (fun k => by rw [h2 301 (by unfold rLo; omega)])⟩
  · rw [q _ _ (by unfold rI; omega), q 294 19 (by unfold rI; omega)]; exact g5
  · rw [q _ _ (by unfold rI; omega), q 294 20 (by unfold rI; omega)]; exact g5'
  · exact KE_ext g8 hc (fun k => q _ _ (by unfold rI; omega)) (fun k => q _ _ (by unfold rI; omega)) (fun a _ _ k => q _ _ (by unfold rI; omega)) (fun a _ _ k => by rw [h2 a (by unfold rLo; omega)]) (fun k => Or.inl (by rw [h2 299 (by unfold rLo; omega)]))
  · exact KE_ext g9 hc (fun k => q _ _ (by unfold rI; omega)) (fun k => q _ _ (by unfold rI; omega)) (fun a _ _ k => q _ _ (by unfold rI; omega)) (fun a _ _ k => by rw [h2 a (by unfold rLo; omega)]) (fun k => Or.inl (by rw [h2 299 (by unfold rLo; omega)]))
end S57b
/-- the reference's run behind the class's, that told k (0: no exception, and it answered v) -/
def RefI (dB b : Nat) (EB : Lo) (N : Nat) (xs : Nat → Int32) (c t : Nat) (I : Nat → Nat → Int32) (L : Nat → Nat → Int64) (D : Nat → Nat → UInt64) (k : Int) (v : Int32) : Prop :=
  ∀ (L2 : Nat → Nat → Int64) (Q : Rs → St → Prop), (∀ a, a ≠ 303 → L2 a = L a) → (∀ (y : Int32) (I3 : Nat → Nat → Int32) (L3 : Nat → Nat → Int64), I3 294 0 = Int32.ofInt k → (k = 0 → y = v) → L3 303 = L2 303 → Inv xs (c + 1) t I3 L3 → Q (.inl (some (.int y))) (mk N t 295 I3 L3 D)) → Wp dB b 0 EB [] (mk N t 295 I L2 D) Q
/-- class and reference agree in one call; ex: the numbers of the exceptions that the law tells apart -/
def PairI (dA a : Nat) (EA : Lo) (ex : List (Nat × Nat)) (dB b : Nat) (EB : Lo) (N : Nat) (xs : Nat → Int32) (c t : Nat) (I : Nat → Nat → Int32) (L : Nat → Nat → Int64) (D : Nat → Nat → UInt64) : Prop :=
  ∀ Q : Rs → St → Prop, (∀ (v : Int32) (t1 : Nat) (I1 : Nat → Nat → Int32) (L1 : Nat → Nat → Int64), (∀ j, I1 0 j = xs j) → RefI dB b EB N xs c t1 I1 L1 D 0 v → Q (.inl (some (.int v))) (mk N t1 295 I1 L1 D)) →
    (∀ (k E t1 : Nat) (I1 : Nat → Nat → Int32) (L1 : Nat → Nat → Int64), (k, E) ∈ ex → (∀ j, I1 0 j = xs j) → RefI dB b EB N xs c t1 I1 L1 D (k : Int) (Int32.ofInt 0) → Q (.inr E) (mk N t1 295 I1 L1 D)) → Wp dA a 0 EA [] (mk N t 295 I L D) Q
def RefJ (dB b : Nat) (EB : Lo) (N : Nat) (xs : Nat → Int32) (c t : Nat) (I : Nat → Nat → Int32) (L : Nat → Nat → Int64) (D : Nat → Nat → UInt64) (k : Int) (v : Int64) : Prop :=
  ∀ (L2 : Nat → Nat → Int64) (Q : Rs → St → Prop), (∀ a, a ≠ 303 → L2 a = L a) → (∀ (y : Int64) (I3 : Nat → Nat → Int32) (L3 : Nat → Nat → Int64), I3 294 0 = Int32.ofInt k → (k = 0 → y = v) → L3 303 = L2 303 → Inv xs (c + 1) t I3 L3 → Q (.inl (some (.long y))) (mk N t 295 I3 L3 D)) → Wp dB b 0 EB [] (mk N t 295 I L2 D) Q
def PairJ (dA a : Nat) (EA : Lo) (ex : List (Nat × Nat)) (dB b : Nat) (EB : Lo) (N : Nat) (xs : Nat → Int32) (c t : Nat) (I : Nat → Nat → Int32) (L : Nat → Nat → Int64) (D : Nat → Nat → UInt64) : Prop :=
  ∀ Q : Rs → St → Prop, (∀ (v : Int64) (t1 : Nat) (I1 : Nat → Nat → Int32) (L1 : Nat → Nat → Int64), (∀ j, I1 0 j = xs j) → RefJ dB b EB N xs c t1 I1 L1 D 0 v → Q (.inl (some (.long v))) (mk N t1 295 I1 L1 D)) →
    (∀ (k E t1 : Nat) (I1 : Nat → Nat → Int32) (L1 : Nat → Nat → Int64), (k, E) ∈ ex → (∀ j, I1 0 j = xs j) → RefJ dB b EB N xs c t1 I1 L1 D (k : Int) (Int64.ofInt 0) → Q (.inr E) (mk N t1 295 I1 L1 D)) → Wp dA a 0 EA [] (mk N t 295 I L D) Q
/-- the truth value of an int of the script -/
def bI (x : Int32) : Int32 := if x = Int32.ofInt 0 then Int32.ofInt 0 else Int32.ofInt 1
theorem lix {N c : Nat} {z : Int} (hN : N ≤ 3072) (hc : 6 * c + 6 ≤ N) (hz : 0 ≤ z ∧ z < 6) : inx (Int32.ofInt (6 * (c : Int) + z)) N = true := o_ix (by omega)
theorem ltn {c : Nat} {z : Nat} (hc : 6 * c + 6 ≤ 3072) (hz : z < 6) : (Int32.ofInt (6 * (c : Int) + (z : Int))).toNatClampNeg = 6 * c + z := o_tnn (j := 6 * c + z) (by omega)
theorem kh_0 {N : Nat} : KH N 0 = (19, N) := nr rfl
theorem kh_15 {N : Nat} : KH N 15 = (9, 0) := nr rfl
theorem kh_303 {N : Nat} : KH N 303 = (12, 1) := nr rfl
theorem kh_304 {N : Nat} : KH N 304 = (15, 1) := nr rfl
theorem ix01 : inx (Int32.ofInt 0) 1 = true := by decide +kernel
theorem tn00 : (Int32.ofInt 0).toNatClampNeg = 0 := by decide +kernel
theorem lg_self {x : Int64} : (lg_cmp x x = Int32.ofInt 0) = True := by
  unfold lg_cmp
  rw [if_neg (Int64.lt_irrefl : ¬ x < x), if_pos rfl]
  decide
theorem up303 {L1 : Nat → Nat → Int64} {v : Int64} : ∀ a, a ≠ 303 → up2 L1 303 0 v a = L1 a := fun a ha => by
  funext k
  rw [u2_ne (Or.inl ha)]
