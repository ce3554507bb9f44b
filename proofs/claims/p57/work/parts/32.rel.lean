/-! THE RELATION: a line's memory and a row -/
/-- where a number of the row lies in a line's memory: object, place -/
def mo (key : Nat) : Nat := if key < 8 then 0 else if key = 8 ∨ key = 10 then 4 else if key = 9 ∨ key = 11 then 5 else if key < 16 then 11 else if key < 28 then (key - 16) / 3 + 23 else if key < 118 then (key - 28) / 9 + 13 else 12
def mq (key : Nat) : Nat := if key = 0 then 0 else if key < 8 then 1 else if key = 8 ∨ key = 9 then 1 else if key < 12 then 2 else if key < 16 then key - 8 else if key < 28 then (key - 16) % 3 else if key < 118 then (if (key - 28) % 9 = 8 then 0 else (key - 28) % 9 + 1) else key - 118
def kd (n m key : Nat) : Prop := key = 0 ∨ key = 3 ∨ (8 ≤ key ∧ key < 16) ∨ (16 ≤ key ∧ key < 16 + 3 * m ∧ m ≤ 4) ∨ (28 ≤ key ∧ key < 28 + 9 * n ∧ n ≤ 10) ∨ (118 ≤ key ∧ key < 218)
theorem mo_B {i k : Nat} (hi : i < 10) (hk : k < 9) : mo (B9 i k) = i + 13 := by
  unfold mo B9
  rw [if_neg (by omega), if_neg (by omega), if_neg (by omega), if_neg (by omega), if_neg (by omega), if_pos (by omega)]
  omega
theorem mq_B {i k : Nat} (hi : i < 10) (hk : k < 8) : mq (B9 i k) = k + 1 := by
  unfold mq B9
  rw [if_neg (by omega), if_neg (by omega), if_neg (by omega), if_neg (by omega), if_neg (by omega), if_neg (by omega), if_pos (by omega), if_neg (by omega)]
  omega
theorem mq_B8 {i : Nat} (hi : i < 10) : mq (B9 i 8) = 0 := by
  unfold mq B9
  rw [if_neg (by omega), if_neg (by omega), if_neg (by omega), if_neg (by omega), if_neg (by omega), if_neg (by omega), if_pos (by omega), if_pos (by omega)]
theorem mo_P {p k : Nat} (hp : p < 4) (hk : k < 3) : mo (P3 p k) = p + 23 := by
  unfold mo P3
  rw [if_neg (by omega), if_neg (by omega), if_neg (by omega), if_neg (by omega), if_pos (by omega)]
  omega
theorem mq_P {p k : Nat} (hp : p < 4) (hk : k < 3) : mq (P3 p k) = k := by
  unfold mq P3
  rw [if_neg (by omega), if_neg (by omega), if_neg (by omega), if_neg (by omega), if_neg (by omega), if_pos (by omega)]
  omega
theorem mo_H {a b : Nat} (ha : a < 10) (hb : b < 10) : mo (HH a b) = 12 := by
  unfold mo HH
  rw [if_neg (by omega), if_neg (by omega), if_neg (by omega), if_neg (by omega), if_neg (by omega), if_neg (by omega)]
theorem mq_H {a b : Nat} (ha : a < 10) (hb : b < 10) : mq (HH a b) = 10 * a + b := by
  unfold mq HH
  rw [if_neg (by omega), if_neg (by omega), if_neg (by omega), if_neg (by omega), if_neg (by omega), if_neg (by omega), if_neg (by omega)]
  omega
theorem mo_rng {n m k : Nat} (h : kd n m k) : (mo k = 0 ∧ mq k ≤ 1) ∨ mo k = 4 ∨ mo k = 5 ∨ mo k = 11 ∨ mo k = 12 ∨ (13 ≤ mo k ∧ mo k < 27 ∧ mq k ≤ 8) := by
  unfold kd at h
  unfold mo mq
  repeat' split
  all_goals omega
def mv (a q : Nat) : Nat := if a = 0 then 3 * q else if a = 4 then 6 + 2 * q else if a = 5 then 7 + 2 * q else if a = 11 then q + 8 else if a = 12 then q + 118 else if a < 23 then 28 + 9 * (a - 13) + (if q = 0 then 8 else q - 1) else 16 + 3 * (a - 23) + q
theorem mv_B {i k : Nat} (hi : i < 10) (hk : k < 9) : mv (mo (B9 i k)) (mq (B9 i k)) = B9 i k := by
  rw [mo_B hi hk]
  by_cases h : k = 8
  · subst h
    rw [mq_B8 hi]
    unfold mv B9
    rw [if_neg (by omega), if_neg (by omega), if_neg (by omega), if_neg (by omega), if_neg (by omega), if_pos (by omega), if_pos rfl]
    omega
  · rw [mq_B hi (by omega)]
    unfold mv B9
    rw [if_neg (by omega), if_neg (by omega), if_neg (by omega), if_neg (by omega), if_neg (by omega), if_pos (by omega), if_neg (by omega)]
    omega
theorem mv_P {p k : Nat} (hp : p < 4) (hk : k < 3) : mv (mo (P3 p k)) (mq (P3 p k)) = P3 p k := by
  rw [mo_P hp hk, mq_P hp hk]
  unfold mv P3
  rw [if_neg (by omega), if_neg (by omega), if_neg (by omega), if_neg (by omega), if_neg (by omega), if_neg (by omega)]
  omega
theorem mv_H {a b : Nat} (ha : a < 10) (hb : b < 10) : mv (mo (HH a b)) (mq (HH a b)) = HH a b := by
  rw [mo_H ha hb, mq_H ha hb]
  unfold mv HH
  rw [if_neg (by omega), if_neg (by omega), if_neg (by omega), if_neg (by omega), if_pos rfl]
  omega
theorem mv_ok {n m k : Nat} (h : kd n m k) : mv (mo k) (mq k) = k := by
  have h8 : ∀ k, k < 16 → 8 ≤ k → mv (mo k) (mq k) = k := by decide
  rcases h with rfl | rfl | h | h | h | h
  · rfl
  · rfl
  · exact h8 k h.2 h.1
  · have e : P3 ((k - 16) / 3) ((k - 16) % 3) = k := by unfold P3; omega
    have := mv_P (p := (k - 16) / 3) (k := (k - 16) % 3) (by omega) (by omega)
    rwa [e] at this
  · have e : B9 ((k - 28) / 9) ((k - 28) % 9) = k := by unfold B9; omega
    have := mv_B (i := (k - 28) / 9) (k := (k - 28) % 9) (by omega) (by omega)
    rwa [e] at this
  · have e : HH ((k - 118) / 10) ((k - 118) % 10) = k := by unfold HH; omega
    have := mv_H (a := (k - 118) / 10) (b := (k - 118) % 10) (by omega) (by omega)
    rwa [e] at this
theorem mo_inj {n m k j : Nat} (hk : kd n m k) (hj : kd n m j) (h1 : mo k = mo j) (h2 : mq k = mq j) : k = j := by
  rw [← mv_ok hk, ← mv_ok hj, h1, h2]
/-- the log: entry k of the row stands behind the ring's next one -/
def RG (ℓ : Nat → Nat → Int32) (α : Nat → Int) : Prop :=
  ∃ nx : Nat, nx < 40 ∧ ℓ 6 4 = Int32.ofInt (nx : Int) ∧ ℓ 6 5 = Int32.ofInt (α 4) ∧ ∀ k : Nat, (k : Int) < α 4 → k < 40 → ∀ c, c < 4 → ℓ (7 + c) ((nx + 39 - k) % 40) = Int32.ofInt (α (218 + 4 * k + c))
def RL (ℓ : Nat → Nat → Int32) (μ : Nat → Nat → Int64) (α : Nat → Int) (n m : Nat) (o : Nat → Nat) : Prop :=
  (∀ k, kd n m k → ℓ (mo k) (mq k) = Int32.ofInt (α k)) ∧ (ℓ 0 3 = Int32.ofInt (n : Int) ∧ ℓ 0 6 = Int32.ofInt (m : Int)) ∧ (μ 11 1 = Int64.ofInt (α 5) ∧ μ 11 2 = Int64.ofInt (α 6) ∧ μ 11 3 = Int64.ofInt (α 7)) ∧ (∀ p, p < n → ℓ 2 p = Int32.ofInt (o p : Int)) ∧ RG ℓ α
section S32
variable {ℓ : Nat → Nat → Int32} {μ : Nat → Nat → Int64} {α : Nat → Int} {n m : Nat} {o : Nat → Nat}
theorem u2_ne {β : Type} {f : Nat → Nat → β} {a k b j : Nat} {v : β} (h : b ≠ a ∨ j ≠ k) : up2 f a k v b j = f b j := by
  unfold up2
  rw [if_neg (by omega)]
theorem RG_i {a k key : Nat} {v : Int32} {z : Int} (h : RG ℓ α) (ha : a ≠ 6 ∧ (a < 7 ∨ 10 < a)) (hk : key ≠ 4 ∧ key < 218) : RG (up2 ℓ a k v) (up1 α key z) := by
  obtain ⟨nx, h1, h2, h3, h4⟩ := h
  refine ⟨nx, h1, by rw [u2_ne (by omega)]; exact h2, by rw [u2_ne (by omega), up1_ne (by omega)]; exact h3, fun k' hk1 hk2 c hc => ?_⟩
  rw [up1_ne (by omega)] at hk1
  rw [u2_ne (by omega), up1_ne (by omega)]
  exact h4 k' hk1 hk2 c hc
/-- a number is changed on both sides -/
theorem RL_i {key : Nat} {v : Int} (h : RL ℓ μ α n m o) (hk : kd n m key) : RL (up2 ℓ (mo key) (mq key) (Int32.ofInt v)) μ (up1 α key v) n m o := by
  obtain ⟨h1, ⟨h2, h3⟩, ⟨h4, h5, h6⟩, h7, h8⟩ := h
  have hr := mo_rng hk
  have hk0 : key ≠ 4 ∧ key ≠ 5 ∧ key ≠ 6 ∧ key ≠ 7 ∧ key < 218 := by unfold kd at hk; omega
  refine ⟨fun k hk2 => ?_, ⟨by rw [u2_ne (by omega)]; exact h2, by rw [u2_ne (by omega)]; exact h3⟩, ⟨by rw [up1_ne (by omega)]; exact h4, by rw [up1_ne (by omega)]; exact h5, by rw [up1_ne (by omega)]; exact h6⟩, fun p hp => by rw [u2_ne (by omega)]; exact h7 p hp, RG_i h8 (by omega) (by omega)⟩
  by_cases hkk : k = key
  · subst hkk
    rw [up2_same, up1_eq']
  · rw [up1_ne hkk, u2_ne]
    · exact h1 k hk2
    · refine Classical.byContradiction fun hc => hkk (mo_inj hk2 hk ?_ ?_)
      · omega
      · omega
/-- what no number of the row lies in -/
theorem RL_d {a k : Nat} {v : Int32} (h : RL ℓ μ α n m o) (ha : 13 ≤ a ∧ 9 ≤ k) : RL (up2 ℓ a k v) μ α n m o := by
  obtain ⟨h1, ⟨h2, h3⟩, h4, h7, nx, h8, h9, h10, h11⟩ := h
  refine ⟨fun q hq => ?_, ⟨by rw [u2_ne (by omega)]; exact h2, by rw [u2_ne (by omega)]; exact h3⟩, h4, fun p hp => by rw [u2_ne (by omega)]; exact h7 p hp, nx, h8, by rw [u2_ne (by omega)]; exact h9, by rw [u2_ne (by omega)]; exact h10, fun k' g1 g2 c hc => by rw [u2_ne (by omega)]; exact h11 k' g1 g2 c hc⟩
  have hr := mo_rng hq
  rw [u2_ne (by omega)]
  exact h1 q hq
theorem RL_5 {v : Int} (h : RL ℓ μ α n m o) : RL ℓ (up2 μ 11 1 (Int64.ofInt v)) (up1 α 5 v) n m o := by
  obtain ⟨h1, h2, ⟨h4, h5, h6⟩, h7, nx, h8, h9, h10, h11⟩ := h
  refine ⟨fun k hk => ?_, h2, ⟨by rw [up2_same, up1_eq'], by rw [u2_ne (by omega), up1_ne (by omega)]; exact h5, by rw [u2_ne (by omega), up1_ne (by omega)]; exact h6⟩, h7, nx, h8, h9, by rw [up1_ne (by omega)]; exact h10, fun k' g1 g2 c hc => ?_⟩
  · rw [up1_ne (by unfold kd at hk; omega)]
    exact h1 k hk
  · rw [up1_ne (by omega)] at g1
    rw [up1_ne (by omega)]
    exact h11 k' g1 g2 c hc
theorem RL_6 {v : Int} (h : RL ℓ μ α n m o) : RL ℓ (up2 μ 11 2 (Int64.ofInt v)) (up1 α 6 v) n m o := by
  obtain ⟨h1, h2, ⟨h4, h5, h6⟩, h7, nx, h8, h9, h10, h11⟩ := h
  refine ⟨fun k hk => ?_, h2, ⟨by rw [u2_ne (by omega), up1_ne (by omega)]; exact h4, by rw [up2_same, up1_eq'], by rw [u2_ne (by omega), up1_ne (by omega)]; exact h6⟩, h7, nx, h8, h9, by rw [up1_ne (by omega)]; exact h10, fun k' g1 g2 c hc => ?_⟩
  · rw [up1_ne (by unfold kd at hk; omega)]
    exact h1 k hk
  · rw [up1_ne (by omega)] at g1
    rw [up1_ne (by omega)]
    exact h11 k' g1 g2 c hc
theorem RL_7 {v : Int} (h : RL ℓ μ α n m o) : RL ℓ (up2 μ 11 3 (Int64.ofInt v)) (up1 α 7 v) n m o := by
  obtain ⟨h1, h2, ⟨h4, h5, h6⟩, h7, nx, h8, h9, h10, h11⟩ := h
  refine ⟨fun k hk => ?_, h2, ⟨by rw [u2_ne (by omega), up1_ne (by omega)]; exact h4, by rw [u2_ne (by omega), up1_ne (by omega)]; exact h5, by rw [up2_same, up1_eq']⟩, h7, nx, h8, h9, by rw [up1_ne (by omega)]; exact h10, fun k' g1 g2 c hc => ?_⟩
  · rw [up1_ne (by unfold kd at hk; omega)]
    exact h1 k hk
  · rw [up1_ne (by omega)] at g1
    rw [up1_ne (by omega)]
    exact h11 k' g1 g2 c hc
theorem lgA_hi {b c h : Int} {k q : Nat} (hq : q < 4) (hk : 1 ≤ k ∧ k < 40) : lgA α b c h (218 + 4 * k + q) = α (218 + 4 * (k - 1) + q) := by
  unfold lgA
  rw [up1_ne (by omega), up1_ne (by omega), up1_ne (by omega), up1_ne (by omega), up1_ne (by omega)]
  unfold shK
  rw [if_pos (by omega)]
  congr 1
  omega
theorem lgA_0 {b c h : Int} : lgA α b c h 218 = α 3 ∧ lgA α b c h 219 = b ∧ lgA α b c h 220 = c ∧ lgA α b c h 221 = h := by
  unfold lgA
  refine ⟨?_, ?_, ?_, ?_⟩
  · rw [up1_ne (by omega), up1_ne (by omega), up1_ne (by omega), up1_ne (by omega), up1_eq']
  · rw [up1_ne (by omega), up1_ne (by omega), up1_ne (by omega), up1_eq']
  · rw [up1_ne (by omega), up1_ne (by omega), up1_eq']
  · rw [up1_ne (by omega), up1_eq']
theorem lgA_4e {b c h : Int} : lgA α b c h 4 = if α 4 + 1 < 40 then α 4 + 1 else 40 := by
  unfold lgA
  rw [up1_eq']
/-- one more entry in the log on both sides -/
theorem RL_g {nx : Nat} {b c z : Int} (h : RL ℓ μ α n m o) (hnx : nx < 40) (e1 : ℓ 6 4 = Int32.ofInt (nx : Int)) (h4 : 0 ≤ α 4 ∧ α 4 ≤ 40) : RL (lgM ℓ nx (Int32.ofInt (if α 4 + 1 < 40 then α 4 + 1 else 40)) (Int32.ofInt (α 3)) (Int32.ofInt b) (Int32.ofInt c) (Int32.ofInt z)) μ (lgA α b c z) n m o := by
  obtain ⟨h1, ⟨h2, h3⟩, ⟨g4, g5, g6⟩, h7, nx', h8, h9, h10, h11⟩ := h
  have hnn : nx' = nx := by
    have h := h9.symm.trans e1
    rw [o_eq (by omega)] at h
    omega
  subst hnn
  have hout : ∀ a k, (a < 6 ∨ 10 < a) → lgM ℓ nx' (Int32.ofInt (if α 4 + 1 < 40 then α 4 + 1 else 40)) (Int32.ofInt (α 3)) (Int32.ofInt b) (Int32.ofInt c) (Int32.ofInt z) a k = ℓ a k := by
    intro a k ha
    unfold lgM
    rw [u2_ne (by omega), u2_ne (by omega), u2_ne (by omega), u2_ne (by omega), u2_ne (by omega), u2_ne (by omega)]
  refine ⟨fun k hk => ?_, ⟨by rw [hout _ _ (by omega)]; exact h2, by rw [hout _ _ (by omega)]; exact h3⟩, ⟨by rw [lgA_lo (by omega)]; exact g4, by rw [lgA_lo (by omega)]; exact g5, by rw [lgA_lo (by omega)]; exact g6⟩, fun p hp => by rw [hout _ _ (by omega)]; exact h7 p hp, (nx' + 1) % 40, by omega, ?_, ?_, fun k hk1 hk2 q hq => ?_⟩
  · have hr := mo_rng hk
    rw [hout _ _ (by omega), lgA_lo (by unfold kd at hk; omega)]
    exact h1 k hk
  · unfold lgM
    rw [u2_ne (by omega), up2_same]
  · unfold lgM
    rw [up2_same, lgA_4e]
  · rw [lgA_4e] at hk1
    have l0 := lgA_0 (α := α) (b := b) (c := c) (h := z)
    by_cases hk0 : k = 0
    · subst hk0
      have e : ((nx' + 1) % 40 + 39 - 0) % 40 = nx' := by omega
      rw [e]
      unfold lgM
      match q, hq with
      | 0, _ =>
        rw [u2_ne (by omega), u2_ne (by omega), u2_ne (by omega), u2_ne (by omega), u2_ne (by omega), up2_same]
        exact congrArg Int32.ofInt l0.1.symm
      | 1, _ =>
        rw [u2_ne (by omega), u2_ne (by omega), u2_ne (by omega), u2_ne (by omega), up2_same]
        exact congrArg Int32.ofInt l0.2.1.symm
      | 2, _ =>
        rw [u2_ne (by omega), u2_ne (by omega), u2_ne (by omega), up2_same]
        exact congrArg Int32.ofInt l0.2.2.1.symm
      | 3, _ =>
        rw [u2_ne (by omega), u2_ne (by omega), up2_same]
        exact congrArg Int32.ofInt l0.2.2.2.symm
    · rw [lgA_hi hq (by omega)]
      have e : ((nx' + 1) % 40 + 39 - k) % 40 = (nx' + 39 - (k - 1)) % 40 := by omega
      rw [e]
      have hne : (nx' + 39 - (k - 1)) % 40 ≠ nx' := by omega
      have e2 : lgM ℓ nx' (Int32.ofInt (if α 4 + 1 < 40 then α 4 + 1 else 40)) (Int32.ofInt (α 3)) (Int32.ofInt b) (Int32.ofInt c) (Int32.ofInt z) (7 + q) ((nx' + 39 - (k - 1)) % 40) = ℓ (7 + q) ((nx' + 39 - (k - 1)) % 40) := by
        unfold lgM
        rw [u2_ne (by omega), u2_ne (by omega), u2_ne (by omega), u2_ne (by omega), u2_ne (by omega), u2_ne (by omega)]
      rw [e2]
      exact h11 (k - 1) (by split at hk1 <;> omega) (by omega) q hq
theorem up1_comm {β : Type} {f : Nat → β} {a b : Nat} {x y : β} (h : a ≠ b) : up1 (up1 f a x) b y = up1 (up1 f b y) a x := by
  funext j
  unfold up1
  by_cases h1 : j = a
  · by_cases h2 : j = b
    · omega
    · rw [if_neg h2, if_pos h1, if_pos h1]
  · by_cases h2 : j = b
    · rw [if_pos h2, if_neg h1, if_pos h2]
    · rw [if_neg h2, if_neg h1, if_neg h1, if_neg h2]
/-- reading -/
theorem RL_B {i k : Nat} (h : RL ℓ μ α n m o) (hi : i < n) (hn : n ≤ 10) (hk : k < 8) : ℓ (i + 13) (k + 1) = Int32.ofInt (α (B9 i k)) := by
  have := h.1 (B9 i k) (by unfold kd B9; omega)
  rwa [mo_B (by omega) (by omega), mq_B (by omega) hk] at this
theorem RL_P {p k : Nat} (h : RL ℓ μ α n m o) (hp : p < m) (hm : m ≤ 4) (hk : k < 3) : ℓ (p + 23) k = Int32.ofInt (α (P3 p k)) := by
  have := h.1 (P3 p k) (by unfold kd P3; omega)
  rwa [mo_P (by omega) (by omega), mq_P (by omega) hk] at this
theorem RL_H {a b : Nat} (h : RL ℓ μ α n m o) (ha : a < 10) (hb : b < 10) : ℓ 12 (10 * a + b) = Int32.ofInt (α (HH a b)) := by
  have := h.1 (HH a b) (by unfold kd HH; omega)
  rwa [mo_H ha hb, mq_H ha hb] at this
end S32
