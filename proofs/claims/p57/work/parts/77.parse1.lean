/-! THE PARSER: tokens, words -/
/-- start, end, kind, error, value -/
abbrev PS := Nat × Nat × Nat × Nat × Int
def kd0 (f : Nat → Int) (n i : Nat) : Nat := if n ≤ i then 0 else if f i = 32 ∨ f i = 10 then 4 else if 97 ≤ f i ∧ f i ≤ 122 then 1 else if 48 ≤ f i ∧ f i ≤ 57 then 2 else 3
/-- on while the kind is k -/
def exL (f : Nat → Int) (n k : Nat) : Nat → Nat → Nat
  | 0, i => i
  | r + 1, i => if kd0 f n i = k then exL f n k r (i + 1) else i
def vaL (f : Nat → Int) : Nat → Nat → Int → Int
  | 0, _, v => v
  | r + 1, i, v => vaL f r (i + 1) (if 10 * v + f i - 48 < 9999 then 10 * v + f i - 48 else 9999)
def cnL (f : Nat → Int) : Nat → Nat → Int → Int
  | 0, _, v => v
  | r + 1, i, v => if v < 1000000 then cnL f r (i + 1) (v * 10 + f i - 48) else v
theorem exL_s {f : Nat → Int} {n k r i : Nat} : exL f n k (r + 1) i = if kd0 f n i = k then exL f n k r (i + 1) else i := nr rfl
theorem cnL_s {f : Nat → Int} {r i : Nat} {v : Int} : cnL f (r + 1) i v = if v < 1000000 then cnL f r (i + 1) (v * 10 + f i - 48) else v := nr rfl
def tkE (f : Nat → Int) (n s : Nat) : Nat := if kd0 f n s = 0 then s else if kd0 f n s = 3 then s + 1 else exL f n (kd0 f n s) (n - (s + 1)) (s + 1)
def tkV (f : Nat → Int) (n s : Nat) (v : Int) : Int := if kd0 f n s = 2 then vaL f (tkE f n s - s) s 0 else if kd0 f n s = 3 then f s % 256 else v
def tkS (f : Nat → Int) (n i : Nat) : Nat := exL f n 4 (n - i) i
def tok (f : Nat → Int) (n i : Nat) (v : Int) : PS := (tkS f n i, tkE f n (tkS f n i), kd0 f n (tkS f n i), 0, tkV f n (tkS f n i) v)
def nxT (f : Nat → Int) (n : Nat) (P : PS) : PS := if P.2.2.2.1 = 0 then tok f n P.2.1 P.2.2.2.2 else P
def flT (c : Nat) (P : PS) : PS := if P.2.2.2.1 = 0 then (P.1, P.2.1, P.2.2.1, c, P.2.2.2.2) else P
def WF (f : Nat → Int) (n : Nat) (P : PS) : Prop := (P.1 ≤ P.2.1 ∧ P.2.1 ≤ n) ∧ (P.2.2.1 = kd0 f n P.1 ∧ P.2.2.1 ≠ 4 ∧ (P.2.2.1 = 0 → P.2.1 = P.1) ∧ (P.2.2.1 ≠ 0 → P.1 < P.2.1)) ∧ (∀ j, P.1 ≤ j → j < P.2.1 → kd0 f n j = P.2.2.1) ∧ (P.2.2.1 = 2 → P.2.2.2.2 = vaL f (P.2.1 - P.1) P.1 0) ∧ (P.2.2.1 = 3 → P.2.2.2.2 = f P.1 % 256) ∧ P.2.2.2.1 ≤ 5
section S77
variable {f : Nat → Int} {n : Nat}
theorem kd_le {i : Nat} : kd0 f n i ≤ 4 := by
  unfold kd0
  split
  · omega
  · split
    · omega
    · split
      · omega
      · split <;> omega
theorem kd_0 {i : Nat} : kd0 f n i = 0 ↔ n ≤ i := by
  unfold kd0
  split
  · omega
  · split
    · omega
    · split
      · omega
      · split <;> omega
theorem kd_2 {i : Nat} (h : kd0 f n i = 2) : i < n ∧ 48 ≤ f i ∧ f i ≤ 57 := by
  unfold kd0 at h
  split at h
  · omega
  · split at h
    · omega
    · split at h
      · omega
      · split at h
        · omega
        · omega
theorem exL_b {k : Nat} (hk : k ≠ 0) : ∀ r i : Nat, i + r = n → i ≤ exL f n k r i ∧ exL f n k r i ≤ n ∧ (∀ j, i ≤ j → j < exL f n k r i → kd0 f n j = k) ∧ kd0 f n (exL f n k r i) ≠ k := by
  intro r
  induction r with
  | zero =>
    intro i hi
    show i ≤ i ∧ i ≤ n ∧ (∀ j, i ≤ j → j < i → _) ∧ kd0 f n i ≠ k
    have : kd0 f n i = 0 := kd_0.2 (by omega)
    exact ⟨by omega, by omega, fun j _ _ => by omega, by omega⟩
  | succ r ih =>
    intro i hi
    rw [exL_s]
    by_cases h : kd0 f n i = k
    · rw [if_pos h]
      have := ih (i + 1) (by omega)
      refine ⟨by omega, this.2.1, fun j h1 h2 => ?_, this.2.2.2⟩
      by_cases e : j = i
      · rw [e]; exact h
      · exact this.2.2.1 j (by omega) h2
    · rw [if_neg h]
      exact ⟨by omega, by omega, fun j _ _ => by omega, h⟩
theorem tkS_b {i : Nat} (h : i ≤ n) : i ≤ tkS f n i ∧ tkS f n i ≤ n ∧ kd0 f n (tkS f n i) ≠ 4 := by
  have := exL_b (f := f) (n := n) (k := 4) (by omega) (n - i) i (by omega)
  exact ⟨this.1, this.2.1, this.2.2.2⟩
theorem tkE_b {s : Nat} (h : s ≤ n) : s ≤ tkE f n s ∧ tkE f n s ≤ n ∧ (kd0 f n s = 0 → tkE f n s = s) ∧ (kd0 f n s ≠ 0 → s < tkE f n s) ∧ ∀ j, s ≤ j → j < tkE f n s → kd0 f n j = kd0 f n s := by
  unfold tkE
  by_cases h0 : kd0 f n s = 0
  · rw [if_pos h0]
    exact ⟨by omega, h, fun _ => rfl, fun h => absurd h0 h, fun j _ _ => by omega⟩
  · rw [if_neg h0]
    have hs : s < n := by
      have : ¬ (n ≤ s) := fun q => h0 (kd_0.2 q)
      omega
    by_cases h3 : kd0 f n s = 3
    · rw [if_pos h3]
      exact ⟨by omega, by omega, fun h => absurd h h0, fun _ => by omega, fun j h1 h2 => by rw [show j = s by omega]⟩
    · rw [if_neg h3]
      have := exL_b (f := f) (n := n) (k := kd0 f n s) h0 (n - (s + 1)) (s + 1) (by omega)
      refine ⟨by omega, this.2.1, fun h => absurd h h0, fun _ => by omega, fun j h1 h2 => ?_⟩
      by_cases e : j = s
      · rw [e]
      · exact this.2.2.1 j (by omega) h2
theorem WF_tok {i : Nat} {v : Int} (h : i ≤ n) : WF f n (tok f n i v) := by
  have h1 := tkS_b (f := f) h
  have h2 := tkE_b (f := f) h1.2.1
  refine ⟨⟨h2.1, h2.2.1⟩, ⟨rfl, h1.2.2, h2.2.2.1, h2.2.2.2.1⟩, h2.2.2.2.2, fun hk => ?_, fun hk => ?_, Nat.zero_le 5⟩
  · show tkV f n (tkS f n i) v = _
    unfold tkV
    have hk : kd0 f n (tkS f n i) = 2 := hk
    rw [if_pos hk]
    rfl
  · show tkV f n (tkS f n i) v = _
    unfold tkV
    have hk : kd0 f n (tkS f n i) = 3 := hk
    rw [if_neg (by omega), if_pos hk]
    rfl
theorem WF_nx {P : PS} (h : WF f n P) : WF f n (nxT f n P) := by
  unfold nxT
  split
  · exact WF_tok h.1.2
  · exact h
theorem WF_fl {P : PS} {c : Nat} (hc : c ≤ 5) (h : WF f n P) : WF f n (flT c P) := by
  unfold flT
  split
  · exact ⟨h.1, h.2.1, h.2.2.1, h.2.2.2.1, h.2.2.2.2.1, hc⟩
  · exact h
/-- the error of a state behind a step -/
theorem nxT_e {P : PS} : (nxT f n P).2.2.2.1 = P.2.2.2.1 := by
  unfold nxT
  split
  · rename_i h
    rw [h]
    rfl
  · rfl
theorem flT_e {P : PS} {c : Nat} (hc : c ≠ 0) : (flT c P).2.2.2.1 ≠ 0 := by
  unfold flT
  split
  · exact hc
  · assumption
theorem nxT_pos {P : PS} (h : WF f n P) (h0 : P.2.2.2.1 = 0) : P.2.1 ≤ (nxT f n P).1 := by
  unfold nxT
  rw [if_pos h0]
  exact (tkS_b h.1.2).1
theorem cn_b {f : Nat → Int} : ∀ (r i : Nat) (v : Int), (∀ j, i ≤ j → j < i + r → 48 ≤ f j ∧ f j ≤ 57) → 0 ≤ v ∧ v < 20000000 → 0 ≤ cnL f r i v ∧ cnL f r i v < 20000000
  | 0, _, _, _, h => h
  | r + 1, i, v, h, hv => by
    have h0 := h i (by omega) (by omega)
    rw [cnL_s]
    by_cases h1 : v < 1000000
    · rw [if_pos h1]
      exact cn_b r (i + 1) _ (fun j h2 h3 => h j (by omega) (by omega)) (by omega)
    · rw [if_neg h1]
      exact hv
end S77
/-- a word's length and letters -/
def wdL (a : Nat) : Nat := sln.getD (a - 1) 0
def wdC (a j : Nat) : Int := ((sby.getD (a - 1) []).getD j 0).toInt
theorem wdL_d : ∀ a, a < 8 → 1 ≤ a → 2 ≤ wdL a ∧ wdL a ≤ 6 := by decide +kernel
theorem wdC_d : ∀ a, a < 8 → 1 ≤ a → ∀ j, j < wdL a → 97 ≤ wdC a j ∧ wdC a j ≤ 122 := by decide +kernel
theorem wdC_o {a j : Nat} : (sby.getD (a - 1) []).getD j 0 = Int32.ofInt (wdC a j) := by
  unfold wdC
  rw [Int32.ofInt_toInt]
def iw (f : Nat → Int) (a : Nat) (P : PS) : Bool := decide (P.2.2.1 = 1 ∧ P.2.1 - P.1 = wdL a ∧ ∀ j, j < wdL a → f (P.1 + j) = wdC a j)

