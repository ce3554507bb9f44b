/-! THE LAW'S ACT: each kind -/
/-- what an act leaves -/
def AQ (xs : Nat → Int32) (first : Int) (W : Prop) (c : Nat) (α : Nat → Int) (n m : Nat) (o : Nat → Nat) (κ : Nat) (N : NX) (w : WX) (t : Nat) (D : Nat → Nat → UInt64) (I : Nat → Nat → Int32) (Q : Rs → St → Prop) : Prop :=
  ∀ (t' : Nat) (r : Int) (I' : Nat → Nat → Int32) (L' : Nat → Nat → Int64) (α' : Nat → Int) (n' m' : Nat) (o' : Nat → Nat), t' ≤ t + 1 → CI xs (c + 1) I' L' α' n' m' o' → LI first (W ∧ (κ = 14 → r = -99)) α' n' m' → (∀ a, 294 ≤ a → I' a = I a) → ((κ ≤ 7 ∨ 18 ≤ κ) → n' = n ∧ o' = o ∧ α 3 < α' 3) → (κ = 16 → n' = n ∧ o' = o) → (κ = 14 → -1000000 ≤ r ∧ r ≤ 1000000) → Q (.inl (some (.int (Int32.ofInt r)))) (mk N t' w I' L' D)
theorem o_rem' {x ν : Nat} {y : Int} (hy : y = (ν : Int)) (hx : x < 2147483648) (hν : ν < 2147483648) : Int32.ofInt (x : Int) - Int32.ofInt (x : Int) / Int32.ofInt y * Int32.ofInt y = Int32.ofInt ((x % ν : Nat) : Int) := by
  subst hy
  exact o_rem hx hν
theorem LI_W {first : Int} {W W' : Prop} {α : Nat → Int} {n m : Nat} (h : LI first W α n m) (hW : W' → W) : LI first W' α n m := ⟨h.1, fun h2 => h.2 (hW h2)⟩
section SBF
variable {N : NX} {w : WX} {d t n m c κ : Nat} {α : Nat → Int} {o : Nat → Nat} {I : Nat → Nat → Int32} {L : Nat → Nat → Int64} {D : Nat → Nat → UInt64} {Q : Rs → St → Prop} {xs : Nat → Int32} {first : Int} {W : Prop}
/-- nothing is done -/
theorem AQ_none (hCI : CI xs c I L α n m o) (hLI : LI first W α n m) (hK : AQ xs first W c α n m o κ N w t D I Q) (h7 : 7 < κ ∧ κ < 18 ∧ κ ≠ 16) {t' : Nat} (ht : t' ≤ t + 1) : Q (.inl (some (.int (Int32.ofInt (-99))))) (mk N t' w I L D) := by
  obtain ⟨h1, h2, h3, h4⟩ := hCI
  have hX : EX (c + 1) α n := ⟨⟨h4.1.1, by have := h4.1.2; omega⟩, h4.2⟩
  exact hK t' (-99) I L α n m o ht ⟨h1, h2, h3, hX⟩ (LI_W hLI fun h => h.1) (fun _ _ => rfl) (fun h => by omega) (fun h => by omega) (fun _ => by omega)
/-- pulses -/
theorem AQ_pu {k : Nat} (hk : 1 ≤ k ∧ k ≤ 600) (h14 : κ ≠ 14) (hCI : CI xs c I L α n m o) (hLI : LI first W α n m) (hK : AQ xs first W c α n m o κ N w t D I Q) : Wp (d + 5) 133 0 [some (.ref 15), some (.int (Int32.ofInt (k : Int)))] [] (mk N t w I L D) Q := by
  obtain ⟨u1, u2⟩ := LI_uK k (U0 α) hCI.2.2.1 hLI
  have u2' : (uK n m o k (U0 α)).1 3 = α 3 + k := u2
  refine c133 hk hCI fun I' L' hC2 hI => ?_
  exact hK t _ I' L' _ n m o (by omega) hC2 (LI_W u1 fun h => h.1) hI (fun _ => ⟨rfl, rfl, by omega⟩) (fun _ => ⟨rfl, rfl⟩) (fun h => absurd h h14)
theorem AQ_ti {k : Nat} (hk : 1 ≤ k ∧ k ≤ 50) (h14 : κ ≠ 14) (hCI : CI xs c I L α n m o) (hLI : LI first W α n m) (hK : AQ xs first W c α n m o κ N w t D I Q) : Wp (d + 5) 134 0 [some (.ref 15), some (.int (Int32.ofInt (k : Int)))] [] (mk N t w I L D) Q := by
  obtain ⟨u1, u2⟩ := LI_uK (60 * k) (U0 α) hCI.2.2.1 hLI
  have u2' : (uK n m o (60 * k) (U0 α)).1 3 = α 3 + ((60 * k : Nat) : Int) := u2
  refine c134 hk hCI fun I' L' hC2 hI => ?_
  exact hK t _ I' L' _ n m o (by omega) hC2 (LI_W u1 fun h => h.1) hI (fun _ => ⟨rfl, rfl, by omega⟩) (fun _ => ⟨rfl, rfl⟩) (fun h => absurd h h14)
/-- a change of a number that only pushes speak of -/
theorem LI_ps (hG : GA α n m o) (h : LI first W α n m) {β : Nat → Int} (e7 : β 7 = α 7) (e5 : β 5 = α 5) (e : ∀ k, CK k → β k = α k) : LI first W (psA α β n) n m := by
  refine ⟨PU_7 h.1 e7 e5, fun hW => ?_⟩
  exact CN_ps (h.2 hW) hG.1.1 hG.2.1.1 e
theorem LI_psB (hG : GA α n m o) (h : LI first W α n m) {i q : Nat} {v : Int} (hi : i < n) (hq : q < 4) : LI first W (psA α (up1 α (B9 i q) v) n) n m :=
  LI_ps hG h (up1_ne (by unfold B9; omega)) (up1_ne (by unfold B9; omega)) (CK_up _ (CK_B (by have := hG.1.1; omega) (Or.inl hq)))
theorem szA_CK (hn : n ≤ 10) : ∀ i, i ≤ n → ∀ k, CK k → szA α i k = α k := fun i hi k hk => szA_ne i fun j hj e => CK_B (by omega) (Or.inl (by omega)) (e ▸ hk)
/-- place: no push, no count -/
theorem LI_pl (hG : GA α n m o) (h : LI first W α n m) {i : Nat} {v : Int} (hi : i < n) : LI first W (up1 α (B9 i 0) v) n m :=
  ⟨PU_up h.1 ⟨by unfold B9; omega, by unfold B9; omega, fun j hj => ⟨B9_in (by omega) (by omega) (by omega), B9_in (by omega) (by omega) (by omega)⟩⟩, fun hW => CN_cg (h.2 hW) hG.1.1 hG.2.1.1 (CK_up _ (CK_B (by have := hG.1.1; omega) (Or.inl (by omega))))⟩
theorem stK_r {z : Int} (hz : -2 ≤ z ∧ z ≤ 3) : stK z = 8 ∨ stK z = 9 ∨ (16 ≤ stK z ∧ stK z < 28) := by
  unfold stK
  by_cases h1 : z = -1
  · rw [if_pos h1]; omega
  · rw [if_neg h1]
    by_cases h2 : z = -2
    · rw [if_pos h2]; omega
    · rw [if_neg h2]; unfold P3; omega
theorem LI_st (hG : GA α n m o) (h : LI first W α n m) {z v : Int} (hz : -2 ≤ z ∧ z ≤ (m : Int) - 1) : LI first W (up1 α (stK z) v) n m := by
  have hm := hG.2.1.1
  have hk := stK_r (z := z) (by omega)
  exact ⟨PU_up h.1 ⟨by omega, by omega, fun j hj => by unfold B9; omega⟩, fun hW => CN_cg (h.2 hW) hG.1.1 hm (CK_up _ (CK_st (by omega)))⟩
theorem LI_add (hG : GA α n m o) (h : LI first W α n m) (hn : n < 10) {cc s g : Int} : LI first W (up1 (bdA α n cc s g 0) 7 (bdA α n cc s g 0 7 + (pushA (bdA α n cc s g 0) (n + 1) - pushA α n))) (n + 1) m := by
  refine ⟨PU_7 h.1 (bdA_ne (by omega)) (bdA_ne (by omega)), fun hW => ?_⟩
  exact CN_cg (CN_add (h.2 hW) hn hG.2.1.1 (cc := cc) (s := s) (g := g) (nm := 0)) (by omega) hG.2.1.1 (CK_up 7 CK_7)
/-- kick, weight, turn -/
theorem AQ_kick {i : Nat} {z : Int} (hi : i < n) (hz : -60 ≤ z ∧ z ≤ 60) (h7 : 7 < κ ∧ κ < 18 ∧ κ ≠ 16 ∧ κ ≠ 14) (hCI : CI xs c I L α n m o) (hLI : LI first W α n m) (hK : AQ xs first W c α n m o κ N w t D I Q) : Wp (d + 3) 135 0 [some (.ref 15), some (.int (Int32.ofInt (i : Int))), some (.int (Int32.ofInt z)), none, none] [] (mk N t w I L D) (fun r σ => ∀ v : Int, r = .inl (some (.int (Int32.ofInt v))) → Q (.inl (some (.int (Int32.ofInt (v + 60))))) σ) := by
  refine c135 hi hz hCI fun I' L' hC2 hI v hv => ?_
  exact hK t (v + 60) I' L' _ n m o (by omega) hC2 (LI_W (LI_psB hCI.2.2.1 hLI hi (by omega)) fun h => h.1) hI (fun h => by omega) (fun h => by omega) (fun h => by omega)
theorem AQ_wt {i : Nat} {z : Int} (hi : i < n) (hz : 1 ≤ z ∧ z ≤ 20) (h7 : 7 < κ ∧ κ < 18 ∧ κ ≠ 16 ∧ κ ≠ 14) (hCI : CI xs c I L α n m o) (hLI : LI first W α n m) (hK : AQ xs first W c α n m o κ N w t D I Q) : Wp (d + 3) 136 0 [some (.ref 15), some (.int (Int32.ofInt (i : Int))), some (.int (Int32.ofInt z)), none, none, none] [] (mk N t w I L D) Q := by
  refine c136 hi hz hCI fun I' L' hC2 hI => ?_
  exact hK t _ I' L' _ n m o (by omega) hC2 (LI_W (LI_psB hCI.2.2.1 hLI hi (by omega)) fun h => h.1) hI (fun h => by omega) (fun h => by omega) (fun h => by omega)
theorem AQ_st {z v : Int} (hz : -2 ≤ z ∧ z ≤ (m : Int) - 1) (hv : 0 ≤ v ∧ v ≤ 100) (h7 : 7 < κ ∧ κ < 18 ∧ κ ≠ 16 ∧ κ ≠ 14) (hCI : CI xs c I L α n m o) (hLI : LI first W α n m) (hK : AQ xs first W c α n m o κ N w t D I Q) : Wp (d + 3) 137 0 [some (.ref 15), some (.int (Int32.ofInt z)), some (.int (Int32.ofInt v)), none, none] [] (mk N t w I L D) Q := by
  refine c137 hz hv hCI fun I' L' hC2 hI => ?_
  exact hK t _ I' L' _ n m o (by omega) hC2 (LI_W (LI_st hCI.2.2.1 hLI hz) fun h => h.1) hI (fun h => by omega) (fun h => by omega) (fun h => by omega)
theorem AQ_stop (h7 : κ = 16) (hCI : CI xs c I L α n m o) (hLI : LI first W α n m) (hK : AQ xs first W c α n m o κ N w t D I Q) : Wp (d + 3) 95 0 [some (.ref 15), none, none, none] [] (mk N t w I L D) Q := by
  refine c95 hCI fun I' L' hC2 hI => ?_
  have hG := hCI.2.2.1
  refine hK t _ I' L' _ n m o (by omega) hC2 (LI_W (LI_ps hG hLI (szA_ne n fun j hj => by unfold B9; omega) (szA_ne n fun j hj => by unfold B9; omega) (szA_CK hG.1.1 n (Nat.le_refl n))) fun h => h.1) hI (fun h => by omega) (fun _ => ⟨rfl, rfl⟩) (fun h => by omega)
theorem PU_rm {g : Nat} (h : PU first α n) (e7 : rvA α n g 7 = α 7) (e5 : rvA α n g 5 = α 5) : PU first (up1 (rvA α n g) 7 (rvA α n g 7 + (pushA (rvA α n g) (n - 1) - pushA α n))) (n - 1) := PU_7 h e7 e5
end SBF
