/-! THE BUILT TEXT, READ: all statements in turn -/
/-- a post's statement, or a ball's -/
abbrev Stm : Type := Sum (Int × Int) (Int × Int × Int)
abbrev LN3 := (Nat → Int) × Nat × Nat
/-- what a statement makes of a line -/
def eff (A : LN3) : Stm → LN3
  | .inl (c, s) => (poA A.1 A.2.2 c s, A.2.1, A.2.2 + 1)
  | .inr (c, v, g) => (bdA A.1 A.2.1 c v g (55 + (A.2.1 : Int)), A.2.1 + 1, A.2.2)
/-- a statement's text, and R behind it -/
def stR (bn : Nat) : Stm → List Int → List Int
  | .inl (c, s), R => wlt 3 ++ (32 :: (decP c ++ (32 :: (wlt 2 ++ (32 :: (decP s ++ (59 :: R)))))))
  | .inr (c, v, g), R => wlt 4 ++ (32 :: ([98, 97 + (bn : Int)] ++ (32 :: (wlt 5 ++ (32 :: (decP c ++ (32 :: (wlt 6 ++ (32 :: (dec v ++ (32 :: (wlt 7 ++ (32 :: (decP g ++ (59 :: R)))))))))))))))
def okS (A : LN3) : Stm → Prop
  | .inl (c, s) => A.2.2 < 4 ∧ (0 ≤ c ∧ c ≤ A.1 0 - 1 ∧ A.1 0 ≤ 200) ∧ isF A.1 A.2.1 A.2.2 c ∧ (0 ≤ s ∧ s ≤ 100)
  | .inr (c, v, g) => A.2.1 < 6 ∧ nmF A.1 A.2.1 (55 + (A.2.1 : Int)) = -1 ∧ (0 ≤ c ∧ c ≤ A.1 0 - 1 ∧ A.1 0 ≤ 200) ∧ isF A.1 A.2.1 A.2.2 c ∧ (-60 ≤ v ∧ v ≤ 60) ∧ (1 ≤ g ∧ g ≤ 20)
def txts : LN3 → List Stm → List Int
  | _, [] => []
  | A, z :: Z => stR A.2.1 z (txts (eff A z) Z)
def effs : LN3 → List Stm → LN3
  | A, [] => A
  | A, z :: Z => effs (eff A z) Z
def okZ : LN3 → List Stm → Prop
  | _, [] => True
  | A, z :: Z => okS A z ∧ okZ (eff A z) Z
theorem effs_s {z : Stm} : ∀ (Z : List Stm) (A : LN3), effs A (Z ++ [z]) = eff (effs A Z) z
  | [], _ => rfl
  | y :: Z, A => effs_s Z (eff A y)
theorem okZ_s {z : Stm} : ∀ (Z : List Stm) (A : LN3), okZ A Z → okS (effs A Z) z → okZ A (Z ++ [z])
  | [], _, _, h => ⟨h, trivial⟩
  | y :: Z, A, h, g => ⟨h.1, okZ_s Z (eff A y) h.2 g⟩
theorem stR_app {bn : Nat} {z : Stm} {R R' : List Int} : stR bn z (R ++ R') = stR bn z R ++ R' := by
  match z with
  | .inl (c, s) =>
    unfold stR
    simp only [List.append_assoc, List.cons_append]
  | .inr (c, v, g) =>
    unfold stR
    simp only [List.append_assoc, List.cons_append]
theorem txts_s {z : Stm} : ∀ (Z : List Stm) (A : LN3), txts A (Z ++ [z]) = txts A Z ++ stR (effs A Z).2.1 z []
  | [], A => rfl
  | y :: Z, A => by
    show stR A.2.1 y (txts (eff A y) (Z ++ [z])) = stR A.2.1 y (txts (eff A y) Z) ++ _
    rw [txts_s Z (eff A y), stR_app]
    rfl
theorem stR_k {bn : Nat} {z : Stm} {R : List Int} : kh (stR bn z R) = 1 := by
  match z with
  | .inl (c, s) => exact kh_wd (by decide)
  | .inr (c, v, g) => exact kh_wd (by decide)
theorem txts_k : ∀ (Z : List Stm) (A : LN3), kh (txts A Z) ≠ 4
  | [], _ => by show (0 : Nat) ≠ 4; decide
  | z :: Z, A => by
    show kh (stR _ _ _) ≠ 4
    rw [stR_k]
    decide
theorem stR_l {bn : Nat} {z : Stm} {R : List Int} : R.length < (stR bn z R).length := by
  match z with
  | .inl (c, s) =>
    unfold stR
    simp only [List.length_append, List.length_cons]
    omega
  | .inr (c, v, g) =>
    unfold stR
    simp only [List.length_append, List.length_cons]
    omega
theorem txts_l : ∀ (Z : List Stm) (A : LN3), Z.length ≤ (txts A Z).length
  | [], _ => Nat.le_refl _
  | z :: Z, A => by
    have h1 := txts_l Z (eff A z)
    have h2 := stR_l (bn := A.2.1) (z := z) (R := txts (eff A z) Z)
    show Z.length + 1 ≤ (stR A.2.1 z (txts (eff A z) Z)).length
    omega
theorem st_y {T R : List Int} {S : SS} {z : Stm} (hz : okS S.2 z) (hR4 : kh R ≠ 4) (h : CU T S.1 (stR S.2.2.1 z R)) : ∃ P', CU T P' R ∧ stS (fT T) T.length S = (P', eff S.2 z) := by
  match z, hz, h with
  | .inl (c, s), ⟨a1, a2, a3, a4⟩, h => exact po_y a1 a2 a3 a4 hR4 h
  | .inr (c, v, g), ⟨a1, a2, a3, a4, a5, a6⟩, h => exact ba_y (k := S.2.2.1) a1 (by omega) a2 a3 a4 a5 a6 hR4 h
/-- the parser's loop over the statements -/
theorem lp_y {T : List Int} : ∀ (Z : List Stm) (S : SS) (r : Nat), CU T S.1 (txts S.2 Z) → okZ S.2 Z → Z.length ≤ r → ∃ P', CU T P' [] ∧ lpS (fT T) T.length r S = (P', effs S.2 Z)
  | [], S, r, h, _, _ => ⟨S.1, h, lpS_x (fun q => q.2 h.2.2.1)⟩
  | z :: Z, S, 0, _, _, hr => absurd hr (by rw [List.length_cons]; omega)
  | z :: Z, S, r + 1, h, hz, hr => by
    obtain ⟨P', h1, h2⟩ := st_y hz.1 (txts_k Z (eff S.2 z)) h
    have hk : S.1.2.2.1 = 1 := h.2.2.1.trans stR_k
    rw [lpS_s, if_pos ⟨h.2.2.2.2, by omega⟩, h2]
    exact lp_y Z (P', eff S.2 z) r h1 hz.2 (by rw [List.length_cons] at hr; omega)
/-! the box -/
/-- the box's text with or without its steals, and R behind it -/
def bxT (x : Int) (o : Option (Int × Int)) (R : List Int) : List Int := match o with
  | none => wlt 1 ++ (32 :: (decP x ++ (59 :: R)))
  | some (y, z) => wlt 1 ++ (32 :: (decP x ++ (32 :: (wlt 2 ++ (32 :: (decP y ++ (32 :: (decP z ++ (59 :: R)))))))))
def bxO (x : Int) (o : Option (Int × Int)) : LN3 := match o with
  | none => (bxA x 0 0, 0, 0)
  | some (y, z) => (bxA x y z, 0, 0)
def okB (x : Int) (o : Option (Int × Int)) : Prop := (10 ≤ x ∧ x ≤ 199) ∧ match o with
  | none => True
  | some (y, z) => (0 ≤ y ∧ y ≤ 100) ∧ (0 ≤ z ∧ z ≤ 100)
theorem bx_y {T R : List Int} {x v0 l r : Int} {o : Option (Int × Int)} {p1 b1 b2 b3 b4 pE : PS} (ho : okB x o) (hT : T = bxT x o R) (hR4 : kh R ≠ 4) (h : bxR (fT T) T.length (tok (fT T) T.length 0 v0) p1 b1 b2 b3 b4 pE l r) : CU T pE R ∧ (bxA (cvT (fT T) 10 p1) l r, 0, 0) = bxO x o := by
  match o, ho, hT with
  | none, ho, hT =>
    obtain ⟨e1, e2, e3, e4⟩ := bx_0 ho.1 hT hR4 h
    exact ⟨e4, by rw [e1, e2, e3]; rfl⟩
  | some (y, z), ho, hT =>
    obtain ⟨e1, e2, e3, e4⟩ := bx_1 ho.1 ho.2.1 ho.2.2 hT hR4 h
    exact ⟨e4, by rw [e1, e2, e3]; rfl⟩
theorem bxT_l {x : Int} {o : Option (Int × Int)} {R : List Int} : R.length < (bxT x o R).length := by
  match o with
  | none =>
    unfold bxT
    simp only [List.length_append, List.length_cons]
    omega
  | some (y, z) =>
    unfold bxT
    simp only [List.length_append, List.length_cons]
    omega
theorem bxT_app {x : Int} {o : Option (Int × Int)} {R R' : List Int} : bxT x o (R ++ R') = bxT x o R ++ R' := by
  match o with
  | none =>
    unfold bxT
    simp only [List.append_assoc, List.cons_append]
  | some (y, z) =>
    unfold bxT
    simp only [List.append_assoc, List.cons_append]
/-- the whole text, parsed -/
theorem tx_y {T : List Int} {x v0 l r : Int} {o : Option (Int × Int)} {Z : List Stm} {p1 b1 b2 b3 b4 pE : PS} (ho : okB x o) (hT : T = bxT x o (txts (bxO x o) Z)) (hZ : okZ (bxO x o) Z) (h : bxR (fT T) T.length (tok (fT T) T.length 0 v0) p1 b1 b2 b3 b4 pE l r) : pE.2.2.2.1 = 0 ∧ (bxA (cvT (fT T) 10 p1) l r, 0, 0) = bxO x o ∧ ∃ P', P'.2.2.2.1 = 0 ∧ lpS (fT T) T.length T.length (pE, bxO x o) = (P', effs (bxO x o) Z) := by
  obtain ⟨h1, h2⟩ := bx_y ho hT (txts_k Z _) h
  obtain ⟨P', h3, h4⟩ := lp_y Z (pE, bxO x o) T.length h1 hZ (by
    have := txts_l Z (bxO x o)
    have h5 := bxT_l (x := x) (o := o) (R := txts (bxO x o) Z)
    rw [← hT] at h5
    omega)
  exact ⟨h1.2.2.2.2, h2, P', h3.2.2.2.2, h4⟩
