/-! WHAT THE LAW HOLDS: through pulses -/
section SBD
variable {n m i : Nat} {α β : Nat → Int} {first : Int} {o : Nat → Nat} {W : Prop} {T : Int}
/-- in the midst of a pulse, q turns done at most -/
def TI (first : Int) (W : Prop) (T q : Int) (n m : Nat) (o : Nat → Nat) (x : Tn) : Prop := XG x n m o ∧ PU first x.1 n ∧ (W → CM q x.1 n m) ∧ x.1 3 = T
theorem bo_3 {K : Nat} {v st : Int} (hK : K ≠ 3) : boA (up1 α K v) i st 3 = α 3 := by
  unfold boA
  rw [lg_e ⟨by omega, by omega⟩, up1_ne (by omega), up1_ne (by omega), up1_ne (by unfold B9; omega), up1_ne (by unfold B9; omega), up1_ne (fun e => hK e.symm)]
theorem bt_3 {c : Int} : btA α m i c 3 = α 3 := by
  unfold btA
  split
  · split
    · exact bo_3 (by omega)
    · exact bo_3 (by omega)
  · exact bo_3 (by unfold P3; omega)
theorem hi_3 {l r b u : Nat} : hiR α l r b u 3 = α 3 := by
  unfold hiR cnR spR
  rw [lg_e ⟨by omega, by omega⟩, up1_ne (by omega), up1_ne (by unfold HH; omega), up1_ne (by unfold HH; omega), up1_ne (by unfold B9; omega), up1_ne (by unfold B9; omega), up1_ne (by omega), up1_ne (by unfold B9; omega), up1_ne (by unfold B9; omega)]
theorem TI_hit {q : Int} {x : Tn} {l r b u : Nat} (h : TI first W T q n m o x) (hX : XG (hitT x l r b u) n m o) (hl : l < n) (hr : r < n) (hlr : l ≠ r) (hb : b < n) (hu : u < n) (hbu : b ≠ u) : TI first W T (q + 1) n m o (hitT x l r b u) := by
  obtain ⟨h1, h2, h3, h4⟩ := h
  have hG := h1.1
  have h10 := hG.1.1
  have hm := hG.2.1.1
  refine ⟨hX, ?_, fun hW => ?_, ?_⟩
  · unfold hitT
    split
    · exact PU_wt h2
    · exact PU_hi h2 hG hl hr hlr hb hu
  · unfold hitT
    split
    · exact CM_le (CM_wt (h3 hW) h10 hm hb) (by omega)
    · exact CM_hi (h3 hW) h10 hm hl hr hb hu hbu
  · unfold hitT
    split
    · show wtR x.1 b 3 = T
      unfold wtR
      rw [up1_ne (by omega), up1_ne (by unfold B9; omega)]
      exact h4
    · show hiR x.1 l r b u 3 = T
      rw [hi_3]
      exact h4
theorem TI_tt {q : Int} {x : Tn} {s : Int} (h : TI first W T q n m o x) (hi : i < n) (hs : s = 1 ∨ s = -1) : TI first W T (q + 1) n m o (ttT n m x i s) := by
  have hX := ttT_G h.1 hi hs
  have h0 := h
  obtain ⟨h1, h2, h3, h4⟩ := h
  have hG := h1.1
  have h10 := hG.1.1
  have hm := hG.2.1.1
  unfold ttT at hX ⊢
  split at hX
  · rename_i g
    rw [if_pos g]
    exact ⟨h1, h2, fun hW => CM_le (h3 hW) (by omega), h4⟩
  · rename_i g
    rw [if_neg g]
    split at hX
    · rename_i hF
      rw [if_pos hF]
      refine ⟨hX, PU_mv h2 h10, fun hW => CM_le (CM_mv (h3 hW) h10 hm hi) (by omega), ?_⟩
      show mvR x.1 i _ 3 = T
      unfold mvR
      rw [up1_ne (by omega), up1_ne (by unfold B9; omega), up1_ne (by unfold B9; omega)]
      exact h4
    · rename_i hF
      rw [if_neg hF]
      split at hX
      · rename_i hb
        rw [if_pos hb]
        obtain ⟨j, e1, e2, e3⟩ := bAt_some hb.2
        have hne : j ≠ i := by
          intro hj
          subst hj
          omega
        rw [e1] at hX ⊢
        have hX : XG (if s = 1 then hitT x i j i j else hitT x j i i j) n m o := hX
        show TI first W T (q + 1) n m o (if s = 1 then hitT x i j i j else hitT x j i i j)
        split at hX
        · rename_i hs1
          rw [if_pos hs1]
          exact TI_hit h0 hX hi e2 (Ne.symm hne) hi e2 (Ne.symm hne)
        · rename_i hs1
          rw [if_neg hs1]
          exact TI_hit h0 hX e2 hi hne hi e2 (Ne.symm hne)
      · rename_i hb
        rw [if_neg hb]
        refine ⟨hX, PU_bt h2 h10 hi hm, fun hW => CM_bt (h3 hW) h10 hm hi, ?_⟩
        show btA x.1 m i _ 3 = T
        rw [bt_3]
        exact h4
theorem TI_le {q q' : Int} {x : Tn} (h : TI first W T q n m o x) (hq : q ≤ q') : TI first W T q' n m o x := ⟨h.1, h.2.1, fun hW => CM_le (h.2.2.1 hW) hq, h.2.2.2⟩
theorem TI_L {X : Nat} : ∀ (r P : Nat) (q : Int) (x : Tn), P + r = n → TI first W T q n m o x → TI first W T (q + r) n m o (tnL n m o X r P x)
  | 0, _, q, _, _, h => by
    rw [show q + ((0 : Nat) : Int) = q by omega]
    exact h
  | r + 1, P, q, x, hP, h => by
    rw [show q + ((r + 1 : Nat) : Int) = (q + 1) + (r : Int) by omega]
    refine TI_L r (P + 1) (q + 1) _ (by omega) ?_
    split
    · exact TI_tt h (h.1.1.2.2.2.1 P (by omega)) (Or.inr rfl)
    · exact TI_le h (by omega)
theorem TI_R {X : Nat} : ∀ (r : Nat) (q : Int) (x : Tn), r ≤ n → TI first W T q n m o x → TI first W T (q + r) n m o (tnR n m o X r x)
  | 0, q, _, _, h => by
    rw [show q + ((0 : Nat) : Int) = q by omega]
    exact h
  | r + 1, q, x, hr, h => by
    rw [show q + ((r + 1 : Nat) : Int) = (q + 1) + (r : Int) by omega]
    refine TI_R r (q + 1) _ (by omega) ?_
    split
    · exact TI_tt h (h.1.1.2.2.2.1 r (by omega)) (Or.inl rfl)
    · exact TI_le h (by omega)
/-- what the law holds of a row -/
def LI (first : Int) (W : Prop) (α : Nat → Int) (n m : Nat) : Prop := PU first α n ∧ (W → CN α n m)
theorem CK_3v {k : Nat} : CK k → ∀ j, j < 10 → k ≠ B9 j 3 := fun hk j hj e => CK_B hj (Or.inl (by omega)) (e ▸ hk)
theorem LI_pu {u : Un} (hG : GA u.1 n m o) (h : LI first W u.1 n m) : LI first W (puU n m o u).1 n m ∧ (puU n m o u).1 3 = u.1 3 + 1 := by
  have h10 := hG.1.1
  have hm := hG.2.1.1
  have h1 : XG (svA u.1 n, u.2.1, u.2.2.1, 0, -1, -1) n m o := ⟨svA_G hG n (Nat.le_refl n), by show 0 < 1024; omega, by show -1 ≤ (-1 : Int) ∧ (-1 : Int) < 10; omega⟩
  have s3 : svA u.1 n 3 = u.1 3 := svA_ne n fun j hj => by unfold B9; omega
  have h2 : TI first W (u.1 3) 0 n m o (svA u.1 n, u.2.1, u.2.2.1, 0, -1, -1) := ⟨h1, PU_cg h.1 (fun i hi => ⟨svA_ne n fun j hj => B9_in (by omega) (by omega) (by omega), svA_ne n fun j hj => B9_in (by omega) (by omega) (by omega)⟩) (svA_ne n fun j hj => by unfold B9; omega) (svA_ne n fun j hj => by unfold B9; omega), fun hW => CM_cg (CN_CM.1 (h.2 hW)) h10 hm fun k hk => svA_ne n fun j hj => CK_3v hk j (by omega), s3⟩
  have h3 := TI_R (X := dqA u.1 n) n _ _ (Nat.le_refl n) (TI_L (X := dlA u.1 n) n 0 0 _ (by omega) h2)
  have h4 : TI first W (u.1 3) (0 + n + n) n m o (tuT n m o u.1 u.2.1 u.2.2.1) := h3
  have e3 : (puU n m o u).1 = up1 (tuT n m o u.1 u.2.1 u.2.2.1).1 3 ((tuT n m o u.1 u.2.1 u.2.2.1).1 3 + 1) := rfl
  rw [e3]
  generalize tuT n m o u.1 u.2.1 u.2.2.1 = x at h4
  refine ⟨⟨PU_up h4.2.1 ⟨by omega, by omega, fun j hj => by unfold B9; omega⟩, fun hW => ?_⟩, by rw [up1_eq', h4.2.2.2]⟩
  obtain ⟨c1, c2, c3, c4, c5, c6, c7, c8, c9, c10, c11⟩ := h4.2.2.1 hW
  have e : ∀ k, k ≠ 3 → up1 x.1 3 (x.1 3 + 1) k = x.1 k := fun k hk => up1_ne hk
  have eH : ∀ a c, up1 x.1 3 (x.1 3 + 1) (HH a c) = x.1 (HH a c) := fun a c => e _ (by unfold HH; omega)
  have eB : ∀ a c, up1 x.1 3 (x.1 3 + 1) (B9 a c) = x.1 (B9 a c) := fun a c => e _ (by unfold B9; omega)
  have eP : ∀ a c, up1 x.1 3 (x.1 3 + 1) (P3 a c) = x.1 (P3 a c) := fun a c => e _ (by unfold P3; omega)
  unfold CN
  simp only [eH, eB, eP, e 12 (by omega), e 13 (by omega), e 10 (by omega), e 11 (by omega), e 14 (by omega), e 15 (by omega), e 4 (by omega), up1_eq']
  exact ⟨c1, c2, c3, c4, c5, c6, c7, c8, c9, c10, by omega⟩
theorem LI_uK : ∀ (k : Nat) (u : Un), GA u.1 n m o → LI first W u.1 n m → LI first W (uK n m o k u).1 n m ∧ (uK n m o k u).1 3 = u.1 3 + k
  | 0, u, _, h => ⟨h, by show u.1 3 = u.1 3 + ((0 : Nat) : Int); omega⟩
  | k + 1, u, hG, h => by
    obtain ⟨h1, h2⟩ := LI_pu hG h
    obtain ⟨h3, h4⟩ := LI_uK k (puU n m o u) (puU_G hG) h1
    refine ⟨h3, ?_⟩
    have h5 : (uK n m o (k + 1) u).1 3 = (puU n m o u).1 3 + k := h4
    rw [h5, h2]
    omega
end SBD
