/-! THE LAW'S RUN: the invariant from the start to the end -/
def GI (N : Nat) (xs : Nat → Int32) (c : Nat) (σ : St) : Prop := ∃ (t : Nat) (I : Nat → Nat → Int32) (L : Nat → Nat → Int64) (D : Nat → Nat → UInt64), σ = mk N t 295 I L D ∧ Inv xs c t I L
theorem ckg_o {e a : Nat} {L : Nat → Nat → Int64} (h : a ≠ e) : ckL e L a = L a := by
  funext k
  unfold ckL
  rw [u2_ne (by omega), u2_ne (by omega), u2_ne (by omega)]
theorem iZ_o {N a k : Nat} {xs : Nat → Int32} (h : (a < 19 ∨ (73 ≤ a ∧ a < 76) ∨ (238 ≤ a ∧ a < 240) ∨ 294 ≤ a) ∧ (a ≠ 294 ∨ k ≠ 20) ∧ a ≠ 15) : iZ N xs a k = zI (z0 N xs) a k := by
  unfold iZ I82
  rw [u2_ne (by omega), clI_o (by omega), clI_o (by omega), clI_o (by omega), clI_o (by omega), clI_o (by omega), clI_o (by omega), clI_o (by omega), clI_o (by omega), clI_o (by omega), clI_o (by omega), u2_ne (by omega), u2_ne (by omega), u2_ne (by omega)]
theorem iZ_15 {N k : Nat} {xs : Nat → Int32} : iZ N xs 15 k = up2 (up2 (up2 (zI (z0 N xs)) 15 1 (Int32.ofInt 0)) 15 3 (Int32.ofInt 0)) 15 4 (Int32.ofInt (-1)) 15 k := by
  unfold iZ I82
  rw [u2_ne (by omega), clI_o (by omega), clI_o (by omega), clI_o (by omega), clI_o (by omega), clI_o (by omega), clI_o (by omega), clI_o (by omega), clI_o (by omega), clI_o (by omega), clI_o (by omega)]
theorem z0_0 {N a k : Nat} {xs : Nat → Int32} (h : 15 ≤ a) : zI (z0 N xs) a k = Int32.ofInt 0 := by
  show (if a = 0 then xs k else if a < 8 then 0 else if a < 15 then (sby.getD (a - 8) []).getD k 0 else 0) = _
  rw [if_neg (by omega), if_neg (by omega), if_neg (by omega)]
  rfl
theorem Inv_0 {N : Nat} {xs : Nat → Int32} : Inv xs 0 0 (iZ N xs) lZ := by
  have z : ∀ a k, ((16 ≤ a ∧ a < 19) ∨ (73 ≤ a ∧ a < 76) ∨ (238 ≤ a ∧ a < 240) ∨ 294 ≤ a) ∧ (a ≠ 294 ∨ k ≠ 20) → iZ N xs a k = Int32.ofInt 0 := fun a k h => by
    rw [iZ_o (by omega), z0_0 (by omega)]
  have hR : RL (gl 19 (iZ N xs)) (gl 19 lZ) (bxA 10 0 0) 0 0 (fun _ => 0) := by
    refine RL_ext (RL_cl (b := 19) (x := 10) (l := 0) (r := 0) (I := up2 (up2 (up2 (zI (z0 N xs)) 15 1 (Int32.ofInt 0)) 15 3 (Int32.ofInt 0)) 15 4 (Int32.ofInt (-1))) (L := fun _ _ => 0) (o := fun _ => 0)) (fun a ha k => ?_) (fun a ha k => ?_)
    · show iZ N xs (19 + a) k = _
      unfold iZ I82
      rw [u2_ne (by omega), clI_o (by omega), clI_o (by omega), clI_o (by omega), clI_o (by omega), clI_o (by omega), clI_o (by omega), clI_o (by omega), clI_o (by omega), clI_o (by omega)]
      rfl
    · show lZ (19 + a) k = _
      unfold lZ L82
      rw [u2_ne (by omega), ckg_o (by omega), ckg_o (by omega), ckg_o (by omega), ckg_o (by omega), ckg_o (by omega), ckg_o (by omega), ckg_o (by omega), ckg_o (by omega), ckg_o (by omega)]
      rfl
  have hL : lZ 295 = r64 (bxA 10 0 0) := by
    funext k
    show lZ 295 k = Int64.ofInt (bxA 10 0 0 k)
    unfold lZ L82 bxA
    by_cases h : k = 0
    · rw [if_pos h, h, u2_same]
    · rw [if_neg h, u2_ne (by omega), ckg_o (by omega), ckg_o (by omega), ckg_o (by omega), ckg_o (by omega), ckg_o (by omega), ckg_o (by omega), ckg_o (by omega), ckg_o (by omega), ckg_o (by omega), ckg_o (by omega)]
      split
      · rfl
      · split <;> rfl
  refine ⟨⟨fun j => ?_, Nat.le_refl 0, fun a ha hb j => ?_⟩, ⟨0, by omega, ?_, ?_, fun j hj => by omega⟩, ⟨?_, ?_⟩, ⟨0, by omega, ?_, ?_, fun j hj => by omega⟩, ⟨bxA 10 0 0, 0, 0, fun _ => 0, ⟨hR, GA_bx (by omega) (by omega) (by omega), EX_dr DR_bx⟩, hL⟩, ⟨Or.inl ⟨z _ _ (by omega), z _ _ (by omega)⟩, Or.inl ⟨z _ _ (by omega), z _ _ (by omega)⟩⟩, ⟨0, 0, by omega, by omega, z _ _ (by omega), z _ _ (by omega), z _ _ (by omega), fun i hi => by omega⟩⟩
  · rw [iZ_o (by omega)]; rfl
  · rw [iZ_o (by omega)]
    show (if a = 0 then xs j else if a < 8 then 0 else if a < 15 then (sby.getD (a - 8) []).getD j 0 else 0) = _
    rw [if_neg (by omega), if_neg (by omega), if_pos hb]
  · rw [iZ_15, u2_ne (by omega), u2_ne (by omega), u2_same]; rfl
  · exact z _ _ (by omega)
  · rw [iZ_15, u2_ne (by omega), u2_same, z _ _ (by omega)]
  · rw [iZ_15, u2_same]
    unfold iZ
    rw [u2_same]
  · exact z _ _ (by omega)
  · exact z _ _ (by omega)
theorem an63 (x : Int32) : ∃ k : Nat, k < 64 ∧ x &&& Int32.ofInt 63 = Int32.ofInt (k : Int) := by
  obtain ⟨k, e⟩ := o_natT (x &&& Int32.ofInt 63)
  have h : (x &&& Int32.ofInt 63).toBitVec.toNat < 64 := by
    show (x.toBitVec &&& (63 : BitVec 32)).toNat < 64
    rw [BitVec.toNat_and]
    exact Nat.lt_of_le_of_lt Nat.and_le_right (by decide)
  refine ⟨(x &&& Int32.ofInt 63).toBitVec.toNat, h, ?_⟩
  rw [← Int32.toInt_inj, Int32.toInt_ofInt]
  show (x &&& Int32.ofInt 63).toBitVec.toInt = ((x &&& Int32.ofInt 63).toBitVec.toNat : Int).bmod _
  exact BitVec.toInt_eq_toNat_bmod _
theorem law_step {N : Nat} {xs : Nat → Int32} (hN : N ≤ 3072) : LawStep N xs 2040 (GI N xs) := by
  intro c σ u6 u7 u8 u9 Q hg hc hQ
  obtain ⟨t, I, L, D, rfl, hI⟩ := hg
  have hxs := hI.1.1
  have hQ' : ∀ (t' : Nat) (I' : Nat → Nat → Int32) (L' : Nat → Nat → Int64) (v6 v7 v8 v9 : Option Value), Inv xs (c + 1) t' I' L' → Wp (1998 + 42) 334 3079 (lLo (6 * (c : Int)) v6 v7 v8 v9) [] (mk N t' 295 I' L' D) Q := fun t' I' L' v6 v7 v8 v9 h => hQ _ _ _ _ _ ⟨t', I', L', D, rfl, h⟩
  obtain ⟨k, hk, e⟩ := an63 (xs (6 * c))
  rw [e]
  by_cases h0 : k = 0
  · subst h0
    exact lk0 (d := 1998) hN hc hxs (pk0 hI) hQ'
  by_cases h1 : k = 1
  · subst h1
    exact lk1 (d := 1998) hN hc hxs (pk1 hI) hQ'
  by_cases h2 : k = 2
  · subst h2
    exact lk2 (d := 1998) hN hc hxs (pk2 hI) hQ'
  by_cases h3 : k = 3
  · subst h3
    exact lk3 (d := 1998) hN hc hxs (pk3 hI) hQ'
  by_cases h4 : k = 4
  · subst h4
    exact lk4 (d := 1998) hN hc hxs (pk4 hI) hQ'
  by_cases h5 : k = 5
  · subst h5
    exact lk5 (d := 1998) hN hc hxs (pk5 hI) hQ'
  by_cases h6 : k = 6
  · subst h6
    exact lk6 (d := 1998) hN hc hxs (pk6 hI) hQ'
  by_cases h7 : k = 7
  · subst h7
    exact lk7 (d := 1998) hN hc hxs (pk7 hI) hQ'
  by_cases h8 : k = 8
  · subst h8
    exact lk8 (d := 1998) hN hc hxs (pk8 hI) hQ'
  by_cases h9 : k = 9
  · subst h9
    exact lk9 (d := 1998) hN hc hxs (pk9 hI) hQ'
  by_cases h10 : k = 10
  · subst h10
    exact lk10 (d := 1998) hN hc hxs (pk10 hI) hQ'
  by_cases h11 : k = 11
  · subst h11
    exact lk11 (d := 1998) hN hc hxs (pk11 hI) hQ'
  by_cases h12 : k = 12
  · subst h12
    exact lk12 (d := 1998) hN hc hxs (pk12 hI) hQ'
  by_cases h13 : k = 13
  · subst h13
    exact lk13 (d := 1998) hN hc hxs (pk13 hI) hQ'
  by_cases h14 : k = 14
  · subst h14
    exact lk14 (d := 1998) hN hc hxs (pk14 hI) hQ'
  by_cases h15 : k = 15
  · subst h15
    exact lk15 (d := 1998) hN hc hxs (pk15 hI) hQ'
  by_cases h16 : k = 16
  · subst h16
    exact lk16 (d := 1998) hN hc hxs (pk16 hI) hQ'
  by_cases h17 : k = 17
  · subst h17
    exact lk17 (d := 1998) hN hc hxs (pk17 hI) hQ'
  by_cases h18 : k = 18
  · subst h18
    exact lk18 (d := 1998) hN hc hxs (pk18 hI) hQ'
  by_cases h19 : k = 19
  · subst h19
    exact lk19 (d := 1998) hN hc hxs (pk19 hI) hQ'
  by_cases h20 : k = 20
  · subst h20
    exact lk20 (d := 1998) hN hc hxs (pk20 hI) hQ'
  by_cases h21 : k = 21
  · subst h21
    exact lk21 (d := 1998) hN hc hxs (pk21 hI) hQ'
  by_cases h22 : k = 22
  · subst h22
    exact lk22 (d := 1998) hN hc hxs (pk22 hI) hQ'
  by_cases h23 : k = 23
  · subst h23
    exact lk23 (d := 1998) hN hc hxs (pk23 hI) hQ'
  by_cases h24 : k = 24
  · subst h24
    exact lk24 (d := 1998) hN hc hxs (pk24 (by omega) hI) hQ'
  by_cases h25 : k = 25
  · subst h25
    exact lk25 (d := 1998) hN hc hxs (pk25 hI) hQ'
  by_cases h26 : k = 26
  · subst h26
    exact lk26 (d := 1998) hN hc hxs (pk26 hI) hQ'
  by_cases h27 : k = 27
  · subst h27
    exact lk27 (d := 1998) hN hc hxs (pk27 hI) hQ'
  by_cases h28 : k = 28
  · subst h28
    exact lk28 (d := 1998) hN hc hxs (pk28 hI) hQ'
  by_cases h29 : k = 29
  · subst h29
    exact lk29 (d := 1998) hN hc hxs (pk29 hI) hQ'
  by_cases h30 : k = 30
  · subst h30
    exact lk30 (d := 1998) hN hc hxs (pk30 hI) hQ'
  by_cases h31 : k = 31
  · subst h31
    exact lk31 (d := 1998) hN hc hxs (pk31 hI) hQ'
  by_cases h32 : k = 32
  · subst h32
    exact lk32 (d := 1998) hN hc hxs (pk32 hI) hQ'
  by_cases h33 : k = 33
  · subst h33
    exact lk33 (d := 1998) hN hc hxs (pk33 hI) hQ'
  by_cases h34 : k = 34
  · subst h34
    exact lk34 (d := 1998) hN hc hxs (pk34 hI) (fun t' I' L' D' v6 v7 v8 v9 h => hQ _ _ _ _ _ ⟨t', I', L', D', rfl, h⟩)
  by_cases h35 : k = 35
  · subst h35
    exact lk35 (d := 1998) hN hc hxs (pk35 hI) hQ'
  by_cases h36 : k = 36
  · subst h36
    exact lk36 (d := 1998) hN hc hxs (pk36 hI) hQ'
  by_cases h37 : k = 37
  · subst h37
    exact lk37 (d := 1998) hN hc hxs (pk37 hI) hQ'
  by_cases h38 : k = 38
  · subst h38
    exact lk38 (d := 1998) hN hc hxs (pk38 hI) hQ'
  by_cases h39 : k = 39
  · subst h39
    exact lk39 (d := 1998) hN hc hxs (pk39 hI) hQ'
  by_cases h40 : k = 40
  · subst h40
    exact lk40 (d := 1998) hN hc hxs (pk40 hI) hQ'
  by_cases h41 : k = 41
  · subst h41
    exact lk41 (d := 1998) hN hc hxs (pk41 hI) hQ'
  by_cases h42 : k = 42
  · subst h42
    exact lk42 (d := 1998) hN hc hxs (pk42 hI) hQ'
  by_cases h43 : k = 43
  · subst h43
    exact lk43 (d := 1998) hN hc hxs (pk43 hI) hQ'
  by_cases h44 : k = 44
  · subst h44
    exact lk44 (d := 1998) hN hc hxs (pk44 hI) hQ'
  by_cases h45 : k = 45
  · subst h45
    exact lk45 (d := 1998) hN hc hxs (pk45 hI) hQ'
  by_cases h46 : k = 46
  · subst h46
    exact lk46 (d := 1998) hN hc hxs (pk46 hI) hQ'
  by_cases h47 : k = 47
  · subst h47
    exact lk47 (d := 1998) hN hc hxs (pk47 hI) hQ'
  by_cases h48 : k = 48
  · subst h48
    exact lk48 (d := 1998) hN hc hxs (pk48 hI) hQ'
  by_cases h49 : k = 49
  · subst h49
    exact lk49 (d := 1998) hN hc hxs (pk49 hI) hQ'
  by_cases h50 : k = 50
  · subst h50
    exact lk50 (d := 1998) hN hc hxs (pk50 hI) hQ'
  by_cases h51 : k = 51
  · subst h51
    exact lk51 (d := 1998) hN hc hxs (pk51 hI) hQ'
  by_cases h52 : k = 52
  · subst h52
    exact lk52 (d := 1998) hN hc hxs (pk52 hI) hQ'
  by_cases h53 : k = 53
  · subst h53
    exact lk53 (d := 1998) hN hc hxs (pk53 hI) hQ'
  rw [w334_45_d (Or.inr (by rw [o_ti (by omega)]; omega))]
  exact hQ _ _ _ _ _ ⟨t, I, L, D, rfl, Inv_irr hI (by omega) (by have := hI.1.2.1; omega) (fun _ _ _ => rfl) (fun _ _ => rfl)⟩
theorem lawRun : LawRun := lawRun_of GI (fun N xs _ => ⟨0, _, _, _, rfl, Inv_0⟩) (fun N xs c σ h => by
  obtain ⟨t, I, L, D, rfl, hI⟩ := h
  exact ⟨rfl, hI.1.1⟩) (fun N xs hN => law_step hN) (fun N xs c σ hN h hc => by
  obtain ⟨t, I, L, D, rfl, hI⟩ := h
  have ht := hI.1.2.1
  have e1 : cu (mk N t 295 I L D) = 305 + t := rfl
  have e2 : su (mk N t 295 I L D) = 9948 + 6 * t := rfl
  rw [e1, e2]
  omega)
