/-! CLASS AND REFERENCE AGREE: keep, restore, undo. Made by wip/whole/gen/gen72.py -/
theorem k238 {N : Nat} : KH N 238 = (18, 2) := nr rfl
theorem k239 {N : Nat} : KH N 239 = (14, 2) := nr rfl
theorem kr15_9 {w : Nat} : rv (KR w 15 9) = .ref 238 := nr rfl
theorem kr15_10 {w : Nat} : rv (KR w 15 10) = .ref 239 := nr rfl
theorem krS_d : ∀ j, j < 2 → KR0 238 j = 240 + 27 * j + 1 := by decide +kernel
theorem krS {w j : Nat} (h : j < 2) : rv (KR w 238 j) = .ref (240 + 27 * j) := by
  unfold KR
  rw [if_neg (by omega), krS_d j h]
  rfl
theorem LB_s : ∀ j, j < 2 → 240 + 27 * j ∈ LBs := by decide
theorem nar_b1 : vp_nar .boolean (Int32.ofInt 1) = Int32.ofInt 1 := nr rfl
section S72
variable {xs : Nat → Int32} {d c c' t t' N w b n m f r s : Nat} {I I' : Nat → Nat → Int32} {L L' : Nat → Nat → Int64} {D : Nat → Nat → UInt64} {x : Int32} {Q : Rs → St → Prop} {α β : Nat → Int} {o : Nat → Nat}
theorem rd3r (hR : RL (gl b I) (gl b L) α n m o) : I b 1 = Int32.ofInt (α 3) := rd_3 hR
theorem c142 (hb : b = 19) (h5 : rv (KR w 15 5) = .ref b) (hs : s < 2) (hR : RL (gl b I) (gl b L) α n m o) : Wp (d + 2) 142 0 [some (.ref 15), some (.int (Int32.ofInt (s : Int)))] [] (mk N t w I L D) Q = Q (.inl (some (.int (Int32.ofInt (α 3))))) (mk N t w (up2 (lay (240 + 27 * s) (mg CP (gl 19 I) (gl (240 + 27 * s) I)) I) 239 s (Int32.ofInt 1)) (lay (240 + 27 * s) (muC (gl 19 L) (gl (240 + 27 * s) L)) L) D) := by
  subst hb
  have hz : KH N (240 + 27 * s) = (5, 0) := kh0 (LB_s s hs)
  have hc := fun (Q : Rs → St → Prop) => c32t (d := d) (N := N) (t := t) (w := w) (I := I) (L := L) (D := D) (Q := Q) (LB_s s hs) LB_now (by unfold apt; omega)
  have h3 : up2 (lay (240 + 27 * s) (mg CP (gl 19 I) (gl (240 + 27 * s) I)) I) 239 s (Int32.ofInt 1) 19 1 = Int32.ofInt (α 3) := by
    rw [u2_ne (by omega), lay_out (by omega)]
    exact rd3r hR
  simp only [w142_0, w142_1, w142_4, w142_5, w142_8, w142_9, w142_10, w142_11, w142_14, w142_17, w142_18, w142_21, w142_22, w142_23, w142_24, w142_25, w142_28, w142_31, kn_s, kn_n, zh_mk, zR_mk, zI_mk, zL_mk, zD_mk, wI_mk, wL_mk, wD_mk, zT_mk, zC_mk, kill_i, kill_r, kill_0, kill_n, kill_l, kill_q, zzk_r, zzk_0, zzk_q, zcat_r, zcat_i, zcat_0, cats_0, cats_i, cats_r, cats_l, cats_d, cats_f, rv_s, rv_0, Nat.reduceAdd, Nat.reduceLeDiff, Nat.add_zero, Nat.reduceMul, Nat.reduceSub, ne_eq, not_false_eq_true, not_true_eq_false, and_self, and_true, true_and, or_self, or_true, true_or, or_false, false_or, if_true, if_false, reduceIte, reduceCtorEq, implies_true, ite_self, ite_not, k15, h5, k238, k239, kr15_9, kr15_10, nar_b1, kh0 LB_now, c143 (z := (s : Int)) (by omega) (by omega), o_ixn (j := s) (n := 2) (by omega), o_tnn (j := s) (by omega), krS hs, hz, hc, h3]
/-- the invariant behind keeping -/
theorem Inv_keep {t0 : Nat} (hI : Inv xs c t0 I L) (ht : t ≤ c + 1) (hs : s < 2) (hN : LN 19 I L c α n m o) (hL0 : L 295 = r64 α)
    (hi : ∀ a k, rI a k → ¬ (a = 300 ∧ k = s) → I' a k = up2 (lay (240 + 27 * s) (mg CP (gl 19 I) (gl (240 + 27 * s) I)) I) 239 s (Int32.ofInt 1) a k) (h300 : I' 300 s = Int32.ofInt 1) (hl : ∀ a, rLo a → a ≠ 299 → ∀ k, L' a k = lay (240 + 27 * s) (muC (gl 19 L) (gl (240 + 27 * s) L)) L a k) (h299 : ∀ k, L' 299 k = blk (378 * s) 378 (r64 α) (L 299) k) : Inv xs (c + 1) t I' L' := by
  have q : ∀ a k, (a < 46 ∨ (74 ≤ a ∧ a < 239) ∨ (a = 239 ∧ k ≠ s) ∨ (240 ≤ a ∧ a < 294 ∧ (a < 240 + 27 * s ∨ 267 + 27 * s ≤ a)) ∨ (a = 294 ∧ (k = 13 ∨ 19 ≤ k)) ∨ (295 ≤ a ∧ a < 303 ∧ (a ≠ 300 ∨ k ≠ s))) → I' a k = I a k := fun a k h => by
    rw [hi a k (by unfold rI; omega) (by omega), u2_ne (by omega), lay_out (by omega)]
  have ql : ∀ a, (a < 46 ∨ (74 ≤ a ∧ a < 240) ∨ (240 ≤ a ∧ a < 296 ∧ (a < 240 + 27 * s ∨ 267 + 27 * s ≤ a)) ∨ (298 ≤ a ∧ a < 303 ∧ a ≠ 299)) → ∀ k, L' a k = L a k := fun a h k => by
    rw [hl a (by unfold rLo; omega) (by omega), lay_out (by omega)]
  have old : ∀ s', s' < 2 → s' ≠ s → KE c I L s' → KE (c + 1) I' L' s' := by
    intro s' hs' hne h
    rcases h with ⟨g1, g2⟩ | ⟨g1, g2, β, n', m', o', g3, g4⟩
    · exact Or.inl ⟨by rw [q _ _ (by omega)]; exact g1, by rw [q _ _ (by omega)]; exact g2⟩
    · refine Or.inr ⟨by rw [q _ _ (by omega)]; exact g1, by rw [q _ _ (by omega)]; exact g2, β, n', m', o', LN_ext g3 (by omega) (fun a ha hb k => q a k (by omega)) (fun a ha hb k => ql a (by omega) k), fun k hk => ?_⟩
      rw [h299]
      unfold blk
      rw [if_neg (by omega)]
      exact g4 k hk
  have new : KE (c + 1) I' L' s := by
    refine Or.inr ⟨by rw [hi _ _ (by unfold rI; omega) (by omega), u2_same], h300, α, n, m, o, ⟨RL_ext (RL_mg (ℓ := gl (240 + 27 * s) I) (μ := gl (240 + 27 * s) L) hN.1 hN.2.1.1.1) (fun a ha k => ?_) (fun a ha k => ?_), hN.2.1, EX_le hN.2.2 (by omega)⟩, fun k hk => ?_⟩
    · show I' (240 + 27 * s + a) k = _
      rw [hi _ _ (by unfold rI; omega) (by omega), u2_ne (by omega), lay_in ha]
    · show L' (240 + 27 * s + a) k = _
      rw [hl _ (by unfold rLo; omega) (by omega), lay_in ha]
    · rw [h299]
      unfold blk
      rw [if_pos (by omega), Nat.add_sub_cancel_left]
      rfl
  refine Inv_mk hI ht (fun a k ha => q a k (by omega)) (IN_ext hI.2.1 (fun k => q _ _ (by omega)) (q _ _ (by omega)) (fun k => q _ _ (by omega)) (fun k => q _ _ (by omega))) ⟨?_, ?_⟩ (OU_ext hI.2.2.2.1 (fun k => q _ _ (by omega)) (q _ _ (by omega)) (fun k => q _ _ (by omega)) (fun k => q _ _ (by omega))) (NW_ext hI.2.2.2.2.1 (by omega) (fun a _ _ k => q _ _ (by omega)) (fun a _ _ k => ql a (by omega) k) (funext fun k => ql 295 (by omega) k)) ?_ ?_ (HI_ext hI.2.2.2.2.2.2 (by omega) (fun k => q _ _ (by omega)) (q _ _ (by omega)) (fun a _ _ k => q _ _ (by omega)) (fun a _ _ k => ql a (by omega) k) (fun k => ql 301 (by omega) k))
  · rw [q _ _ (by omega), q 294 19 (by omega)]; exact hI.2.2.1.1
  · rw [q _ _ (by omega), q 294 20 (by omega)]; exact hI.2.2.1.2
  · by_cases h : s = 0
    · subst h; exact new
    · exact old 0 (by omega) (by omega) hI.2.2.2.2.2.1.1
  · by_cases h : s = 1
    · subst h; exact new
    · exact old 1 (by omega) (by omega) hI.2.2.2.2.2.1.2
theorem pk46 (hI : Inv xs c t I L) : PairI (d + 40) 142 [some (.ref 15), some (.int x)] [(1, 2)] (d + 41) 276 [some (.ref 294), some (.int x), none] N xs c t I L D := by
  obtain ⟨z1, rfl, hz⟩ := o_z x
  obtain ⟨f, r, b, α, n, m, o, hb19, hb, h5, hf, hr, e1, e2, e24, hE, hN, hL, hRr, hR⟩ := Inv_ch hI
  have hG := hN.2.1
  have hX := hN.2.2
  have h10 := hG.1.1
  have hw : RW 295 := Or.inl rfl
  by_cases hi : 0 ≤ z1 ∧ z1 ≤ 1
  · obtain ⟨s, rfl⟩ : ∃ s : Nat, z1 = (s : Int) := ⟨z1.toNat, by omega⟩
    have hs : s < 2 := by omega
    intro Q h1 h2
    rw [c142 hb19 h5 hs hR]
    refine h1 _ _ _ _ (fun j => by rw [u2_ne (by omega), lay_out (by omega)]; exact hI.1.1 j) ?_
    intro L2 Q2 hL2 hQ
    have l0 : ∀ a, rLo a → ∀ k, L2 a k = lay (240 + 27 * s) (muC (gl 19 L) (gl (240 + 27 * s) L)) L a k := fun a ha k => by rw [hL2 a (by unfold rLo at ha; omega)]
    have l295 : L2 295 = r64 α := by
      rw [← hL]
      funext k
      rw [l0 295 (by unfold rLo; omega), lay_out (by omega)]
    have l299 : L2 299 = L 299 := by
      funext k
      rw [l0 299 (by unfold rLo; omega), lay_out (by omega)]
    have e2' : sR (sR L2 299 (L2 299)) 295 (r64 α) = L2 := by rw [sR_self, ← l295]; exact sR_self
    have cc := c276 (d := d + 39) (N := N) (t := t) (w := 295) (I := up2 (lay (240 + 27 * s) (mg CP (gl 19 I) (gl (240 + 27 * s) I)) I) 239 s (Int32.ofInt 1)) (L := L2) (D := D) (Q := Q2) (F := r64 α) (K := L2 299) hz
    rw [e2', if_pos hi, Int.toNat_natCast] at cc
    rw [cc, show (r64 α 3).toInt32 = Int32.ofInt (α 3) from o_32]
    refine hQ _ _ _ (by rw [u2_ne (by omega), u2_same]) (fun _ => rfl) (by funext k; rw [sR_ne (by omega), sR_ne (by omega)]) ?_
    refine Inv_keep hI (by have := hI.1.2.1; omega) hs hN hL (fun a k ha hk => by rw [u2_ne (by omega), u2_ne (by unfold rI at ha; omega)]) u2_same (fun a ha hk k => ?_) (fun k => by rw [sR_ne (by omega), sR_at, l299])
    by_cases e295 : a = 295
    · subst e295
      rw [sR_at, ← l0 295 ha, l295]
    · rw [sR_ne e295, sR_ne hk, l0 a ha]
  · refine PairI_x (y := Int32.ofInt 0) (I' := I) hI hL rfl rfl m1 (fun Q => ?_) (fun L2 Q => ?_) (by omega)
    · simp only [w142_0, w142_1, w142_4, w142_5, w142_8, w142_9, w142_10, w142_11, w142_14, w142_17, w142_18, w142_21, w142_22, w142_23, w142_24, w142_25, w142_28, w142_31, kn_s, kn_n, zh_mk, zR_mk, zI_mk, zL_mk, zD_mk, wI_mk, wL_mk, wD_mk, zT_mk, zC_mk, kill_i, kill_r, kill_0, kill_n, kill_l, kill_q, zzk_r, zzk_0, zzk_q, zcat_r, zcat_i, zcat_0, cats_0, cats_i, cats_r, cats_l, cats_d, cats_f, rv_s, rv_0, Nat.reduceAdd, Nat.reduceLeDiff, Nat.add_zero, Nat.reduceMul, Nat.reduceSub, ne_eq, not_false_eq_true, not_true_eq_false, and_self, and_true, true_and, or_self, or_true, true_or, or_false, false_or, if_true, if_false, reduceIte, reduceCtorEq, implies_true, ite_self, ite_not, k15, c143_x hz hi, kn_x mh142]
    · have cc := c276 (d := d + 39) (N := N) (t := t + 1) (w := 295) (I := I) (L := L2) (D := D) (Q := Q) (F := r64 α) (K := L2 299) hz
      rw [sR_self, if_neg hi] at cc
      exact cc
theorem PairI_mut2 {dA a dB b' n' m' : Nat} {EA EB : Lo} {ex : List (Nat × Nat)} {v : Int32} {IX : (Nat → Nat → Int32) → Nat → Nat → Int32} (hb : b = 19) (hI : Inv xs c t I L) (hf : f < 6) (hr : r ≤ 6) (e1 : I 74 1 = Int32.ofInt (f : Int)) (e2 : I 74 2 = Int32.ofInt (r : Int)) (hE : ∀ i, i < r → ∃ α n m o, LN (76 + 27 * ((f + i) % 6)) I L c α n m o ∧ ∀ k, k < 378 → L 301 (378 * i + k) = Int64.ofInt (α k)) (hN : LN 19 I L c α n m o) (hL : L 295 = r64 α) (e24 : I 294 24 = Int32.ofInt (r : Int))
    (hX : EX (c + 1) β n') (h3 : ∀ I1, IX I1 294 0 = Int32.ofInt 0) (h24 : ∀ I1, IX I1 294 24 = Int32.ofInt (rn r : Int)) (hix : ∀ I1 a k, rI a k → ¬ (a = 294 ∧ k = 24) → IX I1 a k = I1 a k)
    (hcls : ∀ Q : Rs → St → Prop, (∀ (ℓ' : Nat → Nat → Int32) (μ' : Nat → Nat → Int64) (o' : Nat → Nat), RL ℓ' μ' β n' m' o' → GA β n' m' o' → Q (.inl (some (.int v))) (mk N t 295 (lay b ℓ' (rmI f r I)) (lay b μ' (rmL f r L)) D)) → Wp dA a 0 EA [] (mk N t 295 I L D) Q)
    (href : ∀ (I1 : Nat → Nat → Int32) (L2 : Nat → Nat → Int64) (Q : Rs → St → Prop), (∀ k, 4 ≤ k → k ≤ 24 → I1 294 k = I 294 k) → (∀ k, I1 300 k = I 300 k) → L2 299 = L 299 → Wp dB b' 0 EB [] (mk N t 295 I1 (sR L2 295 (r64 α)) D) Q = Q (.inl (some (.int v))) (mk N t 295 (IX I1) (sR (sR L2 301 (rmP r (r64 α) (L2 301))) 295 (r64 β)) D)) : PairI dA a EA ex dB b' EB N xs c t I L D := by
  subst hb
  have hBb := hB_b f r
  intro Q h1 h2
  refine hcls Q (fun ℓ' μ' o' hR hG => h1 _ _ _ _ (fun j => by rw [lay_out (by omega), rmI_o (by omega)]; exact hI.1.1 j) ?_)
  intro L2 Q2 hL2 hQ
  have l295 : L2 295 = r64 α := by
    rw [hL2 295 (by omega), ← hL]
    funext k
    rw [lay_out (by omega), rmL_o (by omega)]
  have e2' : sR L2 295 (r64 α) = L2 := by rw [← l295]; exact sR_self
  have r2 := href (lay 19 ℓ' (rmI f r I)) L2 Q2 (fun k g1 g2 => by rw [lay_out (by omega), rmI_o (by omega)]) (fun k => by rw [lay_out (by omega), rmI_o (by omega)]) (by
    rw [hL2 299 (by omega)]
    funext k
    rw [lay_out (by omega), rmL_o (by omega)])
  rw [e2'] at r2
  rw [r2]
  have l301 : L2 301 = L 301 := by
    rw [hL2 301 (by omega)]
    funext k
    rw [lay_out (by omega), rmL_o (by omega)]
  refine hQ _ _ _ (h3 _) (fun _ => rfl) (by funext k; rw [sR_ne (by omega), sR_ne (by omega)]) ?_
  refine Inv_mut hI (by have := hI.1.2.1; omega) hf hr e1 e2 hE hN (hix _) (h24 _) (fun a ha g1 g2 k => ?_) (by funext k; rw [sR_at]) (by funext k; rw [sR_ne (by omega), sR_at, l301]) hR hG hX
  rw [sR_ne g1, sR_ne g2, hL2 a (by unfold rLo at ha; omega)]
theorem c278' (hs : s < 2) (hr : r ≤ 6) (hI : I 300 s = Int32.ofInt 1) (hR : I 294 24 = Int32.ofInt (r : Int)) (hK : ∀ k, k < 378 → L 299 (378 * s + k) = Int64.ofInt (β k)) : Wp (d + 2) 278 0 [some (.ref 294), some (.int (Int32.ofInt (s : Int))), none] [] (mk N t w I (sR L 295 (r64 α)) D) Q = Q (.inl (some (.int (Int32.ofInt (β 3))))) (mk N t w (up2 (up2 I 294 0 (Int32.ofInt 0)) 294 24 (Int32.ofInt (rn r : Int))) (sR (sR L 301 (rmP r (r64 α) (L 301))) 295 (r64 (cpN 378 β α))) D) := by
  have e3 : (L 299 (378 * s + 3)).toInt32 = Int32.ofInt (β 3) := by rw [hK 3 (by omega), o_32]
  have ec : cpN 378 (fun j => L 299 (378 * s + j)) (r64 α) = r64 (cpN 378 β α) := by
    funext j
    by_cases h : j < 378
    · simp only [cpN, r64, h, if_true]; exact hK j h
    · simp only [cpN, r64, h, if_false]
  have e0 : sR (sR (sR L 299 (L 299)) 301 (L 301)) 295 (r64 α) = sR L 295 (r64 α) := by rw [sR_self, sR_self]
  have e9 : ∀ P : Nat → Int64, sR (sR (sR L 301 P) 299 (L 299)) 295 (r64 (cpN 378 β α)) = sR (sR L 301 P) 295 (r64 (cpN 378 β α)) := fun P => by
    rw [sR_comm (L := L) (by omega), sR_self]
  unfold rn rmP
  by_cases h : r < 6
  · have := c278_a (d := d) (N := N) (t := t) (w := w) (I := I) (L := L) (D := D) (Q := Q) (F := r64 α) (P := L 301) (K := L 299) hs h hI hR
    rw [e0, e3, ec, e9] at this
    rw [if_pos h, if_pos h]
    exact this
  · obtain rfl : r = 6 := by omega
    have := c278_b (d := d) (N := N) (t := t) (w := w) (I := I) (L := L) (D := D) (Q := Q) (F := r64 α) (P := L 301) (K := L 299) hs hI hR
    rw [e0, e3, ec, e9] at this
    rw [if_neg h, if_neg h]
    exact this
theorem pk47 (hI : Inv xs c t I L) : PairI (d + 40) 144 [some (.ref 15), some (.int x)] [(1, 2), (2, 0)] (d + 41) 278 [some (.ref 294), some (.int x), none] N xs c t I L D := by
  obtain ⟨z1, rfl, hz⟩ := o_z x
  obtain ⟨f, r, b, α, n, m, o, hb19, hb, h5, hf, hr, e1, e2, e24, hE, hN, hL, hRr, hR⟩ := Inv_ch hI
  have hG := hN.2.1
  have hX := hN.2.2
  have h10 := hG.1.1
  have hw : RW 295 := Or.inl rfl
  by_cases hi : 0 ≤ z1 ∧ z1 ≤ 1
  · obtain ⟨s, rfl⟩ : ∃ s : Nat, z1 = (s : Int) := ⟨z1.toNat, by omega⟩
    have hs : s < 2 := by omega
    have hK : KE c I L s := by
      have : s = 0 ∨ s = 1 := by omega
      rcases this with rfl | rfl
      · exact hI.2.2.2.2.2.1.1
      · exact hI.2.2.2.2.2.1.2
    rcases hK with ⟨k1, k2⟩ | ⟨k1, k2, β, n', m', o', k3, k4⟩
    · refine PairI_x (y := Int32.ofInt 0) (I' := I) hI hL rfl rfl m2 (fun Q => ?_) (fun L2 Q => ?_) (by omega)
      · simp only [w144_0, w144_1, w144_4, w144_5, w144_8, w144_9, w144_10, w144_13, w144_21, w144_22, w144_25, w144_26, w144_29, w144_32, w144_33, w144_36, w144_37, w144_40, w144_41, w144_42, w144_45, w144_46, w144_49, w144_52, kn_s, kn_n, zh_mk, zR_mk, zI_mk, zL_mk, zD_mk, wI_mk, wL_mk, wD_mk, zT_mk, zC_mk, kill_i, kill_r, kill_0, kill_n, kill_l, kill_q, zzk_r, zzk_0, zzk_q, zcat_r, zcat_i, zcat_0, cats_0, cats_i, cats_r, cats_l, cats_d, cats_f, rv_s, rv_0, Nat.reduceAdd, Nat.reduceLeDiff, Nat.add_zero, Nat.reduceMul, Nat.reduceSub, ne_eq, not_false_eq_true, not_true_eq_false, and_self, and_true, true_and, or_self, or_true, true_or, or_false, false_or, if_true, if_false, reduceIte, reduceCtorEq, implies_true, ite_self, ite_not, k15, k239, kr15_10, c143 (z := (s : Int)) (by omega) (by omega), o_ixn (j := s) (n := 2) (by omega), o_tnn (j := s) (by omega), k1, i00, Nat.zero_le]
      · exact c278_e hs k2
    · have hBb := hB_b f r
      have hz5 : KH N (240 + 27 * s) = (5, 0) := kh0 (LB_s s hs)
      have hX2 : EX (c + 1) (cpN 378 β α) n' := EX_cp (EX_le k3.2.2 (by omega)) k3.2.1.1.1
      have hRs : RL (gl (240 + 27 * s) (rmI f r I)) (gl (240 + 27 * s) (rmL f r L)) β n' m' o' := RL_ext k3.1 (fun a ha k => rmI_o (by omega)) (fun a ha k => by show rmL f r L (240 + 27 * s + a) k = L (240 + 27 * s + a) k; rw [rmL_o (by omega)])
      refine PairI_mut2 (f := f) (r := r) (b := b) (α := α) (n := n) (m := m) (o := o) (n' := n') (m' := m') (β := cpN 378 β α) (v := Int32.ofInt (β 3)) (IX := fun I1 => up2 (up2 I1 294 0 (Int32.ofInt 0)) 294 24 (Int32.ofInt (rn r : Int))) hb19 hI hf hr e1 e2 hE hN hL e24 hX2 (fun I1 => by rw [u2_ne (by omega), u2_same]) (fun I1 => u2_same) (fun I1 a k h h2 => by rw [u2_ne (by omega), u2_ne (by unfold rI at h; omega)]) (fun Q hQ => ?_) (fun I1 L2 Q h4 h300 h299 => ?_)
      · have hc := fun (Q : Rs → St → Prop) => c32t (d := d + 38) (N := N) (t := t) (w := 295) (I := rmI f r I) (L := rmL f r L) (D := D) (Q := Q) hb (LB_s s hs) (by unfold apt; omega)
        have hQ' := hQ _ _ o' (RL_cp (RL_mg (ℓ := gl b (rmI f r I)) (μ := gl b (rmL f r L)) hRs k3.2.1.1.1)) (GA_cp k3.2.1)
        have h3 : lay b (mg CP (gl (240 + 27 * s) (rmI f r I)) (gl b (rmI f r I))) (rmI f r I) b 1 = Int32.ofInt (β 3) := by
          rw [lay_0, mg_y (by unfold CP; omega)]
          exact rd_3 hRs
        simp only [w144_0, w144_1, w144_4, w144_5, w144_8, w144_9, w144_10, w144_13, w144_21, w144_22, w144_25, w144_26, w144_29, w144_32, w144_33, w144_36, w144_37, w144_40, w144_41, w144_42, w144_45, w144_46, w144_49, w144_52, kn_s, kn_n, zh_mk, zR_mk, zI_mk, zL_mk, zD_mk, wI_mk, wL_mk, wD_mk, zT_mk, zC_mk, kill_i, kill_r, kill_0, kill_n, kill_l, kill_q, zzk_r, zzk_0, zzk_q, zcat_r, zcat_i, zcat_0, cats_0, cats_i, cats_r, cats_l, cats_d, cats_f, rv_s, rv_0, Nat.reduceAdd, Nat.reduceLeDiff, Nat.add_zero, Nat.reduceMul, Nat.reduceSub, ne_eq, not_false_eq_true, not_true_eq_false, and_self, and_true, true_and, or_self, or_true, true_or, or_false, false_or, if_true, if_false, reduceIte, reduceCtorEq, implies_true, ite_self, ite_not, k15, k74, h5, kh0 hb, k238, k239, kr15_8, kr15_9, kr15_10, c143 (z := (s : Int)) (by omega) (by omega), o_ixn (j := s) (n := 2) (by omega), o_tnn (j := s) (by omega), k1, i10, c21 hf hr e1 e2 hb19, krS hs, hz5, hc, h3]
        exact hQ'
      · exact c278' hs hr (by rw [h300]; exact k2) (by rw [h4 24 (by omega) (by omega)]; exact e24) (fun k hk => by rw [h299]; exact k4 k hk)
  · refine PairI_x (y := Int32.ofInt 0) (I' := I) hI hL rfl rfl m1 (fun Q => ?_) (fun L2 Q => ?_) (by omega)
    · simp only [w144_0, w144_1, w144_4, w144_5, w144_8, w144_9, w144_10, w144_13, w144_21, w144_22, w144_25, w144_26, w144_29, w144_32, w144_33, w144_36, w144_37, w144_40, w144_41, w144_42, w144_45, w144_46, w144_49, w144_52, kn_s, kn_n, zh_mk, zR_mk, zI_mk, zL_mk, zD_mk, wI_mk, wL_mk, wD_mk, zT_mk, zC_mk, kill_i, kill_r, kill_0, kill_n, kill_l, kill_q, zzk_r, zzk_0, zzk_q, zcat_r, zcat_i, zcat_0, cats_0, cats_i, cats_r, cats_l, cats_d, cats_f, rv_s, rv_0, Nat.reduceAdd, Nat.reduceLeDiff, Nat.add_zero, Nat.reduceMul, Nat.reduceSub, ne_eq, not_false_eq_true, not_true_eq_false, and_self, and_true, true_and, or_self, or_true, true_or, or_false, false_or, if_true, if_false, reduceIte, reduceCtorEq, implies_true, ite_self, ite_not, k15, c143_x hz hi, kn_x mh144]
    · exact c278_n hz hi
theorem c22 (hf : f < 6) (hr : r ≤ 6) (h0 : 0 < r) (e1 : I 74 1 = Int32.ofInt (f : Int)) (e2 : I 74 2 = Int32.ofInt (r : Int)) (hb : b = 19) : Wp (d + 2) 22 0 [some (.ref 74), some (.ref b)] [] (mk N t w I L D) Q = Q (.inl none) (mk N t w (lay 19 (mg CP (gl (hB f (r - 1)) I) (gl 19 I)) (up2 I 74 2 (Int32.ofInt ((r - 1 : Nat) : Int)))) (lay 19 (muC (gl (hB f (r - 1)) L) (gl 19 L)) L) D) := by
  subst hb
  have hj : (f + (r - 1)) % 6 < 6 := Nat.mod_lt _ (by omega)
  have er1 : (r : Int) - 1 = ((r - 1 : Nat) : Int) := by omega
  have e12 : (f : Int) + ((r - 1 : Nat) : Int) = ((f + (r - 1) : Nat) : Int) := by omega
  have er := o_rem (x := f + (r - 1)) (y := 6) (by omega) (by omega)
  rw [show ((6 : Nat) : Int) = 6 from rfl] at er
  have hBb := hB_b f (r - 1)
  have hk : rv (KR w 75 ((f + (r - 1)) % 6)) = .ref (hB f (r - 1)) := krH hj
  have hz : KH N (hB f (r - 1)) = (5, 0) := kh0 (hB_L f (r - 1))
  have ea : apt 19 (hB f (r - 1)) := by unfold apt; omega
  have hc := fun (Q : Rs → St → Prop) => c32t (d := d) (N := N) (t := t) (w := w) (I := up2 I 74 2 (Int32.ofInt ((r - 1 : Nat) : Int))) (L := L) (D := D) (Q := Q) LB_now (hB_L f (r - 1)) ea
  have g1 : gl (hB f (r - 1)) (up2 I 74 2 (Int32.ofInt ((r - 1 : Nat) : Int))) = gl (hB f (r - 1)) I := by
    funext a k
    exact u2_ne (by omega)
  have g2 : gl 19 (up2 I 74 2 (Int32.ofInt ((r - 1 : Nat) : Int))) = (fun a k => up2 I 74 2 (Int32.ofInt ((r - 1 : Nat) : Int)) (19 + a) k) := rfl
  have g : 0 < (r : Int) := by omega
  have e1' : up2 I 74 2 (Int32.ofInt ((r - 1 : Nat) : Int)) 74 1 = Int32.ofInt (f : Int) := by rw [u2_ne (by omega)]; exact e1
  have e3 : lay 19 (mg CP (gl (hB f (r - 1)) I) (gl 19 (up2 I 74 2 (Int32.ofInt ((r - 1 : Nat) : Int))))) (up2 I 74 2 (Int32.ofInt ((r - 1 : Nat) : Int))) = lay 19 (mg CP (gl (hB f (r - 1)) I) (gl 19 I)) (up2 I 74 2 (Int32.ofInt ((r - 1 : Nat) : Int))) := by
    funext a k
    unfold lay
    by_cases h : 19 ≤ a ∧ a < 19 + 27
    · rw [if_pos h, if_pos h]
      by_cases hc : CP (a - 19) k
      · rw [mg_y hc, mg_y hc]
      · rw [mg_n hc, mg_n hc]
        exact u2_ne (by omega)
    · rw [if_neg h, if_neg h]
  rw [g1] at hc
  simp only [e3] at hc
  simp only [w22_0, w22_1, w22_4, w22_7, w22_8, w22_9, w22_12, w22_13, w22_14, w22_17, w22_18, w22_19, w22_22, w22_23, w22_26, w22_27, w22_30, w22_31, w22_33, w22_34, w22_35, w22_38, kn_s, kn_n, zh_mk, zR_mk, zI_mk, zL_mk, zD_mk, wI_mk, wL_mk, wD_mk, zT_mk, zC_mk, kill_i, kill_r, kill_0, kill_n, kill_l, kill_q, zzk_r, zzk_0, zzk_q, zcat_r, zcat_i, zcat_0, cats_0, cats_i, cats_r, cats_l, cats_d, cats_f, rv_s, rv_0, Nat.reduceAdd, Nat.reduceLeDiff, Nat.add_zero, Nat.reduceMul, Nat.reduceSub, ne_eq, not_false_eq_true, not_true_eq_false, and_self, and_true, true_and, or_self, or_true, true_or, or_false, false_or, if_true, if_false, reduceIte, reduceCtorEq, implies_true, ite_self, ite_not, k74, k75, kr74_0, e1', e2, o_add, o_sub, er1, e12, o60, er, up2_own, o_ixn (j := (f + (r - 1)) % 6) (n := 6) (by omega), o_tnn (j := (f + (r - 1)) % 6) (by omega), hk, hz, kh0 LB_now, hc, o_lt (a := 0) (b := (r : Int)) (by omega), g]
theorem pk48 (hI : Inv xs c t I L) : PairI (d + 40) 145 [some (.ref 15)] [(1, 0)] (d + 41) 279 [some (.ref 294), none] N xs c t I L D := by
  obtain ⟨f, r, b, α, n, m, o, hb19, hb, h5, hf, hr, e1, e2, e24, hE, hN, hL, hRr, hR⟩ := Inv_ch hI
  have hG := hN.2.1
  have hX := hN.2.2
  have h10 := hG.1.1
  have hw : RW 295 := Or.inl rfl
  by_cases h0 : 0 < r
  · have hBb := hB_b f (r - 1)
    obtain ⟨β, n', m', o', k3, k4⟩ := hE (r - 1) (by omega)
    have k3 : LN (hB f (r - 1)) I L c β n' m' o' := k3
    intro Q h1 h2
    have hr0 : ¬ (Int32.ofInt (r : Int) = Int32.ofInt 0) := by rw [o_eq (by omega)]; omega
    have h74 : lay 19 (mg CP (gl (hB f (r - 1)) I) (gl 19 I)) (up2 I 74 2 (Int32.ofInt ((r - 1 : Nat) : Int))) 74 2 = Int32.ofInt ((r - 1 : Nat) : Int) := by rw [lay_out (by omega), u2_same]
    have hcls : Wp (d + 40) 145 0 [some (.ref 15)] [] (mk N t 295 I L D) Q = Q (.inl (some (.int (Int32.ofInt ((r - 1 : Nat) : Int))))) (mk N t 295 (lay 19 (mg CP (gl (hB f (r - 1)) I) (gl 19 I)) (up2 I 74 2 (Int32.ofInt ((r - 1 : Nat) : Int)))) (lay 19 (muC (gl (hB f (r - 1)) L) (gl 19 L)) L) D) := by
      simp only [w145_0, w145_1, w145_4, w145_7, w145_10, w145_18, w145_19, w145_22, w145_23, w145_26, w145_29, w145_30, w145_33, w145_36, kn_s, kn_n, zh_mk, zR_mk, zI_mk, zL_mk, zD_mk, wI_mk, wL_mk, wD_mk, zT_mk, zC_mk, kill_i, kill_r, kill_0, kill_n, kill_l, kill_q, zzk_r, zzk_0, zzk_q, zcat_r, zcat_i, zcat_0, cats_0, cats_i, cats_r, cats_l, cats_d, cats_f, rv_s, rv_0, Nat.reduceAdd, Nat.reduceLeDiff, Nat.add_zero, Nat.reduceMul, Nat.reduceSub, ne_eq, not_false_eq_true, not_true_eq_false, and_self, and_true, true_and, or_self, or_true, true_or, or_false, false_or, if_true, if_false, reduceIte, reduceCtorEq, implies_true, ite_self, ite_not, k15, k74, kr15_8, h5, e2, eq_false hr0, c22 hf hr h0 e1 e2 hb19, h74]
    rw [hcls]
    refine h1 _ _ _ _ (fun j => by rw [lay_out (by omega), u2_ne (by omega)]; exact hI.1.1 j) ?_
    intro L2 Q2 hL2 hQ
    have l0 : ∀ a, rLo a → ∀ k, L2 a k = lay 19 (muC (gl (hB f (r - 1)) L) (gl 19 L)) L a k := fun a ha k => by rw [hL2 a (by unfold rLo at ha; omega)]
    have l295 : L2 295 = r64 α := by
      rw [← hL]
      funext k
      rw [l0 295 (by unfold rLo; omega), lay_out (by omega)]
    have l301 : L2 301 = L 301 := by
      funext k
      rw [l0 301 (by unfold rLo; omega), lay_out (by omega)]
    have e2' : sR (sR L2 301 (L2 301)) 295 (r64 α) = L2 := by rw [sR_self, ← l295]; exact sR_self
    have cc := c279 (d := d + 39) (N := N) (t := t) (w := 295) (I := lay 19 (mg CP (gl (hB f (r - 1)) I) (gl 19 I)) (up2 I 74 2 (Int32.ofInt ((r - 1 : Nat) : Int)))) (L := L2) (D := D) (Q := Q2) (F := r64 α) (P := L2 301) hr (by rw [lay_out (by omega), u2_ne (by omega)]; exact e24)
    rw [e2', if_pos h0, sR_self] at cc
    have ec : cpN 378 (fun j => L2 301 (378 * (r - 1) + j)) (r64 α) = r64 (cpN 378 β α) := by
      funext j
      by_cases h : j < 378
      · simp only [cpN, r64, h, if_true, l301]; exact k4 j h
      · simp only [cpN, r64, h, if_false]
    rw [ec] at cc
    rw [cc]
    refine hQ _ _ _ (by rw [u2_ne (by omega), u2_same]) (fun _ => rfl) (by funext k; rw [sR_ne (by omega)]) ?_
    have q : ∀ a k, (a < 19 ∨ (74 < a ∧ a < 294) ∨ (a = 294 ∧ (k = 13 ∨ (19 ≤ k ∧ k ≠ 24))) ∨ (295 ≤ a ∧ a < 303)) → up2 (up2 (lay 19 (mg CP (gl (hB f (r - 1)) I) (gl 19 I)) (up2 I 74 2 (Int32.ofInt ((r - 1 : Nat) : Int)))) 294 0 (Int32.ofInt 0)) 294 24 (Int32.ofInt ((r - 1 : Nat) : Int)) a k = I a k := fun a k h => by
      rw [u2_ne (by omega), u2_ne (by omega), lay_out (by omega), u2_ne (by omega)]
    have ql : ∀ a, (a < 19 ∨ (74 ≤ a ∧ a < 295) ∨ (298 ≤ a ∧ a < 303)) → ∀ k, sR L2 295 (r64 (cpN 378 β α)) a k = L a k := fun a h k => by
      rw [sR_ne (by omega), l0 a (by unfold rLo; omega), lay_out (by omega)]
    refine Inv_mk hI (by have := hI.1.2.1; omega) (fun a k ha => q a k (by omega)) (IN_ext hI.2.1 (fun k => q _ _ (by omega)) (q _ _ (by omega)) (fun k => q _ _ (by omega)) (fun k => q _ _ (by omega))) ⟨?_, ?_⟩ (OU_ext hI.2.2.2.1 (fun k => q _ _ (by omega)) (q _ _ (by omega)) (fun k => q _ _ (by omega)) (fun k => q _ _ (by omega))) ⟨cpN 378 β α, n', m', o', ⟨RL_cp (RL_ext (RL_mg (ℓ := gl 19 I) (μ := gl 19 L) k3.1 k3.2.1.1.1) (fun a ha k => ?_) (fun a ha k => ?_)), GA_cp k3.2.1, EX_cp (EX_le k3.2.2 (by omega)) k3.2.1.1.1⟩, by funext k; rw [sR_at]⟩ (KE_ext hI.2.2.2.2.2.1.1 (by omega) (fun k => q _ _ (by omega)) (fun k => q _ _ (by omega)) (fun a _ _ k => q _ _ (by omega)) (fun a _ _ k => ql a (by omega) k) (fun k => Or.inl (ql 299 (by omega) _))) (KE_ext hI.2.2.2.2.2.1.2 (by omega) (fun k => q _ _ (by omega)) (fun k => q _ _ (by omega)) (fun a _ _ k => q _ _ (by omega)) (fun a _ _ k => ql a (by omega) k) (fun k => Or.inl (ql 299 (by omega) _))) ⟨f, r - 1, hf, by omega, ?_, ?_, u2_same, fun i hi => ?_⟩
    · rw [q _ _ (by omega), q 294 19 (by omega)]; exact hI.2.2.1.1
    · rw [q _ _ (by omega), q 294 20 (by omega)]; exact hI.2.2.1.2
    · show up2 _ 294 24 _ (19 + a) k = _
      rw [u2_ne (by omega), u2_ne (by omega), lay_in ha]
    · show sR L2 295 _ (19 + a) k = _
      rw [sR_ne (by omega), l0 _ (by unfold rLo; omega), lay_in ha]
    · rw [u2_ne (by omega), u2_ne (by omega), lay_out (by omega), u2_ne (by omega)]; exact e1
    · rw [u2_ne (by omega), u2_ne (by omega), lay_out (by omega), u2_same]
    · obtain ⟨γ, a1, a2, a3, g1, g2⟩ := hE i (by omega)
      have h6 : (f + i) % 6 < 6 := Nat.mod_lt _ (by omega)
      exact ⟨γ, a1, a2, a3, LN_ext g1 (by omega) (fun a ha hb k => q a k (by omega)) (fun a ha hb k => ql a (by omega) k), fun k hk => by rw [ql 301 (by omega)]; exact g2 k hk⟩
  · obtain rfl : r = 0 := by omega
    refine PairI_x (y := Int32.ofInt 0) (I' := I) hI hL rfl rfl m1 (fun Q => ?_) (fun L2 Q => ?_) (by omega)
    · simp only [w145_0, w145_1, w145_4, w145_7, w145_10, w145_18, w145_19, w145_22, w145_23, w145_26, w145_29, w145_30, w145_33, w145_36, kn_s, kn_n, zh_mk, zR_mk, zI_mk, zL_mk, zD_mk, wI_mk, wL_mk, wD_mk, zT_mk, zC_mk, kill_i, kill_r, kill_0, kill_n, kill_l, kill_q, zzk_r, zzk_0, zzk_q, zcat_r, zcat_i, zcat_0, cats_0, cats_i, cats_r, cats_l, cats_d, cats_f, rv_s, rv_0, Nat.reduceAdd, Nat.reduceLeDiff, Nat.add_zero, Nat.reduceMul, Nat.reduceSub, ne_eq, not_false_eq_true, not_true_eq_false, and_self, and_true, true_and, or_self, or_true, true_or, or_false, false_or, if_true, if_false, reduceIte, reduceCtorEq, implies_true, ite_self, ite_not, k15, k74, kr15_8, e2, show (Int32.ofInt ((0 : Nat) : Int) = Int32.ofInt 0) = True from eq_true rfl, Nat.zero_le]
    · have cc := c279 (d := d + 39) (N := N) (t := t + 1) (w := 295) (I := I) (L := L2) (D := D) (Q := Q) (F := r64 α) (P := L2 301) hr e24
      rw [sR_self, if_neg h0] at cc
      exact cc
end S72
