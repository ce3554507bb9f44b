/-! REMEMBERING on both sides; the invariant behind a change -/
def hB (f r : Nat) : Nat := 76 + 27 * ((f + r) % 6)
theorem hB_b (f r : Nat) : 76 ≤ hB f r ∧ hB f r + 27 ≤ 238 := by
  have : (f + r) % 6 < 6 := Nat.mod_lt _ (by omega)
  unfold hB
  omega
theorem LB_h : ∀ j, j < 6 → 76 + 27 * j ∈ LBs := by decide
theorem hB_L (f r : Nat) : LB (hB f r) := LB_h _ (Nat.mod_lt _ (by omega))
theorem hB_apt (f r : Nat) : apt (hB f r) 19 := by
  have := hB_b f r
  unfold apt
  omega
theorem LB_now : LB 19 := by unfold LB; decide
noncomputable def rmI (f r : Nat) (I : Nat → Nat → Int32) : Nat → Nat → Int32 := if r < 6 then up2 (lay (hB f r) (mg CP (gl 19 I) (gl (hB f r) I)) I) 74 2 (Int32.ofInt ((r + 1 : Nat) : Int)) else up2 (lay (hB f r) (mg CP (gl 19 I) (gl (hB f r) I)) I) 74 1 (Int32.ofInt (((f + 1) % 6 : Nat) : Int))
def rmL (f r : Nat) (L : Nat → Nat → Int64) : Nat → Nat → Int64 := lay (hB f r) (muC (gl 19 L) (gl (hB f r) L)) L
def rn (r : Nat) : Nat := if r < 6 then r + 1 else 6
def rmP (r : Nat) (F P : Nat → Int64) : Nat → Int64 := if r < 6 then blk (378 * r) 378 F P else blk (378 * 5) 378 F (shf 2268 P)
theorem krH_d : ∀ j, j < 6 → KR0 75 j = 76 + 27 * j + 1 := by decide +kernel
theorem k74 {N : Nat} : KH N 74 = (4, 0) := nr rfl
theorem k75 {N : Nat} : KH N 75 = (18, 6) := nr rfl
theorem kr74_0 {w : Nat} : rv (KR w 74 0) = .ref 75 := nr rfl
theorem kr15_8 {w : Nat} : rv (KR w 15 8) = .ref 74 := nr rfl
theorem krH {w j : Nat} (h : j < 6) : rv (KR w 75 j) = .ref (76 + 27 * j) := by
  unfold KR
  rw [if_neg (by omega), krH_d j h]
  rfl
theorem o60 : (Int32.ofInt 6 = Int32.ofInt 0) = False := by decide
section S67
variable {d N t w f r b n m c c' : Nat} {I I' : Nat → Nat → Int32} {L L' : Nat → Nat → Int64} {D : Nat → Nat → UInt64} {Q : Rs → St → Prop} {o : Nat → Nat} {α : Nat → Int} {xs : Nat → Int32}
theorem rmI_o {a k : Nat} (h : (a < 74 ∨ 74 < a) ∧ (a < hB f r ∨ hB f r + 27 ≤ a)) : rmI f r I a k = I a k := by
  unfold rmI
  split
  · rw [u2_ne (by omega), lay_out h.2]
  · rw [u2_ne (by omega), lay_out h.2]
theorem rmI_i {q k : Nat} (h : q < 27) : rmI f r I (hB f r + q) k = mg CP (gl 19 I) (gl (hB f r) I) q k := by
  have := hB_b f r
  unfold rmI
  split
  · rw [u2_ne (by omega), lay_in h]
  · rw [u2_ne (by omega), lay_in h]
theorem rmI_74 : rmI f r I 74 1 = (if r < 6 then I 74 1 else Int32.ofInt (((f + 1) % 6 : Nat) : Int)) ∧ rmI f r I 74 2 = (if r < 6 then Int32.ofInt ((r + 1 : Nat) : Int) else I 74 2) := by
  have := hB_b f r
  unfold rmI
  split
  · rw [u2_ne (by omega), lay_out (by omega), u2_same]
    exact ⟨rfl, rfl⟩
  · rw [u2_same, u2_ne (by omega), lay_out (by omega)]
    exact ⟨rfl, rfl⟩
theorem rmL_o {a : Nat} (h : a < hB f r ∨ hB f r + 27 ≤ a) : rmL f r L a = L a := by
  funext k
  exact lay_out h
theorem rmL_i {q k : Nat} (h : q < 27) : rmL f r L (hB f r + q) k = muC (gl 19 L) (gl (hB f r) L) q k := lay_in h
theorem c21 (hf : f < 6) (hr : r ≤ 6) (e1 : I 74 1 = Int32.ofInt (f : Int)) (e2 : I 74 2 = Int32.ofInt (r : Int)) (hb : b = 19) : Wp (d + 2) 21 0 [some (.ref 74), some (.ref b)] [] (mk N t w I L D) Q = Q (.inl none) (mk N t w (rmI f r I) (rmL f r L) D) := by
  subst hb
  have hj : (f + r) % 6 < 6 := Nat.mod_lt _ (by omega)
  have e12 : (f : Int) + (r : Int) = ((f + r : Nat) : Int) := by omega
  have er := o_rem (x := f + r) (y := 6) (by omega) (by omega)
  have er2 := o_rem (x := f + 1) (y := 6) (by omega) (by omega)
  rw [show ((6 : Nat) : Int) = 6 from rfl] at er er2
  have hBb := hB_b f r
  have hk := krH (w := w) hj
  have hl : ∀ (F : Nat → Nat → Int32) (k : Nat), lay (hB f r) F I 74 k = I 74 k := fun F k => lay_out (by omega)
  have hc := fun (Q : Rs → St → Prop) => c32t (d := d) (N := N) (t := t) (w := w) (I := I) (L := L) (D := D) (Q := Q) (hB_L f r) LB_now (hB_apt f r)
  have hk : rv (KR w 75 ((f + r) % 6)) = .ref (hB f r) := hk
  have hz : KH N (hB f r) = (5, 0) := kh0 (hB_L f r)
  unfold rmI rmL
  by_cases h6 : r < 6
  · have g : (r : Int) < 6 := by omega
    simp only [w21_0, w21_1, w21_4, w21_5, w21_8, w21_9, w21_12, w21_13, w21_15, w21_16, w21_17, w21_18, w21_21, w21_22, w21_25, w21_27, w21_30, w21_31, w21_32, w21_35, w21_36, w21_37, w21_40, w21_43, w21_44, w21_45, w21_48, w21_49, w21_50, w21_52, w21_53, w21_56, kn_s, kn_n, zh_mk, zR_mk, zI_mk, zL_mk, zD_mk, wI_mk, wL_mk, wD_mk, zT_mk, zC_mk, kill_i, kill_r, kill_0, kill_n, kill_l, kill_q, zzk_r, zzk_0, zzk_q, zcat_r, zcat_i, zcat_0, cats_0, cats_i, cats_r, cats_l, cats_d, cats_f, rv_s, rv_0, Nat.reduceAdd, Nat.reduceLeDiff, Nat.add_zero, Nat.reduceMul, Nat.reduceSub, ne_eq, not_false_eq_true, not_true_eq_false, and_self, and_true, true_and, or_self, or_true, true_or, or_false, false_or, if_true, if_false, reduceIte, reduceCtorEq, implies_true, ite_self, ite_not, k74, k75, kr74_0, e1, e2, o_add, e12, o60, er, o_ixn (j := (f + r) % 6) (n := 6) (by omega), o_tnn (j := (f + r) % 6) (by omega), hk, hz, hc, hl, o_lt (a := (r : Int)) (b := 6) (by omega), g, h6, cast_s]
  · have g : ¬ ((r : Int) < 6) := by omega
    simp only [w21_0, w21_1, w21_4, w21_5, w21_8, w21_9, w21_12, w21_13, w21_15, w21_16, w21_17, w21_18, w21_21, w21_22, w21_25, w21_27, w21_30, w21_31, w21_32, w21_35, w21_36, w21_37, w21_40, w21_43, w21_44, w21_45, w21_48, w21_49, w21_50, w21_52, w21_53, w21_56, kn_s, kn_n, zh_mk, zR_mk, zI_mk, zL_mk, zD_mk, wI_mk, wL_mk, wD_mk, zT_mk, zC_mk, kill_i, kill_r, kill_0, kill_n, kill_l, kill_q, zzk_r, zzk_0, zzk_q, zcat_r, zcat_i, zcat_0, cats_0, cats_i, cats_r, cats_l, cats_d, cats_f, rv_s, rv_0, Nat.reduceAdd, Nat.reduceLeDiff, Nat.add_zero, Nat.reduceMul, Nat.reduceSub, ne_eq, not_false_eq_true, not_true_eq_false, and_self, and_true, true_and, or_self, or_true, true_or, or_false, false_or, if_true, if_false, reduceIte, reduceCtorEq, implies_true, ite_self, ite_not, k74, k75, kr74_0, e1, e2, o_add, e12, o60, er, er2, o_ixn (j := (f + r) % 6) (n := 6) (by omega), o_tnn (j := (f + r) % 6) (by omega), hk, hz, hc, hl, o_lt (a := (r : Int)) (b := 6) (by omega), g, h6, cast_s]
theorem c188' {F : Nat → Int64} (hr : r ≤ 6) (hI : I 294 24 = Int32.ofInt (r : Int)) : Wp d 188 0 [some (.ref 294), none] [] (mk N t w I (sR L 295 F) D) Q = Q (.inl none) (mk N t w (up2 I 294 24 (Int32.ofInt (rn r : Int))) (sR (sR L 301 (rmP r F (L 301))) 295 F) D) := by
  unfold rn rmP
  by_cases h : r < 6
  · have := c188_a (d := d) (N := N) (t := t) (w := w) (I := I) (L := L) (D := D) (Q := Q) (F := F) (P := L 301) h hI
    rw [sR_self] at this
    rw [if_pos h, if_pos h]
    exact this
  · obtain rfl : r = 6 := by omega
    have := c188_b (d := d) (N := N) (t := t) (w := w) (I := I) (L := L) (D := D) (Q := Q) (F := F) (P := L 301) hI
    rw [sR_self] at this
    rw [if_neg h, if_neg h]
    exact this
/-- the line that was remembered -/
theorem LN_rm (h : LN 19 I L c α n m o) : LN (hB f r) (rmI f r I) (rmL f r L) c α n m o :=
  ⟨RL_ext (RL_mg h.1 h.2.1.1.1) (fun a ha k => rmI_i ha) (fun a ha k => rmL_i ha), h.2⟩
/-- what can be undone behind remembering -/
theorem HI_push (hc : c ≤ c') (hf : f < 6) (hr : r ≤ 6) (e1 : I 74 1 = Int32.ofInt (f : Int)) (e2 : I 74 2 = Int32.ofInt (r : Int)) (hE : ∀ i, i < r → ∃ α n m o, LN (76 + 27 * ((f + i) % 6)) I L c α n m o ∧ ∀ k, k < 378 → L 301 (378 * i + k) = Int64.ofInt (α k)) (hN : LN 19 I L c α n m o)
    (h74 : ∀ k, I' 74 k = rmI f r I 74 k) (h24 : I' 294 24 = Int32.ofInt (rn r : Int)) (hl : ∀ a, 76 ≤ a → a < 238 → ∀ k, I' a k = rmI f r I a k) (hL : ∀ a, 76 ≤ a → a < 238 → ∀ k, L' a k = rmL f r L a k) (h301 : L' 301 = rmP r (r64 α) (L 301)) : HI c' I' L' := by
  have hBb := hB_b f r
  have hj : (f + r) % 6 < 6 := Nat.mod_lt _ (by omega)
  have old : ∀ i, i < r → (f + i) % 6 ≠ (f + r) % 6 → ∃ α n m o, LN (76 + 27 * ((f + i) % 6)) I' L' c' α n m o ∧ ∀ k, k < 378 → L 301 (378 * i + k) = Int64.ofInt (α k) := by
    intro i hi hne
    obtain ⟨β, n', m', o', g1, g2⟩ := hE i hi
    have hi6 : (f + i) % 6 < 6 := Nat.mod_lt _ (by omega)
    refine ⟨β, n', m', o', LN_ext g1 hc (fun a ha hb k => ?_) (fun a ha hb k => ?_), g2⟩
    · rw [hl a (by omega) (by omega), rmI_o (by unfold hB; omega)]
    · rw [hL a (by omega) (by omega), rmL_o (by unfold hB; omega)]
  have new : LN (hB f r) I' L' c' α n m o := LN_ext (LN_rm hN) hc (fun a ha hb k => hl a (by omega) (by omega) k) (fun a ha hb k => hL a (by omega) (by omega) k)
  have h7 := rmI_74 (f := f) (r := r) (I := I)
  unfold rn at h24
  unfold rmP at h301
  by_cases h6 : r < 6
  · rw [if_pos h6] at h24 h301
    rw [if_pos h6, if_pos h6] at h7
    refine ⟨f, r + 1, hf, by omega, by rw [h74, h7.1]; exact e1, by rw [h74, h7.2], h24, fun i hi => ?_⟩
    by_cases hir : i = r
    · subst hir
      refine ⟨α, n, m, o, new, fun k hk => ?_⟩
      rw [h301]
      unfold blk
      rw [if_pos (by omega), Nat.add_sub_cancel_left]
      rfl
    · obtain ⟨β, n', m', o', g1, g2⟩ := old i (by omega) (by omega)
      refine ⟨β, n', m', o', g1, fun k hk => ?_⟩
      rw [h301]
      unfold blk
      rw [if_neg (by omega)]
      exact g2 k hk
  · obtain rfl : r = 6 := by omega
    rw [if_neg h6] at h24 h301
    rw [if_neg h6, if_neg h6] at h7
    refine ⟨(f + 1) % 6, 6, Nat.mod_lt _ (by omega), by omega, by rw [h74, h7.1], by rw [h74, h7.2]; exact e2, h24, fun i hi => ?_⟩
    by_cases hir : i = 5
    · subst hir
      refine ⟨α, n, m, o, ?_, fun k hk => ?_⟩
      · rw [show 76 + 27 * (((f + 1) % 6 + 5) % 6) = hB f 6 by unfold hB; omega]
        exact new
      · rw [h301]
        unfold blk
        rw [if_pos (by omega), Nat.add_sub_cancel_left]
        rfl
    · obtain ⟨β, n', m', o', g1, g2⟩ := old (i + 1) (by omega) (by omega)
      refine ⟨β, n', m', o', ?_, fun k hk => ?_⟩
      · rw [show 76 + 27 * (((f + 1) % 6 + i) % 6) = 76 + 27 * ((f + (i + 1)) % 6) by omega]
        exact g1
      · rw [h301]
        unfold blk
        rw [if_neg (by omega)]
        unfold shf
        rw [if_pos (by omega), show 378 * i + k + 378 = 378 * (i + 1) + k by omega]
        exact g2 k hk
/-- the invariant behind a change that is remembered -/
theorem Inv_mut {t0 n' m' : Nat} {o' : Nat → Nat} {β : Nat → Int} {ℓ' : Nat → Nat → Int32} {μ' : Nat → Nat → Int64} (hI : Inv xs c t0 I L) (ht : t ≤ c + 1) (hf : f < 6) (hr : r ≤ 6) (e1 : I 74 1 = Int32.ofInt (f : Int)) (e2 : I 74 2 = Int32.ofInt (r : Int)) (hE : ∀ i, i < r → ∃ α n m o, LN (76 + 27 * ((f + i) % 6)) I L c α n m o ∧ ∀ k, k < 378 → L 301 (378 * i + k) = Int64.ofInt (α k)) (hN : LN 19 I L c α n m o)
    (hi : ∀ a k, rI a k → ¬ (a = 294 ∧ k = 24) → I' a k = lay 19 ℓ' (rmI f r I) a k) (h24 : I' 294 24 = Int32.ofInt (rn r : Int)) (hl : ∀ a, rLo a → a ≠ 295 → a ≠ 301 → ∀ k, L' a k = lay 19 μ' (rmL f r L) a k) (h295 : L' 295 = r64 β) (h301 : L' 301 = rmP r (r64 α) (L 301)) (hR : RL ℓ' μ' β n' m' o') (hG : GA β n' m' o') (hX : EX (c + 1) β n') : Inv xs (c + 1) t I' L' := by
  have hBb := hB_b f r
  have q : ∀ a k, (a < 19 ∨ (238 ≤ a ∧ a < 294) ∨ (a = 294 ∧ (k = 13 ∨ (19 ≤ k ∧ k ≠ 24))) ∨ (295 ≤ a ∧ a < 303)) → I' a k = I a k := fun a k h => by
    rw [hi a k (by unfold rI; omega) (by omega), lay_out (by omega), rmI_o (by omega)]
  have ql : ∀ a, (a < 19 ∨ (238 ≤ a ∧ a < 295) ∨ (298 ≤ a ∧ a < 303 ∧ a ≠ 301)) → ∀ k, L' a k = L a k := fun a h k => by
    rw [hl a (by unfold rLo; omega) (by omega) (by omega), lay_out (by omega), rmL_o (by omega)]
  refine Inv_mk hI ht (fun a k ha => q a k (by omega)) (IN_ext hI.2.1 (fun k => q _ _ (by omega)) (q _ _ (by omega)) (fun k => q _ _ (by omega)) (fun k => q _ _ (by omega))) ⟨?_, ?_⟩ (OU_ext hI.2.2.2.1 (fun k => q _ _ (by omega)) (q _ _ (by omega)) (fun k => q _ _ (by omega)) (fun k => q _ _ (by omega))) ⟨β, n', m', o', ⟨RL_ext hR (fun a ha k => ?_) (fun a ha k => ?_), hG, hX⟩, h295⟩ (KE_ext hI.2.2.2.2.2.1.1 (by omega) (fun k => q _ _ (by omega)) (fun k => q _ _ (by omega)) (fun a _ _ k => q _ _ (by omega)) (fun a _ _ k => ql a (by omega) k) (fun k => Or.inl (ql 299 (by omega) _))) (KE_ext hI.2.2.2.2.2.1.2 (by omega) (fun k => q _ _ (by omega)) (fun k => q _ _ (by omega)) (fun a _ _ k => q _ _ (by omega)) (fun a _ _ k => ql a (by omega) k) (fun k => Or.inl (ql 299 (by omega) _))) (HI_push (by omega) hf hr e1 e2 hE hN (fun k => ?_) h24 (fun a ha hb k => ?_) (fun a ha hb k => ?_) h301)
  · rw [q _ _ (by omega), q 294 19 (by omega)]; exact hI.2.2.1.1
  · rw [q _ _ (by omega), q 294 20 (by omega)]; exact hI.2.2.1.2
  · show I' (19 + a) k = _
    rw [hi _ _ (by unfold rI; omega) (by omega), lay_in ha]
  · show L' (19 + a) k = _
    rw [hl _ (by unfold rLo; omega) (by omega) (by omega), lay_in ha]
  · rw [hi _ _ (by unfold rI; omega) (by omega), lay_out (by omega)]
  · rw [hi _ _ (by unfold rI; omega) (by omega), lay_out (by omega)]
  · rw [hl _ (by unfold rLo; omega) (by omega) (by omega), lay_out (by omega)]
/-- the start of a change: what both sides hold -/
theorem Inv_ch {t0 : Nat} (h : Inv xs c t0 I L) : ∃ (f r b : Nat) (α : Nat → Int) (n m : Nat) (o : Nat → Nat), b = 19 ∧ LB b ∧ rv (KR 295 15 5) = .ref b ∧ f < 6 ∧ r ≤ 6 ∧ I 74 1 = Int32.ofInt (f : Int) ∧ I 74 2 = Int32.ofInt (r : Int) ∧ I 294 24 = Int32.ofInt (r : Int) ∧ (∀ i, i < r → ∃ α n m o, LN (76 + 27 * ((f + i) % 6)) I L c α n m o ∧ ∀ k, k < 378 → L 301 (378 * i + k) = Int64.ofInt (α k)) ∧ LN 19 I L c α n m o ∧ L 295 = r64 α ∧ RL (gl b (rmI f r I)) (gl b (rmL f r L)) α n m o ∧ RL (gl b I) (gl b L) α n m o := by
  obtain ⟨f, r, h1, h2, h3, h4, h5, h6⟩ := h.2.2.2.2.2.2
  obtain ⟨α, n, m, o, h7, h8⟩ := h.2.2.2.2.1
  have hBb := hB_b f r
  exact ⟨f, r, 19, α, n, m, o, rfl, LB_now, rfl, h1, h2, h3, h4, h5, h6, h7, h8, RL_ext h7.1 (fun a ha k => rmI_o (by omega)) (fun a ha k => by show rmL f r L (19 + a) k = L (19 + a) k; rw [rmL_o (by omega)]), h7.1⟩
/-- a change, agreed -/
theorem PairI_mut {dA a dB b' n' m' : Nat} {EA EB : Lo} {ex : List (Nat × Nat)} {β : Nat → Int} {v : Int32} {IX : (Nat → Nat → Int32) → Nat → Nat → Int32} (hb : b = 19) (hI : Inv xs c t I L) (hf : f < 6) (hr : r ≤ 6) (e1 : I 74 1 = Int32.ofInt (f : Int)) (e2 : I 74 2 = Int32.ofInt (r : Int)) (hE : ∀ i, i < r → ∃ α n m o, LN (76 + 27 * ((f + i) % 6)) I L c α n m o ∧ ∀ k, k < 378 → L 301 (378 * i + k) = Int64.ofInt (α k)) (hN : LN 19 I L c α n m o) (hL : L 295 = r64 α) (e24 : I 294 24 = Int32.ofInt (r : Int))
    (hX : EX (c + 1) β n') (h3 : ∀ I1, IX I1 294 0 = Int32.ofInt 0) (h24 : ∀ I1, IX I1 294 24 = Int32.ofInt (rn r : Int)) (hix : ∀ I1 a k, rI a k → ¬ (a = 294 ∧ k = 24) → IX I1 a k = I1 a k)
    (hcls : ∀ Q : Rs → St → Prop, (∀ (ℓ' : Nat → Nat → Int32) (μ' : Nat → Nat → Int64) (o' : Nat → Nat), RL ℓ' μ' β n' m' o' → GA β n' m' o' → Q (.inl (some (.int v))) (mk N t 295 (lay b ℓ' (rmI f r I)) (lay b μ' (rmL f r L)) D)) → Wp dA a 0 EA [] (mk N t 295 I L D) Q)
    (href : ∀ (I1 : Nat → Nat → Int32) (L2 : Nat → Nat → Int64) (Q : Rs → St → Prop), (∀ k, 4 ≤ k → k ≤ 24 → I1 294 k = I 294 k) → Wp dB b' 0 EB [] (mk N t 295 I1 (sR L2 295 (r64 α)) D) Q = Q (.inl (some (.int v))) (mk N t 295 (IX I1) (sR (sR L2 301 (rmP r (r64 α) (L2 301))) 295 (r64 β)) D)) : PairI dA a EA ex dB b' EB N xs c t I L D := by
  subst hb
  have hBb := hB_b f r
  intro Q h1 h2
  refine hcls Q (fun ℓ' μ' o' hR hG => h1 _ _ _ _ (fun j => by rw [lay_out (by omega), rmI_o (by omega)]; exact hI.1.1 j) ?_)
  intro L2 Q2 hL2 hQ
  have l295 : L2 295 = r64 α := by
    rw [hL2 295 (by omega), ← hL]
    funext k
    rw [lay_out (by omega), rmL_o (by omega)]
  have e2' : sR L2 295 (r64 α) = L2 := by rw [← l295]; exact sR_self
  have r2 := href (lay 19 ℓ' (rmI f r I)) L2 Q2 (fun k g1 g2 => by rw [lay_out (by omega), rmI_o (by omega)])
  rw [e2'] at r2
  rw [r2]
  have l301 : L2 301 = L 301 := by
    rw [hL2 301 (by omega)]
    funext k
    rw [lay_out (by omega), rmL_o (by omega)]
  refine hQ _ _ _ (h3 _) (fun _ => rfl) (by funext k; rw [sR_ne (by omega), sR_ne (by omega)]) ?_
  refine Inv_mut hI (by have := hI.1.2.1; omega) hf hr e1 e2 hE hN (hix _) (h24 _) (fun a ha g1 g2 k => ?_) (by funext k; rw [sR_at]) (by funext k; rw [sR_ne (by omega), sR_at, l301]) hR hG hX
  rw [sR_ne g1, sR_ne g2, hL2 a (by unfold rLo at ha; omega)]
end S67
