/-! CLASS AND REFERENCE AGREE: removeBall. Made by wip/whole/gen/gen71.py -/
/-- balls g to i - 1 are their followers -/
def dcp (ℓ : Nat → Nat → Int32) (g i : Nat) : Nat → Nat → Int32 := fun o k => if 13 + g ≤ o ∧ o < 13 + i ∧ k < 9 then ℓ (o + 1) k else ℓ o k
theorem dcp_0 {ℓ : Nat → Nat → Int32} {g : Nat} : dcp ℓ g g = ℓ := by
  funext o k
  unfold dcp
  rw [if_neg (by omega)]
theorem cp9_at {J : Nat → Nat → Int32} {a a2 q k : Nat} : cp9 J a a2 q k = if q = a ∧ k < 9 then J a2 k else J q k := by
  unfold cp9
  by_cases h : q = a
  · subst h
    by_cases h9 : k < 9
    · rw [if_pos ⟨rfl, h9⟩]
      have : k = 0 ∨ k = 1 ∨ k = 2 ∨ k = 3 ∨ k = 4 ∨ k = 5 ∨ k = 6 ∨ k = 7 ∨ k = 8 := by omega
      rcases this with rfl | rfl | rfl | rfl | rfl | rfl | rfl | rfl | rfl <;> simp [up2]
    · rw [if_neg (by omega), u2_ne (by omega), u2_ne (by omega), u2_ne (by omega), u2_ne (by omega), u2_ne (by omega), u2_ne (by omega), u2_ne (by omega), u2_ne (by omega), u2_ne (by omega)]
  · rw [if_neg (by omega), u2_ne (by omega), u2_ne (by omega), u2_ne (by omega), u2_ne (by omega), u2_ne (by omega), u2_ne (by omega), u2_ne (by omega), u2_ne (by omega), u2_ne (by omega)]
theorem dcp_s {ℓ I : Nat → Nat → Int32} {b g i : Nat} (hg : g ≤ i) (hi : i + 14 < 27) : cp9 (lay b (dcp ℓ g i) I) (b + (i + 13)) (b + (i + 1 + 13)) = lay b (dcp ℓ g (i + 1)) I := by
  funext q k
  rw [cp9_at]
  by_cases h : q = b + (i + 13) ∧ k < 9
  · rw [if_pos h, lay_in (by omega), h.1, lay_in (by omega)]
    unfold dcp
    rw [if_neg (by omega), if_pos (by omega)]
  · rw [if_neg h]
    unfold lay
    by_cases h2 : b ≤ q ∧ q < b + 27
    · rw [if_pos h2, if_pos h2]
      unfold dcp
      by_cases h3 : 13 + g ≤ q - b ∧ q - b < 13 + i ∧ k < 9
      · rw [if_pos h3, if_pos (by omega)]
      · rw [if_neg h3, if_neg (by omega)]
    · rw [if_neg h2, if_neg h2]
/-- the row behind the removal of ball g of n -/
def rvA (α : Nat → Int) (n g : Nat) : Nat → Int := fun k =>
  if k = 1 then α 1 - 1
  else if 28 + 9 * g ≤ k ∧ k < 28 + 9 * (n - 1) then α (k + 9)
  else if 118 ≤ k ∧ k < 218 then dpV 0 (fun j => α (118 + j)) g (k - 118)
  else if 218 ≤ k ∧ k < 378 ∧ (((k - 218) / 4 : Nat) : Int) < α 4 ∧ ((k - 218) % 4 = 1 ∨ (k - 218) % 4 = 2) then rnA (g : Int) (α k)
  else α k
section S71
variable {d N t w b n m g : Nat} {I ℓ : Nat → Nat → Int32} {L μ : Nat → Nat → Int64} {D : Nat → Nat → UInt64} {Q : Rs → St → Prop} {o : Nat → Nat} {α : Nat → Int}
theorem rvA_lo {k : Nat} (h : k < 28 ∧ k ≠ 1) : rvA α n g k = α k := by
  unfold rvA
  rw [if_neg (by omega), if_neg (by omega), if_neg (by omega), if_neg (by omega)]
theorem rvA_B {i k : Nat} (hi : i < n - 1) (hn : n ≤ 10) (hk : k < 9) : rvA α n g (B9 i k) = α (B9 (xg g i) k) := by
  unfold rvA
  rw [if_neg (by unfold B9; omega)]
  by_cases h : i < g
  · rw [if_neg (by unfold B9; omega), if_neg (by unfold B9; omega), if_neg (by unfold B9; omega)]
    unfold xg
    rw [if_pos h]
  · rw [if_pos (by unfold B9; omega)]
    unfold xg
    rw [if_neg h]
    congr 1
    unfold B9
    omega
theorem rvA_H {a c : Nat} (ha : a < 10) (hc : c < 10) (hn : n ≤ 10) : rvA α n g (HH a c) = if xg g a < 10 ∧ xg g c < 10 then α (HH (xg g a) (xg g c)) else 0 := by
  unfold rvA
  rw [if_neg (by unfold HH; omega), if_neg (by unfold HH; omega), if_pos (by unfold HH; omega), show HH a c - 118 = 10 * a + c by unfold HH; omega, dpV_at hc]
  by_cases h : xg g a < 10 ∧ xg g c < 10
  · rw [if_pos h, if_pos h]
    congr 1
    unfold HH
    omega
  · rw [if_neg h, if_neg h]
theorem rvA_L {k c : Nat} (hk : k < 40) (h4 : (k : Int) < α 4) (hc : c < 4) (hn : n ≤ 10) : rvA α n g (218 + 4 * k + c) = if c = 1 ∨ c = 2 then rnA (g : Int) (α (218 + 4 * k + c)) else α (218 + 4 * k + c) := by
  unfold rvA
  rw [if_neg (by omega), if_neg (by omega), if_neg (by omega), show (218 + 4 * k + c - 218) / 4 = k by omega, show (218 + 4 * k + c - 218) % 4 = c by omega]
  by_cases h : c = 1 ∨ c = 2
  · rw [if_pos h, if_pos (by omega)]
  · rw [if_neg h, if_neg (by omega)]
theorem xg_lt {i : Nat} (hi : i < n - 1) (hg : g < n) : xg g i < n := by
  unfold xg
  split <;> omega
theorem xg_inj {i j : Nat} (h : xg g i = xg g j) : i = j := by
  unfold xg at h
  split at h <;> split at h <;> omega
/-- the row without ball g is in order -/
theorem rv_G (hG : GA α n m o) (hg : g < n) : GB (rvA α n g) (n - 1) ∧ GP (rvA α n g) m ∧ ((0 ≤ rvA α n g 8 ∧ rvA α n g 8 ≤ 100) ∧ (0 ≤ rvA α n g 9 ∧ rvA α n g 9 ≤ 100) ∧ (0 ≤ rvA α n g 4 ∧ rvA α n g 4 ≤ 40)) ∧ (∀ j, j < n - 1 → ∀ p, p < m → rvA α n g (B9 j 0) ≠ rvA α n g (P3 p 0)) ∧ (∀ j k, j < n - 1 → k < n - 1 → rvA α n g (B9 j 0) = rvA α n g (B9 k 0) → j = k) := by
  have h10 := hG.1.1
  have m4 := hG.2.1.1
  have np : ∀ p k, p < m → k < 3 → rvA α n g (P3 p k) = α (P3 p k) := fun p k h h2 => rvA_lo (by unfold P3; omega)
  refine ⟨⟨by omega, ?_, by rw [rvA_lo (by omega)]; exact hG.1.2.2.1, by rw [rvA_lo (by omega)]; exact hG.1.2.2.2.1, fun i hi => ?_⟩, ⟨m4, by rw [rvA_lo (by omega)]; exact hG.2.1.2.1, fun p q => by rw [np p 0 q (by omega), np p 1 q (by omega), rvA_lo (by omega)]; exact hG.2.1.2.2 p q⟩, by rw [rvA_lo (by omega), rvA_lo (by omega), rvA_lo (by omega)]; exact hG.2.2.1, fun j hj p q => ?_, fun j k hj hk e => ?_⟩
  · show rvA α n g 1 = _
    unfold rvA
    rw [if_pos rfl, hG.1.2.1]
    omega
  · rw [rvA_B hi h10 (by omega), rvA_B hi h10 (by omega), rvA_B hi h10 (by omega), rvA_B hi h10 (by omega), rvA_lo (by omega)]
    exact hG.1.2.2.2.2 _ (xg_lt hi hg)
  · rw [rvA_B hj h10 (by omega), np p 0 q (by omega)]
    exact hG.2.2.2.2.2.2 _ (xg_lt hj hg) p q
  · rw [rvA_B hj h10 (by omega), rvA_B hk h10 (by omega)] at e
    exact xg_inj (cell_inj hG (xg_lt hj hg) (xg_lt hk hg) e)
/-- the class's line without ball g -/
def drL (ℓ : Nat → Nat → Int32) (n g : Nat) (p : Nat → Int32) : Nat → Nat → Int32 := oL 12 (rnL (oL 2 (up2 (dcp ℓ g (n - 1)) 0 3 (Int32.ofInt ((n - 1 : Nat) : Int))) p) (Int32.ofInt (g : Int)) 40) (dpF (Int32.ofInt 0) (ℓ 12) g 100)
theorem drL_far {p : Nat → Int32} {a k : Nat} (h : (a < 2 ∨ 2 < a) ∧ (a < 8 ∨ 9 < a) ∧ a ≠ 12 ∧ (a < 13 ∨ 22 < a) ∧ (a ≠ 0 ∨ k ≠ 3)) (hn : n ≤ 10) : drL ℓ n g p a k = ℓ a k := by
  unfold drL
  rw [oL_ne (by omega)]
  unfold rnL
  rw [if_neg (by omega), oL_ne (by omega), u2_ne (by omega)]
  unfold dcp
  rw [if_neg (by omega)]
theorem RL_rv (h : RL ℓ μ α n m o) (hn : n ≤ 10) (hg : g < n) (hX : LX α) {o' : Nat → Nat} {p : Nat → Int32} (hp : ∀ k, k < n - 1 → p k = Int32.ofInt (o' k : Int)) : RL (drL ℓ n g p) μ (rvA α n g) (n - 1) m o' := by
  obtain ⟨g1, ⟨g2, g3⟩, ⟨g4, g5, g6⟩, g7, nx, g8, g9, g10, g11⟩ := h
  refine ⟨fun k hk => ?_, ⟨?_, ?_⟩, ⟨by rw [rvA_lo (by omega)]; exact g4, by rw [rvA_lo (by omega)]; exact g5, by rw [rvA_lo (by omega)]; exact g6⟩, fun k hk => ?_, nx, g8, by rw [drL_far (by omega) hn]; exact g9, by rw [drL_far (by omega) hn, rvA_lo (by omega)]; exact g10, fun k q1 q2 c hc => ?_⟩
  · by_cases hb : 28 ≤ k ∧ k < 118
    · have hk2 : k < 28 + 9 * (n - 1) := by unfold kd at hk; omega
      have e : B9 ((k - 28) / 9) ((k - 28) % 9) = k := by unfold B9; omega
      have hi : (k - 28) / 9 < n - 1 := by omega
      have hq : (k - 28) % 9 < 9 := by omega
      have hx := xg_lt hi hg
      rw [← e, rvA_B hi hn hq, ← g1 (B9 (xg g ((k - 28) / 9)) ((k - 28) % 9)) (by unfold kd B9; omega), mo_B (by omega) hq, mo_B (by omega) hq]
      have em : mq (B9 ((k - 28) / 9) ((k - 28) % 9)) = mq (B9 (xg g ((k - 28) / 9)) ((k - 28) % 9)) := by
        by_cases h8 : (k - 28) % 9 = 8
        · rw [h8, mq_B8 (by omega), mq_B8 (by omega)]
        · rw [mq_B (by omega) (by omega), mq_B (by omega) (by omega)]
      have em2 : mq (B9 ((k - 28) / 9) ((k - 28) % 9)) < 9 := by
        by_cases h8 : (k - 28) % 9 = 8
        · rw [h8, mq_B8 (by omega)]; omega
        · rw [mq_B (by omega) (by omega)]; omega
      rw [← em]
      unfold drL
      rw [oL_ne (by omega)]
      unfold rnL
      rw [if_neg (by omega), oL_ne (by omega), u2_ne (by omega)]
      unfold dcp xg
      by_cases hlt : (k - 28) / 9 < g
      · rw [if_neg (by omega), if_pos hlt]
      · rw [if_pos (by omega), if_neg hlt]
    · by_cases hh : 118 ≤ k
      · have hk2 : k < 218 := by unfold kd at hk; omega
        have e : HH ((k - 118) / 10) ((k - 118) % 10) = k := by unfold HH; omega
        rw [← e, rvA_H (by omega) (by omega) hn, mo_H (by omega) (by omega), mq_H (by omega) (by omega)]
        unfold drL
        rw [oL_at]
        unfold dpF
        rw [if_pos (by omega), dpV_at (by omega)]
        by_cases hx : xg g ((k - 118) / 10) < 10 ∧ xg g ((k - 118) % 10) < 10
        · rw [if_pos hx, if_pos hx, ← g1 (HH (xg g ((k - 118) / 10)) (xg g ((k - 118) % 10))) (by unfold kd HH; omega), mo_H hx.1 hx.2, mq_H hx.1 hx.2]
        · rw [if_neg hx, if_neg hx]
      · have hk' : kd n m k := by unfold kd at hk ⊢; omega
        have hr := mo_rng hk'
        have hlow : k < 28 := by unfold kd at hk; omega
        have hm : mo k < 12 ∧ mo k ≠ 8 ∧ mo k ≠ 9 ∧ mo k ≠ 2 ∨ 23 ≤ mo k := by
          unfold mo
          split
          · omega
          · split
            · omega
            · split
              · omega
              · split
                · omega
                · first | omega | (rw [if_pos hlow]; omega)
        rw [rvA_lo (by unfold kd at hk; omega), drL_far (by omega) hn]
        exact g1 k hk'
  · unfold drL
    rw [oL_ne (by omega)]
    unfold rnL
    rw [if_neg (by omega), oL_ne (by omega), u2_same]
  · rw [drL_far (by omega) hn]; exact g3
  · unfold drL
    rw [oL_ne (by omega)]
    unfold rnL
    rw [if_neg (by omega), oL_at]
    exact hp k hk
  · have hj : (nx + 39 - k) % 40 < 40 := Nat.mod_lt _ (by omega)
    rw [rvA_lo (by omega)] at q1
    have hx := hX k q2 q1
    have e := g11 k q1 q2 c hc
    rw [rvA_L q2 q1 hc hn]
    unfold drL
    rw [oL_ne (by omega)]
    by_cases hcc : c = 1 ∨ c = 2
    · rw [if_pos hcc]
      unfold rnL
      rw [if_pos (by omega), oL_ne (by omega), u2_ne (by omega)]
      unfold dcp
      rw [if_neg (by omega), e, rnI_o (by omega) (by rcases hcc with rfl | rfl <;> omega)]
    · rw [if_neg hcc]
      unfold rnL
      rw [if_neg (by omega), oL_ne (by omega), u2_ne (by omega)]
      unfold dcp
      rw [if_neg (by omega)]
      exact e
/-- what else holds -/
theorem EX_rv {c c' : Nat} (h : EX c α n) (hc : c ≤ c') (hn : n ≤ 10) (hg : g < n) : EX c' (rvA α n g) (n - 1) := by
  obtain ⟨h1, h2, h3⟩ := h
  refine ⟨by rw [rvA_lo (by omega)]; omega, fun k hk h4 => ?_, fun i hi => by rw [rvA_B hi hn (by omega)]; exact h3 _ (xg_lt hi hg)⟩
  rw [rvA_lo (by omega)] at h4
  have e := fun c hc => rvA_L (α := α) (n := n) (g := g) (c := c) hk h4 hc hn
  have e0 := e 0 (by omega)
  have e1 := e 1 (by omega)
  have e2 := e 2 (by omega)
  have e3 := e 3 (by omega)
  rw [if_neg (by omega), Nat.add_zero] at e0
  rw [if_pos (by omega)] at e1 e2
  rw [if_neg (by omega)] at e3
  have hx := h2 k hk h4
  rw [e0, e1, e2, e3, rvA_lo (by omega)]
  unfold rnA
  refine ⟨hx.1, ?_, ?_, ?_, hx.2.2.2.2⟩
  · split
    · omega
    · split <;> omega
  · split
    · omega
    · split <;> omega
  · split
    · omega
    · split <;> omega
/-! the class -/
theorem c45_2 (hb : LB b) (hn : n ≤ 10) (hg : g < n) (en : ℓ 0 3 = Int32.ofInt (n : Int)) : ∀ r i : Nat, i + r = n - 1 → g ≤ i → Wp (d + 3) 45 2 [some (.ref b), some (.int (Int32.ofInt (g : Int))), some (.int (Int32.ofInt (i : Int)))] [] (mk N t w (lay b (dcp ℓ g i) I) L D) Q = Wp (d + 3) 45 35 [some (.ref b), some (.int (Int32.ofInt (g : Int))), some (.int (Int32.ofInt ((n - 1 : Nat) : Int)))] [] (mk N t w (lay b (dcp ℓ g (n - 1)) I) L D) Q := by
  have e03 : ∀ i, dcp ℓ g i 0 3 = Int32.ofInt (n : Int) := fun i => by
    unfold dcp
    rw [if_neg (by omega)]
    exact en
  intro r
  induction r with
  | zero =>
    intro i hi hgi
    obtain rfl : i = n - 1 := by omega
    have g0 : ¬ (((n - 1 + 1 : Nat) : Int) < n) := by omega
    rw [w45_2]
    simp only [w45_3, w45_4, w45_5, w45_6, w45_9, kn_s, kn_n, zh_mk, zR_mk, zI_mk, zL_mk, zD_mk, wI_mk, wL_mk, wD_mk, zT_mk, zC_mk, kill_i, kill_r, kill_0, kill_n, kill_l, kill_q, zzk_r, zzk_0, zzk_q, zcat_r, zcat_i, zcat_0, cats_0, cats_i, cats_r, cats_l, cats_d, cats_f, rv_s, rv_0, Nat.reduceAdd, Nat.reduceLeDiff, Nat.add_zero, Nat.reduceMul, Nat.reduceSub, ne_eq, not_false_eq_true, not_true_eq_false, and_self, and_true, true_and, or_self, or_true, true_or, or_false, false_or, if_true, if_false, reduceIte, reduceCtorEq, implies_true, ite_self, ite_not, lay_in, lay_0, up2_lay, up2_lay0, kh0, kh1, kh2, kh3, kh4, kh5, kh6, kh7, kh8, kh9, kh10, kh11, kh12, khB, khP, kr2, kr4, kr5, kr7, kr8, kr9, kr10, krB, krP, krG0, krG1, krG2, krG3, krK, Nat.reduceLT, o_add, o_sub, o_mul, o_neg, q_add, q_sub, q_mul, q_neg, o_32, cast_s, Int.toNat_natCast, hb, e03, cast_s, o_lt (a := ((n - 1 + 1 : Nat) : Int)) (b := (n : Int)) (by omega), g0]
  | succ r ih =>
    intro i hi hgi
    have g0 : ((i + 1 : Nat) : Int) < n := by omega
    have i10 : i < 10 := by omega
    have i11 : i + 1 < 10 := by omega
    have ih' := ih (i + 1) (by omega) (by omega)
    rw [← dcp_s hgi (by omega)] at ih'
    rw [w45_2]
    simp only [w45_3, w45_4, w45_5, w45_6, w45_9, w45_12, w45_13, w45_16, w45_17, w45_18, w45_19, w45_22, w45_23, w45_24, w45_25, w45_26, w45_29, w45_32, kn_s, kn_n, zh_mk, zR_mk, zI_mk, zL_mk, zD_mk, wI_mk, wL_mk, wD_mk, zT_mk, zC_mk, kill_i, kill_r, kill_0, kill_n, kill_l, kill_q, zzk_r, zzk_0, zzk_q, zcat_r, zcat_i, zcat_0, cats_0, cats_i, cats_r, cats_l, cats_d, cats_f, rv_s, rv_0, Nat.reduceAdd, Nat.reduceLeDiff, Nat.add_zero, Nat.reduceMul, Nat.reduceSub, ne_eq, not_false_eq_true, not_true_eq_false, and_self, and_true, true_and, or_self, or_true, true_or, or_false, false_or, if_true, if_false, reduceIte, reduceCtorEq, implies_true, ite_self, ite_not, lay_in, lay_0, up2_lay, up2_lay0, kh0, kh1, kh2, kh3, kh4, kh5, kh6, kh7, kh8, kh9, kh10, kh11, kh12, khB, khP, kr2, kr4, kr5, kr7, kr8, kr9, kr10, krB, krP, krG0, krG1, krG2, krG3, krK, Nat.reduceLT, o_add, o_sub, o_mul, o_neg, q_add, q_sub, q_mul, q_neg, o_32, cast_s, Int.toNat_natCast, hb, e03, i10, i11, cast_s, o_lt (a := ((i + 1 : Nat) : Int)) (b := (n : Int)) (by omega), g0, o_ixn (j := i) (n := 10) (by omega), o_tnn (j := i) (by omega), o_ixn (j := i + 1) (n := 10) (by omega), o_tnn (j := i + 1) (by omega), c2 (khB (N := N) hb i10) (khB (N := N) hb i11)]
    exact ih'
theorem c45 (hb : LB b) (hR : RL ℓ μ α n m o) (hG : GA α n m o) (hX : LX α) (hg : g < n) (hQ : ∀ (ℓ' : Nat → Nat → Int32) (o' : Nat → Nat), RL ℓ' μ (rvA α n g) (n - 1) m o' → GA (rvA α n g) (n - 1) m o' → Q (.inl none) (mk N t w (lay b ℓ' I) L D)) : Wp (d + 3) 45 0 [some (.ref b), some (.int (Int32.ofInt (g : Int))), none] [] (mk N t w (lay b ℓ I) L D) Q := by
  have hn := hG.1.1
  have l := c45_2 (d := d) (N := N) (t := t) (w := w) (I := I) (L := L) (D := D) (Q := Q) hb hn hg (rd_n hR) (n - 1 - g) g (by omega) (Nat.le_refl g)
  rw [dcp_0] at l
  have hA := rv_G hG hg
  have e03 : dcp ℓ g (n - 1) 0 3 = Int32.ofInt (n : Int) := by
    unfold dcp
    rw [if_neg (by omega)]
    exact rd_n hR
  have en1 : (n : Int) - 1 = ((n - 1 : Nat) : Int) := by omega
  simp only [w45_0, w45_1, kn_s, kn_n, zh_mk, zR_mk, zI_mk, zL_mk, zD_mk, wI_mk, wL_mk, wD_mk, zT_mk, zC_mk, kill_i, kill_r, kill_0, kill_n, kill_l, kill_q, zzk_r, zzk_0, zzk_q, zcat_r, zcat_i, zcat_0, cats_0, cats_i, cats_r, cats_l, cats_d, cats_f, rv_s, rv_0, Nat.reduceAdd, Nat.reduceLeDiff, Nat.add_zero, Nat.reduceMul, Nat.reduceSub, ne_eq, not_false_eq_true, not_true_eq_false, and_self, and_true, true_and, or_self, or_true, true_or, or_false, false_or, if_true, if_false, reduceIte, reduceCtorEq, implies_true, ite_self, ite_not]
  refine l.mpr ?_
  simp only [w45_35, w45_36, w45_37, w45_40, w45_41, w45_42, w45_45, w45_46, kn_s, kn_n, zh_mk, zR_mk, zI_mk, zL_mk, zD_mk, wI_mk, wL_mk, wD_mk, zT_mk, zC_mk, kill_i, kill_r, kill_0, kill_n, kill_l, kill_q, zzk_r, zzk_0, zzk_q, zcat_r, zcat_i, zcat_0, cats_0, cats_i, cats_r, cats_l, cats_d, cats_f, rv_s, rv_0, Nat.reduceAdd, Nat.reduceLeDiff, Nat.add_zero, Nat.reduceMul, Nat.reduceSub, ne_eq, not_false_eq_true, not_true_eq_false, and_self, and_true, true_and, or_self, or_true, true_or, or_false, false_or, if_true, if_false, reduceIte, reduceCtorEq, implies_true, ite_self, ite_not, lay_in, lay_0, up2_lay, up2_lay0, kh0, kh1, kh2, kh3, kh4, kh5, kh6, kh7, kh8, kh9, kh10, kh11, kh12, khB, khP, kr2, kr4, kr5, kr7, kr8, kr9, kr10, krB, krP, krG0, krG1, krG2, krG3, krK, Nat.reduceLT, o_add, o_sub, o_mul, o_neg, q_add, q_sub, q_mul, q_neg, o_32, cast_s, Int.toNat_natCast, hb, e03, en1]
  refine c31 (n := n - 1) (κ := fun i => rvA α n g (B9 i 0)) hb (by omega) u2_same (fun i hi => ?_) hA.2.2.2.2 (fun ω p hS hp => ?_)
  · have h1 := (hA.1.2.2.2.2 i hi).1
    have h2 := hA.1.2.2.2.1
    refine ⟨?_, by omega, by omega⟩
    have hx := xg_lt hi hg
    have ec := rd_c hR hG hx
    rw [u2_ne (by omega), rvA_B hi hn (by omega)]
    unfold dcp
    unfold xg at ec ⊢
    by_cases hlt : i < g
    · rw [if_neg (by omega)]
      rw [if_pos hlt] at ec ⊢
      exact ec
    · rw [if_pos (by omega)]
      rw [if_neg hlt] at ec ⊢
      rw [show i + 13 + 1 = i + 1 + 13 by omega]
      exact ec
  · have e12 : rnL (oL 2 (up2 (dcp ℓ g (n - 1)) 0 3 (Int32.ofInt ((n - 1 : Nat) : Int))) p) (Int32.ofInt (g : Int)) 40 12 = ℓ 12 := by
      funext k
      unfold rnL
      rw [if_neg (by omega), oL_ne (by omega), u2_ne (by omega)]
      unfold dcp
      rw [if_neg (by omega)]
    have c18' := fun (Q : Rs → St → Prop) => c18 (d := d) (N := N) (t := t) (w := w) (b := b) (I := I) (ℓ := rnL (oL 2 (up2 (dcp ℓ g (n - 1)) 0 3 (Int32.ofInt ((n - 1 : Nat) : Int))) p) (Int32.ofInt (g : Int)) 40) (L := L) (D := D) (Q := Q) hb (show g < 10 by omega)
    rw [e12] at c18'
    simp only [w45_49, w45_50, w45_53, w45_54, w45_57, w45_58, w45_61, w45_62, w45_65, kn_s, kn_n, zh_mk, zR_mk, zI_mk, zL_mk, zD_mk, wI_mk, wL_mk, wD_mk, zT_mk, zC_mk, kill_i, kill_r, kill_0, kill_n, kill_l, kill_q, zzk_r, zzk_0, zzk_q, zcat_r, zcat_i, zcat_0, cats_0, cats_i, cats_r, cats_l, cats_d, cats_f, rv_s, rv_0, Nat.reduceAdd, Nat.reduceLeDiff, Nat.add_zero, Nat.reduceMul, Nat.reduceSub, ne_eq, not_false_eq_true, not_true_eq_false, and_self, and_true, true_and, or_self, or_true, true_or, or_false, false_or, if_true, if_false, reduceIte, reduceCtorEq, implies_true, ite_self, ite_not, lay_in, lay_0, up2_lay, up2_lay0, kh0, kh1, kh2, kh3, kh4, kh5, kh6, kh7, kh8, kh9, kh10, kh11, kh12, khB, khP, kr2, kr4, kr5, kr7, kr8, kr9, kr10, krB, krP, krG0, krG1, krG2, krG3, krK, Nat.reduceLT, o_add, o_sub, o_mul, o_neg, q_add, q_sub, q_mul, q_neg, o_32, cast_s, Int.toNat_natCast, hb, c56 hb, c18']
    exact hQ _ ω (RL_rv hR hn hg hX hp) (GA_o hA.1 hA.2.1 hA.2.2.1 hS hA.2.2.2.1)
theorem c45r (hb : LB b) (hR : RL (gl b I) (gl b L) α n m o) (hG : GA α n m o) (hX : LX α) (hg : g < n) (hQ : ∀ (ℓ' : Nat → Nat → Int32) (o' : Nat → Nat), RL ℓ' (gl b L) (rvA α n g) (n - 1) m o' → GA (rvA α n g) (n - 1) m o' → Q (.inl none) (mk N t w (lay b ℓ' I) L D)) : Wp (d + 3) 45 0 [some (.ref b), some (.int (Int32.ofInt (g : Int))), none] [] (mk N t w I L D) Q := by
  have := c45 (d := d) (N := N) (t := t) (w := w) (ℓ := gl b I) (μ := gl b L) (I := I) (L := L) (D := D) (Q := Q) hb hR hG hX hg hQ
  rw [lay_gl] at this
  exact this
/-! the reference -/
theorem c272 {v : Int} (hv : -2147483648 ≤ v ∧ v < 2147483648) (hg : g < 10) {σ : St} : Wp d 272 0 [some (.int (Int32.ofInt v)), some (.int (Int32.ofInt (g : Int)))] [] σ Q = Q (.inl (some (.int (Int32.ofInt (rnA (g : Int) v))))) σ := by
  unfold rnA
  by_cases h : v = (g : Int)
  · simp only [w272_0, w272_1, w272_2, w272_5, w272_7, w272_10, w272_11, w272_12, w272_15, w272_16, w272_17, w272_18, w272_21, w272_22, kn_s, kn_n, zh_mk, zR_mk, zI_mk, zL_mk, zD_mk, wI_mk, wL_mk, wD_mk, zT_mk, zC_mk, kill_i, kill_r, kill_0, kill_n, kill_l, kill_q, zzk_r, zzk_0, zzk_q, zcat_r, zcat_i, zcat_0, cats_0, cats_i, cats_r, cats_l, cats_d, cats_f, rv_s, rv_0, Nat.reduceAdd, Nat.reduceLeDiff, Nat.add_zero, Nat.reduceMul, Nat.reduceSub, ne_eq, not_false_eq_true, not_true_eq_false, and_self, and_true, true_and, or_self, or_true, true_or, or_false, false_or, if_true, if_false, reduceIte, reduceCtorEq, implies_true, ite_self, ite_not, o_add, o_sub, o_mul, o_neg, q_add, q_sub, q_mul, q_neg, o_32, cast_s, o_eq (a := v) (b := (g : Int)) (by omega), eq_true h]
  · by_cases h2 : (g : Int) < v
    · simp only [w272_0, w272_1, w272_2, w272_5, w272_7, w272_10, w272_11, w272_12, w272_15, w272_16, w272_17, w272_18, w272_21, w272_22, kn_s, kn_n, zh_mk, zR_mk, zI_mk, zL_mk, zD_mk, wI_mk, wL_mk, wD_mk, zT_mk, zC_mk, kill_i, kill_r, kill_0, kill_n, kill_l, kill_q, zzk_r, zzk_0, zzk_q, zcat_r, zcat_i, zcat_0, cats_0, cats_i, cats_r, cats_l, cats_d, cats_f, rv_s, rv_0, Nat.reduceAdd, Nat.reduceLeDiff, Nat.add_zero, Nat.reduceMul, Nat.reduceSub, ne_eq, not_false_eq_true, not_true_eq_false, and_self, and_true, true_and, or_self, or_true, true_or, or_false, false_or, if_true, if_false, reduceIte, reduceCtorEq, implies_true, ite_self, ite_not, o_add, o_sub, o_mul, o_neg, q_add, q_sub, q_mul, q_neg, o_32, cast_s, o_eq (a := v) (b := (g : Int)) (by omega), eq_false h, o_lt (a := (g : Int)) (b := v) (by omega), eq_true h2]
    · simp only [w272_0, w272_1, w272_2, w272_5, w272_7, w272_10, w272_11, w272_12, w272_15, w272_16, w272_17, w272_18, w272_21, w272_22, kn_s, kn_n, zh_mk, zR_mk, zI_mk, zL_mk, zD_mk, wI_mk, wL_mk, wD_mk, zT_mk, zC_mk, kill_i, kill_r, kill_0, kill_n, kill_l, kill_q, zzk_r, zzk_0, zzk_q, zcat_r, zcat_i, zcat_0, cats_0, cats_i, cats_r, cats_l, cats_d, cats_f, rv_s, rv_0, Nat.reduceAdd, Nat.reduceLeDiff, Nat.add_zero, Nat.reduceMul, Nat.reduceSub, ne_eq, not_false_eq_true, not_true_eq_false, and_self, and_true, true_and, or_self, or_true, true_or, or_false, false_or, if_true, if_false, reduceIte, reduceCtorEq, implies_true, ite_self, ite_not, o_add, o_sub, o_mul, o_neg, q_add, q_sub, q_mul, q_neg, o_32, cast_s, o_eq (a := v) (b := (g : Int)) (by omega), eq_false h, o_lt (a := (g : Int)) (b := v) (by omega), eq_false h2]
def sh9 (α : Nat → Int) (g K : Nat) : Nat → Int := fun j => if 28 + 9 * g ≤ j ∧ j < K then α (j + 9) else α j
theorem sh9_s {K : Nat} (h : 28 + 9 * g ≤ K) : up1 (sh9 α g K) K (α (K + 9)) = sh9 α g (K + 1) := by
  funext j
  unfold up1 sh9
  by_cases hj : j = K
  · rw [if_pos hj, if_pos (by omega), hj]
  · rw [if_neg hj]
    by_cases h2 : 28 + 9 * g ≤ j ∧ j < K
    · rw [if_pos h2, if_pos (by omega)]
    · rw [if_neg h2, if_neg (by omega)]
theorem c270_32 (hG : GA α n m o) (hg : g < n) {x2 : Int64} : ∀ r K : Nat, K + r = 28 + 9 * (n - 1) → 28 + 9 * g ≤ K → Wp (d + 4) 270 32 [some (.ref 294), some (.int (Int32.ofInt (g : Int))), some (.long x2), none, some (.int (Int32.ofInt (K : Int)))] [] (mk N t 295 I (sR L 295 (r64 (sh9 α g K))) D) Q = Wp (d + 4) 270 72 [some (.ref 294), some (.int (Int32.ofInt (g : Int))), some (.long x2), none, some (.int (Int32.ofInt ((28 + 9 * (n - 1) : Nat) : Int)))] [] (mk N t 295 I (sR L 295 (r64 (sh9 α g (28 + 9 * (n - 1))))) D) Q := by
  have hw : RW 295 := Or.inl rfl
  have h10 := hG.1.1
  have e1 : ∀ K, sh9 α g K 1 = (n : Int) := fun K => by
    unfold sh9
    rw [if_neg (by omega)]
    exact hG.1.2.1
  have en : 28 + 9 * ((n : Int) - 1) = ((28 + 9 * (n - 1) : Nat) : Int) := by omega
  intro r
  induction r with
  | zero =>
    intro K hK hgK
    obtain rfl : K = 28 + 9 * (n - 1) := by omega
    have g0 : ¬ (((28 + 9 * (n - 1) : Nat) : Int) < ((28 + 9 * (n - 1) : Nat) : Int)) := by omega
    rw [w270_32]
    simp only [w270_34, w270_36, w270_38, w270_39, w270_42, w270_43, w270_44, w270_45, w270_46, kn_s, kn_n, zh_mk, zR_mk, zI_mk, zL_mk, zD_mk, wI_mk, wL_mk, wD_mk, zT_mk, zC_mk, kill_i, kill_r, kill_0, kill_n, kill_l, kill_q, zzk_r, zzk_0, zzk_q, zcat_r, zcat_i, zcat_0, cats_0, cats_i, cats_r, cats_l, cats_d, cats_f, rv_s, rv_0, Nat.reduceAdd, Nat.reduceLeDiff, Nat.add_zero, Nat.reduceMul, Nat.reduceSub, ne_eq, not_false_eq_true, not_true_eq_false, and_self, and_true, true_and, or_self, or_true, true_or, or_false, false_or, if_true, if_false, reduceIte, reduceCtorEq, implies_true, ite_self, ite_not, kM, kMr, kRow hw, sR_at, up2_r64, r64_at, o_add, o_sub, o_mul, o_neg, q_add, q_sub, q_mul, q_neg, o_32, cast_s, Int.toNat_natCast, c176 hw, e1, en, o_lt (a := ((28 + 9 * (n - 1) : Nat) : Int)) (b := ((28 + 9 * (n - 1) : Nat) : Int)) (by omega), g0]
  | succ r ih =>
    intro K hK hgK
    have g0 : (K : Int) < ((28 + 9 * (n - 1) : Nat) : Int) := by omega
    have e9 : (K : Int) + 9 = ((K + 9 : Nat) : Int) := by omega
    have er : sh9 α g K (K + 9) = α (K + 9) := by
      unfold sh9
      rw [if_neg (by omega)]
    rw [w270_32]
    simp only [w270_34, w270_36, w270_38, w270_39, w270_42, w270_43, w270_44, w270_45, w270_46, w270_49, w270_50, w270_53, w270_55, w270_56, w270_59, w270_61, w270_63, w270_64, w270_65, w270_66, w270_69, kn_s, kn_n, zh_mk, zR_mk, zI_mk, zL_mk, zD_mk, wI_mk, wL_mk, wD_mk, zT_mk, zC_mk, kill_i, kill_r, kill_0, kill_n, kill_l, kill_q, zzk_r, zzk_0, zzk_q, zcat_r, zcat_i, zcat_0, cats_0, cats_i, cats_r, cats_l, cats_d, cats_f, rv_s, rv_0, Nat.reduceAdd, Nat.reduceLeDiff, Nat.add_zero, Nat.reduceMul, Nat.reduceSub, ne_eq, not_false_eq_true, not_true_eq_false, and_self, and_true, true_and, or_self, or_true, true_or, or_false, false_or, if_true, if_false, reduceIte, reduceCtorEq, implies_true, ite_self, ite_not, kM, kMr, kRow hw, sR_at, up2_r64, r64_at, o_add, o_sub, o_mul, o_neg, q_add, q_sub, q_mul, q_neg, o_32, cast_s, Int.toNat_natCast, kM1, kA295, c176 hw, e1, en, o_lt (a := (K : Int)) (b := ((28 + 9 * (n - 1) : Nat) : Int)) (by omega), g0, e9, o_ixn (j := K) (n := 378) (by omega), o_tnn (j := K) (by omega), o_ixn (j := K + 9) (n := 378) (by omega), o_tnn (j := K + 9) (by omega), er, sh9_s hgK, ih (K + 1) (by omega) (by omega)]
def hdF (α : Nat → Int) (g i : Nat) : Nat → Int := fun k => if 118 ≤ k ∧ k < 218 then dpF 0 (fun j => α (118 + j)) g i (k - 118) else α k
theorem hdF_s {i : Nat} (hi : i < 100) : up1 (hdF α g i) (118 + i) (dpV 0 (fun j => α (118 + j)) g i) = hdF α g (i + 1) := by
  funext k
  unfold up1 hdF
  by_cases hk : k = 118 + i
  · subst hk
    rw [if_pos rfl, if_pos (by omega), show 118 + i - 118 = i by omega, ← dpF_s, up1_eq']
  · rw [if_neg hk]
    by_cases h2 : 118 ≤ k ∧ k < 218
    · rw [if_pos h2, if_pos h2, ← dpF_s, up1_ne (by omega)]
    · rw [if_neg h2, if_neg h2]
theorem hdF_0 : hdF α g 0 = α := by
  funext k
  unfold hdF dpF
  by_cases h : 118 ≤ k ∧ k < 218
  · rw [if_pos h, if_neg (by omega)]
    show α (118 + (k - 118)) = α k
    rw [show 118 + (k - 118) = k by omega]
  · rw [if_neg h]
theorem c271_10 (hg : g < 10) {a : Nat} (ha : a < 10) {u4 u5 : Option Value} : ∀ (r j : Nat) (u4 u5 : Option Value), j + r = 10 → (∀ (v4 v5 : Option Value), Wp d 271 98 [some (.ref 294), some (.int (Int32.ofInt (g : Int))), some (.int (Int32.ofInt (a : Int))), some (.int (Int32.ofInt ((10 : Nat) : Int))), v4, v5] [] (mk N t 295 I (sR L 295 (r64 (hdF α g (10 * a + 10)))) D) Q) → Wp d 271 10 [some (.ref 294), some (.int (Int32.ofInt (g : Int))), some (.int (Int32.ofInt (a : Int))), some (.int (Int32.ofInt (j : Int))), u4, u5] [] (mk N t 295 I (sR L 295 (r64 (hdF α g (10 * a + j)))) D) Q := by
  have hw : RW 295 := Or.inl rfl
  intro r
  induction r with
  | zero =>
    intro j u4 u5 hj hQ
    obtain rfl : j = 10 := by omega
    have g0 : ¬ (((10 : Nat) : Int) < 10) := by omega
    rw [w271_10]
    simp only [w271_11, w271_13, kn_s, kn_n, zh_mk, zR_mk, zI_mk, zL_mk, zD_mk, wI_mk, wL_mk, wD_mk, zT_mk, zC_mk, kill_i, kill_r, kill_0, kill_n, kill_l, kill_q, zzk_r, zzk_0, zzk_q, zcat_r, zcat_i, zcat_0, cats_0, cats_i, cats_r, cats_l, cats_d, cats_f, rv_s, rv_0, Nat.reduceAdd, Nat.reduceLeDiff, Nat.add_zero, Nat.reduceMul, Nat.reduceSub, ne_eq, not_false_eq_true, not_true_eq_false, and_self, and_true, true_and, or_self, or_true, true_or, or_false, false_or, if_true, if_false, reduceIte, reduceCtorEq, implies_true, ite_self, ite_not, kM, kMr, kRow hw, sR_at, up2_r64, r64_at, o_add, o_sub, o_mul, o_neg, q_add, q_sub, q_mul, q_neg, o_32, cast_s, Int.toNat_natCast, o_lt (a := ((10 : Nat) : Int)) (b := 10) (by omega), g0]
    exact hQ u4 u5
  | succ r ih =>
    intro j u4 u5 hj hQ
    have g0 : (j : Int) < 10 := by omega
    have hxa := xg_le (g := g) ha
    have hxj := xg_le (g := g) (a := j) (by omega)
    have ih' := fun u4 u5 => ih (j + 1) u4 u5 (by omega) hQ
    rw [← Nat.add_assoc, ← hdF_s (by omega), dpV_at (by omega)] at ih'
    have e1 : 118 + 10 * (a : Int) + (j : Int) = ((118 + (10 * a + j) : Nat) : Int) := by omega
    have e2 : 118 + 10 * ((xg g a : Nat) : Int) + ((xg g j : Nat) : Int) = ((118 + (10 * xg g a + xg g j) : Nat) : Int) := by omega
    have er : hdF α g (10 * a + j) (118 + (10 * xg g a + xg g j)) = α (118 + (10 * xg g a + xg g j)) ∨ ¬ (xg g a < 10 ∧ xg g j < 10) := by
      by_cases h : xg g a < 10 ∧ xg g j < 10
      · left
        unfold hdF
        rw [if_pos (by omega), show 118 + (10 * xg g a + xg g j) - 118 = 10 * xg g a + xg g j by omega, dpF_r ⟨hxa.1, hxj.1⟩]
      · exact Or.inr h
    have ea : (if (a : Int) < g then (a : Int) else ((a + 1 : Nat) : Int)) = ((xg g a : Nat) : Int) := by unfold xg; split <;> split <;> omega
    have ej : (if (j : Int) < g then (j : Int) else ((j + 1 : Nat) : Int)) = ((xg g j : Nat) : Int) := by unfold xg; split <;> split <;> omega
    have step : ∀ (u4 u5 : Option Value), Wp d 271 44 [some (.ref 294), some (.int (Int32.ofInt (g : Int))), some (.int (Int32.ofInt (a : Int))), some (.int (Int32.ofInt (j : Int))), some (.int (Int32.ofInt ((xg g a : Nat) : Int))), some (.int (Int32.ofInt ((xg g j : Nat) : Int)))] [] (mk N t 295 I (sR L 295 (r64 (hdF α g (10 * a + j)))) D) Q := by
      intro u4 u5
      by_cases h1 : xg g a < 10
      · have h1' : ((xg g a : Nat) : Int) < 10 := by omega
        by_cases h2 : xg g j < 10
        · have h2' : ((xg g j : Nat) : Int) < 10 := by omega
          have er' : hdF α g (10 * a + j) (118 + (10 * xg g a + xg g j)) = α (118 + (10 * xg g a + xg g j)) := er.resolve_right (fun h => h ⟨h1, h2⟩)
          rw [if_pos ⟨h1, h2⟩] at ih'
          simp only [w271_44, w271_45, w271_48, w271_50, w271_52, w271_53, w271_54, w271_55, w271_56, w271_57, w271_59, w271_61, w271_64, w271_66, w271_68, w271_71, w271_72, w271_75, w271_77, w271_79, w271_81, w271_82, w271_83, w271_85, w271_86, w271_87, w271_90, w271_91, w271_92, w271_95, kn_s, kn_n, zh_mk, zR_mk, zI_mk, zL_mk, zD_mk, wI_mk, wL_mk, wD_mk, zT_mk, zC_mk, kill_i, kill_r, kill_0, kill_n, kill_l, kill_q, zzk_r, zzk_0, zzk_q, zcat_r, zcat_i, zcat_0, cats_0, cats_i, cats_r, cats_l, cats_d, cats_f, rv_s, rv_0, Nat.reduceAdd, Nat.reduceLeDiff, Nat.add_zero, Nat.reduceMul, Nat.reduceSub, ne_eq, not_false_eq_true, not_true_eq_false, and_self, and_true, true_and, or_self, or_true, true_or, or_false, false_or, if_true, if_false, reduceIte, reduceCtorEq, implies_true, ite_self, ite_not, kM, kMr, kRow hw, sR_at, up2_r64, r64_at, o_add, o_sub, o_mul, o_neg, q_add, q_sub, q_mul, q_neg, o_32, cast_s, Int.toNat_natCast, o_lt (a := ((xg g a : Nat) : Int)) (b := 10) (by omega), o_lt (a := ((xg g j : Nat) : Int)) (b := 10) (by omega), h1', h2', e1, e2, o_ixn (j := 118 + (10 * a + j)) (n := 378) (by omega), o_tnn (j := 118 + (10 * a + j)) (by omega), o_ixn (j := 118 + (10 * xg g a + xg g j)) (n := 378) (by omega), o_tnn (j := 118 + (10 * xg g a + xg g j)) (by omega), er']
          exact ih' _ _
        · have h2' : ¬ (((xg g j : Nat) : Int) < 10) := by omega
          rw [if_neg (fun h => h2 h.2)] at ih'
          simp only [w271_44, w271_45, w271_48, w271_50, w271_52, w271_53, w271_54, w271_55, w271_56, w271_57, w271_59, w271_61, w271_64, w271_66, w271_68, w271_71, w271_72, w271_75, w271_77, w271_79, w271_81, w271_82, w271_83, w271_85, w271_86, w271_87, w271_90, w271_91, w271_92, w271_95, kn_s, kn_n, zh_mk, zR_mk, zI_mk, zL_mk, zD_mk, wI_mk, wL_mk, wD_mk, zT_mk, zC_mk, kill_i, kill_r, kill_0, kill_n, kill_l, kill_q, zzk_r, zzk_0, zzk_q, zcat_r, zcat_i, zcat_0, cats_0, cats_i, cats_r, cats_l, cats_d, cats_f, rv_s, rv_0, Nat.reduceAdd, Nat.reduceLeDiff, Nat.add_zero, Nat.reduceMul, Nat.reduceSub, ne_eq, not_false_eq_true, not_true_eq_false, and_self, and_true, true_and, or_self, or_true, true_or, or_false, false_or, if_true, if_false, reduceIte, reduceCtorEq, implies_true, ite_self, ite_not, kM, kMr, kRow hw, sR_at, up2_r64, r64_at, o_add, o_sub, o_mul, o_neg, q_add, q_sub, q_mul, q_neg, o_32, cast_s, Int.toNat_natCast, o_lt (a := ((xg g a : Nat) : Int)) (b := 10) (by omega), o_lt (a := ((xg g j : Nat) : Int)) (b := 10) (by omega), h1', h2', e1, o_ixn (j := 118 + (10 * a + j)) (n := 378) (by omega), o_tnn (j := 118 + (10 * a + j)) (by omega)]
          exact ih' _ _
      · have h1' : ¬ (((xg g a : Nat) : Int) < 10) := by omega
        rw [if_neg (fun h => h1 h.1)] at ih'
        simp only [w271_44, w271_45, w271_48, w271_50, w271_52, w271_53, w271_54, w271_55, w271_56, w271_57, w271_59, w271_61, w271_64, w271_66, w271_68, w271_71, w271_72, w271_75, w271_77, w271_79, w271_81, w271_82, w271_83, w271_85, w271_86, w271_87, w271_90, w271_91, w271_92, w271_95, kn_s, kn_n, zh_mk, zR_mk, zI_mk, zL_mk, zD_mk, wI_mk, wL_mk, wD_mk, zT_mk, zC_mk, kill_i, kill_r, kill_0, kill_n, kill_l, kill_q, zzk_r, zzk_0, zzk_q, zcat_r, zcat_i, zcat_0, cats_0, cats_i, cats_r, cats_l, cats_d, cats_f, rv_s, rv_0, Nat.reduceAdd, Nat.reduceLeDiff, Nat.add_zero, Nat.reduceMul, Nat.reduceSub, ne_eq, not_false_eq_true, not_true_eq_false, and_self, and_true, true_and, or_self, or_true, true_or, or_false, false_or, if_true, if_false, reduceIte, reduceCtorEq, implies_true, ite_self, ite_not, kM, kMr, kRow hw, sR_at, up2_r64, r64_at, o_add, o_sub, o_mul, o_neg, q_add, q_sub, q_mul, q_neg, o_32, cast_s, Int.toNat_natCast, o_lt (a := ((xg g a : Nat) : Int)) (b := 10) (by omega), h1', e1, o_ixn (j := 118 + (10 * a + j)) (n := 378) (by omega), o_tnn (j := 118 + (10 * a + j)) (by omega)]
        exact ih' _ _
    rw [w271_10]
    by_cases ca : (a : Int) < g
    · simp only [eq_true ca, if_true] at ea
      by_cases cj : (j : Int) < g
      · simp only [eq_true cj, if_true] at ej
        simp only [w271_11, w271_13, w271_16, w271_17, w271_18, w271_21, w271_22, w271_25, w271_26, w271_27, w271_28, w271_30, w271_31, w271_32, w271_35, w271_36, w271_39, w271_40, w271_41, w271_42, kn_s, kn_n, zh_mk, zR_mk, zI_mk, zL_mk, zD_mk, wI_mk, wL_mk, wD_mk, zT_mk, zC_mk, kill_i, kill_r, kill_0, kill_n, kill_l, kill_q, zzk_r, zzk_0, zzk_q, zcat_r, zcat_i, zcat_0, cats_0, cats_i, cats_r, cats_l, cats_d, cats_f, rv_s, rv_0, Nat.reduceAdd, Nat.reduceLeDiff, Nat.add_zero, Nat.reduceMul, Nat.reduceSub, ne_eq, not_false_eq_true, not_true_eq_false, and_self, and_true, true_and, or_self, or_true, true_or, or_false, false_or, if_true, if_false, reduceIte, reduceCtorEq, implies_true, ite_self, ite_not, kM, kMr, kRow hw, sR_at, up2_r64, r64_at, o_add, o_sub, o_mul, o_neg, q_add, q_sub, q_mul, q_neg, o_32, cast_s, Int.toNat_natCast, o_lt (a := (j : Int)) (b := 10) (by omega), g0, o_lt (a := (a : Int)) (b := (g : Int)) (by omega), o_lt (a := (j : Int)) (b := (g : Int)) (by omega), eq_true ca, eq_true cj]
        have s := step u4 u5
        rw [← ea, ← ej] at s
        exact s
      · simp only [eq_false cj, if_false] at ej
        simp only [w271_11, w271_13, w271_16, w271_17, w271_18, w271_21, w271_22, w271_25, w271_26, w271_27, w271_28, w271_30, w271_31, w271_32, w271_35, w271_36, w271_39, w271_40, w271_41, w271_42, kn_s, kn_n, zh_mk, zR_mk, zI_mk, zL_mk, zD_mk, wI_mk, wL_mk, wD_mk, zT_mk, zC_mk, kill_i, kill_r, kill_0, kill_n, kill_l, kill_q, zzk_r, zzk_0, zzk_q, zcat_r, zcat_i, zcat_0, cats_0, cats_i, cats_r, cats_l, cats_d, cats_f, rv_s, rv_0, Nat.reduceAdd, Nat.reduceLeDiff, Nat.add_zero, Nat.reduceMul, Nat.reduceSub, ne_eq, not_false_eq_true, not_true_eq_false, and_self, and_true, true_and, or_self, or_true, true_or, or_false, false_or, if_true, if_false, reduceIte, reduceCtorEq, implies_true, ite_self, ite_not, kM, kMr, kRow hw, sR_at, up2_r64, r64_at, o_add, o_sub, o_mul, o_neg, q_add, q_sub, q_mul, q_neg, o_32, cast_s, Int.toNat_natCast, o_lt (a := (j : Int)) (b := 10) (by omega), g0, o_lt (a := (a : Int)) (b := (g : Int)) (by omega), o_lt (a := (j : Int)) (b := (g : Int)) (by omega), eq_true ca, eq_false cj]
        have s := step u4 u5
        rw [← ea, ← ej] at s
        exact s
    · simp only [eq_false ca, if_false] at ea
      by_cases cj : (j : Int) < g
      · simp only [eq_true cj, if_true] at ej
        simp only [w271_11, w271_13, w271_16, w271_17, w271_18, w271_21, w271_22, w271_25, w271_26, w271_27, w271_28, w271_30, w271_31, w271_32, w271_35, w271_36, w271_39, w271_40, w271_41, w271_42, kn_s, kn_n, zh_mk, zR_mk, zI_mk, zL_mk, zD_mk, wI_mk, wL_mk, wD_mk, zT_mk, zC_mk, kill_i, kill_r, kill_0, kill_n, kill_l, kill_q, zzk_r, zzk_0, zzk_q, zcat_r, zcat_i, zcat_0, cats_0, cats_i, cats_r, cats_l, cats_d, cats_f, rv_s, rv_0, Nat.reduceAdd, Nat.reduceLeDiff, Nat.add_zero, Nat.reduceMul, Nat.reduceSub, ne_eq, not_false_eq_true, not_true_eq_false, and_self, and_true, true_and, or_self, or_true, true_or, or_false, false_or, if_true, if_false, reduceIte, reduceCtorEq, implies_true, ite_self, ite_not, kM, kMr, kRow hw, sR_at, up2_r64, r64_at, o_add, o_sub, o_mul, o_neg, q_add, q_sub, q_mul, q_neg, o_32, cast_s, Int.toNat_natCast, o_lt (a := (j : Int)) (b := 10) (by omega), g0, o_lt (a := (a : Int)) (b := (g : Int)) (by omega), o_lt (a := (j : Int)) (b := (g : Int)) (by omega), eq_false ca, eq_true cj]
        have s := step u4 u5
        rw [← ea, ← ej] at s
        exact s
      · simp only [eq_false cj, if_false] at ej
        simp only [w271_11, w271_13, w271_16, w271_17, w271_18, w271_21, w271_22, w271_25, w271_26, w271_27, w271_28, w271_30, w271_31, w271_32, w271_35, w271_36, w271_39, w271_40, w271_41, w271_42, kn_s, kn_n, zh_mk, zR_mk, zI_mk, zL_mk, zD_mk, wI_mk, wL_mk, wD_mk, zT_mk, zC_mk, kill_i, kill_r, kill_0, kill_n, kill_l, kill_q, zzk_r, zzk_0, zzk_q, zcat_r, zcat_i, zcat_0, cats_0, cats_i, cats_r, cats_l, cats_d, cats_f, rv_s, rv_0, Nat.reduceAdd, Nat.reduceLeDiff, Nat.add_zero, Nat.reduceMul, Nat.reduceSub, ne_eq, not_false_eq_true, not_true_eq_false, and_self, and_true, true_and, or_self, or_true, true_or, or_false, false_or, if_true, if_false, reduceIte, reduceCtorEq, implies_true, ite_self, ite_not, kM, kMr, kRow hw, sR_at, up2_r64, r64_at, o_add, o_sub, o_mul, o_neg, q_add, q_sub, q_mul, q_neg, o_32, cast_s, Int.toNat_natCast, o_lt (a := (j : Int)) (b := 10) (by omega), g0, o_lt (a := (a : Int)) (b := (g : Int)) (by omega), o_lt (a := (j : Int)) (b := (g : Int)) (by omega), eq_false ca, eq_false cj]
        have s := step u4 u5
        rw [← ea, ← ej] at s
        exact s
theorem c271_2 (hg : g < 10) (hQ : Q (.inl none) (mk N t 295 I (sR L 295 (r64 (hdF α g 100))) D)) : ∀ (r a : Nat) (u3 u4 u5 : Option Value), a + r = 10 → Wp d 271 2 [some (.ref 294), some (.int (Int32.ofInt (g : Int))), some (.int (Int32.ofInt (a : Int))), u3, u4, u5] [] (mk N t 295 I (sR L 295 (r64 (hdF α g (10 * a)))) D) Q := by
  have hw : RW 295 := Or.inl rfl
  intro r
  induction r with
  | zero =>
    intro a u3 u4 u5 ha
    obtain rfl : a = 10 := by omega
    have g0 : ¬ (((10 : Nat) : Int) < 10) := by omega
    rw [w271_2]
    simp only [w271_3, w271_5, w271_104, kn_s, kn_n, zh_mk, zR_mk, zI_mk, zL_mk, zD_mk, wI_mk, wL_mk, wD_mk, zT_mk, zC_mk, kill_i, kill_r, kill_0, kill_n, kill_l, kill_q, zzk_r, zzk_0, zzk_q, zcat_r, zcat_i, zcat_0, cats_0, cats_i, cats_r, cats_l, cats_d, cats_f, rv_s, rv_0, Nat.reduceAdd, Nat.reduceLeDiff, Nat.add_zero, Nat.reduceMul, Nat.reduceSub, ne_eq, not_false_eq_true, not_true_eq_false, and_self, and_true, true_and, or_self, or_true, true_or, or_false, false_or, if_true, if_false, reduceIte, reduceCtorEq, implies_true, ite_self, ite_not, kM, kMr, kRow hw, sR_at, up2_r64, r64_at, o_add, o_sub, o_mul, o_neg, q_add, q_sub, q_mul, q_neg, o_32, cast_s, Int.toNat_natCast, o_lt (a := ((10 : Nat) : Int)) (b := 10) (by omega), g0]
    exact hQ
  | succ r ih =>
    intro a u3 u4 u5 ha
    have g0 : (a : Int) < 10 := by omega
    have l := c271_10 (d := d) (N := N) (t := t) (I := I) (L := L) (D := D) (Q := Q) (α := α) (u4 := none) (u5 := none) hg (show a < 10 by omega) 10 0 u4 u5 (by omega) (fun v4 v5 => by
      simp only [w271_98, w271_101, kn_s, kn_n, zh_mk, zR_mk, zI_mk, zL_mk, zD_mk, wI_mk, wL_mk, wD_mk, zT_mk, zC_mk, kill_i, kill_r, kill_0, kill_n, kill_l, kill_q, zzk_r, zzk_0, zzk_q, zcat_r, zcat_i, zcat_0, cats_0, cats_i, cats_r, cats_l, cats_d, cats_f, rv_s, rv_0, Nat.reduceAdd, Nat.reduceLeDiff, Nat.add_zero, Nat.reduceMul, Nat.reduceSub, ne_eq, not_false_eq_true, not_true_eq_false, and_self, and_true, true_and, or_self, or_true, true_or, or_false, false_or, if_true, if_false, reduceIte, reduceCtorEq, implies_true, ite_self, ite_not, kM, kMr, kRow hw, sR_at, up2_r64, r64_at, o_add, o_sub, o_mul, o_neg, q_add, q_sub, q_mul, q_neg, o_32, cast_s, Int.toNat_natCast]
      have := ih (a + 1) (some (.int (Int32.ofInt ((10 : Nat) : Int)))) v4 v5 (by omega)
      rw [show 10 * (a + 1) = 10 * a + 10 by omega] at this
      exact this)
    rw [w271_2]
    simp only [w271_3, w271_5, w271_8, w271_9, kn_s, kn_n, zh_mk, zR_mk, zI_mk, zL_mk, zD_mk, wI_mk, wL_mk, wD_mk, zT_mk, zC_mk, kill_i, kill_r, kill_0, kill_n, kill_l, kill_q, zzk_r, zzk_0, zzk_q, zcat_r, zcat_i, zcat_0, cats_0, cats_i, cats_r, cats_l, cats_d, cats_f, rv_s, rv_0, Nat.reduceAdd, Nat.reduceLeDiff, Nat.add_zero, Nat.reduceMul, Nat.reduceSub, ne_eq, not_false_eq_true, not_true_eq_false, and_self, and_true, true_and, or_self, or_true, true_or, or_false, false_or, if_true, if_false, reduceIte, reduceCtorEq, implies_true, ite_self, ite_not, kM, kMr, kRow hw, sR_at, up2_r64, r64_at, o_add, o_sub, o_mul, o_neg, q_add, q_sub, q_mul, q_neg, o_32, cast_s, Int.toNat_natCast, o_lt (a := (a : Int)) (b := 10) (by omega), g0]
    exact l
/-- entries renumbered up to K -/
def lgR (α : Nat → Int) (g K : Nat) : Nat → Int := fun j => if 218 ≤ j ∧ j < 218 + 4 * K ∧ ((j - 218) % 4 = 1 ∨ (j - 218) % 4 = 2) then rnA (g : Int) (α j) else α j
theorem lgR_s {K : Nat} : up1 (up1 (lgR α g K) (218 + 4 * K + 1) (rnA (g : Int) (α (218 + 4 * K + 1)))) (218 + 4 * K + 2) (rnA (g : Int) (α (218 + 4 * K + 2))) = lgR α g (K + 1) := by
  funext j
  unfold up1 lgR
  by_cases h2 : j = 218 + 4 * K + 2
  · rw [if_pos h2, if_pos (by omega), h2]
  · rw [if_neg h2]
    by_cases h1 : j = 218 + 4 * K + 1
    · rw [if_pos h1, if_pos (by omega), h1]
    · rw [if_neg h1]
      by_cases h : 218 ≤ j ∧ j < 218 + 4 * K ∧ ((j - 218) % 4 = 1 ∨ (j - 218) % 4 = 2)
      · rw [if_pos h, if_pos (by omega)]
      · rw [if_neg h, if_neg (by omega)]
theorem c270_90 (h4 : 0 ≤ α 4 ∧ α 4 ≤ 40) (hx : ∀ k : Nat, k < 40 → (k : Int) < α 4 → (-2147483648 ≤ α (218 + 4 * k + 1) ∧ α (218 + 4 * k + 1) < 2147483648) ∧ (-2147483648 ≤ α (218 + 4 * k + 2) ∧ α (218 + 4 * k + 2) < 2147483648)) (hg : g < 10) {x2 : Int64} : ∀ r K : Nat, K + r = (α 4).toNat → Wp (d + 4) 270 90 [some (.ref 294), some (.int (Int32.ofInt (g : Int))), some (.long x2), none, some (.int (Int32.ofInt (K : Int)))] [] (mk N t 295 I (sR L 295 (r64 (lgR α g K))) D) Q = Wp (d + 4) 270 159 [some (.ref 294), some (.int (Int32.ofInt (g : Int))), some (.long x2), none, some (.int (Int32.ofInt (((α 4).toNat : Nat) : Int)))] [] (mk N t 295 I (sR L 295 (r64 (lgR α g (α 4).toNat))) D) Q := by
  have hw : RW 295 := Or.inl rfl
  have e4 : ∀ K, lgR α g K 4 = α 4 := fun K => by
    unfold lgR
    rw [if_neg (by omega)]
  intro r
  induction r with
  | zero =>
    intro K hK
    obtain rfl : K = (α 4).toNat := by omega
    have g0 : ¬ ((((α 4).toNat : Nat) : Int) < α 4) := by omega
    rw [w270_90]
    simp only [w270_92, w270_93, w270_96, kn_s, kn_n, zh_mk, zR_mk, zI_mk, zL_mk, zD_mk, wI_mk, wL_mk, wD_mk, zT_mk, zC_mk, kill_i, kill_r, kill_0, kill_n, kill_l, kill_q, zzk_r, zzk_0, zzk_q, zcat_r, zcat_i, zcat_0, cats_0, cats_i, cats_r, cats_l, cats_d, cats_f, rv_s, rv_0, Nat.reduceAdd, Nat.reduceLeDiff, Nat.add_zero, Nat.reduceMul, Nat.reduceSub, ne_eq, not_false_eq_true, not_true_eq_false, and_self, and_true, true_and, or_self, or_true, true_or, or_false, false_or, if_true, if_false, reduceIte, reduceCtorEq, implies_true, ite_self, ite_not, kM, kMr, kRow hw, sR_at, up2_r64, r64_at, o_add, o_sub, o_mul, o_neg, q_add, q_sub, q_mul, q_neg, o_32, cast_s, Int.toNat_natCast, c212, e4, o_lt (a := (((α 4).toNat : Nat) : Int)) (b := α 4) (by omega), g0]
  | succ r ih =>
    intro K hK
    have g0 : (K : Int) < α 4 := by omega
    have k40 : K < 40 := by omega
    have hb := hx K k40 g0
    have e1 : 218 + 4 * (K : Int) + 1 = ((218 + 4 * K + 1 : Nat) : Int) := by omega
    have e2 : 218 + 4 * (K : Int) + 2 = ((218 + 4 * K + 2 : Nat) : Int) := by omega
    have c1 := fun (d : Nat) (L : Nat → Nat → Int64) (Q : Rs → St → Prop) (β : Nat → Int) => c213 (d := d) (N := N) (t := t) (w := 295) (I := I) (L := L) (D := D) (Q := Q) (α := β) k40 (show 1 < 4 by omega)
    have c2 := fun (d : Nat) (L : Nat → Nat → Int64) (Q : Rs → St → Prop) (β : Nat → Int) => c213 (d := d) (N := N) (t := t) (w := 295) (I := I) (L := L) (D := D) (Q := Q) (α := β) k40 (show 2 < 4 by omega)
    rw [show ((1 : Nat) : Int) = 1 from rfl] at c1
    rw [show ((2 : Nat) : Int) = 2 from rfl] at c2
    have l1 : lgR α g K (218 + 4 * K + 1) = α (218 + 4 * K + 1) := by
      unfold lgR
      rw [if_neg (by omega)]
    have l2 : up1 (lgR α g K) (218 + 4 * K + 1) (rnA (g : Int) (α (218 + 4 * K + 1))) (218 + 4 * K + 2) = α (218 + 4 * K + 2) := by
      rw [up1_ne (by omega)]
      unfold lgR
      rw [if_neg (by omega)]
    have r1 : -2147483648 ≤ rnA (g : Int) (α (218 + 4 * K + 1)) ∧ rnA (g : Int) (α (218 + 4 * K + 1)) < 2147483648 := by
      unfold rnA
      split
      · omega
      · split <;> omega
    have r2 : -2147483648 ≤ rnA (g : Int) (α (218 + 4 * K + 2)) ∧ rnA (g : Int) (α (218 + 4 * K + 2)) < 2147483648 := by
      unfold rnA
      split
      · omega
      · split <;> omega
    rw [w270_90]
    simp only [w270_92, w270_93, w270_96, w270_99, w270_100, w270_103, w270_106, w270_107, w270_109, w270_110, w270_111, w270_112, w270_113, w270_114, w270_116, w270_117, w270_120, w270_121, w270_124, w270_125, w270_126, w270_127, w270_130, w270_133, w270_134, w270_136, w270_137, w270_138, w270_139, w270_140, w270_141, w270_143, w270_144, w270_147, w270_148, w270_151, w270_152, w270_153, w270_156, kn_s, kn_n, zh_mk, zR_mk, zI_mk, zL_mk, zD_mk, wI_mk, wL_mk, wD_mk, zT_mk, zC_mk, kill_i, kill_r, kill_0, kill_n, kill_l, kill_q, zzk_r, zzk_0, zzk_q, zcat_r, zcat_i, zcat_0, cats_0, cats_i, cats_r, cats_l, cats_d, cats_f, rv_s, rv_0, Nat.reduceAdd, Nat.reduceLeDiff, Nat.add_zero, Nat.reduceMul, Nat.reduceSub, ne_eq, not_false_eq_true, not_true_eq_false, and_self, and_true, true_and, or_self, or_true, true_or, or_false, false_or, if_true, if_false, reduceIte, reduceCtorEq, implies_true, ite_self, ite_not, kM, kMr, kRow hw, sR_at, up2_r64, r64_at, o_add, o_sub, o_mul, o_neg, q_add, q_sub, q_mul, q_neg, o_32, cast_s, Int.toNat_natCast, kM1, kA295, c212, e4, o_lt (a := (K : Int)) (b := α 4) (by omega), g0, e1, e2, o_ixn (j := 218 + 4 * K + 1) (n := 378) (by omega), o_tnn (j := 218 + 4 * K + 1) (by omega), o_ixn (j := 218 + 4 * K + 2) (n := 378) (by omega), o_tnn (j := 218 + 4 * K + 2) (by omega), c1, c2, l1, l2, c272 hb.1 hg, c272 hb.2 hg, o_64 r1, o_64 r2, lgR_s, ih (K + 1) (by omega)]
theorem rvA_eq (h4 : 0 ≤ α 4 ∧ α 4 ≤ 40) (hn : n ≤ 10) (hg : g < n) (e1 : α 1 = (n : Int)) : lgR (hdF (up1 (sh9 α g (28 + 9 * (n - 1))) 1 (sh9 α g (28 + 9 * (n - 1)) 1 - 1)) g 100) g (α 4).toNat = rvA α n g := by
  funext k
  have hi : ∀ j, 118 ≤ j → up1 (sh9 α g (28 + 9 * (n - 1))) 1 (sh9 α g (28 + 9 * (n - 1)) 1 - 1) j = α j := fun j hj => by
    rw [up1_ne (by omega)]
    unfold sh9
    rw [if_neg (by omega)]
  unfold lgR rvA
  by_cases k1 : k = 1
  · subst k1
    rw [if_neg (by omega), if_pos rfl]
    unfold hdF
    rw [if_neg (by omega), up1_eq']
    unfold sh9
    rw [if_neg (by omega)]
  · rw [if_neg k1]
    by_cases k2 : 28 + 9 * g ≤ k ∧ k < 28 + 9 * (n - 1)
    · rw [if_neg (by omega), if_pos k2]
      unfold hdF
      rw [if_neg (by omega), up1_ne k1]
      unfold sh9
      rw [if_pos k2]
    · rw [if_neg k2]
      by_cases k3 : 118 ≤ k ∧ k < 218
      · rw [if_neg (by omega), if_pos k3]
        unfold hdF dpF
        rw [if_pos k3, if_pos (by omega)]
        have : (fun j => up1 (sh9 α g (28 + 9 * (n - 1))) 1 (sh9 α g (28 + 9 * (n - 1)) 1 - 1) (118 + j)) = fun j => α (118 + j) := funext fun j => hi _ (by omega)
        rw [this]
      · rw [if_neg k3]
        have ek : hdF (up1 (sh9 α g (28 + 9 * (n - 1))) 1 (sh9 α g (28 + 9 * (n - 1)) 1 - 1)) g 100 k = α k := by
          unfold hdF
          rw [if_neg k3, up1_ne k1]
          unfold sh9
          rw [if_neg k2]
        rw [ek]
        by_cases k4 : 218 ≤ k ∧ k < 378 ∧ (((k - 218) / 4 : Nat) : Int) < α 4 ∧ ((k - 218) % 4 = 1 ∨ (k - 218) % 4 = 2)
        · rw [if_pos k4, if_pos (by omega)]
        · rw [if_neg k4, if_neg (by omega)]
theorem c270 {r : Nat} (hr : r ≤ 6) (e24 : I 294 24 = Int32.ofInt (r : Int)) (hG : GA α n m o) (hX : LX α) (hg : g < n) : Wp (d + 4) 270 0 [some (.ref 294), some (.int (Int32.ofInt (g : Int))), none, none, none] [] (mk N t 295 I (sR L 295 (r64 α)) D) Q = Q (.inl (some (.int (Int32.ofInt ((n - 1 : Nat) : Int))))) (mk N t 295 (up2 (up2 I 294 0 (Int32.ofInt 0)) 294 24 (Int32.ofInt (rn r : Int))) (sR (sR L 301 (rmP r (r64 α) (L 301))) 295 (r64 (up1 (rvA α n g) 7 (rvA α n g 7 + (pushA (rvA α n g) (n - 1) - pushA α n))))) D) := by
  have hw : RW 295 := Or.inl rfl
  have h10 := hG.1.1
  have h4 := hG.2.2.1.2.2
  have hn1 := hG.1.2.1
  have hA := rv_G hG hg
  have gi : 0 ≤ (g : Int) ∧ (g : Int) ≤ (n : Int) - 1 := by omega
  have e24' : up2 I 294 0 (Int32.ofInt 0) 294 24 = Int32.ofInt (r : Int) := by rw [u2_ne (by omega)]; exact e24
  have eK : 28 + 9 * (g : Int) = ((28 + 9 * g : Nat) : Int) := by omega
  have s0 : sh9 α g (28 + 9 * g) = α := by
    funext k
    unfold sh9
    rw [if_neg (by omega)]
  have l1 := fun (d : Nat) (I : Nat → Nat → Int32) (L : Nat → Nat → Int64) (Q : Rs → St → Prop) => c270_32 (d := d) (N := N) (t := t) (I := I) (L := L) (D := D) (Q := Q) (x2 := Int64.ofInt (pushA α n)) hG hg (28 + 9 * (n - 1) - (28 + 9 * g)) (28 + 9 * g) (by omega) (Nat.le_refl _)
  rw [s0] at l1
  have eq := rvA_eq h4 h10 hg hn1
  have e71 : rvA α n g 1 = ((n - 1 : Nat) : Int) := hA.1.2.1
  have hpn : up1 (rvA α n g) 7 (rvA α n g 7 + (pushA (rvA α n g) (n - 1) - pushA α n)) 1 = ((n - 1 : Nat) : Int) := by rw [up1_ne (by omega)]; exact e71
  -- the middle: rows dropped, entries renumbered
  have mid : ∀ (d : Nat) (I : Nat → Nat → Int32) (L : Nat → Nat → Int64) (Q : Rs → St → Prop), (Wp (d + 4) 270 159 [some (.ref 294), some (.int (Int32.ofInt (g : Int))), some (.long (Int64.ofInt (pushA α n))), none, some (.int (Int32.ofInt (((α 4).toNat : Nat) : Int)))] [] (mk N t 295 I (sR L 295 (r64 (rvA α n g))) D) Q) → Wp (d + 4) 270 72 [some (.ref 294), some (.int (Int32.ofInt (g : Int))), some (.long (Int64.ofInt (pushA α n))), none, some (.int (Int32.ofInt ((28 + 9 * (n - 1) : Nat) : Int)))] [] (mk N t 295 I (sR L 295 (r64 (sh9 α g (28 + 9 * (n - 1))))) D) Q := by
    intro d I L Q hQ
    have e4 : hdF (up1 (sh9 α g (28 + 9 * (n - 1))) 1 (sh9 α g (28 + 9 * (n - 1)) 1 - 1)) g 100 4 = α 4 := by
      unfold hdF
      rw [if_neg (by omega), up1_ne (by omega)]
      unfold sh9
      rw [if_neg (by omega)]
    have ehi : ∀ j, 218 ≤ j → hdF (up1 (sh9 α g (28 + 9 * (n - 1))) 1 (sh9 α g (28 + 9 * (n - 1)) 1 - 1)) g 100 j = α j := fun j hj => by
      unfold hdF
      rw [if_neg (by omega), up1_ne (by omega)]
      unfold sh9
      rw [if_neg (by omega)]
    have l3 := c270_90 (d := d) (N := N) (t := t) (I := I) (L := L) (D := D) (Q := Q) (α := hdF (up1 (sh9 α g (28 + 9 * (n - 1))) 1 (sh9 α g (28 + 9 * (n - 1)) 1 - 1)) g 100) (g := g) (x2 := Int64.ofInt (pushA α n)) (by rw [e4]; exact h4) (fun k hk hk4 => by
      rw [e4] at hk4
      have := hX k hk hk4
      rw [ehi _ (by omega), ehi _ (by omega)]
      omega) (by omega) (α 4).toNat 0 (by rw [e4]; omega)
    rw [e4, eq] at l3
    have e0 : lgR (hdF (up1 (sh9 α g (28 + 9 * (n - 1))) 1 (sh9 α g (28 + 9 * (n - 1)) 1 - 1)) g 100) g 0 = hdF (up1 (sh9 α g (28 + 9 * (n - 1))) 1 (sh9 α g (28 + 9 * (n - 1)) 1 - 1)) g 100 := by
      funext k
      unfold lgR
      rw [if_neg (by omega)]
    rw [e0] at l3
    simp only [w270_72, w270_73, w270_76, w270_77, w270_78, w270_79, w270_80, w270_81, w270_82, w270_83, w270_84, kn_s, kn_n, zh_mk, zR_mk, zI_mk, zL_mk, zD_mk, wI_mk, wL_mk, wD_mk, zT_mk, zC_mk, kill_i, kill_r, kill_0, kill_n, kill_l, kill_q, zzk_r, zzk_0, zzk_q, zcat_r, zcat_i, zcat_0, cats_0, cats_i, cats_r, cats_l, cats_d, cats_f, rv_s, rv_0, Nat.reduceAdd, Nat.reduceLeDiff, Nat.add_zero, Nat.reduceMul, Nat.reduceSub, ne_eq, not_false_eq_true, not_true_eq_false, and_self, and_true, true_and, or_self, or_true, true_or, or_false, false_or, if_true, if_false, reduceIte, reduceCtorEq, implies_true, ite_self, ite_not, kM, kMr, kRow hw, sR_at, up2_r64, r64_at, o_add, o_sub, o_mul, o_neg, q_add, q_sub, q_mul, q_neg, o_32, cast_s, Int.toNat_natCast, kM1, kA295, ixc1, tnc1]
    have l2 := c271_2 (d := d + 3) (N := N) (t := t) (I := I) (L := L) (D := D) (α := up1 (sh9 α g (28 + 9 * (n - 1))) 1 (sh9 α g (28 + 9 * (n - 1)) 1 - 1)) (g := g) (Q := kn (d + 3 + 1) 270 84 87 [some (.ref 294), some (.int (Int32.ofInt (g : Int))), some (.long (Int64.ofInt (pushA α n))), none, some (.int (Int32.ofInt ((28 + 9 * (n - 1) : Nat) : Int)))] [] Q) (by omega) (by
        simp only [w270_87, w270_88, kn_s, kn_n, zh_mk, zR_mk, zI_mk, zL_mk, zD_mk, wI_mk, wL_mk, wD_mk, zT_mk, zC_mk, kill_i, kill_r, kill_0, kill_n, kill_l, kill_q, zzk_r, zzk_0, zzk_q, zcat_r, zcat_i, zcat_0, cats_0, cats_i, cats_r, cats_l, cats_d, cats_f, rv_s, rv_0, Nat.reduceAdd, Nat.reduceLeDiff, Nat.add_zero, Nat.reduceMul, Nat.reduceSub, ne_eq, not_false_eq_true, not_true_eq_false, and_self, and_true, true_and, or_self, or_true, true_or, or_false, false_or, if_true, if_false, reduceIte, reduceCtorEq, implies_true, ite_self, ite_not, kM, kMr, kRow hw, sR_at, up2_r64, r64_at, o_add, o_sub, o_mul, o_neg, q_add, q_sub, q_mul, q_neg, o_32, cast_s, Int.toNat_natCast]
        exact l3.mpr hQ) 10 0 none none none (by omega)
    rw [Nat.mul_zero, hdF_0] at l2
    simp only [w271_0, w271_1, kn_s, kn_n, zh_mk, zR_mk, zI_mk, zL_mk, zD_mk, wI_mk, wL_mk, wD_mk, zT_mk, zC_mk, kill_i, kill_r, kill_0, kill_n, kill_l, kill_q, zzk_r, zzk_0, zzk_q, zcat_r, zcat_i, zcat_0, cats_0, cats_i, cats_r, cats_l, cats_d, cats_f, rv_s, rv_0, Nat.reduceAdd, Nat.reduceLeDiff, Nat.add_zero, Nat.reduceMul, Nat.reduceSub, ne_eq, not_false_eq_true, not_true_eq_false, and_self, and_true, true_and, or_self, or_true, true_or, or_false, false_or, if_true, if_false, reduceIte, reduceCtorEq, implies_true, ite_self, ite_not]
    exact l2
  apply propext
  have walk : ∀ Q : Rs → St → Prop, Q (.inl (some (.int (Int32.ofInt ((n - 1 : Nat) : Int))))) (mk N t 295 (up2 (up2 I 294 0 (Int32.ofInt 0)) 294 24 (Int32.ofInt (rn r : Int))) (sR (sR L 301 (rmP r (r64 α) (L 301))) 295 (r64 (up1 (rvA α n g) 7 (rvA α n g 7 + (pushA (rvA α n g) (n - 1) - pushA α n))))) D) → Wp (d + 4) 270 0 [some (.ref 294), some (.int (Int32.ofInt (g : Int))), none, none, none] [] (mk N t 295 I (sR L 295 (r64 α)) D) Q := by
    intro Q hQ
    simp only [w270_0, w270_1, w270_2, w270_3, w270_6, w270_9, w270_12, w270_13, w270_14, w270_15, w270_18, w270_19, w270_22, w270_23, w270_25, w270_27, w270_28, w270_29, w270_30, kn_s, kn_n, zh_mk, zR_mk, zI_mk, zL_mk, zD_mk, wI_mk, wL_mk, wD_mk, zT_mk, zC_mk, kill_i, kill_r, kill_0, kill_n, kill_l, kill_q, zzk_r, zzk_0, zzk_q, zcat_r, zcat_i, zcat_0, cats_0, cats_i, cats_r, cats_l, cats_d, cats_f, rv_s, rv_0, Nat.reduceAdd, Nat.reduceLeDiff, Nat.add_zero, Nat.reduceMul, Nat.reduceSub, ne_eq, not_false_eq_true, not_true_eq_false, and_self, and_true, true_and, or_self, or_true, true_or, or_false, false_or, if_true, if_false, reduceIte, reduceCtorEq, implies_true, ite_self, ite_not, kM, kMr, kRow hw, sR_at, up2_r64, r64_at, o_add, o_sub, o_mul, o_neg, q_add, q_sub, q_mul, q_neg, o_32, cast_s, Int.toNat_natCast, c197 hw hG.1 (show -2147483648 ≤ (g : Int) ∧ (g : Int) < 2147483648 by omega), c150, eq_true gi, thr, p_0, c188' hr e24', c215 hw hG.1, eK]
    refine (l1 _ _ _ _).mpr ?_
    refine mid _ _ _ _ ?_
    simp only [w270_159, w270_160, w270_161, w270_164, w270_165, w270_168, kn_s, kn_n, zh_mk, zR_mk, zI_mk, zL_mk, zD_mk, wI_mk, wL_mk, wD_mk, zT_mk, zC_mk, kill_i, kill_r, kill_0, kill_n, kill_l, kill_q, zzk_r, zzk_0, zzk_q, zcat_r, zcat_i, zcat_0, cats_0, cats_i, cats_r, cats_l, cats_d, cats_f, rv_s, rv_0, Nat.reduceAdd, Nat.reduceLeDiff, Nat.add_zero, Nat.reduceMul, Nat.reduceSub, ne_eq, not_false_eq_true, not_true_eq_false, and_self, and_true, true_and, or_self, or_true, true_or, or_false, false_or, if_true, if_false, reduceIte, reduceCtorEq, implies_true, ite_self, ite_not, kM, kMr, kRow hw, sR_at, up2_r64, r64_at, o_add, o_sub, o_mul, o_neg, q_add, q_sub, q_mul, q_neg, o_32, cast_s, Int.toNat_natCast, c266 hw hA.1, c176 hw, hpn]
    exact hQ
  constructor
  · intro h
    obtain ⟨n1, r1, σ1, h1, h2⟩ := h
    obtain ⟨n2, r2, σ2, h3, h4⟩ := walk (fun r' σ => r' = .inl (some (.int (Int32.ofInt ((n - 1 : Nat) : Int)))) ∧ σ = mk N t 295 (up2 (up2 I 294 0 (Int32.ofInt 0)) 294 24 (Int32.ofInt (rn r : Int))) (sR (sR L 301 (rmP r (r64 α) (L 301))) 295 (r64 (up1 (rvA α n g) 7 (rvA α n g 7 + (pushA (rvA α n g) (n - 1) - pushA α n))))) D) ⟨rfl, rfl⟩
    have q1 := run_le (Nat.le_max_left n1 n2) h1
    have q2 := run_le (Nat.le_max_right n1 n2) h3
    rw [q1] at q2
    cases q2
    rw [← h4.1, ← h4.2]
    exact h2
  · exact walk Q
end S71
section S71p
variable {xs : Nat → Int32} {d c t N : Nat} {I : Nat → Nat → Int32} {L : Nat → Nat → Int64} {D : Nat → Nat → UInt64} {x : Int32}
theorem pk42 (hI : Inv xs c t I L) : PairI (d + 40) 139 [some (.ref 15), some (.int x), none] [(1, 2)] (d + 41) 270 [some (.ref 294), some (.int x), none, none, none] N xs c t I L D := by
  obtain ⟨z1, rfl, hz⟩ := o_z x
  obtain ⟨f, r, b, α, n, m, o, hb19, hb, h5, hf, hr, e1, e2, e24, hE, hN, hL, hRr, hR⟩ := Inv_ch hI
  have hG := hN.2.1
  have hX := hN.2.2
  have h10 := hG.1.1
  have hw : RW 295 := Or.inl rfl
  by_cases hi : 0 ≤ z1 ∧ z1 ≤ (n : Int) - 1
  · obtain ⟨g, rfl⟩ : ∃ g : Nat, z1 = (g : Int) := ⟨z1.toNat, by omega⟩
    have hg : g < n := by omega
    have pb := pushA_b hG
    have hE2 := EX_rv (c' := c + 1) hX (by omega) h10 hg
    have hX2 : EX (c + 1) (up1 (rvA α n g) 7 (rvA α n g 7 + (pushA (rvA α n g) (n - 1) - pushA α n))) (n - 1) := EX_ext hE2 (Nat.le_refl _) (fun k hk => up1_ne (by omega)) (fun j hj => up1_ne (by unfold B9; omega))
    refine PairI_mut (f := f) (r := r) (b := b) (α := α) (n := n) (m := m) (o := o) (n' := n - 1) (m' := m) (β := up1 (rvA α n g) 7 (rvA α n g 7 + (pushA (rvA α n g) (n - 1) - pushA α n))) (v := Int32.ofInt ((n - 1 : Nat) : Int)) (IX := fun I1 => up2 (up2 I1 294 0 (Int32.ofInt 0)) 294 24 (Int32.ofInt (rn r : Int))) hb19 hI hf hr e1 e2 hE hN hL e24 hX2 (fun I1 => by rw [u2_ne (by omega), u2_same]) (fun I1 => u2_same) (fun I1 a k h h2 => by rw [u2_ne (by omega), u2_ne (by unfold rI at h; omega)]) (fun Q hQ => ?_) (fun I1 L2 Q h4 => ?_)
    · simp only [w139_0, w139_1, w139_2, w139_5, w139_6, w139_7, w139_10, w139_11, w139_14, w139_17, w139_18, w139_21, w139_24, w139_25, w139_26, w139_29, w139_30, kn_s, kn_n, zh_mk, zR_mk, zI_mk, zL_mk, zD_mk, wI_mk, wL_mk, wD_mk, zT_mk, zC_mk, kill_i, kill_r, kill_0, kill_n, kill_l, kill_q, zzk_r, zzk_0, zzk_q, zcat_r, zcat_i, zcat_0, cats_0, cats_i, cats_r, cats_l, cats_d, cats_f, rv_s, rv_0, Nat.reduceAdd, Nat.reduceLeDiff, Nat.add_zero, Nat.reduceMul, Nat.reduceSub, ne_eq, not_false_eq_true, not_true_eq_false, and_self, and_true, true_and, or_self, or_true, true_or, or_false, false_or, if_true, if_false, reduceIte, reduceCtorEq, implies_true, ite_self, ite_not, lay_in, lay_0, up2_lay, up2_lay0, kh0, kh1, kh2, kh3, kh4, kh5, kh6, kh7, kh8, kh9, kh10, kh11, kh12, khB, khP, kr2, kr4, kr5, kr7, kr8, kr9, kr10, krB, krP, krG0, krG1, krG2, krG3, krK, Nat.reduceLT, o_add, o_sub, o_mul, o_neg, q_add, q_sub, q_mul, q_neg, o_32, cast_s, Int.toNat_natCast, k15, kr15_8, k74, h5, hb, c107r hb h5 hR hG hg, c21 hf hr e1 e2 hb19, c41r hb hRr hG]
      refine c45r hb hRr hG hX.2.1 hg (fun ℓ' o' hR' hG' => ?_)
      have hR2 := RL_7 (v := rvA α n g 7 + (pushA (rvA α n g) (n - 1) - pushA α n)) hR'
      have hQ' := hQ _ _ o' hR2 (g7_G hG')
      simp only [w139_33, w139_34, w139_37, w139_38, w139_41, w139_42, w139_45, w139_48, kn_s, kn_n, zh_mk, zR_mk, zI_mk, zL_mk, zD_mk, wI_mk, wL_mk, wD_mk, zT_mk, zC_mk, kill_i, kill_r, kill_0, kill_n, kill_l, kill_q, zzk_r, zzk_0, zzk_q, zcat_r, zcat_i, zcat_0, cats_0, cats_i, cats_r, cats_l, cats_d, cats_f, rv_s, rv_0, Nat.reduceAdd, Nat.reduceLeDiff, Nat.add_zero, Nat.reduceMul, Nat.reduceSub, ne_eq, not_false_eq_true, not_true_eq_false, and_self, and_true, true_and, or_self, or_true, true_or, or_false, false_or, if_true, if_false, reduceIte, reduceCtorEq, implies_true, ite_self, ite_not, lay_in, lay_0, up2_lay, up2_lay0, kh0, kh1, kh2, kh3, kh4, kh5, kh6, kh7, kh8, kh9, kh10, kh11, kh12, khB, khP, kr2, kr4, kr5, kr7, kr8, kr9, kr10, krB, krP, krG0, krG1, krG2, krG3, krK, Nat.reduceLT, o_add, o_sub, o_mul, o_neg, q_add, q_sub, q_mul, q_neg, o_32, cast_s, Int.toNat_natCast, k15, kr15_8, k74, h5, hb, c42m hb hR' hG' (B := pushA α n) (by omega), rd_n hR']
      exact hQ'
    · exact c270 hr (by rw [h4 24 (by omega) (by omega)]; exact e24) hG hX.2.1 hg
  · refine PairI_x (y := Int32.ofInt 0) (I' := I) hI hL rfl rfl m1 (fun Q => ?_) (fun L2 Q => ?_) (by omega)
    · simp only [w139_0, w139_1, w139_2, w139_5, w139_6, w139_7, w139_10, w139_11, w139_14, w139_17, w139_18, w139_21, w139_24, w139_25, w139_26, w139_29, w139_30, w139_33, w139_34, w139_37, w139_38, w139_41, w139_42, w139_45, w139_48, kn_s, kn_n, zh_mk, zR_mk, zI_mk, zL_mk, zD_mk, wI_mk, wL_mk, wD_mk, zT_mk, zC_mk, kill_i, kill_r, kill_0, kill_n, kill_l, kill_q, zzk_r, zzk_0, zzk_q, zcat_r, zcat_i, zcat_0, cats_0, cats_i, cats_r, cats_l, cats_d, cats_f, rv_s, rv_0, Nat.reduceAdd, Nat.reduceLeDiff, Nat.add_zero, Nat.reduceMul, Nat.reduceSub, ne_eq, not_false_eq_true, not_true_eq_false, and_self, and_true, true_and, or_self, or_true, true_or, or_false, false_or, if_true, if_false, reduceIte, reduceCtorEq, implies_true, ite_self, ite_not, k15, h5, c107rx hb h5 hR hG hz hi, kn_x mh139]
    · simp only [w270_0, w270_1, w270_2, w270_3, w270_6, w270_9, w270_12, w270_13, kn_s, kn_n, zh_mk, zR_mk, zI_mk, zL_mk, zD_mk, wI_mk, wL_mk, wD_mk, zT_mk, zC_mk, kill_i, kill_r, kill_0, kill_n, kill_l, kill_q, zzk_r, zzk_0, zzk_q, zcat_r, zcat_i, zcat_0, cats_0, cats_i, cats_r, cats_l, cats_d, cats_f, rv_s, rv_0, Nat.reduceAdd, Nat.reduceLeDiff, Nat.add_zero, Nat.reduceMul, Nat.reduceSub, ne_eq, not_false_eq_true, not_true_eq_false, and_self, and_true, true_and, or_self, or_true, true_or, or_false, false_or, if_true, if_false, reduceIte, reduceCtorEq, implies_true, ite_self, ite_not, kM, kMr, kRow hw, sR_at, up2_r64, r64_at, o_add, o_sub, o_mul, o_neg, q_add, q_sub, q_mul, q_neg, o_32, cast_s, Int.toNat_natCast, kM1, kA295, c197 hw hG.1 hz, c150, eq_false hi, thr, p_0]
      rfl
end S71p
