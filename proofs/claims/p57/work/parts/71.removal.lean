/-! CLASS AND REFERENCE AGREE: removeBall. Made by wip/whole/gen/gen71.py -/
/-- balls g to i - 1 are their followers -/
def dcp (ℓ : Nat → Nat → Int32) (g i : Nat) : Nat → Nat → Int32 := fun o k => if 13 + g ≤ o ∧ o < 13 + i ∧ k < 9 then ℓ (o + 1) k else ℓ o k
theorem dcp_0 {ℓ : Nat → Nat → Int32} {g : Nat} : dcp ℓ g g = ℓ := by
  funext o k
  unfold dcp
  rw [if_neg (by omega)]
theorem cp9_at {J : Nat → Nat → Int32} {a a2 q k : Nat} : cp9 J a a2 q k = if q = a ∧ k < 9 then J a2 k else J q k := by
  unfold cp9
  by_cases h : q = a
  · subst h
    by_cases h9 : k < 9
    · rw [if_pos ⟨rfl, h9⟩]
      have : k = 0 ∨ k = 1 ∨ k = 2 ∨ k = 3 ∨ k = 4 ∨ k = 5 ∨ k = 6 ∨ k = 7 ∨ k = 8 := by omega
      rcases this with rfl | rfl | rfl | rfl | rfl | rfl | rfl | rfl | rfl <;> simp [up2]
    · rw [if_neg (by omega), u2_ne (by omega), u2_ne (by omega), u2_ne (by omega), u2_ne (by omega), u2_ne (by omega), u2_ne (by omega), u2_ne (by omega), u2_ne (by omega), u2_ne (by omega)]
  · rw [if_neg (by omega), u2_ne (by omega), u2_ne (by omega), u2_ne (by omega), u2_ne (by omega), u2_ne (by omega), u2_ne (by omega), u2_ne (by omega), u2_ne (by omega), u2_ne (by omega)]
theorem dcp_s {ℓ I : Nat → Nat → Int32} {b g i : Nat} (hg : g ≤ i) (hi : i + 14 < 27) : cp9 (lay b (dcp ℓ g i) I) (b + (i + 13)) (b + (i + 1 + 13)) = lay b (dcp ℓ g (i + 1)) I := by
  funext q k
  rw [cp9_at]
  by_cases h : q = b + (i + 13) ∧ k < 9
  · rw [if_pos h, lay_in (by omega), h.1, lay_in (by omega)]
    unfold dcp
    rw [if_neg (by omega), if_pos (by omega)]
  · rw [if_neg h]
    unfold lay
    by_cases h2 : b ≤ q ∧ q < b + 27
    · rw [if_pos h2, if_pos h2]
      unfold dcp
      by_cases h3 : 13 + g ≤ q - b ∧ q - b < 13 + i ∧ k < 9
      · rw [if_pos h3, if_pos (by omega)]
      · rw [if_neg h3, if_neg (by omega)]
    · rw [if_neg h2, if_neg h2]
/-- the row behind the removal of ball g of n -/
def rvA (α : Nat → Int) (n g : Nat) : Nat → Int := fun k =>
  if k = 1 then α 1 - 1
  else if 28 + 9 * g ≤ k ∧ k < 28 + 9 * (n - 1) then α (k + 9)
  else if 118 ≤ k ∧ k < 218 then dpV 0 (fun j => α (118 + j)) g (k - 118)
  else if 218 ≤ k ∧ k < 378 ∧ (((k - 218) / 4 : Nat) : Int) < α 4 ∧ ((k - 218) % 4 = 1 ∨ (k - 218) % 4 = 2) then rnA (g : Int) (α k)
  else α k
section S71
variable {N : NX} {w : WX} {d t b n m g : Nat} {I ℓ : Nat → Nat → Int32} {L μ : Nat → Nat → Int64} {D : Nat → Nat → UInt64} {Q : Rs → St → Prop} {o : Nat → Nat} {α : Nat → Int}
theorem rvA_lo {k : Nat} (h : k < 28 ∧ k ≠ 1) : rvA α n g k = α k := by
  unfold rvA
  rw [if_neg (by omega), if_neg (by omega), if_neg (by omega), if_neg (by omega)]
theorem rvA_B {i k : Nat} (hi : i < n - 1) (hn : n ≤ 10) (hk : k < 9) : rvA α n g (B9 i k) = α (B9 (xg g i) k) := by
  unfold rvA
  rw [if_neg (by unfold B9; omega)]
  by_cases h : i < g
  · rw [if_neg (by unfold B9; omega), if_neg (by unfold B9; omega), if_neg (by unfold B9; omega)]
    unfold xg
    rw [if_pos h]
  · rw [if_pos (by unfold B9; omega)]
    unfold xg
    rw [if_neg h]
    congr 1
    unfold B9
    omega
theorem rvA_H {a c : Nat} (ha : a < 10) (hc : c < 10) (hn : n ≤ 10) : rvA α n g (HH a c) = if xg g a < 10 ∧ xg g c < 10 then α (HH (xg g a) (xg g c)) else 0 := by
  unfold rvA
  rw [if_neg (by unfold HH; omega), if_neg (by unfold HH; omega), if_pos (by unfold HH; omega), show HH a c - 118 = 10 * a + c by unfold HH; omega, dpV_at hc]
  by_cases h : xg g a < 10 ∧ xg g c < 10
  · rw [if_pos h, if_pos h]
    congr 1
    unfold HH
    omega
  · rw [if_neg h, if_neg h]
theorem rvA_L {k c : Nat} (hk : k < 40) (h4 : (k : Int) < α 4) (hc : c < 4) (hn : n ≤ 10) : rvA α n g (218 + 4 * k + c) = if c = 1 ∨ c = 2 then rnA (g : Int) (α (218 + 4 * k + c)) else α (218 + 4 * k + c) := by
  unfold rvA
  rw [if_neg (by omega), if_neg (by omega), if_neg (by omega), show (218 + 4 * k + c - 218) / 4 = k by omega, show (218 + 4 * k + c - 218) % 4 = c by omega]
  by_cases h : c = 1 ∨ c = 2
  · rw [if_pos h, if_pos (by omega)]
  · rw [if_neg h, if_neg (by omega)]
theorem xg_lt {i : Nat} (hi : i < n - 1) (hg : g < n) : xg g i < n := by
  unfold xg
  split <;> omega
theorem xg_inj {i j : Nat} (h : xg g i = xg g j) : i = j := by
  unfold xg at h
  split at h <;> split at h <;> omega
/-- the row without ball g is in order -/
theorem rv_G (hG : GA α n m o) (hg : g < n) : GB (rvA α n g) (n - 1) ∧ GP (rvA α n g) m ∧ ((0 ≤ rvA α n g 8 ∧ rvA α n g 8 ≤ 100) ∧ (0 ≤ rvA α n g 9 ∧ rvA α n g 9 ≤ 100) ∧ (0 ≤ rvA α n g 4 ∧ rvA α n g 4 ≤ 40)) ∧ (∀ j, j < n - 1 → ∀ p, p < m → rvA α n g (B9 j 0) ≠ rvA α n g (P3 p 0)) ∧ (∀ j k, j < n - 1 → k < n - 1 → rvA α n g (B9 j 0) = rvA α n g (B9 k 0) → j = k) := by
  have h10 := hG.1.1
  have m4 := hG.2.1.1
  have np : ∀ p k, p < m → k < 3 → rvA α n g (P3 p k) = α (P3 p k) := fun p k h h2 => rvA_lo (by unfold P3; omega)
  refine ⟨⟨by omega, ?_, by rw [rvA_lo (by omega)]; exact hG.1.2.2.1, by rw [rvA_lo (by omega)]; exact hG.1.2.2.2.1, fun i hi => ?_⟩, ⟨m4, by rw [rvA_lo (by omega)]; exact hG.2.1.2.1, fun p q => by rw [np p 0 q (by omega), np p 1 q (by omega), rvA_lo (by omega)]; exact hG.2.1.2.2 p q⟩, by rw [rvA_lo (by omega), rvA_lo (by omega), rvA_lo (by omega)]; exact hG.2.2.1, fun j hj p q => ?_, fun j k hj hk e => ?_⟩
  · show rvA α n g 1 = _
    unfold rvA
    rw [if_pos rfl, hG.1.2.1]
    omega
  · rw [rvA_B hi h10 (by omega), rvA_B hi h10 (by omega), rvA_B hi h10 (by omega), rvA_B hi h10 (by omega), rvA_lo (by omega)]
    exact hG.1.2.2.2.2 _ (xg_lt hi hg)
  · rw [rvA_B hj h10 (by omega), np p 0 q (by omega)]
    exact hG.2.2.2.2.2.2 _ (xg_lt hj hg) p q
  · rw [rvA_B hj h10 (by omega), rvA_B hk h10 (by omega)] at e
    exact xg_inj (cell_inj hG (xg_lt hj hg) (xg_lt hk hg) e)
/-- the class's line without ball g -/
def drL (ℓ : Nat → Nat → Int32) (n g : Nat) (p : Nat → Int32) : Nat → Nat → Int32 := oL 12 (rnL (oL 2 (up2 (dcp ℓ g (n - 1)) 0 3 (Int32.ofInt ((n - 1 : Nat) : Int))) p) (Int32.ofInt (g : Int)) 40) (dpF (Int32.ofInt 0) (ℓ 12) g 100)
theorem drL_far {p : Nat → Int32} {a k : Nat} (h : (a < 2 ∨ 2 < a) ∧ (a < 8 ∨ 9 < a) ∧ a ≠ 12 ∧ (a < 13 ∨ 22 < a) ∧ (a ≠ 0 ∨ k ≠ 3)) (hn : n ≤ 10) : drL ℓ n g p a k = ℓ a k := by
  unfold drL
  rw [oL_ne (by omega)]
  unfold rnL
  rw [if_neg (by omega), oL_ne (by omega), u2_ne (by omega)]
  unfold dcp
  rw [if_neg (by omega)]
theorem RL_rv (h : RL ℓ μ α n m o) (hn : n ≤ 10) (hg : g < n) (hX : LX α) {o' : Nat → Nat} {p : Nat → Int32} (hp : ∀ k, k < n - 1 → p k = Int32.ofInt (o' k : Int)) : RL (drL ℓ n g p) μ (rvA α n g) (n - 1) m o' := by
  obtain ⟨g1, ⟨g2, g3⟩, ⟨g4, g5, g6⟩, g7, nx, g8, g9, g10, g11⟩ := h
  refine ⟨fun k hk => ?_, ⟨?_, ?_⟩, ⟨by rw [rvA_lo (by omega)]; exact g4, by rw [rvA_lo (by omega)]; exact g5, by rw [rvA_lo (by omega)]; exact g6⟩, fun k hk => ?_, nx, g8, by rw [drL_far (by omega) hn]; exact g9, by rw [drL_far (by omega) hn, rvA_lo (by omega)]; exact g10, fun k q1 q2 c hc => ?_⟩
  · by_cases hb : 28 ≤ k ∧ k < 118
    · have hk2 : k < 28 + 9 * (n - 1) := by unfold kd at hk; omega
      have e : B9 ((k - 28) / 9) ((k - 28) % 9) = k := by unfold B9; omega
      have hi : (k - 28) / 9 < n - 1 := by omega
      have hq : (k - 28) % 9 < 9 := by omega
      have hx := xg_lt hi hg
      rw [← e, rvA_B hi hn hq, ← g1 (B9 (xg g ((k - 28) / 9)) ((k - 28) % 9)) (by unfold kd B9; omega), mo_B (by omega) hq, mo_B (by omega) hq]
      have em : mq (B9 ((k - 28) / 9) ((k - 28) % 9)) = mq (B9 (xg g ((k - 28) / 9)) ((k - 28) % 9)) := by
        by_cases h8 : (k - 28) % 9 = 8
        · rw [h8, mq_B8 (by omega), mq_B8 (by omega)]
        · rw [mq_B (by omega) (by omega), mq_B (by omega) (by omega)]
      have em2 : mq (B9 ((k - 28) / 9) ((k - 28) % 9)) < 9 := by
        by_cases h8 : (k - 28) % 9 = 8
        · rw [h8, mq_B8 (by omega)]; omega
        · rw [mq_B (by omega) (by omega)]; omega
      rw [← em]
      unfold drL
      rw [oL_ne (by omega)]
      unfold rnL
      rw [if_neg (by omega), oL_ne (by omega), u2_ne (by omega)]
      unfold dcp xg
      by_cases hlt : (k - 28) / 9 < g
      · rw [if_neg (by omega), if_pos hlt]
      · rw [if_pos (by omega), if_neg hlt]
    · by_cases hh : 118 ≤ k
      · have hk2 : k < 218 := by unfold kd at hk; omega
        have e : HH ((k - 118) / 10) ((k - 118) % 10) = k := by unfold HH; omega
        rw [← e, rvA_H (by omega) (by omega) hn, mo_H (by omega) (by omega), mq_H (by omega) (by omega)]
        unfold drL
        rw [oL_at]
        unfold dpF
        rw [if_pos (by omega), dpV_at (by omega)]
        by_cases hx : xg g ((k - 118) / 10) < 10 ∧ xg g ((k - 118) % 10) < 10
        · rw [if_pos hx, if_pos hx, ← g1 (HH (xg g ((k - 118) / 10)) (xg g ((k - 118) % 10))) (by unfold kd HH; omega), mo_H hx.1 hx.2, mq_H hx.1 hx.2]
        · rw [if_neg hx, if_neg hx]
      · have hk' : kd n m k := by unfold kd at hk ⊢; omega
        have hr := mo_rng hk'
        have hlow : k < 28 := by unfold kd at hk; omega
        have hm : mo k < 12 ∧ mo k ≠ 8 ∧ mo k ≠ 9 ∧ mo k ≠ 2 ∨ 23 ≤ mo k := by
          unfold mo
          split
          · omega
          · split
            · omega
            · split
              · omega
              · split
                · omega
                · first | omega | (rw [if_pos hlow]; omega)
        rw [rvA_lo (by unfold kd at hk; omega), drL_far (by omega) hn]
        exact g1 k hk'
  · unfold drL
    rw [oL_ne (by omega)]
    unfold rnL
    rw [if_neg (by omega), oL_ne (by omega), u2_same]
  · rw [drL_far (by omega) hn]; exact g3
  · unfold drL
    rw [oL_ne (by omega)]
    unfold rnL
    rw [if_neg (by omega), oL_at]
    exact hp k hk
  · have hj : (nx + 39 - k) % 40 < 40 := Nat.mod_lt _ (by omega)
    rw [rvA_lo (by omega)] at q1
    have hx := hX k q2 q1
    have e := g11 k q1 q2 c hc
    rw [rvA_L q2 q1 hc hn]
    unfold drL
    rw [oL_ne (by omega)]
    by_cases hcc : c = 1 ∨ c = 2
    · rw [if_pos hcc]
      unfold rnL
      rw [if_pos (by omega), oL_ne (by omega), u2_ne (by omega)]
      unfold dcp
      rw [if_neg (by omega), e, rnI_o (by omega) (by rcases hcc with rfl | rfl <;> omega)]
    · rw [if_neg hcc]
      unfold rnL
      rw [if_neg (by omega), oL_ne (by omega), u2_ne (by omega)]
      unfold dcp
      rw [if_neg (by omega)]
      exact e
/-- what else holds -/
theorem EX_rv {c c' : Nat} (h : EX c α n) (hc : c ≤ c') (hn : n ≤ 10) (hg : g < n) : EX c' (rvA α n g) (n - 1) := by
  obtain ⟨h1, h2, h3⟩ := h
  refine ⟨by rw [rvA_lo (by omega)]; omega, fun k hk h4 => ?_, fun i hi => by rw [rvA_B hi hn (by omega)]; exact h3 _ (xg_lt hi hg)⟩
  rw [rvA_lo (by omega)] at h4
  have e := fun c hc => rvA_L (α := α) (n := n) (g := g) (c := c) hk h4 hc hn
  have e0 := e 0 (by omega)
  have e1 := e 1 (by omega)
  have e2 := e 2 (by omega)
  have e3 := e 3 (by omega)
  rw [if_neg (by omega), Nat.add_zero] at e0
  rw [if_pos (by omega)] at e1 e2
  rw [if_neg (by omega)] at e3
  have hx := h2 k hk h4
  rw [e0, e1, e2, e3, rvA_lo (by omega)]
  unfold rnA
  refine ⟨hx.1, ?_, ?_, ?_, hx.2.2.2.2⟩
  · split
    · omega
    · split <;> omega
  · split
    · omega
    · split <;> omega
  · split
    · omega
    · split <;> omega
/-! the class -/
theorem c45_2 (hb : LB b) (hn : n ≤ 10) (hg : g < n) (en : ℓ 0 3 = Int32.ofInt (n : Int)) : ∀ r i : Nat, i + r = n - 1 → g ≤ i → Wp (d + 3) 45 2 [some (.ref b), some (.int (Int32.ofInt (g : Int))), some (.int (Int32.ofInt (i : Int)))] [] (mk N t w (lay b (dcp ℓ g i) I) L D) Q = Wp (d + 3) 45 35 [some (.ref b), some (.int (Int32.ofInt (g : Int))), some (.int (Int32.ofInt ((n - 1 : Nat) : Int)))] [] (mk N t w (lay b (dcp ℓ g (n - 1)) I) L D) Q := by
  have e03 : ∀ i, dcp ℓ g i 0 3 = Int32.ofInt (n : Int) := fun i => by
    unfold dcp
    rw [if_neg (by omega)]
    exact en
  intro r
  induction r with
  | zero =>
    intro i hi hgi
    obtain rfl : i = n - 1 := by omega
    have g0 : ¬ (((n - 1 + 1 : Nat) : Int) < n) := by omega
    rw [w45_2]
    simp only [w45_3, w45_4, w45_5, w45_6, w45_9, kn_s, kn_n, zh_mk, zR_mk, zI_mk, zL_mk, zD_mk, wI_mk, wL_mk, wD_mk, zT_mk, zC_mk, kill_i, kill_r, kill_0, kill_n, kill_l, kill_q, zzk_r, zzk_0, zzk_q, zcat_r, zcat_i, zcat_0, zcat_q, cats_0, cats_i, cats_r, cats_l, cats_d, cats_f, cats_q, cats_n, rv_s, rv_0, Nat.reduceAdd, Nat.reduceLeDiff, Nat.reduceEqDiff, Nat.add_zero, Nat.reduceMul, Nat.reduceSub, ne_eq, not_false_eq_true, not_true_eq_false, and_self, and_true, true_and, or_self, or_true, true_or, or_false, false_or, if_true, if_false, reduceIte, reduceCtorEq, implies_true, ite_self, ite_not, lay_in, lay_0, up2_lay, up2_lay0, kh0, kh1, kh2, kh3, kh4, kh5, kh6, kh7, kh8, kh9, kh10, kh11, kh12, khB, khP, kr2, kr4, kr5, kr7, kr8, kr9, kr10, krB, krP, krG0, krG1, krG2, krG3, krK, Nat.reduceLT, o_add, o_sub, o_mul, o_neg, q_add, q_sub, q_mul, q_neg, o_32, cast_s, Int.toNat_natCast, hb, e03, cast_s, o_lt (a := ((n - 1 + 1 : Nat) : Int)) (b := (n : Int)) (by omega), g0]
  | succ r ih =>
    intro i hi hgi
    have g0 : ((i + 1 : Nat) : Int) < n := by omega
    have i10 : i < 10 := by omega
    have i11 : i + 1 < 10 := by omega
    have ih' := ih (i + 1) (by omega) (by omega)
    rw [← dcp_s hgi (by omega)] at ih'
    rw [w45_2]
    simp only [w45_3, w45_4, w45_5, w45_6, w45_9, w45_12, w45_13, w45_16, w45_17, w45_18, w45_19, w45_22, w45_23, w45_24, w45_25, w45_26, w45_29, w45_32, kn_s, kn_n, zh_mk, zR_mk, zI_mk, zL_mk, zD_mk, wI_mk, wL_mk, wD_mk, zT_mk, zC_mk, kill_i, kill_r, kill_0, kill_n, kill_l, kill_q, zzk_r, zzk_0, zzk_q, zcat_r, zcat_i, zcat_0, zcat_q, cats_0, cats_i, cats_r, cats_l, cats_d, cats_f, cats_q, cats_n, rv_s, rv_0, Nat.reduceAdd, Nat.reduceLeDiff, Nat.reduceEqDiff, Nat.add_zero, Nat.reduceMul, Nat.reduceSub, ne_eq, not_false_eq_true, not_true_eq_false, and_self, and_true, true_and, or_self, or_true, true_or, or_false, false_or, if_true, if_false, reduceIte, reduceCtorEq, implies_true, ite_self, ite_not, lay_in, lay_0, up2_lay, up2_lay0, kh0, kh1, kh2, kh3, kh4, kh5, kh6, kh7, kh8, kh9, kh10, kh11, kh12, khB, khP, kr2, kr4, kr5, kr7, kr8, kr9, kr10, krB, krP, krG0, krG1, krG2, krG3, krK, Nat.reduceLT, o_add, o_sub, o_mul, o_neg, q_add, q_sub, q_mul, q_neg, o_32, cast_s, Int.toNat_natCast, hb, e03, i10, i11, cast_s, o_lt (a := ((i + 1 : Nat) : Int)) (b := (n : Int)) (by omega), g0, o_ixn (j := i) (n := 10) (by omega), o_tnn (j := i) (by omega), o_ixn (j := i + 1) (n := 10) (by omega), o_tnn (j := i + 1) (by omega), c2 (khB (N := N) hb i10) (khB (N := N) hb i11)]
    exact ih'
theorem c45 (hb : LB b) (hR : RL ℓ μ α n m o) (hG : GA α n m o) (hX : LX α) (hg : g < n) (hQ : ∀ (ℓ' : Nat → Nat → Int32) (o' : Nat → Nat), RL ℓ' μ (rvA α n g) (n - 1) m o' → GA (rvA α n g) (n - 1) m o' → Q (.inl none) (mk N t w (lay b ℓ' I) L D)) : Wp (d + 3) 45 0 [some (.ref b), some (.int (Int32.ofInt (g : Int))), none] [] (mk N t w (lay b ℓ I) L D) Q := by
  have hn := hG.1.1
  have l := c45_2 (d := d) (N := N) (t := t) (w := w) (I := I) (L := L) (D := D) (Q := Q) hb hn hg (rd_n hR) (n - 1 - g) g (by omega) (Nat.le_refl g)
  rw [dcp_0] at l
  have hA := rv_G hG hg
  have e03 : dcp ℓ g (n - 1) 0 3 = Int32.ofInt (n : Int) := by
    unfold dcp
    rw [if_neg (by omega)]
    exact rd_n hR
  have en1 : (n : Int) - 1 = ((n - 1 : Nat) : Int) := by omega
  simp only [w45_0, w45_1, kn_s, kn_n, zh_mk, zR_mk, zI_mk, zL_mk, zD_mk, wI_mk, wL_mk, wD_mk, zT_mk, zC_mk, kill_i, kill_r, kill_0, kill_n, kill_l, kill_q, zzk_r, zzk_0, zzk_q, zcat_r, zcat_i, zcat_0, zcat_q, cats_0, cats_i, cats_r, cats_l, cats_d, cats_f, cats_q, cats_n, rv_s, rv_0, Nat.reduceAdd, Nat.reduceLeDiff, Nat.reduceEqDiff, Nat.add_zero, Nat.reduceMul, Nat.reduceSub, ne_eq, not_false_eq_true, not_true_eq_false, and_self, and_true, true_and, or_self, or_true, true_or, or_false, false_or, if_true, if_false, reduceIte, reduceCtorEq, implies_true, ite_self, ite_not]
  refine l.mpr ?_
  simp only [w45_35, w45_36, w45_37, w45_40, w45_41, w45_42, w45_45, w45_46, kn_s, kn_n, zh_mk, zR_mk, zI_mk, zL_mk, zD_mk, wI_mk, wL_mk, wD_mk, zT_mk, zC_mk, kill_i, kill_r, kill_0, kill_n, kill_l, kill_q, zzk_r, zzk_0, zzk_q, zcat_r, zcat_i, zcat_0, zcat_q, cats_0, cats_i, cats_r, cats_l, cats_d, cats_f, cats_q, cats_n, rv_s, rv_0, Nat.reduceAdd, Nat.reduceLeDiff, Nat.reduceEqDiff, Nat.add_zero, Nat.reduceMul, Nat.reduceSub, ne_eq, not_false_eq_true, not_true_eq_false, and_self, and_true, true_and, or_self, or_true, true_or, or_false, false_or, if_true, if_false, reduceIte, reduceCtorEq, implies_true, ite_self, ite_not, lay_in, lay_0, up2_lay, up2_lay0, kh0, kh1, kh2, kh3, kh4, kh5, kh6, kh7, kh8, kh9, kh10, kh11, kh12, khB, khP, kr2, kr4, kr5, kr7, kr8, kr9, kr10, krB, krP, krG0, krG1, krG2, krG3, krK, Nat.reduceLT, o_add, o_sub, o_mul, o_neg, q_add, q_sub, q_mul, q_neg, o_32, cast_s, Int.toNat_natCast, hb, e03, en1]
  refine c31 (n := n - 1) (κ := fun i => rvA α n g (B9 i 0)) hb (by omega) u2_same (fun i hi => ?_) hA.2.2.2.2 (fun ω p hS hp => ?_)
  · have h1 := (hA.1.2.2.2.2 i hi).1
    have h2 := hA.1.2.2.2.1
    refine ⟨?_, by omega, by omega⟩
    have hx := xg_lt hi hg
    have ec := rd_c hR hG hx
    rw [u2_ne (by omega), rvA_B hi hn (by omega)]
    unfold dcp
    unfold xg at ec ⊢
    by_cases hlt : i < g
    · rw [if_neg (by omega)]
      rw [if_pos hlt] at ec ⊢
      exact ec
    · rw [if_pos (by omega)]
      rw [if_neg hlt] at ec ⊢
      rw [show i + 13 + 1 = i + 1 + 13 by omega]
      exact ec
  · have e12 : rnL (oL 2 (up2 (dcp ℓ g (n - 1)) 0 3 (Int32.ofInt ((n - 1 : Nat) : Int))) p) (Int32.ofInt (g : Int)) 40 12 = ℓ 12 := by
      funext k
      unfold rnL
      rw [if_neg (by omega), oL_ne (by omega), u2_ne (by omega)]
      unfold dcp
      rw [if_neg (by omega)]
    have c18' := fun (Q : Rs → St → Prop) => c18 (d := d) (N := N) (t := t) (w := w) (b := b) (I := I) (ℓ := rnL (oL 2 (up2 (dcp ℓ g (n - 1)) 0 3 (Int32.ofInt ((n - 1 : Nat) : Int))) p) (Int32.ofInt (g : Int)) 40) (L := L) (D := D) (Q := Q) hb (show g < 10 by omega)
    rw [e12] at c18'
    simp only [w45_49, w45_50, w45_53, w45_54, w45_57, w45_58, w45_61, w45_62, w45_65, kn_s, kn_n, zh_mk, zR_mk, zI_mk, zL_mk, zD_mk, wI_mk, wL_mk, wD_mk, zT_mk, zC_mk, kill_i, kill_r, kill_0, kill_n, kill_l, kill_q, zzk_r, zzk_0, zzk_q, zcat_r, zcat_i, zcat_0, zcat_q, cats_0, cats_i, cats_r, cats_l, cats_d, cats_f, cats_q, cats_n, rv_s, rv_0, Nat.reduceAdd, Nat.reduceLeDiff, Nat.reduceEqDiff, Nat.add_zero, Nat.reduceMul, Nat.reduceSub, ne_eq, not_false_eq_true, not_true_eq_false, and_self, and_true, true_and, or_self, or_true, true_or, or_false, false_or, if_true, if_false, reduceIte, reduceCtorEq, implies_true, ite_self, ite_not, lay_in, lay_0, up2_lay, up2_lay0, kh0, kh1, kh2, kh3, kh4, kh5, kh6, kh7, kh8, kh9, kh10, kh11, kh12, khB, khP, kr2, kr4, kr5, kr7, kr8, kr9, kr10, krB, krP, krG0, krG1, krG2, krG3, krK, Nat.reduceLT, o_add, o_sub, o_mul, o_neg, q_add, q_sub, q_mul, q_neg, o_32, cast_s, Int.toNat_natCast, hb, c56 hb, c18']
    exact hQ _ ω (RL_rv hR hn hg hX hp) (GA_o hA.1 hA.2.1 hA.2.2.1 hS hA.2.2.2.1)
theorem c45r (hb : LB b) (hR : RL (gl b I) (gl b L) α n m o) (hG : GA α n m o) (hX : LX α) (hg : g < n) (hQ : ∀ (ℓ' : Nat → Nat → Int32) (o' : Nat → Nat), RL ℓ' (gl b L) (rvA α n g) (n - 1) m o' → GA (rvA α n g) (n - 1) m o' → Q (.inl none) (mk N t w (lay b ℓ' I) L D)) : Wp (d + 3) 45 0 [some (.ref b), some (.int (Int32.ofInt (g : Int))), none] [] (mk N t w I L D) Q := by
  have := c45 (d := d) (N := N) (t := t) (w := w) (ℓ := gl b I) (μ := gl b L) (I := I) (L := L) (D := D) (Q := Q) hb hR hG hX hg hQ
  rw [lay_gl] at this
  exact this
/-! the reference -/
end S71
section S71p
variable {xs : Nat → Int32} {N : NX} {d c t : Nat} {I : Nat → Nat → Int32} {L : Nat → Nat → Int64} {D : Nat → Nat → UInt64} {x : Int32}
end S71p
