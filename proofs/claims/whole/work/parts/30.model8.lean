/-! CONTRACTS of the reference: all turns, pulses -/
/-- turns to the left: places P, P + 1, .. -/
def tnL (n m : Nat) (o : Nat → Nat) (X : Nat) : Nat → Nat → Tn → Tn
  | 0, _, x => x
  | r + 1, P, x => tnL n m o X r (P + 1) (if X.testBit (o P) = true then ttT n m x (o P) (-1) else x)
/-- turns to the right: places r - 1, r - 2, .. -/
def tnR (n m : Nat) (o : Nat → Nat) (X : Nat) : Nat → Tn → Tn
  | 0, x => x
  | r + 1, x => tnR n m o X r (if X.testBit (o r) = true then ttT n m x (o r) 1 else x)
theorem tnL_G {n m X : Nat} {o : Nat → Nat} : ∀ (r P : Nat) (x : Tn), P + r = n → XG x n m o → XG (tnL n m o X r P x) n m o
  | 0, _, _, _, h => h
  | r + 1, P, x, hP, h => by
    refine tnL_G r (P + 1) _ (by omega) ?_
    split
    · exact ttT_G h (h.1.2.2.2.1 P (by omega)) (Or.inr rfl)
    · exact h
theorem tnR_G {n m X : Nat} {o : Nat → Nat} : ∀ (r : Nat) (x : Tn), r ≤ n → XG x n m o → XG (tnR n m o X r x) n m o
  | 0, _, _, h => h
  | r + 1, x, hr, h => by
    refine tnR_G r _ (by omega) ?_
    split
    · exact ttT_G h (h.1.2.2.2.1 r (by omega)) (Or.inl rfl)
    · exact h
theorem zero_of_bits {X n : Nat} {o : Nat → Nat} (hX : X < 1024) (h1 : ∀ p, p < n → X.testBit (o p) = false) (h2 : ∀ j, n ≤ j → j < 10 → X.testBit j = false) (h3 : ∀ i, i < n → ∃ p, p < n ∧ o p = i) : X = 0 := by
  refine Nat.eq_of_testBit_eq (fun i => ?_)
  rw [Nat.zero_testBit]
  by_cases hi : i < n
  · obtain ⟨p, hp, rfl⟩ := h3 i hi
    exact h1 p hp
  · by_cases hj : i < 10
    · exact h2 i (by omega) hj
    · exact Nat.testBit_lt_two_pow (Nat.lt_of_lt_of_le hX (Nat.pow_le_pow_right (n := 2) (by omega) (show 10 ≤ i by omega)))
section S30
variable {d N t w n m : Nat} {I : Nat → Nat → Int32} {L : Nat → Nat → Int64} {D : Nat → Nat → UInt64} {Q : Rs → St → Prop} {α : Nat → Int} {f : Nat → Int32} {x : Tn} {l q p r z1 z2 M : Int} {o : Nat → Nat}
theorem c235_L (hw : RW w) {X0 : Nat} : ∀ (r P : Nat) (x : Tn) (X : Nat) (u1 u4 : Option Value), P + r = n → XG x n m o → X < 1024 → (∀ p, p < n → X.testBit (o p) = (decide (P ≤ p) && X0.testBit (o p))) → (∀ j, n ≤ j → j < 10 → X.testBit j = false) →
    Wp (d + 25) 235 2 [some (.ref 294), u1, some (.int (Int32.ofInt 0)), some (.int (Int32.ofInt (X : Int))), u4] [] (mk N t w (tS I x l q) (sR L w (r64 x.1)) D) Q = Q (.inl none) (mk N t w (tS I (tnL n m o X0 r P x) l q) (sR L w (r64 (tnL n m o X0 r P x).1)) D) := by
  intro r
  induction r with
  | zero =>
    intro P x X u1 u4 hP hG hX h1 h2
    have hz : X = 0 := zero_of_bits hX (fun p hp => by rw [h1 p hp, decide_eq_false (by omega), Bool.false_and]) h2 hG.1.2.2.2.2.2.1
    subst hz
    simp only [w235_0, w235_1, w235_2, w235_3, w235_6, w235_7, w235_8, w235_9, w235_12, w235_14, w235_15, w235_16, w235_18, w235_19, w235_20, w235_21, w235_22, w235_23, w235_24, w235_26, w235_27, w235_30, w235_33, kn_s, kn_n, zh_mk, zR_mk, zI_mk, zL_mk, zD_mk, wI_mk, wL_mk, wD_mk, zT_mk, zC_mk, kill_i, kill_r, kill_0, kill_n, kill_l, kill_q, zzk_r, zzk_0, zzk_q, zcat_r, zcat_i, zcat_0, cats_0, cats_i, cats_r, cats_l, cats_d, cats_f, rv_s, rv_0, Nat.reduceAdd, Nat.reduceLeDiff, Nat.add_zero, Nat.reduceMul, Nat.reduceSub, ne_eq, not_false_eq_true, not_true_eq_false, and_self, and_true, true_and, or_self, or_true, true_or, or_false, false_or, if_true, if_false, reduceIte, reduceCtorEq, implies_true, ite_self, ite_not, kM, kMr, kRow hw, sR_at, up2_r64, r64_at, o_add, o_sub, o_mul, o_neg, q_add, q_sub, q_mul, q_neg, o_32, cast_s, Int.toNat_natCast, Int.natCast_zero]
    rfl
  | succ r ih =>
    intro P x X u1 u4 hP hG hX h1 h2
    have h10 : n ≤ 10 := hG.1.1.1
    have hoP := hG.1.2.2.2.1 P (by omega)
    by_cases hb : X0.testBit (o P) = true
    · have hXb : X.testBit (o P) = true := by rw [h1 P (by omega), hb, decide_eq_true (Nat.le_refl P)]; rfl
      have hX0 : ¬ ((X : Int) = 0) := by
        intro h
        have : X = 0 := by omega
        subst this
        rw [Nat.zero_testBit] at hXb
        cases hXb
      have hf := fOA_low (X := X) (P := P) hG.1 (fun p hp h => by
        rw [h1 p hp, Bool.and_eq_true] at h
        exact of_decide_eq_true h.1) (by omega) hXb
      have e0 : (if false = true then (1 : Int) else 0) = 0 := rfl
      have hc := fun (d' : Nat) (Q' : Rs → St → Prop) => c204 (d := d') (N := N) (t := t) (I := tS I x l q) (L := L) (D := D) (Q := Q') hw hG.1.1 hX (hi := false)
      simp only [e0] at hc
      have hG' := ttT_G hG hoP (Or.inr rfl : (-1 : Int) = 1 ∨ (-1 : Int) = -1)
      have ih' := fun u4 => ih (P + 1) (ttT n m x (o P) (-1)) (X &&& (1023 ^^^ 2 ^ (o P))) u1 u4 (by omega) hG' (nd_lt hX) (fun p hp => by
        have hop := hG.1.2.2.2.1 p hp
        rw [nd_t (by omega), h1 p hp]
        by_cases hpP : p = P
        · subst hpP
          rw [decide_eq_true (rfl : o p = o p), decide_eq_false (show ¬ (p + 1 ≤ p) by omega)]
          simp
        · have hne : o P ≠ o p := by
            intro e
            rcases Nat.lt_or_gt_of_ne hpP with h | h
            · have := hG.1.2.2.2.2.1 p P h (by omega)
              rw [e] at this
              omega
            · have := hG.1.2.2.2.2.1 P p h hp
              rw [e] at this
              omega
          rw [decide_eq_false hne]
          have : decide (P ≤ p) = decide (P + 1 ≤ p) := decide_eq_decide.mpr (by omega)
          rw [this]
          simp) (fun j hj hj2 => by rw [nd_t hj2, h2 j hj hj2, Bool.false_and])
      rw [w235_2]
      simp only [w235_0, w235_1, w235_3, w235_6, w235_7, w235_8, w235_9, w235_12, w235_14, w235_15, w235_16, w235_18, w235_19, w235_20, w235_21, w235_22, w235_23, w235_24, w235_26, w235_27, w235_30, w235_33, kn_s, kn_n, zh_mk, zR_mk, zI_mk, zL_mk, zD_mk, wI_mk, wL_mk, wD_mk, zT_mk, zC_mk, kill_i, kill_r, kill_0, kill_n, kill_l, kill_q, zzk_r, zzk_0, zzk_q, zcat_r, zcat_i, zcat_0, cats_0, cats_i, cats_r, cats_l, cats_d, cats_f, rv_s, rv_0, Nat.reduceAdd, Nat.reduceLeDiff, Nat.add_zero, Nat.reduceMul, Nat.reduceSub, ne_eq, not_false_eq_true, not_true_eq_false, and_self, and_true, true_and, or_self, or_true, true_or, or_false, false_or, if_true, if_false, reduceIte, reduceCtorEq, implies_true, ite_self, ite_not, kM, kMr, kRow hw, sR_at, up2_r64, r64_at, o_add, o_sub, o_mul, o_neg, q_add, q_sub, q_mul, q_neg, o_32, cast_s, Int.toNat_natCast, o_eq (a := (X : Int)) (b := 0) (by omega), hX0, hc, hf, nd_e hX (show o P < 10 by omega), c236 hw hG hoP (Or.inr ⟨rfl, rfl⟩ : (0 : Int) = 1 ∧ (-1 : Int) = 1 ∨ (0 : Int) = 0 ∧ (-1 : Int) = -1), ih', tnL, hb]
    · have e : tnL n m o X0 (r + 1) P x = tnL n m o X0 r (P + 1) x := by
        show tnL n m o X0 r (P + 1) (if _ then _ else _) = _
        rw [if_neg hb]
      rw [e]
      refine ih (P + 1) x X u1 u4 (by omega) hG hX (fun p hp => ?_) h2
      rw [h1 p hp]
      by_cases hpP : p = P
      · subst hpP
        rw [Bool.eq_false_iff.mpr hb, Bool.and_false, Bool.and_false]
      · have : decide (P ≤ p) = decide (P + 1 ≤ p) := decide_eq_decide.mpr (by omega)
        rw [this]
theorem c235_R (hw : RW w) {X0 : Nat} : ∀ (r : Nat) (x : Tn) (X : Nat) (u1 u4 : Option Value), r ≤ n → XG x n m o → X < 1024 → (∀ p, p < n → X.testBit (o p) = (decide (p < r) && X0.testBit (o p))) → (∀ j, n ≤ j → j < 10 → X.testBit j = false) →
    Wp (d + 25) 235 2 [some (.ref 294), u1, some (.int (Int32.ofInt 1)), some (.int (Int32.ofInt (X : Int))), u4] [] (mk N t w (tS I x l q) (sR L w (r64 x.1)) D) Q = Q (.inl none) (mk N t w (tS I (tnR n m o X0 r x) l q) (sR L w (r64 (tnR n m o X0 r x).1)) D) := by
  intro r
  induction r with
  | zero =>
    intro x X u1 u4 hP hG hX h1 h2
    have hz : X = 0 := zero_of_bits hX (fun p hp => by rw [h1 p hp, decide_eq_false (by omega), Bool.false_and]) h2 hG.1.2.2.2.2.2.1
    subst hz
    simp only [w235_0, w235_1, w235_2, w235_3, w235_6, w235_7, w235_8, w235_9, w235_12, w235_14, w235_15, w235_16, w235_18, w235_19, w235_20, w235_21, w235_22, w235_23, w235_24, w235_26, w235_27, w235_30, w235_33, kn_s, kn_n, zh_mk, zR_mk, zI_mk, zL_mk, zD_mk, wI_mk, wL_mk, wD_mk, zT_mk, zC_mk, kill_i, kill_r, kill_0, kill_n, kill_l, kill_q, zzk_r, zzk_0, zzk_q, zcat_r, zcat_i, zcat_0, cats_0, cats_i, cats_r, cats_l, cats_d, cats_f, rv_s, rv_0, Nat.reduceAdd, Nat.reduceLeDiff, Nat.add_zero, Nat.reduceMul, Nat.reduceSub, ne_eq, not_false_eq_true, not_true_eq_false, and_self, and_true, true_and, or_self, or_true, true_or, or_false, false_or, if_true, if_false, reduceIte, reduceCtorEq, implies_true, ite_self, ite_not, kM, kMr, kRow hw, sR_at, up2_r64, r64_at, o_add, o_sub, o_mul, o_neg, q_add, q_sub, q_mul, q_neg, o_32, cast_s, Int.toNat_natCast, Int.natCast_zero]
    rfl
  | succ r ih =>
    intro x X u1 u4 hP hG hX h1 h2
    have h10 : n ≤ 10 := hG.1.1.1
    have hoP := hG.1.2.2.2.1 r (by omega)
    by_cases hb : X0.testBit (o r) = true
    · have hXb : X.testBit (o r) = true := by rw [h1 r (by omega), hb, decide_eq_true (Nat.lt_succ_self r)]; rfl
      have hX0 : ¬ ((X : Int) = 0) := by
        intro h
        have : X = 0 := by omega
        subst this
        rw [Nat.zero_testBit] at hXb
        cases hXb
      have hf := fOA_high (X := X) (P := r) hG.1 (fun p hp h => by
        rw [h1 p hp, Bool.and_eq_true] at h
        have := of_decide_eq_true h.1
        omega) (by omega) hXb
      have hc := fun (d' : Nat) (Q' : Rs → St → Prop) => c204 (d := d') (N := N) (t := t) (I := tS I x l q) (L := L) (D := D) (Q := Q') hw hG.1.1 hX (hi := true)
      simp only [if_true] at hc
      have hG' := ttT_G hG hoP (Or.inl rfl : (1 : Int) = 1 ∨ (1 : Int) = -1)
      have ih' := fun u4 => ih (ttT n m x (o r) 1) (X &&& (1023 ^^^ 2 ^ (o r))) u1 u4 (by omega) hG' (nd_lt hX) (fun p hp => by
        have hop := hG.1.2.2.2.1 p hp
        rw [nd_t (by omega), h1 p hp]
        by_cases hpP : p = r
        · subst hpP
          rw [decide_eq_true (rfl : o p = o p), decide_eq_false (show ¬ (p < p) by omega)]
          simp
        · have hne : o r ≠ o p := by
            intro e
            rcases Nat.lt_or_gt_of_ne hpP with h | h
            · have := hG.1.2.2.2.2.1 p r h (by omega)
              rw [e] at this
              omega
            · have := hG.1.2.2.2.2.1 r p h hp
              rw [e] at this
              omega
          rw [decide_eq_false hne]
          have : decide (p < r + 1) = decide (p < r) := decide_eq_decide.mpr (by omega)
          rw [this]
          simp) (fun j hj hj2 => by rw [nd_t hj2, h2 j hj hj2, Bool.false_and])
      rw [w235_2]
      simp only [w235_0, w235_1, w235_3, w235_6, w235_7, w235_8, w235_9, w235_12, w235_14, w235_15, w235_16, w235_18, w235_19, w235_20, w235_21, w235_22, w235_23, w235_24, w235_26, w235_27, w235_30, w235_33, kn_s, kn_n, zh_mk, zR_mk, zI_mk, zL_mk, zD_mk, wI_mk, wL_mk, wD_mk, zT_mk, zC_mk, kill_i, kill_r, kill_0, kill_n, kill_l, kill_q, zzk_r, zzk_0, zzk_q, zcat_r, zcat_i, zcat_0, cats_0, cats_i, cats_r, cats_l, cats_d, cats_f, rv_s, rv_0, Nat.reduceAdd, Nat.reduceLeDiff, Nat.add_zero, Nat.reduceMul, Nat.reduceSub, ne_eq, not_false_eq_true, not_true_eq_false, and_self, and_true, true_and, or_self, or_true, true_or, or_false, false_or, if_true, if_false, reduceIte, reduceCtorEq, implies_true, ite_self, ite_not, kM, kMr, kRow hw, sR_at, up2_r64, r64_at, o_add, o_sub, o_mul, o_neg, q_add, q_sub, q_mul, q_neg, o_32, cast_s, Int.toNat_natCast, o_eq (a := (X : Int)) (b := 0) (by omega), hX0, hc, hf, nd_e hX (show o r < 10 by omega), c236 hw hG hoP (Or.inl ⟨rfl, rfl⟩ : (1 : Int) = 1 ∧ (1 : Int) = 1 ∨ (1 : Int) = 0 ∧ (1 : Int) = -1), ih', tnR, hb]
    · have e : tnR n m o X0 (r + 1) x = tnR n m o X0 r x := by
        show tnR n m o X0 r (if _ then _ else _) = _
        rw [if_neg hb]
      rw [e]
      refine ih x X u1 u4 (by omega) hG hX (fun p hp => ?_) h2
      rw [h1 p hp]
      by_cases hpP : p = r
      · subst hpP
        rw [Bool.eq_false_iff.mpr hb, Bool.and_false, Bool.and_false]
      · have : decide (p < r + 1) = decide (p < r) := decide_eq_decide.mpr (by omega)
        rw [this]
/-- a row and the reference's seven ints -/
abbrev Un : Type := (Nat → Int) × Int × Int × Int × Int × Int × Int × Int
def uS (I : Nat → Nat → Int32) (u : Un) : Nat → Nat → Int32 := ms I (FN u.2.1 u.2.2.1 u.2.2.2.1 u.2.2.2.2.1 u.2.2.2.2.2.1 u.2.2.2.2.2.2.1 u.2.2.2.2.2.2.2)
/-- the turns of a pulse -/
def tuT (n m : Nat) (o : Nat → Nat) (α : Nat → Int) (p r : Int) : Tn := tnR n m o (dqA α n) n (tnL n m o (dlA α n) n 0 (svA α n, p, r, 0, -1, -1))
/-- a pulse -/
def puU (n m : Nat) (o : Nat → Nat) (u : Un) : Un :=
  let x := tuT n m o u.1 u.2.1 u.2.2.1
  (up1 x.1 3 (x.1 3 + 1), x.2.1, x.2.2.1, (x.2.2.2.1 : Int), x.2.2.2.2.1, x.2.2.2.2.2, (dlA u.1 n : Int), (dqA u.1 n : Int))
theorem tu_G {u : Un} (h : GA u.1 n m o) : XG (tnL n m o (dlA u.1 n) n 0 (svA u.1 n, u.2.1, u.2.2.1, 0, -1, -1)) n m o ∧ XG (tuT n m o u.1 u.2.1 u.2.2.1) n m o := by
  have h1 : XG (svA u.1 n, u.2.1, u.2.2.1, 0, -1, -1) n m o := ⟨svA_G h n (Nat.le_refl n), by show 0 < 1024; omega, by show -1 ≤ (-1 : Int) ∧ (-1 : Int) < 10; omega⟩
  have h2 := tnL_G (X := dlA u.1 n) n 0 _ (by omega) h1
  exact ⟨h2, tnR_G (X := dqA u.1 n) n _ (Nat.le_refl n) h2⟩
theorem puU_G {u : Un} (h : GA u.1 n m o) : GA (puU n m o u).1 n m o := up_G (tu_G h).2.1 (by omega) (fun p hp => by unfold P3; omega) (fun i hi => by unfold B9; omega)
theorem dl_hi {α : Nat → Int} {j : Nat} (hj : n ≤ j) : (dlA α n).testBit j = false := by
  rw [dlA_t]
  exact decide_eq_false (by omega)
theorem dq_hi {α : Nat → Int} {j : Nat} (hj : n ≤ j) : (dqA α n).testBit j = false := by
  rw [dqA_t]
  exact decide_eq_false (by omega)
theorem c233 (hw : RW w) {u : Un} (hG : GA u.1 n m o) : Wp (d + 26) 233 0 [some (.ref 294)] [] (mk N t w (uS I u) (sR L w (r64 u.1)) D) Q = Q (.inl none) (mk N t w (uS I (puU n m o u)) (sR L w (r64 (puU n m o u).1)) D) := by
  have h10 : n ≤ 10 := hG.1.1
  obtain ⟨α, p, r, M, z1, z2, l, q⟩ := u
  have hG : GA α n m o := hG
  have g := tu_G (u := (α, p, r, M, z1, z2, l, q)) hG
  have h1 : XG (svA α n, p, r, 0, -1, -1) n m o := ⟨svA_G hG n (Nat.le_refl n), by show 0 < 1024; omega, by show -1 ≤ (-1 : Int) ∧ (-1 : Int) < 10; omega⟩
  have hL := fun (Q' : Rs → St → Prop) (u4 : Option Value) => c235_L (d := d) (N := N) (t := t) (I := I) (L := L) (D := D) (Q := Q') (l := (dlA α n : Int)) (q := (dqA α n : Int)) hw (X0 := dlA α n) n 0 _ (dlA α n) (some (.int (Int32.ofInt (dlA α n : Int)))) u4 (by omega) h1 (dlA_lt n h10) (fun p hp => by rw [decide_eq_true (Nat.zero_le p), Bool.true_and]) (fun j hj _ => dl_hi hj)
  have hR := fun (Q' : Rs → St → Prop) (u4 : Option Value) => c235_R (d := d) (N := N) (t := t) (I := I) (L := L) (D := D) (Q := Q') (l := (dlA α n : Int)) (q := (dqA α n : Int)) hw (X0 := dqA α n) n _ (dqA α n) (some (.int (Int32.ofInt (dqA α n : Int)))) u4 (Nat.le_refl n) g.1 (dqA_lt n h10) (fun p hp => by rw [decide_eq_true hp, Bool.true_and]) (fun j hj _ => dq_hi hj)
  unfold tS at hL hR
  simp only [Int.natCast_zero] at hL
  unfold uS
  simp only [w233_0, w233_1, w233_2, w233_5, w233_6, w233_7, w233_10, w233_11, w233_12, w233_15, w233_16, w233_19, w233_20, w233_21, w233_24, w233_25, w233_28, w233_29, w233_30, w233_33, w233_34, w233_37, w233_38, w233_41, w233_42, w233_43, w233_44, w233_45, w233_46, w233_47, kn_s, kn_n, zh_mk, zR_mk, zI_mk, zL_mk, zD_mk, wI_mk, wL_mk, wD_mk, zT_mk, zC_mk, kill_i, kill_r, kill_0, kill_n, kill_l, kill_q, zzk_r, zzk_0, zzk_q, zcat_r, zcat_i, zcat_0, cats_0, cats_i, cats_r, cats_l, cats_d, cats_f, rv_s, rv_0, Nat.reduceAdd, Nat.reduceLeDiff, Nat.add_zero, Nat.reduceMul, Nat.reduceSub, ne_eq, not_false_eq_true, not_true_eq_false, and_self, and_true, true_and, or_self, or_true, true_or, or_false, false_or, if_true, if_false, reduceIte, reduceCtorEq, implies_true, ite_self, ite_not, kM, kMr, kRow hw, sR_at, up2_r64, r64_at, o_add, o_sub, o_mul, o_neg, q_add, q_sub, q_mul, q_neg, o_32, cast_s, Int.toNat_natCast, ms_at (show 4 ≤ 4 ∧ 4 ≤ 10 by omega), ms_at (show 4 ≤ 5 ∧ 5 ≤ 10 by omega), ms_at (show 4 ≤ 6 ∧ 6 ≤ 10 by omega), ms_at (show 4 ≤ 7 ∧ 7 ≤ 10 by omega), ms_at (show 4 ≤ 8 ∧ 8 ≤ 10 by omega), ms_at (show 4 ≤ 9 ∧ 9 ≤ 10 by omega), ms_at (show 4 ≤ 10 ∧ 10 ≤ 10 by omega), up2_ms (show 4 ≤ 4 ∧ 4 ≤ 10 by omega), up2_ms (show 4 ≤ 5 ∧ 5 ≤ 10 by omega), up2_ms (show 4 ≤ 6 ∧ 6 ≤ 10 by omega), up2_ms (show 4 ≤ 7 ∧ 7 ≤ 10 by omega), up2_ms (show 4 ≤ 8 ∧ 8 ≤ 10 by omega), up2_ms (show 4 ≤ 9 ∧ 9 ≤ 10 by omega), up2_ms (show 4 ≤ 10 ∧ 10 ≤ 10 by omega), FN_4, FN_5, FN_6, FN_7, FN_8, FN_9, FN_10, uFN_4, uFN_5, uFN_6, uFN_7, uFN_8, uFN_9, uFN_10, ixc0, ixc1, ixc2, ixc3, ixc4, ixc5, ixc6, ixc7, ixc8, ixc9, ixc10, ixc11, ixc12, ixc13, ixc14, ixc15, ixc218, ixc219, ixc220, ixc221, tnc0, tnc1, tnc2, tnc3, tnc4, tnc5, tnc6, tnc7, tnc8, tnc9, tnc10, tnc11, tnc12, tnc13, tnc14, tnc15, tnc218, tnc219, tnc220, tnc221, c234 (d := d + 22) hw hG, w235_0, w235_1, hL, hR]
  rfl
end S30
