/-! CONTRACTS of the class's line: pulses -/
def dsA (α : Nat → Int) (j : Nat) : Int := if 60 ≤ sdA α j then (if 0 < α (B9 j 1) then 1 else -1) else 0
def adA (α : Nat → Int) : Nat → Bool
  | 0 => false
  | i + 1 => adA α i || decide (60 ≤ sdA α i)
theorem up1_up1 {β : Type} {f : Nat → β} {a : Nat} {x y : β} : up1 (up1 f a x) a y = up1 f a y := by
  funext j
  unfold up1
  by_cases h : j = a <;> simp only [h, if_true, if_false]
theorem adA_f {α : Nat → Int} : ∀ n, adA α n = false → ∀ j, j < n → sdA α j < 60
  | 0, _, j, hj => by omega
  | n + 1, h, j, hj => by
    have h : (adA α n || decide (60 ≤ sdA α n)) = false := h
    rw [Bool.or_eq_false_iff] at h
    by_cases hjn : j = n
    · subst hjn
      have := of_decide_eq_false h.2
      omega
    · exact adA_f n h.1 j (by omega)
theorem tnL_id {n m X : Nat} {o : Nat → Nat} : ∀ (r P : Nat) (x : Tn), (∀ p, P ≤ p → p < P + r → X.testBit (o p) = false) → tnL n m o X r P x = x
  | 0, _, _, _ => rfl
  | r + 1, P, x, h => by
    show tnL n m o X r (P + 1) (if _ then _ else _) = x
    rw [if_neg (by rw [h P (by omega) (by omega)]; exact Bool.false_ne_true)]
    exact tnL_id r (P + 1) x (fun p h1 h2 => h p (by omega) (by omega))
theorem tnR_id {n m X : Nat} {o : Nat → Nat} : ∀ (r : Nat) (x : Tn), (∀ p, p < r → X.testBit (o p) = false) → tnR n m o X r x = x
  | 0, _, _ => rfl
  | r + 1, x, h => by
    show tnR n m o X r (if _ then _ else _) = x
    rw [if_neg (by rw [h r (by omega)]; exact Bool.false_ne_true)]
    exact tnR_id r x (fun p h1 => h p (by omega))
theorem RL_3 {ℓ : Nat → Nat → Int32} {μ : Nat → Nat → Int64} {α : Nat → Int} {n m : Nat} {o : Nat → Nat} {v : Int} (h : RL ℓ μ α n m o) : RL (up2 ℓ 0 1 (Int32.ofInt v)) μ (up1 α 3 v) n m o := RL_i (key := 3) h (by unfold kd; omega)
section S37
variable {N : NX} {w : WX} {d t a a2 b n m : Nat} {I ℓ : Nat → Nat → Int32} {L μ : Nat → Nat → Int64} {D : Nat → Nat → UInt64} {Q : Rs → St → Prop} {x : Tn} {o : Nat → Nat} {ds : Nat → Int} {α : Nat → Int}
theorem c34_4 (hb : LB b) (hG : GA α n m o) : ∀ (k i : Nat) (ℓ : Nat → Nat → Int32), i + k = n → RL ℓ μ (svA α i) n m o → (∀ j, j < i → ℓ (j + 13) 9 = Int32.ofInt (dsA α j) ∧ ℓ (j + 13) 10 = Int32.ofInt 0) →
    (∀ ℓ' : Nat → Nat → Int32, RL ℓ' μ (svA α n) n m o → (∀ j, j < n → ℓ' (j + 13) 9 = Int32.ofInt (dsA α j) ∧ ℓ' (j + 13) 10 = Int32.ofInt 0) → Q (.inl (some (.int (pI (adA α n = true))))) (mk N t w (lay b ℓ' I) L D)) →
    Wp (d + 2) 34 4 [some (.ref b), some (.int (pI (adA α i = true))), some (.int (Int32.ofInt (i : Int)))] [] (mk N t w (lay b ℓ I) L D) Q := by
  have h10 : n ≤ 10 := hG.1.1
  intro k
  induction k with
  | zero =>
    intro i ℓ hi hR hd hQ
    obtain rfl : i = n := by omega
    have g : ¬ ((i : Int) < i) := by omega
    have r03 := hR.2.1.1
    simp only [w34_0, w34_1, w34_2, w34_3, w34_4, w34_5, w34_6, w34_9, w34_12, w34_13, w34_16, w34_17, w34_18, w34_21, w34_24, w34_25, w34_26, w34_29, w34_32, w34_33, kn_s, kn_n, zh_mk, zR_mk, zI_mk, zL_mk, zD_mk, wI_mk, wL_mk, wD_mk, zT_mk, zC_mk, kill_i, kill_r, kill_0, kill_n, kill_l, kill_q, zzk_r, zzk_0, zzk_q, zcat_r, zcat_i, zcat_0, zcat_q, cats_0, cats_i, cats_r, cats_l, cats_d, cats_f, cats_q, cats_n, rv_s, rv_0, Nat.reduceAdd, Nat.reduceLeDiff, Nat.reduceEqDiff, Nat.add_zero, Nat.reduceMul, Nat.reduceSub, ne_eq, not_false_eq_true, not_true_eq_false, and_self, and_true, true_and, or_self, or_true, true_or, or_false, false_or, if_true, if_false, reduceIte, reduceCtorEq, implies_true, ite_self, ite_not, lay_in, lay_0, up2_lay, up2_lay0, kh0, kh1, kh2, kh3, kh4, kh5, kh6, kh7, kh8, kh9, kh10, kh11, kh12, khB, khP, kr2, kr4, kr5, kr7, kr8, kr9, kr10, krB, krP, krG0, krG1, krG2, krG3, krK, Nat.reduceLT, o_add, o_sub, o_mul, o_neg, q_add, q_sub, q_mul, q_neg, o_32, cast_s, Int.toNat_natCast, hb, r03, o_lt (a := (i : Int)) (b := (i : Int)) (by omega), g, p_n]
    exact hQ ℓ hR hd
  | succ k ih =>
    intro i ℓ hi hR hd hQ
    have g : (i : Int) < n := by omega
    have hin : i < n := by omega
    have hi10 : i < 10 := by omega
    have r03 := hR.2.1.1
    have gi := hG.1.2.2.2.2 i hin
    have nb := nsv_b gi.2.1 gi.2.2.2
    have es : svA α i (B9 i 1) = α (B9 i 1) := svA_k (by omega) (by omega)
    have es3 : svA α i (B9 i 3) = α (B9 i 3) := svA_k (by omega) (by omega)
    have r2 : ℓ (i + 13) 2 = Int32.ofInt (α (B9 i 1)) := by
      have := RL_B (k := 1) hR hin h10 (by omega)
      rwa [es] at this
    have r4 : ℓ (i + 13) 4 = Int32.ofInt (α (B9 i 3)) := by
      have := RL_B (k := 3) hR hin h10 (by omega)
      rwa [es3] at this
    have esd : α (B9 i 3) + zabs (α (B9 i 1)) = sdA α i := rfl
    rw [w34_4]
    have q1 := RL_d (a := i + 13) (k := 10) (v := Int32.ofInt 0) (RL_d (a := i + 13) (k := 9) (v := Int32.ofInt 0) hR (by omega)) (by omega)
    have q2 := RL_i (key := B9 i 3) (v := sdA α i) q1 (by unfold kd B9; omega)
    rw [mo_B hi10 (by omega), mq_B hi10 (by omega)] at q2
    by_cases hdue : 60 ≤ sdA α i
    · have hd' : ¬ (sdA α i < 60) := by omega
      have en : sdA α i - 60 = nsv α i := by unfold nsv; rw [if_pos hdue]
      have q3 := RL_i (key := B9 i 3) (v := nsv α i) q2 (by unfold kd B9; omega)
      rw [mo_B hi10 (by omega), mq_B hi10 (by omega), up1_up1] at q3
      have q4 := RL_d (a := i + 13) (k := 9) (v := Int32.ofInt (dsA α i)) q3 (by omega)
      have ea : adA α (i + 1) = true := by
        show (adA α i || decide (60 ≤ sdA α i)) = true
        rw [decide_eq_true hdue, Bool.or_true]
      have hgo : Wp (d + 2) 34 4 [some (.ref b), some (.int (Int32.ofInt 1)), some (.int (Int32.ofInt ((i + 1 : Nat) : Int)))] [] (mk N t w (lay b (up2 (up2 (up2 (up2 (up2 ℓ (i + 13) 9 (Int32.ofInt 0)) (i + 13) 10 (Int32.ofInt 0)) (i + 13) 4 (Int32.ofInt (sdA α i))) (i + 13) 4 (Int32.ofInt (nsv α i))) (i + 13) 9 (Int32.ofInt (dsA α i))) I) L D) Q := by
        have := ih (i + 1) _ (by omega) q4 (fun j hj => by
          by_cases hji : j = i
          · subst hji
            rw [u2_same, u2_ne (by omega), u2_ne (by omega), u2_ne (by omega), u2_same]
            exact ⟨rfl, rfl⟩
          · rw [u2_ne (by omega), u2_ne (by omega), u2_ne (by omega), u2_ne (by omega), u2_ne (by omega), u2_ne (by omega), u2_ne (by omega), u2_ne (by omega), u2_ne (by omega), u2_ne (by omega)]
            exact hd j (by omega)) hQ
        rw [pI_t ea] at this
        exact this
      by_cases hs : 0 < α (B9 i 1)
      · have eds : dsA α i = 1 := by unfold dsA; rw [if_pos hdue, if_pos hs]
        rw [eds] at hgo
        simp only [w34_0, w34_1, w34_2, w34_3, w34_5, w34_6, w34_9, w34_12, w34_13, w34_16, w34_17, w34_18, w34_21, w34_24, w34_25, w34_26, w34_29, w34_32, w34_33, w4_0, w4_1, w4_2, w4_5, w4_6, w4_7, w4_10, w4_11, w4_12, w4_15, w4_16, w4_19, w4_20, w4_23, w4_24, w4_27, w4_29, w4_32, w4_33, w4_34, w4_35, w4_36, w4_39, w4_41, w4_42, w4_45, w4_46, w4_47, w4_50, w4_53, w4_54, w4_57, w4_58, w4_61, w4_62, kn_s, kn_n, zh_mk, zR_mk, zI_mk, zL_mk, zD_mk, wI_mk, wL_mk, wD_mk, zT_mk, zC_mk, kill_i, kill_r, kill_0, kill_n, kill_l, kill_q, zzk_r, zzk_0, zzk_q, zcat_r, zcat_i, zcat_0, zcat_q, cats_0, cats_i, cats_r, cats_l, cats_d, cats_f, cats_q, cats_n, rv_s, rv_0, Nat.reduceAdd, Nat.reduceLeDiff, Nat.reduceEqDiff, Nat.add_zero, Nat.reduceMul, Nat.reduceSub, ne_eq, not_false_eq_true, not_true_eq_false, and_self, and_true, true_and, or_self, or_true, true_or, or_false, false_or, if_true, if_false, reduceIte, reduceCtorEq, implies_true, ite_self, ite_not, lay_in, lay_0, up2_lay, up2_lay0, kh0, kh1, kh2, kh3, kh4, kh5, kh6, kh7, kh8, kh9, kh10, kh11, kh12, khB, khP, kr2, kr4, kr5, kr7, kr8, kr9, kr10, krB, krP, krG0, krG1, krG2, krG3, krK, Nat.reduceLT, o_add, o_sub, o_mul, o_neg, q_add, q_sub, q_mul, q_neg, o_32, cast_s, Int.toNat_natCast, up2_at, Nat.reduceEqDiff, and_false, false_and, hb, hi10, r03, r2, r4, c3, o_lt (a := (i : Int)) (b := (n : Int)) (by omega), g, show i + 13 < 27 by omega, o_ixn (j := i) (n := 10) (by omega), o_tnn (j := i) (by omega), p_o0, pabs_o (s := α (B9 i 1)) (by omega), esd, o_lt (a := sdA α i) (b := 60) (by omega), hd', en, o_lt (a := 0) (b := α (B9 i 1)) (by omega), hs, p_n1, rt01]
        exact hgo
      · have eds : dsA α i = -1 := by unfold dsA; rw [if_pos hdue, if_neg hs]
        rw [eds] at hgo
        simp only [w34_0, w34_1, w34_2, w34_3, w34_5, w34_6, w34_9, w34_12, w34_13, w34_16, w34_17, w34_18, w34_21, w34_24, w34_25, w34_26, w34_29, w34_32, w34_33, w4_0, w4_1, w4_2, w4_5, w4_6, w4_7, w4_10, w4_11, w4_12, w4_15, w4_16, w4_19, w4_20, w4_23, w4_24, w4_27, w4_29, w4_32, w4_33, w4_34, w4_35, w4_36, w4_39, w4_41, w4_42, w4_45, w4_46, w4_47, w4_50, w4_53, w4_54, w4_57, w4_58, w4_61, w4_62, kn_s, kn_n, zh_mk, zR_mk, zI_mk, zL_mk, zD_mk, wI_mk, wL_mk, wD_mk, zT_mk, zC_mk, kill_i, kill_r, kill_0, kill_n, kill_l, kill_q, zzk_r, zzk_0, zzk_q, zcat_r, zcat_i, zcat_0, zcat_q, cats_0, cats_i, cats_r, cats_l, cats_d, cats_f, cats_q, cats_n, rv_s, rv_0, Nat.reduceAdd, Nat.reduceLeDiff, Nat.reduceEqDiff, Nat.add_zero, Nat.reduceMul, Nat.reduceSub, ne_eq, not_false_eq_true, not_true_eq_false, and_self, and_true, true_and, or_self, or_true, true_or, or_false, false_or, if_true, if_false, reduceIte, reduceCtorEq, implies_true, ite_self, ite_not, lay_in, lay_0, up2_lay, up2_lay0, kh0, kh1, kh2, kh3, kh4, kh5, kh6, kh7, kh8, kh9, kh10, kh11, kh12, khB, khP, kr2, kr4, kr5, kr7, kr8, kr9, kr10, krB, krP, krG0, krG1, krG2, krG3, krK, Nat.reduceLT, o_add, o_sub, o_mul, o_neg, q_add, q_sub, q_mul, q_neg, o_32, cast_s, Int.toNat_natCast, up2_at, Nat.reduceEqDiff, and_false, false_and, hb, hi10, r03, r2, r4, c3, o_lt (a := (i : Int)) (b := (n : Int)) (by omega), g, show i + 13 < 27 by omega, o_ixn (j := i) (n := 10) (by omega), o_tnn (j := i) (by omega), p_o0, pabs_o (s := α (B9 i 1)) (by omega), esd, o_lt (a := sdA α i) (b := 60) (by omega), hd', en, o_lt (a := 0) (b := α (B9 i 1)) (by omega), hs, p_n1, rt01]
        exact hgo
    · have hd' : sdA α i < 60 := by omega
      have en : sdA α i = nsv α i := by unfold nsv; rw [if_neg hdue]
      have eds : dsA α i = 0 := by unfold dsA; rw [if_neg hdue]
      have ea : adA α (i + 1) = adA α i := by
        show (adA α i || decide (60 ≤ sdA α i)) = adA α i
        rw [decide_eq_false hdue, Bool.or_false]
      have e4 : up1 (svA α i) (B9 i 3) (sdA α i) = svA α (i + 1) := by rw [en]; rfl
      rw [e4] at q2
      simp only [w34_0, w34_1, w34_2, w34_3, w34_5, w34_6, w34_9, w34_12, w34_13, w34_16, w34_17, w34_18, w34_21, w34_24, w34_25, w34_26, w34_29, w34_32, w34_33, w4_0, w4_1, w4_2, w4_5, w4_6, w4_7, w4_10, w4_11, w4_12, w4_15, w4_16, w4_19, w4_20, w4_23, w4_24, w4_27, w4_29, w4_32, w4_33, w4_34, w4_35, w4_36, w4_39, w4_41, w4_42, w4_45, w4_46, w4_47, w4_50, w4_53, w4_54, w4_57, w4_58, w4_61, w4_62, kn_s, kn_n, zh_mk, zR_mk, zI_mk, zL_mk, zD_mk, wI_mk, wL_mk, wD_mk, zT_mk, zC_mk, kill_i, kill_r, kill_0, kill_n, kill_l, kill_q, zzk_r, zzk_0, zzk_q, zcat_r, zcat_i, zcat_0, zcat_q, cats_0, cats_i, cats_r, cats_l, cats_d, cats_f, cats_q, cats_n, rv_s, rv_0, Nat.reduceAdd, Nat.reduceLeDiff, Nat.reduceEqDiff, Nat.add_zero, Nat.reduceMul, Nat.reduceSub, ne_eq, not_false_eq_true, not_true_eq_false, and_self, and_true, true_and, or_self, or_true, true_or, or_false, false_or, if_true, if_false, reduceIte, reduceCtorEq, implies_true, ite_self, ite_not, lay_in, lay_0, up2_lay, up2_lay0, kh0, kh1, kh2, kh3, kh4, kh5, kh6, kh7, kh8, kh9, kh10, kh11, kh12, khB, khP, kr2, kr4, kr5, kr7, kr8, kr9, kr10, krB, krP, krG0, krG1, krG2, krG3, krK, Nat.reduceLT, o_add, o_sub, o_mul, o_neg, q_add, q_sub, q_mul, q_neg, o_32, cast_s, Int.toNat_natCast, up2_at, Nat.reduceEqDiff, and_false, false_and, hb, hi10, r03, r2, r4, c3, o_lt (a := (i : Int)) (b := (n : Int)) (by omega), g, show i + 13 < 27 by omega, o_ixn (j := i) (n := 10) (by omega), o_tnn (j := i) (by omega), p_o0, pabs_o (s := α (B9 i 1)) (by omega), esd, o_lt (a := sdA α i) (b := 60) (by omega), hd', p_n0]
      rw [← ea]
      exact ih (i + 1) _ (by omega) q2 (fun j hj => by
        by_cases hji : j = i
        · subst hji
          rw [u2_ne (by omega), u2_ne (by omega), u2_same, u2_ne (by omega), u2_same, eds]
          exact ⟨rfl, rfl⟩
        · rw [u2_ne (by omega), u2_ne (by omega), u2_ne (by omega), u2_ne (by omega), u2_ne (by omega), u2_ne (by omega)]
          exact hd j (by omega)) hQ
theorem c34 (hb : LB b) (hG : GA α n m o) (hR : RL ℓ μ α n m o) (hQ : ∀ ℓ' : Nat → Nat → Int32, RL ℓ' μ (svA α n) n m o → (∀ j, j < n → ℓ' (j + 13) 9 = Int32.ofInt (dsA α j) ∧ ℓ' (j + 13) 10 = Int32.ofInt 0) → Q (.inl (some (.int (pI (adA α n = true))))) (mk N t w (lay b ℓ' I) L D)) :
    Wp (d + 2) 34 0 [some (.ref b), none, none] [] (mk N t w (lay b ℓ I) L D) Q := by
  have := c34_4 (d := d) (N := N) (t := t) (w := w) (I := I) (L := L) (D := D) (Q := Q) (μ := μ) hb hG n 0 ℓ (by omega) hR (fun j hj => by omega) hQ
  simp only [w34_0, w34_1, w34_2, w34_3, kn_s, kn_n, zh_mk, zR_mk, zI_mk, zL_mk, zD_mk, wI_mk, wL_mk, wD_mk, zT_mk, zC_mk, kill_i, kill_r, kill_0, kill_n, kill_l, kill_q, zzk_r, zzk_0, zzk_q, zcat_r, zcat_i, zcat_0, zcat_q, cats_0, cats_i, cats_r, cats_l, cats_d, cats_f, cats_q, cats_n, rv_s, rv_0, Nat.reduceAdd, Nat.reduceLeDiff, Nat.reduceEqDiff, Nat.add_zero, Nat.reduceMul, Nat.reduceSub, ne_eq, not_false_eq_true, not_true_eq_false, and_self, and_true, true_and, or_self, or_true, true_or, or_false, false_or, if_true, if_false, reduceIte, reduceCtorEq, implies_true, ite_self, ite_not]
  exact this
theorem c33_25 (hb : LB b) {u1 u2 : Option Value} {iv : Int32} (hds : ∀ i, i < n → -1 ≤ ds i ∧ ds i ≤ 1) {X : Nat} (hX : ∀ i, i < n → (X.testBit i = true ↔ ds i = -1)) : ∀ (r P : Nat) (x : Tn) (ℓ : Nat → Nat → Int32) (μ : Nat → Nat → Int64), P + r = n → RT ℓ μ x n m o ds → XG x n m o →
    (∀ (ℓ' : Nat → Nat → Int32) (μ' : Nat → Nat → Int64), RT ℓ' μ' (tnL n m o X r P x) n m o ds → Wp (d + 4) 33 47 [some (.ref b), u1, u2, some (.int iv), some (.int (Int32.ofInt (n : Int)))] [] (mk N t w (lay b ℓ' I) (lay b μ' L) D) Q) →
    Wp (d + 4) 33 25 [some (.ref b), u1, u2, some (.int iv), some (.int (Int32.ofInt (P : Int)))] [] (mk N t w (lay b ℓ I) (lay b μ L) D) Q := by
  intro r
  induction r with
  | zero =>
    intro P x ℓ μ hP hR hG hQ
    have h10 : n ≤ 10 := hG.1.1.1
    obtain rfl : P = n := by omega
    have g : ¬ ((P : Int) < P) := by omega
    rw [w33_25]
    simp only [w33_27 zzk_r, w33_28, w33_31, kn_s, kn_n, zh_mk, zR_mk, zI_mk, zL_mk, zD_mk, wI_mk, wL_mk, wD_mk, zT_mk, zC_mk, kill_i, kill_r, kill_0, kill_n, kill_l, kill_q, zzk_r, zzk_0, zzk_q, zcat_r, zcat_i, zcat_0, zcat_q, cats_0, cats_i, cats_r, cats_l, cats_d, cats_f, cats_q, cats_n, rv_s, rv_0, Nat.reduceAdd, Nat.reduceLeDiff, Nat.reduceEqDiff, Nat.add_zero, Nat.reduceMul, Nat.reduceSub, ne_eq, not_false_eq_true, not_true_eq_false, and_self, and_true, true_and, or_self, or_true, true_or, or_false, false_or, if_true, if_false, reduceIte, reduceCtorEq, implies_true, ite_self, ite_not, lay_in, lay_0, up2_lay, up2_lay0, kh0, kh1, kh2, kh3, kh4, kh5, kh6, kh7, kh8, kh9, kh10, kh11, kh12, khB, khP, kr2, kr4, kr5, kr7, kr8, kr9, kr10, krB, krP, krG0, krG1, krG2, krG3, krK, Nat.reduceLT, o_add, o_sub, o_mul, o_neg, q_add, q_sub, q_mul, q_neg, o_32, cast_s, Int.toNat_natCast, hb, hR.1.2.1.1, o_lt (a := (P : Int)) (b := (P : Int)) (by omega), g]
    exact hQ ℓ μ hR
  | succ r ih =>
    intro P x ℓ μ hP hR hG hQ
    have h10 : n ≤ 10 := hG.1.1.1
    have g : (P : Int) < n := by omega
    have hop := hG.1.2.2.2.1 P (by omega)
    rw [w33_25]
    simp only [w33_27 zzk_r, w33_28, w33_31, w33_34 zzk_r, w33_35, w33_37, w33_38, kn_s, kn_n, zh_mk, zR_mk, zI_mk, zL_mk, zD_mk, wI_mk, wL_mk, wD_mk, zT_mk, zC_mk, kill_i, kill_r, kill_0, kill_n, kill_l, kill_q, zzk_r, zzk_0, zzk_q, zcat_r, zcat_i, zcat_0, zcat_q, cats_0, cats_i, cats_r, cats_l, cats_d, cats_f, cats_q, cats_n, rv_s, rv_0, Nat.reduceAdd, Nat.reduceLeDiff, Nat.reduceEqDiff, Nat.add_zero, Nat.reduceMul, Nat.reduceSub, ne_eq, not_false_eq_true, not_true_eq_false, and_self, and_true, true_and, or_self, or_true, true_or, or_false, false_or, if_true, if_false, reduceIte, reduceCtorEq, implies_true, ite_self, ite_not, lay_in, lay_0, up2_lay, up2_lay0, kh0, kh1, kh2, kh3, kh4, kh5, kh6, kh7, kh8, kh9, kh10, kh11, kh12, khB, khP, kr2, kr4, kr5, kr7, kr8, kr9, kr10, krB, krP, krG0, krG1, krG2, krG3, krK, Nat.reduceLT, o_add, o_sub, o_mul, o_neg, q_add, q_sub, q_mul, q_neg, o_32, cast_s, Int.toNat_natCast, hb, hR.1.2.1.1, o_lt (a := (P : Int)) (b := (n : Int)) (by omega), g]
    refine c35 (d := d) hb hR hG (show P < n by omega) (Or.inr rfl) (hds _ hop) (fun ℓ' μ' hR' => ?_)
    simp only [w33_41, w33_44, kn_s, kn_n, zh_mk, zR_mk, zI_mk, zL_mk, zD_mk, wI_mk, wL_mk, wD_mk, zT_mk, zC_mk, kill_i, kill_r, kill_0, kill_n, kill_l, kill_q, zzk_r, zzk_0, zzk_q, zcat_r, zcat_i, zcat_0, zcat_q, cats_0, cats_i, cats_r, cats_l, cats_d, cats_f, cats_q, cats_n, rv_s, rv_0, Nat.reduceAdd, Nat.reduceLeDiff, Nat.reduceEqDiff, Nat.add_zero, Nat.reduceMul, Nat.reduceSub, ne_eq, not_false_eq_true, not_true_eq_false, and_self, and_true, true_and, or_self, or_true, true_or, or_false, false_or, if_true, if_false, reduceIte, reduceCtorEq, implies_true, ite_self, ite_not, o_add, cast_s]
    have e : (if ds (o P) = -1 then ttT n m x (o P) (-1) else x) = (if X.testBit (o P) = true then ttT n m x (o P) (-1) else x) := by
      by_cases h : ds (o P) = -1
      · rw [if_pos h, if_pos ((hX _ hop).mpr h)]
      · rw [if_neg h, if_neg (fun e => h ((hX _ hop).mp e))]
    rw [e] at hR'
    refine ih (P + 1) _ ℓ' μ' (by omega) hR' ?_ hQ
    split
    · exact ttT_G hG hop (Or.inr rfl)
    · exact hG
theorem c33_55 (hb : LB b) {u1 u2 : Option Value} {iv : Int32} (hds : ∀ i, i < n → -1 ≤ ds i ∧ ds i ≤ 1) {X : Nat} (hX : ∀ i, i < n → (X.testBit i = true ↔ ds i = 1)) : ∀ (r : Nat) (x : Tn) (ℓ : Nat → Nat → Int32) (μ : Nat → Nat → Int64), r ≤ n → RT ℓ μ x n m o ds → XG x n m o →
    (∀ (ℓ' : Nat → Nat → Int32) (μ' : Nat → Nat → Int64) (u4 : Option Value), RT ℓ' μ' (tnR n m o X r x) n m o ds → Wp (d + 4) 33 73 [some (.ref b), u1, u2, some (.int iv), u4] [] (mk N t w (lay b ℓ' I) (lay b μ' L) D) Q) →
    Wp (d + 4) 33 55 [some (.ref b), u1, u2, some (.int iv), some (.int (Int32.ofInt ((r : Int) - 1)))] [] (mk N t w (lay b ℓ I) (lay b μ L) D) Q := by
  intro r
  induction r with
  | zero =>
    intro x ℓ μ hP hR hG hQ
    have g : ((0 : Nat) : Int) - 1 < 0 := by omega
    rw [w33_55]
    simp only [w33_57, kn_s, kn_n, zh_mk, zR_mk, zI_mk, zL_mk, zD_mk, wI_mk, wL_mk, wD_mk, zT_mk, zC_mk, kill_i, kill_r, kill_0, kill_n, kill_l, kill_q, zzk_r, zzk_0, zzk_q, zcat_r, zcat_i, zcat_0, zcat_q, cats_0, cats_i, cats_r, cats_l, cats_d, cats_f, cats_q, cats_n, rv_s, rv_0, Nat.reduceAdd, Nat.reduceLeDiff, Nat.reduceEqDiff, Nat.add_zero, Nat.reduceMul, Nat.reduceSub, ne_eq, not_false_eq_true, not_true_eq_false, and_self, and_true, true_and, or_self, or_true, true_or, or_false, false_or, if_true, if_false, reduceIte, reduceCtorEq, implies_true, ite_self, ite_not, lay_in, lay_0, up2_lay, up2_lay0, kh0, kh1, kh2, kh3, kh4, kh5, kh6, kh7, kh8, kh9, kh10, kh11, kh12, khB, khP, kr2, kr4, kr5, kr7, kr8, kr9, kr10, krB, krP, krG0, krG1, krG2, krG3, krK, Nat.reduceLT, o_add, o_sub, o_mul, o_neg, q_add, q_sub, q_mul, q_neg, o_32, cast_s, Int.toNat_natCast, o_lt (a := ((0 : Nat) : Int) - 1) (b := 0) (by omega), eq_true g]
    exact hQ ℓ μ _ hR
  | succ r ih =>
    intro x ℓ μ hP hR hG hQ
    have h10 : n ≤ 10 := hG.1.1.1
    have g : ¬ (((r + 1 : Nat) : Int) - 1 < 0) := by omega
    have er : ((r + 1 : Nat) : Int) - 1 = (r : Int) := by omega
    have hop := hG.1.2.2.2.1 r (by omega)
    rw [er] at g ⊢
    rw [w33_55]
    simp only [w33_57, w33_60 zzk_r, w33_61, w33_63, w33_64, kn_s, kn_n, zh_mk, zR_mk, zI_mk, zL_mk, zD_mk, wI_mk, wL_mk, wD_mk, zT_mk, zC_mk, kill_i, kill_r, kill_0, kill_n, kill_l, kill_q, zzk_r, zzk_0, zzk_q, zcat_r, zcat_i, zcat_0, zcat_q, cats_0, cats_i, cats_r, cats_l, cats_d, cats_f, cats_q, cats_n, rv_s, rv_0, Nat.reduceAdd, Nat.reduceLeDiff, Nat.reduceEqDiff, Nat.add_zero, Nat.reduceMul, Nat.reduceSub, ne_eq, not_false_eq_true, not_true_eq_false, and_self, and_true, true_and, or_self, or_true, true_or, or_false, false_or, if_true, if_false, reduceIte, reduceCtorEq, implies_true, ite_self, ite_not, lay_in, lay_0, up2_lay, up2_lay0, kh0, kh1, kh2, kh3, kh4, kh5, kh6, kh7, kh8, kh9, kh10, kh11, kh12, khB, khP, kr2, kr4, kr5, kr7, kr8, kr9, kr10, krB, krP, krG0, krG1, krG2, krG3, krK, Nat.reduceLT, o_add, o_sub, o_mul, o_neg, q_add, q_sub, q_mul, q_neg, o_32, cast_s, Int.toNat_natCast, hb, o_lt (a := (r : Int)) (b := 0) (by omega), eq_false g]
    refine c35 (d := d) hb hR hG (show r < n by omega) (Or.inl rfl) (hds _ hop) (fun ℓ' μ' hR' => ?_)
    have e2 : (r : Int) + -1 = (r : Int) - 1 := rfl
    simp only [w33_67, w33_70, kn_s, kn_n, zh_mk, zR_mk, zI_mk, zL_mk, zD_mk, wI_mk, wL_mk, wD_mk, zT_mk, zC_mk, kill_i, kill_r, kill_0, kill_n, kill_l, kill_q, zzk_r, zzk_0, zzk_q, zcat_r, zcat_i, zcat_0, zcat_q, cats_0, cats_i, cats_r, cats_l, cats_d, cats_f, cats_q, cats_n, rv_s, rv_0, Nat.reduceAdd, Nat.reduceLeDiff, Nat.reduceEqDiff, Nat.add_zero, Nat.reduceMul, Nat.reduceSub, ne_eq, not_false_eq_true, not_true_eq_false, and_self, and_true, true_and, or_self, or_true, true_or, or_false, false_or, if_true, if_false, reduceIte, reduceCtorEq, implies_true, ite_self, ite_not, o_add, e2]
    have e : (if ds (o r) = 1 then ttT n m x (o r) 1 else x) = (if X.testBit (o r) = true then ttT n m x (o r) 1 else x) := by
      by_cases h : ds (o r) = 1
      · rw [if_pos h, if_pos ((hX _ hop).mpr h)]
      · rw [if_neg h, if_neg (fun e => h ((hX _ hop).mp e))]
    rw [e] at hR'
    refine ih _ ℓ' μ' (by omega) hR' ?_ hQ
    split
    · exact ttT_G hG hop (Or.inl rfl)
    · exact hG
/-- so many pulses -/
def uK (n m : Nat) (o : Nat → Nat) : Nat → Un → Un
  | 0, u => u
  | k + 1, u => uK n m o k (puU n m o u)
theorem uK_G {k : Nat} : ∀ {u : Un}, GA u.1 n m o → GA (uK n m o k u).1 n m o := by
  induction k with
  | zero => intro u h; exact h
  | succ k ih => intro u h; exact ih (puU_G h)
theorem c33_10 (hb : LB b) {P B : Int} (hP : 0 ≤ P ∧ P < 100000) : ∀ (k : Nat) (i : Int) (u : Un) (ℓ : Nat → Nat → Int32) (μ : Nat → Nat → Int64) (u4 : Option Value), i + k = P → 0 ≤ i → RL ℓ μ u.1 n m o → GA u.1 n m o →
    (∀ (ℓ' : Nat → Nat → Int32) (μ' : Nat → Nat → Int64), RL ℓ' μ' (uK n m o k u).1 n m o → Q (.inl (some (.int (Int32.ofInt ((uK n m o k u).1 12 - B))))) (mk N t w (lay b ℓ' I) (lay b μ' L) D)) →
    Wp (d + 4) 33 10 [some (.ref b), some (.int (Int32.ofInt P)), some (.int (Int32.ofInt B)), some (.int (Int32.ofInt i)), u4] [] (mk N t w (lay b ℓ I) (lay b μ L) D) Q := by
  intro k
  induction k with
  | zero =>
    intro i u ℓ μ u4 hi h0 hR hG hQ
    have g : ¬ (i < P) := by omega
    have r12 : ℓ 11 4 = Int32.ofInt (u.1 12) := hR.1 12 (by unfold kd; omega)
    rw [w33_10]
    simp only [w33_11, w33_12, w33_89 zzk_r, w33_90, w33_93, w33_96, w33_97, w33_98, kn_s, kn_n, zh_mk, zR_mk, zI_mk, zL_mk, zD_mk, wI_mk, wL_mk, wD_mk, zT_mk, zC_mk, kill_i, kill_r, kill_0, kill_n, kill_l, kill_q, zzk_r, zzk_0, zzk_q, zcat_r, zcat_i, zcat_0, zcat_q, cats_0, cats_i, cats_r, cats_l, cats_d, cats_f, cats_q, cats_n, rv_s, rv_0, Nat.reduceAdd, Nat.reduceLeDiff, Nat.reduceEqDiff, Nat.add_zero, Nat.reduceMul, Nat.reduceSub, ne_eq, not_false_eq_true, not_true_eq_false, and_self, and_true, true_and, or_self, or_true, true_or, or_false, false_or, if_true, if_false, reduceIte, reduceCtorEq, implies_true, ite_self, ite_not, lay_in, lay_0, up2_lay, up2_lay0, kh0, kh1, kh2, kh3, kh4, kh5, kh6, kh7, kh8, kh9, kh10, kh11, kh12, khB, khP, kr2, kr4, kr5, kr7, kr8, kr9, kr10, krB, krP, krG0, krG1, krG2, krG3, krK, Nat.reduceLT, o_add, o_sub, o_mul, o_neg, q_add, q_sub, q_mul, q_neg, o_32, cast_s, Int.toNat_natCast, hb, r12, o_lt (a := i) (b := P) (by omega), g]
    exact hQ ℓ μ hR
  | succ k ih =>
    intro i u ℓ μ u4 hi h0 hR hG hQ
    have h10 : n ≤ 10 := hG.1.1
    have g : i < P := by omega
    have key : ∀ (ℓ' : Nat → Nat → Int32) (μ' : Nat → Nat → Int64) (u4 : Option Value), RL ℓ' μ' (tuT n m o u.1 u.2.1 u.2.2.1).1 n m o → Wp (d + 4) 33 73 [some (.ref b), some (.int (Int32.ofInt P)), some (.int (Int32.ofInt B)), some (.int (Int32.ofInt i)), u4] [] (mk N t w (lay b ℓ' I) (lay b μ' L) D) Q := by
      intro ℓ' μ' u4 hR'
      have r3 : ℓ' 0 1 = Int32.ofInt ((tuT n m o u.1 u.2.1 u.2.2.1).1 3) := hR'.1 3 (by unfold kd; omega)
      simp only [w33_73 zzk_r, w33_74, w33_75, w33_78, w33_79, w33_80, w33_83, w33_86, kn_s, kn_n, zh_mk, zR_mk, zI_mk, zL_mk, zD_mk, wI_mk, wL_mk, wD_mk, zT_mk, zC_mk, kill_i, kill_r, kill_0, kill_n, kill_l, kill_q, zzk_r, zzk_0, zzk_q, zcat_r, zcat_i, zcat_0, zcat_q, cats_0, cats_i, cats_r, cats_l, cats_d, cats_f, cats_q, cats_n, rv_s, rv_0, Nat.reduceAdd, Nat.reduceLeDiff, Nat.reduceEqDiff, Nat.add_zero, Nat.reduceMul, Nat.reduceSub, ne_eq, not_false_eq_true, not_true_eq_false, and_self, and_true, true_and, or_self, or_true, true_or, or_false, false_or, if_true, if_false, reduceIte, reduceCtorEq, implies_true, ite_self, ite_not, lay_in, lay_0, up2_lay, up2_lay0, kh0, kh1, kh2, kh3, kh4, kh5, kh6, kh7, kh8, kh9, kh10, kh11, kh12, khB, khP, kr2, kr4, kr5, kr7, kr8, kr9, kr10, krB, krP, krG0, krG1, krG2, krG3, krK, Nat.reduceLT, o_add, o_sub, o_mul, o_neg, q_add, q_sub, q_mul, q_neg, o_32, cast_s, Int.toNat_natCast, hb, r3]
      exact ih (i + 1) (puU n m o u) _ _ _ (by omega) (by omega) (RL_3 hR') (puU_G hG) hQ
    rw [w33_10]
    simp only [w33_11, w33_12, w33_15 zzk_r, w33_16, kn_s, kn_n, zh_mk, zR_mk, zI_mk, zL_mk, zD_mk, wI_mk, wL_mk, wD_mk, zT_mk, zC_mk, kill_i, kill_r, kill_0, kill_n, kill_l, kill_q, zzk_r, zzk_0, zzk_q, zcat_r, zcat_i, zcat_0, zcat_q, cats_0, cats_i, cats_r, cats_l, cats_d, cats_f, cats_q, cats_n, rv_s, rv_0, Nat.reduceAdd, Nat.reduceLeDiff, Nat.reduceEqDiff, Nat.add_zero, Nat.reduceMul, Nat.reduceSub, ne_eq, not_false_eq_true, not_true_eq_false, and_self, and_true, true_and, or_self, or_true, true_or, or_false, false_or, if_true, if_false, reduceIte, reduceCtorEq, implies_true, ite_self, ite_not, lay_in, lay_0, up2_lay, up2_lay0, kh0, kh1, kh2, kh3, kh4, kh5, kh6, kh7, kh8, kh9, kh10, kh11, kh12, khB, khP, kr2, kr4, kr5, kr7, kr8, kr9, kr10, krB, krP, krG0, krG1, krG2, krG3, krK, Nat.reduceLT, o_add, o_sub, o_mul, o_neg, q_add, q_sub, q_mul, q_neg, o_32, cast_s, Int.toNat_natCast, hb, o_lt (a := i) (b := P) (by omega), g]
    refine c34 (d := d + 1) hb hG hR (fun ℓ' hR' hd' => ?_)
    have hXG : XG (svA u.1 n, u.2.1, u.2.2.1, 0, -1, -1) n m o := ⟨svA_G hG n (Nat.le_refl n), by show 0 < 1024; omega, by show -1 ≤ (-1 : Int) ∧ (-1 : Int) < 10; omega⟩
    have hds : ∀ i, i < n → -1 ≤ dsA u.1 i ∧ dsA u.1 i ≤ 1 := by
      intro i hi
      unfold dsA
      split
      · split <;> omega
      · omega
    have hXl : ∀ i, i < n → ((dlA u.1 n).testBit i = true ↔ dsA u.1 i = -1) := by
      intro i hi
      have nb := nsv_b (hG.1.2.2.2.2 i hi).2.1 (hG.1.2.2.2.2 i hi).2.2.2
      rw [dlA_t, decide_eq_true_eq]
      unfold dsA
      constructor
      · rintro ⟨-, h1, h2⟩
        rw [if_pos h1, if_neg (by omega)]
      · intro h
        split at h
        · rename_i h1
          split at h
          · omega
          · have := nb.2.2.2.2 h1
            exact ⟨hi, h1, by omega⟩
        · omega
    have hXr : ∀ i, i < n → ((dqA u.1 n).testBit i = true ↔ dsA u.1 i = 1) := by
      intro i hi
      rw [dqA_t, decide_eq_true_eq]
      unfold dsA
      constructor
      · rintro ⟨-, h1, h2⟩
        rw [if_pos h1, if_pos h2]
      · intro h
        split at h
        · rename_i h1
          split at h
          · rename_i h2
            exact ⟨hi, h1, h2⟩
          · omega
        · omega
    have hRT : RT ℓ' μ (svA u.1 n, u.2.1, u.2.2.1, 0, -1, -1) n m o (dsA u.1) := ⟨hR', fun i hi => ⟨(hd' i hi).1, by
      rw [(hd' i hi).2]
      show _ = pI (Nat.testBit 0 i = true)
      rw [pI_f]
      rw [Nat.zero_testBit]
      exact Bool.false_ne_true⟩⟩
    by_cases had : adA u.1 n = true
    · simp only [w33_19, w33_22, w33_23, kn_s, kn_n, zh_mk, zR_mk, zI_mk, zL_mk, zD_mk, wI_mk, wL_mk, wD_mk, zT_mk, zC_mk, kill_i, kill_r, kill_0, kill_n, kill_l, kill_q, zzk_r, zzk_0, zzk_q, zcat_r, zcat_i, zcat_0, zcat_q, cats_0, cats_i, cats_r, cats_l, cats_d, cats_f, cats_q, cats_n, rv_s, rv_0, Nat.reduceAdd, Nat.reduceLeDiff, Nat.reduceEqDiff, Nat.add_zero, Nat.reduceMul, Nat.reduceSub, ne_eq, not_false_eq_true, not_true_eq_false, and_self, and_true, true_and, or_self, or_true, true_or, or_false, false_or, if_true, if_false, reduceIte, reduceCtorEq, implies_true, ite_self, ite_not, lay_in, lay_0, up2_lay, up2_lay0, kh0, kh1, kh2, kh3, kh4, kh5, kh6, kh7, kh8, kh9, kh10, kh11, kh12, khB, khP, kr2, kr4, kr5, kr7, kr8, kr9, kr10, krB, krP, krG0, krG1, krG2, krG3, krK, Nat.reduceLT, o_add, o_sub, o_mul, o_neg, q_add, q_sub, q_mul, q_neg, o_32, cast_s, Int.toNat_natCast, p_0, had]
      refine c33_25 hb hds hXl n 0 _ ℓ' μ (by omega) hRT hXG (fun ℓ1 μ1 hR1 => ?_)
      have hG1 := tnL_G (X := dlA u.1 n) n 0 _ (by omega) hXG
      simp only [w33_47 zzk_r, w33_48, w33_51, w33_52, w33_53, kn_s, kn_n, zh_mk, zR_mk, zI_mk, zL_mk, zD_mk, wI_mk, wL_mk, wD_mk, zT_mk, zC_mk, kill_i, kill_r, kill_0, kill_n, kill_l, kill_q, zzk_r, zzk_0, zzk_q, zcat_r, zcat_i, zcat_0, zcat_q, cats_0, cats_i, cats_r, cats_l, cats_d, cats_f, cats_q, cats_n, rv_s, rv_0, Nat.reduceAdd, Nat.reduceLeDiff, Nat.reduceEqDiff, Nat.add_zero, Nat.reduceMul, Nat.reduceSub, ne_eq, not_false_eq_true, not_true_eq_false, and_self, and_true, true_and, or_self, or_true, true_or, or_false, false_or, if_true, if_false, reduceIte, reduceCtorEq, implies_true, ite_self, ite_not, lay_in, lay_0, up2_lay, up2_lay0, kh0, kh1, kh2, kh3, kh4, kh5, kh6, kh7, kh8, kh9, kh10, kh11, kh12, khB, khP, kr2, kr4, kr5, kr7, kr8, kr9, kr10, krB, krP, krG0, krG1, krG2, krG3, krK, Nat.reduceLT, o_add, o_sub, o_mul, o_neg, q_add, q_sub, q_mul, q_neg, o_32, cast_s, Int.toNat_natCast, hb, hR1.1.2.1.1]
      exact c33_55 hb hds hXr n _ ℓ1 μ1 (Nat.le_refl n) hR1 hG1 (fun ℓ2 μ2 u4 hR2 => key ℓ2 μ2 u4 hR2.1)
    · have hf := adA_f n (Bool.eq_false_iff.mpr had)
      have e1 : tuT n m o u.1 u.2.1 u.2.2.1 = (svA u.1 n, u.2.1, u.2.2.1, 0, -1, -1) := by
        unfold tuT
        rw [tnL_id n 0 _ (fun p _ hp => by
          rw [dlA_t]
          refine decide_eq_false (fun h => ?_)
          have := hf _ (hG.2.2.2.1 p (by omega))
          omega), tnR_id n _ (fun p hp => by
          rw [dqA_t]
          refine decide_eq_false (fun h => ?_)
          have := hf _ (hG.2.2.2.1 p (by omega))
          omega)]
      simp only [w33_19, kn_s, kn_n, zh_mk, zR_mk, zI_mk, zL_mk, zD_mk, wI_mk, wL_mk, wD_mk, zT_mk, zC_mk, kill_i, kill_r, kill_0, kill_n, kill_l, kill_q, zzk_r, zzk_0, zzk_q, zcat_r, zcat_i, zcat_0, zcat_q, cats_0, cats_i, cats_r, cats_l, cats_d, cats_f, cats_q, cats_n, rv_s, rv_0, Nat.reduceAdd, Nat.reduceLeDiff, Nat.reduceEqDiff, Nat.add_zero, Nat.reduceMul, Nat.reduceSub, ne_eq, not_false_eq_true, not_true_eq_false, and_self, and_true, true_and, or_self, or_true, true_or, or_false, false_or, if_true, if_false, reduceIte, reduceCtorEq, implies_true, ite_self, ite_not, lay_in, lay_0, up2_lay, up2_lay0, kh0, kh1, kh2, kh3, kh4, kh5, kh6, kh7, kh8, kh9, kh10, kh11, kh12, khB, khP, kr2, kr4, kr5, kr7, kr8, kr9, kr10, krB, krP, krG0, krG1, krG2, krG3, krK, Nat.reduceLT, o_add, o_sub, o_mul, o_neg, q_add, q_sub, q_mul, q_neg, o_32, cast_s, Int.toNat_natCast, p_0, had, Bool.false_eq_true]
      exact key ℓ' μ _ (by rw [e1]; exact hR')
theorem c33 (hb : LB b) {k : Nat} (hk : k < 100000) {u : Un} (hR : RL ℓ μ u.1 n m o) (hG : GA u.1 n m o)
    (hQ : ∀ (ℓ' : Nat → Nat → Int32) (μ' : Nat → Nat → Int64), RL ℓ' μ' (uK n m o k u).1 n m o → Q (.inl (some (.int (Int32.ofInt ((uK n m o k u).1 12 - u.1 12))))) (mk N t w (lay b ℓ' I) (lay b μ' L) D)) :
    Wp (d + 4) 33 0 [some (.ref b), some (.int (Int32.ofInt (k : Int))), none, none, none] [] (mk N t w (lay b ℓ I) (lay b μ L) D) Q := by
  have r12 : ℓ 11 4 = Int32.ofInt (u.1 12) := hR.1 12 (by unfold kd; omega)
  have := c33_10 (d := d) (N := N) (t := t) (w := w) (I := I) (L := L) (D := D) (Q := Q) (P := (k : Int)) (B := u.1 12) hb (by omega) k 0 u ℓ μ none (by omega) (by omega) hR hG hQ
  simp only [w33_0 zzk_r, w33_1, w33_4, w33_7, w33_8, w33_9, kn_s, kn_n, zh_mk, zR_mk, zI_mk, zL_mk, zD_mk, wI_mk, wL_mk, wD_mk, zT_mk, zC_mk, kill_i, kill_r, kill_0, kill_n, kill_l, kill_q, zzk_r, zzk_0, zzk_q, zcat_r, zcat_i, zcat_0, zcat_q, cats_0, cats_i, cats_r, cats_l, cats_d, cats_f, cats_q, cats_n, rv_s, rv_0, Nat.reduceAdd, Nat.reduceLeDiff, Nat.reduceEqDiff, Nat.add_zero, Nat.reduceMul, Nat.reduceSub, ne_eq, not_false_eq_true, not_true_eq_false, and_self, and_true, true_and, or_self, or_true, true_or, or_false, false_or, if_true, if_false, reduceIte, reduceCtorEq, implies_true, ite_self, ite_not, lay_in, lay_0, up2_lay, up2_lay0, kh0, kh1, kh2, kh3, kh4, kh5, kh6, kh7, kh8, kh9, kh10, kh11, kh12, khB, khP, kr2, kr4, kr5, kr7, kr8, kr9, kr10, krB, krP, krG0, krG1, krG2, krG3, krK, Nat.reduceLT, o_add, o_sub, o_mul, o_neg, q_add, q_sub, q_mul, q_neg, o_32, cast_s, Int.toNat_natCast, hb, r12]
  exact this
end S37
