/-! CONTRACTS: the order of the balls by their cells; a ball more -/
/-- the first i balls in order of their cells -/
def SO (κ : Nat → Int) (i : Nat) (ω : Nat → Nat) : Prop := (∀ p, p < i → ω p < i) ∧ (∀ p q, p < q → q < i → κ (ω p) < κ (ω q)) ∧ ∀ j, j < i → ∃ p, p < i ∧ ω p = j
def insW (ω : Nat → Nat) (pl i : Nat) : Nat → Nat := fun k => if k < pl then ω k else if k = pl then i else ω (k - 1)
theorem SO_ins {κ : Nat → Int} {i pl : Nat} {ω : Nat → Nat} (h : SO κ i ω) (hp : pl ≤ i) (h1 : ∀ k, k < pl → κ (ω k) < κ i) (h2 : ∀ k, pl ≤ k → k < i → κ i < κ (ω k)) : SO κ (i + 1) (insW ω pl i) := by
  obtain ⟨g1, g2, g3⟩ := h
  refine ⟨fun p hq => ?_, fun p q hpq hq => ?_, fun j hj => ?_⟩
  · unfold insW
    split
    · have := g1 p (by omega); omega
    · split
      · omega
      · have := g1 (p - 1) (by omega); omega
  · unfold insW
    by_cases a1 : p < pl
    · rw [if_pos a1]
      by_cases b1 : q < pl
      · rw [if_pos b1]; exact g2 p q hpq (by omega)
      · rw [if_neg b1]
        by_cases b2 : q = pl
        · rw [if_pos b2]; exact h1 p a1
        · rw [if_neg b2]; exact g2 p (q - 1) (by omega) (by omega)
    · rw [if_neg a1, if_neg (show ¬ q < pl by omega), if_neg (show ¬ q = pl by omega)]
      by_cases a2 : p = pl
      · rw [if_pos a2]; exact h2 (q - 1) (by omega) (by omega)
      · rw [if_neg a2]; exact g2 (p - 1) (q - 1) (by omega) (by omega)
  · by_cases hj2 : j = i
    · exact ⟨pl, by omega, by unfold insW; rw [if_neg (by omega), if_pos rfl, hj2]⟩
    · obtain ⟨p, q1, q2⟩ := g3 j (by omega)
      by_cases hp2 : p < pl
      · exact ⟨p, by omega, by unfold insW; rw [if_pos hp2, q2]⟩
      · exact ⟨p + 1, by omega, by unfold insW; rw [if_neg (by omega), if_neg (by omega), Nat.add_sub_cancel, q2]⟩
/-- the array while places up to i move -/
def pMv (p : Nat → Int32) (pl i : Nat) : Nat → Int32 := fun k => if pl < k ∧ k ≤ i then p (k - 1) else p k
theorem pMv_i {p : Nat → Int32} {i : Nat} : pMv p i i = p := by
  funext k
  unfold pMv
  rw [if_neg (by omega)]
theorem pMv_s {p : Nat → Int32} {q i : Nat} (h : q + 1 ≤ i) : up1 (pMv p (q + 1) i) (q + 1) (p q) = pMv p q i := by
  funext k
  unfold up1 pMv
  by_cases hk : k = q + 1
  · subst hk
    rw [if_pos rfl, if_pos (by omega), Nat.add_sub_cancel]
  · rw [if_neg hk]
    by_cases h2 : q + 1 < k ∧ k ≤ i
    · rw [if_pos h2, if_pos (by omega)]
    · rw [if_neg h2, if_neg (by omega)]
section S69
variable {N : NX} {w : WX} {d t b n m : Nat} {I ℓ : Nat → Nat → Int32} {L μ : Nat → Nat → Int64} {D : Nat → Nat → UInt64} {Q : Rs → St → Prop} {o : Nat → Nat} {α κ : Nat → Int}
theorem c31_12 (hb : LB b) (hn : n ≤ 10) (en : ℓ 0 3 = Int32.ofInt (n : Int)) (ec : ∀ i, i < n → ℓ (i + 13) 1 = Int32.ofInt (κ i) ∧ -2147483648 ≤ κ i ∧ κ i < 2147483648) (hd : ∀ i j, i < n → j < n → κ i = κ j → i = j) {i : Nat} (hi : i < n) {ω : Nat → Nat} {p : Nat → Int32} (hS : SO κ i ω) (hp : ∀ k, k < i → p k = Int32.ofInt (ω k : Int))
    (hQ : ∀ (ω' : Nat → Nat) (p' : Nat → Int32) (u2 : Option Value), SO κ (i + 1) ω' → (∀ k, k < i + 1 → p' k = Int32.ofInt (ω' k : Int)) → Wp d 31 2 [some (.ref b), some (.int (Int32.ofInt ((i + 1 : Nat) : Int))), u2] [] (mk N t w (lay b (oL 2 ℓ p') I) L D) Q) :
    ∀ q : Nat, q ≤ i → (∀ k, q ≤ k → k < i → κ i < κ (ω k)) → Wp d 31 12 [some (.ref b), some (.int (Int32.ofInt (i : Int))), some (.int (Int32.ofInt (q : Int)))] [] (mk N t w (lay b (oL 2 ℓ (pMv p q i)) I) L D) Q := by
  have i10 : i < 10 := by omega
  have fin : ∀ q : Nat, q ≤ i → (∀ k, q ≤ k → k < i → κ i < κ (ω k)) → (∀ k, k < q → κ (ω k) < κ i) → Wp d 31 64 [some (.ref b), some (.int (Int32.ofInt (i : Int))), some (.int (Int32.ofInt (q : Int)))] [] (mk N t w (lay b (oL 2 ℓ (pMv p q i)) I) L D) Q := by
    intro q hq h2 h1
    simp only [w31_64, w31_65, w31_68, w31_69, w31_70, w31_71, w31_74, kn_s, kn_n, zh_mk, zR_mk, zI_mk, zL_mk, zD_mk, wI_mk, wL_mk, wD_mk, zT_mk, zC_mk, kill_i, kill_r, kill_0, kill_n, kill_l, kill_q, zzk_r, zzk_0, zzk_q, zcat_r, zcat_i, zcat_0, zcat_q, cats_0, cats_i, cats_r, cats_l, cats_d, cats_f, cats_q, cats_n, rv_s, rv_0, Nat.reduceAdd, Nat.reduceLeDiff, Nat.reduceEqDiff, Nat.add_zero, Nat.reduceMul, Nat.reduceSub, ne_eq, not_false_eq_true, not_true_eq_false, and_self, and_true, true_and, or_self, or_true, true_or, or_false, false_or, if_true, if_false, reduceIte, reduceCtorEq, implies_true, ite_self, ite_not, lay_in, lay_0, up2_lay, up2_lay0, kh0, kh1, kh2, kh3, kh4, kh5, kh6, kh7, kh8, kh9, kh10, kh11, kh12, khB, khP, kr2, kr4, kr5, kr7, kr8, kr9, kr10, krB, krP, krG0, krG1, krG2, krG3, krK, Nat.reduceLT, o_add, o_sub, o_mul, o_neg, q_add, q_sub, q_mul, q_neg, o_32, cast_s, Int.toNat_natCast, hb, oL_up, o_ixn (j := q) (n := 10) (by omega), o_tnn (j := q) (by omega), cast_s]
    refine hQ (insW ω q i) _ _ (SO_ins hS hq h1 h2) (fun k hk => ?_)
    unfold insW
    by_cases e1 : k = q
    · rw [e1, up1_eq', if_neg (by omega), if_pos rfl]
    · rw [up1_ne e1]
      unfold pMv
      by_cases e2 : k < q
      · rw [if_neg (by omega), if_pos e2]; exact hp k (by omega)
      · rw [if_pos (by omega), if_neg e2, if_neg e1]; exact hp (k - 1) (by omega)
  intro q
  induction q with
  | zero =>
    intro hq h2
    have g : ¬ (0 < ((0 : Nat) : Int)) := by omega
    rw [w31_12]
    simp only [w31_13, kn_s, kn_n, zh_mk, zR_mk, zI_mk, zL_mk, zD_mk, wI_mk, wL_mk, wD_mk, zT_mk, zC_mk, kill_i, kill_r, kill_0, kill_n, kill_l, kill_q, zzk_r, zzk_0, zzk_q, zcat_r, zcat_i, zcat_0, zcat_q, cats_0, cats_i, cats_r, cats_l, cats_d, cats_f, cats_q, cats_n, rv_s, rv_0, Nat.reduceAdd, Nat.reduceLeDiff, Nat.reduceEqDiff, Nat.add_zero, Nat.reduceMul, Nat.reduceSub, ne_eq, not_false_eq_true, not_true_eq_false, and_self, and_true, true_and, or_self, or_true, true_or, or_false, false_or, if_true, if_false, reduceIte, reduceCtorEq, implies_true, ite_self, ite_not, lay_in, lay_0, up2_lay, up2_lay0, kh0, kh1, kh2, kh3, kh4, kh5, kh6, kh7, kh8, kh9, kh10, kh11, kh12, khB, khP, kr2, kr4, kr5, kr7, kr8, kr9, kr10, krB, krP, krG0, krG1, krG2, krG3, krK, Nat.reduceLT, o_add, o_sub, o_mul, o_neg, q_add, q_sub, q_mul, q_neg, o_32, cast_s, Int.toNat_natCast, o_lt (a := 0) (b := ((0 : Nat) : Int)) (by omega), g]
    exact fin 0 hq h2 (fun k hk => by omega)
  | succ q ih =>
    intro hq h2
    have g : 0 < ((q + 1 : Nat) : Int) := by omega
    have e1 : ((q + 1 : Nat) : Int) - 1 = (q : Int) := by omega
    have e2 : ((q + 1 : Nat) : Int) + -1 = (q : Int) := by omega
    have hw := hS.1 q (by omega)
    have w10 : ω q < 10 := by omega
    have ea : pMv p (q + 1) i q = Int32.ofInt (ω q : Int) := by
      unfold pMv
      rw [if_neg (by omega)]
      exact hp q (by omega)
    have c1 := ec (ω q) (by omega)
    have c2 := ec i hi
    have en2 : oL 2 ℓ (pMv p (q + 1) i) 0 3 = Int32.ofInt (n : Int) := by rw [oL_ne (by omega)]; exact en
    have ec1 : oL 2 ℓ (pMv p (q + 1) i) (ω q + 13) 1 = Int32.ofInt (κ (ω q)) := by rw [oL_ne (by omega)]; exact c1.1
    have ec2 : oL 2 ℓ (pMv p (q + 1) i) (i + 13) 1 = Int32.ofInt (κ i) := by rw [oL_ne (by omega)]; exact c2.1
    have es := pMv_s (p := p) hq
    rw [hp q (by omega)] at es
    rw [w31_12]
    by_cases hx : κ i < κ (ω q)
    · simp only [w31_13, w31_16, w31_17, w31_20, w31_21, w31_24, w31_25, w31_26, w31_27, w31_28, w31_29, w31_32, w31_33, w31_36, w31_37, w31_38, w31_41, w31_44, w31_45, w31_48, w31_49, w31_50, w31_53, w31_54, w31_55, w31_56, w31_57, w31_58, w31_61, kn_s, kn_n, zh_mk, zR_mk, zI_mk, zL_mk, zD_mk, wI_mk, wL_mk, wD_mk, zT_mk, zC_mk, kill_i, kill_r, kill_0, kill_n, kill_l, kill_q, zzk_r, zzk_0, zzk_q, zcat_r, zcat_i, zcat_0, zcat_q, cats_0, cats_i, cats_r, cats_l, cats_d, cats_f, cats_q, cats_n, rv_s, rv_0, Nat.reduceAdd, Nat.reduceLeDiff, Nat.reduceEqDiff, Nat.add_zero, Nat.reduceMul, Nat.reduceSub, ne_eq, not_false_eq_true, not_true_eq_false, and_self, and_true, true_and, or_self, or_true, true_or, or_false, false_or, if_true, if_false, reduceIte, reduceCtorEq, implies_true, ite_self, ite_not, lay_in, lay_0, up2_lay, up2_lay0, kh0, kh1, kh2, kh3, kh4, kh5, kh6, kh7, kh8, kh9, kh10, kh11, kh12, khB, khP, kr2, kr4, kr5, kr7, kr8, kr9, kr10, krB, krP, krG0, krG1, krG2, krG3, krK, Nat.reduceLT, o_add, o_sub, o_mul, o_neg, q_add, q_sub, q_mul, q_neg, o_32, cast_s, Int.toNat_natCast, hb, i10, w10, show i + 13 < 27 by omega, show ω q + 13 < 27 by omega, o_lt (a := 0) (b := ((q + 1 : Nat) : Int)) (by omega), g, e1, e2, oL_at, oL_up, ea, ec1, ec2, o_ixn (j := q) (n := 10) (by omega), o_tnn (j := q) (by omega), o_ixn (j := q + 1) (n := 10) (by omega), o_tnn (j := q + 1) (by omega), o_ixn (j := i) (n := 10) (by omega), o_tnn (j := i) (by omega), o_ixn (j := ω q) (n := 10) (by omega), o_tnn (j := ω q) (by omega), o_lt (a := κ i) (b := κ (ω q)) (by omega), eq_true hx, es]
      exact ih (by omega) (fun k h3 h4 => by
        by_cases hk : k = q
        · rw [hk]; exact hx
        · exact h2 k (by omega) h4)
    · simp only [w31_13, w31_16, w31_17, w31_20, w31_21, w31_24, w31_25, w31_26, w31_27, w31_28, w31_29, w31_32, w31_33, w31_36, w31_37, w31_38, w31_41, kn_s, kn_n, zh_mk, zR_mk, zI_mk, zL_mk, zD_mk, wI_mk, wL_mk, wD_mk, zT_mk, zC_mk, kill_i, kill_r, kill_0, kill_n, kill_l, kill_q, zzk_r, zzk_0, zzk_q, zcat_r, zcat_i, zcat_0, zcat_q, cats_0, cats_i, cats_r, cats_l, cats_d, cats_f, cats_q, cats_n, rv_s, rv_0, Nat.reduceAdd, Nat.reduceLeDiff, Nat.reduceEqDiff, Nat.add_zero, Nat.reduceMul, Nat.reduceSub, ne_eq, not_false_eq_true, not_true_eq_false, and_self, and_true, true_and, or_self, or_true, true_or, or_false, false_or, if_true, if_false, reduceIte, reduceCtorEq, implies_true, ite_self, ite_not, lay_in, lay_0, up2_lay, up2_lay0, kh0, kh1, kh2, kh3, kh4, kh5, kh6, kh7, kh8, kh9, kh10, kh11, kh12, khB, khP, kr2, kr4, kr5, kr7, kr8, kr9, kr10, krB, krP, krG0, krG1, krG2, krG3, krK, Nat.reduceLT, o_add, o_sub, o_mul, o_neg, q_add, q_sub, q_mul, q_neg, o_32, cast_s, Int.toNat_natCast, hb, i10, w10, show i + 13 < 27 by omega, show ω q + 13 < 27 by omega, o_lt (a := 0) (b := ((q + 1 : Nat) : Int)) (by omega), g, e1, e2, oL_at, oL_up, ea, ec1, ec2, o_ixn (j := q) (n := 10) (by omega), o_tnn (j := q) (by omega), o_ixn (j := q + 1) (n := 10) (by omega), o_tnn (j := q + 1) (by omega), o_ixn (j := i) (n := 10) (by omega), o_tnn (j := i) (by omega), o_ixn (j := ω q) (n := 10) (by omega), o_tnn (j := ω q) (by omega), o_lt (a := κ i) (b := κ (ω q)) (by omega), eq_false hx]
      have hne : κ (ω q) ≠ κ i := fun e => by have := hd (ω q) i (by omega) hi e; omega
      refine fin (q + 1) hq h2 (fun k hk => ?_)
      by_cases hk2 : k = q
      · rw [hk2]; omega
      · have := hS.2.1 k q (by omega) (by omega)
        omega
theorem c31_2 (hb : LB b) (hn : n ≤ 10) (en : ℓ 0 3 = Int32.ofInt (n : Int)) (ec : ∀ i, i < n → ℓ (i + 13) 1 = Int32.ofInt (κ i) ∧ -2147483648 ≤ κ i ∧ κ i < 2147483648) (hd : ∀ i j, i < n → j < n → κ i = κ j → i = j) (hQ : ∀ (ω : Nat → Nat) (p : Nat → Int32), SO κ n ω → (∀ k, k < n → p k = Int32.ofInt (ω k : Int)) → Q (.inl none) (mk N t w (lay b (oL 2 ℓ p) I) L D)) : ∀ (r i : Nat) (ω : Nat → Nat) (p : Nat → Int32) (u2 : Option Value), i + r = n → SO κ i ω → (∀ k, k < i → p k = Int32.ofInt (ω k : Int)) → Wp d 31 2 [some (.ref b), some (.int (Int32.ofInt (i : Int))), u2] [] (mk N t w (lay b (oL 2 ℓ p) I) L D) Q := by
  intro r
  induction r with
  | zero =>
    intro i ω p u2 hi hS hp
    obtain rfl : i = n := by omega
    have g : ¬ ((i : Int) < i) := by omega
    rw [w31_2]
    simp only [w31_3, w31_4, w31_7, w31_77, kn_s, kn_n, zh_mk, zR_mk, zI_mk, zL_mk, zD_mk, wI_mk, wL_mk, wD_mk, zT_mk, zC_mk, kill_i, kill_r, kill_0, kill_n, kill_l, kill_q, zzk_r, zzk_0, zzk_q, zcat_r, zcat_i, zcat_0, zcat_q, cats_0, cats_i, cats_r, cats_l, cats_d, cats_f, cats_q, cats_n, rv_s, rv_0, Nat.reduceAdd, Nat.reduceLeDiff, Nat.reduceEqDiff, Nat.add_zero, Nat.reduceMul, Nat.reduceSub, ne_eq, not_false_eq_true, not_true_eq_false, and_self, and_true, true_and, or_self, or_true, true_or, or_false, false_or, if_true, if_false, reduceIte, reduceCtorEq, implies_true, ite_self, ite_not, lay_in, lay_0, up2_lay, up2_lay0, kh0, kh1, kh2, kh3, kh4, kh5, kh6, kh7, kh8, kh9, kh10, kh11, kh12, khB, khP, kr2, kr4, kr5, kr7, kr8, kr9, kr10, krB, krP, krG0, krG1, krG2, krG3, krK, Nat.reduceLT, o_add, o_sub, o_mul, o_neg, q_add, q_sub, q_mul, q_neg, o_32, cast_s, Int.toNat_natCast, hb, oL_ne (show (0 : Nat) ≠ 2 by omega), en, o_lt (a := (i : Int)) (b := (i : Int)) (by omega), g]
    exact hQ ω p hS hp
  | succ r ih =>
    intro i ω p u2 hi hS hp
    have g : (i : Int) < n := by omega
    have l := c31_12 (d := d) (N := N) (t := t) (w := w) (I := I) (L := L) (D := D) (Q := Q) (p := p) hb hn en ec hd (show i < n by omega) hS hp (fun ω' p' u2 h1 h2 => ih (i + 1) ω' p' u2 (by omega) h1 h2) i (Nat.le_refl i) (fun k h1 h2 => by omega)
    rw [pMv_i] at l
    rw [w31_2]
    simp only [w31_3, w31_4, w31_7, w31_10, w31_11, kn_s, kn_n, zh_mk, zR_mk, zI_mk, zL_mk, zD_mk, wI_mk, wL_mk, wD_mk, zT_mk, zC_mk, kill_i, kill_r, kill_0, kill_n, kill_l, kill_q, zzk_r, zzk_0, zzk_q, zcat_r, zcat_i, zcat_0, zcat_q, cats_0, cats_i, cats_r, cats_l, cats_d, cats_f, cats_q, cats_n, rv_s, rv_0, Nat.reduceAdd, Nat.reduceLeDiff, Nat.reduceEqDiff, Nat.add_zero, Nat.reduceMul, Nat.reduceSub, ne_eq, not_false_eq_true, not_true_eq_false, and_self, and_true, true_and, or_self, or_true, true_or, or_false, false_or, if_true, if_false, reduceIte, reduceCtorEq, implies_true, ite_self, ite_not, lay_in, lay_0, up2_lay, up2_lay0, kh0, kh1, kh2, kh3, kh4, kh5, kh6, kh7, kh8, kh9, kh10, kh11, kh12, khB, khP, kr2, kr4, kr5, kr7, kr8, kr9, kr10, krB, krP, krG0, krG1, krG2, krG3, krK, Nat.reduceLT, o_add, o_sub, o_mul, o_neg, q_add, q_sub, q_mul, q_neg, o_32, cast_s, Int.toNat_natCast, hb, oL_ne (show (0 : Nat) ≠ 2 by omega), en, o_lt (a := (i : Int)) (b := (n : Int)) (by omega), g]
    exact l
theorem c31 (hb : LB b) (hn : n ≤ 10) (en : ℓ 0 3 = Int32.ofInt (n : Int)) (ec : ∀ i, i < n → ℓ (i + 13) 1 = Int32.ofInt (κ i) ∧ -2147483648 ≤ κ i ∧ κ i < 2147483648) (hd : ∀ i j, i < n → j < n → κ i = κ j → i = j) (hQ : ∀ (ω : Nat → Nat) (p : Nat → Int32), SO κ n ω → (∀ k, k < n → p k = Int32.ofInt (ω k : Int)) → Q (.inl none) (mk N t w (lay b (oL 2 ℓ p) I) L D)) : Wp d 31 0 [some (.ref b), none, none] [] (mk N t w (lay b ℓ I) L D) Q := by
  have l := c31_2 (d := d) (N := N) (t := t) (w := w) (I := I) (L := L) (D := D) (Q := Q) hb hn en ec hd hQ n 0 (fun k => k) (ℓ 2) none (by omega) ⟨fun p h => by omega, fun p q h1 h2 => by omega, fun j h => by omega⟩ (fun k h => by omega)
  rw [oL_self] at l
  simp only [w31_0, w31_1, kn_s, kn_n, zh_mk, zR_mk, zI_mk, zL_mk, zD_mk, wI_mk, wL_mk, wD_mk, zT_mk, zC_mk, kill_i, kill_r, kill_0, kill_n, kill_l, kill_q, zzk_r, zzk_0, zzk_q, zcat_r, zcat_i, zcat_0, zcat_q, cats_0, cats_i, cats_r, cats_l, cats_d, cats_f, cats_q, cats_n, rv_s, rv_0, Nat.reduceAdd, Nat.reduceLeDiff, Nat.reduceEqDiff, Nat.add_zero, Nat.reduceMul, Nat.reduceSub, ne_eq, not_false_eq_true, not_true_eq_false, and_self, and_true, true_and, or_self, or_true, true_or, or_false, false_or, if_true, if_false, reduceIte, reduceCtorEq, implies_true, ite_self, ite_not]
  exact l
/-- the relation with a new order -/
theorem RL_o (h : RL ℓ μ α n m o) {ω : Nat → Nat} {p : Nat → Int32} (hp : ∀ k, k < n → p k = Int32.ofInt (ω k : Int)) : RL (oL 2 ℓ p) μ α n m ω := by
  obtain ⟨g1, ⟨g2, g3⟩, g4, g7, nx, g8, g9, g10, g11⟩ := h
  refine ⟨fun k hk => ?_, ⟨by rw [oL_ne (by omega)]; exact g2, by rw [oL_ne (by omega)]; exact g3⟩, g4, fun k hk => by rw [oL_at]; exact hp k hk, nx, g8, by rw [oL_ne (by omega)]; exact g9, by rw [oL_ne (by omega)]; exact g10, fun k h1 h2 c hc => by rw [oL_ne (by omega)]; exact g11 k h1 h2 c hc⟩
  have := mo_rng hk
  rw [oL_ne (by omega)]
  exact g1 k hk
/-- the row in a new order -/
theorem GA_o (hB : GB α n) (hP : GP α m) (hZ : (0 ≤ α 8 ∧ α 8 ≤ 100) ∧ (0 ≤ α 9 ∧ α 9 ≤ 100) ∧ (0 ≤ α 4 ∧ α 4 ≤ 40)) {ω : Nat → Nat} (hS : SO (fun i => α (B9 i 0)) n ω) (hN : ∀ i, i < n → ∀ p, p < m → α (B9 i 0) ≠ α (P3 p 0)) : GA α n m ω := ⟨hB, hP, hZ, hS.1, hS.2.1, hS.2.2, hN⟩
/-! a ball more: of the class -/
def bgn (ℓ : Nat → Nat → Int32) (i : Nat) (nm c s g : Int32) : Nat → Nat → Int32 := up2 (up2 (up2 (up2 (up2 (up2 (up2 (up2 (up2 ℓ i 0 nm) i 1 c) i 2 s) i 3 g) i 4 (Int32.ofInt 0)) i 5 (Int32.ofInt 0)) i 6 (Int32.ofInt 0)) i 7 (Int32.ofInt 0)) i 8 (Int32.ofInt 0)
theorem c1 {a : Nat} (h : KH N a = (1, 0)) {nm c s g : Int32} : Wp d 1 0 [some (.ref a), some (.int nm), some (.int c), some (.int s), some (.int g)] [] (mk N t w I L D) Q = Q (.inl none) (mk N t w (bgn I a nm c s g) L D) := by
  simp only [w1_0, w1_1, w1_2, w1_5, w1_6, w1_7, w1_10, w1_11, w1_12, w1_15, w1_16, w1_18, w1_21, w1_22, w1_23, w1_26, w1_27, w1_28, w1_31, w1_32, w1_33, w1_36, w1_37, w1_38, w1_41, w1_42, w1_43, w1_46, kn_s, kn_n, zh_mk, zR_mk, zI_mk, zL_mk, zD_mk, wI_mk, wL_mk, wD_mk, zT_mk, zC_mk, kill_i, kill_r, kill_0, kill_n, kill_l, kill_q, zzk_r, zzk_0, zzk_q, zcat_r, zcat_i, zcat_0, zcat_q, cats_0, cats_i, cats_r, cats_l, cats_d, cats_f, cats_q, cats_n, rv_s, rv_0, Nat.reduceAdd, Nat.reduceLeDiff, Nat.reduceEqDiff, Nat.add_zero, Nat.reduceMul, Nat.reduceSub, ne_eq, not_false_eq_true, not_true_eq_false, and_self, and_true, true_and, or_self, or_true, true_or, or_false, false_or, if_true, if_false, reduceIte, reduceCtorEq, implies_true, ite_self, ite_not, h, bgn]
theorem bgn_lay {q : Nat} {nm c s g : Int32} (hq : q < 27) : bgn (lay b ℓ I) (b + q) nm c s g = lay b (bgn ℓ q nm c s g) I := by
  unfold bgn
  rw [up2_lay hq, up2_lay hq, up2_lay hq, up2_lay hq, up2_lay hq, up2_lay hq, up2_lay hq, up2_lay hq, up2_lay hq]
theorem bgn_ne {i a k : Nat} {nm c s g : Int32} (h : a ≠ i) : bgn ℓ i nm c s g a k = ℓ a k := by
  unfold bgn
  rw [u2_ne (Or.inl h), u2_ne (Or.inl h), u2_ne (Or.inl h), u2_ne (Or.inl h), u2_ne (Or.inl h), u2_ne (Or.inl h), u2_ne (Or.inl h), u2_ne (Or.inl h), u2_ne (Or.inl h)]
theorem bgn_at {i k : Nat} {nm c s g : Int32} (hk : k < 9) : bgn ℓ i nm c s g i k = (if k = 0 then nm else if k = 1 then c else if k = 2 then s else if k = 3 then g else Int32.ofInt 0) := by
  have : k = 0 ∨ k = 1 ∨ k = 2 ∨ k = 3 ∨ k = 4 ∨ k = 5 ∨ k = 6 ∨ k = 7 ∨ k = 8 := by omega
  unfold bgn
  rcases this with rfl | rfl | rfl | rfl | rfl | rfl | rfl | rfl | rfl <;> simp [up2]
/-! a ball more: of the reference -/
def z9 (α : Nat → Int) (n : Nat) : Nat → (Nat → Int)
  | 0 => α
  | i + 1 => up1 (z9 α n i) (B9 n i) 0
theorem z9_ne {k : Nat} : ∀ i : Nat, i ≤ 9 → (k < 28 + 9 * n ∨ 37 + 9 * n ≤ k) → z9 α n i k = α k
  | 0, _, _ => rfl
  | i + 1, hi, h => by
    show up1 (z9 α n i) (B9 n i) 0 k = _
    rw [up1_ne (by unfold B9; omega)]
    exact z9_ne i (by omega) h
theorem z9_at {k : Nat} : ∀ i : Nat, k < i → z9 α n i (B9 n k) = 0
  | 0, h => by omega
  | i + 1, h => by
    show up1 (z9 α n i) (B9 n i) 0 (B9 n k) = 0
    by_cases e : k = i
    · rw [e, up1_eq']
    · rw [up1_ne (by unfold B9; omega)]
      exact z9_at i (by omega)
def bdA (α : Nat → Int) (n : Nat) (c s g nm : Int) : Nat → Int := up1 (up1 (up1 (up1 (z9 (up1 α 1 (α 1 + 1)) n 9) (B9 n 0) c) (B9 n 1) s) (B9 n 2) g) (B9 n 8) nm
theorem bdA_ne {c s g nm : Int} {k : Nat} (h : k ≠ 1 ∧ (k < 28 + 9 * n ∨ 37 + 9 * n ≤ k)) : bdA α n c s g nm k = α k := by
  unfold bdA
  rw [up1_ne (by unfold B9; omega), up1_ne (by unfold B9; omega), up1_ne (by unfold B9; omega), up1_ne (by unfold B9; omega), z9_ne 9 (by omega) h.2, up1_ne h.1]
theorem bdA_1 {c s g nm : Int} : bdA α n c s g nm 1 = α 1 + 1 := by
  unfold bdA
  rw [up1_ne (by unfold B9; omega), up1_ne (by unfold B9; omega), up1_ne (by unfold B9; omega), up1_ne (by unfold B9; omega), z9_ne 9 (by omega) (by omega), up1_eq']
theorem bdA_at {c s g nm : Int} {k : Nat} (hk : k < 9) : bdA α n c s g nm (B9 n k) = (if k = 0 then c else if k = 1 then s else if k = 2 then g else if k = 8 then nm else 0) := by
  unfold bdA
  by_cases h8 : k = 8
  · subst h8; rw [up1_eq']; rfl
  · rw [up1_ne (by unfold B9; omega)]
    by_cases h2 : k = 2
    · subst h2; rw [up1_eq']; rfl
    · rw [up1_ne (by unfold B9; omega)]
      by_cases h1 : k = 1
      · subst h1; rw [up1_eq']; rfl
      · rw [up1_ne (by unfold B9; omega)]
        by_cases h0 : k = 0
        · subst h0; rw [up1_eq']; rfl
        · rw [up1_ne (by unfold B9; omega), z9_at 9 hk, if_neg h0, if_neg h1, if_neg h2, if_neg h8]
/-! a ball more: both -/
/-- a ball may come to a free cell -/
theorem GB_add (hG : GA α n m o) (hn : n < 10) {c s g nm : Int} (hF : isF α n m c) (hs : -60 ≤ s ∧ s ≤ 60) (hg : 1 ≤ g ∧ g ≤ 20) : GB (bdA α n c s g nm) (n + 1) ∧ GP (bdA α n c s g nm) m ∧ ((0 ≤ bdA α n c s g nm 8 ∧ bdA α n c s g nm 8 ≤ 100) ∧ (0 ≤ bdA α n c s g nm 9 ∧ bdA α n c s g nm 9 ≤ 100) ∧ (0 ≤ bdA α n c s g nm 4 ∧ bdA α n c s g nm 4 ≤ 40)) ∧ (∀ i, i < n + 1 → ∀ p, p < m → bdA α n c s g nm (B9 i 0) ≠ bdA α n c s g nm (P3 p 0)) ∧ (∀ i j, i < n + 1 → j < n + 1 → bdA α n c s g nm (B9 i 0) = bdA α n c s g nm (B9 j 0) → i = j) := by
  have m4 := hG.2.1.1
  have hF1 := hF.1
  unfold isC at hF1
  have z : ∀ k, k < 28 → k ≠ 1 → bdA α n c s g nm k = α k := fun k h1 h2 => bdA_ne (by omega)
  have old : ∀ i k, i < n → k < 9 → bdA α n c s g nm (B9 i k) = α (B9 i k) := fun i k h1 h2 => bdA_ne (by unfold B9; omega)
  have post : ∀ p k, p < m → k < 3 → bdA α n c s g nm (P3 p k) = α (P3 p k) := fun p k h1 h2 => bdA_ne (by unfold P3; omega)
  have bf := bAt_ne hF.2.1
  have pf := pAt_ne hF.2.2
  have n0 : bdA α n c s g nm (B9 n 0) = c := by rw [bdA_at (by omega)]; rfl
  have n1 : bdA α n c s g nm (B9 n 1) = s := by rw [bdA_at (by omega)]; rfl
  have n2 : bdA α n c s g nm (B9 n 2) = g := by rw [bdA_at (by omega)]; rfl
  have n3 : bdA α n c s g nm (B9 n 3) = 0 := by rw [bdA_at (by omega)]; rfl
  refine ⟨⟨by omega, ?_, by rw [z 0 (by omega) (by omega)]; exact hG.1.2.2.1, by rw [z 0 (by omega) (by omega)]; exact hG.1.2.2.2.1, fun i hi => ?_⟩, ⟨m4, by rw [z 2 (by omega) (by omega)]; exact hG.2.1.2.1, fun p hp => ?_⟩, ⟨by rw [z 8 (by omega) (by omega)]; exact hG.2.2.1.1, by rw [z 9 (by omega) (by omega)]; exact hG.2.2.1.2.1, by rw [z 4 (by omega) (by omega)]; exact hG.2.2.1.2.2⟩, fun i hi p hp => ?_, fun i j hi hj e => ?_⟩
  · rw [bdA_1, hG.1.2.1]; rfl
  · rw [z 0 (by omega) (by omega)]
    by_cases e : i = n
    · rw [e, n0, n1, n2, n3]; omega
    · rw [old i 0 (by omega) (by omega), old i 1 (by omega) (by omega), old i 2 (by omega) (by omega), old i 3 (by omega) (by omega)]
      exact hG.1.2.2.2.2 i (by omega)
  · rw [z 0 (by omega) (by omega), post p 0 hp (by omega), post p 1 hp (by omega)]
    exact hG.2.1.2.2 p hp
  · rw [post p 0 hp (by omega)]
    by_cases e : i = n
    · rw [e, n0]; exact fun h => pf p hp h.symm
    · rw [old i 0 (by omega) (by omega)]; exact hG.2.2.2.2.2.2 i (by omega) p hp
  · by_cases ei : i = n
    · by_cases ej : j = n
      · omega
      · rw [ei, n0, old j 0 (by omega) (by omega)] at e
        exact absurd e.symm (bf j (by omega))
    · by_cases ej : j = n
      · rw [ej, n0, old i 0 (by omega) (by omega)] at e
        exact absurd e (bf i (by omega))
      · rw [old i 0 (by omega) (by omega), old j 0 (by omega) (by omega)] at e
        exact cell_inj hG (by omega) (by omega) e
theorem RL_add (h : RL ℓ μ α n m o) (hn : n < 10) (h1 : α 1 = (n : Int)) {c s g nm : Int} {o' : Nat → Nat} {p : Nat → Int32} (hp : ∀ k, k < n + 1 → p k = Int32.ofInt (o' k : Int)) : RL (oL 2 (up2 (bgn ℓ (n + 13) (Int32.ofInt nm) (Int32.ofInt c) (Int32.ofInt s) (Int32.ofInt g)) 0 3 (Int32.ofInt ((n + 1 : Nat) : Int))) p) μ (bdA α n c s g nm) (n + 1) m o' := by
  obtain ⟨g1, ⟨g2, g3⟩, ⟨g4, g5, g6⟩, g7, nx, g8, g9, g10, g11⟩ := h
  have far : ∀ a k, a ≠ 2 → a ≠ n + 13 → (a ≠ 0 ∨ k ≠ 3) → oL 2 (up2 (bgn ℓ (n + 13) (Int32.ofInt nm) (Int32.ofInt c) (Int32.ofInt s) (Int32.ofInt g)) 0 3 (Int32.ofInt ((n + 1 : Nat) : Int))) p a k = ℓ a k := by
    intro a k q1 q2 q3
    rw [oL_ne q1, u2_ne q3, bgn_ne q2]
  have z : ∀ k, k < 28 → k ≠ 1 → bdA α n c s g nm k = α k := fun k h1 h2 => bdA_ne (by omega)
  refine ⟨fun k hk => ?_, ⟨?_, ?_⟩, ⟨by rw [z 5 (by omega) (by omega)]; exact g4, by rw [z 6 (by omega) (by omega)]; exact g5, by rw [z 7 (by omega) (by omega)]; exact g6⟩, fun k hk => by rw [oL_at]; exact hp k hk, nx, g8, by rw [far _ _ (by omega) (by omega) (by omega)]; exact g9, by rw [far _ _ (by omega) (by omega) (by omega), z 4 (by omega) (by omega)]; exact g10, fun k q1 q2 c' hc' => ?_⟩
  · by_cases hb : 28 + 9 * n ≤ k ∧ k < 37 + 9 * n
    · have ek : k = B9 n (k - 28 - 9 * n) := by unfold B9; omega
      rw [ek, bdA_at (by omega), mo_B hn (by omega), oL_ne (by omega), u2_ne (by omega)]
      by_cases h8 : k - 28 - 9 * n = 8
      · rw [h8, mq_B8 hn, bgn_at (by omega)]
        rfl
      · rw [mq_B hn (by omega), bgn_at (by omega)]
        have : k - 28 - 9 * n = 0 ∨ k - 28 - 9 * n = 1 ∨ k - 28 - 9 * n = 2 ∨ k - 28 - 9 * n = 3 ∨ k - 28 - 9 * n = 4 ∨ k - 28 - 9 * n = 5 ∨ k - 28 - 9 * n = 6 ∨ k - 28 - 9 * n = 7 := by omega
        rcases this with e | e | e | e | e | e | e | e <;> rw [e] <;> rfl
    · have hk' : kd n m k := by unfold kd at hk ⊢; omega
      rw [bdA_ne (by unfold kd at hk'; omega)]
      have hr := mo_rng hk'
      rw [far _ _ (by omega) (by
        have := mo_rng hk'
        intro e
        have e2 : k = mv (n + 13) (mq k) := by rw [← e]; exact (mv_ok hk').symm
        have hq9 : mq k ≤ 8 := by omega
        unfold mv at e2
        rw [if_neg (by omega), if_neg (by omega), if_neg (by omega), if_neg (by omega), if_neg (by omega), if_pos (by omega)] at e2
        split at e2 <;> omega) (by omega)]
      exact g1 k hk'
  · rw [oL_ne (by omega), u2_same]
  · rw [far _ _ (by omega) (by omega) (by omega)]; exact g3
  · have hj : (nx + 39 - k) % 40 < 40 := Nat.mod_lt _ (by omega)
    rw [z 4 (by omega) (by omega)] at q1
    rw [far _ _ (by omega) (by omega) (by omega), bdA_ne (by omega)]
    exact g11 k q1 q2 c' hc'
theorem c30 (hb : LB b) (hR : RL ℓ μ α n m o) (hG : GA α n m o) (hn : n < 10) {c s g nm : Int} (hF : isF α n m c) (hs : -60 ≤ s ∧ s ≤ 60) (hg : 1 ≤ g ∧ g ≤ 20) (hQ : ∀ (ℓ' : Nat → Nat → Int32) (o' : Nat → Nat), RL ℓ' μ (bdA α n c s g nm) (n + 1) m o' → GA (bdA α n c s g nm) (n + 1) m o' → Q (.inl none) (mk N t w (lay b ℓ' I) L D)) : Wp (d + 1) 30 0 [some (.ref b), some (.int (Int32.ofInt nm)), some (.int (Int32.ofInt c)), some (.int (Int32.ofInt s)), some (.int (Int32.ofInt g))] [] (mk N t w (lay b ℓ I) L D) Q := by
  have g1 : (n : Int) < 10 := by omega
  have en := rd_n hR
  have i27 : n + 13 < 27 := by omega
  have hA := GB_add (nm := nm) hG hn hF hs hg
  have hr0 : bgn ℓ (n + 13) (Int32.ofInt nm) (Int32.ofInt c) (Int32.ofInt s) (Int32.ofInt g) 0 3 = Int32.ofInt (n : Int) := by rw [bgn_ne (by omega)]; exact en
  simp only [w30_0, w30_1, w30_4, w30_6, w30_9, w30_10, w30_13, w30_14, w30_17, w30_18, w30_19, w30_20, w30_21, w30_23, w30_26, w30_27, w30_28, w30_31, w30_32, w30_33, w30_36, w30_37, kn_s, kn_n, zh_mk, zR_mk, zI_mk, zL_mk, zD_mk, wI_mk, wL_mk, wD_mk, zT_mk, zC_mk, kill_i, kill_r, kill_0, kill_n, kill_l, kill_q, zzk_r, zzk_0, zzk_q, zcat_r, zcat_i, zcat_0, zcat_q, cats_0, cats_i, cats_r, cats_l, cats_d, cats_f, cats_q, cats_n, rv_s, rv_0, Nat.reduceAdd, Nat.reduceLeDiff, Nat.reduceEqDiff, Nat.add_zero, Nat.reduceMul, Nat.reduceSub, ne_eq, not_false_eq_true, not_true_eq_false, and_self, and_true, true_and, or_self, or_true, true_or, or_false, false_or, if_true, if_false, reduceIte, reduceCtorEq, implies_true, ite_self, ite_not, lay_in, lay_0, up2_lay, up2_lay0, kh0, kh1, kh2, kh3, kh4, kh5, kh6, kh7, kh8, kh9, kh10, kh11, kh12, khB, khP, kr2, kr4, kr5, kr7, kr8, kr9, kr10, krB, krP, krG0, krG1, krG2, krG3, krK, Nat.reduceLT, o_add, o_sub, o_mul, o_neg, q_add, q_sub, q_mul, q_neg, o_32, cast_s, Int.toNat_natCast, hb, hn, en, g1, o_lt (a := (n : Int)) (b := 10) (by omega), o_ixn (j := n) (n := 10) (by omega), o_tnn (j := n) (by omega), c1 (khB (N := N) hb hn), bgn_lay i27, hr0, cast_s]
  refine c31 (n := n + 1) (κ := fun i => bdA α n c s g nm (B9 i 0)) hb (by omega) u2_same (fun i hi => ?_) hA.2.2.2.2 (fun ω p hS hp => ?_)
  · have hb0 := hA.1.2.2.2.2 i hi
    have h00 := hA.1.2.2.2.1
    refine ⟨?_, by omega, by omega⟩
    rw [u2_ne (by omega)]
    by_cases e : i = n
    · subst e
      rw [bgn_at (by omega), bdA_at (by omega)]
      rfl
    · rw [bgn_ne (by omega), bdA_ne (by unfold B9; omega)]
      exact rd_c hR hG (by omega)
  · simp only [w30_40, kn_s, kn_n, zh_mk, zR_mk, zI_mk, zL_mk, zD_mk, wI_mk, wL_mk, wD_mk, zT_mk, zC_mk, kill_i, kill_r, kill_0, kill_n, kill_l, kill_q, zzk_r, zzk_0, zzk_q, zcat_r, zcat_i, zcat_0, zcat_q, cats_0, cats_i, cats_r, cats_l, cats_d, cats_f, cats_q, cats_n, rv_s, rv_0, Nat.reduceAdd, Nat.reduceLeDiff, Nat.reduceEqDiff, Nat.add_zero, Nat.reduceMul, Nat.reduceSub, ne_eq, not_false_eq_true, not_true_eq_false, and_self, and_true, true_and, or_self, or_true, true_or, or_false, false_or, if_true, if_false, reduceIte, reduceCtorEq, implies_true, ite_self, ite_not]
    exact hQ _ ω (RL_add hR hn hG.1.2.1 hp) (GA_o hA.1 hA.2.1 hA.2.2.1 hS hA.2.2.2.1)
end S69
