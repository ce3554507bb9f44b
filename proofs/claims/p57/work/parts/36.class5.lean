/-! CONTRACTS of the class's line: a turn -/
/-- in order, the ball beside is the next one -/
theorem adjR {α : Nat → Int} {n m p j : Nat} {o : Nat → Nat} (h : GA α n m o) (hp : p < n) (hj : j < n) (hc : α (B9 j 0) = α (B9 (o p) 0) + 1) : p + 1 < n ∧ o (p + 1) = j := by
  obtain ⟨-, -, -, d1, d2, d3, -⟩ := h
  obtain ⟨q, hq, rfl⟩ := d3 j hj
  have h1 : p < q := by
    rcases Nat.lt_or_ge p q with h | h
    · exact h
    · rcases Nat.lt_or_ge q p with h' | h'
      · have := d2 q p h' hp
        omega
      · have : p = q := by omega
        subst this
        omega
  by_cases h2 : q = p + 1
  · subst h2
    exact ⟨hq, rfl⟩
  · have g1 := d2 p (p + 1) (by omega) (by omega)
    have g2 := d2 (p + 1) q (by omega) hq
    omega
theorem adjL {α : Nat → Int} {n m p j : Nat} {o : Nat → Nat} (h : GA α n m o) (hp : p < n) (hj : j < n) (hc : α (B9 j 0) = α (B9 (o p) 0) - 1) : 1 ≤ p ∧ o (p - 1) = j := by
  obtain ⟨-, -, -, d1, d2, d3, -⟩ := h
  obtain ⟨q, hq, rfl⟩ := d3 j hj
  have h1 : q < p := by
    rcases Nat.lt_or_ge q p with h | h
    · exact h
    · rcases Nat.lt_or_ge p q with h' | h'
      · have := d2 p q h' hq
        omega
      · have : p = q := by omega
        subst this
        omega
  by_cases h2 : q = p - 1
  · subst h2
    exact ⟨by omega, rfl⟩
  · have g1 := d2 (p - 1) p (by omega) hp
    have g2 := d2 q (p - 1) (by omega) (by omega)
    omega
theorem cell_inj {α : Nat → Int} {n m i j : Nat} {o : Nat → Nat} (h : GA α n m o) (hi : i < n) (hj : j < n) (hc : α (B9 i 0) = α (B9 j 0)) : i = j := by
  obtain ⟨-, -, -, d1, d2, d3, -⟩ := h
  obtain ⟨p, hp, rfl⟩ := d3 i hi
  obtain ⟨q, hq, rfl⟩ := d3 j hj
  rcases Nat.lt_trichotomy p q with h | h | h
  · have := d2 p q h hq
    omega
  · rw [h]
  · have := d2 q p h hp
    omega
theorem bAt_of {α : Nat → Int} {n m j : Nat} {o : Nat → Nat} (h : GA α n m o) (hj : j < n) : bAt α n (α (B9 j 0)) = (j : Int) := by
  have h1 : bAt α n (α (B9 j 0)) ≠ -1 := fun e => bAt_ne e j hj rfl
  obtain ⟨i, e1, e2, e3⟩ := bAt_some h1
  rw [e1, cell_inj h e2 hj e3]
/-- the wall or post at c -/
def brV (b : Nat) (α : Nat → Int) (m : Nat) (c : Int) : Value := if c < 0 then .ref (b + 4) else if α 0 ≤ c then .ref (b + 5) else if pAt α m c = -1 then .null else .ref (b + ((pAt α m c).toNat + 23))
section S36
variable {N : NX} {w : WX} {d t a a2 b n m : Nat} {I ℓ : Nat → Nat → Int32} {L μ : Nat → Nat → Int64} {D : Nat → Nat → UInt64} {Q : Rs → St → Prop} {x : Tn} {o : Nat → Nat} {ds : Nat → Int} {α : Nat → Int}
theorem c26_24 (hb : LB b) (hm : m ≤ 4) (e6 : ℓ 0 6 = Int32.ofInt (m : Int)) (eP : ∀ p, p < m → ℓ (p + 23) 0 = Int32.ofInt (α (P3 p 0)) ∧ -2147483648 ≤ α (P3 p 0) ∧ α (P3 p 0) < 2147483648) {c : Int} (hc : -2147483648 ≤ c ∧ c < 2147483648) : ∀ r i, i + r = m → Wp d 26 24 [some (.ref b), some (.int (Int32.ofInt c)), some (.int (Int32.ofInt (i : Int)))] [] (mk N t w (lay b ℓ I) L D) Q = Q (.inl (some (if pFind (fun p => α (P3 p 0)) c r i = -1 then .null else .ref (b + ((pFind (fun p => α (P3 p 0)) c r i).toNat + 23))))) (mk N t w (lay b ℓ I) L D) := by
  intro r
  induction r with
  | zero =>
    intro i hi
    have g : ¬ ((i : Int) < m) := by omega
    simp only [w26_0, w26_1, w26_4, w26_5, w26_8, w26_8n, w26_9, w26_10, w26_11, w26_14, w26_17, w26_18, w26_21, w26_21n, w26_22, w26_23, w26_24, w26_25, w26_26, w26_29, w26_32, w26_33, w26_36, w26_37, w26_38, w26_41, w26_42, w26_45, w26_46, w26_49, w26_50, w26_51, w26_51n, w26_52, w26_55, w26_58, w26_59, w26_59n, kn_s, kn_n, zh_mk, zR_mk, zI_mk, zL_mk, zD_mk, wI_mk, wL_mk, wD_mk, zT_mk, zC_mk, kill_i, kill_r, kill_0, kill_n, kill_l, kill_q, zzk_r, zzk_0, zzk_q, zcat_r, zcat_i, zcat_0, zcat_q, cats_0, cats_i, cats_r, cats_l, cats_d, cats_f, cats_q, cats_n, rv_s, rv_0, Nat.reduceAdd, Nat.reduceLeDiff, Nat.reduceEqDiff, Nat.add_zero, Nat.reduceMul, Nat.reduceSub, ne_eq, not_false_eq_true, not_true_eq_false, and_self, and_true, true_and, or_self, or_true, true_or, or_false, false_or, if_true, if_false, reduceIte, reduceCtorEq, implies_true, ite_self, ite_not, lay_in, lay_0, up2_lay, up2_lay0, kh0, kh1, kh2, kh3, kh4, kh5, kh6, kh7, kh8, kh9, kh10, kh11, kh12, khB, khP, kr2, kr4, kr5, kr7, kr8, kr9, kr10, krB, krP, krG0, krG1, krG2, krG3, krK, Nat.reduceLT, o_add, o_sub, o_mul, o_neg, q_add, q_sub, q_mul, q_neg, o_32, cast_s, Int.toNat_natCast, hb, e6, o_lt (a := (i : Int)) (b := (m : Int)) (by omega), g, pFind_0]
  | succ r ih =>
    intro i hi
    have g : (i : Int) < m := by omega
    have hi4 : i < 4 := by omega
    have ep := eP i (by omega)
    have hi1 : ((i : Int) = -1) = False := by simp only [eq_iff_iff, iff_false]; omega
    rw [w26_24]
    by_cases hx : α (P3 i 0) = c
    · simp only [w26_0, w26_1, w26_4, w26_5, w26_8, w26_8n, w26_9, w26_10, w26_11, w26_14, w26_17, w26_18, w26_21, w26_21n, w26_22, w26_23, w26_25, w26_26, w26_29, w26_32, w26_33, w26_36, w26_37, w26_38, w26_41, w26_42, w26_45, w26_46, w26_49, w26_50, w26_51, w26_51n, w26_52, w26_55, w26_58, w26_59, w26_59n, kn_s, kn_n, zh_mk, zR_mk, zI_mk, zL_mk, zD_mk, wI_mk, wL_mk, wD_mk, zT_mk, zC_mk, kill_i, kill_r, kill_0, kill_n, kill_l, kill_q, zzk_r, zzk_0, zzk_q, zcat_r, zcat_i, zcat_0, zcat_q, cats_0, cats_i, cats_r, cats_l, cats_d, cats_f, cats_q, cats_n, rv_s, rv_0, Nat.reduceAdd, Nat.reduceLeDiff, Nat.reduceEqDiff, Nat.add_zero, Nat.reduceMul, Nat.reduceSub, ne_eq, not_false_eq_true, not_true_eq_false, and_self, and_true, true_and, or_self, or_true, true_or, or_false, false_or, if_true, if_false, reduceIte, reduceCtorEq, implies_true, ite_self, ite_not, lay_in, lay_0, up2_lay, up2_lay0, kh0, kh1, kh2, kh3, kh4, kh5, kh6, kh7, kh8, kh9, kh10, kh11, kh12, khB, khP, kr2, kr4, kr5, kr7, kr8, kr9, kr10, krB, krP, krG0, krG1, krG2, krG3, krK, Nat.reduceLT, o_add, o_sub, o_mul, o_neg, q_add, q_sub, q_mul, q_neg, o_32, cast_s, Int.toNat_natCast, hb, hi4, e6, ep.1, o_lt (a := (i : Int)) (b := (m : Int)) (by omega), g, show i + 23 < 27 by omega, o_ixn (j := i) (n := 4) (by omega), o_tnn (j := i) (by omega), o_eq (a := α (P3 i 0)) (b := c) (by omega), hx, pFind_s, hi1]
    · simp only [w26_0, w26_1, w26_4, w26_5, w26_8, w26_8n, w26_9, w26_10, w26_11, w26_14, w26_17, w26_18, w26_21, w26_21n, w26_22, w26_23, w26_25, w26_26, w26_29, w26_32, w26_33, w26_36, w26_37, w26_38, w26_41, w26_42, w26_45, w26_46, w26_49, w26_50, w26_51, w26_51n, w26_52, w26_55, w26_58, w26_59, w26_59n, kn_s, kn_n, zh_mk, zR_mk, zI_mk, zL_mk, zD_mk, wI_mk, wL_mk, wD_mk, zT_mk, zC_mk, kill_i, kill_r, kill_0, kill_n, kill_l, kill_q, zzk_r, zzk_0, zzk_q, zcat_r, zcat_i, zcat_0, zcat_q, cats_0, cats_i, cats_r, cats_l, cats_d, cats_f, cats_q, cats_n, rv_s, rv_0, Nat.reduceAdd, Nat.reduceLeDiff, Nat.reduceEqDiff, Nat.add_zero, Nat.reduceMul, Nat.reduceSub, ne_eq, not_false_eq_true, not_true_eq_false, and_self, and_true, true_and, or_self, or_true, true_or, or_false, false_or, if_true, if_false, reduceIte, reduceCtorEq, implies_true, ite_self, ite_not, lay_in, lay_0, up2_lay, up2_lay0, kh0, kh1, kh2, kh3, kh4, kh5, kh6, kh7, kh8, kh9, kh10, kh11, kh12, khB, khP, kr2, kr4, kr5, kr7, kr8, kr9, kr10, krB, krP, krG0, krG1, krG2, krG3, krK, Nat.reduceLT, o_add, o_sub, o_mul, o_neg, q_add, q_sub, q_mul, q_neg, o_32, cast_s, Int.toNat_natCast, hb, hi4, e6, ep.1, o_lt (a := (i : Int)) (b := (m : Int)) (by omega), g, show i + 23 < 27 by omega, o_ixn (j := i) (n := 4) (by omega), o_tnn (j := i) (by omega), o_eq (a := α (P3 i 0)) (b := c) (by omega), hx, pFind_s, ih (i + 1) (by omega)]
theorem c26 (hb : LB b) (hm : m ≤ 4) (e0 : ℓ 0 0 = Int32.ofInt (α 0)) (h0 : 10 ≤ α 0 ∧ α 0 ≤ 200) (e6 : ℓ 0 6 = Int32.ofInt (m : Int)) (eP : ∀ p, p < m → ℓ (p + 23) 0 = Int32.ofInt (α (P3 p 0)) ∧ -2147483648 ≤ α (P3 p 0) ∧ α (P3 p 0) < 2147483648) {c : Int} (hc : -2147483648 ≤ c ∧ c < 2147483648) : Wp d 26 0 [some (.ref b), some (.int (Int32.ofInt c)), none] [] (mk N t w (lay b ℓ I) L D) Q = Q (.inl (some (brV b α m c))) (mk N t w (lay b ℓ I) L D) := by
  have h24 := c26_24 (d := d) (N := N) (t := t) (w := w) (I := I) (L := L) (D := D) (Q := Q) hb hm e6 eP hc m 0 (by omega)
  unfold brV
  by_cases h1 : c < 0
  · simp only [w26_0, w26_1, w26_4, w26_5, w26_8, w26_8n, w26_9, w26_10, w26_11, w26_14, w26_17, w26_18, w26_21, w26_21n, w26_22, w26_23, w26_25, w26_26, w26_29, w26_32, w26_33, w26_36, w26_37, w26_38, w26_41, w26_42, w26_45, w26_46, w26_49, w26_50, w26_51, w26_51n, w26_52, w26_55, w26_58, w26_59, w26_59n, kn_s, kn_n, zh_mk, zR_mk, zI_mk, zL_mk, zD_mk, wI_mk, wL_mk, wD_mk, zT_mk, zC_mk, kill_i, kill_r, kill_0, kill_n, kill_l, kill_q, zzk_r, zzk_0, zzk_q, zcat_r, zcat_i, zcat_0, zcat_q, cats_0, cats_i, cats_r, cats_l, cats_d, cats_f, cats_q, cats_n, rv_s, rv_0, Nat.reduceAdd, Nat.reduceLeDiff, Nat.reduceEqDiff, Nat.add_zero, Nat.reduceMul, Nat.reduceSub, ne_eq, not_false_eq_true, not_true_eq_false, and_self, and_true, true_and, or_self, or_true, true_or, or_false, false_or, if_true, if_false, reduceIte, reduceCtorEq, implies_true, ite_self, ite_not, lay_in, lay_0, up2_lay, up2_lay0, kh0, kh1, kh2, kh3, kh4, kh5, kh6, kh7, kh8, kh9, kh10, kh11, kh12, khB, khP, kr2, kr4, kr5, kr7, kr8, kr9, kr10, krB, krP, krG0, krG1, krG2, krG3, krK, Nat.reduceLT, o_add, o_sub, o_mul, o_neg, q_add, q_sub, q_mul, q_neg, o_32, cast_s, Int.toNat_natCast, hb, o_lt (a := c) (b := 0) (by omega), h1]
  · by_cases h2 : α 0 ≤ c
    · have h3 : ¬ (c < α 0) := by omega
      simp only [w26_0, w26_1, w26_4, w26_5, w26_8, w26_8n, w26_9, w26_10, w26_11, w26_14, w26_17, w26_18, w26_21, w26_21n, w26_22, w26_23, w26_25, w26_26, w26_29, w26_32, w26_33, w26_36, w26_37, w26_38, w26_41, w26_42, w26_45, w26_46, w26_49, w26_50, w26_51, w26_51n, w26_52, w26_55, w26_58, w26_59, w26_59n, kn_s, kn_n, zh_mk, zR_mk, zI_mk, zL_mk, zD_mk, wI_mk, wL_mk, wD_mk, zT_mk, zC_mk, kill_i, kill_r, kill_0, kill_n, kill_l, kill_q, zzk_r, zzk_0, zzk_q, zcat_r, zcat_i, zcat_0, zcat_q, cats_0, cats_i, cats_r, cats_l, cats_d, cats_f, cats_q, cats_n, rv_s, rv_0, Nat.reduceAdd, Nat.reduceLeDiff, Nat.reduceEqDiff, Nat.add_zero, Nat.reduceMul, Nat.reduceSub, ne_eq, not_false_eq_true, not_true_eq_false, and_self, and_true, true_and, or_self, or_true, true_or, or_false, false_or, if_true, if_false, reduceIte, reduceCtorEq, implies_true, ite_self, ite_not, lay_in, lay_0, up2_lay, up2_lay0, kh0, kh1, kh2, kh3, kh4, kh5, kh6, kh7, kh8, kh9, kh10, kh11, kh12, khB, khP, kr2, kr4, kr5, kr7, kr8, kr9, kr10, krB, krP, krG0, krG1, krG2, krG3, krK, Nat.reduceLT, o_add, o_sub, o_mul, o_neg, q_add, q_sub, q_mul, q_neg, o_32, cast_s, Int.toNat_natCast, hb, e0, o_lt (a := c) (b := 0) (by omega), h1, o_lt (a := c) (b := α 0) (by omega), h3, h2]
    · have h3 : c < α 0 := by omega
      simp only [w26_0, w26_1, w26_4, w26_5, w26_8, w26_8n, w26_9, w26_10, w26_11, w26_14, w26_17, w26_18, w26_21, w26_21n, w26_22, w26_23, w26_25, w26_26, w26_29, w26_32, w26_33, w26_36, w26_37, w26_38, w26_41, w26_42, w26_45, w26_46, w26_49, w26_50, w26_51, w26_51n, w26_52, w26_55, w26_58, w26_59, w26_59n, kn_s, kn_n, zh_mk, zR_mk, zI_mk, zL_mk, zD_mk, wI_mk, wL_mk, wD_mk, zT_mk, zC_mk, kill_i, kill_r, kill_0, kill_n, kill_l, kill_q, zzk_r, zzk_0, zzk_q, zcat_r, zcat_i, zcat_0, zcat_q, cats_0, cats_i, cats_r, cats_l, cats_d, cats_f, cats_q, cats_n, rv_s, rv_0, Nat.reduceAdd, Nat.reduceLeDiff, Nat.reduceEqDiff, Nat.add_zero, Nat.reduceMul, Nat.reduceSub, ne_eq, not_false_eq_true, not_true_eq_false, and_self, and_true, true_and, or_self, or_true, true_or, or_false, false_or, if_true, if_false, reduceIte, reduceCtorEq, implies_true, ite_self, ite_not, lay_in, lay_0, up2_lay, up2_lay0, kh0, kh1, kh2, kh3, kh4, kh5, kh6, kh7, kh8, kh9, kh10, kh11, kh12, khB, khP, kr2, kr4, kr5, kr7, kr8, kr9, kr10, krB, krP, krG0, krG1, krG2, krG3, krK, Nat.reduceLT, o_add, o_sub, o_mul, o_neg, q_add, q_sub, q_mul, q_neg, o_32, cast_s, Int.toNat_natCast, hb, e0, o_lt (a := c) (b := 0) (by omega), h1, o_lt (a := c) (b := α 0) (by omega), h3, h2]
      exact h24
theorem RL_eP (hR : RL ℓ μ α n m o) (hG : GA α n m o) : ∀ p, p < m → ℓ (p + 23) 0 = Int32.ofInt (α (P3 p 0)) ∧ -2147483648 ≤ α (P3 p 0) ∧ α (P3 p 0) < 2147483648 := by
  intro p hp
  have g := hG.2.1.2.2 p hp
  have g0 := hG.1.2.2.2.1
  exact ⟨RL_P hR hp hG.2.1.1 (by omega), by omega, by omega⟩
theorem c35 (hb : LB b) (hR : RT ℓ μ x n m o ds) (hG : XG x n m o) {p : Nat} (hp : p < n) {s : Int} (hs : s = 1 ∨ s = -1) (hds : -1 ≤ ds (o p) ∧ ds (o p) ≤ 1)
    (hQ : ∀ (ℓ' : Nat → Nat → Int32) (μ' : Nat → Nat → Int64), RT ℓ' μ' (if ds (o p) = s then ttT n m x (o p) s else x) n m o ds → Q (.inl none) (mk N t w (lay b ℓ' I) (lay b μ' L) D)) :
    Wp (d + 3) 35 0 [some (.ref b), some (.int (Int32.ofInt (p : Int))), some (.int (Int32.ofInt s)), none, none, none, none, none] [] (mk N t w (lay b ℓ I) (lay b μ L) D) Q := by
  have hGA := hG.1
  have h10 : n ≤ 10 := hGA.1.1
  have hp10 : p < 10 := by omega
  have hi := hGA.2.2.2.1 p hp
  have hd := hR.2 (o p) hi
  have gi := hGA.1.2.2.2.2 (o p) hi
  have h0 : 10 ≤ x.1 0 ∧ x.1 0 ≤ 200 := ⟨hGA.1.2.2.1, hGA.1.2.2.2.1⟩
  have ro : ℓ 2 p = Int32.ofInt (o p : Int) := hR.1.2.2.2.1 p hp
  have rc : ℓ (o p + 13) 1 = Int32.ofInt (x.1 (B9 (o p) 0)) := RL_B hR.1 hi h10 (by omega)
  have rw5 : ℓ (o p + 13) 5 = Int32.ofInt (x.1 (B9 (o p) 4)) := RL_B hR.1 hi h10 (by omega)
  have r11 : ℓ 11 7 = Int32.ofInt (x.1 15) := hR.1.1 15 (by unfold kd; omega)
  have r00 : ℓ 0 0 = Int32.ofInt (x.1 0) := hR.1.1 0 (by unfold kd; omega)
  have r03 := hR.1.2.1.1
  have r06 := hR.1.2.1.2
  have hi10 : o p < 10 := by omega
  have hbr := fun (d' : Nat) (Q' : Rs → St → Prop) => c26 (d := d') (N := N) (t := t) (w := w) (I := I) (L := lay b μ L) (D := D) (Q := Q') (c := x.1 (B9 (o p) 0) + s) hb hGA.2.1.1 r00 h0 r06 (RL_eP hR.1 hGA) (by omega)
  by_cases hdue : ds (o p) = s
  · rw [if_pos hdue] at hQ
    unfold ttT at hQ
    by_cases hst : x.2.2.2.1.testBit (o p) = true
    · rw [if_pos hst] at hQ
      simp only [w35_0, w35_1, w35_4, w35_5, w35_6, w35_7, w35_8, w35_11, w35_12, w35_13, w35_15, w35_17, w35_20, w35_21, w35_24, w35_26, w35_29, w35_32, w35_33, w35_35, w35_38, w35_39, w35_40, w35_42, w35_43, w35_45, w35_48, w35_50, w35_52, w35_52r, w35_52q, w35_55, w35_56, w35_57, w35_59, w35_62, w35_63, w35_64, w35_65, w35_66, w35_68, w35_70, w35_73, w35_75, w35_76, w35_79, w35_82, w35_83, w35_86, w35_87, w35_90, w35_92, w35_93, w35_94, w35_97, w35_99, w35_102, w35_103, w35_104, w35_105, w35_108, w35_110, w35_111, w35_112, w35_115, w35_116, w35_118, w35_120, w35_123, w35_125, w35_126, w35_129, w35_130, w35_131, w35_134, w35_135, w35_138, w35_139, w35_142, w35_143, w35_144, w35_147, kn_s, kn_n, zh_mk, zR_mk, zI_mk, zL_mk, zD_mk, wI_mk, wL_mk, wD_mk, zT_mk, zC_mk, kill_i, kill_r, kill_0, kill_n, kill_l, kill_q, zzk_r, zzk_0, zzk_q, zcat_r, zcat_i, zcat_0, zcat_q, cats_0, cats_i, cats_r, cats_l, cats_d, cats_f, cats_q, cats_n, rv_s, rv_0, Nat.reduceAdd, Nat.reduceLeDiff, Nat.reduceEqDiff, Nat.add_zero, Nat.reduceMul, Nat.reduceSub, ne_eq, not_false_eq_true, not_true_eq_false, and_self, and_true, true_and, or_self, or_true, true_or, or_false, false_or, if_true, if_false, reduceIte, reduceCtorEq, implies_true, ite_self, ite_not, lay_in, lay_0, up2_lay, up2_lay0, kh0, kh1, kh2, kh3, kh4, kh5, kh6, kh7, kh8, kh9, kh10, kh11, kh12, khB, khP, kr2, kr4, kr5, kr7, kr8, kr9, kr10, krB, krP, krG0, krG1, krG2, krG3, krK, Nat.reduceLT, o_add, o_sub, o_mul, o_neg, q_add, q_sub, q_mul, q_neg, o_32, cast_s, Int.toNat_natCast, hb, hp10, hi10, ro, hd.1, hd.2, o_ixn (j := p) (n := 10) (by omega), o_tnn (j := p) (by omega), o_ixn (j := o p) (n := 10) (by omega), o_tnn (j := o p) (by omega), show o p + 13 < 27 by omega, o_eq (a := ds (o p)) (b := s) (by omega), hdue, p_0, hst]
      exact hQ _ _ hR
    · rw [if_neg hst] at hQ
      have hrun : ∀ Q' : Rs → St → Prop, Wp (d + 3) 35 0 [some (.ref b), some (.int (Int32.ofInt (p : Int))), some (.int (Int32.ofInt s)), none, none, none, none, none] [] (mk N t w (lay b ℓ I) (lay b μ L) D) Q' = Wp (d + 3) 35 48 [some (.ref b), some (.int (Int32.ofInt (p : Int))), some (.int (Int32.ofInt s)), some (.int (Int32.ofInt (o p : Int))), some (.ref (b + (o p + 13))), some (.int (Int32.ofInt (x.1 (B9 (o p) 0) + s))), none, none] [brV b x.1 m (x.1 (B9 (o p) 0) + s)] (mk N t w (lay b ℓ I) (lay b μ L) D) Q' := by
        intro Q'
        simp only [w35_0, w35_1, w35_4, w35_5, w35_6, w35_7, w35_8, w35_11, w35_12, w35_13, w35_15, w35_17, w35_20, w35_21, w35_24, w35_26, w35_29, w35_32, w35_33, w35_35, w35_38, w35_39, w35_40, w35_42, w35_43, w35_45, w35_50, w35_52, w35_52r, w35_52q, w35_55, w35_56, w35_57, w35_59, w35_62, w35_63, w35_64, w35_65, w35_66, w35_68, w35_70, w35_73, w35_75, w35_76, w35_79, w35_82, w35_83, w35_86, w35_87, w35_90, w35_92, w35_93, w35_94, w35_97, w35_99, w35_102, w35_103, w35_104, w35_105, w35_108, w35_110, w35_111, w35_112, w35_115, w35_116, w35_118, w35_120, w35_123, w35_125, w35_126, w35_129, w35_130, w35_131, w35_134, w35_135, w35_138, w35_139, w35_142, w35_143, w35_144, w35_147, kn_s, kn_n, zh_mk, zR_mk, zI_mk, zL_mk, zD_mk, wI_mk, wL_mk, wD_mk, zT_mk, zC_mk, kill_i, kill_r, kill_0, kill_n, kill_l, kill_q, zzk_r, zzk_0, zzk_q, zcat_r, zcat_i, zcat_0, zcat_q, cats_0, cats_i, cats_r, cats_l, cats_d, cats_f, cats_q, cats_n, rv_s, rv_0, Nat.reduceAdd, Nat.reduceLeDiff, Nat.reduceEqDiff, Nat.add_zero, Nat.reduceMul, Nat.reduceSub, ne_eq, not_false_eq_true, not_true_eq_false, and_self, and_true, true_and, or_self, or_true, true_or, or_false, false_or, if_true, if_false, reduceIte, reduceCtorEq, implies_true, ite_self, ite_not, lay_in, lay_0, up2_lay, up2_lay0, kh0, kh1, kh2, kh3, kh4, kh5, kh6, kh7, kh8, kh9, kh10, kh11, kh12, khB, khP, kr2, kr4, kr5, kr7, kr8, kr9, kr10, krB, krP, krG0, krG1, krG2, krG3, krK, Nat.reduceLT, o_add, o_sub, o_mul, o_neg, q_add, q_sub, q_mul, q_neg, o_32, cast_s, Int.toNat_natCast, hb, hp10, hi10, ro, rc, hd.1, hd.2, o_ixn (j := p) (n := 10) (by omega), o_tnn (j := p) (by omega), o_ixn (j := o p) (n := 10) (by omega), o_tnn (j := o p) (by omega), show o p + 13 < 27 by omega, o_eq (a := ds (o p)) (b := s) (by omega), hdue, p_0, hst, hbr]
      rw [hrun]
      generalize hc : x.1 (B9 (o p) 0) + s = c at hQ
      have hcr : -1 ≤ c ∧ c ≤ 200 := by omega
      have hm4 : m ≤ 4 := hGA.2.1.1
      have bounceAt : ∀ ob : Nat, brV b x.1 m c = .ref (b + ob) → ∀ kb st, (ob = 4 ∨ ob = 5 ∨ (23 ≤ ob ∧ ob < 27)) → (mo kb = ob ∧ mq kb = 2 ∧ kd n m kb ∧ kb < 28 ∧ kb ≠ 5 ∧ kb ≠ 13) → ℓ ob 1 = Int32.ofInt st → (0 ≤ st ∧ st ≤ 100) → btA x.1 m (o p) c = boA (up1 x.1 kb (x.1 kb + 1)) (o p) st → ¬ isF x.1 n m c → ¬ (isC x.1 c ∧ bAt x.1 n c ≠ -1) → Wp (d + 3) 35 48 [some (.ref b), some (.int (Int32.ofInt (p : Int))), some (.int (Int32.ofInt s)), some (.int (Int32.ofInt (o p : Int))), some (.ref (b + (o p + 13))), some (.int (Int32.ofInt c)), none, none] [brV b x.1 m c] (mk N t w (lay b ℓ I) (lay b μ L) D) Q := by
        intro ob hv kb st ho hk hst2 ht2 hbt hnF hnC
        rw [if_neg hnF, if_neg hnC, hbt] at hQ
        rw [hv]
        simp only [w35_0, w35_1, w35_4, w35_5, w35_6, w35_7, w35_8, w35_11, w35_12, w35_13, w35_15, w35_17, w35_20, w35_21, w35_24, w35_26, w35_29, w35_32, w35_33, w35_35, w35_38, w35_39, w35_40, w35_42, w35_43, w35_45, w35_48, w35_50, w35_52, w35_52r, w35_52q, w35_55, w35_56, w35_57, w35_59, w35_62, w35_63, w35_64, w35_65, w35_66, w35_68, w35_70, w35_73, w35_75, w35_76, w35_79, w35_82, w35_83, w35_86, w35_87, w35_90, w35_92, w35_93, w35_94, w35_97, w35_99, w35_102, w35_103, w35_104, w35_105, w35_108, w35_110, w35_111, w35_112, w35_115, w35_116, w35_118, w35_120, w35_123, w35_125, w35_126, w35_129, w35_130, w35_131, w35_134, w35_135, w35_138, w35_139, w35_142, w35_143, w35_144, w35_147, kn_s, kn_n, zh_mk, zR_mk, zI_mk, zL_mk, zD_mk, wI_mk, wL_mk, wD_mk, zT_mk, zC_mk, kill_i, kill_r, kill_0, kill_n, kill_l, kill_q, zzk_r, zzk_0, zzk_q, zcat_r, zcat_i, zcat_0, zcat_q, cats_0, cats_i, cats_r, cats_l, cats_d, cats_f, cats_q, cats_n, rv_s, rv_0, Nat.reduceAdd, Nat.reduceLeDiff, Nat.reduceEqDiff, Nat.add_zero, Nat.reduceMul, Nat.reduceSub, ne_eq, not_false_eq_true, not_true_eq_false, and_self, and_true, true_and, or_self, or_true, true_or, or_false, false_or, if_true, if_false, reduceIte, reduceCtorEq, implies_true, ite_self, ite_not, lay_in, lay_0, up2_lay, up2_lay0, kh0, kh1, kh2, kh3, kh4, kh5, kh6, kh7, kh8, kh9, kh10, kh11, kh12, khB, khP, kr2, kr4, kr5, kr7, kr8, kr9, kr10, krB, krP, krG0, krG1, krG2, krG3, krK, Nat.reduceLT, hb]
        refine c36 (d := d) hb hR hG hi ho hk hst2 ht2 (fun ℓ' μ' hR' => ?_)
        simp only [w35_0, w35_1, w35_4, w35_5, w35_6, w35_7, w35_8, w35_11, w35_12, w35_13, w35_15, w35_17, w35_20, w35_21, w35_24, w35_26, w35_29, w35_32, w35_33, w35_35, w35_38, w35_39, w35_40, w35_42, w35_43, w35_45, w35_48, w35_50, w35_52, w35_52r, w35_52q, w35_55, w35_56, w35_57, w35_59, w35_62, w35_63, w35_64, w35_65, w35_66, w35_68, w35_70, w35_73, w35_75, w35_76, w35_79, w35_82, w35_83, w35_86, w35_87, w35_90, w35_92, w35_93, w35_94, w35_97, w35_99, w35_102, w35_103, w35_104, w35_105, w35_108, w35_110, w35_111, w35_112, w35_115, w35_116, w35_118, w35_120, w35_123, w35_125, w35_126, w35_129, w35_130, w35_131, w35_134, w35_135, w35_138, w35_139, w35_142, w35_143, w35_144, w35_147, kn_s, kn_n, zh_mk, zR_mk, zI_mk, zL_mk, zD_mk, wI_mk, wL_mk, wD_mk, zT_mk, zC_mk, kill_i, kill_r, kill_0, kill_n, kill_l, kill_q, zzk_r, zzk_0, zzk_q, zcat_r, zcat_i, zcat_0, zcat_q, cats_0, cats_i, cats_r, cats_l, cats_d, cats_f, cats_q, cats_n, rv_s, rv_0, Nat.reduceAdd, Nat.reduceLeDiff, Nat.reduceEqDiff, Nat.add_zero, Nat.reduceMul, Nat.reduceSub, ne_eq, not_false_eq_true, not_true_eq_false, and_self, and_true, true_and, or_self, or_true, true_or, or_false, false_or, if_true, if_false, reduceIte, reduceCtorEq, implies_true, ite_self, ite_not]
        exact hQ ℓ' μ' hR'
      by_cases hc0 : c < 0
      · have hnC : ¬ isC x.1 c := fun h => by omega
        have hp1 : pAt x.1 m c = -1 := by
          rcases pFind_spec (f := fun p => x.1 (P3 p 0)) (c := c) m 0 with ⟨g1, -⟩ | ⟨j, g1, -, g3, g4, -⟩
          · exact g1
          · have := (hGA.2.1.2.2 j (by omega)).1
            omega
        refine bounceAt 4 (by unfold brV; rw [if_pos hc0]) 10 (x.1 8) (Or.inl rfl) ⟨rfl, rfl, by unfold kd; omega, by omega, by omega, by omega⟩ (hR.1.1 8 (by unfold kd; omega)) hGA.2.2.1.1 ?_ (fun h => hnC h.1) (fun h => hnC h.1)
        unfold btA
        rw [if_pos hp1, if_pos hc0]
      · by_cases hcC : x.1 0 ≤ c
        · have hnC : ¬ isC x.1 c := fun h => by omega
          have hp1 : pAt x.1 m c = -1 := by
            rcases pFind_spec (f := fun p => x.1 (P3 p 0)) (c := c) m 0 with ⟨g1, -⟩ | ⟨j, g1, -, g3, g4, -⟩
            · exact g1
            · have := (hGA.2.1.2.2 j (by omega)).1
              omega
          refine bounceAt 5 (by unfold brV; rw [if_neg hc0, if_pos hcC]) 11 (x.1 9) (Or.inr (Or.inl rfl)) ⟨rfl, rfl, by unfold kd; omega, by omega, by omega, by omega⟩ (hR.1.1 9 (by unfold kd; omega)) hGA.2.2.1.2.1 ?_ (fun h => hnC h.1) (fun h => hnC h.1)
          unfold btA
          rw [if_pos hp1, if_neg hc0]
        · have hC : isC x.1 c := ⟨by omega, by omega⟩
          by_cases hpn : pAt x.1 m c = -1
          · have hv : brV b x.1 m c = .null := by
              unfold brV
              rw [if_neg hc0, if_neg hcC, if_pos hpn]
            rw [hv]
            by_cases hbn : bAt x.1 n c = -1
            · have hF : isF x.1 n m c := ⟨hC, hbn, hpn⟩
              rw [if_pos hF] at hQ
              have nb := bAt_ne hbn
              have hgo : Q (.inl none) (mk N t w (lay b (up2 (up2 (up2 ℓ (o p + 13) 1 (Int32.ofInt c)) (o p + 13) 5 (Int32.ofInt (x.1 (B9 (o p) 4) + 1))) 11 7 (Int32.ofInt (x.1 15 + 1))) I) (lay b μ L) D) := by
                refine hQ _ _ ⟨?_, fun j hj => ?_⟩
                · have q1 := RL_i (key := B9 (o p) 0) (v := c) hR.1 (by unfold kd B9; omega)
                  rw [mo_B hi10 (by omega), mq_B hi10 (by omega)] at q1
                  have q2 := RL_i (key := B9 (o p) 4) (v := x.1 (B9 (o p) 4) + 1) q1 (by unfold kd B9; omega)
                  rw [mo_B hi10 (by omega), mq_B hi10 (by omega)] at q2
                  exact RL_i (key := 15) (v := x.1 15 + 1) q2 (by unfold kd; omega)
                · rw [u2_ne (by omega), u2_ne (by omega), u2_ne (by omega), u2_ne (by omega), u2_ne (by omega), u2_ne (by omega)]
                  exact hR.2 j hj
              rcases hs with rfl | rfl
              · by_cases hlast : p + 1 < n
                · have hop := hGA.2.2.2.1 (p + 1) hlast
                  have ro1 : ℓ 2 (p + 1) = Int32.ofInt (o (p + 1) : Int) := hR.1.2.2.2.1 (p + 1) hlast
                  have rc1 : ℓ (o (p + 1) + 13) 1 = Int32.ofInt (x.1 (B9 (o (p + 1)) 0)) := RL_B hR.1 hop h10 (by omega)
                  have gj := hGA.1.2.2.2.2 _ hop
                  have hne := nb _ hop
                  have g1 : ((p : Int) + 1 < 0) = False := by simp only [eq_iff_iff, iff_false]; omega
                  have g2 : ((p : Int) + 1 < n) = True := by simp only [eq_iff_iff, iff_true]; omega
                  have e1 : ((p : Int) + 1).toNat = p + 1 := by omega
                  simp only [w35_0, w35_1, w35_4, w35_5, w35_6, w35_7, w35_8, w35_11, w35_12, w35_13, w35_15, w35_17, w35_20, w35_21, w35_24, w35_26, w35_29, w35_32, w35_33, w35_35, w35_38, w35_39, w35_40, w35_42, w35_43, w35_45, w35_48, w35_50, w35_52, w35_52r, w35_52q, w35_55, w35_56, w35_57, w35_59, w35_62, w35_63, w35_64, w35_65, w35_66, w35_68, w35_70, w35_73, w35_75, w35_76, w35_79, w35_82, w35_83, w35_86, w35_87, w35_90, w35_92, w35_93, w35_94, w35_97, w35_99, w35_102, w35_103, w35_104, w35_105, w35_108, w35_110, w35_111, w35_112, w35_115, w35_116, w35_118, w35_120, w35_123, w35_125, w35_126, w35_129, w35_130, w35_131, w35_134, w35_135, w35_138, w35_139, w35_142, w35_143, w35_144, w35_147, kn_s, kn_n, zh_mk, zR_mk, zI_mk, zL_mk, zD_mk, wI_mk, wL_mk, wD_mk, zT_mk, zC_mk, kill_i, kill_r, kill_0, kill_n, kill_l, kill_q, zzk_r, zzk_0, zzk_q, zcat_r, zcat_i, zcat_0, zcat_q, cats_0, cats_i, cats_r, cats_l, cats_d, cats_f, cats_q, cats_n, rv_s, rv_0, Nat.reduceAdd, Nat.reduceLeDiff, Nat.reduceEqDiff, Nat.add_zero, Nat.reduceMul, Nat.reduceSub, ne_eq, not_false_eq_true, not_true_eq_false, and_self, and_true, true_and, or_self, or_true, true_or, or_false, false_or, if_true, if_false, reduceIte, reduceCtorEq, implies_true, ite_self, ite_not, lay_in, lay_0, up2_lay, up2_lay0, kh0, kh1, kh2, kh3, kh4, kh5, kh6, kh7, kh8, kh9, kh10, kh11, kh12, khB, khP, kr2, kr4, kr5, kr7, kr8, kr9, kr10, krB, krP, krG0, krG1, krG2, krG3, krK, Nat.reduceLT, up2_at, Nat.reduceEqDiff, and_false, false_and, hb, hi10, show o (p + 1) < 10 by omega, o_add, r03, ro1, rc1, rw5, r11, o_lt (a := (p : Int) + 1) (b := 0) (by omega), o_lt (a := (p : Int) + 1) (b := (n : Int)) (by omega), g1, g2, o_ix (z := (p : Int) + 1) (n := 10) (by omega), o_tn (z := (p : Int) + 1) (by omega), e1, o_ixn (j := o (p + 1)) (n := 10) (by omega), o_tnn (j := o (p + 1)) (by omega), show o (p + 1) + 13 < 27 by omega, show o p + 13 < 27 by omega, o_eq (a := x.1 (B9 (o (p + 1)) 0)) (b := c) (by omega), hne, show (11 = o p + 13) = False by simp only [eq_iff_iff, iff_false]; omega]
                  exact hgo
                · have g1 : ((p : Int) + 1 < 0) = False := by simp only [eq_iff_iff, iff_false]; omega
                  have g2 : ((p : Int) + 1 < n) = False := by simp only [eq_iff_iff, iff_false]; omega
                  simp only [w35_0, w35_1, w35_4, w35_5, w35_6, w35_7, w35_8, w35_11, w35_12, w35_13, w35_15, w35_17, w35_20, w35_21, w35_24, w35_26, w35_29, w35_32, w35_33, w35_35, w35_38, w35_39, w35_40, w35_42, w35_43, w35_45, w35_48, w35_50, w35_52, w35_52r, w35_52q, w35_55, w35_56, w35_57, w35_59, w35_62, w35_63, w35_64, w35_65, w35_66, w35_68, w35_70, w35_73, w35_75, w35_76, w35_79, w35_82, w35_83, w35_86, w35_87, w35_90, w35_92, w35_93, w35_94, w35_97, w35_99, w35_102, w35_103, w35_104, w35_105, w35_108, w35_110, w35_111, w35_112, w35_115, w35_116, w35_118, w35_120, w35_123, w35_125, w35_126, w35_129, w35_130, w35_131, w35_134, w35_135, w35_138, w35_139, w35_142, w35_143, w35_144, w35_147, kn_s, kn_n, zh_mk, zR_mk, zI_mk, zL_mk, zD_mk, wI_mk, wL_mk, wD_mk, zT_mk, zC_mk, kill_i, kill_r, kill_0, kill_n, kill_l, kill_q, zzk_r, zzk_0, zzk_q, zcat_r, zcat_i, zcat_0, zcat_q, cats_0, cats_i, cats_r, cats_l, cats_d, cats_f, cats_q, cats_n, rv_s, rv_0, Nat.reduceAdd, Nat.reduceLeDiff, Nat.reduceEqDiff, Nat.add_zero, Nat.reduceMul, Nat.reduceSub, ne_eq, not_false_eq_true, not_true_eq_false, and_self, and_true, true_and, or_self, or_true, true_or, or_false, false_or, if_true, if_false, reduceIte, reduceCtorEq, implies_true, ite_self, ite_not, lay_in, lay_0, up2_lay, up2_lay0, kh0, kh1, kh2, kh3, kh4, kh5, kh6, kh7, kh8, kh9, kh10, kh11, kh12, khB, khP, kr2, kr4, kr5, kr7, kr8, kr9, kr10, krB, krP, krG0, krG1, krG2, krG3, krK, Nat.reduceLT, up2_at, Nat.reduceEqDiff, and_false, false_and, hb, hi10, o_add, r03, rw5, r11, o_lt (a := (p : Int) + 1) (b := 0) (by omega), o_lt (a := (p : Int) + 1) (b := (n : Int)) (by omega), g1, g2, show o p + 13 < 27 by omega, show (11 = o p + 13) = False by simp only [eq_iff_iff, iff_false]; omega]
                  exact hgo
              · by_cases hlast : 1 ≤ p
                · have hop := hGA.2.2.2.1 (p - 1) (by omega)
                  have ro1 : ℓ 2 (p - 1) = Int32.ofInt (o (p - 1) : Int) := hR.1.2.2.2.1 (p - 1) (by omega)
                  have rc1 : ℓ (o (p - 1) + 13) 1 = Int32.ofInt (x.1 (B9 (o (p - 1)) 0)) := RL_B hR.1 hop h10 (by omega)
                  have gj := hGA.1.2.2.2.2 _ hop
                  have hne := nb _ hop
                  have g1 : ((p : Int) + -1 < 0) = False := by simp only [eq_iff_iff, iff_false]; omega
                  have g2 : ((p : Int) + -1 < n) = True := by simp only [eq_iff_iff, iff_true]; omega
                  have e1 : ((p : Int) + -1).toNat = p - 1 := by omega
                  simp only [w35_0, w35_1, w35_4, w35_5, w35_6, w35_7, w35_8, w35_11, w35_12, w35_13, w35_15, w35_17, w35_20, w35_21, w35_24, w35_26, w35_29, w35_32, w35_33, w35_35, w35_38, w35_39, w35_40, w35_42, w35_43, w35_45, w35_48, w35_50, w35_52, w35_52r, w35_52q, w35_55, w35_56, w35_57, w35_59, w35_62, w35_63, w35_64, w35_65, w35_66, w35_68, w35_70, w35_73, w35_75, w35_76, w35_79, w35_82, w35_83, w35_86, w35_87, w35_90, w35_92, w35_93, w35_94, w35_97, w35_99, w35_102, w35_103, w35_104, w35_105, w35_108, w35_110, w35_111, w35_112, w35_115, w35_116, w35_118, w35_120, w35_123, w35_125, w35_126, w35_129, w35_130, w35_131, w35_134, w35_135, w35_138, w35_139, w35_142, w35_143, w35_144, w35_147, kn_s, kn_n, zh_mk, zR_mk, zI_mk, zL_mk, zD_mk, wI_mk, wL_mk, wD_mk, zT_mk, zC_mk, kill_i, kill_r, kill_0, kill_n, kill_l, kill_q, zzk_r, zzk_0, zzk_q, zcat_r, zcat_i, zcat_0, zcat_q, cats_0, cats_i, cats_r, cats_l, cats_d, cats_f, cats_q, cats_n, rv_s, rv_0, Nat.reduceAdd, Nat.reduceLeDiff, Nat.reduceEqDiff, Nat.add_zero, Nat.reduceMul, Nat.reduceSub, ne_eq, not_false_eq_true, not_true_eq_false, and_self, and_true, true_and, or_self, or_true, true_or, or_false, false_or, if_true, if_false, reduceIte, reduceCtorEq, implies_true, ite_self, ite_not, lay_in, lay_0, up2_lay, up2_lay0, kh0, kh1, kh2, kh3, kh4, kh5, kh6, kh7, kh8, kh9, kh10, kh11, kh12, khB, khP, kr2, kr4, kr5, kr7, kr8, kr9, kr10, krB, krP, krG0, krG1, krG2, krG3, krK, Nat.reduceLT, up2_at, Nat.reduceEqDiff, and_false, false_and, hb, hi10, show o (p - 1) < 10 by omega, o_add, r03, ro1, rc1, rw5, r11, o_lt (a := (p : Int) + -1) (b := 0) (by omega), o_lt (a := (p : Int) + -1) (b := (n : Int)) (by omega), g1, g2, o_ix (z := (p : Int) + -1) (n := 10) (by omega), o_tn (z := (p : Int) + -1) (by omega), e1, o_ixn (j := o (p - 1)) (n := 10) (by omega), o_tnn (j := o (p - 1)) (by omega), show o (p - 1) + 13 < 27 by omega, show o p + 13 < 27 by omega, o_eq (a := x.1 (B9 (o (p - 1)) 0)) (b := c) (by omega), hne, show (11 = o p + 13) = False by simp only [eq_iff_iff, iff_false]; omega]
                  exact hgo
                · have g1 : ((p : Int) + -1 < 0) = True := by simp only [eq_iff_iff, iff_true]; omega
                  simp only [w35_0, w35_1, w35_4, w35_5, w35_6, w35_7, w35_8, w35_11, w35_12, w35_13, w35_15, w35_17, w35_20, w35_21, w35_24, w35_26, w35_29, w35_32, w35_33, w35_35, w35_38, w35_39, w35_40, w35_42, w35_43, w35_45, w35_48, w35_50, w35_52, w35_52r, w35_52q, w35_55, w35_56, w35_57, w35_59, w35_62, w35_63, w35_64, w35_65, w35_66, w35_68, w35_70, w35_73, w35_75, w35_76, w35_79, w35_82, w35_83, w35_86, w35_87, w35_90, w35_92, w35_93, w35_94, w35_97, w35_99, w35_102, w35_103, w35_104, w35_105, w35_108, w35_110, w35_111, w35_112, w35_115, w35_116, w35_118, w35_120, w35_123, w35_125, w35_126, w35_129, w35_130, w35_131, w35_134, w35_135, w35_138, w35_139, w35_142, w35_143, w35_144, w35_147, kn_s, kn_n, zh_mk, zR_mk, zI_mk, zL_mk, zD_mk, wI_mk, wL_mk, wD_mk, zT_mk, zC_mk, kill_i, kill_r, kill_0, kill_n, kill_l, kill_q, zzk_r, zzk_0, zzk_q, zcat_r, zcat_i, zcat_0, zcat_q, cats_0, cats_i, cats_r, cats_l, cats_d, cats_f, cats_q, cats_n, rv_s, rv_0, Nat.reduceAdd, Nat.reduceLeDiff, Nat.reduceEqDiff, Nat.add_zero, Nat.reduceMul, Nat.reduceSub, ne_eq, not_false_eq_true, not_true_eq_false, and_self, and_true, true_and, or_self, or_true, true_or, or_false, false_or, if_true, if_false, reduceIte, reduceCtorEq, implies_true, ite_self, ite_not, lay_in, lay_0, up2_lay, up2_lay0, kh0, kh1, kh2, kh3, kh4, kh5, kh6, kh7, kh8, kh9, kh10, kh11, kh12, khB, khP, kr2, kr4, kr5, kr7, kr8, kr9, kr10, krB, krP, krG0, krG1, krG2, krG3, krK, Nat.reduceLT, up2_at, Nat.reduceEqDiff, and_false, false_and, hb, hi10, o_add, r03, rw5, r11, o_lt (a := (p : Int) + -1) (b := 0) (by omega), g1, show o p + 13 < 27 by omega, show (11 = o p + 13) = False by simp only [eq_iff_iff, iff_false]; omega]
                  exact hgo
            · have hnF : ¬ isF x.1 n m c := fun h => hbn h.2.1
              have hh : isC x.1 c ∧ bAt x.1 n c ≠ -1 := ⟨hC, hbn⟩
              rw [if_neg hnF, if_pos hh] at hQ
              obtain ⟨j, ej, hj, hjc⟩ := bAt_some hbn
              rw [ej, Int.toNat_natCast] at hQ
              have gj := hGA.1.2.2.2.2 j hj
              rcases hs with rfl | rfl
              · obtain ⟨hlast, hoj⟩ := adjR hGA hp hj (by omega)
                have ro1 : ℓ 2 (p + 1) = Int32.ofInt (o (p + 1) : Int) := hR.1.2.2.2.1 (p + 1) hlast
                rw [hoj] at ro1
                have rc1 : ℓ (j + 13) 1 = Int32.ofInt (x.1 (B9 j 0)) := RL_B hR.1 hj h10 (by omega)
                have g1 : ((p : Int) + 1 < 0) = False := by simp only [eq_iff_iff, iff_false]; omega
                have g2 : ((p : Int) + 1 < n) = True := by simp only [eq_iff_iff, iff_true]; omega
                have e1 : ((p : Int) + 1).toNat = p + 1 := by omega
                rw [if_pos rfl] at hQ
                simp only [w35_0, w35_1, w35_4, w35_5, w35_6, w35_7, w35_8, w35_11, w35_12, w35_13, w35_15, w35_17, w35_20, w35_21, w35_24, w35_26, w35_29, w35_32, w35_33, w35_35, w35_38, w35_39, w35_40, w35_42, w35_43, w35_45, w35_48, w35_50, w35_52, w35_52r, w35_52q, w35_55, w35_56, w35_57, w35_59, w35_62, w35_63, w35_64, w35_65, w35_66, w35_68, w35_70, w35_73, w35_75, w35_76, w35_79, w35_82, w35_83, w35_86, w35_87, w35_90, w35_92, w35_93, w35_94, w35_97, w35_99, w35_102, w35_103, w35_104, w35_105, w35_108, w35_110, w35_111, w35_112, w35_115, w35_116, w35_118, w35_120, w35_123, w35_125, w35_126, w35_129, w35_130, w35_131, w35_134, w35_135, w35_138, w35_139, w35_142, w35_143, w35_144, w35_147, kn_s, kn_n, zh_mk, zR_mk, zI_mk, zL_mk, zD_mk, wI_mk, wL_mk, wD_mk, zT_mk, zC_mk, kill_i, kill_r, kill_0, kill_n, kill_l, kill_q, zzk_r, zzk_0, zzk_q, zcat_r, zcat_i, zcat_0, zcat_q, cats_0, cats_i, cats_r, cats_l, cats_d, cats_f, cats_q, cats_n, rv_s, rv_0, Nat.reduceAdd, Nat.reduceLeDiff, Nat.reduceEqDiff, Nat.add_zero, Nat.reduceMul, Nat.reduceSub, ne_eq, not_false_eq_true, not_true_eq_false, and_self, and_true, true_and, or_self, or_true, true_or, or_false, false_or, if_true, if_false, reduceIte, reduceCtorEq, implies_true, ite_self, ite_not, lay_in, lay_0, up2_lay, up2_lay0, kh0, kh1, kh2, kh3, kh4, kh5, kh6, kh7, kh8, kh9, kh10, kh11, kh12, khB, khP, kr2, kr4, kr5, kr7, kr8, kr9, kr10, krB, krP, krG0, krG1, krG2, krG3, krK, Nat.reduceLT, hb, show j < 10 by omega, o_add, r03, ro1, rc1, o_lt (a := (p : Int) + 1) (b := 0) (by omega), o_lt (a := (p : Int) + 1) (b := (n : Int)) (by omega), g1, g2, o_ix (z := (p : Int) + 1) (n := 10) (by omega), o_tn (z := (p : Int) + 1) (by omega), e1, o_ixn (j := j) (n := 10) (by omega), o_tnn (j := j) (by omega), show j + 13 < 27 by omega, hjc]
                refine c37_1 (d := d) hb hR hG hi hj (by intro e; subst e; omega) (fun ℓ' μ' hR' => ?_)
                simp only [w35_0, w35_1, w35_4, w35_5, w35_6, w35_7, w35_8, w35_11, w35_12, w35_13, w35_15, w35_17, w35_20, w35_21, w35_24, w35_26, w35_29, w35_32, w35_33, w35_35, w35_38, w35_39, w35_40, w35_42, w35_43, w35_45, w35_48, w35_50, w35_52, w35_52r, w35_52q, w35_55, w35_56, w35_57, w35_59, w35_62, w35_63, w35_64, w35_65, w35_66, w35_68, w35_70, w35_73, w35_75, w35_76, w35_79, w35_82, w35_83, w35_86, w35_87, w35_90, w35_92, w35_93, w35_94, w35_97, w35_99, w35_102, w35_103, w35_104, w35_105, w35_108, w35_110, w35_111, w35_112, w35_115, w35_116, w35_118, w35_120, w35_123, w35_125, w35_126, w35_129, w35_130, w35_131, w35_134, w35_135, w35_138, w35_139, w35_142, w35_143, w35_144, w35_147, kn_s, kn_n, zh_mk, zR_mk, zI_mk, zL_mk, zD_mk, wI_mk, wL_mk, wD_mk, zT_mk, zC_mk, kill_i, kill_r, kill_0, kill_n, kill_l, kill_q, zzk_r, zzk_0, zzk_q, zcat_r, zcat_i, zcat_0, zcat_q, cats_0, cats_i, cats_r, cats_l, cats_d, cats_f, cats_q, cats_n, rv_s, rv_0, Nat.reduceAdd, Nat.reduceLeDiff, Nat.reduceEqDiff, Nat.add_zero, Nat.reduceMul, Nat.reduceSub, ne_eq, not_false_eq_true, not_true_eq_false, and_self, and_true, true_and, or_self, or_true, true_or, or_false, false_or, if_true, if_false, reduceIte, reduceCtorEq, implies_true, ite_self, ite_not]
                exact hQ ℓ' μ' hR'
              · obtain ⟨hlast, hoj⟩ := adjL hGA hp hj (by omega)
                have ro1 : ℓ 2 (p - 1) = Int32.ofInt (o (p - 1) : Int) := hR.1.2.2.2.1 (p - 1) (by omega)
                rw [hoj] at ro1
                have rc1 : ℓ (j + 13) 1 = Int32.ofInt (x.1 (B9 j 0)) := RL_B hR.1 hj h10 (by omega)
                have g1 : ((p : Int) + -1 < 0) = False := by simp only [eq_iff_iff, iff_false]; omega
                have g2 : ((p : Int) + -1 < n) = True := by simp only [eq_iff_iff, iff_true]; omega
                have e1 : ((p : Int) + -1).toNat = p - 1 := by omega
                rw [if_neg (by omega)] at hQ
                simp only [w35_0, w35_1, w35_4, w35_5, w35_6, w35_7, w35_8, w35_11, w35_12, w35_13, w35_15, w35_17, w35_20, w35_21, w35_24, w35_26, w35_29, w35_32, w35_33, w35_35, w35_38, w35_39, w35_40, w35_42, w35_43, w35_45, w35_48, w35_50, w35_52, w35_52r, w35_52q, w35_55, w35_56, w35_57, w35_59, w35_62, w35_63, w35_64, w35_65, w35_66, w35_68, w35_70, w35_73, w35_75, w35_76, w35_79, w35_82, w35_83, w35_86, w35_87, w35_90, w35_92, w35_93, w35_94, w35_97, w35_99, w35_102, w35_103, w35_104, w35_105, w35_108, w35_110, w35_111, w35_112, w35_115, w35_116, w35_118, w35_120, w35_123, w35_125, w35_126, w35_129, w35_130, w35_131, w35_134, w35_135, w35_138, w35_139, w35_142, w35_143, w35_144, w35_147, kn_s, kn_n, zh_mk, zR_mk, zI_mk, zL_mk, zD_mk, wI_mk, wL_mk, wD_mk, zT_mk, zC_mk, kill_i, kill_r, kill_0, kill_n, kill_l, kill_q, zzk_r, zzk_0, zzk_q, zcat_r, zcat_i, zcat_0, zcat_q, cats_0, cats_i, cats_r, cats_l, cats_d, cats_f, cats_q, cats_n, rv_s, rv_0, Nat.reduceAdd, Nat.reduceLeDiff, Nat.reduceEqDiff, Nat.add_zero, Nat.reduceMul, Nat.reduceSub, ne_eq, not_false_eq_true, not_true_eq_false, and_self, and_true, true_and, or_self, or_true, true_or, or_false, false_or, if_true, if_false, reduceIte, reduceCtorEq, implies_true, ite_self, ite_not, lay_in, lay_0, up2_lay, up2_lay0, kh0, kh1, kh2, kh3, kh4, kh5, kh6, kh7, kh8, kh9, kh10, kh11, kh12, khB, khP, kr2, kr4, kr5, kr7, kr8, kr9, kr10, krB, krP, krG0, krG1, krG2, krG3, krK, Nat.reduceLT, hb, show j < 10 by omega, o_add, r03, ro1, rc1, o_lt (a := (p : Int) + -1) (b := 0) (by omega), o_lt (a := (p : Int) + -1) (b := (n : Int)) (by omega), g1, g2, o_ix (z := (p : Int) + -1) (n := 10) (by omega), o_tn (z := (p : Int) + -1) (by omega), e1, o_ixn (j := j) (n := 10) (by omega), o_tnn (j := j) (by omega), show j + 13 < 27 by omega, hjc]
                refine c37_0 (d := d) hb hR hG hj hi (by intro e; subst e; omega) (fun ℓ' μ' hR' => ?_)
                simp only [w35_0, w35_1, w35_4, w35_5, w35_6, w35_7, w35_8, w35_11, w35_12, w35_13, w35_15, w35_17, w35_20, w35_21, w35_24, w35_26, w35_29, w35_32, w35_33, w35_35, w35_38, w35_39, w35_40, w35_42, w35_43, w35_45, w35_48, w35_50, w35_52, w35_52r, w35_52q, w35_55, w35_56, w35_57, w35_59, w35_62, w35_63, w35_64, w35_65, w35_66, w35_68, w35_70, w35_73, w35_75, w35_76, w35_79, w35_82, w35_83, w35_86, w35_87, w35_90, w35_92, w35_93, w35_94, w35_97, w35_99, w35_102, w35_103, w35_104, w35_105, w35_108, w35_110, w35_111, w35_112, w35_115, w35_116, w35_118, w35_120, w35_123, w35_125, w35_126, w35_129, w35_130, w35_131, w35_134, w35_135, w35_138, w35_139, w35_142, w35_143, w35_144, w35_147, kn_s, kn_n, zh_mk, zR_mk, zI_mk, zL_mk, zD_mk, wI_mk, wL_mk, wD_mk, zT_mk, zC_mk, kill_i, kill_r, kill_0, kill_n, kill_l, kill_q, zzk_r, zzk_0, zzk_q, zcat_r, zcat_i, zcat_0, zcat_q, cats_0, cats_i, cats_r, cats_l, cats_d, cats_f, cats_q, cats_n, rv_s, rv_0, Nat.reduceAdd, Nat.reduceLeDiff, Nat.reduceEqDiff, Nat.add_zero, Nat.reduceMul, Nat.reduceSub, ne_eq, not_false_eq_true, not_true_eq_false, and_self, and_true, true_and, or_self, or_true, true_or, or_false, false_or, if_true, if_false, reduceIte, reduceCtorEq, implies_true, ite_self, ite_not]
                exact hQ ℓ' μ' hR'
          · have hbn : bAt x.1 n c = -1 := by
              refine Classical.byContradiction fun h => ?_
              obtain ⟨j, ej, hj, hjc⟩ := bAt_some h
              rcases pFind_spec (f := fun p => x.1 (P3 p 0)) (c := c) m 0 with ⟨g1, -⟩ | ⟨q, g1, -, g3, g4, -⟩
              · exact hpn g1
              · exact hGA.2.2.2.2.2.2 j hj q (by omega) (by omega)
            rcases pFind_spec (f := fun p => x.1 (P3 p 0)) (c := c) m 0 with ⟨g1, -⟩ | ⟨q, g1, -, g3, g4, -⟩
            · exact absurd g1 hpn
            · have g1 : pAt x.1 m c = (q : Int) := g1
              have hq4 : q < 4 := by omega
              refine bounceAt (q + 23) ?_ (P3 q 2) (x.1 (P3 q 1)) (Or.inr (Or.inr (by omega))) ⟨mo_P hq4 (by omega), mq_P hq4 (by omega), by unfold kd P3; omega, by unfold P3; omega, by unfold P3; omega, by unfold P3; omega⟩ (RL_P hR.1 (by omega) hm4 (by omega)) (hGA.2.1.2.2 q (by omega)).2 ?_ (fun h => hpn h.2.2) (fun h => h.2 hbn)
              · unfold brV
                rw [if_neg hc0, if_neg hcC, if_neg hpn, g1, Int.toNat_natCast]
              · unfold btA
                rw [if_neg hpn, g1, Int.toNat_natCast]
  · rw [if_neg hdue] at hQ
    simp only [w35_0, w35_1, w35_4, w35_5, w35_6, w35_7, w35_8, w35_11, w35_12, w35_13, w35_15, w35_17, w35_20, w35_21, w35_24, w35_26, w35_29, w35_32, w35_33, w35_35, w35_38, w35_39, w35_40, w35_42, w35_43, w35_45, w35_48, w35_50, w35_52, w35_52r, w35_52q, w35_55, w35_56, w35_57, w35_59, w35_62, w35_63, w35_64, w35_65, w35_66, w35_68, w35_70, w35_73, w35_75, w35_76, w35_79, w35_82, w35_83, w35_86, w35_87, w35_90, w35_92, w35_93, w35_94, w35_97, w35_99, w35_102, w35_103, w35_104, w35_105, w35_108, w35_110, w35_111, w35_112, w35_115, w35_116, w35_118, w35_120, w35_123, w35_125, w35_126, w35_129, w35_130, w35_131, w35_134, w35_135, w35_138, w35_139, w35_142, w35_143, w35_144, w35_147, kn_s, kn_n, zh_mk, zR_mk, zI_mk, zL_mk, zD_mk, wI_mk, wL_mk, wD_mk, zT_mk, zC_mk, kill_i, kill_r, kill_0, kill_n, kill_l, kill_q, zzk_r, zzk_0, zzk_q, zcat_r, zcat_i, zcat_0, zcat_q, cats_0, cats_i, cats_r, cats_l, cats_d, cats_f, cats_q, cats_n, rv_s, rv_0, Nat.reduceAdd, Nat.reduceLeDiff, Nat.reduceEqDiff, Nat.add_zero, Nat.reduceMul, Nat.reduceSub, ne_eq, not_false_eq_true, not_true_eq_false, and_self, and_true, true_and, or_self, or_true, true_or, or_false, false_or, if_true, if_false, reduceIte, reduceCtorEq, implies_true, ite_self, ite_not, lay_in, lay_0, up2_lay, up2_lay0, kh0, kh1, kh2, kh3, kh4, kh5, kh6, kh7, kh8, kh9, kh10, kh11, kh12, khB, khP, kr2, kr4, kr5, kr7, kr8, kr9, kr10, krB, krP, krG0, krG1, krG2, krG3, krK, Nat.reduceLT, o_add, o_sub, o_mul, o_neg, q_add, q_sub, q_mul, q_neg, o_32, cast_s, Int.toNat_natCast, hb, hp10, hi10, ro, hd.1, o_ixn (j := p) (n := 10) (by omega), o_tnn (j := p) (by omega), o_ixn (j := o p) (n := 10) (by omega), o_tnn (j := o p) (by omega), show o p + 13 < 27 by omega, o_eq (a := ds (o p)) (b := s) (by omega), hdue]
    exact hQ _ _ hR
end S36
