/-! CONTRACTS of the class: balls, log, book -/
def pabs (x : Int32) : Int32 := if x < Int32.ofInt 0 then -x else x
theorem pabs_o {s : Int} (h : -2147483648 ≤ s ∧ s < 2147483648) : pabs (Int32.ofInt s) = Int32.ofInt (zabs s) := by
  unfold pabs zabs
  rw [o_neg]
  by_cases hs : s < 0
  · rw [if_pos hs, if_pos (by rw [o_lt (by omega)]; exact hs)]
  · rw [if_neg hs, if_neg (by rw [o_lt (by omega)]; exact hs)]
def pbs (x st : Int32) : Int32 := if Int32.ofInt 0 < x then -(pabs x - pabs x * st / Int32.ofInt 100) else pabs x - pabs x * st / Int32.ofInt 100
theorem pbs_o {s st : Int} (hs : -60 ≤ s ∧ s ≤ 60) (ht : 0 ≤ st ∧ st ≤ 100) : pbs (Int32.ofInt s) (Int32.ofInt st) = Int32.ofInt (bsA s st) := by
  have h1 := stA_b hs ht
  have e2 : (zabs s * st).tdiv 100 = stA s st := by
    unfold stA
    rw [Int.tdiv_eq_ediv_of_nonneg (by omega)]
  unfold pbs bsA
  rw [pabs_o (by omega), o_mul, o_div (by omega), e2, o_sub, o_neg]
  by_cases h : 0 < s
  · rw [if_pos h, if_pos (by rw [o_lt (by omega)]; exact h)]
  · rw [if_neg h, if_neg (by rw [o_lt (by omega)]; exact h)]
theorem h100 : (Int32.ofInt 100 = Int32.ofInt 0) = False := by
  simp only [eq_iff_iff, iff_false]
  decide
section S31
variable {N : NX} {w : WX} {d t a a2 b : Nat} {I ℓ : Nat → Nat → Int32} {L μ : Nat → Nat → Int64} {D : Nat → Nat → UInt64} {Q : Rs → St → Prop}
theorem c3 (h : KH N a = (1, 0)) : Wp d 3 0 [some (.ref a)] [] (mk N t w I L D) Q = Q (.inl (some (.int (pabs (I a 2))))) (mk N t w I L D) := by
  simp only [w3_0, w3_1, w3_4, w3_7, w3_8, w3_11, w3_12, w3_15, w3_16, w3_19, kn_s, kn_n, zh_mk, zR_mk, zI_mk, zL_mk, zD_mk, wI_mk, wL_mk, wD_mk, zT_mk, zC_mk, kill_i, kill_r, kill_0, kill_n, kill_l, kill_q, zzk_r, zzk_0, zzk_q, zcat_r, zcat_i, zcat_0, zcat_q, cats_0, cats_i, cats_r, cats_l, cats_d, cats_f, cats_q, cats_n, rv_s, rv_0, Nat.reduceAdd, Nat.reduceLeDiff, Nat.reduceEqDiff, Nat.add_zero, Nat.reduceMul, Nat.reduceSub, ne_eq, not_false_eq_true, not_true_eq_false, and_self, and_true, true_and, or_self, or_true, true_or, or_false, false_or, if_true, if_false, reduceIte, reduceCtorEq, implies_true, ite_self, ite_not, h]
  unfold pabs
  by_cases hx : I a 2 < Int32.ofInt 0 <;> simp only [hx, if_true, if_false]
theorem c5 (h : KH N a = (1, 0)) : Wp d 5 0 [some (.ref a)] [] (mk N t w I L D) Q = Q (.inl (some (.int (I a 3 * I a 2)))) (mk N t w I L D) := by
  simp only [w5_0, w5_1, w5_4, w5_5, w5_8, w5_9, kn_s, kn_n, zh_mk, zR_mk, zI_mk, zL_mk, zD_mk, wI_mk, wL_mk, wD_mk, zT_mk, zC_mk, kill_i, kill_r, kill_0, kill_n, kill_l, kill_q, zzk_r, zzk_0, zzk_q, zcat_r, zcat_i, zcat_0, zcat_q, cats_0, cats_i, cats_r, cats_l, cats_d, cats_f, cats_q, cats_n, rv_s, rv_0, Nat.reduceAdd, Nat.reduceLeDiff, Nat.reduceEqDiff, Nat.add_zero, Nat.reduceMul, Nat.reduceSub, ne_eq, not_false_eq_true, not_true_eq_false, and_self, and_true, true_and, or_self, or_true, true_or, or_false, false_or, if_true, if_false, reduceIte, reduceCtorEq, implies_true, ite_self, ite_not, h]
theorem c8 (h : KH N a = (1, 0)) : Wp d 8 0 [some (.ref a)] [] (mk N t w I L D) Q = Q (.inl (some (.int (I a 3 * I a 2 * I a 2)))) (mk N t w I L D) := by
  simp only [w8_0, w8_1, w8_4, w8_5, w8_8, w8_9, w8_10, w8_13, w8_14, kn_s, kn_n, zh_mk, zR_mk, zI_mk, zL_mk, zD_mk, wI_mk, wL_mk, wD_mk, zT_mk, zC_mk, kill_i, kill_r, kill_0, kill_n, kill_l, kill_q, zzk_r, zzk_0, zzk_q, zcat_r, zcat_i, zcat_0, zcat_q, cats_0, cats_i, cats_r, cats_l, cats_d, cats_f, cats_q, cats_n, rv_s, rv_0, Nat.reduceAdd, Nat.reduceLeDiff, Nat.reduceEqDiff, Nat.add_zero, Nat.reduceMul, Nat.reduceSub, ne_eq, not_false_eq_true, not_true_eq_false, and_self, and_true, true_and, or_self, or_true, true_or, or_false, false_or, if_true, if_false, reduceIte, reduceCtorEq, implies_true, ite_self, ite_not, h]
theorem c6 (h : KH N a = (1, 0)) {st : Int32} : Wp (d + 1) 6 0 [some (.ref a), some (.int st), none, none] [] (mk N t w I L D) Q = Q (.inl (some (.int (pbs (I a 2) st)))) (mk N t w I L D) := by
  simp only [w6_0, w6_1, w6_4, w6_5, w6_6, w6_7, w6_8, w6_9, w6_11, w6_12, w6_13, w6_14, w6_15, w6_18, w6_21, w6_22, w6_23, w6_26, w6_27, kn_s, kn_n, zh_mk, zR_mk, zI_mk, zL_mk, zD_mk, wI_mk, wL_mk, wD_mk, zT_mk, zC_mk, kill_i, kill_r, kill_0, kill_n, kill_l, kill_q, zzk_r, zzk_0, zzk_q, zcat_r, zcat_i, zcat_0, zcat_q, cats_0, cats_i, cats_r, cats_l, cats_d, cats_f, cats_q, cats_n, rv_s, rv_0, Nat.reduceAdd, Nat.reduceLeDiff, Nat.reduceEqDiff, Nat.add_zero, Nat.reduceMul, Nat.reduceSub, ne_eq, not_false_eq_true, not_true_eq_false, and_self, and_true, true_and, or_self, or_true, true_or, or_false, false_or, if_true, if_false, reduceIte, reduceCtorEq, implies_true, ite_self, ite_not, c3, h, h100]
  unfold pbs
  by_cases hx : Int32.ofInt 0 < I a 2 <;> simp only [hx, if_true, if_false]
theorem o_rem {x y : Nat} (hx : x < 2147483648) (hy : y < 2147483648) : Int32.ofInt (x : Int) - Int32.ofInt (x : Int) / Int32.ofInt (y : Int) * Int32.ofInt (y : Int) = Int32.ofInt ((x % y : Nat) : Int) := by
  rw [o_div (by omega), o_mul, o_sub]
  congr 1
  rw [Int.tdiv_eq_ediv_of_nonneg (by omega), Int.natCast_emod, Int.emod_def, Int.mul_comm]
theorem o_quo {x y : Nat} (hx : x < 2147483648) (hy : y < 2147483648) : Int32.ofInt (x : Int) / Int32.ofInt (y : Int) = Int32.ofInt ((x / y : Nat) : Int) := by
  rw [o_div (by omega)]
  congr 1
/-- the search for the common divisor, downwards -/
def sW (x y : Nat) : Nat → Nat
  | 0 => y
  | k + 1 => if k = 0 then y else if x % (k + 1) = 0 ∧ y % (k + 1) = 0 then y / (k + 1) else sW x y k
def sWc (x y : Nat) : Bool := decide (sW x y x = y / Nat.gcd x y)
theorem sW_d : ∀ x, x < 20 → ∀ y, y < 20 → sWc (x + 1) (y + 1) = true := by decide +kernel
theorem sW_e {x y : Nat} (hx : 1 ≤ x ∧ x ≤ 20) (hy : 1 ≤ y ∧ y ≤ 20) : sW x y x = y / Nat.gcd x y := by
  have h := sW_d (x - 1) (by omega) (y - 1) (by omega)
  rw [Nat.sub_add_cancel hx.1, Nat.sub_add_cancel hy.1] at h
  exact of_decide_eq_true h
theorem c7_5 (h : KH N a = (1, 0)) (h2 : KH N a2 = (1, 0)) {x y : Nat} (hx : 1 ≤ x ∧ x ≤ 20) (hy : 1 ≤ y ∧ y ≤ 20) (e1 : I a 3 = Int32.ofInt (x : Int)) (e2 : I a2 3 = Int32.ofInt (y : Int)) : ∀ k : Nat, k ≤ 20 → Wp d 7 5 [some (.ref a), some (.ref a2), some (.int (Int32.ofInt (k : Int)))] [] (mk N t w I L D) Q = Q (.inl (some (.int (Int32.ofInt ((sW x y k : Nat) : Int))))) (mk N t w I L D) := by
  intro k
  induction k with
  | zero =>
    intro _
    have g : ¬ (1 < ((0 : Nat) : Int)) := by omega
    simp only [w7_0, w7_1, w7_4, w7_5, w7_6, w7_7, w7_10, w7_11, w7_14, w7_15, w7_16, w7_19, w7_20, w7_23, w7_24, w7_25, w7_28, w7_29, w7_32, w7_33, w7_34, w7_35, w7_38, w7_41, w7_42, w7_45, kn_s, kn_n, zh_mk, zR_mk, zI_mk, zL_mk, zD_mk, wI_mk, wL_mk, wD_mk, zT_mk, zC_mk, kill_i, kill_r, kill_0, kill_n, kill_l, kill_q, zzk_r, zzk_0, zzk_q, zcat_r, zcat_i, zcat_0, zcat_q, cats_0, cats_i, cats_r, cats_l, cats_d, cats_f, cats_q, cats_n, rv_s, rv_0, Nat.reduceAdd, Nat.reduceLeDiff, Nat.reduceEqDiff, Nat.add_zero, Nat.reduceMul, Nat.reduceSub, ne_eq, not_false_eq_true, not_true_eq_false, and_self, and_true, true_and, or_self, or_true, true_or, or_false, false_or, if_true, if_false, reduceIte, reduceCtorEq, implies_true, ite_self, ite_not, h, h2, e1, e2, o_lt (a := 1) (b := ((0 : Nat) : Int)) (by omega), g, sW]
  | succ k ih =>
    intro hk
    have ih' := ih (by omega)
    rw [w7_5]
    by_cases hk0 : k = 0
    · subst hk0
      have g : ¬ (1 < ((0 + 1 : Nat) : Int)) := by omega
      simp only [w7_0, w7_1, w7_4, w7_6, w7_7, w7_10, w7_11, w7_14, w7_15, w7_16, w7_19, w7_20, w7_23, w7_24, w7_25, w7_28, w7_29, w7_32, w7_33, w7_34, w7_35, w7_38, w7_41, w7_42, w7_45, kn_s, kn_n, zh_mk, zR_mk, zI_mk, zL_mk, zD_mk, wI_mk, wL_mk, wD_mk, zT_mk, zC_mk, kill_i, kill_r, kill_0, kill_n, kill_l, kill_q, zzk_r, zzk_0, zzk_q, zcat_r, zcat_i, zcat_0, zcat_q, cats_0, cats_i, cats_r, cats_l, cats_d, cats_f, cats_q, cats_n, rv_s, rv_0, Nat.reduceAdd, Nat.reduceLeDiff, Nat.reduceEqDiff, Nat.add_zero, Nat.reduceMul, Nat.reduceSub, ne_eq, not_false_eq_true, not_true_eq_false, and_self, and_true, true_and, or_self, or_true, true_or, or_false, false_or, if_true, if_false, reduceIte, reduceCtorEq, implies_true, ite_self, ite_not, h, h2, e1, e2, o_lt (a := 1) (b := ((0 + 1 : Nat) : Int)) (by omega), g, sW]
    · have g : 1 < ((k + 1 : Nat) : Int) := by omega
      have g0 : ¬ (((k + 1 : Nat) : Int) = 0) := by omega
      have e : ((k + 1 : Nat) : Int) + -1 = (k : Int) := by omega
      have es : sW x y (k + 1) = if x % (k + 1) = 0 ∧ y % (k + 1) = 0 then y / (k + 1) else sW x y k := by
        show (if k = 0 then _ else _) = _
        rw [if_neg hk0]
      rw [es]
      have m1 := Nat.mod_le x (k + 1)
      have m2 := Nat.mod_le y (k + 1)
      have d1 : (Int32.ofInt ((x % (k + 1) : Nat) : Int) = Int32.ofInt 0) = (x % (k + 1) = 0) := by
        rw [o_eq (by omega)]
        apply propext
        omega
      have d2 : (Int32.ofInt ((y % (k + 1) : Nat) : Int) = Int32.ofInt 0) = (y % (k + 1) = 0) := by
        rw [o_eq (by omega)]
        apply propext
        omega
      by_cases x1 : x % (k + 1) = 0
      · by_cases x2 : y % (k + 1) = 0
        · simp only [w7_0, w7_1, w7_4, w7_6, w7_7, w7_10, w7_11, w7_14, w7_15, w7_16, w7_19, w7_20, w7_23, w7_24, w7_25, w7_28, w7_29, w7_32, w7_33, w7_34, w7_35, w7_38, w7_41, w7_42, w7_45, kn_s, kn_n, zh_mk, zR_mk, zI_mk, zL_mk, zD_mk, wI_mk, wL_mk, wD_mk, zT_mk, zC_mk, kill_i, kill_r, kill_0, kill_n, kill_l, kill_q, zzk_r, zzk_0, zzk_q, zcat_r, zcat_i, zcat_0, zcat_q, cats_0, cats_i, cats_r, cats_l, cats_d, cats_f, cats_q, cats_n, rv_s, rv_0, Nat.reduceAdd, Nat.reduceLeDiff, Nat.reduceEqDiff, Nat.add_zero, Nat.reduceMul, Nat.reduceSub, ne_eq, not_false_eq_true, not_true_eq_false, and_self, and_true, true_and, or_self, or_true, true_or, or_false, false_or, if_true, if_false, reduceIte, reduceCtorEq, implies_true, ite_self, ite_not, h, h2, e1, e2, o_lt (a := 1) (b := ((k + 1 : Nat) : Int)) (by omega), g, o_eq (a := ((k + 1 : Nat) : Int)) (b := 0) (by omega), g0, o_rem (x := x) (y := k + 1) (by omega) (by omega), o_rem (x := y) (y := k + 1) (by omega) (by omega), d1.trans (eq_true x1), d2.trans (eq_true x2), eq_true x1, eq_true x2]
          rw [o_quo (x := y) (y := k + 1) (by omega) (by omega)]
        · simp only [w7_0, w7_1, w7_4, w7_6, w7_7, w7_10, w7_11, w7_14, w7_15, w7_16, w7_19, w7_20, w7_23, w7_24, w7_25, w7_28, w7_29, w7_32, w7_33, w7_34, w7_35, w7_38, w7_41, w7_42, w7_45, kn_s, kn_n, zh_mk, zR_mk, zI_mk, zL_mk, zD_mk, wI_mk, wL_mk, wD_mk, zT_mk, zC_mk, kill_i, kill_r, kill_0, kill_n, kill_l, kill_q, zzk_r, zzk_0, zzk_q, zcat_r, zcat_i, zcat_0, zcat_q, cats_0, cats_i, cats_r, cats_l, cats_d, cats_f, cats_q, cats_n, rv_s, rv_0, Nat.reduceAdd, Nat.reduceLeDiff, Nat.reduceEqDiff, Nat.add_zero, Nat.reduceMul, Nat.reduceSub, ne_eq, not_false_eq_true, not_true_eq_false, and_self, and_true, true_and, or_self, or_true, true_or, or_false, false_or, if_true, if_false, reduceIte, reduceCtorEq, implies_true, ite_self, ite_not, o_add, h, h2, e1, e2, o_lt (a := 1) (b := ((k + 1 : Nat) : Int)) (by omega), g, o_eq (a := ((k + 1 : Nat) : Int)) (b := 0) (by omega), g0, o_rem (x := x) (y := k + 1) (by omega) (by omega), o_rem (x := y) (y := k + 1) (by omega) (by omega), d1.trans (eq_true x1), d2.trans (eq_false x2), eq_true x1, eq_false x2, e, ih', and_false]
      · simp only [w7_0, w7_1, w7_4, w7_6, w7_7, w7_10, w7_11, w7_14, w7_15, w7_16, w7_19, w7_20, w7_23, w7_24, w7_25, w7_28, w7_29, w7_32, w7_33, w7_34, w7_35, w7_38, w7_41, w7_42, w7_45, kn_s, kn_n, zh_mk, zR_mk, zI_mk, zL_mk, zD_mk, wI_mk, wL_mk, wD_mk, zT_mk, zC_mk, kill_i, kill_r, kill_0, kill_n, kill_l, kill_q, zzk_r, zzk_0, zzk_q, zcat_r, zcat_i, zcat_0, zcat_q, cats_0, cats_i, cats_r, cats_l, cats_d, cats_f, cats_q, cats_n, rv_s, rv_0, Nat.reduceAdd, Nat.reduceLeDiff, Nat.reduceEqDiff, Nat.add_zero, Nat.reduceMul, Nat.reduceSub, ne_eq, not_false_eq_true, not_true_eq_false, and_self, and_true, true_and, or_self, or_true, true_or, or_false, false_or, if_true, if_false, reduceIte, reduceCtorEq, implies_true, ite_self, ite_not, o_add, h, h2, e1, e2, o_lt (a := 1) (b := ((k + 1 : Nat) : Int)) (by omega), g, o_eq (a := ((k + 1 : Nat) : Int)) (b := 0) (by omega), g0, o_rem (x := x) (y := k + 1) (by omega) (by omega), d1.trans (eq_false x1), eq_false x1, e, ih', false_and]
theorem c7 (h : KH N a = (1, 0)) (h2 : KH N a2 = (1, 0)) {x y : Int} (hx : 1 ≤ x ∧ x ≤ 20) (hy : 1 ≤ y ∧ y ≤ 20) (e1 : I a 3 = Int32.ofInt x) (e2 : I a2 3 = Int32.ofInt y) : Wp d 7 0 [some (.ref a), some (.ref a2), none] [] (mk N t w I L D) Q = Q (.inl (some (.int (Int32.ofInt (paA x y))))) (mk N t w I L D) := by
  obtain ⟨x, rfl⟩ : ∃ z : Nat, x = z := ⟨x.toNat, by omega⟩
  obtain ⟨y, rfl⟩ : ∃ z : Nat, y = z := ⟨y.toNat, by omega⟩
  have := c7_5 (d := d) (t := t) (w := w) (L := L) (D := D) (Q := Q) h h2 (x := x) (y := y) (by omega) (by omega) e1 e2 x (by omega)
  have e : paA (x : Int) (y : Int) = ((sW x y x : Nat) : Int) := by
    rw [sW_e (by omega) (by omega)]
    unfold paA gW
    rw [Int.toNat_natCast, Int.toNat_natCast, Int.natCast_ediv]
  rw [e]
  simp only [w7_0, w7_1, w7_4, kn_s, kn_n, zh_mk, zR_mk, zI_mk, zL_mk, zD_mk, wI_mk, wL_mk, wD_mk, zT_mk, zC_mk, kill_i, kill_r, kill_0, kill_n, kill_l, kill_q, zzk_r, zzk_0, zzk_q, zcat_r, zcat_i, zcat_0, zcat_q, cats_0, cats_i, cats_r, cats_l, cats_d, cats_f, cats_q, cats_n, rv_s, rv_0, Nat.reduceAdd, Nat.reduceLeDiff, Nat.reduceEqDiff, Nat.add_zero, Nat.reduceMul, Nat.reduceSub, ne_eq, not_false_eq_true, not_true_eq_false, and_self, and_true, true_and, or_self, or_true, true_or, or_false, false_or, if_true, if_false, reduceIte, reduceCtorEq, implies_true, ite_self, ite_not, h, e1]
  exact this
/-- the log's memory with one more entry -/
def lgM (ℓ : Nat → Nat → Int32) (nx : Nat) (s t mv ot am : Int32) : Nat → Nat → Int32 :=
  up2 (up2 (up2 (up2 (up2 (up2 ℓ 7 nx t) 8 nx mv) 9 nx ot) 10 nx am) 6 4 (Int32.ofInt (((nx + 1) % 40 : Nat) : Int))) 6 5 s
theorem h40 : (Int32.ofInt 40 = Int32.ofInt 0) = False := by
  simp only [eq_iff_iff, iff_false]
  decide
theorem c49 (hb : LB b) {nx : Nat} {s : Int} {tm mv ot am : Int32} (hx : nx < 40) (e1 : ℓ 6 4 = Int32.ofInt (nx : Int)) (e2 : ℓ 6 5 = Int32.ofInt s) (hs : 0 ≤ s ∧ s ≤ 40) : Wp d 49 0 [some (.ref (b + 6)), some (.int tm), some (.int mv), some (.int ot), some (.int am)] [] (mk N t w (lay b ℓ I) L D) Q = Q (.inl none) (mk N t w (lay b (lgM ℓ nx (Int32.ofInt (if s + 1 < 40 then s + 1 else 40)) tm mv ot am) I) L D) := by
  have er := o_rem (x := nx + 1) (y := 40) (by omega) (by omega)
  have e40 : ((40 : Nat) : Int) = 40 := rfl
  have e5 : (if 40 < s + 1 then Int32.ofInt 40 else Int32.ofInt (s + 1)) = Int32.ofInt (if s + 1 < 40 then s + 1 else 40) := by
    by_cases h : s + 1 < 40
    · rw [if_pos h, if_neg (by omega)]
    · by_cases h2 : s + 1 = 40
      · rw [if_neg h, if_neg (by omega), h2]
      · rw [if_neg h, if_pos (by omega)]
  rw [e40] at er
  simp only [w49_0, w49_1, w49_4, w49_5, w49_8, w49_9, w49_10, w49_11, w49_14, w49_15, w49_18, w49_19, w49_20, w49_21, w49_24, w49_25, w49_28, w49_29, w49_30, w49_31, w49_34, w49_35, w49_38, w49_40, w49_41, w49_42, w49_43, w49_46, w49_47, w49_48, w49_50, w49_51, w49_54, w49_55, w49_56, w49_59, w49_60, w49_61, w49_63, w49_66, w49_69, kn_s, kn_n, zh_mk, zR_mk, zI_mk, zL_mk, zD_mk, wI_mk, wL_mk, wD_mk, zT_mk, zC_mk, kill_i, kill_r, kill_0, kill_n, kill_l, kill_q, zzk_r, zzk_0, zzk_q, zcat_r, zcat_i, zcat_0, zcat_q, cats_0, cats_i, cats_r, cats_l, cats_d, cats_f, cats_q, cats_n, rv_s, rv_0, Nat.reduceAdd, Nat.reduceLeDiff, Nat.reduceEqDiff, Nat.add_zero, Nat.reduceMul, Nat.reduceSub, ne_eq, not_false_eq_true, not_true_eq_false, and_self, and_true, true_and, or_self, or_true, true_or, or_false, false_or, if_true, if_false, reduceIte, reduceCtorEq, implies_true, ite_self, ite_not, lay_in, lay_0, up2_lay, up2_lay0, kh0, kh1, kh2, kh3, kh4, kh5, kh6, kh7, kh8, kh9, kh10, kh11, kh12, khB, khP, kr2, kr4, kr5, kr7, kr8, kr9, kr10, krB, krP, krG0, krG1, krG2, krG3, krK, Nat.reduceLT, hb, up2_at, Nat.reduceEqDiff, and_false, false_and, e1, e2, o_ixn (j := nx) (n := 40) (by omega), o_tnn (j := nx) (by omega), o_add, cast_s, er, h40, o_lt (a := 40) (b := s + 1) (by omega), e5, lgM]
end S31
