/-! CLASS AND REFERENCE AGREE: the three writers -/
/-- the byte of a code -/
def by8 (z : Int) : Int32 := vp_nar .byte (Int32.ofInt z).toInt8.toInt32
/-- codes put, one after the other -/
def pa (A C F : Nat) : List Int → Nat → (Nat → Nat → Int32) → Nat → Nat → Int32
  | [], _, I => I
  | z :: zs, k, I => pa A C F zs (k + 1) (a1 A C F k (by8 z) I)
def pf : List Int → Nat → (Nat → Int32) → Nat → Int32
  | [], _, f => f
  | z :: zs, k, f => pf zs (k + 1) (up1 f k (by8 z))
/-- digits -/
def dg (a : Nat) : List Int := if 100 ≤ a then [48 + ((a / 100 : Nat) : Int), 48 + ((a / 10 % 10 : Nat) : Int), 48 + ((a % 10 : Nat) : Int)] else if 10 ≤ a then [48 + ((a / 10 % 10 : Nat) : Int), 48 + ((a % 10 : Nat) : Int)] else [48 + ((a % 10 : Nat) : Int)]
def nb (z : Int) : List Int := if z < 0 then 45 :: dg z.natAbs else dg z.natAbs
def sp (k : Nat) : List Int := if 0 < k then [32] else []
/-- a ball of the log -/
def lb (z : Int) : List Int := if z < 0 then [63] else [48 + z]
section S73
variable {A C F k N t w d b n m : Nat} {zs ys : List Int} {I J : Nat → Nat → Int32} {L : Nat → Nat → Int64} {D : Nat → Nat → UInt64} {Q : Rs → St → Prop} {α : Nat → Int} {o : Nat → Nat}
theorem pa_app : pa A C F (zs ++ ys) k I = pa A C F ys (k + zs.length) (pa A C F zs k I) := by
  induction zs generalizing k I with
  | nil => rfl
  | cons z zs ih =>
    show pa A C F (zs ++ ys) (k + 1) _ = _
    rw [ih, show k + 1 + zs.length = k + (z :: zs).length by rw [List.length_cons]; omega]
    rfl
theorem pa_len (h : I C F = Int32.ofInt (k : Int)) : pa A C F zs k I C F = Int32.ofInt ((k + zs.length : Nat) : Int) := by
  induction zs generalizing k I with
  | nil => exact h
  | cons z zs ih =>
    show pa A C F zs (k + 1) _ C F = _
    rw [ih a1_len, show k + 1 + zs.length = k + (z :: zs).length by rw [List.length_cons]; omega]
theorem pa_off {a q : Nat} (h : a ≠ A ∧ (a ≠ C ∨ q ≠ F)) : pa A C F zs k I a q = I a q := by
  induction zs generalizing k I with
  | nil => rfl
  | cons z zs ih =>
    show pa A C F zs (k + 1) _ a q = _
    rw [ih, a1_off h]
theorem pa_BY {f : Nat → Int32} (hA : A ≠ C) (h : BY A C F I k f) : BY A C F (pa A C F zs k I) (k + zs.length) (pf zs k f) := by
  induction zs generalizing k I f with
  | nil => exact h
  | cons z zs ih =>
    have := ih (a1_BY (v := by8 z) h hA)
    rw [show k + 1 + zs.length = k + (z :: zs).length by rw [List.length_cons]; omega] at this
    exact this
theorem pa1_len {z : Int} : pa A C F [z] k I C F = Int32.ofInt ((k + 1 : Nat) : Int) := by
  show a1 A C F k (by8 z) I C F = _
  exact a1_len
theorem dg_len {a : Nat} : (dg a).length ≤ 3 := by
  unfold dg
  split
  · exact Nat.le_refl 3
  · split
    · exact Nat.le_succ 2
    · show 1 ≤ 3
      omega
theorem nb_len {z : Int} : (nb z).length ≤ 4 := by
  unfold nb
  have := dg_len (a := z.natAbs)
  split
  · rw [List.length_cons]; omega
  · omega
theorem nb_1 {z : Int} (h : 0 ≤ z ∧ z < 10) : nb z = [48 + z] := by
  unfold nb dg
  rw [if_neg (by omega), if_neg (by omega), if_neg (by omega), show ((z.natAbs % 10 : Nat) : Int) = z by omega]
theorem sp_len {k : Nat} : (sp k).length ≤ 1 := by
  unfold sp
  split
  · exact Nat.le_refl 1
  · exact Nat.zero_le 1
theorem lb_len {z : Int} : (lb z).length = 1 := by
  unfold lb
  split <;> rfl
theorem k17 {N : Nat} : KH N 17 = (7, 0) := nr rfl
theorem k18 {N : Nat} : KH N 18 = (13, 256) := nr rfl
theorem k302 {N : Nat} : KH N 302 = (13, 300) := nr rfl
theorem kr15_2 {w : Nat} : rv (KR w 15 2) = .ref 17 := nr rfl
theorem kr17_0 {w : Nat} : rv (KR w 17 0) = .ref 18 := nr rfl
theorem kr294_25 {w : Nat} : rv (KR w 294 25) = .ref 302 := nr rfl
theorem o_n256 : Int32.ofNat 256 = Int32.ofInt 256 := nr rfl
theorem n100_0 : (Int32.ofInt 100 = Int32.ofInt 0) = False := by decide
theorem n10_0 : (Int32.ofInt 10 = Int32.ofInt 0) = False := by decide
theorem q100 {a : Nat} (h : a < 2147483648) : Int32.ofInt (a : Int) / Int32.ofInt 100 = Int32.ofInt ((a / 100 : Nat) : Int) := o_quo (y := 100) h (by omega)
theorem q10 {a : Nat} (h : a < 2147483648) : Int32.ofInt (a : Int) / Int32.ofInt 10 = Int32.ofInt ((a / 10 : Nat) : Int) := o_quo (y := 10) h (by omega)
theorem c60 {z : Int} (hk : k < 256) (e : I 17 1 = Int32.ofInt (k : Int)) : Wp d 60 0 [some (.ref 17), some (.int (Int32.ofInt z))] [] (mk N t w I L D) Q = Q (.inl none) (mk N t w (pa 18 17 1 [z] k I) L D) := by
  have g : (k : Int) < 256 := by omega
  simp only [w60_0, w60_1, w60_4, w60_5, w60_8, w60_9, w60_12, w60_13, w60_16, w60_17, w60_20, w60_21, w60_22, w60_23, w60_24, w60_25, w60_28, w60_29, w60_30, w60_33, kn_s, kn_n, zh_mk, zR_mk, zI_mk, zL_mk, zD_mk, wI_mk, wL_mk, wD_mk, zT_mk, zC_mk, kill_i, kill_r, kill_0, kill_n, kill_l, kill_q, zzk_r, zzk_0, zzk_q, zcat_r, zcat_i, zcat_0, cats_0, cats_i, cats_r, cats_l, cats_d, cats_f, rv_s, rv_0, Nat.reduceAdd, Nat.reduceLeDiff, Nat.add_zero, Nat.reduceMul, Nat.reduceSub, ne_eq, not_false_eq_true, not_true_eq_false, and_self, and_true, true_and, or_self, or_true, true_or, or_false, false_or, if_true, if_false, reduceIte, reduceCtorEq, implies_true, ite_self, ite_not, o_add, o_sub, o_mul, o_neg, q_add, q_sub, q_mul, q_neg, o_32, cast_s, k17, k18, kr17_0, o_n256, e, o_lt (a := (k : Int)) (b := 256) (by omega), g, o_ixn (j := k) (n := 256) (by omega), o_tnn (j := k) (by omega), up2_at, Nat.reduceEqDiff, false_and]
  rfl
theorem c61 (hk : k < 256) (e : I 17 1 = Int32.ofInt (k : Int)) : Wp (d + 1) 61 0 [some (.ref 17)] [] (mk N t w I L D) Q = Q (.inl none) (mk N t w (pa 18 17 1 (sp k) k I) L D) := by
  by_cases h : 0 < k
  · have g : 0 < (k : Int) := by omega
    simp only [w61_0, w61_1, w61_4, w61_7, w61_8, w61_10, w61_13, kn_s, kn_n, zh_mk, zR_mk, zI_mk, zL_mk, zD_mk, wI_mk, wL_mk, wD_mk, zT_mk, zC_mk, kill_i, kill_r, kill_0, kill_n, kill_l, kill_q, zzk_r, zzk_0, zzk_q, zcat_r, zcat_i, zcat_0, cats_0, cats_i, cats_r, cats_l, cats_d, cats_f, rv_s, rv_0, Nat.reduceAdd, Nat.reduceLeDiff, Nat.add_zero, Nat.reduceMul, Nat.reduceSub, ne_eq, not_false_eq_true, not_true_eq_false, and_self, and_true, true_and, or_self, or_true, true_or, or_false, false_or, if_true, if_false, reduceIte, reduceCtorEq, implies_true, ite_self, ite_not, k17, e, o_lt (a := 0) (b := (k : Int)) (by omega), g, c60 hk e, sp, eq_true h]
  · have g : ¬ (0 < (k : Int)) := by omega
    simp only [w61_0, w61_1, w61_4, w61_7, w61_8, w61_10, w61_13, kn_s, kn_n, zh_mk, zR_mk, zI_mk, zL_mk, zD_mk, wI_mk, wL_mk, wD_mk, zT_mk, zC_mk, kill_i, kill_r, kill_0, kill_n, kill_l, kill_q, zzk_r, zzk_0, zzk_q, zcat_r, zcat_i, zcat_0, cats_0, cats_i, cats_r, cats_l, cats_d, cats_f, rv_s, rv_0, Nat.reduceAdd, Nat.reduceLeDiff, Nat.add_zero, Nat.reduceMul, Nat.reduceSub, ne_eq, not_false_eq_true, not_true_eq_false, and_self, and_true, true_and, or_self, or_true, true_or, or_false, false_or, if_true, if_false, reduceIte, reduceCtorEq, implies_true, ite_self, ite_not, k17, e, o_lt (a := 0) (b := (k : Int)) (by omega), g, sp, eq_false h, pa]
theorem c59_21 {a : Nat} {x : Option Value} (ha : a < 1000) (hk : k + 3 ≤ 256) (e : I 17 1 = Int32.ofInt (k : Int)) : Wp (d + 1) 59 21 [some (.ref 17), x, some (.int (Int32.ofInt (a : Int)))] [] (mk N t w I L D) Q = Q (.inl none) (mk N t w (pa 18 17 1 (dg a) k I) L D) := by
  have e1 : 48 + (((a / 100 : Nat) : Int) - ((a / 100 / 10 : Nat) : Int) * 10) = 48 + ((a / 100 : Nat) : Int) := by omega
  have e2 : 48 + (((a / 10 : Nat) : Int) - ((a / 10 / 10 : Nat) : Int) * 10) = 48 + ((a / 10 % 10 : Nat) : Int) := by omega
  have e3 : 48 + ((a : Int) - ((a / 10 : Nat) : Int) * 10) = 48 + ((a % 10 : Nat) : Int) := by omega
  have p : ∀ (z : Int) (k : Nat) (I : Nat → Nat → Int32), pa 18 17 1 [z] k I 17 1 = Int32.ofInt ((k + 1 : Nat) : Int) := fun z k I => pa1_len
  by_cases h : 100 ≤ a
  · have g : ¬ ((a : Int) < 100) := by omega
    have g2 : ¬ ((a : Int) < 10) := by omega
    simp only [w59_21, w59_22, w59_24, w59_27, w59_28, w59_30, w59_31, w59_33, w59_34, w59_36, w59_37, w59_38, w59_41, w59_42, w59_44, w59_47, w59_48, w59_50, w59_51, w59_53, w59_54, w59_56, w59_57, w59_58, w59_61, w59_62, w59_64, w59_65, w59_67, w59_68, w59_69, w59_72, kn_s, kn_n, zh_mk, zR_mk, zI_mk, zL_mk, zD_mk, wI_mk, wL_mk, wD_mk, zT_mk, zC_mk, kill_i, kill_r, kill_0, kill_n, kill_l, kill_q, zzk_r, zzk_0, zzk_q, zcat_r, zcat_i, zcat_0, cats_0, cats_i, cats_r, cats_l, cats_d, cats_f, rv_s, rv_0, Nat.reduceAdd, Nat.reduceLeDiff, Nat.add_zero, Nat.reduceMul, Nat.reduceSub, ne_eq, not_false_eq_true, not_true_eq_false, and_self, and_true, true_and, or_self, or_true, true_or, or_false, false_or, if_true, if_false, reduceIte, reduceCtorEq, implies_true, ite_self, ite_not, k17, o_add, o_sub, o_mul, o_neg, q_add, q_sub, q_mul, q_neg, o_32, cast_s, n100_0, n10_0, q100 (a := a) (by omega), q10 (a := a) (by omega), q10 (a := a / 10) (by omega), q10 (a := a / 100) (by omega), o_lt (a := (a : Int)) (b := 100) (by omega), o_lt (a := (a : Int)) (b := 10) (by omega), g, g2, e1, e2, e3, c60 (k := k) (by omega) e, c60 (k := k + 1) (by omega) (p _ _ _), c60 (k := k + 1 + 1) (by omega) (p _ _ _), dg, eq_true h]
    rfl
  · by_cases h2 : 10 ≤ a
    · have g : (a : Int) < 100 := by omega
      have g2 : ¬ ((a : Int) < 10) := by omega
      simp only [w59_21, w59_22, w59_24, w59_27, w59_28, w59_30, w59_31, w59_33, w59_34, w59_36, w59_37, w59_38, w59_41, w59_42, w59_44, w59_47, w59_48, w59_50, w59_51, w59_53, w59_54, w59_56, w59_57, w59_58, w59_61, w59_62, w59_64, w59_65, w59_67, w59_68, w59_69, w59_72, kn_s, kn_n, zh_mk, zR_mk, zI_mk, zL_mk, zD_mk, wI_mk, wL_mk, wD_mk, zT_mk, zC_mk, kill_i, kill_r, kill_0, kill_n, kill_l, kill_q, zzk_r, zzk_0, zzk_q, zcat_r, zcat_i, zcat_0, cats_0, cats_i, cats_r, cats_l, cats_d, cats_f, rv_s, rv_0, Nat.reduceAdd, Nat.reduceLeDiff, Nat.add_zero, Nat.reduceMul, Nat.reduceSub, ne_eq, not_false_eq_true, not_true_eq_false, and_self, and_true, true_and, or_self, or_true, true_or, or_false, false_or, if_true, if_false, reduceIte, reduceCtorEq, implies_true, ite_self, ite_not, k17, o_add, o_sub, o_mul, o_neg, q_add, q_sub, q_mul, q_neg, o_32, cast_s, n10_0, q10 (a := a) (by omega), q10 (a := a / 10) (by omega), o_lt (a := (a : Int)) (b := 100) (by omega), o_lt (a := (a : Int)) (b := 10) (by omega), g, g2, e2, e3, c60 (k := k) (by omega) e, c60 (k := k + 1) (by omega) (p _ _ _), dg, eq_false h, eq_true h2]
      rfl
    · have g : (a : Int) < 100 := by omega
      have g2 : (a : Int) < 10 := by omega
      simp only [w59_21, w59_22, w59_24, w59_27, w59_28, w59_30, w59_31, w59_33, w59_34, w59_36, w59_37, w59_38, w59_41, w59_42, w59_44, w59_47, w59_48, w59_50, w59_51, w59_53, w59_54, w59_56, w59_57, w59_58, w59_61, w59_62, w59_64, w59_65, w59_67, w59_68, w59_69, w59_72, kn_s, kn_n, zh_mk, zR_mk, zI_mk, zL_mk, zD_mk, wI_mk, wL_mk, wD_mk, zT_mk, zC_mk, kill_i, kill_r, kill_0, kill_n, kill_l, kill_q, zzk_r, zzk_0, zzk_q, zcat_r, zcat_i, zcat_0, cats_0, cats_i, cats_r, cats_l, cats_d, cats_f, rv_s, rv_0, Nat.reduceAdd, Nat.reduceLeDiff, Nat.add_zero, Nat.reduceMul, Nat.reduceSub, ne_eq, not_false_eq_true, not_true_eq_false, and_self, and_true, true_and, or_self, or_true, true_or, or_false, false_or, if_true, if_false, reduceIte, reduceCtorEq, implies_true, ite_self, ite_not, k17, o_add, o_sub, o_mul, o_neg, q_add, q_sub, q_mul, q_neg, o_32, cast_s, n10_0, q10 (a := a) (by omega), o_lt (a := (a : Int)) (b := 100) (by omega), o_lt (a := (a : Int)) (b := 10) (by omega), g, g2, e3, c60 (k := k) (by omega) e, dg, eq_false h, eq_false h2]
theorem c59 {z : Int} (hz : -1000 < z ∧ z < 1000) (hk : k + 4 ≤ 256) (e : I 17 1 = Int32.ofInt (k : Int)) : Wp (d + 1) 59 0 [some (.ref 17), some (.int (Int32.ofInt z)), none] [] (mk N t w I L D) Q = Q (.inl none) (mk N t w (pa 18 17 1 (nb z) k I) L D) := by
  have l := fun (x : Option Value) (k : Nat) (I : Nat → Nat → Int32) (hk : k + 3 ≤ 256) (e : I 17 1 = Int32.ofInt (k : Int)) => c59_21 (d := d) (N := N) (t := t) (w := w) (L := L) (D := D) (Q := Q) (a := z.natAbs) (x := x) (by omega) hk e
  unfold nb
  by_cases h : z < 0
  · rw [show ((z.natAbs : Nat) : Int) = -z by omega] at l
    simp only [w59_0, w59_1, w59_4, w59_5, w59_7, w59_10, w59_11, w59_14, w59_15, w59_16, w59_19, w59_20, kn_s, kn_n, zh_mk, zR_mk, zI_mk, zL_mk, zD_mk, wI_mk, wL_mk, wD_mk, zT_mk, zC_mk, kill_i, kill_r, kill_0, kill_n, kill_l, kill_q, zzk_r, zzk_0, zzk_q, zcat_r, zcat_i, zcat_0, cats_0, cats_i, cats_r, cats_l, cats_d, cats_f, rv_s, rv_0, Nat.reduceAdd, Nat.reduceLeDiff, Nat.add_zero, Nat.reduceMul, Nat.reduceSub, ne_eq, not_false_eq_true, not_true_eq_false, and_self, and_true, true_and, or_self, or_true, true_or, or_false, false_or, if_true, if_false, reduceIte, reduceCtorEq, implies_true, ite_self, ite_not, k17, o_neg, o_lt (a := z) (b := 0) (by omega), h, c60 (k := k) (by omega) e]
    exact l _ (k + 1) _ (by omega) pa1_len
  · rw [show ((z.natAbs : Nat) : Int) = z by omega] at l
    simp only [w59_0, w59_1, w59_4, w59_5, w59_7, w59_10, w59_11, w59_14, w59_15, w59_16, w59_19, w59_20, kn_s, kn_n, zh_mk, zR_mk, zI_mk, zL_mk, zD_mk, wI_mk, wL_mk, wD_mk, zT_mk, zC_mk, kill_i, kill_r, kill_0, kill_n, kill_l, kill_q, zzk_r, zzk_0, zzk_q, zcat_r, zcat_i, zcat_0, cats_0, cats_i, cats_r, cats_l, cats_d, cats_f, rv_s, rv_0, Nat.reduceAdd, Nat.reduceLeDiff, Nat.add_zero, Nat.reduceMul, Nat.reduceSub, ne_eq, not_false_eq_true, not_true_eq_false, and_self, and_true, true_and, or_self, or_true, true_or, or_false, false_or, if_true, if_false, reduceIte, reduceCtorEq, implies_true, ite_self, ite_not, k17, o_lt (a := z) (b := 0) (by omega), h]
    exact l _ k _ (by omega) e
theorem c100 {z : Int} (hz : z = -2 ∨ (0 ≤ z ∧ z < 10)) (hk : k + 4 ≤ 256) (e : I 17 1 = Int32.ofInt (k : Int)) : Wp (d + 2) 100 0 [some (.ref 15), some (.int (Int32.ofInt z))] [] (mk N t w I L D) Q = Q (.inl none) (mk N t w (pa 18 17 1 (lb z) k I) L D) := by
  unfold lb
  by_cases h : z < 0
  · simp only [w100_0, w100_1, w100_4, w100_5, w100_8, w100_10, w100_13, w100_16, w100_17, w100_20, w100_21, w100_24, kn_s, kn_n, zh_mk, zR_mk, zI_mk, zL_mk, zD_mk, wI_mk, wL_mk, wD_mk, zT_mk, zC_mk, kill_i, kill_r, kill_0, kill_n, kill_l, kill_q, zzk_r, zzk_0, zzk_q, zcat_r, zcat_i, zcat_0, cats_0, cats_i, cats_r, cats_l, cats_d, cats_f, rv_s, rv_0, Nat.reduceAdd, Nat.reduceLeDiff, Nat.add_zero, Nat.reduceMul, Nat.reduceSub, ne_eq, not_false_eq_true, not_true_eq_false, and_self, and_true, true_and, or_self, or_true, true_or, or_false, false_or, if_true, if_false, reduceIte, reduceCtorEq, implies_true, ite_self, ite_not, k15, k17, kr15_2, o_lt (a := z) (b := 0) (by omega), h, c60 (k := k) (by omega) e]
  · simp only [w100_0, w100_1, w100_4, w100_5, w100_8, w100_10, w100_13, w100_16, w100_17, w100_20, w100_21, w100_24, kn_s, kn_n, zh_mk, zR_mk, zI_mk, zL_mk, zD_mk, wI_mk, wL_mk, wD_mk, zT_mk, zC_mk, kill_i, kill_r, kill_0, kill_n, kill_l, kill_q, zzk_r, zzk_0, zzk_q, zcat_r, zcat_i, zcat_0, cats_0, cats_i, cats_r, cats_l, cats_d, cats_f, rv_s, rv_0, Nat.reduceAdd, Nat.reduceLeDiff, Nat.add_zero, Nat.reduceMul, Nat.reduceSub, ne_eq, not_false_eq_true, not_true_eq_false, and_self, and_true, true_and, or_self, or_true, true_or, or_false, false_or, if_true, if_false, reduceIte, reduceCtorEq, implies_true, ite_self, ite_not, k15, k17, kr15_2, o_lt (a := z) (b := 0) (by omega), h, c59 (z := z) (by omega) hk e, nb_1 (z := z) (by omega)]
theorem c282 {z : Int} (hk : k < 300) (e : I 294 26 = Int32.ofInt (k : Int)) : Wp d 282 0 [some (.ref 294), some (.int (Int32.ofInt z))] [] (mk N t w I L D) Q = Q (.inl none) (mk N t w (pa 302 294 26 [z] k I) L D) := by
  simp only [w282_0, w282_1, w282_4, w282_5, w282_8, w282_9, w282_10, w282_11, w282_12, w282_13, w282_16, w282_17, w282_18, w282_21, kn_s, kn_n, zh_mk, zR_mk, zI_mk, zL_mk, zD_mk, wI_mk, wL_mk, wD_mk, zT_mk, zC_mk, kill_i, kill_r, kill_0, kill_n, kill_l, kill_q, zzk_r, zzk_0, zzk_q, zcat_r, zcat_i, zcat_0, cats_0, cats_i, cats_r, cats_l, cats_d, cats_f, rv_s, rv_0, Nat.reduceAdd, Nat.reduceLeDiff, Nat.add_zero, Nat.reduceMul, Nat.reduceSub, ne_eq, not_false_eq_true, not_true_eq_false, and_self, and_true, true_and, or_self, or_true, true_or, or_false, false_or, if_true, if_false, reduceIte, reduceCtorEq, implies_true, ite_self, ite_not, o_add, o_sub, o_mul, o_neg, q_add, q_sub, q_mul, q_neg, o_32, cast_s, kM, k302, kr294_25, e, o_ixn (j := k) (n := 300) (by omega), o_tnn (j := k) (by omega), up2_at, Nat.reduceEqDiff, false_and]
  rfl
theorem c284 (hk : k < 300) (e : I 294 26 = Int32.ofInt (k : Int)) : Wp (d + 1) 284 0 [some (.ref 294)] [] (mk N t w I L D) Q = Q (.inl none) (mk N t w (pa 302 294 26 (sp k) k I) L D) := by
  by_cases h : 0 < k
  · have g : 0 < (k : Int) := by omega
    simp only [w284_0, w284_1, w284_4, w284_7, w284_8, w284_10, w284_13, kn_s, kn_n, zh_mk, zR_mk, zI_mk, zL_mk, zD_mk, wI_mk, wL_mk, wD_mk, zT_mk, zC_mk, kill_i, kill_r, kill_0, kill_n, kill_l, kill_q, zzk_r, zzk_0, zzk_q, zcat_r, zcat_i, zcat_0, cats_0, cats_i, cats_r, cats_l, cats_d, cats_f, rv_s, rv_0, Nat.reduceAdd, Nat.reduceLeDiff, Nat.add_zero, Nat.reduceMul, Nat.reduceSub, ne_eq, not_false_eq_true, not_true_eq_false, and_self, and_true, true_and, or_self, or_true, true_or, or_false, false_or, if_true, if_false, reduceIte, reduceCtorEq, implies_true, ite_self, ite_not, kM, e, o_lt (a := 0) (b := (k : Int)) (by omega), g, c282 hk e, sp, eq_true h]
  · have g : ¬ (0 < (k : Int)) := by omega
    simp only [w284_0, w284_1, w284_4, w284_7, w284_8, w284_10, w284_13, kn_s, kn_n, zh_mk, zR_mk, zI_mk, zL_mk, zD_mk, wI_mk, wL_mk, wD_mk, zT_mk, zC_mk, kill_i, kill_r, kill_0, kill_n, kill_l, kill_q, zzk_r, zzk_0, zzk_q, zcat_r, zcat_i, zcat_0, cats_0, cats_i, cats_r, cats_l, cats_d, cats_f, rv_s, rv_0, Nat.reduceAdd, Nat.reduceLeDiff, Nat.add_zero, Nat.reduceMul, Nat.reduceSub, ne_eq, not_false_eq_true, not_true_eq_false, and_self, and_true, true_and, or_self, or_true, true_or, or_false, false_or, if_true, if_false, reduceIte, reduceCtorEq, implies_true, ite_self, ite_not, kM, e, o_lt (a := 0) (b := (k : Int)) (by omega), g, sp, eq_false h, pa]
theorem c285_15 {a : Nat} {x : Option Value} (ha : a < 1000) (hk : k + 3 ≤ 256) (e : I 294 26 = Int32.ofInt (k : Int)) : Wp (d + 1) 285 15 [some (.ref 294), x, some (.int (Int32.ofInt (a : Int)))] [] (mk N t w I L D) Q = Q (.inl none) (mk N t w (pa 302 294 26 (dg a) k I) L D) := by
  have e2 : 48 + (((a / 10 : Nat) : Int) - ((a / 10 / 10 : Nat) : Int) * 10) = 48 + ((a / 10 % 10 : Nat) : Int) := by omega
  have e3 : 48 + ((a : Int) - ((a / 10 : Nat) : Int) * 10) = 48 + ((a % 10 : Nat) : Int) := by omega
  have p : ∀ (z : Int) (k : Nat) (I : Nat → Nat → Int32), pa 302 294 26 [z] k I 294 26 = Int32.ofInt ((k + 1 : Nat) : Int) := fun z k I => pa1_len
  by_cases h : 100 ≤ a
  · have g : 99 < (a : Int) := by omega
    have g2 : 9 < (a : Int) := by omega
    simp only [w285_15, w285_16, w285_18, w285_21, w285_22, w285_24, w285_25, w285_27, w285_28, w285_29, w285_32, w285_33, w285_35, w285_38, w285_39, w285_41, w285_42, w285_44, w285_45, w285_47, w285_48, w285_49, w285_52, w285_53, w285_55, w285_56, w285_58, w285_59, w285_60, w285_63, kn_s, kn_n, zh_mk, zR_mk, zI_mk, zL_mk, zD_mk, wI_mk, wL_mk, wD_mk, zT_mk, zC_mk, kill_i, kill_r, kill_0, kill_n, kill_l, kill_q, zzk_r, zzk_0, zzk_q, zcat_r, zcat_i, zcat_0, cats_0, cats_i, cats_r, cats_l, cats_d, cats_f, rv_s, rv_0, Nat.reduceAdd, Nat.reduceLeDiff, Nat.add_zero, Nat.reduceMul, Nat.reduceSub, ne_eq, not_false_eq_true, not_true_eq_false, and_self, and_true, true_and, or_self, or_true, true_or, or_false, false_or, if_true, if_false, reduceIte, reduceCtorEq, implies_true, ite_self, ite_not, kM, o_add, o_sub, o_mul, o_neg, q_add, q_sub, q_mul, q_neg, o_32, cast_s, n100_0, n10_0, q100 (a := a) (by omega), q10 (a := a) (by omega), q10 (a := a / 10) (by omega), o_lt (a := 99) (b := (a : Int)) (by omega), o_lt (a := 9) (b := (a : Int)) (by omega), g, g2, e2, e3, c282 (k := k) (by omega) e, c282 (k := k + 1) (by omega) (p _ _ _), c282 (k := k + 1 + 1) (by omega) (p _ _ _), dg, eq_true h]
    rfl
  · by_cases h2 : 10 ≤ a
    · have g : ¬ (99 < (a : Int)) := by omega
      have g2 : 9 < (a : Int) := by omega
      simp only [w285_15, w285_16, w285_18, w285_21, w285_22, w285_24, w285_25, w285_27, w285_28, w285_29, w285_32, w285_33, w285_35, w285_38, w285_39, w285_41, w285_42, w285_44, w285_45, w285_47, w285_48, w285_49, w285_52, w285_53, w285_55, w285_56, w285_58, w285_59, w285_60, w285_63, kn_s, kn_n, zh_mk, zR_mk, zI_mk, zL_mk, zD_mk, wI_mk, wL_mk, wD_mk, zT_mk, zC_mk, kill_i, kill_r, kill_0, kill_n, kill_l, kill_q, zzk_r, zzk_0, zzk_q, zcat_r, zcat_i, zcat_0, cats_0, cats_i, cats_r, cats_l, cats_d, cats_f, rv_s, rv_0, Nat.reduceAdd, Nat.reduceLeDiff, Nat.add_zero, Nat.reduceMul, Nat.reduceSub, ne_eq, not_false_eq_true, not_true_eq_false, and_self, and_true, true_and, or_self, or_true, true_or, or_false, false_or, if_true, if_false, reduceIte, reduceCtorEq, implies_true, ite_self, ite_not, kM, o_add, o_sub, o_mul, o_neg, q_add, q_sub, q_mul, q_neg, o_32, cast_s, n10_0, q10 (a := a) (by omega), q10 (a := a / 10) (by omega), o_lt (a := 99) (b := (a : Int)) (by omega), o_lt (a := 9) (b := (a : Int)) (by omega), g, g2, e2, e3, c282 (k := k) (by omega) e, c282 (k := k + 1) (by omega) (p _ _ _), dg, eq_false h, eq_true h2]
      rfl
    · have g : ¬ (99 < (a : Int)) := by omega
      have g2 : ¬ (9 < (a : Int)) := by omega
      simp only [w285_15, w285_16, w285_18, w285_21, w285_22, w285_24, w285_25, w285_27, w285_28, w285_29, w285_32, w285_33, w285_35, w285_38, w285_39, w285_41, w285_42, w285_44, w285_45, w285_47, w285_48, w285_49, w285_52, w285_53, w285_55, w285_56, w285_58, w285_59, w285_60, w285_63, kn_s, kn_n, zh_mk, zR_mk, zI_mk, zL_mk, zD_mk, wI_mk, wL_mk, wD_mk, zT_mk, zC_mk, kill_i, kill_r, kill_0, kill_n, kill_l, kill_q, zzk_r, zzk_0, zzk_q, zcat_r, zcat_i, zcat_0, cats_0, cats_i, cats_r, cats_l, cats_d, cats_f, rv_s, rv_0, Nat.reduceAdd, Nat.reduceLeDiff, Nat.add_zero, Nat.reduceMul, Nat.reduceSub, ne_eq, not_false_eq_true, not_true_eq_false, and_self, and_true, true_and, or_self, or_true, true_or, or_false, false_or, if_true, if_false, reduceIte, reduceCtorEq, implies_true, ite_self, ite_not, kM, o_add, o_sub, o_mul, o_neg, q_add, q_sub, q_mul, q_neg, o_32, cast_s, n10_0, q10 (a := a) (by omega), o_lt (a := 99) (b := (a : Int)) (by omega), o_lt (a := 9) (b := (a : Int)) (by omega), g, g2, e3, c282 (k := k) (by omega) e, dg, eq_false h, eq_false h2]
theorem o_le0 {z : Int} (hz : -1000 < z ∧ z < 1000) : (Int32.ofInt 0 ≤ Int32.ofInt z) = ¬ (z < 0) := by
  rw [← Int32.not_lt, o_lt (a := z) (b := 0) (by omega)]
theorem c285 {z : Int} (hz : -1000 < z ∧ z < 1000) (hk : k + 4 ≤ 256) (e : I 294 26 = Int32.ofInt (k : Int)) : Wp (d + 1) 285 0 [some (.ref 294), some (.int (Int32.ofInt z)), none] [] (mk N t w I L D) Q = Q (.inl none) (mk N t w (pa 302 294 26 (nb z) k I) L D) := by
  have l := fun (x : Option Value) (k : Nat) (I : Nat → Nat → Int32) (hk : k + 3 ≤ 256) (e : I 294 26 = Int32.ofInt (k : Int)) => c285_15 (d := d) (N := N) (t := t) (w := w) (L := L) (D := D) (Q := Q) (a := z.natAbs) (x := x) (by omega) hk e
  unfold nb
  by_cases h : z < 0
  · rw [show ((z.natAbs : Nat) : Int) = 0 - z by omega] at l
    simp only [w285_0, w285_1, w285_4, w285_5, w285_7, w285_10, w285_11, w285_14, kn_s, kn_n, zh_mk, zR_mk, zI_mk, zL_mk, zD_mk, wI_mk, wL_mk, wD_mk, zT_mk, zC_mk, kill_i, kill_r, kill_0, kill_n, kill_l, kill_q, zzk_r, zzk_0, zzk_q, zcat_r, zcat_i, zcat_0, cats_0, cats_i, cats_r, cats_l, cats_d, cats_f, rv_s, rv_0, Nat.reduceAdd, Nat.reduceLeDiff, Nat.add_zero, Nat.reduceMul, Nat.reduceSub, ne_eq, not_false_eq_true, not_true_eq_false, and_self, and_true, true_and, or_self, or_true, true_or, or_false, false_or, if_true, if_false, reduceIte, reduceCtorEq, implies_true, ite_self, ite_not, kM, o_sub, o_le0 hz, o_lt (a := z) (b := 0) (by omega), h, c282 (k := k) (by omega) e]
    exact l _ (k + 1) _ (by omega) pa1_len
  · rw [show ((z.natAbs : Nat) : Int) = z by omega] at l
    simp only [w285_0, w285_1, w285_4, w285_5, w285_7, w285_10, w285_11, w285_14, kn_s, kn_n, zh_mk, zR_mk, zI_mk, zL_mk, zD_mk, wI_mk, wL_mk, wD_mk, zT_mk, zC_mk, kill_i, kill_r, kill_0, kill_n, kill_l, kill_q, zzk_r, zzk_0, zzk_q, zcat_r, zcat_i, zcat_0, cats_0, cats_i, cats_r, cats_l, cats_d, cats_f, rv_s, rv_0, Nat.reduceAdd, Nat.reduceLeDiff, Nat.add_zero, Nat.reduceMul, Nat.reduceSub, ne_eq, not_false_eq_true, not_true_eq_false, and_self, and_true, true_and, or_self, or_true, true_or, or_false, false_or, if_true, if_false, reduceIte, reduceCtorEq, implies_true, ite_self, ite_not, kM, o_le0 hz, o_lt (a := z) (b := 0) (by omega), h]
    exact l _ k _ (by omega) e
theorem c287 {z : Int} (hz : z = -2 ∨ (0 ≤ z ∧ z < 10)) (hk : k < 256) (e : I 294 26 = Int32.ofInt (k : Int)) : Wp (d + 1) 287 0 [some (.ref 294), some (.int (Int32.ofInt z))] [] (mk N t w I L D) Q = Q (.inl none) (mk N t w (pa 302 294 26 (lb z) k I) L D) := by
  unfold lb
  by_cases h : z = -2
  · have h2 : z < 0 := by omega
    simp only [w287_0, w287_1, w287_2, w287_4, w287_7, w287_9, w287_12, w287_14, w287_15, w287_16, w287_19, kn_s, kn_n, zh_mk, zR_mk, zI_mk, zL_mk, zD_mk, wI_mk, wL_mk, wD_mk, zT_mk, zC_mk, kill_i, kill_r, kill_0, kill_n, kill_l, kill_q, zzk_r, zzk_0, zzk_q, zcat_r, zcat_i, zcat_0, cats_0, cats_i, cats_r, cats_l, cats_d, cats_f, rv_s, rv_0, Nat.reduceAdd, Nat.reduceLeDiff, Nat.add_zero, Nat.reduceMul, Nat.reduceSub, ne_eq, not_false_eq_true, not_true_eq_false, and_self, and_true, true_and, or_self, or_true, true_or, or_false, false_or, if_true, if_false, reduceIte, reduceCtorEq, implies_true, ite_self, ite_not, kM, o_eq (a := z) (b := -2) (by omega), eq_true h, eq_true h2, c282 (k := k) (by omega) e]
  · have h2 : ¬ (z < 0) := by omega
    simp only [w287_0, w287_1, w287_2, w287_4, w287_7, w287_9, w287_12, w287_14, w287_15, w287_16, w287_19, kn_s, kn_n, zh_mk, zR_mk, zI_mk, zL_mk, zD_mk, wI_mk, wL_mk, wD_mk, zT_mk, zC_mk, kill_i, kill_r, kill_0, kill_n, kill_l, kill_q, zzk_r, zzk_0, zzk_q, zcat_r, zcat_i, zcat_0, cats_0, cats_i, cats_r, cats_l, cats_d, cats_f, rv_s, rv_0, Nat.reduceAdd, Nat.reduceLeDiff, Nat.add_zero, Nat.reduceMul, Nat.reduceSub, ne_eq, not_false_eq_true, not_true_eq_false, and_self, and_true, true_and, or_self, or_true, true_or, or_false, false_or, if_true, if_false, reduceIte, reduceCtorEq, implies_true, ite_self, ite_not, kM, o_add, o_sub, o_mul, o_neg, q_add, q_sub, q_mul, q_neg, o_32, cast_s, o_eq (a := z) (b := -2) (by omega), eq_false h, eq_false h2, c282 (k := k) (by omega) e]
end S73
/-- what a cell shows -/
def lce (α : Nat → Int) (n m : Nat) (c : Int) : Int := if bAt α n c = -1 then (if pAt α m c = -1 then 46 else 35) else 48 + bAt α n c
def lnC (α : Nat → Int) (n m : Nat) : Nat → Nat → List Int
  | 0, _ => []
  | r + 1, i => lce α n m (i : Int) :: lnC α n m r (i + 1)
theorem lnC_len {α : Nat → Int} {n m : Nat} : ∀ r i, (lnC α n m r i).length = r
  | 0, _ => rfl
  | r + 1, i => by
    show (lnC α n m r (i + 1)).length + 1 = r + 1
    rw [lnC_len r (i + 1)]
/-- what a ball shows -/
def be (α : Nat → Int) (q k : Nat) : List Int := sp k ++ (nb (q : Int) ++ ([64] ++ (nb (α (B9 q 0)) ++ ([58] ++ nb (α (B9 q 1))))))
theorem be_len {α : Nat → Int} {q k : Nat} : (be α q k).length ≤ 15 := by
  unfold be
  simp only [List.length_append, List.length_cons, List.length_nil]
  have h1 := sp_len (k := k)
  have h2 := nb_len (z := (q : Int))
  have h3 := nb_len (z := α (B9 q 0))
  have h4 := nb_len (z := α (B9 q 1))
  omega
def bls (α : Nat → Int) (o : Nat → Nat) : Nat → Nat → Nat → List Int
  | 0, _, _ => []
  | r + 1, p, k => be α (o p) k ++ bls α o r (p + 1) (k + (be α (o p) k).length)
/-- what an entry of the log shows -/
def ge (α : Nat → Int) (i k : Nat) : List Int := sp k ++ (lb (α (218 + 4 * i + 1)) ++ ((if α (218 + 4 * i + 2) = -1 then [124] else [120] ++ lb (α (218 + 4 * i + 2))) ++ ([47] ++ nb (α (218 + 4 * i + 3)))))
theorem ge_len {α : Nat → Int} {i k : Nat} : (ge α i k).length ≤ 15 := by
  unfold ge
  have h1 := sp_len (k := k)
  have h2 := nb_len (z := α (218 + 4 * i + 3))
  by_cases h : α (218 + 4 * i + 2) = -1
  · rw [if_pos h]
    simp only [List.length_append, List.length_cons, List.length_nil, lb_len]
    omega
  · rw [if_neg h]
    simp only [List.length_append, List.length_cons, List.length_nil, lb_len]
    omega
def gls (α : Nat → Int) : Nat → Nat → List Int
  | 0, _ => []
  | i + 1, k => ge α i k ++ gls α i (k + (ge α i k).length)
section S73b
variable {N t w d b n m : Nat} {J : Nat → Nat → Int32} {L : Nat → Nat → Int64} {D : Nat → Nat → UInt64} {Q : Rs → St → Prop} {α : Nat → Int} {o : Nat → Nat}
theorem pa_RL {A C F k : Nat} {zs : List Int} (h : RL (gl b J) (gl b L) α n m o) (hA : A < b ∨ b + 27 ≤ A) (hC : C < b ∨ b + 27 ≤ C) : RL (gl b (pa A C F zs k J)) (gl b L) α n m o :=
  RL_ext h (fun a ha q => pa_off (by omega)) (fun _ _ _ => rfl)
theorem LB_ge (hb : LB b) : 19 ≤ b := LB_19 b hb
theorem c27r (hb : LB b) (hR : RL (gl b J) (gl b L) α n m o) (hG : GA α n m o) {c : Int} (hc : -2147483648 ≤ c ∧ c < 2147483648) : Wp d 27 0 [some (.ref b), some (.int (Int32.ofInt c)), none] [] (mk N t w J L D) Q = Q (.inl (some (.int (Int32.ofInt (bAt α n c))))) (mk N t w J L D) := by
  have := c27 (d := d) (N := N) (t := t) (w := w) (ℓ := gl b J) (I := J) (L := L) (D := D) (Q := Q) hb hR hG hc
  rw [lay_gl] at this
  exact this
theorem c97_10 (hb : LB b) (h5 : rv (KR w 15 5) = .ref b) (hG : GA α n m o) : ∀ (r i k : Nat) (J : Nat → Nat → Int32) (u : Option Value), RL (gl b J) (gl b L) α n m o → J 17 1 = Int32.ofInt (k : Int) → k ≤ i → (i : Int) + r = α 0 → Wp (d + 2) 97 10 [some (.ref 15), some (.int (Int32.ofInt (i : Int))), u] [] (mk N t w J L D) Q = Q (.inl (some (.int (Int32.ofInt ((k + (lnC α n m r i).length : Nat) : Int))))) (mk N t w (pa 18 17 1 (lnC α n m r i) k J) L D) := by
  have hb19 := LB_ge hb
  have h0 : 10 ≤ α 0 ∧ α 0 ≤ 200 := ⟨hG.1.2.2.1, hG.1.2.2.2.1⟩
  intro r
  induction r with
  | zero =>
    intro i k J u hR he hk hi
    have e0 : J b 0 = Int32.ofInt (α 0) := rd_0 hR
    have g : ¬ ((i : Int) < α 0) := by omega
    rw [w97_10]
    simp only [w97_0, w97_1, w97_4, w97_5, w97_8, w97_9, w97_11, w97_12, w97_15, w97_18, w97_21, w97_22, w97_25, w97_26, w97_29, w97_30, w97_31, w97_32, w97_35, w97_36, w97_39, w97_40, w97_43, w97_46, w97_47, w97_50, w97_51, w97_54, w97_55, w97_58, w97_61, w97_63, w97_66, w97_68, w97_71, w97_74, w97_77, w97_78, w97_81, w97_84, kn_s, kn_n, zh_mk, zR_mk, zI_mk, zL_mk, zD_mk, wI_mk, wL_mk, wD_mk, zT_mk, zC_mk, kill_i, kill_r, kill_0, kill_n, kill_l, kill_q, zzk_r, zzk_0, zzk_q, zcat_r, zcat_i, zcat_0, cats_0, cats_i, cats_r, cats_l, cats_d, cats_f, rv_s, rv_0, Nat.reduceAdd, Nat.reduceLeDiff, Nat.add_zero, Nat.reduceMul, Nat.reduceSub, ne_eq, not_false_eq_true, not_true_eq_false, and_self, and_true, true_and, or_self, or_true, true_or, or_false, false_or, if_true, if_false, reduceIte, reduceCtorEq, implies_true, ite_self, ite_not, lay_in, lay_0, up2_lay, up2_lay0, kh0, kh1, kh2, kh3, kh4, kh5, kh6, kh7, kh8, kh9, kh10, kh11, kh12, khB, khP, kr2, kr4, kr5, kr7, kr8, kr9, kr10, krB, krP, krG0, krG1, krG2, krG3, krK, Nat.reduceLT, o_add, o_sub, o_mul, o_neg, q_add, q_sub, q_mul, q_neg, o_32, cast_s, Int.toNat_natCast, k15, k17, kr15_2, h5, hb, e0, he, o_lt (a := (i : Int)) (b := α 0) (by omega), g]
    rfl
  | succ r ih =>
    intro i k J u hR he hk hi
    have e0 : J b 0 = Int32.ofInt (α 0) := rd_0 hR
    have g : (i : Int) < α 0 := by omega
    have hr := bAt_rng (α := α) (n := n) (c := (i : Int)) hG.1.1
    have hc : -2147483648 ≤ (i : Int) ∧ (i : Int) < 2147483648 := by omega
    have ih' := fun (z : Int) u => ih (i + 1) (k + 1) (pa 18 17 1 [z] k J) u (pa_RL hR (by omega) (by omega)) pa1_len (by omega) (by omega)
    have fin : ∀ z, lce α n m (i : Int) = z → Q (.inl (some (.int (Int32.ofInt ((k + 1 + (lnC α n m r (i + 1)).length : Nat) : Int))))) (mk N t w (pa 18 17 1 (lnC α n m r (i + 1)) (k + 1) (pa 18 17 1 [z] k J)) L D) = Q (.inl (some (.int (Int32.ofInt ((k + (lnC α n m (r + 1) i).length : Nat) : Int))))) (mk N t w (pa 18 17 1 (lnC α n m (r + 1) i) k J) L D) := fun z hz => by
      subst hz
      rw [lnC_len, lnC_len, show k + 1 + r = k + (r + 1) by omega]
      rfl
    rw [w97_10]
    by_cases h : bAt α n (i : Int) = -1
    · by_cases hp : pAt α m (i : Int) = -1
      · have hF : isF α n m (i : Int) := ⟨⟨by omega, by omega⟩, h, hp⟩
        simp only [w97_0, w97_1, w97_4, w97_5, w97_8, w97_9, w97_11, w97_12, w97_15, w97_18, w97_21, w97_22, w97_25, w97_26, w97_29, w97_30, w97_31, w97_32, w97_35, w97_36, w97_39, w97_40, w97_43, w97_46, w97_47, w97_50, w97_51, w97_54, w97_55, w97_58, w97_61, w97_63, w97_66, w97_68, w97_71, w97_74, w97_77, w97_78, w97_81, w97_84, kn_s, kn_n, zh_mk, zR_mk, zI_mk, zL_mk, zD_mk, wI_mk, wL_mk, wD_mk, zT_mk, zC_mk, kill_i, kill_r, kill_0, kill_n, kill_l, kill_q, zzk_r, zzk_0, zzk_q, zcat_r, zcat_i, zcat_0, cats_0, cats_i, cats_r, cats_l, cats_d, cats_f, rv_s, rv_0, Nat.reduceAdd, Nat.reduceLeDiff, Nat.add_zero, Nat.reduceMul, Nat.reduceSub, ne_eq, not_false_eq_true, not_true_eq_false, and_self, and_true, true_and, or_self, or_true, true_or, or_false, false_or, if_true, if_false, reduceIte, reduceCtorEq, implies_true, ite_self, ite_not, lay_in, lay_0, up2_lay, up2_lay0, kh0, kh1, kh2, kh3, kh4, kh5, kh6, kh7, kh8, kh9, kh10, kh11, kh12, khB, khP, kr2, kr4, kr5, kr7, kr8, kr9, kr10, krB, krP, krG0, krG1, krG2, krG3, krK, Nat.reduceLT, o_add, o_sub, o_mul, o_neg, q_add, q_sub, q_mul, q_neg, o_32, cast_s, Int.toNat_natCast, k15, k17, kr15_2, h5, hb, e0, he, o_lt (a := (i : Int)) (b := α 0) (by omega), g, c27r hb hR hG hc, c25r hb hR hG hc, o_eq (a := bAt α n (i : Int)) (b := -1) (by omega), eq_true h, pI, eq_true hF, i00, c60 (k := k) (by omega) he, ih']
        exact fin 46 (by unfold lce; rw [if_pos h, if_pos hp])
      · have hF : ¬ isF α n m (i : Int) := fun q => hp q.2.2
        simp only [w97_0, w97_1, w97_4, w97_5, w97_8, w97_9, w97_11, w97_12, w97_15, w97_18, w97_21, w97_22, w97_25, w97_26, w97_29, w97_30, w97_31, w97_32, w97_35, w97_36, w97_39, w97_40, w97_43, w97_46, w97_47, w97_50, w97_51, w97_54, w97_55, w97_58, w97_61, w97_63, w97_66, w97_68, w97_71, w97_74, w97_77, w97_78, w97_81, w97_84, kn_s, kn_n, zh_mk, zR_mk, zI_mk, zL_mk, zD_mk, wI_mk, wL_mk, wD_mk, zT_mk, zC_mk, kill_i, kill_r, kill_0, kill_n, kill_l, kill_q, zzk_r, zzk_0, zzk_q, zcat_r, zcat_i, zcat_0, cats_0, cats_i, cats_r, cats_l, cats_d, cats_f, rv_s, rv_0, Nat.reduceAdd, Nat.reduceLeDiff, Nat.add_zero, Nat.reduceMul, Nat.reduceSub, ne_eq, not_false_eq_true, not_true_eq_false, and_self, and_true, true_and, or_self, or_true, true_or, or_false, false_or, if_true, if_false, reduceIte, reduceCtorEq, implies_true, ite_self, ite_not, lay_in, lay_0, up2_lay, up2_lay0, kh0, kh1, kh2, kh3, kh4, kh5, kh6, kh7, kh8, kh9, kh10, kh11, kh12, khB, khP, kr2, kr4, kr5, kr7, kr8, kr9, kr10, krB, krP, krG0, krG1, krG2, krG3, krK, Nat.reduceLT, o_add, o_sub, o_mul, o_neg, q_add, q_sub, q_mul, q_neg, o_32, cast_s, Int.toNat_natCast, k15, k17, kr15_2, h5, hb, e0, he, o_lt (a := (i : Int)) (b := α 0) (by omega), g, c27r hb hR hG hc, c25r hb hR hG hc, o_eq (a := bAt α n (i : Int)) (b := -1) (by omega), eq_true h, pI, eq_false hF, i10, c60 (k := k) (by omega) he, ih']
        exact fin 35 (by unfold lce; rw [if_pos h, if_neg hp])
    · simp only [w97_0, w97_1, w97_4, w97_5, w97_8, w97_9, w97_11, w97_12, w97_15, w97_18, w97_21, w97_22, w97_25, w97_26, w97_29, w97_30, w97_31, w97_32, w97_35, w97_36, w97_39, w97_40, w97_43, w97_46, w97_47, w97_50, w97_51, w97_54, w97_55, w97_58, w97_61, w97_63, w97_66, w97_68, w97_71, w97_74, w97_77, w97_78, w97_81, w97_84, kn_s, kn_n, zh_mk, zR_mk, zI_mk, zL_mk, zD_mk, wI_mk, wL_mk, wD_mk, zT_mk, zC_mk, kill_i, kill_r, kill_0, kill_n, kill_l, kill_q, zzk_r, zzk_0, zzk_q, zcat_r, zcat_i, zcat_0, cats_0, cats_i, cats_r, cats_l, cats_d, cats_f, rv_s, rv_0, Nat.reduceAdd, Nat.reduceLeDiff, Nat.add_zero, Nat.reduceMul, Nat.reduceSub, ne_eq, not_false_eq_true, not_true_eq_false, and_self, and_true, true_and, or_self, or_true, true_or, or_false, false_or, if_true, if_false, reduceIte, reduceCtorEq, implies_true, ite_self, ite_not, lay_in, lay_0, up2_lay, up2_lay0, kh0, kh1, kh2, kh3, kh4, kh5, kh6, kh7, kh8, kh9, kh10, kh11, kh12, khB, khP, kr2, kr4, kr5, kr7, kr8, kr9, kr10, krB, krP, krG0, krG1, krG2, krG3, krK, Nat.reduceLT, o_add, o_sub, o_mul, o_neg, q_add, q_sub, q_mul, q_neg, o_32, cast_s, Int.toNat_natCast, k15, k17, kr15_2, h5, hb, e0, he, o_lt (a := (i : Int)) (b := α 0) (by omega), g, c27r hb hR hG hc, o_eq (a := bAt α n (i : Int)) (b := -1) (by omega), eq_false h, c59 (z := bAt α n (i : Int)) (k := k) (by omega) (by omega) he, nb_1 (z := bAt α n (i : Int)) (by omega), ih']
      exact fin _ (by unfold lce; rw [if_neg h])
theorem c281_12 (hw : RW w) (hG : GA α n m o) : ∀ (r i k : Nat) (J : Nat → Nat → Int32) (u : Option Value), J 294 26 = Int32.ofInt (k : Int) → k ≤ i → (i : Int) + r = α 0 → Wp (d + 2) 281 12 [some (.ref 294), some (.int (Int32.ofInt (i : Int))), u] [] (mk N t w J (sR L w (r64 α)) D) Q = Q (.inl (some (.int (Int32.ofInt ((k + (lnC α n m r i).length : Nat) : Int))))) (mk N t w (pa 302 294 26 (lnC α n m r i) k J) (sR L w (r64 α)) D) := by
  have h0 : 10 ≤ α 0 ∧ α 0 ≤ 200 := ⟨hG.1.2.2.1, hG.1.2.2.2.1⟩
  intro r
  induction r with
  | zero =>
    intro i k J u he hk hi
    have g : ¬ ((i : Int) < α 0) := by omega
    rw [w281_12]
    simp only [w281_0, w281_1, w281_2, w281_5, w281_6, w281_7, w281_10, w281_11, w281_13, w281_14, w281_17, w281_20, w281_21, w281_22, w281_25, w281_26, w281_27, w281_28, w281_29, w281_32, w281_34, w281_35, w281_36, w281_39, w281_40, w281_41, w281_44, w281_45, w281_48, w281_50, w281_53, w281_55, w281_58, w281_61, w281_64, w281_65, w281_68, kn_s, kn_n, zh_mk, zR_mk, zI_mk, zL_mk, zD_mk, wI_mk, wL_mk, wD_mk, zT_mk, zC_mk, kill_i, kill_r, kill_0, kill_n, kill_l, kill_q, zzk_r, zzk_0, zzk_q, zcat_r, zcat_i, zcat_0, cats_0, cats_i, cats_r, cats_l, cats_d, cats_f, rv_s, rv_0, Nat.reduceAdd, Nat.reduceLeDiff, Nat.add_zero, Nat.reduceMul, Nat.reduceSub, ne_eq, not_false_eq_true, not_true_eq_false, and_self, and_true, true_and, or_self, or_true, true_or, or_false, false_or, if_true, if_false, reduceIte, reduceCtorEq, implies_true, ite_self, ite_not, kM, kMr, kRow hw, sR_at, up2_r64, r64_at, o_add, o_sub, o_mul, o_neg, q_add, q_sub, q_mul, q_neg, o_32, cast_s, Int.toNat_natCast, c172 hw, he, o_lt (a := (i : Int)) (b := α 0) (by omega), g]
    rfl
  | succ r ih =>
    intro i k J u he hk hi
    have g : (i : Int) < α 0 := by omega
    have hr := bAt_rng (α := α) (n := n) (c := (i : Int)) hG.1.1
    have hs := pAt_rng (α := α) (m := m) (c := (i : Int)) hG.2.1.1
    have hc : -2147483648 ≤ (i : Int) ∧ (i : Int) < 2147483648 := by omega
    have ih' := fun (z : Int) u => ih (i + 1) (k + 1) (pa 302 294 26 [z] k J) u pa1_len (by omega) (by omega)
    have fin : ∀ z, lce α n m (i : Int) = z → Q (.inl (some (.int (Int32.ofInt ((k + 1 + (lnC α n m r (i + 1)).length : Nat) : Int))))) (mk N t w (pa 302 294 26 (lnC α n m r (i + 1)) (k + 1) (pa 302 294 26 [z] k J)) (sR L w (r64 α)) D) = Q (.inl (some (.int (Int32.ofInt ((k + (lnC α n m (r + 1) i).length : Nat) : Int))))) (mk N t w (pa 302 294 26 (lnC α n m (r + 1) i) k J) (sR L w (r64 α)) D) := fun z hz => by
      subst hz
      rw [lnC_len, lnC_len, show k + 1 + r = k + (r + 1) by omega]
      rfl
    rw [w281_12]
    by_cases h : bAt α n (i : Int) = -1
    · by_cases hp : pAt α m (i : Int) = -1
      · simp only [w281_0, w281_1, w281_2, w281_5, w281_6, w281_7, w281_10, w281_11, w281_13, w281_14, w281_17, w281_20, w281_21, w281_22, w281_25, w281_26, w281_27, w281_28, w281_29, w281_32, w281_34, w281_35, w281_36, w281_39, w281_40, w281_41, w281_44, w281_45, w281_48, w281_50, w281_53, w281_55, w281_58, w281_61, w281_64, w281_65, w281_68, kn_s, kn_n, zh_mk, zR_mk, zI_mk, zL_mk, zD_mk, wI_mk, wL_mk, wD_mk, zT_mk, zC_mk, kill_i, kill_r, kill_0, kill_n, kill_l, kill_q, zzk_r, zzk_0, zzk_q, zcat_r, zcat_i, zcat_0, cats_0, cats_i, cats_r, cats_l, cats_d, cats_f, rv_s, rv_0, Nat.reduceAdd, Nat.reduceLeDiff, Nat.add_zero, Nat.reduceMul, Nat.reduceSub, ne_eq, not_false_eq_true, not_true_eq_false, and_self, and_true, true_and, or_self, or_true, true_or, or_false, false_or, if_true, if_false, reduceIte, reduceCtorEq, implies_true, ite_self, ite_not, kM, kMr, kRow hw, sR_at, up2_r64, r64_at, o_add, o_sub, o_mul, o_neg, q_add, q_sub, q_mul, q_neg, o_32, cast_s, Int.toNat_natCast, c172 hw, he, o_lt (a := (i : Int)) (b := α 0) (by omega), g, c175 hw hG.1 hc, c178 hw hG.2.1 h0 hc, o_eq (a := bAt α n (i : Int)) (b := -1) (by omega), eq_true h, o_eq (a := pAt α m (i : Int)) (b := -1) (by omega), eq_true hp, c282 (k := k) (by omega) he, ih']
        exact fin 46 (by unfold lce; rw [if_pos h, if_pos hp])
      · simp only [w281_0, w281_1, w281_2, w281_5, w281_6, w281_7, w281_10, w281_11, w281_13, w281_14, w281_17, w281_20, w281_21, w281_22, w281_25, w281_26, w281_27, w281_28, w281_29, w281_32, w281_34, w281_35, w281_36, w281_39, w281_40, w281_41, w281_44, w281_45, w281_48, w281_50, w281_53, w281_55, w281_58, w281_61, w281_64, w281_65, w281_68, kn_s, kn_n, zh_mk, zR_mk, zI_mk, zL_mk, zD_mk, wI_mk, wL_mk, wD_mk, zT_mk, zC_mk, kill_i, kill_r, kill_0, kill_n, kill_l, kill_q, zzk_r, zzk_0, zzk_q, zcat_r, zcat_i, zcat_0, cats_0, cats_i, cats_r, cats_l, cats_d, cats_f, rv_s, rv_0, Nat.reduceAdd, Nat.reduceLeDiff, Nat.add_zero, Nat.reduceMul, Nat.reduceSub, ne_eq, not_false_eq_true, not_true_eq_false, and_self, and_true, true_and, or_self, or_true, true_or, or_false, false_or, if_true, if_false, reduceIte, reduceCtorEq, implies_true, ite_self, ite_not, kM, kMr, kRow hw, sR_at, up2_r64, r64_at, o_add, o_sub, o_mul, o_neg, q_add, q_sub, q_mul, q_neg, o_32, cast_s, Int.toNat_natCast, c172 hw, he, o_lt (a := (i : Int)) (b := α 0) (by omega), g, c175 hw hG.1 hc, c178 hw hG.2.1 h0 hc, o_eq (a := bAt α n (i : Int)) (b := -1) (by omega), eq_true h, o_eq (a := pAt α m (i : Int)) (b := -1) (by omega), eq_false hp, c282 (k := k) (by omega) he, ih']
        exact fin 35 (by unfold lce; rw [if_pos h, if_neg hp])
    · simp only [w281_0, w281_1, w281_2, w281_5, w281_6, w281_7, w281_10, w281_11, w281_13, w281_14, w281_17, w281_20, w281_21, w281_22, w281_25, w281_26, w281_27, w281_28, w281_29, w281_32, w281_34, w281_35, w281_36, w281_39, w281_40, w281_41, w281_44, w281_45, w281_48, w281_50, w281_53, w281_55, w281_58, w281_61, w281_64, w281_65, w281_68, kn_s, kn_n, zh_mk, zR_mk, zI_mk, zL_mk, zD_mk, wI_mk, wL_mk, wD_mk, zT_mk, zC_mk, kill_i, kill_r, kill_0, kill_n, kill_l, kill_q, zzk_r, zzk_0, zzk_q, zcat_r, zcat_i, zcat_0, cats_0, cats_i, cats_r, cats_l, cats_d, cats_f, rv_s, rv_0, Nat.reduceAdd, Nat.reduceLeDiff, Nat.add_zero, Nat.reduceMul, Nat.reduceSub, ne_eq, not_false_eq_true, not_true_eq_false, and_self, and_true, true_and, or_self, or_true, true_or, or_false, false_or, if_true, if_false, reduceIte, reduceCtorEq, implies_true, ite_self, ite_not, kM, kMr, kRow hw, sR_at, up2_r64, r64_at, o_add, o_sub, o_mul, o_neg, q_add, q_sub, q_mul, q_neg, o_32, cast_s, Int.toNat_natCast, c172 hw, he, o_lt (a := (i : Int)) (b := α 0) (by omega), g, c175 hw hG.1 hc, o_eq (a := bAt α n (i : Int)) (b := -1) (by omega), eq_false h, c282 (k := k) (by omega) he, ih']
      exact fin _ (by unfold lce; rw [if_neg h])
theorem c98_10 (hb : LB b) (h5 : rv (KR w 15 5) = .ref b) (hG : GA α n m o) : ∀ (r p k : Nat) (J : Nat → Nat → Int32) (u : Option Value), RL (gl b J) (gl b L) α n m o → J 17 1 = Int32.ofInt (k : Int) → k ≤ 15 * p → p + r = n → Wp (d + 2) 98 10 [some (.ref 15), some (.int (Int32.ofInt (p : Int))), u] [] (mk N t w J L D) Q = Q (.inl (some (.int (Int32.ofInt ((k + (bls α o r p k).length : Nat) : Int))))) (mk N t w (pa 18 17 1 (bls α o r p k) k J) L D) := by
  have hb19 := LB_ge hb
  have h10 := hG.1.1
  intro r
  induction r with
  | zero =>
    intro p k J u hR he hk hi
    have en : J b 3 = Int32.ofInt (n : Int) := rd_n hR
    have g : ¬ ((p : Int) < n) := by omega
    rw [w98_10]
    simp only [w98_0, w98_1, w98_4, w98_5, w98_8, w98_9, w98_11, w98_12, w98_15, w98_18, w98_21, w98_22, w98_25, w98_28, w98_29, w98_32, w98_35, w98_36, w98_39, w98_42, w98_43, w98_44, w98_45, w98_46, w98_47, w98_50, w98_51, w98_54, w98_57, w98_58, w98_59, w98_62, w98_63, w98_66, w98_68, w98_71, w98_72, w98_75, w98_76, w98_79, w98_82, w98_83, w98_86, w98_88, w98_91, w98_92, w98_95, w98_96, w98_99, w98_102, w98_105, w98_108, w98_109, w98_112, w98_115, kn_s, kn_n, zh_mk, zR_mk, zI_mk, zL_mk, zD_mk, wI_mk, wL_mk, wD_mk, zT_mk, zC_mk, kill_i, kill_r, kill_0, kill_n, kill_l, kill_q, zzk_r, zzk_0, zzk_q, zcat_r, zcat_i, zcat_0, cats_0, cats_i, cats_r, cats_l, cats_d, cats_f, rv_s, rv_0, Nat.reduceAdd, Nat.reduceLeDiff, Nat.add_zero, Nat.reduceMul, Nat.reduceSub, ne_eq, not_false_eq_true, not_true_eq_false, and_self, and_true, true_and, or_self, or_true, true_or, or_false, false_or, if_true, if_false, reduceIte, reduceCtorEq, implies_true, ite_self, ite_not, lay_in, lay_0, up2_lay, up2_lay0, kh0, kh1, kh2, kh3, kh4, kh5, kh6, kh7, kh8, kh9, kh10, kh11, kh12, khB, khP, kr2, kr4, kr5, kr7, kr8, kr9, kr10, krB, krP, krG0, krG1, krG2, krG3, krK, Nat.reduceLT, o_add, o_sub, o_mul, o_neg, q_add, q_sub, q_mul, q_neg, o_32, cast_s, Int.toNat_natCast, k15, k17, kr15_2, h5, hb, en, he, o_lt (a := (p : Int)) (b := (n : Int)) (by omega), g]
    rfl
  | succ r ih =>
    intro p k J u hR he hk hi
    have en : J b 3 = Int32.ofInt (n : Int) := rd_n hR
    have g : (p : Int) < n := by omega
    have hq := hG.2.2.2.1 p (by omega)
    have eo : J (b + 2) p = Int32.ofInt (o p : Int) := hR.2.2.2.1 p (by omega)
    have ec : J (b + (o p + 13)) 1 = Int32.ofInt (α (B9 (o p) 0)) := rd_c hR hG hq
    have es : J (b + (o p + 13)) 2 = Int32.ofInt (α (B9 (o p) 1)) := rd_s hR hG hq
    have gq := hG.1.2.2.2.2 (o p) hq
    have h0 : α 0 ≤ 200 := hG.1.2.2.2.1
    have l1 := sp_len (k := k)
    have l2 := nb_len (z := ((o p : Nat) : Int))
    have l3 := nb_len (z := α (B9 (o p) 0))
    have e1 := pa_len (A := 18) (zs := sp k) he
    have e2 := pa_len (A := 18) (zs := nb (o p : Int)) e1
    have e3 := pa_len (A := 18) (zs := [64]) e2
    have e4 := pa_len (A := 18) (zs := nb (α (B9 (o p) 0))) e3
    have e5 := pa_len (A := 18) (zs := [58]) e4
    have l4 : ([64] : List Int).length = 1 := rfl
    have l5 : ([58] : List Int).length = 1 := rfl
    have off : ∀ (zs : List Int) (k : Nat) (J : Nat → Nat → Int32) (a : Nat), pa 18 17 1 zs k J (b + a) = J (b + a) := fun zs k J a => funext fun q => pa_off (by omega)
    have off0 : ∀ (zs : List Int) (k : Nat) (J : Nat → Nat → Int32), pa 18 17 1 zs k J b = J b := fun zs k J => off zs k J 0
    have hJ := congrArg (fun z => pa 18 17 1 z k J) (show be α (o p) k = sp k ++ (nb (o p : Int) ++ ([64] ++ (nb (α (B9 (o p) 0)) ++ ([58] ++ nb (α (B9 (o p) 1)))))) from rfl)
    simp only [pa_app] at hJ
    have bl := be_len (α := α) (q := o p) (k := k)
    have ih' := fun u => ih (p + 1) (k + (be α (o p) k).length) (pa 18 17 1 (be α (o p) k) k J) u (pa_RL hR (by omega) (by omega)) (pa_len he) (by omega) (by omega)
    rw [w98_10]
    simp only [w98_0, w98_1, w98_4, w98_5, w98_8, w98_9, w98_11, w98_12, w98_15, w98_18, w98_21, w98_22, w98_25, w98_28, w98_29, w98_32, w98_35, w98_36, w98_39, w98_42, w98_43, w98_44, w98_45, w98_46, w98_47, w98_50, w98_51, w98_54, w98_57, w98_58, w98_59, w98_62, w98_63, w98_66, w98_68, w98_71, w98_72, w98_75, w98_76, w98_79, w98_82, w98_83, w98_86, w98_88, w98_91, w98_92, w98_95, w98_96, w98_99, w98_102, w98_105, w98_108, w98_109, w98_112, w98_115, kn_s, kn_n, zh_mk, zR_mk, zI_mk, zL_mk, zD_mk, wI_mk, wL_mk, wD_mk, zT_mk, zC_mk, kill_i, kill_r, kill_0, kill_n, kill_l, kill_q, zzk_r, zzk_0, zzk_q, zcat_r, zcat_i, zcat_0, cats_0, cats_i, cats_r, cats_l, cats_d, cats_f, rv_s, rv_0, Nat.reduceAdd, Nat.reduceLeDiff, Nat.add_zero, Nat.reduceMul, Nat.reduceSub, ne_eq, not_false_eq_true, not_true_eq_false, and_self, and_true, true_and, or_self, or_true, true_or, or_false, false_or, if_true, if_false, reduceIte, reduceCtorEq, implies_true, ite_self, ite_not, lay_in, lay_0, up2_lay, up2_lay0, kh0, kh1, kh2, kh3, kh4, kh5, kh6, kh7, kh8, kh9, kh10, kh11, kh12, khB, khP, kr2, kr4, kr5, kr7, kr8, kr9, kr10, krB, krP, krG0, krG1, krG2, krG3, krK, Nat.reduceLT, o_add, o_sub, o_mul, o_neg, q_add, q_sub, q_mul, q_neg, o_32, cast_s, Int.toNat_natCast, k15, k17, kr15_2, h5, hb, en, he, off, off0, eo, ec, es, show o p < 10 by omega, show o p + 13 < 27 by omega, o_lt (a := (p : Int)) (b := (n : Int)) (by omega), g, o_ixn (j := p) (n := 10) (by omega), o_tnn (j := p) (by omega), o_ixn (j := o p) (n := 10) (by omega), o_tnn (j := o p) (by omega), c61 (k := k) (by omega) he, c59 (z := (o p : Int)) (by omega) (by omega) e1, c60 (z := 64) (by omega) e2, c59 (z := α (B9 (o p) 0)) (by omega) (by omega) e3, c60 (z := 58) (by omega) e4, c59 (z := α (B9 (o p) 1)) (by omega) (by omega) e5]
    rw [← hJ, ih']
    show _ = Q (.inl (some (.int (Int32.ofInt ((k + (be α (o p) k ++ bls α o r (p + 1) (k + (be α (o p) k).length)).length : Nat) : Int))))) (mk N t w (pa 18 17 1 (be α (o p) k ++ bls α o r (p + 1) (k + (be α (o p) k).length)) k J) L D)
    rw [pa_app, List.length_append, Nat.add_assoc]
theorem c283_12 (hw : RW w) (hG : GA α n m o) : ∀ (r p k : Nat) (J : Nat → Nat → Int32) (u : Option Value), J 294 26 = Int32.ofInt (k : Int) → k ≤ 15 * p → p + r = n → Wp (d + 3) 283 12 [some (.ref 294), some (.int (Int32.ofInt (p : Int))), u] [] (mk N t w J (sR L w (r64 α)) D) Q = Q (.inl (some (.int (Int32.ofInt ((k + (bls α o r p k).length : Nat) : Int))))) (mk N t w (pa 302 294 26 (bls α o r p k) k J) (sR L w (r64 α)) D) := by
  have h10 := hG.1.1
  have hn := hG.1.2.1
  intro r
  induction r with
  | zero =>
    intro p k J u he hk hi
    have g : ¬ ((p : Int) < n) := by omega
    rw [w283_12]
    simp only [w283_0, w283_1, w283_2, w283_5, w283_6, w283_7, w283_10, w283_11, w283_13, w283_14, w283_17, w283_20, w283_21, w283_22, w283_25, w283_26, w283_27, w283_30, w283_31, w283_32, w283_35, w283_36, w283_38, w283_41, w283_42, w283_43, w283_44, w283_45, w283_48, w283_51, w283_52, w283_54, w283_57, w283_58, w283_59, w283_60, w283_63, w283_66, w283_69, w283_72, w283_73, w283_76, kn_s, kn_n, zh_mk, zR_mk, zI_mk, zL_mk, zD_mk, wI_mk, wL_mk, wD_mk, zT_mk, zC_mk, kill_i, kill_r, kill_0, kill_n, kill_l, kill_q, zzk_r, zzk_0, zzk_q, zcat_r, zcat_i, zcat_0, cats_0, cats_i, cats_r, cats_l, cats_d, cats_f, rv_s, rv_0, Nat.reduceAdd, Nat.reduceLeDiff, Nat.add_zero, Nat.reduceMul, Nat.reduceSub, ne_eq, not_false_eq_true, not_true_eq_false, and_self, and_true, true_and, or_self, or_true, true_or, or_false, false_or, if_true, if_false, reduceIte, reduceCtorEq, implies_true, ite_self, ite_not, kM, kMr, kRow hw, sR_at, up2_r64, r64_at, o_add, o_sub, o_mul, o_neg, q_add, q_sub, q_mul, q_neg, o_32, cast_s, Int.toNat_natCast, c176 hw, hn, he, o_lt (a := (p : Int)) (b := (n : Int)) (by omega), g]
    rfl
  | succ r ih =>
    intro p k J u he hk hi
    have g : (p : Int) < n := by omega
    have hq := hG.2.2.2.1 p (by omega)
    have gq := hG.1.2.2.2.2 (o p) hq
    have h0 : α 0 ≤ 200 := hG.1.2.2.2.1
    have l1 := sp_len (k := k)
    have l2 := nb_len (z := ((o p : Nat) : Int))
    have l3 := nb_len (z := α (B9 (o p) 0))
    have e1 := pa_len (A := 302) (zs := sp k) he
    have e2 := pa_len (A := 302) (zs := nb (o p : Int)) e1
    have e3 := pa_len (A := 302) (zs := [64]) e2
    have e4 := pa_len (A := 302) (zs := nb (α (B9 (o p) 0))) e3
    have e5 := pa_len (A := 302) (zs := [58]) e4
    have l4 : ([64] : List Int).length = 1 := rfl
    have l5 : ([58] : List Int).length = 1 := rfl
    have hJ := congrArg (fun z => pa 302 294 26 z k J) (show be α (o p) k = sp k ++ (nb (o p : Int) ++ ([64] ++ (nb (α (B9 (o p) 0)) ++ ([58] ++ nb (α (B9 (o p) 1)))))) from rfl)
    simp only [pa_app] at hJ
    have bl := be_len (α := α) (q := o p) (k := k)
    have ih' := fun u => ih (p + 1) (k + (be α (o p) k).length) (pa 302 294 26 (be α (o p) k) k J) u (pa_len he) (by omega) (by omega)
    rw [w283_12]
    simp only [w283_0, w283_1, w283_2, w283_5, w283_6, w283_7, w283_10, w283_11, w283_13, w283_14, w283_17, w283_20, w283_21, w283_22, w283_25, w283_26, w283_27, w283_30, w283_31, w283_32, w283_35, w283_36, w283_38, w283_41, w283_42, w283_43, w283_44, w283_45, w283_48, w283_51, w283_52, w283_54, w283_57, w283_58, w283_59, w283_60, w283_63, w283_66, w283_69, w283_72, w283_73, w283_76, kn_s, kn_n, zh_mk, zR_mk, zI_mk, zL_mk, zD_mk, wI_mk, wL_mk, wD_mk, zT_mk, zC_mk, kill_i, kill_r, kill_0, kill_n, kill_l, kill_q, zzk_r, zzk_0, zzk_q, zcat_r, zcat_i, zcat_0, cats_0, cats_i, cats_r, cats_l, cats_d, cats_f, rv_s, rv_0, Nat.reduceAdd, Nat.reduceLeDiff, Nat.add_zero, Nat.reduceMul, Nat.reduceSub, ne_eq, not_false_eq_true, not_true_eq_false, and_self, and_true, true_and, or_self, or_true, true_or, or_false, false_or, if_true, if_false, reduceIte, reduceCtorEq, implies_true, ite_self, ite_not, kM, kMr, kRow hw, sR_at, up2_r64, r64_at, o_add, o_sub, o_mul, o_neg, q_add, q_sub, q_mul, q_neg, o_32, cast_s, Int.toNat_natCast, c176 hw, hn, he, o_lt (a := (p : Int)) (b := (n : Int)) (by omega), g, c203 hw hG (show p < n by omega), c177_0 hw (show o p < 10 by omega), c194 hw (show o p < 10 by omega), c284 (k := k) (by omega) he, c285 (z := (o p : Int)) (by omega) (by omega) e1, c282 (z := 64) (by omega) e2, c285 (z := α (B9 (o p) 0)) (by omega) (by omega) e3, c282 (z := 58) (by omega) e4, c285 (z := α (B9 (o p) 1)) (by omega) (by omega) e5]
    rw [← hJ, ih']
    show _ = Q (.inl (some (.int (Int32.ofInt ((k + (be α (o p) k ++ bls α o r (p + 1) (k + (be α (o p) k).length)).length : Nat) : Int))))) (mk N t w (pa 302 294 26 (be α (o p) k ++ bls α o r (p + 1) (k + (be α (o p) k).length)) k J) (sR L w (r64 α)) D)
    rw [pa_app, List.length_append, Nat.add_assoc]
theorem c54r (hb : LB b) (hR : RL (gl b J) (gl b L) α n m o) {k : Nat} (hk : k < 40) (h4 : (k : Int) < α 4) : Wp (d + 1) 54 0 [some (.ref (b + 6)), some (.int (Int32.ofInt (k : Int)))] [] (mk N t w J L D) Q = Q (.inl (some (.int (Int32.ofInt (α (218 + 4 * k + 1)))))) (mk N t w J L D) := by
  have := c54 (d := d) (N := N) (t := t) (w := w) (ℓ := gl b J) (I := J) (L := L) (D := D) (Q := Q) hb hR hk h4
  rw [lay_gl] at this
  exact this
theorem c53r (hb : LB b) (hR : RL (gl b J) (gl b L) α n m o) {k : Nat} (hk : k < 40) (h4 : (k : Int) < α 4) : Wp (d + 1) 53 0 [some (.ref (b + 6)), some (.int (Int32.ofInt (k : Int)))] [] (mk N t w J L D) Q = Q (.inl (some (.int (Int32.ofInt (α (218 + 4 * k + 2)))))) (mk N t w J L D) := by
  have := c53 (d := d) (N := N) (t := t) (w := w) (ℓ := gl b J) (I := J) (L := L) (D := D) (Q := Q) hb hR hk h4
  rw [lay_gl] at this
  exact this
theorem c55r (hb : LB b) (hR : RL (gl b J) (gl b L) α n m o) {k : Nat} (hk : k < 40) (h4 : (k : Int) < α 4) : Wp (d + 1) 55 0 [some (.ref (b + 6)), some (.int (Int32.ofInt (k : Int)))] [] (mk N t w J L D) Q = Q (.inl (some (.int (Int32.ofInt (α (218 + 4 * k + 3)))))) (mk N t w J L D) := by
  have := c55 (d := d) (N := N) (t := t) (w := w) (ℓ := gl b J) (I := J) (L := L) (D := D) (Q := Q) hb hR hk h4
  rw [lay_gl] at this
  exact this
theorem c99_28 (hb : LB b) (h5 : rv (KR w 15 5) = .ref b) (hX : LX α) : ∀ (i k : Nat) (J : Nat → Nat → Int32) (u : Option Value), RL (gl b J) (gl b L) α n m o → J 17 1 = Int32.ofInt (k : Int) → k ≤ 15 * (10 - i) → i ≤ 10 → (i : Int) ≤ α 4 → Wp (d + 3) 99 28 [some (.ref 15), some (.ref (b + 6)), some (.int (Int32.ofInt ((i : Int) - 1))), u] [] (mk N t w J L D) Q = Q (.inl (some (.int (Int32.ofInt ((k + (gls α i k).length : Nat) : Int))))) (mk N t w (pa 18 17 1 (gls α i k) k J) L D) := by
  have hb19 := LB_ge hb
  intro i
  induction i with
  | zero =>
    intro k J u hR he hk hi h4
    have g : ((0 : Nat) : Int) - 1 < 0 := by omega
    rw [w99_28]
    simp only [w99_0, w99_1, w99_4, w99_5, w99_8, w99_9, w99_12, w99_15, w99_16, w99_17, w99_20, w99_22, w99_25, w99_26, w99_27, w99_29, w99_32, w99_33, w99_36, w99_39, w99_40, w99_41, w99_42, w99_45, w99_48, w99_49, w99_50, w99_53, w99_54, w99_55, w99_56, w99_59, w99_60, w99_63, w99_65, w99_68, w99_71, w99_72, w99_75, w99_77, w99_80, w99_81, w99_82, w99_85, w99_86, w99_89, w99_91, w99_94, w99_95, w99_98, w99_99, w99_100, w99_103, w99_106, w99_109, w99_112, w99_113, w99_116, w99_119, kn_s, kn_n, zh_mk, zR_mk, zI_mk, zL_mk, zD_mk, wI_mk, wL_mk, wD_mk, zT_mk, zC_mk, kill_i, kill_r, kill_0, kill_n, kill_l, kill_q, zzk_r, zzk_0, zzk_q, zcat_r, zcat_i, zcat_0, cats_0, cats_i, cats_r, cats_l, cats_d, cats_f, rv_s, rv_0, Nat.reduceAdd, Nat.reduceLeDiff, Nat.add_zero, Nat.reduceMul, Nat.reduceSub, ne_eq, not_false_eq_true, not_true_eq_false, and_self, and_true, true_and, or_self, or_true, true_or, or_false, false_or, if_true, if_false, reduceIte, reduceCtorEq, implies_true, ite_self, ite_not, lay_in, lay_0, up2_lay, up2_lay0, kh0, kh1, kh2, kh3, kh4, kh5, kh6, kh7, kh8, kh9, kh10, kh11, kh12, khB, khP, kr2, kr4, kr5, kr7, kr8, kr9, kr10, krB, krP, krG0, krG1, krG2, krG3, krK, Nat.reduceLT, o_add, o_sub, o_mul, o_neg, q_add, q_sub, q_mul, q_neg, o_32, cast_s, Int.toNat_natCast, k15, k17, kr15_2, hb, he, o_lt (a := ((0 : Nat) : Int) - 1) (b := 0) (by omega), g]
    rfl
  | succ i ih =>
    intro k J u hR he hk hi h4
    have g : ¬ ((i : Int) < 0) := by omega
    have e1' : ((i + 1 : Nat) : Int) - 1 = (i : Int) := by omega
    have hx := hX i (by omega) (by omega)
    have l1 := sp_len (k := k)
    have l2 := lb_len (z := α (218 + 4 * i + 1))
    have l3 := lb_len (z := α (218 + 4 * i + 2))
    have e1 := pa_len (A := 18) (zs := sp k) he
    have e2 := pa_len (A := 18) (zs := lb (α (218 + 4 * i + 1))) e1
    have R1 : RL (gl b (pa 18 17 1 (sp k) k J)) (gl b L) α n m o := pa_RL hR (by omega) (by omega)
    have R2 : RL (gl b (pa 18 17 1 (lb (α (218 + 4 * i + 1))) (k + (sp k).length) (pa 18 17 1 (sp k) k J))) (gl b L) α n m o := pa_RL R1 (by omega) (by omega)
    have l4 : ([124] : List Int).length = 1 := rfl
    have l5 : ([120] : List Int).length = 1 := rfl
    have l6 : ([47] : List Int).length = 1 := rfl
    have bl := ge_len (α := α) (i := i) (k := k)
    have ih' := fun u => ih (k + (ge α i k).length) (pa 18 17 1 (ge α i k) k J) u (pa_RL hR (by omega) (by omega)) (pa_len he) (by omega) (by omega) (by omega)
    rw [Int.sub_eq_add_neg] at ih'
    have fin : Q (.inl (some (.int (Int32.ofInt ((k + (ge α i k).length + (gls α i (k + (ge α i k).length)).length : Nat) : Int))))) (mk N t w (pa 18 17 1 (gls α i (k + (ge α i k).length)) (k + (ge α i k).length) (pa 18 17 1 (ge α i k) k J)) L D) = Q (.inl (some (.int (Int32.ofInt ((k + (gls α (i + 1) k).length : Nat) : Int))))) (mk N t w (pa 18 17 1 (gls α (i + 1) k) k J) L D) := by
      show _ = Q (.inl (some (.int (Int32.ofInt ((k + (ge α i k ++ gls α i (k + (ge α i k).length)).length : Nat) : Int))))) (mk N t w (pa 18 17 1 (ge α i k ++ gls α i (k + (ge α i k).length)) k J) L D)
      rw [pa_app, List.length_append, Nat.add_assoc]
    have hJ := congrArg (fun z => pa 18 17 1 z k J) (show ge α i k = sp k ++ (lb (α (218 + 4 * i + 1)) ++ ((if α (218 + 4 * i + 2) = -1 then [124] else [120] ++ lb (α (218 + 4 * i + 2))) ++ ([47] ++ nb (α (218 + 4 * i + 3))))) from rfl)
    rw [w99_28, e1']
    by_cases h : α (218 + 4 * i + 2) = -1
    · have e3 := pa_len (A := 18) (zs := [124]) e2
      have e4 := pa_len (A := 18) (zs := [47]) e3
      have R4 : RL (gl b (pa 18 17 1 [47] (k + (sp k).length + (lb (α (218 + 4 * i + 1))).length + [(124 : Int)].length) (pa 18 17 1 [124] (k + (sp k).length + (lb (α (218 + 4 * i + 1))).length) (pa 18 17 1 (lb (α (218 + 4 * i + 1))) (k + (sp k).length) (pa 18 17 1 (sp k) k J))))) (gl b L) α n m o := pa_RL (pa_RL R2 (by omega) (by omega)) (by omega) (by omega)
      simp only [pa_app, eq_true h, if_true] at hJ
      simp only [w99_0, w99_1, w99_4, w99_5, w99_8, w99_9, w99_12, w99_15, w99_16, w99_17, w99_20, w99_22, w99_25, w99_26, w99_27, w99_29, w99_32, w99_33, w99_36, w99_39, w99_40, w99_41, w99_42, w99_45, w99_48, w99_49, w99_50, w99_53, w99_54, w99_55, w99_56, w99_59, w99_60, w99_63, w99_65, w99_68, w99_71, w99_72, w99_75, w99_77, w99_80, w99_81, w99_82, w99_85, w99_86, w99_89, w99_91, w99_94, w99_95, w99_98, w99_99, w99_100, w99_103, w99_106, w99_109, w99_112, w99_113, w99_116, w99_119, kn_s, kn_n, zh_mk, zR_mk, zI_mk, zL_mk, zD_mk, wI_mk, wL_mk, wD_mk, zT_mk, zC_mk, kill_i, kill_r, kill_0, kill_n, kill_l, kill_q, zzk_r, zzk_0, zzk_q, zcat_r, zcat_i, zcat_0, cats_0, cats_i, cats_r, cats_l, cats_d, cats_f, rv_s, rv_0, Nat.reduceAdd, Nat.reduceLeDiff, Nat.add_zero, Nat.reduceMul, Nat.reduceSub, ne_eq, not_false_eq_true, not_true_eq_false, and_self, and_true, true_and, or_self, or_true, true_or, or_false, false_or, if_true, if_false, reduceIte, reduceCtorEq, implies_true, ite_self, ite_not, lay_in, lay_0, up2_lay, up2_lay0, kh0, kh1, kh2, kh3, kh4, kh5, kh6, kh7, kh8, kh9, kh10, kh11, kh12, khB, khP, kr2, kr4, kr5, kr7, kr8, kr9, kr10, krB, krP, krG0, krG1, krG2, krG3, krK, Nat.reduceLT, o_add, o_sub, o_mul, o_neg, q_add, q_sub, q_mul, q_neg, o_32, cast_s, Int.toNat_natCast, k15, k17, kr15_2, hb, he, o_lt (a := (i : Int)) (b := 0) (by omega), g, c61 (k := k) (by omega) he, c54r hb R1 (k := i) (by omega) (by omega), c100 (z := α (218 + 4 * i + 1)) (by omega) (by omega) e1, c53r hb R2 (k := i) (by omega) (by omega), o_eq (a := α (218 + 4 * i + 2)) (b := -1) (by omega), eq_true h, c60 (z := 124) (by omega) e2, c60 (z := 47) (by omega) e3, c55r hb R4 (k := i) (by omega) (by omega), c59 (z := α (218 + 4 * i + 3)) (by omega) (by omega) e4]
      rw [← hJ, ih']
      exact fin
    · have e3 := pa_len (A := 18) (zs := [120]) e2
      have e3' := pa_len (A := 18) (zs := lb (α (218 + 4 * i + 2))) e3
      have e4 := pa_len (A := 18) (zs := [47]) e3'
      have R4 : RL (gl b (pa 18 17 1 [47] (k + (sp k).length + (lb (α (218 + 4 * i + 1))).length + [(120 : Int)].length + (lb (α (218 + 4 * i + 2))).length) (pa 18 17 1 (lb (α (218 + 4 * i + 2))) (k + (sp k).length + (lb (α (218 + 4 * i + 1))).length + [(120 : Int)].length) (pa 18 17 1 [120] (k + (sp k).length + (lb (α (218 + 4 * i + 1))).length) (pa 18 17 1 (lb (α (218 + 4 * i + 1))) (k + (sp k).length) (pa 18 17 1 (sp k) k J)))))) (gl b L) α n m o := pa_RL (pa_RL (pa_RL R2 (by omega) (by omega)) (by omega) (by omega)) (by omega) (by omega)
      simp only [pa_app, eq_false h, if_false, List.length_append, ← Nat.add_assoc] at hJ
      simp only [w99_0, w99_1, w99_4, w99_5, w99_8, w99_9, w99_12, w99_15, w99_16, w99_17, w99_20, w99_22, w99_25, w99_26, w99_27, w99_29, w99_32, w99_33, w99_36, w99_39, w99_40, w99_41, w99_42, w99_45, w99_48, w99_49, w99_50, w99_53, w99_54, w99_55, w99_56, w99_59, w99_60, w99_63, w99_65, w99_68, w99_71, w99_72, w99_75, w99_77, w99_80, w99_81, w99_82, w99_85, w99_86, w99_89, w99_91, w99_94, w99_95, w99_98, w99_99, w99_100, w99_103, w99_106, w99_109, w99_112, w99_113, w99_116, w99_119, kn_s, kn_n, zh_mk, zR_mk, zI_mk, zL_mk, zD_mk, wI_mk, wL_mk, wD_mk, zT_mk, zC_mk, kill_i, kill_r, kill_0, kill_n, kill_l, kill_q, zzk_r, zzk_0, zzk_q, zcat_r, zcat_i, zcat_0, cats_0, cats_i, cats_r, cats_l, cats_d, cats_f, rv_s, rv_0, Nat.reduceAdd, Nat.reduceLeDiff, Nat.add_zero, Nat.reduceMul, Nat.reduceSub, ne_eq, not_false_eq_true, not_true_eq_false, and_self, and_true, true_and, or_self, or_true, true_or, or_false, false_or, if_true, if_false, reduceIte, reduceCtorEq, implies_true, ite_self, ite_not, lay_in, lay_0, up2_lay, up2_lay0, kh0, kh1, kh2, kh3, kh4, kh5, kh6, kh7, kh8, kh9, kh10, kh11, kh12, khB, khP, kr2, kr4, kr5, kr7, kr8, kr9, kr10, krB, krP, krG0, krG1, krG2, krG3, krK, Nat.reduceLT, o_add, o_sub, o_mul, o_neg, q_add, q_sub, q_mul, q_neg, o_32, cast_s, Int.toNat_natCast, k15, k17, kr15_2, hb, he, o_lt (a := (i : Int)) (b := 0) (by omega), g, c61 (k := k) (by omega) he, c54r hb R1 (k := i) (by omega) (by omega), c100 (z := α (218 + 4 * i + 1)) (by omega) (by omega) e1, c53r hb R2 (k := i) (by omega) (by omega), o_eq (a := α (218 + 4 * i + 2)) (b := -1) (by omega), eq_false h, c60 (z := 120) (by omega) e2, c100 (z := α (218 + 4 * i + 2)) (by omega) (by omega) e3, c60 (z := 47) (by omega) e3', c55r hb R4 (k := i) (by omega) (by omega), c59 (z := α (218 + 4 * i + 3)) (by omega) (by omega) e4]
      rw [← hJ, ih']
      exact fin
theorem c286_22 (hX : LX α) : ∀ (i k : Nat) (J : Nat → Nat → Int32), J 294 26 = Int32.ofInt (k : Int) → k ≤ 15 * (10 - i) → i ≤ 10 → (i : Int) ≤ α 4 → Wp (d + 2) 286 22 [some (.ref 294), some (.int (Int32.ofInt ((i : Int) - 1)))] [] (mk N t 295 J (sR L 295 (r64 α)) D) Q = Q (.inl (some (.int (Int32.ofInt ((k + (gls α i k).length : Nat) : Int))))) (mk N t 295 (pa 302 294 26 (gls α i k) k J) (sR L 295 (r64 α)) D) := by
  intro i
  induction i with
  | zero =>
    intro k J he hk hi h4
    have g : ((0 : Nat) : Int) - 1 < 0 := by omega
    rw [w286_22]
    simp only [w286_0, w286_1, w286_2, w286_5, w286_6, w286_7, w286_10, w286_12, w286_13, w286_16, w286_19, w286_20, w286_21, w286_23, w286_26, w286_27, w286_30, w286_31, w286_32, w286_33, w286_34, w286_37, w286_40, w286_41, w286_42, w286_43, w286_46, w286_47, w286_50, w286_51, w286_53, w286_56, w286_59, w286_60, w286_62, w286_65, w286_66, w286_67, w286_68, w286_69, w286_72, w286_75, w286_76, w286_78, w286_81, w286_82, w286_83, w286_84, w286_85, w286_88, w286_91, w286_94, w286_97, w286_98, w286_101, kn_s, kn_n, zh_mk, zR_mk, zI_mk, zL_mk, zD_mk, wI_mk, wL_mk, wD_mk, zT_mk, zC_mk, kill_i, kill_r, kill_0, kill_n, kill_l, kill_q, zzk_r, zzk_0, zzk_q, zcat_r, zcat_i, zcat_0, cats_0, cats_i, cats_r, cats_l, cats_d, cats_f, rv_s, rv_0, Nat.reduceAdd, Nat.reduceLeDiff, Nat.add_zero, Nat.reduceMul, Nat.reduceSub, ne_eq, not_false_eq_true, not_true_eq_false, and_self, and_true, true_and, or_self, or_true, true_or, or_false, false_or, if_true, if_false, reduceIte, reduceCtorEq, implies_true, ite_self, ite_not, kM, he, o_lt (a := ((0 : Nat) : Int) - 1) (b := 0) (by omega), g]
    rfl
  | succ i ih =>
    intro k J he hk hi h4
    have g : ¬ ((i : Int) < 0) := by omega
    have e1' : ((i + 1 : Nat) : Int) - 1 = (i : Int) := by omega
    have hx := hX i (by omega) (by omega)
    have l1 := sp_len (k := k)
    have l2 := lb_len (z := α (218 + 4 * i + 1))
    have l3 := lb_len (z := α (218 + 4 * i + 2))
    have e1 := pa_len (A := 302) (zs := sp k) he
    have e2 := pa_len (A := 302) (zs := lb (α (218 + 4 * i + 1))) e1
    have l4 : ([124] : List Int).length = 1 := rfl
    have l5 : ([120] : List Int).length = 1 := rfl
    have l6 : ([47] : List Int).length = 1 := rfl
    have bl := ge_len (α := α) (i := i) (k := k)
    have ih' := ih (k + (ge α i k).length) (pa 302 294 26 (ge α i k) k J) (pa_len he) (by omega) (by omega) (by omega)
    rw [Int.sub_eq_add_neg] at ih'
    have fin : Q (.inl (some (.int (Int32.ofInt ((k + (ge α i k).length + (gls α i (k + (ge α i k).length)).length : Nat) : Int))))) (mk N t 295 (pa 302 294 26 (gls α i (k + (ge α i k).length)) (k + (ge α i k).length) (pa 302 294 26 (ge α i k) k J)) (sR L 295 (r64 α)) D) = Q (.inl (some (.int (Int32.ofInt ((k + (gls α (i + 1) k).length : Nat) : Int))))) (mk N t 295 (pa 302 294 26 (gls α (i + 1) k) k J) (sR L 295 (r64 α)) D) := by
      show _ = Q (.inl (some (.int (Int32.ofInt ((k + (ge α i k ++ gls α i (k + (ge α i k).length)).length : Nat) : Int))))) (mk N t 295 (pa 302 294 26 (ge α i k ++ gls α i (k + (ge α i k).length)) k J) (sR L 295 (r64 α)) D)
      rw [pa_app, List.length_append, Nat.add_assoc]
    have hJ := congrArg (fun z => pa 302 294 26 z k J) (show ge α i k = sp k ++ (lb (α (218 + 4 * i + 1)) ++ ((if α (218 + 4 * i + 2) = -1 then [124] else [120] ++ lb (α (218 + 4 * i + 2))) ++ ([47] ++ nb (α (218 + 4 * i + 3))))) from rfl)
    have p1 : ∀ (J : Nat → Nat → Int32) (d : Nat) (Q : Rs → St → Prop), Wp d 213 0 [some (.ref 294), some (.int (Int32.ofInt (i : Int))), some (.int (Int32.ofInt 1))] [] (mk N t 295 J (sR L 295 (r64 α)) D) Q = Q (.inl (some (.int (Int32.ofInt (α (218 + 4 * i + 1)))))) (mk N t 295 J (sR L 295 (r64 α)) D) := fun J d Q => c213 (v := 1) (by omega) (by omega)
    have p2 : ∀ (J : Nat → Nat → Int32) (d : Nat) (Q : Rs → St → Prop), Wp d 213 0 [some (.ref 294), some (.int (Int32.ofInt (i : Int))), some (.int (Int32.ofInt 2))] [] (mk N t 295 J (sR L 295 (r64 α)) D) Q = Q (.inl (some (.int (Int32.ofInt (α (218 + 4 * i + 2)))))) (mk N t 295 J (sR L 295 (r64 α)) D) := fun J d Q => c213 (v := 2) (by omega) (by omega)
    have p3 : ∀ (J : Nat → Nat → Int32) (d : Nat) (Q : Rs → St → Prop), Wp d 213 0 [some (.ref 294), some (.int (Int32.ofInt (i : Int))), some (.int (Int32.ofInt 3))] [] (mk N t 295 J (sR L 295 (r64 α)) D) Q = Q (.inl (some (.int (Int32.ofInt (α (218 + 4 * i + 3)))))) (mk N t 295 J (sR L 295 (r64 α)) D) := fun J d Q => c213 (v := 3) (by omega) (by omega)
    rw [w286_22, e1']
    by_cases h : α (218 + 4 * i + 2) = -1
    · have e3 := pa_len (A := 302) (zs := [124]) e2
      have e4 := pa_len (A := 302) (zs := [47]) e3
      simp only [pa_app, eq_true h, if_true] at hJ
      simp only [w286_0, w286_1, w286_2, w286_5, w286_6, w286_7, w286_10, w286_12, w286_13, w286_16, w286_19, w286_20, w286_21, w286_23, w286_26, w286_27, w286_30, w286_31, w286_32, w286_33, w286_34, w286_37, w286_40, w286_41, w286_42, w286_43, w286_46, w286_47, w286_50, w286_51, w286_53, w286_56, w286_59, w286_60, w286_62, w286_65, w286_66, w286_67, w286_68, w286_69, w286_72, w286_75, w286_76, w286_78, w286_81, w286_82, w286_83, w286_84, w286_85, w286_88, w286_91, w286_94, w286_97, w286_98, w286_101, kn_s, kn_n, zh_mk, zR_mk, zI_mk, zL_mk, zD_mk, wI_mk, wL_mk, wD_mk, zT_mk, zC_mk, kill_i, kill_r, kill_0, kill_n, kill_l, kill_q, zzk_r, zzk_0, zzk_q, zcat_r, zcat_i, zcat_0, cats_0, cats_i, cats_r, cats_l, cats_d, cats_f, rv_s, rv_0, Nat.reduceAdd, Nat.reduceLeDiff, Nat.add_zero, Nat.reduceMul, Nat.reduceSub, ne_eq, not_false_eq_true, not_true_eq_false, and_self, and_true, true_and, or_self, or_true, true_or, or_false, false_or, if_true, if_false, reduceIte, reduceCtorEq, implies_true, ite_self, ite_not, kM, cast_s, o_add, he, o_lt (a := (i : Int)) (b := 0) (by omega), g, p1, p2, p3, c284 (k := k) (by omega) he, c287 (z := α (218 + 4 * i + 1)) (by omega) (by omega) e1, o_eq (a := α (218 + 4 * i + 2)) (b := -1) (by omega), eq_true h, c282 (z := 124) (by omega) e2, c282 (z := 47) (by omega) e3, c285 (z := α (218 + 4 * i + 3)) (by omega) (by omega) e4]
      rw [← hJ, ih']
      exact fin
    · have e3 := pa_len (A := 302) (zs := [120]) e2
      have e3' := pa_len (A := 302) (zs := lb (α (218 + 4 * i + 2))) e3
      have e4 := pa_len (A := 302) (zs := [47]) e3'
      simp only [pa_app, eq_false h, if_false, List.length_append, ← Nat.add_assoc] at hJ
      simp only [w286_0, w286_1, w286_2, w286_5, w286_6, w286_7, w286_10, w286_12, w286_13, w286_16, w286_19, w286_20, w286_21, w286_23, w286_26, w286_27, w286_30, w286_31, w286_32, w286_33, w286_34, w286_37, w286_40, w286_41, w286_42, w286_43, w286_46, w286_47, w286_50, w286_51, w286_53, w286_56, w286_59, w286_60, w286_62, w286_65, w286_66, w286_67, w286_68, w286_69, w286_72, w286_75, w286_76, w286_78, w286_81, w286_82, w286_83, w286_84, w286_85, w286_88, w286_91, w286_94, w286_97, w286_98, w286_101, kn_s, kn_n, zh_mk, zR_mk, zI_mk, zL_mk, zD_mk, wI_mk, wL_mk, wD_mk, zT_mk, zC_mk, kill_i, kill_r, kill_0, kill_n, kill_l, kill_q, zzk_r, zzk_0, zzk_q, zcat_r, zcat_i, zcat_0, cats_0, cats_i, cats_r, cats_l, cats_d, cats_f, rv_s, rv_0, Nat.reduceAdd, Nat.reduceLeDiff, Nat.add_zero, Nat.reduceMul, Nat.reduceSub, ne_eq, not_false_eq_true, not_true_eq_false, and_self, and_true, true_and, or_self, or_true, true_or, or_false, false_or, if_true, if_false, reduceIte, reduceCtorEq, implies_true, ite_self, ite_not, kM, cast_s, o_add, he, o_lt (a := (i : Int)) (b := 0) (by omega), g, p1, p2, p3, c284 (k := k) (by omega) he, c287 (z := α (218 + 4 * i + 1)) (by omega) (by omega) e1, o_eq (a := α (218 + 4 * i + 2)) (b := -1) (by omega), eq_false h, c282 (z := 120) (by omega) e2, c287 (z := α (218 + 4 * i + 2)) (by omega) (by omega) e3, c282 (z := 47) (by omega) e3', c285 (z := α (218 + 4 * i + 3)) (by omega) (by omega) e4]
      rw [← hJ, ih']
      exact fin
end S73b
section S73c
variable {xs : Nat → Int32} {d c t N n m dA a dB b : Nat} {I : Nat → Nat → Int32} {L : Nat → Nat → Int64} {D : Nat → Nat → UInt64} {EA EB : Lo} {ex : List (Nat × Nat)} {α : Nat → Int} {o : Nat → Nat}
theorem PairI_ou {cs : List Int} (hI : Inv xs c t I L) (hL : L 295 = r64 α) (hl : cs.length ≤ 256)
    (hcls : ∀ Q : Rs → St → Prop, Wp dA a 0 EA [] (mk N t 295 I L D) Q = Q (.inl (some (.int (Int32.ofInt ((0 + cs.length : Nat) : Int))))) (mk N t 295 (pa 18 17 1 cs 0 (up2 I 17 1 (Int32.ofInt 0))) L D))
    (href : ∀ (J : Nat → Nat → Int32) (L2 : Nat → Nat → Int64) (Q : Rs → St → Prop), Wp dB b 0 EB [] (mk N t 295 J (sR L2 295 (r64 α)) D) Q = Q (.inl (some (.int (Int32.ofInt ((0 + cs.length : Nat) : Int))))) (mk N t 295 (pa 302 294 26 cs 0 (up2 (up2 J 294 0 (Int32.ofInt 0)) 294 26 (Int32.ofInt 0))) (sR L2 295 (r64 α)) D)) : PairI dA a EA ex dB b EB N xs c t I L D := by
  intro Q h1 h2
  rw [hcls]
  refine h1 _ _ _ _ (fun j => by rw [pa_off (by omega), u2_ne (by omega)]; exact hI.1.1 j) ?_
  intro L2 Q2 hL2 hQ
  have e : sR L2 295 (r64 α) = L2 := by rw [← hL, ← hL2 295 (by omega)]; exact sR_self
  have := href (pa 18 17 1 cs 0 (up2 I 17 1 (Int32.ofInt 0))) L2 Q2
  rw [e] at this
  rw [this]
  refine hQ _ _ _ (by rw [pa_off (by omega), u2_ne (by omega), u2_same]) (fun _ => rfl) rfl ?_
  have B1 := pa_BY (A := 18) (C := 17) (F := 1) (zs := cs) (k := 0) (I := up2 I 17 1 (Int32.ofInt 0)) (f := fun _ => 0) (by omega) ⟨u2_same, fun j hj => by omega⟩
  have B2 := pa_BY (A := 302) (C := 294) (F := 26) (zs := cs) (k := 0) (I := up2 (up2 (pa 18 17 1 cs 0 (up2 I 17 1 (Int32.ofInt 0))) 294 0 (Int32.ofInt 0)) 294 26 (Int32.ofInt 0)) (f := fun _ => 0) (by omega) ⟨u2_same, fun j hj => by omega⟩
  have q : ∀ a k, (a < 17 ∨ (19 ≤ a ∧ a < 294) ∨ (a = 294 ∧ k ≠ 0 ∧ k ≠ 26) ∨ (295 ≤ a ∧ a < 302)) → pa 302 294 26 cs 0 (up2 (up2 (pa 18 17 1 cs 0 (up2 I 17 1 (Int32.ofInt 0))) 294 0 (Int32.ofInt 0)) 294 26 (Int32.ofInt 0)) a k = I a k := fun a k h => by
    rw [pa_off (by omega), u2_ne (by omega), u2_ne (by omega), pa_off (by omega), u2_ne (by omega)]
  have q2 : ∀ a k, (a = 17 ∨ a = 18) → pa 302 294 26 cs 0 (up2 (up2 (pa 18 17 1 cs 0 (up2 I 17 1 (Int32.ofInt 0))) 294 0 (Int32.ofInt 0)) 294 26 (Int32.ofInt 0)) a k = pa 18 17 1 cs 0 (up2 I 17 1 (Int32.ofInt 0)) a k := fun a k h => by
    rw [pa_off (by omega), u2_ne (by omega), u2_ne (by omega)]
  have ql : ∀ a, a ≠ 303 → ∀ k, L2 a k = L a k := fun a ha k => by rw [hL2 a ha]
  refine Inv_mk hI (by have := hI.1.2.1; omega) (fun a k ha => q a k (by omega)) (IN_ext hI.2.1 (fun k => q _ _ (by omega)) (q _ _ (by omega)) (fun k => q _ _ (by omega)) (fun k => q _ _ (by omega))) ⟨?_, ?_⟩ ⟨0 + cs.length, by omega, ?_, B2.1, fun j hj => ?_⟩ (NW_ext hI.2.2.2.2.1 (by omega) (fun a _ _ k => q _ _ (by omega)) (fun a _ _ k => ql _ (by omega) k) (hL2 295 (by omega))) (KE_ext hI.2.2.2.2.2.1.1 (by omega) (fun k => q _ _ (by omega)) (fun k => q _ _ (by omega)) (fun a _ _ k => q _ _ (by omega)) (fun a _ _ k => ql _ (by omega) k) (fun k => Or.inl (ql _ (by omega) _))) (KE_ext hI.2.2.2.2.2.1.2 (by omega) (fun k => q _ _ (by omega)) (fun k => q _ _ (by omega)) (fun a _ _ k => q _ _ (by omega)) (fun a _ _ k => ql _ (by omega) k) (fun k => Or.inl (ql _ (by omega) _))) (HI_ext hI.2.2.2.2.2.2 (by omega) (fun k => q _ _ (by omega)) (q _ _ (by omega)) (fun a _ _ k => q _ _ (by omega)) (fun a _ _ k => ql _ (by omega) k) (fun k => ql _ (by omega) k))
  · rw [q _ _ (by omega), q 294 19 (by omega)]; exact hI.2.2.1.1
  · rw [q _ _ (by omega), q 294 20 (by omega)]; exact hI.2.2.1.2
  · rw [q2 _ _ (by omega)]; exact B1.1
  · rw [q2 _ _ (by omega), B1.2 j hj, B2.2 j hj]
theorem pk50 (hI : Inv xs c t I L) : PairI (d + 41) 97 [some (.ref 15), none, none] [] (d + 41) 281 [some (.ref 294), none, none] N xs c t I L D := by
  obtain ⟨α, n, m, o, ⟨hR, hG, hE⟩, hL⟩ := hI.2.2.2.2.1
  have h5 : rv (KR 295 15 5) = .ref 19 := rfl
  have h0 : 10 ≤ α 0 ∧ α 0 ≤ 200 := ⟨hG.1.2.2.1, hG.1.2.2.2.1⟩
  refine PairI_ou (α := α) (cs := lnC α n m (α 0).toNat 0) hI hL (by rw [lnC_len]; omega) (fun Q => ?_) (fun J L2 Q => ?_)
  · have := c97_10 (d := d + 39) (N := N) (t := t) (w := 295) (L := L) (D := D) (Q := Q) LB_now h5 hG (α 0).toNat 0 0 (up2 I 17 1 (Int32.ofInt 0)) none (RL_ext hR (fun a ha q => u2_ne (by omega)) (fun _ _ _ => rfl)) u2_same (by omega) (by omega)
    simp only [w97_0, w97_1, w97_4, w97_5, w97_8, w97_9, kn_s, kn_n, zh_mk, zR_mk, zI_mk, zL_mk, zD_mk, wI_mk, wL_mk, wD_mk, zT_mk, zC_mk, kill_i, kill_r, kill_0, kill_n, kill_l, kill_q, zzk_r, zzk_0, zzk_q, zcat_r, zcat_i, zcat_0, cats_0, cats_i, cats_r, cats_l, cats_d, cats_f, rv_s, rv_0, Nat.reduceAdd, Nat.reduceLeDiff, Nat.add_zero, Nat.reduceMul, Nat.reduceSub, ne_eq, not_false_eq_true, not_true_eq_false, and_self, and_true, true_and, or_self, or_true, true_or, or_false, false_or, if_true, if_false, reduceIte, reduceCtorEq, implies_true, ite_self, ite_not, lay_in, lay_0, up2_lay, up2_lay0, kh0, kh1, kh2, kh3, kh4, kh5, kh6, kh7, kh8, kh9, kh10, kh11, kh12, khB, khP, kr2, kr4, kr5, kr7, kr8, kr9, kr10, krB, krP, krG0, krG1, krG2, krG3, krK, Nat.reduceLT, o_add, o_sub, o_mul, o_neg, q_add, q_sub, q_mul, q_neg, o_32, cast_s, Int.toNat_natCast, k15, k17, kr15_2, h5, LB_now]
    exact this
  · have := c281_12 (d := d + 39) (N := N) (t := t) (w := 295) (L := L2) (D := D) (Q := Q) (Or.inl rfl) hG (α 0).toNat 0 0 (up2 (up2 J 294 0 (Int32.ofInt 0)) 294 26 (Int32.ofInt 0)) none u2_same (by omega) (by omega)
    simp only [w281_0, w281_1, w281_2, w281_5, w281_6, w281_7, w281_10, w281_11, kn_s, kn_n, zh_mk, zR_mk, zI_mk, zL_mk, zD_mk, wI_mk, wL_mk, wD_mk, zT_mk, zC_mk, kill_i, kill_r, kill_0, kill_n, kill_l, kill_q, zzk_r, zzk_0, zzk_q, zcat_r, zcat_i, zcat_0, cats_0, cats_i, cats_r, cats_l, cats_d, cats_f, rv_s, rv_0, Nat.reduceAdd, Nat.reduceLeDiff, Nat.add_zero, Nat.reduceMul, Nat.reduceSub, ne_eq, not_false_eq_true, not_true_eq_false, and_self, and_true, true_and, or_self, or_true, true_or, or_false, false_or, if_true, if_false, reduceIte, reduceCtorEq, implies_true, ite_self, ite_not, kM]
    exact this
theorem bls_len {α : Nat → Int} {o : Nat → Nat} : ∀ r p k, (bls α o r p k).length ≤ 15 * r
  | 0, _, _ => Nat.zero_le _
  | r + 1, p, k => by
    show (be α (o p) k ++ bls α o r (p + 1) (k + (be α (o p) k).length)).length ≤ _
    have h1 := bls_len (α := α) (o := o) r (p + 1) (k + (be α (o p) k).length)
    have h2 := be_len (α := α) (q := o p) (k := k)
    rw [List.length_append]
    omega
theorem gls_len {α : Nat → Int} : ∀ i k, (gls α i k).length ≤ 15 * i
  | 0, _ => Nat.zero_le _
  | i + 1, k => by
    show (ge α i k ++ gls α i (k + (ge α i k).length)).length ≤ _
    have h1 := gls_len (α := α) i (k + (ge α i k).length)
    have h2 := ge_len (α := α) (i := i) (k := k)
    rw [List.length_append]
    omega
theorem pk51 (hI : Inv xs c t I L) : PairI (d + 41) 98 [some (.ref 15), none, none] [] (d + 41) 283 [some (.ref 294), none, none] N xs c t I L D := by
  obtain ⟨α, n, m, o, ⟨hR, hG, hE⟩, hL⟩ := hI.2.2.2.2.1
  have h5 : rv (KR 295 15 5) = .ref 19 := rfl
  have h10 := hG.1.1
  have hl := bls_len (α := α) (o := o) n 0 0
  refine PairI_ou (α := α) (cs := bls α o n 0 0) hI hL (by omega) (fun Q => ?_) (fun J L2 Q => ?_)
  · have := c98_10 (d := d + 39) (N := N) (t := t) (w := 295) (L := L) (D := D) (Q := Q) LB_now h5 hG n 0 0 (up2 I 17 1 (Int32.ofInt 0)) none (RL_ext hR (fun a ha q => u2_ne (by omega)) (fun _ _ _ => rfl)) u2_same (by omega) (by omega)
    simp only [w98_0, w98_1, w98_4, w98_5, w98_8, w98_9, kn_s, kn_n, zh_mk, zR_mk, zI_mk, zL_mk, zD_mk, wI_mk, wL_mk, wD_mk, zT_mk, zC_mk, kill_i, kill_r, kill_0, kill_n, kill_l, kill_q, zzk_r, zzk_0, zzk_q, zcat_r, zcat_i, zcat_0, cats_0, cats_i, cats_r, cats_l, cats_d, cats_f, rv_s, rv_0, Nat.reduceAdd, Nat.reduceLeDiff, Nat.add_zero, Nat.reduceMul, Nat.reduceSub, ne_eq, not_false_eq_true, not_true_eq_false, and_self, and_true, true_and, or_self, or_true, true_or, or_false, false_or, if_true, if_false, reduceIte, reduceCtorEq, implies_true, ite_self, ite_not, lay_in, lay_0, up2_lay, up2_lay0, kh0, kh1, kh2, kh3, kh4, kh5, kh6, kh7, kh8, kh9, kh10, kh11, kh12, khB, khP, kr2, kr4, kr5, kr7, kr8, kr9, kr10, krB, krP, krG0, krG1, krG2, krG3, krK, Nat.reduceLT, o_add, o_sub, o_mul, o_neg, q_add, q_sub, q_mul, q_neg, o_32, cast_s, Int.toNat_natCast, k15, k17, kr15_2, h5, LB_now]
    exact this
  · have := c283_12 (d := d + 38) (N := N) (t := t) (w := 295) (L := L2) (D := D) (Q := Q) (Or.inl rfl) hG n 0 0 (up2 (up2 J 294 0 (Int32.ofInt 0)) 294 26 (Int32.ofInt 0)) none u2_same (by omega) (by omega)
    simp only [w283_0, w283_1, w283_2, w283_5, w283_6, w283_7, w283_10, w283_11, kn_s, kn_n, zh_mk, zR_mk, zI_mk, zL_mk, zD_mk, wI_mk, wL_mk, wD_mk, zT_mk, zC_mk, kill_i, kill_r, kill_0, kill_n, kill_l, kill_q, zzk_r, zzk_0, zzk_q, zcat_r, zcat_i, zcat_0, cats_0, cats_i, cats_r, cats_l, cats_d, cats_f, rv_s, rv_0, Nat.reduceAdd, Nat.reduceLeDiff, Nat.add_zero, Nat.reduceMul, Nat.reduceSub, ne_eq, not_false_eq_true, not_true_eq_false, and_self, and_true, true_and, or_self, or_true, true_or, or_false, false_or, if_true, if_false, reduceIte, reduceCtorEq, implies_true, ite_self, ite_not, kM]
    exact this
theorem ite_sub1 {p : Prop} [Decidable p] {x y : Int} : Int32.ofInt ((if p then x else y) - 1) = (if p then Int32.ofInt x else Int32.ofInt y) - Int32.ofInt 1 := by
  split <;> rw [o_sub]
theorem pk52 (hI : Inv xs c t I L) : PairI (d + 41) 99 [some (.ref 15), none, none, none] [] (d + 41) 286 [some (.ref 294), none] N xs c t I L D := by
  obtain ⟨α, n, m, o, ⟨hR, hG, hE⟩, hL⟩ := hI.2.2.2.2.1
  have h5 : rv (KR 295 15 5) = .ref 19 := rfl
  have h4 := hG.2.2.1.2.2
  obtain ⟨i, hi, hi4⟩ : ∃ i : Nat, (i : Int) = (if 10 < α 4 then 10 else α 4) ∧ ((i : Int) = if α 4 < 10 then α 4 else 10) := ⟨(if 10 < α 4 then 10 else α 4).toNat, by split <;> omega, by split <;> split <;> omega⟩
  have hi10 : i ≤ 10 := by split at hi <;> omega
  have hia : (i : Int) ≤ α 4 := by split at hi <;> omega
  have hl := gls_len (α := α) i 0
  have sz : up2 I 17 1 (Int32.ofInt 0) (19 + 6) 5 = Int32.ofInt (α 4) := by
    obtain ⟨nx, h1, h2, h3, h6⟩ := hR.2.2.2.2
    rw [u2_ne (by omega)]
    exact h3
  refine PairI_ou (α := α) (cs := gls α i 0) hI hL (by omega) (fun Q => ?_) (fun J L2 Q => ?_)
  · have := c99_28 (d := d + 38) (N := N) (t := t) (w := 295) (L := L) (D := D) (Q := Q) LB_now h5 hE.2.1 i 0 (up2 I 17 1 (Int32.ofInt 0)) none (RL_ext hR (fun a ha q => u2_ne (by omega)) (fun _ _ _ => rfl)) u2_same (by omega) hi10 hia
    rw [hi, ite_sub1] at this
    simp only [w99_0, w99_1, w99_4, w99_5, w99_8, w99_9, w99_12, w99_15, w99_16, w99_17, w99_20, w99_22, w99_25, w99_26, w99_27, kn_s, kn_n, zh_mk, zR_mk, zI_mk, zL_mk, zD_mk, wI_mk, wL_mk, wD_mk, zT_mk, zC_mk, kill_i, kill_r, kill_0, kill_n, kill_l, kill_q, zzk_r, zzk_0, zzk_q, zcat_r, zcat_i, zcat_0, cats_0, cats_i, cats_r, cats_l, cats_d, cats_f, rv_s, rv_0, Nat.reduceAdd, Nat.reduceLeDiff, Nat.add_zero, Nat.reduceMul, Nat.reduceSub, ne_eq, not_false_eq_true, not_true_eq_false, and_self, and_true, true_and, or_self, or_true, true_or, or_false, false_or, if_true, if_false, reduceIte, reduceCtorEq, implies_true, ite_self, ite_not, lay_in, lay_0, up2_lay, up2_lay0, kh0, kh1, kh2, kh3, kh4, kh5, kh6, kh7, kh8, kh9, kh10, kh11, kh12, khB, khP, kr2, kr4, kr5, kr7, kr8, kr9, kr10, krB, krP, krG0, krG1, krG2, krG3, krK, Nat.reduceLT, o_add, o_sub, o_mul, o_neg, q_add, q_sub, q_mul, q_neg, o_32, cast_s, Int.toNat_natCast, k15, k17, kr15_2, h5, LB_now, sz, o_lt (a := 10) (b := α 4) (by omega)]
    exact this
  · have := c286_22 (d := d + 39) (N := N) (t := t) (L := L2) (D := D) (Q := Q) hE.2.1 i 0 (up2 (up2 J 294 0 (Int32.ofInt 0)) 294 26 (Int32.ofInt 0)) u2_same (by omega) hi10 hia
    rw [hi4, ite_sub1] at this
    simp only [w286_0, w286_1, w286_2, w286_5, w286_6, w286_7, w286_10, w286_12, w286_13, w286_16, w286_19, w286_20, w286_21, kn_s, kn_n, zh_mk, zR_mk, zI_mk, zL_mk, zD_mk, wI_mk, wL_mk, wD_mk, zT_mk, zC_mk, kill_i, kill_r, kill_0, kill_n, kill_l, kill_q, zzk_r, zzk_0, zzk_q, zcat_r, zcat_i, zcat_0, cats_0, cats_i, cats_r, cats_l, cats_d, cats_f, rv_s, rv_0, Nat.reduceAdd, Nat.reduceLeDiff, Nat.add_zero, Nat.reduceMul, Nat.reduceSub, ne_eq, not_false_eq_true, not_true_eq_false, and_self, and_true, true_and, or_self, or_true, true_or, or_false, false_or, if_true, if_false, reduceIte, reduceCtorEq, implies_true, ite_self, ite_not, kM, c212, o_lt (a := α 4) (b := 10) (by omega)]
    exact this
end S73c
