/-! CLASS AND REFERENCE AGREE: traded, output, input, find. Made by wip/whole/gen/gen62.py -/
section S62
variable {N : NX} {w : WX} {d t b n m : Nat} {I ℓ : Nat → Nat → Int32} {L μ : Nat → Nat → Int64} {D : Nat → Nat → UInt64} {Q : Rs → St → Prop} {o : Nat → Nat} {α : Nat → Int}
theorem c38' (hb : LB b) (hR : RL ℓ μ α n m o) (hG : GA α n m o) {l r : Nat} (hl : l < n) (hr : r < n) : Wp (d + 1) 38 0 [some (.ref (b + (l + 13))), some (.ref (b + (r + 13))), none, none, none, none, none] [] (mk N t w (lay b ℓ I) L D) Q = Q (.inl (some (.int (Int32.ofInt (if α (B9 l 1) ≤ α (B9 r 1) then -1 else kA (α (B9 l 1)) (α (B9 r 1)) (α (B9 l 2)) (α (B9 r 2))))))) (mk N t w (lay b ℓ I) L D) := by
  have h10 := hG.1.1
  have gl := hG.1.2.2.2.2 l hl
  have gr := hG.1.2.2.2.2 r hr
  exact c38 (khB (N := N) hb (show l < 10 by omega)) (khB (N := N) hb (show r < 10 by omega)) gl.2.1 gr.2.1 gl.2.2.1 gr.2.2.1 (by rw [lay_in (by omega)]; exact rd_s hR hG hl) (by rw [lay_in (by omega)]; exact rd_s hR hG hr) (by rw [lay_in (by omega)]; exact rd_w hR hG hl) (by rw [lay_in (by omega)]; exact rd_w hR hG hr)
/-- the narrowed byte that a shift gives -/
def bt (x : Int32) (s : Int) : Int32 := vp_nar .byte (x >>> (Int32.ofInt s &&& 31)).toInt8.toInt32
def a1 (A C F k : Nat) (v : Int32) (I : Nat → Nat → Int32) : Nat → Nat → Int32 := up2 (up2 I A k v) C F (Int32.ofInt ((k + 1 : Nat) : Int))
def a4 (A C F k : Nat) (x : Int32) (I : Nat → Nat → Int32) : Nat → Nat → Int32 := a1 A C F (k + 3) (bt x 0) (a1 A C F (k + 2) (bt x 8) (a1 A C F (k + 1) (bt x 16) (a1 A C F k (bt x 24) I)))
theorem a1_len {A C F k : Nat} {v : Int32} : a1 A C F k v I C F = Int32.ofInt ((k + 1 : Nat) : Int) := u2_same
theorem k16 {N : NX} : KH N 16 = (13, 400) := nr rfl
theorem kr15_0 {w : WX} : rv (KR w 15 0) = .ref 16 := nr rfl
theorem c102_s {k : Nat} {x : Int32} {s : Int} (hk : k < 400) (hs : 0 ≤ s ∧ s ≤ 24) (e : I 15 1 = Int32.ofInt (k : Int)) : Wp d 102 3 [some (.ref 15), some (.int x), some (.int (Int32.ofInt s))] [] (mk N t w I L D) Q = Wp d 102 3 [some (.ref 15), some (.int x), some (.int (Int32.ofInt (s + -8)))] [] (mk N t w (a1 16 15 1 k (bt x s) I) L D) Q := by
  have g : ¬ (s < 0) := by omega
  have g2 : (k : Int) < 400 := by omega
  rw [w102_3]
  simp only [w102_0, w102_2, w102_4, w102_7, w102_8, w102_11, w102_14, w102_17, w102_18, w102_21, w102_22, w102_25, w102_26, w102_27, w102_28, w102_29, w102_30, w102_31, w102_32, w102_35, w102_36, w102_37, w102_40, w102_43, w102_46, kn_s, kn_n, zh_mk, zR_mk, zI_mk, zL_mk, zD_mk, wI_mk, wL_mk, wD_mk, zT_mk, zC_mk, kill_i, kill_r, kill_0, kill_n, kill_l, kill_q, zzk_r, zzk_0, zzk_q, zcat_r, zcat_i, zcat_0, zcat_q, cats_0, cats_i, cats_r, cats_l, cats_d, cats_f, cats_q, cats_n, rv_s, rv_0, Nat.reduceAdd, Nat.reduceLeDiff, Nat.reduceEqDiff, Nat.add_zero, Nat.reduceMul, Nat.reduceSub, ne_eq, not_false_eq_true, not_true_eq_false, and_self, and_true, true_and, or_self, or_true, true_or, or_false, false_or, if_true, if_false, reduceIte, reduceCtorEq, implies_true, ite_self, ite_not, o_add, o_sub, o_mul, o_neg, q_add, q_sub, q_mul, q_neg, o_32, cast_s, k15, k16, kr15_0, e, o_lt (a := s) (b := 0) (by omega), g, o_lt (a := (k : Int)) (b := 400) (by omega), g2, o_ixn (j := k) (n := 400) (by omega), o_tnn (j := k) (by omega), up2_at, Nat.reduceEqDiff, false_and, a1, bt]
theorem c102 {k : Nat} {x : Int32} (hk : k + 4 ≤ 400) (e : I 15 1 = Int32.ofInt (k : Int)) : Wp d 102 0 [some (.ref 15), some (.int x), none] [] (mk N t w I L D) Q = Q (.inl none) (mk N t w (a4 16 15 1 k x I) L D) := by
  simp only [w102_0, w102_2, kn_s, kn_n, zh_mk, zR_mk, zI_mk, zL_mk, zD_mk, wI_mk, wL_mk, wD_mk, zT_mk, zC_mk, kill_i, kill_r, kill_0, kill_n, kill_l, kill_q, zzk_r, zzk_0, zzk_q, zcat_r, zcat_i, zcat_0, zcat_q, cats_0, cats_i, cats_r, cats_l, cats_d, cats_f, cats_q, cats_n, rv_s, rv_0, Nat.reduceAdd, Nat.reduceLeDiff, Nat.reduceEqDiff, Nat.add_zero, Nat.reduceMul, Nat.reduceSub, ne_eq, not_false_eq_true, not_true_eq_false, and_self, and_true, true_and, or_self, or_true, true_or, or_false, false_or, if_true, if_false, reduceIte, reduceCtorEq, implies_true, ite_self, ite_not]
  rw [c102_s (k := k) (by omega) (by omega) e, c102_s (k := k + 1) (by omega) (by omega) a1_len, c102_s (k := k + 2) (by omega) (by omega) a1_len, c102_s (k := k + 3) (by omega) (by omega) a1_len, w102_3]
  simp only [w102_4, w102_46, kn_s, kn_n, zh_mk, zR_mk, zI_mk, zL_mk, zD_mk, wI_mk, wL_mk, wD_mk, zT_mk, zC_mk, kill_i, kill_r, kill_0, kill_n, kill_l, kill_q, zzk_r, zzk_0, zzk_q, zcat_r, zcat_i, zcat_0, zcat_q, cats_0, cats_i, cats_r, cats_l, cats_d, cats_f, cats_q, cats_n, rv_s, rv_0, Nat.reduceAdd, Nat.reduceLeDiff, Nat.reduceEqDiff, Nat.add_zero, Nat.reduceMul, Nat.reduceSub, ne_eq, not_false_eq_true, not_true_eq_false, and_self, and_true, true_and, or_self, or_true, true_or, or_false, false_or, if_true, if_false, reduceIte, reduceCtorEq, implies_true, ite_self, ite_not, show (Int32.ofInt (24 + -8 + -8 + -8 + -8) < Int32.ofInt 0) = True by decide]
  rfl
theorem a4_len {A C F k : Nat} {x : Int32} : a4 A C F k x I C F = Int32.ofInt ((k + 4 : Nat) : Int) := u2_same
def a20 (A C F k : Nat) (x y z u v : Int32) (I : Nat → Nat → Int32) : Nat → Nat → Int32 := a4 A C F (k + 16) v (a4 A C F (k + 12) u (a4 A C F (k + 8) z (a4 A C F (k + 4) y (a4 A C F k x I))))
theorem c101 {k : Nat} {x y z u v : Int32} (hk : k ≤ 380) (e : I 15 1 = Int32.ofInt (k : Int)) : Wp (d + 1) 101 0 [some (.ref 15), some (.int x), some (.int y), some (.int z), some (.int u), some (.int v)] [] (mk N t w I L D) Q = Q (.inl (some (.int (Int32.ofInt ((k + 20 : Nat) : Int))))) (mk N t w (a20 16 15 1 k x y z u v I) L D) := by
  have g : ¬ (380 < (k : Int)) := by omega
  simp only [w101_0, w101_1, w101_4, w101_7, w101_10, w101_18, w101_19, w101_20, w101_23, w101_24, w101_25, w101_28, w101_29, w101_30, w101_33, w101_34, w101_36, w101_39, w101_40, w101_42, w101_45, w101_46, w101_49, kn_s, kn_n, zh_mk, zR_mk, zI_mk, zL_mk, zD_mk, wI_mk, wL_mk, wD_mk, zT_mk, zC_mk, kill_i, kill_r, kill_0, kill_n, kill_l, kill_q, zzk_r, zzk_0, zzk_q, zcat_r, zcat_i, zcat_0, zcat_q, cats_0, cats_i, cats_r, cats_l, cats_d, cats_f, cats_q, cats_n, rv_s, rv_0, Nat.reduceAdd, Nat.reduceLeDiff, Nat.reduceEqDiff, Nat.add_zero, Nat.reduceMul, Nat.reduceSub, ne_eq, not_false_eq_true, not_true_eq_false, and_self, and_true, true_and, or_self, or_true, true_or, or_false, false_or, if_true, if_false, reduceIte, reduceCtorEq, implies_true, ite_self, ite_not, k15, e, o_lt (a := 380) (b := (k : Int)) (by omega), g, c102 (k := k) (by omega) e, c102 (k := k + 4) (by omega) a4_len, c102 (k := k + 8) (by omega) a4_len, c102 (k := k + 12) (by omega) a4_len, c102 (k := k + 16) (by omega) a4_len, a4_len]
  rfl
/-- letters as digits to the base 27 -/
def pkL (f : Nat → Int) : Nat → Nat → Int → Int
  | 0, _, p => p
  | r + 1, i, p => if f i < 97 ∨ 122 < f i then 0 else pkL f r (i + 1) (p * 27 + f i - 97 + 1)
theorem pkL_s {f : Nat → Int} {r i : Nat} {p : Int} : pkL f (r + 1) i p = if f i < 97 ∨ 122 < f i then 0 else pkL f r (i + 1) (p * 27 + f i - 97 + 1) := nr rfl
/-- the number of a name; 0 where there is none -/
def pkN (f : Nat → Int) (a e : Nat) : Int := if a + 6 < e then 0 else pkL f (e - a) a 0
theorem c78_25 {A a e : Nat} {f : Nat → Int} (hA : KH N A = (13, 400)) (he : e ≤ 400) (hf : ∀ j, j < e → I A j = Int32.ofInt (f j) ∧ -128 ≤ f j ∧ f j < 128) : ∀ (r i : Nat) (p : Int), i + r = e → Wp d 78 25 [some (.ref A), some (.int (Int32.ofInt (a : Int))), some (.int (Int32.ofInt (e : Int))), some (.int (Int32.ofInt p)), some (.int (Int32.ofInt (i : Int)))] [] (mk N t w I L D) Q = Q (.inl (some (.int (Int32.ofInt (pkL f r i p))))) (mk N t w I L D) := by
  intro r
  induction r with
  | zero =>
    intro i p hi
    have g : ¬ ((i : Int) < e) := by omega
    rw [w78_25]
    simp only [w78_0, w78_1, w78_4, w78_5, w78_6, w78_7, w78_10, w78_11, w78_12, w78_13, w78_15, w78_18, w78_19, w78_20, w78_21, w78_22, w78_23, w78_27, w78_28, w78_31, w78_32, w78_34, w78_35, w78_37, w78_40, w78_41, w78_43, w78_44, w78_46, w78_49, w78_50, w78_51, w78_52, w78_54, w78_55, w78_56, w78_58, w78_59, w78_60, w78_62, w78_63, w78_64, w78_65, w78_66, w78_69, w78_72, w78_73, kn_s, kn_n, zh_mk, zR_mk, zI_mk, zL_mk, zD_mk, wI_mk, wL_mk, wD_mk, zT_mk, zC_mk, kill_i, kill_r, kill_0, kill_n, kill_l, kill_q, zzk_r, zzk_0, zzk_q, zcat_r, zcat_i, zcat_0, zcat_q, cats_0, cats_i, cats_r, cats_l, cats_d, cats_f, cats_q, cats_n, rv_s, rv_0, Nat.reduceAdd, Nat.reduceLeDiff, Nat.reduceEqDiff, Nat.add_zero, Nat.reduceMul, Nat.reduceSub, ne_eq, not_false_eq_true, not_true_eq_false, and_self, and_true, true_and, or_self, or_true, true_or, or_false, false_or, if_true, if_false, reduceIte, reduceCtorEq, implies_true, ite_self, ite_not, hA, o_lt (a := (i : Int)) (b := (e : Int)) (by omega), g, pkL]
  | succ r ih =>
    intro i p hi
    have g : (i : Int) < e := by omega
    have h := hf i (by omega)
    rw [w78_25, pkL_s]
    by_cases c1 : f i < 97
    · simp only [w78_0, w78_1, w78_4, w78_5, w78_6, w78_7, w78_10, w78_11, w78_12, w78_13, w78_15, w78_18, w78_19, w78_20, w78_21, w78_22, w78_23, w78_27, w78_28, w78_31, w78_32, w78_34, w78_35, w78_37, w78_40, w78_41, w78_43, w78_44, w78_46, w78_49, w78_50, w78_51, w78_52, w78_54, w78_55, w78_56, w78_58, w78_59, w78_60, w78_62, w78_63, w78_64, w78_65, w78_66, w78_69, w78_72, w78_73, kn_s, kn_n, zh_mk, zR_mk, zI_mk, zL_mk, zD_mk, wI_mk, wL_mk, wD_mk, zT_mk, zC_mk, kill_i, kill_r, kill_0, kill_n, kill_l, kill_q, zzk_r, zzk_0, zzk_q, zcat_r, zcat_i, zcat_0, zcat_q, cats_0, cats_i, cats_r, cats_l, cats_d, cats_f, cats_q, cats_n, rv_s, rv_0, Nat.reduceAdd, Nat.reduceLeDiff, Nat.reduceEqDiff, Nat.add_zero, Nat.reduceMul, Nat.reduceSub, ne_eq, not_false_eq_true, not_true_eq_false, and_self, and_true, true_and, or_self, or_true, true_or, or_false, false_or, if_true, if_false, reduceIte, reduceCtorEq, implies_true, ite_self, ite_not, o_add, o_sub, o_mul, o_neg, q_add, q_sub, q_mul, q_neg, o_32, cast_s, hA, o_lt (a := (i : Int)) (b := (e : Int)) (by omega), g, h.1, o_ixn (j := i) (n := 400) (by omega), o_tnn (j := i) (by omega), o_lt (a := f i) (b := 97) (by omega), c1, true_or]
    · by_cases c2 : 122 < f i
      · simp only [w78_0, w78_1, w78_4, w78_5, w78_6, w78_7, w78_10, w78_11, w78_12, w78_13, w78_15, w78_18, w78_19, w78_20, w78_21, w78_22, w78_23, w78_27, w78_28, w78_31, w78_32, w78_34, w78_35, w78_37, w78_40, w78_41, w78_43, w78_44, w78_46, w78_49, w78_50, w78_51, w78_52, w78_54, w78_55, w78_56, w78_58, w78_59, w78_60, w78_62, w78_63, w78_64, w78_65, w78_66, w78_69, w78_72, w78_73, kn_s, kn_n, zh_mk, zR_mk, zI_mk, zL_mk, zD_mk, wI_mk, wL_mk, wD_mk, zT_mk, zC_mk, kill_i, kill_r, kill_0, kill_n, kill_l, kill_q, zzk_r, zzk_0, zzk_q, zcat_r, zcat_i, zcat_0, zcat_q, cats_0, cats_i, cats_r, cats_l, cats_d, cats_f, cats_q, cats_n, rv_s, rv_0, Nat.reduceAdd, Nat.reduceLeDiff, Nat.reduceEqDiff, Nat.add_zero, Nat.reduceMul, Nat.reduceSub, ne_eq, not_false_eq_true, not_true_eq_false, and_self, and_true, true_and, or_self, or_true, true_or, or_false, false_or, if_true, if_false, reduceIte, reduceCtorEq, implies_true, ite_self, ite_not, o_add, o_sub, o_mul, o_neg, q_add, q_sub, q_mul, q_neg, o_32, cast_s, hA, o_lt (a := (i : Int)) (b := (e : Int)) (by omega), g, h.1, o_ixn (j := i) (n := 400) (by omega), o_tnn (j := i) (by omega), o_lt (a := f i) (b := 97) (by omega), c1, o_lt (a := 122) (b := f i) (by omega), c2, or_true]
      · simp only [w78_0, w78_1, w78_4, w78_5, w78_6, w78_7, w78_10, w78_11, w78_12, w78_13, w78_15, w78_18, w78_19, w78_20, w78_21, w78_22, w78_23, w78_27, w78_28, w78_31, w78_32, w78_34, w78_35, w78_37, w78_40, w78_41, w78_43, w78_44, w78_46, w78_49, w78_50, w78_51, w78_52, w78_54, w78_55, w78_56, w78_58, w78_59, w78_60, w78_62, w78_63, w78_64, w78_65, w78_66, w78_69, w78_72, w78_73, kn_s, kn_n, zh_mk, zR_mk, zI_mk, zL_mk, zD_mk, wI_mk, wL_mk, wD_mk, zT_mk, zC_mk, kill_i, kill_r, kill_0, kill_n, kill_l, kill_q, zzk_r, zzk_0, zzk_q, zcat_r, zcat_i, zcat_0, zcat_q, cats_0, cats_i, cats_r, cats_l, cats_d, cats_f, cats_q, cats_n, rv_s, rv_0, Nat.reduceAdd, Nat.reduceLeDiff, Nat.reduceEqDiff, Nat.add_zero, Nat.reduceMul, Nat.reduceSub, ne_eq, not_false_eq_true, not_true_eq_false, and_self, and_true, true_and, or_self, or_true, true_or, or_false, false_or, if_true, if_false, reduceIte, reduceCtorEq, implies_true, ite_self, ite_not, o_add, o_sub, o_mul, o_neg, q_add, q_sub, q_mul, q_neg, o_32, cast_s, hA, o_lt (a := (i : Int)) (b := (e : Int)) (by omega), g, h.1, o_ixn (j := i) (n := 400) (by omega), o_tnn (j := i) (by omega), o_lt (a := f i) (b := 97) (by omega), c1, o_lt (a := 122) (b := f i) (by omega), c2, or_self, ih (i + 1) _ (by omega)]
theorem o_n400 : Int32.ofNat 400 = Int32.ofInt 400 := nr rfl
theorem c78 {A a e : Nat} {f : Nat → Int} (hA : KH N A = (13, 400)) (ha : a ≤ e) (he : e ≤ 400) (hf : ∀ j, j < e → I A j = Int32.ofInt (f j) ∧ -128 ≤ f j ∧ f j < 128) : Wp d 78 0 [some (.ref A), some (.int (Int32.ofInt (a : Int))), some (.int (Int32.ofInt (e : Int))), none, none] [] (mk N t w I L D) Q = Q (.inl (some (.int (Int32.ofInt (pkN f a e))))) (mk N t w I L D) := by
  have l := c78_25 (d := d) (N := N) (t := t) (w := w) (I := I) (L := L) (D := D) (Q := Q) (a := a) hA he hf (e - a) a 0 (by omega)
  have g1 : ¬ ((a : Int) < 0) := by omega
  have g2 : ¬ (400 < (e : Int)) := by omega
  unfold pkN
  by_cases h : a + 6 < e
  · have g3 : 6 < (e : Int) - a := by omega
    simp only [w78_0, w78_1, w78_4, w78_5, w78_6, w78_7, w78_10, w78_11, w78_12, w78_13, w78_15, w78_18, w78_19, w78_20, w78_21, w78_22, w78_23, w78_27, w78_28, w78_31, w78_32, w78_34, w78_35, w78_37, w78_40, w78_41, w78_43, w78_44, w78_46, w78_49, w78_50, w78_51, w78_52, w78_54, w78_55, w78_56, w78_58, w78_59, w78_60, w78_62, w78_63, w78_64, w78_65, w78_66, w78_69, w78_72, w78_73, kn_s, kn_n, zh_mk, zR_mk, zI_mk, zL_mk, zD_mk, wI_mk, wL_mk, wD_mk, zT_mk, zC_mk, kill_i, kill_r, kill_0, kill_n, kill_l, kill_q, zzk_r, zzk_0, zzk_q, zcat_r, zcat_i, zcat_0, zcat_q, cats_0, cats_i, cats_r, cats_l, cats_d, cats_f, cats_q, cats_n, rv_s, rv_0, Nat.reduceAdd, Nat.reduceLeDiff, Nat.reduceEqDiff, Nat.add_zero, Nat.reduceMul, Nat.reduceSub, ne_eq, not_false_eq_true, not_true_eq_false, and_self, and_true, true_and, or_self, or_true, true_or, or_false, false_or, if_true, if_false, reduceIte, reduceCtorEq, implies_true, ite_self, ite_not, o_add, o_sub, o_mul, o_neg, q_add, q_sub, q_mul, q_neg, o_32, cast_s, hA, o_n400, o_lt (a := (a : Int)) (b := 0) (by omega), o_lt (a := 400) (b := (e : Int)) (by omega), o_lt (a := 6) (b := (e : Int) - a) (by omega), g1, g2, g3, h]
  · have g3 : ¬ (6 < (e : Int) - a) := by omega
    simp only [w78_0, w78_1, w78_4, w78_5, w78_6, w78_7, w78_10, w78_11, w78_12, w78_13, w78_15, w78_18, w78_19, w78_20, w78_21, w78_22, w78_23, w78_27, w78_28, w78_31, w78_32, w78_34, w78_35, w78_37, w78_40, w78_41, w78_43, w78_44, w78_46, w78_49, w78_50, w78_51, w78_52, w78_54, w78_55, w78_56, w78_58, w78_59, w78_60, w78_62, w78_63, w78_64, w78_65, w78_66, w78_69, w78_72, w78_73, kn_s, kn_n, zh_mk, zR_mk, zI_mk, zL_mk, zD_mk, wI_mk, wL_mk, wD_mk, zT_mk, zC_mk, kill_i, kill_r, kill_0, kill_n, kill_l, kill_q, zzk_r, zzk_0, zzk_q, zcat_r, zcat_i, zcat_0, zcat_q, cats_0, cats_i, cats_r, cats_l, cats_d, cats_f, cats_q, cats_n, rv_s, rv_0, Nat.reduceAdd, Nat.reduceLeDiff, Nat.reduceEqDiff, Nat.add_zero, Nat.reduceMul, Nat.reduceSub, ne_eq, not_false_eq_true, not_true_eq_false, and_self, and_true, true_and, or_self, or_true, true_or, or_false, false_or, if_true, if_false, reduceIte, reduceCtorEq, implies_true, ite_self, ite_not, o_add, o_sub, o_mul, o_neg, q_add, q_sub, q_mul, q_neg, o_32, cast_s, hA, o_n400, o_lt (a := (a : Int)) (b := 0) (by omega), o_lt (a := 400) (b := (e : Int)) (by omega), o_lt (a := 6) (b := (e : Int) - a) (by omega), g1, g2, g3, h]
    exact l
/-- a name's number is small, and not 0 -/
theorem pkL_b {f : Nat → Int} : ∀ (r i : Nat) (p : Int) (B : Int), 0 ≤ p → p < B → (0 ≤ pkL f r i p ∧ pkL f r i p < B * 27 ^ r)
  | 0, _, p, B, h1, h2 => by
    show 0 ≤ p ∧ p < B * 27 ^ 0
    omega
  | r + 1, i, p, B, h1, h2 => by
    have hB : (0 : Int) < B * 27 ^ (r + 1) := Int.mul_pos (by omega) (Int.pow_pos (by omega))
    rw [pkL_s]
    by_cases e : f i < 97 ∨ 122 < f i
    · rw [if_pos e]; omega
    · rw [if_neg e]
      have := pkL_b (f := f) r (i + 1) (p * 27 + f i - 97 + 1) (B * 27) (by omega) (by omega)
      rw [Int.mul_assoc, show (27 : Int) * 27 ^ r = 27 ^ (r + 1) by rw [Int.pow_succ, Int.mul_comm]] at this
      exact this
theorem pkN_b {f : Nat → Int} {a e : Nat} : 0 ≤ pkN f a e ∧ pkN f a e < 387420489 := by
  unfold pkN
  by_cases h : a + 6 < e
  · rw [if_pos h]; omega
  · rw [if_neg h]
    have := pkL_b (f := f) (e - a) a 0 1 (by omega) (by omega)
    have h6 : (27 : Int) ^ (e - a) ≤ 27 ^ 6 := by
      have : e - a = 0 ∨ e - a = 1 ∨ e - a = 2 ∨ e - a = 3 ∨ e - a = 4 ∨ e - a = 5 ∨ e - a = 6 := by omega
      rcases this with h | h | h | h | h | h | h <;> rw [h] <;> decide
    have h7 : (27 : Int) ^ 6 = 387420489 := by decide
    omega
end S62
