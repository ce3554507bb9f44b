/-! CLASS AND REFERENCE AGREE: traded, output, input, find. Made by wip/whole/gen/gen62.py -/
section S62
variable {d N t w b n m : Nat} {I ℓ : Nat → Nat → Int32} {L μ : Nat → Nat → Int64} {D : Nat → Nat → UInt64} {Q : Rs → St → Prop} {o : Nat → Nat} {α : Nat → Int}
theorem c38' (hb : LB b) (hR : RL ℓ μ α n m o) (hG : GA α n m o) {l r : Nat} (hl : l < n) (hr : r < n) : Wp (d + 1) 38 0 [some (.ref (b + (l + 13))), some (.ref (b + (r + 13))), none, none, none, none, none] [] (mk N t w (lay b ℓ I) L D) Q = Q (.inl (some (.int (Int32.ofInt (if α (B9 l 1) ≤ α (B9 r 1) then -1 else kA (α (B9 l 1)) (α (B9 r 1)) (α (B9 l 2)) (α (B9 r 2))))))) (mk N t w (lay b ℓ I) L D) := by
  have h10 := hG.1.1
  have gl := hG.1.2.2.2.2 l hl
  have gr := hG.1.2.2.2.2 r hr
  exact c38 (khB (N := N) hb (show l < 10 by omega)) (khB (N := N) hb (show r < 10 by omega)) gl.2.1 gr.2.1 gl.2.2.1 gr.2.2.1 (by rw [lay_in (by omega)]; exact rd_s hR hG hl) (by rw [lay_in (by omega)]; exact rd_s hR hG hr) (by rw [lay_in (by omega)]; exact rd_w hR hG hl) (by rw [lay_in (by omega)]; exact rd_w hR hG hr)
theorem c7' (hb : LB b) (hR : RL ℓ μ α n m o) (hG : GA α n m o) {l r : Nat} (hl : l < n) (hr : r < n) : Wp d 7 0 [some (.ref (b + (l + 13))), some (.ref (b + (r + 13))), none] [] (mk N t w (lay b ℓ I) L D) Q = Q (.inl (some (.int (Int32.ofInt (paA (α (B9 l 2)) (α (B9 r 2))))))) (mk N t w (lay b ℓ I) L D) := by
  have h10 := hG.1.1
  have gl := hG.1.2.2.2.2 l hl
  have gr := hG.1.2.2.2.2 r hr
  exact c7 (khB (N := N) hb (show l < 10 by omega)) (khB (N := N) hb (show r < 10 by omega)) gl.2.2.1 gr.2.2.1 (by rw [lay_in (by omega)]; exact rd_w hR hG hl) (by rw [lay_in (by omega)]; exact rd_w hR hG hr)
theorem c223' (hw : RW w) (hG : GA α n m o) {l r : Nat} (hl : l < n) (hr : r < n) (hlt : α (B9 r 1) < α (B9 l 1)) : Wp (d + 22) 223 0 [some (.ref 294), some (.int (Int32.ofInt (l : Int))), some (.int (Int32.ofInt (r : Int))), none, none] [] (mk N t w I (sR L w (r64 α)) D) Q = Q (.inl (some (.int (Int32.ofInt (kA (α (B9 l 1)) (α (B9 r 1)) (α (B9 l 2)) (α (B9 r 2))))))) (mk N t w (ms I (up1 (up1 (I 294) 4 (Int32.ofInt (paA (α (B9 l 2)) (α (B9 r 2))))) 5 (Int32.ofInt (paA (α (B9 r 2)) (α (B9 l 2)))))) (sR L w (r64 α)) D) := by
  have h10 := hG.1.1
  have gl := hG.1.2.2.2.2 l hl
  have gr := hG.1.2.2.2.2 r hr
  have := c223 (d := d) (N := N) (t := t) (w := w) (I := I) (L := L) (D := D) (Q := Q) (f := I 294) hw (show l < 10 by omega) (show r < 10 by omega) gl.2.1 gr.2.1 gl.2.2.1 gr.2.2.1 hlt
  rw [ms_self] at this
  exact this
/-- the narrowed byte that a shift gives -/
def bt (x : Int32) (s : Int) : Int32 := vp_nar .byte (x >>> (Int32.ofInt s &&& 31)).toInt8.toInt32
theorem bt_b (x : Int32) (s : Int) : ∃ z : Int, -128 ≤ z ∧ z < 128 ∧ bt x s = Int32.ofInt z := by
  have e : ∀ y : Int32, ∃ z : Int, -128 ≤ z ∧ z < 128 ∧ vp_nar .byte y = Int32.ofInt z := fun y => ⟨y.toInt8.toInt, Int8.le_toInt _, Int8.toInt_lt _, by
    show y.toInt8.toInt32 = _
    rw [← Int32.toInt_inj, Int8.toInt_toInt32, o_ti]
    have h1 := Int8.le_toInt y.toInt8
    have h2 := Int8.toInt_lt y.toInt8
    omega⟩
  exact e _
def a1 (A C F k : Nat) (v : Int32) (I : Nat → Nat → Int32) : Nat → Nat → Int32 := up2 (up2 I A k v) C F (Int32.ofInt ((k + 1 : Nat) : Int))
def a4 (A C F k : Nat) (x : Int32) (I : Nat → Nat → Int32) : Nat → Nat → Int32 := a1 A C F (k + 3) (bt x 0) (a1 A C F (k + 2) (bt x 8) (a1 A C F (k + 1) (bt x 16) (a1 A C F k (bt x 24) I)))
def f4 (f : Nat → Int32) (k : Nat) (x : Int32) : Nat → Int32 := up1 (up1 (up1 (up1 f k (bt x 24)) (k + 1) (bt x 16)) (k + 2) (bt x 8)) (k + 3) (bt x 0)
/-- k bytes f in array A, their number in field F of C -/
def BY (A C F : Nat) (I : Nat → Nat → Int32) (k : Nat) (f : Nat → Int32) : Prop := I C F = Int32.ofInt (k : Int) ∧ ∀ j, j < k → I A j = f j
theorem a1_len {A C F k : Nat} {v : Int32} : a1 A C F k v I C F = Int32.ofInt ((k + 1 : Nat) : Int) := u2_same
theorem a1_BY {A C F k : Nat} {v : Int32} {f : Nat → Int32} (h : BY A C F I k f) (hA : A ≠ C) : BY A C F (a1 A C F k v I) (k + 1) (up1 f k v) := by
  refine ⟨u2_same, fun j hj => ?_⟩
  unfold a1
  rw [u2_ne (Or.inl hA)]
  by_cases e : j = k
  · rw [e, u2_same, up1_eq']
  · rw [u2_ne (Or.inr e), up1_ne e]
    exact h.2 j (by omega)
theorem a4_BY {A C F k : Nat} {x : Int32} {f : Nat → Int32} (h : BY A C F I k f) (hA : A ≠ C) : BY A C F (a4 A C F k x I) (k + 4) (f4 f k x) := a1_BY (a1_BY (a1_BY (a1_BY h hA) hA) hA) hA
theorem a1_off {A C F k a q : Nat} {v : Int32} (h : a ≠ A ∧ (a ≠ C ∨ q ≠ F)) : a1 A C F k v I a q = I a q := by
  unfold a1
  rw [u2_ne (by omega), u2_ne (by omega)]
theorem a4_off {A C F k a q : Nat} {x : Int32} (h : a ≠ A ∧ (a ≠ C ∨ q ≠ F)) : a4 A C F k x I a q = I a q := by
  unfold a4
  rw [a1_off h, a1_off h, a1_off h, a1_off h]
/-- bytes -/
def RB (f : Nat → Int32) (k : Nat) : Prop := ∀ j, j < k → ∃ z : Int, -128 ≤ z ∧ z < 128 ∧ f j = Int32.ofInt z
theorem f4_RB {f : Nat → Int32} {k : Nat} {x : Int32} (h : RB f k) : RB (f4 f k x) (k + 4) := by
  have s : ∀ (f : Nat → Int32) (k : Nat) (s : Int), RB f k → RB (up1 f k (bt x s)) (k + 1) := by
    intro f k s h j hj
    by_cases e : j = k
    · rw [e, up1_eq']
      exact bt_b x s
    · rw [up1_ne e]
      exact h j (by omega)
  exact s _ _ _ (s _ _ _ (s _ _ _ (s _ _ _ h)))
theorem k16 {N : Nat} : KH N 16 = (13, 400) := nr rfl
theorem k298 {N : Nat} : KH N 298 = (13, 400) := nr rfl
theorem kr15_0 {w : Nat} : rv (KR w 15 0) = .ref 16 := nr rfl
theorem kr294_12 {w : Nat} : rv (KR w 294 12) = .ref 298 := nr rfl
theorem c102_s {k : Nat} {x : Int32} {s : Int} (hk : k < 400) (hs : 0 ≤ s ∧ s ≤ 24) (e : I 15 1 = Int32.ofInt (k : Int)) : Wp d 102 3 [some (.ref 15), some (.int x), some (.int (Int32.ofInt s))] [] (mk N t w I L D) Q = Wp d 102 3 [some (.ref 15), some (.int x), some (.int (Int32.ofInt (s + -8)))] [] (mk N t w (a1 16 15 1 k (bt x s) I) L D) Q := by
  have g : ¬ (s < 0) := by omega
  have g2 : (k : Int) < 400 := by omega
  rw [w102_3]
  simp only [w102_0, w102_2, w102_4, w102_7, w102_8, w102_11, w102_14, w102_17, w102_18, w102_21, w102_22, w102_25, w102_26, w102_27, w102_28, w102_29, w102_30, w102_31, w102_32, w102_35, w102_36, w102_37, w102_40, w102_43, w102_46, kn_s, kn_n, zh_mk, zR_mk, zI_mk, zL_mk, zD_mk, wI_mk, wL_mk, wD_mk, zT_mk, zC_mk, kill_i, kill_r, kill_0, kill_n, kill_l, kill_q, zzk_r, zzk_0, zzk_q, zcat_r, zcat_i, zcat_0, cats_0, cats_i, cats_r, cats_l, cats_d, cats_f, rv_s, rv_0, Nat.reduceAdd, Nat.reduceLeDiff, Nat.add_zero, Nat.reduceMul, Nat.reduceSub, ne_eq, not_false_eq_true, not_true_eq_false, and_self, and_true, true_and, or_self, or_true, true_or, or_false, false_or, if_true, if_false, reduceIte, reduceCtorEq, implies_true, ite_self, ite_not, o_add, o_sub, o_mul, o_neg, q_add, q_sub, q_mul, q_neg, o_32, cast_s, k15, k16, kr15_0, e, o_lt (a := s) (b := 0) (by omega), g, o_lt (a := (k : Int)) (b := 400) (by omega), g2, o_ixn (j := k) (n := 400) (by omega), o_tnn (j := k) (by omega), up2_at, Nat.reduceEqDiff, false_and, a1, bt]
theorem c102 {k : Nat} {x : Int32} (hk : k + 4 ≤ 400) (e : I 15 1 = Int32.ofInt (k : Int)) : Wp d 102 0 [some (.ref 15), some (.int x), none] [] (mk N t w I L D) Q = Q (.inl none) (mk N t w (a4 16 15 1 k x I) L D) := by
  simp only [w102_0, w102_2, kn_s, kn_n, zh_mk, zR_mk, zI_mk, zL_mk, zD_mk, wI_mk, wL_mk, wD_mk, zT_mk, zC_mk, kill_i, kill_r, kill_0, kill_n, kill_l, kill_q, zzk_r, zzk_0, zzk_q, zcat_r, zcat_i, zcat_0, cats_0, cats_i, cats_r, cats_l, cats_d, cats_f, rv_s, rv_0, Nat.reduceAdd, Nat.reduceLeDiff, Nat.add_zero, Nat.reduceMul, Nat.reduceSub, ne_eq, not_false_eq_true, not_true_eq_false, and_self, and_true, true_and, or_self, or_true, true_or, or_false, false_or, if_true, if_false, reduceIte, reduceCtorEq, implies_true, ite_self, ite_not]
  rw [c102_s (k := k) (by omega) (by omega) e, c102_s (k := k + 1) (by omega) (by omega) a1_len, c102_s (k := k + 2) (by omega) (by omega) a1_len, c102_s (k := k + 3) (by omega) (by omega) a1_len, w102_3]
  simp only [w102_4, w102_46, kn_s, kn_n, zh_mk, zR_mk, zI_mk, zL_mk, zD_mk, wI_mk, wL_mk, wD_mk, zT_mk, zC_mk, kill_i, kill_r, kill_0, kill_n, kill_l, kill_q, zzk_r, zzk_0, zzk_q, zcat_r, zcat_i, zcat_0, cats_0, cats_i, cats_r, cats_l, cats_d, cats_f, rv_s, rv_0, Nat.reduceAdd, Nat.reduceLeDiff, Nat.add_zero, Nat.reduceMul, Nat.reduceSub, ne_eq, not_false_eq_true, not_true_eq_false, and_self, and_true, true_and, or_self, or_true, true_or, or_false, false_or, if_true, if_false, reduceIte, reduceCtorEq, implies_true, ite_self, ite_not, show (Int32.ofInt (24 + -8 + -8 + -8 + -8) < Int32.ofInt 0) = True by decide]
  rfl
theorem c152_s {k : Nat} {x : Int32} {s : Int} (hk : k < 400) (hs : 0 ≤ s ∧ s ≤ 24) (e : I 294 13 = Int32.ofInt (k : Int)) : Wp d 152 3 [some (.ref 294), some (.int x), some (.int (Int32.ofInt s))] [] (mk N t w I L D) Q = Wp d 152 3 [some (.ref 294), some (.int x), some (.int (Int32.ofInt (s + -8)))] [] (mk N t w (a1 298 294 13 k (bt x s) I) L D) Q := by
  have g : ¬ (s < 0) := by omega
  rw [w152_3]
  simp only [w152_0, w152_2, w152_4, w152_7, w152_8, w152_11, w152_12, w152_15, w152_16, w152_17, w152_18, w152_19, w152_20, w152_21, w152_22, w152_25, w152_26, w152_27, w152_30, w152_33, w152_36, kn_s, kn_n, zh_mk, zR_mk, zI_mk, zL_mk, zD_mk, wI_mk, wL_mk, wD_mk, zT_mk, zC_mk, kill_i, kill_r, kill_0, kill_n, kill_l, kill_q, zzk_r, zzk_0, zzk_q, zcat_r, zcat_i, zcat_0, cats_0, cats_i, cats_r, cats_l, cats_d, cats_f, rv_s, rv_0, Nat.reduceAdd, Nat.reduceLeDiff, Nat.add_zero, Nat.reduceMul, Nat.reduceSub, ne_eq, not_false_eq_true, not_true_eq_false, and_self, and_true, true_and, or_self, or_true, true_or, or_false, false_or, if_true, if_false, reduceIte, reduceCtorEq, implies_true, ite_self, ite_not, o_add, o_sub, o_mul, o_neg, q_add, q_sub, q_mul, q_neg, o_32, cast_s, kM, k298, kr294_12, e, o_lt (a := s) (b := 0) (by omega), g, o_ixn (j := k) (n := 400) (by omega), o_tnn (j := k) (by omega), up2_at, Nat.reduceEqDiff, false_and, a1, bt]
theorem c152 {k : Nat} {x : Int32} (hk : k + 4 ≤ 400) (e : I 294 13 = Int32.ofInt (k : Int)) : Wp d 152 0 [some (.ref 294), some (.int x), none] [] (mk N t w I L D) Q = Q (.inl none) (mk N t w (a4 298 294 13 k x I) L D) := by
  simp only [w152_0, w152_2, kn_s, kn_n, zh_mk, zR_mk, zI_mk, zL_mk, zD_mk, wI_mk, wL_mk, wD_mk, zT_mk, zC_mk, kill_i, kill_r, kill_0, kill_n, kill_l, kill_q, zzk_r, zzk_0, zzk_q, zcat_r, zcat_i, zcat_0, cats_0, cats_i, cats_r, cats_l, cats_d, cats_f, rv_s, rv_0, Nat.reduceAdd, Nat.reduceLeDiff, Nat.add_zero, Nat.reduceMul, Nat.reduceSub, ne_eq, not_false_eq_true, not_true_eq_false, and_self, and_true, true_and, or_self, or_true, true_or, or_false, false_or, if_true, if_false, reduceIte, reduceCtorEq, implies_true, ite_self, ite_not]
  rw [c152_s (k := k) (by omega) (by omega) e, c152_s (k := k + 1) (by omega) (by omega) a1_len, c152_s (k := k + 2) (by omega) (by omega) a1_len, c152_s (k := k + 3) (by omega) (by omega) a1_len, w152_3]
  simp only [w152_4, w152_36, kn_s, kn_n, zh_mk, zR_mk, zI_mk, zL_mk, zD_mk, wI_mk, wL_mk, wD_mk, zT_mk, zC_mk, kill_i, kill_r, kill_0, kill_n, kill_l, kill_q, zzk_r, zzk_0, zzk_q, zcat_r, zcat_i, zcat_0, cats_0, cats_i, cats_r, cats_l, cats_d, cats_f, rv_s, rv_0, Nat.reduceAdd, Nat.reduceLeDiff, Nat.add_zero, Nat.reduceMul, Nat.reduceSub, ne_eq, not_false_eq_true, not_true_eq_false, and_self, and_true, true_and, or_self, or_true, true_or, or_false, false_or, if_true, if_false, reduceIte, reduceCtorEq, implies_true, ite_self, ite_not, show (Int32.ofInt (24 + -8 + -8 + -8 + -8) < Int32.ofInt 0) = True by decide]
  rfl
theorem a4_len {A C F k : Nat} {x : Int32} : a4 A C F k x I C F = Int32.ofInt ((k + 4 : Nat) : Int) := u2_same
def a20 (A C F k : Nat) (x y z u v : Int32) (I : Nat → Nat → Int32) : Nat → Nat → Int32 := a4 A C F (k + 16) v (a4 A C F (k + 12) u (a4 A C F (k + 8) z (a4 A C F (k + 4) y (a4 A C F k x I))))
def f20 (f : Nat → Int32) (k : Nat) (x y z u v : Int32) : Nat → Int32 := f4 (f4 (f4 (f4 (f4 f k x) (k + 4) y) (k + 8) z) (k + 12) u) (k + 16) v
theorem a20_BY {A C F k : Nat} {x y z u v : Int32} {f : Nat → Int32} (h : BY A C F I k f) (hA : A ≠ C) : BY A C F (a20 A C F k x y z u v I) (k + 20) (f20 f k x y z u v) := a4_BY (a4_BY (a4_BY (a4_BY (a4_BY h hA) hA) hA) hA) hA
theorem a20_off {A C F k a q : Nat} {x y z u v : Int32} (h : a ≠ A ∧ (a ≠ C ∨ q ≠ F)) : a20 A C F k x y z u v I a q = I a q := by
  unfold a20
  rw [a4_off h, a4_off h, a4_off h, a4_off h, a4_off h]
theorem f20_RB {f : Nat → Int32} {k : Nat} {x y z u v : Int32} (h : RB f k) : RB (f20 f k x y z u v) (k + 20) := f4_RB (f4_RB (f4_RB (f4_RB (f4_RB h))))
theorem c101 {k : Nat} {x y z u v : Int32} (hk : k ≤ 380) (e : I 15 1 = Int32.ofInt (k : Int)) : Wp (d + 1) 101 0 [some (.ref 15), some (.int x), some (.int y), some (.int z), some (.int u), some (.int v)] [] (mk N t w I L D) Q = Q (.inl (some (.int (Int32.ofInt ((k + 20 : Nat) : Int))))) (mk N t w (a20 16 15 1 k x y z u v I) L D) := by
  have g : ¬ (380 < (k : Int)) := by omega
  simp only [w101_0, w101_1, w101_4, w101_7, w101_10, w101_18, w101_19, w101_20, w101_23, w101_24, w101_25, w101_28, w101_29, w101_30, w101_33, w101_34, w101_36, w101_39, w101_40, w101_42, w101_45, w101_46, w101_49, kn_s, kn_n, zh_mk, zR_mk, zI_mk, zL_mk, zD_mk, wI_mk, wL_mk, wD_mk, zT_mk, zC_mk, kill_i, kill_r, kill_0, kill_n, kill_l, kill_q, zzk_r, zzk_0, zzk_q, zcat_r, zcat_i, zcat_0, cats_0, cats_i, cats_r, cats_l, cats_d, cats_f, rv_s, rv_0, Nat.reduceAdd, Nat.reduceLeDiff, Nat.add_zero, Nat.reduceMul, Nat.reduceSub, ne_eq, not_false_eq_true, not_true_eq_false, and_self, and_true, true_and, or_self, or_true, true_or, or_false, false_or, if_true, if_false, reduceIte, reduceCtorEq, implies_true, ite_self, ite_not, k15, e, o_lt (a := 380) (b := (k : Int)) (by omega), g, c102 (k := k) (by omega) e, c102 (k := k + 4) (by omega) a4_len, c102 (k := k + 8) (by omega) a4_len, c102 (k := k + 12) (by omega) a4_len, c102 (k := k + 16) (by omega) a4_len, a4_len]
  rfl
theorem c101_x {k : Nat} {x y z u v : Int32} (hk : ¬ (k ≤ 380)) (hk4 : k ≤ 400) (e : I 15 1 = Int32.ofInt (k : Int)) : Wp (d + 1) 101 0 [some (.ref 15), some (.int x), some (.int y), some (.int z), some (.int u), some (.int v)] [] (mk N t w I L D) Q = Q (.inr 0) (mk N (t + 1) w I L D) := by
  have g : 380 < (k : Int) := by omega
  simp only [w101_0, w101_1, w101_4, w101_7, w101_10, w101_18, w101_19, w101_20, w101_23, w101_24, w101_25, w101_28, w101_29, w101_30, w101_33, w101_34, w101_36, w101_39, w101_40, w101_42, w101_45, w101_46, w101_49, kn_s, kn_n, zh_mk, zR_mk, zI_mk, zL_mk, zD_mk, wI_mk, wL_mk, wD_mk, zT_mk, zC_mk, kill_i, kill_r, kill_0, kill_n, kill_l, kill_q, zzk_r, zzk_0, zzk_q, zcat_r, zcat_i, zcat_0, cats_0, cats_i, cats_r, cats_l, cats_d, cats_f, rv_s, rv_0, Nat.reduceAdd, Nat.reduceLeDiff, Nat.add_zero, Nat.reduceMul, Nat.reduceSub, ne_eq, not_false_eq_true, not_true_eq_false, and_self, and_true, true_and, or_self, or_true, true_or, or_false, false_or, if_true, if_false, reduceIte, reduceCtorEq, implies_true, ite_self, ite_not, k15, e, o_lt (a := 380) (b := (k : Int)) (by omega), g, Nat.zero_le]
theorem c149 {k : Nat} {x y z u v : Int32} (hk : k ≤ 380) (e : I 294 13 = Int32.ofInt (k : Int)) : Wp (d + 2) 149 0 [some (.ref 294), some (.int x), some (.int y), some (.int z), some (.int u), some (.int v)] [] (mk N t w I L D) Q = Q (.inl (some (.int (Int32.ofInt ((k + 20 : Nat) : Int))))) (mk N t w (a20 298 294 13 k x y z u v (up2 I 294 0 (Int32.ofInt 0))) L D) := by
  have g : ¬ (400 < (k : Int) + 20) := by omega
  have e' : up2 I 294 0 (Int32.ofInt 0) 294 13 = Int32.ofInt (k : Int) := by rw [u2_ne (by omega)]; exact e
  simp only [w149_0, w149_1, w149_2, w149_5, w149_7, w149_8, w149_11, w149_14, w149_15, w149_18, w149_19, w149_22, w149_25, w149_26, w149_27, w149_28, w149_29, w149_32, w149_33, w149_34, w149_37, w149_38, w149_39, w149_42, w149_43, w149_45, w149_48, w149_49, w149_51, w149_54, w149_55, w149_58, kn_s, kn_n, zh_mk, zR_mk, zI_mk, zL_mk, zD_mk, wI_mk, wL_mk, wD_mk, zT_mk, zC_mk, kill_i, kill_r, kill_0, kill_n, kill_l, kill_q, zzk_r, zzk_0, zzk_q, zcat_r, zcat_i, zcat_0, cats_0, cats_i, cats_r, cats_l, cats_d, cats_f, rv_s, rv_0, Nat.reduceAdd, Nat.reduceLeDiff, Nat.add_zero, Nat.reduceMul, Nat.reduceSub, ne_eq, not_false_eq_true, not_true_eq_false, and_self, and_true, true_and, or_self, or_true, true_or, or_false, false_or, if_true, if_false, reduceIte, reduceCtorEq, implies_true, ite_self, ite_not, kM, e, o_add, o_lt (a := 400) (b := (k : Int) + 20) (by omega), g, c150t, i10, c152 (k := k) (by omega) e', c152 (k := k + 4) (by omega) a4_len, c152 (k := k + 8) (by omega) a4_len, c152 (k := k + 12) (by omega) a4_len, c152 (k := k + 16) (by omega) a4_len, a4_len]
  rfl
theorem c149_x {k : Nat} {x y z u v : Int32} (hk : ¬ (k ≤ 380)) (hk4 : k ≤ 400) (e : I 294 13 = Int32.ofInt (k : Int)) : Wp (d + 2) 149 0 [some (.ref 294), some (.int x), some (.int y), some (.int z), some (.int u), some (.int v)] [] (mk N t w I L D) Q = Q (.inl (some (.int (Int32.ofInt 0)))) (mk N t w (up2 I 294 0 (Int32.ofInt 1)) L D) := by
  have g : 400 < (k : Int) + 20 := by omega
  simp only [w149_0, w149_1, w149_2, w149_5, w149_7, w149_8, w149_11, w149_14, w149_15, w149_18, w149_19, w149_22, w149_25, w149_26, w149_27, w149_28, w149_29, w149_32, w149_33, w149_34, w149_37, w149_38, w149_39, w149_42, w149_43, w149_45, w149_48, w149_49, w149_51, w149_54, w149_55, w149_58, kn_s, kn_n, zh_mk, zR_mk, zI_mk, zL_mk, zD_mk, wI_mk, wL_mk, wD_mk, zT_mk, zC_mk, kill_i, kill_r, kill_0, kill_n, kill_l, kill_q, zzk_r, zzk_0, zzk_q, zcat_r, zcat_i, zcat_0, cats_0, cats_i, cats_r, cats_l, cats_d, cats_f, rv_s, rv_0, Nat.reduceAdd, Nat.reduceLeDiff, Nat.add_zero, Nat.reduceMul, Nat.reduceSub, ne_eq, not_false_eq_true, not_true_eq_false, and_self, and_true, true_and, or_self, or_true, true_or, or_false, false_or, if_true, if_false, reduceIte, reduceCtorEq, implies_true, ite_self, ite_not, kM, e, o_add, o_lt (a := 400) (b := (k : Int) + 20) (by omega), g, c150f, i00]
/-- letters as digits to the base 27 -/
def pkL (f : Nat → Int) : Nat → Nat → Int → Int
  | 0, _, p => p
  | r + 1, i, p => if f i < 97 ∨ 122 < f i then 0 else pkL f r (i + 1) (p * 27 + f i - 97 + 1)
theorem pkL_s {f : Nat → Int} {r i : Nat} {p : Int} : pkL f (r + 1) i p = if f i < 97 ∨ 122 < f i then 0 else pkL f r (i + 1) (p * 27 + f i - 97 + 1) := nr rfl
/-- the number of a name; 0 where there is none -/
def pkN (f : Nat → Int) (a e : Nat) : Int := if a + 6 < e then 0 else pkL f (e - a) a 0
theorem c78_25 {A a e : Nat} {f : Nat → Int} (hA : KH N A = (13, 400)) (he : e ≤ 400) (hf : ∀ j, j < e → I A j = Int32.ofInt (f j) ∧ -128 ≤ f j ∧ f j < 128) : ∀ (r i : Nat) (p : Int), i + r = e → Wp d 78 25 [some (.ref A), some (.int (Int32.ofInt (a : Int))), some (.int (Int32.ofInt (e : Int))), some (.int (Int32.ofInt p)), some (.int (Int32.ofInt (i : Int)))] [] (mk N t w I L D) Q = Q (.inl (some (.int (Int32.ofInt (pkL f r i p))))) (mk N t w I L D) := by
  intro r
  induction r with
  | zero =>
    intro i p hi
    have g : ¬ ((i : Int) < e) := by omega
    rw [w78_25]
    simp only [w78_0, w78_1, w78_4, w78_5, w78_6, w78_7, w78_10, w78_11, w78_12, w78_13, w78_15, w78_18, w78_19, w78_20, w78_21, w78_22, w78_23, w78_27, w78_28, w78_31, w78_32, w78_34, w78_35, w78_37, w78_40, w78_41, w78_43, w78_44, w78_46, w78_49, w78_50, w78_51, w78_52, w78_54, w78_55, w78_56, w78_58, w78_59, w78_60, w78_62, w78_63, w78_64, w78_65, w78_66, w78_69, w78_72, w78_73, kn_s, kn_n, zh_mk, zR_mk, zI_mk, zL_mk, zD_mk, wI_mk, wL_mk, wD_mk, zT_mk, zC_mk, kill_i, kill_r, kill_0, kill_n, kill_l, kill_q, zzk_r, zzk_0, zzk_q, zcat_r, zcat_i, zcat_0, cats_0, cats_i, cats_r, cats_l, cats_d, cats_f, rv_s, rv_0, Nat.reduceAdd, Nat.reduceLeDiff, Nat.add_zero, Nat.reduceMul, Nat.reduceSub, ne_eq, not_false_eq_true, not_true_eq_false, and_self, and_true, true_and, or_self, or_true, true_or, or_false, false_or, if_true, if_false, reduceIte, reduceCtorEq, implies_true, ite_self, ite_not, hA, o_lt (a := (i : Int)) (b := (e : Int)) (by omega), g, pkL]
  | succ r ih =>
    intro i p hi
    have g : (i : Int) < e := by omega
    have h := hf i (by omega)
    rw [w78_25, pkL_s]
    by_cases c1 : f i < 97
    · simp only [w78_0, w78_1, w78_4, w78_5, w78_6, w78_7, w78_10, w78_11, w78_12, w78_13, w78_15, w78_18, w78_19, w78_20, w78_21, w78_22, w78_23, w78_27, w78_28, w78_31, w78_32, w78_34, w78_35, w78_37, w78_40, w78_41, w78_43, w78_44, w78_46, w78_49, w78_50, w78_51, w78_52, w78_54, w78_55, w78_56, w78_58, w78_59, w78_60, w78_62, w78_63, w78_64, w78_65, w78_66, w78_69, w78_72, w78_73, kn_s, kn_n, zh_mk, zR_mk, zI_mk, zL_mk, zD_mk, wI_mk, wL_mk, wD_mk, zT_mk, zC_mk, kill_i, kill_r, kill_0, kill_n, kill_l, kill_q, zzk_r, zzk_0, zzk_q, zcat_r, zcat_i, zcat_0, cats_0, cats_i, cats_r, cats_l, cats_d, cats_f, rv_s, rv_0, Nat.reduceAdd, Nat.reduceLeDiff, Nat.add_zero, Nat.reduceMul, Nat.reduceSub, ne_eq, not_false_eq_true, not_true_eq_false, and_self, and_true, true_and, or_self, or_true, true_or, or_false, false_or, if_true, if_false, reduceIte, reduceCtorEq, implies_true, ite_self, ite_not, o_add, o_sub, o_mul, o_neg, q_add, q_sub, q_mul, q_neg, o_32, cast_s, hA, o_lt (a := (i : Int)) (b := (e : Int)) (by omega), g, h.1, o_ixn (j := i) (n := 400) (by omega), o_tnn (j := i) (by omega), o_lt (a := f i) (b := 97) (by omega), c1, true_or]
    · by_cases c2 : 122 < f i
      · simp only [w78_0, w78_1, w78_4, w78_5, w78_6, w78_7, w78_10, w78_11, w78_12, w78_13, w78_15, w78_18, w78_19, w78_20, w78_21, w78_22, w78_23, w78_27, w78_28, w78_31, w78_32, w78_34, w78_35, w78_37, w78_40, w78_41, w78_43, w78_44, w78_46, w78_49, w78_50, w78_51, w78_52, w78_54, w78_55, w78_56, w78_58, w78_59, w78_60, w78_62, w78_63, w78_64, w78_65, w78_66, w78_69, w78_72, w78_73, kn_s, kn_n, zh_mk, zR_mk, zI_mk, zL_mk, zD_mk, wI_mk, wL_mk, wD_mk, zT_mk, zC_mk, kill_i, kill_r, kill_0, kill_n, kill_l, kill_q, zzk_r, zzk_0, zzk_q, zcat_r, zcat_i, zcat_0, cats_0, cats_i, cats_r, cats_l, cats_d, cats_f, rv_s, rv_0, Nat.reduceAdd, Nat.reduceLeDiff, Nat.add_zero, Nat.reduceMul, Nat.reduceSub, ne_eq, not_false_eq_true, not_true_eq_false, and_self, and_true, true_and, or_self, or_true, true_or, or_false, false_or, if_true, if_false, reduceIte, reduceCtorEq, implies_true, ite_self, ite_not, o_add, o_sub, o_mul, o_neg, q_add, q_sub, q_mul, q_neg, o_32, cast_s, hA, o_lt (a := (i : Int)) (b := (e : Int)) (by omega), g, h.1, o_ixn (j := i) (n := 400) (by omega), o_tnn (j := i) (by omega), o_lt (a := f i) (b := 97) (by omega), c1, o_lt (a := 122) (b := f i) (by omega), c2, or_true]
      · simp only [w78_0, w78_1, w78_4, w78_5, w78_6, w78_7, w78_10, w78_11, w78_12, w78_13, w78_15, w78_18, w78_19, w78_20, w78_21, w78_22, w78_23, w78_27, w78_28, w78_31, w78_32, w78_34, w78_35, w78_37, w78_40, w78_41, w78_43, w78_44, w78_46, w78_49, w78_50, w78_51, w78_52, w78_54, w78_55, w78_56, w78_58, w78_59, w78_60, w78_62, w78_63, w78_64, w78_65, w78_66, w78_69, w78_72, w78_73, kn_s, kn_n, zh_mk, zR_mk, zI_mk, zL_mk, zD_mk, wI_mk, wL_mk, wD_mk, zT_mk, zC_mk, kill_i, kill_r, kill_0, kill_n, kill_l, kill_q, zzk_r, zzk_0, zzk_q, zcat_r, zcat_i, zcat_0, cats_0, cats_i, cats_r, cats_l, cats_d, cats_f, rv_s, rv_0, Nat.reduceAdd, Nat.reduceLeDiff, Nat.add_zero, Nat.reduceMul, Nat.reduceSub, ne_eq, not_false_eq_true, not_true_eq_false, and_self, and_true, true_and, or_self, or_true, true_or, or_false, false_or, if_true, if_false, reduceIte, reduceCtorEq, implies_true, ite_self, ite_not, o_add, o_sub, o_mul, o_neg, q_add, q_sub, q_mul, q_neg, o_32, cast_s, hA, o_lt (a := (i : Int)) (b := (e : Int)) (by omega), g, h.1, o_ixn (j := i) (n := 400) (by omega), o_tnn (j := i) (by omega), o_lt (a := f i) (b := 97) (by omega), c1, o_lt (a := 122) (b := f i) (by omega), c2, or_self, ih (i + 1) _ (by omega)]
theorem o_n400 : Int32.ofNat 400 = Int32.ofInt 400 := nr rfl
theorem c78 {A a e : Nat} {f : Nat → Int} (hA : KH N A = (13, 400)) (ha : a ≤ e) (he : e ≤ 400) (hf : ∀ j, j < e → I A j = Int32.ofInt (f j) ∧ -128 ≤ f j ∧ f j < 128) : Wp d 78 0 [some (.ref A), some (.int (Int32.ofInt (a : Int))), some (.int (Int32.ofInt (e : Int))), none, none] [] (mk N t w I L D) Q = Q (.inl (some (.int (Int32.ofInt (pkN f a e))))) (mk N t w I L D) := by
  have l := c78_25 (d := d) (N := N) (t := t) (w := w) (I := I) (L := L) (D := D) (Q := Q) (a := a) hA he hf (e - a) a 0 (by omega)
  have g1 : ¬ ((a : Int) < 0) := by omega
  have g2 : ¬ (400 < (e : Int)) := by omega
  unfold pkN
  by_cases h : a + 6 < e
  · have g3 : 6 < (e : Int) - a := by omega
    simp only [w78_0, w78_1, w78_4, w78_5, w78_6, w78_7, w78_10, w78_11, w78_12, w78_13, w78_15, w78_18, w78_19, w78_20, w78_21, w78_22, w78_23, w78_27, w78_28, w78_31, w78_32, w78_34, w78_35, w78_37, w78_40, w78_41, w78_43, w78_44, w78_46, w78_49, w78_50, w78_51, w78_52, w78_54, w78_55, w78_56, w78_58, w78_59, w78_60, w78_62, w78_63, w78_64, w78_65, w78_66, w78_69, w78_72, w78_73, kn_s, kn_n, zh_mk, zR_mk, zI_mk, zL_mk, zD_mk, wI_mk, wL_mk, wD_mk, zT_mk, zC_mk, kill_i, kill_r, kill_0, kill_n, kill_l, kill_q, zzk_r, zzk_0, zzk_q, zcat_r, zcat_i, zcat_0, cats_0, cats_i, cats_r, cats_l, cats_d, cats_f, rv_s, rv_0, Nat.reduceAdd, Nat.reduceLeDiff, Nat.add_zero, Nat.reduceMul, Nat.reduceSub, ne_eq, not_false_eq_true, not_true_eq_false, and_self, and_true, true_and, or_self, or_true, true_or, or_false, false_or, if_true, if_false, reduceIte, reduceCtorEq, implies_true, ite_self, ite_not, o_add, o_sub, o_mul, o_neg, q_add, q_sub, q_mul, q_neg, o_32, cast_s, hA, o_n400, o_lt (a := (a : Int)) (b := 0) (by omega), o_lt (a := 400) (b := (e : Int)) (by omega), o_lt (a := 6) (b := (e : Int) - a) (by omega), g1, g2, g3, h]
  · have g3 : ¬ (6 < (e : Int) - a) := by omega
    simp only [w78_0, w78_1, w78_4, w78_5, w78_6, w78_7, w78_10, w78_11, w78_12, w78_13, w78_15, w78_18, w78_19, w78_20, w78_21, w78_22, w78_23, w78_27, w78_28, w78_31, w78_32, w78_34, w78_35, w78_37, w78_40, w78_41, w78_43, w78_44, w78_46, w78_49, w78_50, w78_51, w78_52, w78_54, w78_55, w78_56, w78_58, w78_59, w78_60, w78_62, w78_63, w78_64, w78_65, w78_66, w78_69, w78_72, w78_73, kn_s, kn_n, zh_mk, zR_mk, zI_mk, zL_mk, zD_mk, wI_mk, wL_mk, wD_mk, zT_mk, zC_mk, kill_i, kill_r, kill_0, kill_n, kill_l, kill_q, zzk_r, zzk_0, zzk_q, zcat_r, zcat_i, zcat_0, cats_0, cats_i, cats_r, cats_l, cats_d, cats_f, rv_s, rv_0, Nat.reduceAdd, Nat.reduceLeDiff, Nat.add_zero, Nat.reduceMul, Nat.reduceSub, ne_eq, not_false_eq_true, not_true_eq_false, and_self, and_true, true_and, or_self, or_true, true_or, or_false, false_or, if_true, if_false, reduceIte, reduceCtorEq, implies_true, ite_self, ite_not, o_add, o_sub, o_mul, o_neg, q_add, q_sub, q_mul, q_neg, o_32, cast_s, hA, o_n400, o_lt (a := (a : Int)) (b := 0) (by omega), o_lt (a := 400) (b := (e : Int)) (by omega), o_lt (a := 6) (b := (e : Int) - a) (by omega), g1, g2, g3, h]
    exact l
/-- the same without a look at the letters -/
def nmL (f : Nat → Int) : Nat → Nat → Int → Int
  | 0, _, p => p
  | r + 1, i, p => nmL f r (i + 1) (27 * p + f i - 96)
theorem nmL_s {f : Nat → Int} {r i : Nat} {p : Int} : nmL f (r + 1) i p = nmL f r (i + 1) (27 * p + f i - 96) := nr rfl
theorem c183_5 {A a e : Nat} {f : Nat → Int} (hA : KH N A = (13, 400)) (he : e ≤ 400) (hf : ∀ j, j < e → I A j = Int32.ofInt (f j) ∧ -128 ≤ f j ∧ f j < 128) : ∀ (r i : Nat) (p : Int), i + r = e → Wp d 183 5 [some (.ref A), some (.int (Int32.ofInt (a : Int))), some (.int (Int32.ofInt (e : Int))), some (.int (Int32.ofInt p)), some (.int (Int32.ofInt (i : Int)))] [] (mk N t w I L D) Q = Q (.inl (some (.int (Int32.ofInt (nmL f r i p))))) (mk N t w I L D) := by
  intro r
  induction r with
  | zero =>
    intro i p hi
    have g : ¬ ((i : Int) < e) := by omega
    rw [w183_5]
    simp only [w183_0, w183_1, w183_2, w183_3, w183_7, w183_8, w183_11, w183_13, w183_14, w183_15, w183_16, w183_18, w183_19, w183_20, w183_22, w183_23, w183_24, w183_27, w183_30, w183_31, kn_s, kn_n, zh_mk, zR_mk, zI_mk, zL_mk, zD_mk, wI_mk, wL_mk, wD_mk, zT_mk, zC_mk, kill_i, kill_r, kill_0, kill_n, kill_l, kill_q, zzk_r, zzk_0, zzk_q, zcat_r, zcat_i, zcat_0, cats_0, cats_i, cats_r, cats_l, cats_d, cats_f, rv_s, rv_0, Nat.reduceAdd, Nat.reduceLeDiff, Nat.add_zero, Nat.reduceMul, Nat.reduceSub, ne_eq, not_false_eq_true, not_true_eq_false, and_self, and_true, true_and, or_self, or_true, true_or, or_false, false_or, if_true, if_false, reduceIte, reduceCtorEq, implies_true, ite_self, ite_not, hA, o_lt (a := (i : Int)) (b := (e : Int)) (by omega), g, nmL]
  | succ r ih =>
    intro i p hi
    have g : (i : Int) < e := by omega
    have h := hf i (by omega)
    rw [w183_5, nmL_s]
    simp only [w183_0, w183_1, w183_2, w183_3, w183_7, w183_8, w183_11, w183_13, w183_14, w183_15, w183_16, w183_18, w183_19, w183_20, w183_22, w183_23, w183_24, w183_27, w183_30, w183_31, kn_s, kn_n, zh_mk, zR_mk, zI_mk, zL_mk, zD_mk, wI_mk, wL_mk, wD_mk, zT_mk, zC_mk, kill_i, kill_r, kill_0, kill_n, kill_l, kill_q, zzk_r, zzk_0, zzk_q, zcat_r, zcat_i, zcat_0, cats_0, cats_i, cats_r, cats_l, cats_d, cats_f, rv_s, rv_0, Nat.reduceAdd, Nat.reduceLeDiff, Nat.add_zero, Nat.reduceMul, Nat.reduceSub, ne_eq, not_false_eq_true, not_true_eq_false, and_self, and_true, true_and, or_self, or_true, true_or, or_false, false_or, if_true, if_false, reduceIte, reduceCtorEq, implies_true, ite_self, ite_not, o_add, o_sub, o_mul, o_neg, q_add, q_sub, q_mul, q_neg, o_32, cast_s, hA, o_lt (a := (i : Int)) (b := (e : Int)) (by omega), g, h.1, o_ixn (j := i) (n := 400) (by omega), o_tnn (j := i) (by omega), ih (i + 1) _ (by omega)]
theorem c183 {A a e : Nat} {f : Nat → Int} (hA : KH N A = (13, 400)) (ha : a ≤ e) (he : e ≤ 400) (hf : ∀ j, j < e → I A j = Int32.ofInt (f j) ∧ -128 ≤ f j ∧ f j < 128) : Wp d 183 0 [some (.ref A), some (.int (Int32.ofInt (a : Int))), some (.int (Int32.ofInt (e : Int))), none, none] [] (mk N t w I L D) Q = Q (.inl (some (.int (Int32.ofInt (nmL f (e - a) a 0))))) (mk N t w I L D) := by
  have l := c183_5 (d := d) (N := N) (t := t) (w := w) (I := I) (L := L) (D := D) (Q := Q) (a := a) hA he hf (e - a) a 0 (by omega)
  simp only [w183_0, w183_1, w183_2, w183_3, kn_s, kn_n, zh_mk, zR_mk, zI_mk, zL_mk, zD_mk, wI_mk, wL_mk, wD_mk, zT_mk, zC_mk, kill_i, kill_r, kill_0, kill_n, kill_l, kill_q, zzk_r, zzk_0, zzk_q, zcat_r, zcat_i, zcat_0, cats_0, cats_i, cats_r, cats_l, cats_d, cats_f, rv_s, rv_0, Nat.reduceAdd, Nat.reduceLeDiff, Nat.add_zero, Nat.reduceMul, Nat.reduceSub, ne_eq, not_false_eq_true, not_true_eq_false, and_self, and_true, true_and, or_self, or_true, true_or, or_false, false_or, if_true, if_false, reduceIte, reduceCtorEq, implies_true, ite_self, ite_not]
  exact l
theorem pk_nm {f : Nat → Int} : ∀ (r i : Nat) (p : Int), (∀ j, i ≤ j → j < i + r → 97 ≤ f j ∧ f j ≤ 122) → pkL f r i p = nmL f r i p
  | 0, _, _, _ => rfl
  | r + 1, i, p, h => by
    have h0 := h i (Nat.le_refl _) (by omega)
    rw [pkL_s, nmL_s, if_neg (by omega), show p * 27 + f i - 97 + 1 = 27 * p + f i - 96 by omega]
    exact pk_nm r (i + 1) _ (fun j h1 h2 => h j (by omega) (by omega))
theorem pkL_0 {f : Nat → Int} : ∀ (r i : Nat) (p : Int), (∃ j, i ≤ j ∧ j < i + r ∧ ¬ (97 ≤ f j ∧ f j ≤ 122)) → pkL f r i p = 0
  | 0, i, _, ⟨j, h1, h2, _⟩ => by omega
  | r + 1, i, p, ⟨j, h1, h2, h3⟩ => by
    rw [pkL_s]
    by_cases e : f i < 97 ∨ 122 < f i
    · rw [if_pos e]
    · rw [if_neg e]
      exact pkL_0 r (i + 1) _ ⟨j, by rcases Nat.eq_or_lt_of_le h1 with h | h; (subst h; omega); omega, by omega, h3⟩
/-- a name's number is small, and not 0 -/
theorem pkL_b {f : Nat → Int} : ∀ (r i : Nat) (p : Int) (B : Int), 0 ≤ p → p < B → (0 ≤ pkL f r i p ∧ pkL f r i p < B * 27 ^ r)
  | 0, _, p, B, h1, h2 => by
    show 0 ≤ p ∧ p < B * 27 ^ 0
    omega
  | r + 1, i, p, B, h1, h2 => by
    have hB : (0 : Int) < B * 27 ^ (r + 1) := Int.mul_pos (by omega) (Int.pow_pos (by omega))
    rw [pkL_s]
    by_cases e : f i < 97 ∨ 122 < f i
    · rw [if_pos e]; omega
    · rw [if_neg e]
      have := pkL_b (f := f) r (i + 1) (p * 27 + f i - 97 + 1) (B * 27) (by omega) (by omega)
      rw [Int.mul_assoc, show (27 : Int) * 27 ^ r = 27 ^ (r + 1) by rw [Int.pow_succ, Int.mul_comm]] at this
      exact this
theorem pkN_b {f : Nat → Int} {a e : Nat} : 0 ≤ pkN f a e ∧ pkN f a e < 387420489 := by
  unfold pkN
  by_cases h : a + 6 < e
  · rw [if_pos h]; omega
  · rw [if_neg h]
    have := pkL_b (f := f) (e - a) a 0 1 (by omega) (by omega)
    have h6 : (27 : Int) ^ (e - a) ≤ 27 ^ 6 := by
      have : e - a = 0 ∨ e - a = 1 ∨ e - a = 2 ∨ e - a = 3 ∨ e - a = 4 ∨ e - a = 5 ∨ e - a = 6 := by omega
      rcases this with h | h | h | h | h | h | h <;> rw [h] <;> decide
    have h7 : (27 : Int) ^ 6 = 387420489 := by decide
    omega
theorem c184_2 (hw : RW w) (hB : GB α n) (hN : ∀ i, i < n → 0 ≤ α (B9 i 8) ∧ α (B9 i 8) < 2147483648) {z : Int} (hz : -2147483648 ≤ z ∧ z < 2147483648) (h0 : 0 < z) : ∀ r i, i + r = n → Wp (d + 1) 184 2 [some (.ref 294), some (.int (Int32.ofInt z)), some (.int (Int32.ofInt (i : Int)))] [] (mk N t w I (sR L w (r64 α)) D) Q = Q (.inl (some (.int (Int32.ofInt (pFind (fun i => α (B9 i 8)) z r i))))) (mk N t w I (sR L w (r64 α)) D) := by
  obtain ⟨h1, h2, h3, h4, h5⟩ := hB
  intro r
  induction r with
  | zero =>
    intro i hi
    have g : ¬ ((i : Int) < n) := by omega
    rw [w184_2]
    simp only [w184_0, w184_1, w184_3, w184_4, w184_7, w184_10, w184_11, w184_14, w184_15, w184_16, w184_18, w184_21, w184_22, w184_25, w184_26, w184_27, w184_30, w184_33, w184_34, kn_s, kn_n, zh_mk, zR_mk, zI_mk, zL_mk, zD_mk, wI_mk, wL_mk, wD_mk, zT_mk, zC_mk, kill_i, kill_r, kill_0, kill_n, kill_l, kill_q, zzk_r, zzk_0, zzk_q, zcat_r, zcat_i, zcat_0, cats_0, cats_i, cats_r, cats_l, cats_d, cats_f, rv_s, rv_0, Nat.reduceAdd, Nat.reduceLeDiff, Nat.add_zero, Nat.reduceMul, Nat.reduceSub, ne_eq, not_false_eq_true, not_true_eq_false, and_self, and_true, true_and, or_self, or_true, true_or, or_false, false_or, if_true, if_false, reduceIte, reduceCtorEq, implies_true, ite_self, ite_not, kM, kMr, kRow hw, sR_at, up2_r64, r64_at, o_add, o_sub, o_mul, o_neg, q_add, q_sub, q_mul, q_neg, o_32, cast_s, Int.toNat_natCast, c176 hw, h2, o_lt (a := (i : Int)) (b := (n : Int)) (by omega), g, pFind_0]
  | succ r ih =>
    intro i hi
    have g : (i : Int) < n := by omega
    have h6 := hN i (by omega)
    rw [w184_2]
    by_cases hx : α (B9 i 8) = z
    · simp only [w184_0, w184_1, w184_3, w184_4, w184_7, w184_10, w184_11, w184_14, w184_15, w184_16, w184_18, w184_21, w184_22, w184_25, w184_26, w184_27, w184_30, w184_33, w184_34, kn_s, kn_n, zh_mk, zR_mk, zI_mk, zL_mk, zD_mk, wI_mk, wL_mk, wD_mk, zT_mk, zC_mk, kill_i, kill_r, kill_0, kill_n, kill_l, kill_q, zzk_r, zzk_0, zzk_q, zcat_r, zcat_i, zcat_0, cats_0, cats_i, cats_r, cats_l, cats_d, cats_f, rv_s, rv_0, Nat.reduceAdd, Nat.reduceLeDiff, Nat.add_zero, Nat.reduceMul, Nat.reduceSub, ne_eq, not_false_eq_true, not_true_eq_false, and_self, and_true, true_and, or_self, or_true, true_or, or_false, false_or, if_true, if_false, reduceIte, reduceCtorEq, implies_true, ite_self, ite_not, kM, kMr, kRow hw, sR_at, up2_r64, r64_at, o_add, o_sub, o_mul, o_neg, q_add, q_sub, q_mul, q_neg, o_32, cast_s, Int.toNat_natCast, c176 hw, h2, o_lt (a := (i : Int)) (b := (n : Int)) (by omega), g, c177_8 hw (show i < 10 by omega), o_lt (a := 0) (b := z) (by omega), h0, o_eq (a := α (B9 i 8)) (b := z) (by omega), eq_true hx, pFind_s]
    · simp only [w184_0, w184_1, w184_3, w184_4, w184_7, w184_10, w184_11, w184_14, w184_15, w184_16, w184_18, w184_21, w184_22, w184_25, w184_26, w184_27, w184_30, w184_33, w184_34, kn_s, kn_n, zh_mk, zR_mk, zI_mk, zL_mk, zD_mk, wI_mk, wL_mk, wD_mk, zT_mk, zC_mk, kill_i, kill_r, kill_0, kill_n, kill_l, kill_q, zzk_r, zzk_0, zzk_q, zcat_r, zcat_i, zcat_0, cats_0, cats_i, cats_r, cats_l, cats_d, cats_f, rv_s, rv_0, Nat.reduceAdd, Nat.reduceLeDiff, Nat.add_zero, Nat.reduceMul, Nat.reduceSub, ne_eq, not_false_eq_true, not_true_eq_false, and_self, and_true, true_and, or_self, or_true, true_or, or_false, false_or, if_true, if_false, reduceIte, reduceCtorEq, implies_true, ite_self, ite_not, kM, kMr, kRow hw, sR_at, up2_r64, r64_at, o_add, o_sub, o_mul, o_neg, q_add, q_sub, q_mul, q_neg, o_32, cast_s, Int.toNat_natCast, c176 hw, h2, o_lt (a := (i : Int)) (b := (n : Int)) (by omega), g, c177_8 hw (show i < 10 by omega), o_lt (a := 0) (b := z) (by omega), h0, o_eq (a := α (B9 i 8)) (b := z) (by omega), eq_false hx, pFind_s, ih (i + 1) (by omega)]
theorem c184_0 (hw : RW w) (hB : GB α n) : ∀ r i, i + r = n → Wp (d + 1) 184 2 [some (.ref 294), some (.int (Int32.ofInt 0)), some (.int (Int32.ofInt (i : Int)))] [] (mk N t w I (sR L w (r64 α)) D) Q = Q (.inl (some (.int (Int32.ofInt (-1))))) (mk N t w I (sR L w (r64 α)) D) := by
  obtain ⟨h1, h2, h3, h4, h5⟩ := hB
  intro r
  induction r with
  | zero =>
    intro i hi
    have g : ¬ ((i : Int) < n) := by omega
    rw [w184_2]
    simp only [w184_0, w184_1, w184_3, w184_4, w184_7, w184_10, w184_11, w184_14, w184_15, w184_16, w184_18, w184_21, w184_22, w184_25, w184_26, w184_27, w184_30, w184_33, w184_34, kn_s, kn_n, zh_mk, zR_mk, zI_mk, zL_mk, zD_mk, wI_mk, wL_mk, wD_mk, zT_mk, zC_mk, kill_i, kill_r, kill_0, kill_n, kill_l, kill_q, zzk_r, zzk_0, zzk_q, zcat_r, zcat_i, zcat_0, cats_0, cats_i, cats_r, cats_l, cats_d, cats_f, rv_s, rv_0, Nat.reduceAdd, Nat.reduceLeDiff, Nat.add_zero, Nat.reduceMul, Nat.reduceSub, ne_eq, not_false_eq_true, not_true_eq_false, and_self, and_true, true_and, or_self, or_true, true_or, or_false, false_or, if_true, if_false, reduceIte, reduceCtorEq, implies_true, ite_self, ite_not, kM, kMr, kRow hw, sR_at, up2_r64, r64_at, o_add, o_sub, o_mul, o_neg, q_add, q_sub, q_mul, q_neg, o_32, cast_s, Int.toNat_natCast, c176 hw, h2, o_lt (a := (i : Int)) (b := (n : Int)) (by omega), g]
  | succ r ih =>
    intro i hi
    have g : (i : Int) < n := by omega
    rw [w184_2]
    simp only [w184_0, w184_1, w184_3, w184_4, w184_7, w184_10, w184_11, w184_14, w184_15, w184_16, w184_18, w184_21, w184_22, w184_25, w184_26, w184_27, w184_30, w184_33, w184_34, kn_s, kn_n, zh_mk, zR_mk, zI_mk, zL_mk, zD_mk, wI_mk, wL_mk, wD_mk, zT_mk, zC_mk, kill_i, kill_r, kill_0, kill_n, kill_l, kill_q, zzk_r, zzk_0, zzk_q, zcat_r, zcat_i, zcat_0, cats_0, cats_i, cats_r, cats_l, cats_d, cats_f, rv_s, rv_0, Nat.reduceAdd, Nat.reduceLeDiff, Nat.add_zero, Nat.reduceMul, Nat.reduceSub, ne_eq, not_false_eq_true, not_true_eq_false, and_self, and_true, true_and, or_self, or_true, true_or, or_false, false_or, if_true, if_false, reduceIte, reduceCtorEq, implies_true, ite_self, ite_not, kM, kMr, kRow hw, sR_at, up2_r64, r64_at, o_add, o_sub, o_mul, o_neg, q_add, q_sub, q_mul, q_neg, o_32, cast_s, Int.toNat_natCast, c176 hw, h2, o_lt (a := (i : Int)) (b := (n : Int)) (by omega), g, show (Int32.ofInt 0 < Int32.ofInt 0) = False by decide, ih (i + 1) (by omega)]
theorem c184 (hw : RW w) (hB : GB α n) (hN : ∀ i, i < n → 0 ≤ α (B9 i 8) ∧ α (B9 i 8) < 2147483648) {z : Int} (hz : 0 ≤ z ∧ z < 2147483648) : Wp (d + 1) 184 0 [some (.ref 294), some (.int (Int32.ofInt z)), none] [] (mk N t w I (sR L w (r64 α)) D) Q = Q (.inl (some (.int (Int32.ofInt (nmF α n z))))) (mk N t w I (sR L w (r64 α)) D) := by
  unfold nmF
  by_cases h : z = 0
  · subst h
    have l := c184_0 (d := d) (N := N) (t := t) (I := I) (L := L) (D := D) (Q := Q) hw hB n 0 (by omega)
    simp only [w184_0, w184_1, kn_s, kn_n, zh_mk, zR_mk, zI_mk, zL_mk, zD_mk, wI_mk, wL_mk, wD_mk, zT_mk, zC_mk, kill_i, kill_r, kill_0, kill_n, kill_l, kill_q, zzk_r, zzk_0, zzk_q, zcat_r, zcat_i, zcat_0, cats_0, cats_i, cats_r, cats_l, cats_d, cats_f, rv_s, rv_0, Nat.reduceAdd, Nat.reduceLeDiff, Nat.add_zero, Nat.reduceMul, Nat.reduceSub, ne_eq, not_false_eq_true, not_true_eq_false, and_self, and_true, true_and, or_self, or_true, true_or, or_false, false_or, if_true, if_false, reduceIte, reduceCtorEq, implies_true, ite_self, ite_not]
    exact l
  · have l := c184_2 (d := d) (N := N) (t := t) (I := I) (L := L) (D := D) (Q := Q) hw hB hN (z := z) (by omega) (by omega) n 0 (by omega)
    simp only [w184_0, w184_1, kn_s, kn_n, zh_mk, zR_mk, zI_mk, zL_mk, zD_mk, wI_mk, wL_mk, wD_mk, zT_mk, zC_mk, kill_i, kill_r, kill_0, kill_n, kill_l, kill_q, zzk_r, zzk_0, zzk_q, zcat_r, zcat_i, zcat_0, cats_0, cats_i, cats_r, cats_l, cats_d, cats_f, rv_s, rv_0, Nat.reduceAdd, Nat.reduceLeDiff, Nat.add_zero, Nat.reduceMul, Nat.reduceSub, ne_eq, not_false_eq_true, not_true_eq_false, and_self, and_true, true_and, or_self, or_true, true_or, or_false, false_or, if_true, if_false, reduceIte, reduceCtorEq, implies_true, ite_self, ite_not, h]
    exact l
/-- whether the bytes from i on are letters -/
def alL (f : Nat → Int) (k i : Nat) : Prop := ∀ j, i ≤ j → j < k → 97 ≤ f j ∧ f j ≤ 122
end S62
