/-! REMEMBERING on both sides; the invariant behind a change -/
def hB (f r : Nat) : Nat := 76 + 27 * ((f + r) % 6)
theorem hB_b (f r : Nat) : 76 ≤ hB f r ∧ hB f r + 27 ≤ 238 := by
  have : (f + r) % 6 < 6 := Nat.mod_lt _ (by omega)
  unfold hB
  omega
theorem LB_h : ∀ j, j < 6 → 76 + 27 * j ∈ LBs := by decide
theorem hB_L (f r : Nat) : LB (hB f r) := LB_h _ (Nat.mod_lt _ (by omega))
theorem hB_apt (f r : Nat) : apt (hB f r) 19 := by
  have := hB_b f r
  unfold apt
  omega
theorem LB_now : LB 19 := by unfold LB; decide
noncomputable def rmI (f r : Nat) (I : Nat → Nat → Int32) : Nat → Nat → Int32 := if r < 6 then up2 (lay (hB f r) (mg CP (gl 19 I) (gl (hB f r) I)) I) 74 2 (Int32.ofInt ((r + 1 : Nat) : Int)) else up2 (lay (hB f r) (mg CP (gl 19 I) (gl (hB f r) I)) I) 74 1 (Int32.ofInt (((f + 1) % 6 : Nat) : Int))
def rmL (f r : Nat) (L : Nat → Nat → Int64) : Nat → Nat → Int64 := lay (hB f r) (muC (gl 19 L) (gl (hB f r) L)) L
theorem krH_d : ∀ j, j < 6 → KR0 75 j = 76 + 27 * j + 1 := by decide +kernel
theorem k74 {N : NX} : KH N 74 = (4, 0) := nr rfl
theorem k75 {N : NX} : KH N 75 = (18, 6) := nr rfl
theorem kr74_0 {w : WX} : rv (KR w 74 0) = .ref 75 := nr rfl
theorem krH {w : WX} {j : Nat} (h : j < 6) : rv (KR w 75 j) = .ref (76 + 27 * j) := by
  unfold KR
  rw [if_pos (by omega), krH_d j h]
  rfl
theorem o60 : (Int32.ofInt 6 = Int32.ofInt 0) = False := by decide
section S67
variable {N : NX} {w : WX} {d t f r b n m c c' : Nat} {I I' : Nat → Nat → Int32} {L L' : Nat → Nat → Int64} {D : Nat → Nat → UInt64} {Q : Rs → St → Prop} {o : Nat → Nat} {α : Nat → Int} {xs : Nat → Int32}
theorem rmI_o {a k : Nat} (h : (a < 74 ∨ 74 < a) ∧ (a < hB f r ∨ hB f r + 27 ≤ a)) : rmI f r I a k = I a k := by
  unfold rmI
  split
  · rw [u2_ne (by omega), lay_out h.2]
  · rw [u2_ne (by omega), lay_out h.2]
theorem rmI_i {q k : Nat} (h : q < 27) : rmI f r I (hB f r + q) k = mg CP (gl 19 I) (gl (hB f r) I) q k := by
  have := hB_b f r
  unfold rmI
  split
  · rw [u2_ne (by omega), lay_in h]
  · rw [u2_ne (by omega), lay_in h]
theorem rmI_74 : rmI f r I 74 1 = (if r < 6 then I 74 1 else Int32.ofInt (((f + 1) % 6 : Nat) : Int)) ∧ rmI f r I 74 2 = (if r < 6 then Int32.ofInt ((r + 1 : Nat) : Int) else I 74 2) := by
  have := hB_b f r
  unfold rmI
  split
  · rw [u2_ne (by omega), lay_out (by omega), u2_same]
    exact ⟨rfl, rfl⟩
  · rw [u2_same, u2_ne (by omega), lay_out (by omega)]
    exact ⟨rfl, rfl⟩
theorem rmL_o {a : Nat} (h : a < hB f r ∨ hB f r + 27 ≤ a) : rmL f r L a = L a := by
  funext k
  exact lay_out h
theorem rmL_i {q k : Nat} (h : q < 27) : rmL f r L (hB f r + q) k = muC (gl 19 L) (gl (hB f r) L) q k := lay_in h
theorem c21 (hf : f < 6) (hr : r ≤ 6) (e1 : I 74 1 = Int32.ofInt (f : Int)) (e2 : I 74 2 = Int32.ofInt (r : Int)) (hb : b = 19) : Wp (d + 2) 21 0 [some (.ref 74), some (.ref b)] [] (mk N t w I L D) Q = Q (.inl none) (mk N t w (rmI f r I) (rmL f r L) D) := by
  subst hb
  have hj : (f + r) % 6 < 6 := Nat.mod_lt _ (by omega)
  have e12 : (f : Int) + (r : Int) = ((f + r : Nat) : Int) := by omega
  have er := o_rem (x := f + r) (y := 6) (by omega) (by omega)
  have er2 := o_rem (x := f + 1) (y := 6) (by omega) (by omega)
  rw [show ((6 : Nat) : Int) = 6 from rfl] at er er2
  have hBb := hB_b f r
  have hk := krH (w := w) hj
  have hl : ∀ (F : Nat → Nat → Int32) (k : Nat), lay (hB f r) F I 74 k = I 74 k := fun F k => lay_out (by omega)
  have hc := fun (Q : Rs → St → Prop) => c32t (d := d) (N := N) (t := t) (w := w) (I := I) (L := L) (D := D) (Q := Q) (hB_L f r) LB_now (hB_apt f r)
  have hk : rv (KR w 75 ((f + r) % 6)) = .ref (hB f r) := hk
  have hz : KH N (hB f r) = (5, 0) := kh0 (hB_L f r)
  unfold rmI rmL
  by_cases h6 : r < 6
  · have g : (r : Int) < 6 := by omega
    simp only [w21_0, w21_1, w21_4, w21_5, w21_8, w21_9, w21_12, w21_13, w21_15, w21_16, w21_17, w21_18, w21_21, w21_22, w21_25, w21_27, w21_30, w21_31, w21_32, w21_35, w21_36, w21_37, w21_40, w21_43, w21_44, w21_45, w21_48, w21_49, w21_50, w21_52, w21_53, w21_56, kn_s, kn_n, zh_mk, zR_mk, zI_mk, zL_mk, zD_mk, wI_mk, wL_mk, wD_mk, zT_mk, zC_mk, kill_i, kill_r, kill_0, kill_n, kill_l, kill_q, zzk_r, zzk_0, zzk_q, zcat_r, zcat_i, zcat_0, zcat_q, cats_0, cats_i, cats_r, cats_l, cats_d, cats_f, cats_q, cats_n, rv_s, rv_0, Nat.reduceAdd, Nat.reduceLeDiff, Nat.reduceEqDiff, Nat.add_zero, Nat.reduceMul, Nat.reduceSub, ne_eq, not_false_eq_true, not_true_eq_false, and_self, and_true, true_and, or_self, or_true, true_or, or_false, false_or, if_true, if_false, reduceIte, reduceCtorEq, implies_true, ite_self, ite_not, k74, k75, kr74_0, e1, e2, o_add, e12, o60, er, o_ixn (j := (f + r) % 6) (n := 6) (by omega), o_tnn (j := (f + r) % 6) (by omega), hk, hz, hc, hl, o_lt (a := (r : Int)) (b := 6) (by omega), g, h6, cast_s]
  · have g : ¬ ((r : Int) < 6) := by omega
    simp only [w21_0, w21_1, w21_4, w21_5, w21_8, w21_9, w21_12, w21_13, w21_15, w21_16, w21_17, w21_18, w21_21, w21_22, w21_25, w21_27, w21_30, w21_31, w21_32, w21_35, w21_36, w21_37, w21_40, w21_43, w21_44, w21_45, w21_48, w21_49, w21_50, w21_52, w21_53, w21_56, kn_s, kn_n, zh_mk, zR_mk, zI_mk, zL_mk, zD_mk, wI_mk, wL_mk, wD_mk, zT_mk, zC_mk, kill_i, kill_r, kill_0, kill_n, kill_l, kill_q, zzk_r, zzk_0, zzk_q, zcat_r, zcat_i, zcat_0, zcat_q, cats_0, cats_i, cats_r, cats_l, cats_d, cats_f, cats_q, cats_n, rv_s, rv_0, Nat.reduceAdd, Nat.reduceLeDiff, Nat.reduceEqDiff, Nat.add_zero, Nat.reduceMul, Nat.reduceSub, ne_eq, not_false_eq_true, not_true_eq_false, and_self, and_true, true_and, or_self, or_true, true_or, or_false, false_or, if_true, if_false, reduceIte, reduceCtorEq, implies_true, ite_self, ite_not, k74, k75, kr74_0, e1, e2, o_add, e12, o60, er, er2, o_ixn (j := (f + r) % 6) (n := 6) (by omega), o_tnn (j := (f + r) % 6) (by omega), hk, hz, hc, hl, o_lt (a := (r : Int)) (b := 6) (by omega), g, h6, cast_s]
end S67
