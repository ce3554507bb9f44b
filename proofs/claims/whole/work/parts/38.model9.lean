/-! CONTRACTS of the reference: many pulses, what is laid aside -/
def cpN {β : Type} (k : Nat) (f g : Nat → β) : Nat → β := fun j => if j < k then f j else g j
section S38
variable {d N t w n m : Nat} {I : Nat → Nat → Int32} {L : Nat → Nat → Int64} {D : Nat → Nat → UInt64} {Q : Rs → St → Prop} {α : Nat → Int} {f : Nat → Int32} {x : Tn} {l q p r z1 z2 M : Int} {o : Nat → Nat} {u : Un}
theorem c251_11 (hw : RW w) {P B : Int} (hP : 0 ≤ P ∧ P < 100000) : ∀ (k : Nat) (i : Int) (u : Un), i + k = P → 0 ≤ i → GA u.1 n m o → Wp (d + 27) 251 11 [some (.ref 294), some (.int (Int32.ofInt P)), some (.long (Int64.ofInt B)), none, some (.int (Int32.ofInt i))] [] (mk N t w (uS I u) (sR L w (r64 u.1)) D) Q = Q (.inl (some (.int (Int32.ofInt ((uK n m o k u).1 12 - B))))) (mk N t w (uS I (uK n m o k u)) (sR L w (r64 (uK n m o k u).1)) D) := by
  intro k
  induction k with
  | zero =>
    intro i u hi h0 hG
    have g : ¬ (i < P) := by omega
    rw [w251_11]
    simp only [w251_0, w251_1, w251_4, w251_6, w251_7, w251_8, w251_9, w251_13, w251_14, w251_17, w251_18, w251_21, w251_24, w251_27, w251_28, w251_31, w251_33, w251_34, w251_35, w251_36, w251_37, kn_s, kn_n, zh_mk, zR_mk, zI_mk, zL_mk, zD_mk, wI_mk, wL_mk, wD_mk, zT_mk, zC_mk, kill_i, kill_r, kill_0, kill_n, kill_l, kill_q, zzk_r, zzk_0, zzk_q, zcat_r, zcat_i, zcat_0, cats_0, cats_i, cats_r, cats_l, cats_d, cats_f, rv_s, rv_0, Nat.reduceAdd, Nat.reduceLeDiff, Nat.add_zero, Nat.reduceMul, Nat.reduceSub, ne_eq, not_false_eq_true, not_true_eq_false, and_self, and_true, true_and, or_self, or_true, true_or, or_false, false_or, if_true, if_false, reduceIte, reduceCtorEq, implies_true, ite_self, ite_not, kM, kMr, kRow hw, sR_at, up2_r64, r64_at, o_add, o_sub, o_mul, o_neg, q_add, q_sub, q_mul, q_neg, o_32, cast_s, Int.toNat_natCast, ixc0, ixc1, ixc2, ixc3, ixc4, ixc5, ixc6, ixc7, ixc8, ixc9, ixc10, ixc11, ixc12, ixc13, ixc14, ixc15, ixc218, ixc219, ixc220, ixc221, tnc0, tnc1, tnc2, tnc3, tnc4, tnc5, tnc6, tnc7, tnc8, tnc9, tnc10, tnc11, tnc12, tnc13, tnc14, tnc15, tnc218, tnc219, tnc220, tnc221, o_lt (a := i) (b := P) (by omega), g]
    rfl
  | succ k ih =>
    intro i u hi h0 hG
    have g : i < P := by omega
    rw [w251_11]
    simp only [w251_0, w251_1, w251_4, w251_6, w251_7, w251_8, w251_9, w251_13, w251_14, w251_17, w251_18, w251_21, w251_24, w251_27, w251_28, w251_31, w251_33, w251_34, w251_35, w251_36, w251_37, kn_s, kn_n, zh_mk, zR_mk, zI_mk, zL_mk, zD_mk, wI_mk, wL_mk, wD_mk, zT_mk, zC_mk, kill_i, kill_r, kill_0, kill_n, kill_l, kill_q, zzk_r, zzk_0, zzk_q, zcat_r, zcat_i, zcat_0, cats_0, cats_i, cats_r, cats_l, cats_d, cats_f, rv_s, rv_0, Nat.reduceAdd, Nat.reduceLeDiff, Nat.add_zero, Nat.reduceMul, Nat.reduceSub, ne_eq, not_false_eq_true, not_true_eq_false, and_self, and_true, true_and, or_self, or_true, true_or, or_false, false_or, if_true, if_false, reduceIte, reduceCtorEq, implies_true, ite_self, ite_not, kM, kMr, kRow hw, sR_at, up2_r64, r64_at, o_add, o_sub, o_mul, o_neg, q_add, q_sub, q_mul, q_neg, o_32, cast_s, Int.toNat_natCast, ixc0, ixc1, ixc2, ixc3, ixc4, ixc5, ixc6, ixc7, ixc8, ixc9, ixc10, ixc11, ixc12, ixc13, ixc14, ixc15, ixc218, ixc219, ixc220, ixc221, tnc0, tnc1, tnc2, tnc3, tnc4, tnc5, tnc6, tnc7, tnc8, tnc9, tnc10, tnc11, tnc12, tnc13, tnc14, tnc15, tnc218, tnc219, tnc220, tnc221, o_lt (a := i) (b := P) (by omega), g, c233 (d := d) hw hG]
    exact ih (i + 1) (puU n m o u) (by omega) (by omega) (puU_G hG)
theorem c251 (hw : RW w) {k : Nat} (hk : k < 100000) (hG : GA u.1 n m o) : Wp (d + 27) 251 0 [some (.ref 294), some (.int (Int32.ofInt (k : Int))), none, none, none] [] (mk N t w (uS I u) (sR L w (r64 u.1)) D) Q = Q (.inl (some (.int (Int32.ofInt ((uK n m o k u).1 12 - u.1 12))))) (mk N t w (uS I (uK n m o k u)) (sR L w (r64 (uK n m o k u).1)) D) := by
  have := c251_11 (d := d) (N := N) (t := t) (I := I) (L := L) (D := D) (Q := Q) (P := (k : Int)) (B := u.1 12) hw (by omega) k 0 u (by omega) (by omega) hG
  simp only [w251_0, w251_1, w251_4, w251_6, w251_7, w251_8, w251_9, w251_13, w251_14, w251_17, w251_18, w251_21, w251_24, w251_27, w251_28, w251_31, w251_33, w251_34, w251_35, w251_36, w251_37, kn_s, kn_n, zh_mk, zR_mk, zI_mk, zL_mk, zD_mk, wI_mk, wL_mk, wD_mk, zT_mk, zC_mk, kill_i, kill_r, kill_0, kill_n, kill_l, kill_q, zzk_r, zzk_0, zzk_q, zcat_r, zcat_i, zcat_0, cats_0, cats_i, cats_r, cats_l, cats_d, cats_f, rv_s, rv_0, Nat.reduceAdd, Nat.reduceLeDiff, Nat.add_zero, Nat.reduceMul, Nat.reduceSub, ne_eq, not_false_eq_true, not_true_eq_false, and_self, and_true, true_and, or_self, or_true, true_or, or_false, false_or, if_true, if_false, reduceIte, reduceCtorEq, implies_true, ite_self, ite_not, kM, kMr, kRow hw, sR_at, up2_r64, r64_at, o_add, o_sub, o_mul, o_neg, q_add, q_sub, q_mul, q_neg, o_32, cast_s, Int.toNat_natCast, ixc0, ixc1, ixc2, ixc3, ixc4, ixc5, ixc6, ixc7, ixc8, ixc9, ixc10, ixc11, ixc12, ixc13, ixc14, ixc15, ixc218, ixc219, ixc220, ixc221, tnc0, tnc1, tnc2, tnc3, tnc4, tnc5, tnc6, tnc7, tnc8, tnc9, tnc10, tnc11, tnc12, tnc13, tnc14, tnc15, tnc218, tnc219, tnc220, tnc221]
  exact this
theorem kA295 : KH N 295 = (12, 378) := nr rfl
theorem kA297 : KH N 297 = (12, 378) := nr rfl
theorem kM1 : rv (KR w 294 1) = .ref 295 := nr rfl
theorem kM11 : rv (KR w 294 11) = .ref 297 := nr rfl
theorem sR_comm {a b : Nat} {f g : Nat → Int64} (h : a ≠ b) : sR (sR L a f) b g = sR (sR L b g) a f := by
  funext c j
  unfold sR
  by_cases h1 : c = a
  · by_cases h2 : c = b
    · omega
    · rw [if_neg h2, if_pos h1, if_pos h1]
  · by_cases h2 : c = b
    · rw [if_pos h2, if_neg h1, if_pos h2]
    · rw [if_neg h2, if_neg h1, if_neg h1, if_neg h2]
theorem cpN_s {β : Type} {f g : Nat → β} {k : Nat} : up1 (cpN k f g) k (f k) = cpN (k + 1) f g := by
  funext j
  unfold up1 cpN
  by_cases h : j = k
  · subst h
    rw [if_pos rfl, if_pos (by omega)]
  · rw [if_neg h]
    by_cases h2 : j < k
    · rw [if_pos h2, if_pos (by omega)]
    · rw [if_neg h2, if_neg (by omega)]
theorem cpN_0 {β : Type} {f g : Nat → β} : cpN 0 f g = g := by
  funext j
  unfold cpN
  rw [if_neg (by omega)]
/-- laying aside -/
theorem c232_2 {F X : Nat → Int64} : ∀ (k i : Nat), i + k = 378 → Wp d 232 2 [some (.ref 294), some (.int (Int32.ofInt (i : Int)))] [] (mk N t 295 I (sR (sR L 297 (cpN i F X)) 295 F) D) Q = Q (.inl none) (mk N t 295 I (sR (sR L 297 (cpN 378 F X)) 295 F) D) := by
  intro k
  induction k with
  | zero =>
    intro i hi
    obtain rfl : i = 378 := by omega
    have g : ¬ (((378 : Nat) : Int) < 378) := by omega
    rw [w232_2]
    simp only [w232_0, w232_1, w232_3, w232_6, w232_9, w232_10, w232_13, w232_14, w232_15, w232_18, w232_19, w232_20, w232_21, w232_24, w232_27, kn_s, kn_n, zh_mk, zR_mk, zI_mk, zL_mk, zD_mk, wI_mk, wL_mk, wD_mk, zT_mk, zC_mk, kill_i, kill_r, kill_0, kill_n, kill_l, kill_q, zzk_r, zzk_0, zzk_q, zcat_r, zcat_i, zcat_0, cats_0, cats_i, cats_r, cats_l, cats_d, cats_f, rv_s, rv_0, Nat.reduceAdd, Nat.reduceLeDiff, Nat.add_zero, Nat.reduceMul, Nat.reduceSub, ne_eq, not_false_eq_true, not_true_eq_false, and_self, and_true, true_and, or_self, or_true, true_or, or_false, false_or, if_true, if_false, reduceIte, reduceCtorEq, implies_true, ite_self, ite_not, o_lt (a := ((378 : Nat) : Int)) (b := 378) (by omega), g]
  | succ k ih =>
    intro i hi
    have g : (i : Int) < 378 := by omega
    have e : up2 (sR (sR L 297 (cpN i F X)) 295 F) 297 i (F i) = sR (sR L 297 (cpN (i + 1) F X)) 295 F := by
      rw [sR_comm (by omega), up2_sR, cpN_s, sR_comm (by omega)]
    rw [w232_2]
    simp only [w232_0, w232_1, w232_3, w232_6, w232_9, w232_10, w232_13, w232_14, w232_15, w232_18, w232_19, w232_20, w232_21, w232_24, w232_27, kn_s, kn_n, zh_mk, zR_mk, zI_mk, zL_mk, zD_mk, wI_mk, wL_mk, wD_mk, zT_mk, zC_mk, kill_i, kill_r, kill_0, kill_n, kill_l, kill_q, zzk_r, zzk_0, zzk_q, zcat_r, zcat_i, zcat_0, cats_0, cats_i, cats_r, cats_l, cats_d, cats_f, rv_s, rv_0, Nat.reduceAdd, Nat.reduceLeDiff, Nat.add_zero, Nat.reduceMul, Nat.reduceSub, ne_eq, not_false_eq_true, not_true_eq_false, and_self, and_true, true_and, or_self, or_true, true_or, or_false, false_or, if_true, if_false, reduceIte, reduceCtorEq, implies_true, ite_self, ite_not, kM, kM1, kM11, kA295, kA297, sR_at, o_lt (a := (i : Int)) (b := 378) (by omega), g, o_ixn (j := i) (n := 378) (by omega), o_tnn (j := i) (by omega), o_add, cast_s, e]
    exact ih (i + 1) (by omega)
theorem c232 {F X : Nat → Int64} : Wp d 232 0 [some (.ref 294), none] [] (mk N t 295 I (sR (sR L 297 X) 295 F) D) Q = Q (.inl none) (mk N t 295 I (sR (sR L 297 (cpN 378 F X)) 295 F) D) := by
  have := c232_2 (d := d) (N := N) (t := t) (I := I) (L := L) (D := D) (Q := Q) (F := F) (X := X) 378 0 (by omega)
  rw [cpN_0] at this
  simp only [w232_0, w232_1, kn_s, kn_n, zh_mk, zR_mk, zI_mk, zL_mk, zD_mk, wI_mk, wL_mk, wD_mk, zT_mk, zC_mk, kill_i, kill_r, kill_0, kill_n, kill_l, kill_q, zzk_r, zzk_0, zzk_q, zcat_r, zcat_i, zcat_0, cats_0, cats_i, cats_r, cats_l, cats_d, cats_f, rv_s, rv_0, Nat.reduceAdd, Nat.reduceLeDiff, Nat.add_zero, Nat.reduceMul, Nat.reduceSub, ne_eq, not_false_eq_true, not_true_eq_false, and_self, and_true, true_and, or_self, or_true, true_or, or_false, false_or, if_true, if_false, reduceIte, reduceCtorEq, implies_true, ite_self, ite_not]
  exact this
theorem c245_2 {F X : Nat → Int64} {v : Int64} : ∀ (k i : Nat), i + k = 378 → Wp d 245 2 [some (.ref 294), some (.long v), none, some (.int (Int32.ofInt (i : Int)))] [] (mk N t 295 I (sR (sR L 297 X) 295 (cpN i X F)) D) Q = Q (.inl (some (.long v))) (mk N t 295 I (sR (sR L 297 X) 295 (cpN 378 X F)) D) := by
  intro k
  induction k with
  | zero =>
    intro i hi
    obtain rfl : i = 378 := by omega
    have g : ¬ (((378 : Nat) : Int) < 378) := by omega
    rw [w245_2]
    simp only [w245_0, w245_1, w245_3, w245_6, w245_9, w245_10, w245_13, w245_14, w245_15, w245_18, w245_19, w245_20, w245_21, w245_24, w245_27, w245_28, kn_s, kn_n, zh_mk, zR_mk, zI_mk, zL_mk, zD_mk, wI_mk, wL_mk, wD_mk, zT_mk, zC_mk, kill_i, kill_r, kill_0, kill_n, kill_l, kill_q, zzk_r, zzk_0, zzk_q, zcat_r, zcat_i, zcat_0, cats_0, cats_i, cats_r, cats_l, cats_d, cats_f, rv_s, rv_0, Nat.reduceAdd, Nat.reduceLeDiff, Nat.add_zero, Nat.reduceMul, Nat.reduceSub, ne_eq, not_false_eq_true, not_true_eq_false, and_self, and_true, true_and, or_self, or_true, true_or, or_false, false_or, if_true, if_false, reduceIte, reduceCtorEq, implies_true, ite_self, ite_not, o_lt (a := ((378 : Nat) : Int)) (b := 378) (by omega), g]
  | succ k ih =>
    intro i hi
    have g : (i : Int) < 378 := by omega
    have e0 : sR (sR L 297 X) 295 (cpN i X F) 297 i = X i := by
      rw [sR_ne (by omega), sR_at]
    rw [w245_2]
    simp only [w245_0, w245_1, w245_3, w245_6, w245_9, w245_10, w245_13, w245_14, w245_15, w245_18, w245_19, w245_20, w245_21, w245_24, w245_27, w245_28, kn_s, kn_n, zh_mk, zR_mk, zI_mk, zL_mk, zD_mk, wI_mk, wL_mk, wD_mk, zT_mk, zC_mk, kill_i, kill_r, kill_0, kill_n, kill_l, kill_q, zzk_r, zzk_0, zzk_q, zcat_r, zcat_i, zcat_0, cats_0, cats_i, cats_r, cats_l, cats_d, cats_f, rv_s, rv_0, Nat.reduceAdd, Nat.reduceLeDiff, Nat.add_zero, Nat.reduceMul, Nat.reduceSub, ne_eq, not_false_eq_true, not_true_eq_false, and_self, and_true, true_and, or_self, or_true, true_or, or_false, false_or, if_true, if_false, reduceIte, reduceCtorEq, implies_true, ite_self, ite_not, kM, kM1, kM11, kA295, kA297, e0, up2_sR, cpN_s, o_lt (a := (i : Int)) (b := 378) (by omega), g, o_ixn (j := i) (n := 378) (by omega), o_tnn (j := i) (by omega), o_add, cast_s]
    exact ih (i + 1) (by omega)
theorem c245 {F X : Nat → Int64} {v : Int64} : Wp d 245 0 [some (.ref 294), some (.long v), none, none] [] (mk N t 295 I (sR (sR L 297 X) 295 F) D) Q = Q (.inl (some (.long v))) (mk N t 295 I (sR (sR L 297 X) 295 (cpN 378 X F)) D) := by
  have := c245_2 (d := d) (N := N) (t := t) (I := I) (L := L) (D := D) (Q := Q) (F := F) (X := X) (v := v) 378 0 (by omega)
  rw [cpN_0] at this
  simp only [w245_0, w245_1, kn_s, kn_n, zh_mk, zR_mk, zI_mk, zL_mk, zD_mk, wI_mk, wL_mk, wD_mk, zT_mk, zC_mk, kill_i, kill_r, kill_0, kill_n, kill_l, kill_q, zzk_r, zzk_0, zzk_q, zcat_r, zcat_i, zcat_0, cats_0, cats_i, cats_r, cats_l, cats_d, cats_f, rv_s, rv_0, Nat.reduceAdd, Nat.reduceLeDiff, Nat.add_zero, Nat.reduceMul, Nat.reduceSub, ne_eq, not_false_eq_true, not_true_eq_false, and_self, and_true, true_and, or_self, or_true, true_or, or_false, false_or, if_true, if_false, reduceIte, reduceCtorEq, implies_true, ite_self, ite_not]
  exact this
/-- laid back: the row as it was, but for what lies behind it -/
theorem cp_r64 {β : Nat → Int} {X : Nat → Int64} : cpN 378 (cpN 378 (r64 α) X) (r64 β) = r64 (cpN 378 α β) := by
  funext j
  unfold cpN r64
  by_cases h : j < 378 <;> simp only [h, if_true, if_false]
theorem c244 {F X : Nat → Int64} {v : Int} (hv : -2147483648 ≤ v ∧ v < 2147483648) : Wp (d + 1) 244 0 [some (.ref 294), some (.int (Int32.ofInt v))] [] (mk N t 295 I (sR (sR L 297 X) 295 F) D) Q = Q (.inl (some (.int (Int32.ofInt v)))) (mk N t 295 I (sR (sR L 297 X) 295 (cpN 378 X F)) D) := by
  simp only [w244_0, w244_1, w244_2, w244_3, w244_6, w244_7, kn_s, kn_n, zh_mk, zR_mk, zI_mk, zL_mk, zD_mk, wI_mk, wL_mk, wD_mk, zT_mk, zC_mk, kill_i, kill_r, kill_0, kill_n, kill_l, kill_q, zzk_r, zzk_0, zzk_q, zcat_r, zcat_i, zcat_0, cats_0, cats_i, cats_r, cats_l, cats_d, cats_f, rv_s, rv_0, Nat.reduceAdd, Nat.reduceLeDiff, Nat.add_zero, Nat.reduceMul, Nat.reduceSub, ne_eq, not_false_eq_true, not_true_eq_false, and_self, and_true, true_and, or_self, or_true, true_or, or_false, false_or, if_true, if_false, reduceIte, reduceCtorEq, implies_true, ite_self, ite_not, kM, o_64 hv, c245, o_32]
/-! answers about the future: the row is as it was, but for what lies behind it -/
theorem GA_cp {β : Nat → Int} (h : GA α n m o) : GA (cpN 378 α β) n m o := by
  have h10 : n ≤ 10 := h.1.1
  have hm4 : m ≤ 4 := h.2.1.1
  have e : ∀ j, j < 378 → cpN 378 α β j = α j := fun j hj => by unfold cpN; rw [if_pos hj]
  refine GA_ext h ⟨e _ (by omega), e _ (by omega), e _ (by omega), e _ (by omega), e _ (by omega)⟩ (fun i hi => ?_) (fun p hp => ?_) (by rw [e _ (by omega)]; exact h.2.2.1.2.2)
  · rw [e _ (by unfold B9; omega), e _ (by unfold B9; omega), e _ (by unfold B9; omega), e _ (by unfold B9; omega)]
    exact ⟨rfl, (h.1.2.2.2.2 i hi).2⟩
  · rw [e _ (by unfold P3; omega), e _ (by unfold P3; omega)]
    exact ⟨rfl, (h.2.1.2.2 p hp).2⟩
theorem RL_cp {ℓ : Nat → Nat → Int32} {μ : Nat → Nat → Int64} {β : Nat → Int} (h : RL ℓ μ α n m o) : RL ℓ μ (cpN 378 α β) n m o := by
  have e : ∀ j, j < 378 → cpN 378 α β j = α j := fun j hj => by unfold cpN; rw [if_pos hj]
  obtain ⟨h1, h2, ⟨h4, h5, h6⟩, h7, nx, h8, h9, h10, h11⟩ := h
  refine ⟨fun k hk => ?_, h2, ⟨by rw [e _ (by omega)]; exact h4, by rw [e _ (by omega)]; exact h5, by rw [e _ (by omega)]; exact h6⟩, h7, nx, h8, h9, by rw [e _ (by omega)]; exact h10, fun k g1 g2 c hc => ?_⟩
  · rw [e _ (by unfold kd at hk; omega)]
    exact h1 k hk
  · rw [e _ (by omega)] at g1
    rw [e _ (by omega)]
    exact h11 k g1 g2 c hc
end S38
