/-! CONTRACTS of the reference: the log, bounces, hits -/
theorem B9_s {i a b : Nat} : (B9 i a = B9 i b) = (a = b) := by
  unfold B9
  apply propext
  omega
theorem B9_l {z i k : Nat} (h : z < 28) : (B9 i k = z) = False := by
  unfold B9
  simp only [eq_iff_iff, iff_false]
  omega
theorem B9_r {z i k : Nat} (h : z < 28) : (z = B9 i k) = False := by
  unfold B9
  simp only [eq_iff_iff, iff_false]
  omega
theorem B9_n {i j a b : Nat} (h : i ≠ j ∧ a < 9 ∧ b < 9) : (B9 i a = B9 j b) = False := by
  unfold B9
  simp only [eq_iff_iff, iff_false]
  omega
/-- the reference's own ints beside its row -/
def ms (I : Nat → Nat → Int32) (f : Nat → Int32) : Nat → Nat → Int32 := fun a k => if a = 294 ∧ 4 ≤ k ∧ k ≤ 10 then f k else I a k
theorem ms_self {I : Nat → Nat → Int32} : ms I (I 294) = I := by
  funext a k
  unfold ms
  by_cases h : a = 294 ∧ 4 ≤ k ∧ k ≤ 10
  · rw [if_pos h, h.1]
  · rw [if_neg h]
theorem ms_ms {I : Nat → Nat → Int32} {f g : Nat → Int32} : ms (ms I f) g = ms I g := by
  funext a k
  unfold ms
  by_cases h : a = 294 ∧ 4 ≤ k ∧ k ≤ 10
  · rw [if_pos h, if_pos h]
  · rw [if_neg h, if_neg h, if_neg h]
theorem ms_at {I : Nat → Nat → Int32} {f : Nat → Int32} {k : Nat} (h : 4 ≤ k ∧ k ≤ 10) : ms I f 294 k = f k := by
  unfold ms
  rw [if_pos ⟨rfl, h⟩]
theorem ms_ne {I : Nat → Nat → Int32} {f : Nat → Int32} {a k : Nat} (h : a ≠ 294 ∨ k < 4 ∨ 10 < k) : ms I f a k = I a k := by
  unfold ms
  rw [if_neg (by omega)]
theorem up2_ms {I : Nat → Nat → Int32} {f : Nat → Int32} {k : Nat} {v : Int32} (h : 4 ≤ k ∧ k ≤ 10) : up2 (ms I f) 294 k v = ms I (up1 f k v) := by
  funext a j
  unfold up2 ms up1
  by_cases h1 : a = 294 ∧ j = k
  · obtain ⟨rfl, rfl⟩ := h1
    simp only [and_self, if_true, h]
  · rw [if_neg h1]
    by_cases h2 : a = 294 ∧ 4 ≤ j ∧ j ≤ 10
    · rw [if_pos h2, if_pos h2, if_neg (by omega)]
    · rw [if_neg h2, if_neg h2]
def shK (α : Nat → Int) (K : Nat) : Nat → Int := fun j => if K < j ∧ 222 ≤ j ∧ j < 378 then α (j - 4) else α j
theorem shK_s {α : Nat → Int} {K : Nat} (h : 222 ≤ K ∧ K < 378) : up1 (shK α K) K (shK α K (K - 4)) = shK α (K - 1) := by
  funext j
  unfold up1 shK
  by_cases h1 : j = K
  · subst h1
    rw [if_pos rfl, if_neg (by omega), if_pos (by omega)]
  · rw [if_neg h1]
    by_cases h2 : K < j ∧ 222 ≤ j ∧ j < 378
    · rw [if_pos h2, if_pos (by omega)]
    · rw [if_neg h2, if_neg (by omega)]
/-- the log with one more entry ahead -/
def lgA (α : Nat → Int) (b o h : Int) : Nat → Int := up1 (up1 (up1 (up1 (up1 (shK α 221) 218 (α 3)) 219 b) 220 o) 221 h) 4 (if α 4 + 1 < 40 then α 4 + 1 else 40)
section S25
variable {d N t w n m : Nat} {I : Nat → Nat → Int32} {L : Nat → Nat → Int64} {D : Nat → Nat → UInt64} {Q : Rs → St → Prop} {α : Nat → Int} {f : Nat → Int32}
theorem c241_5 (hw : RW w) {b o h : Int} (hb : -2147483648 ≤ b ∧ b < 2147483648) (ho : -2147483648 ≤ o ∧ o < 2147483648) (hh : -2147483648 ≤ h ∧ h < 2147483648) (h4 : 0 ≤ α 4 ∧ α 4 ≤ 40) : ∀ r K : Nat, K = 221 + r → K < 378 → Wp d 241 5 [some (.ref 294), some (.int (Int32.ofInt b)), some (.int (Int32.ofInt o)), some (.int (Int32.ofInt h)), some (.int (Int32.ofInt (K : Int)))] [] (mk N t w I (sR L w (r64 (shK α K))) D) Q = Q (.inl none) (mk N t w I (sR L w (r64 (lgA α b o h))) D) := by
  intro r
  induction r with
  | zero =>
    rintro K rfl hK
    have e3 : shK α 221 3 = α 3 := rfl
    have e4 : shK α 221 4 = α 4 := rfl
    have g : ((221 + 0 : Nat) : Int) < 222 := by omega
    have hs := ixc4
    simp only [w241_0, w241_3, w241_5, w241_7, w241_10, w241_13, w241_14, w241_17, w241_19, w241_20, w241_23, w241_25, w241_26, w241_27, w241_28, w241_29, w241_32, w241_35, w241_36, w241_39, w241_42, w241_43, w241_46, w241_47, w241_48, w241_49, w241_50, w241_53, w241_56, w241_57, w241_58, w241_59, w241_60, w241_63, w241_66, w241_67, w241_68, w241_69, w241_70, w241_73, w241_76, w241_77, w241_78, w241_79, w241_80, w241_83, w241_84, w241_87, w241_88, w241_91, w241_92, w241_93, w241_94, w241_95, w241_98, w241_99, kn_s, kn_n, zh_mk, zR_mk, zI_mk, zL_mk, zD_mk, wI_mk, wL_mk, wD_mk, zT_mk, zC_mk, kill_i, kill_r, kill_0, kill_n, kill_l, kill_q, zzk_r, zzk_0, zzk_q, zcat_r, zcat_i, zcat_0, cats_0, cats_i, cats_r, cats_l, cats_d, cats_f, rv_s, rv_0, Nat.reduceAdd, Nat.reduceLeDiff, Nat.add_zero, Nat.reduceMul, Nat.reduceSub, ne_eq, not_false_eq_true, not_true_eq_false, and_self, and_true, true_and, or_self, or_true, true_or, or_false, false_or, if_true, if_false, reduceIte, reduceCtorEq, implies_true, ite_self, ite_not, kM, kMr, kRow hw, sR_at, up2_r64, r64_at, o_add, o_sub, o_mul, o_neg, q_add, q_sub, q_mul, q_neg, o_32, cast_s, Int.toNat_natCast, ixc0, ixc1, ixc2, ixc3, ixc4, ixc5, ixc6, ixc7, ixc8, ixc9, ixc10, ixc11, ixc12, ixc13, ixc14, ixc15, ixc218, ixc219, ixc220, ixc221, tnc0, tnc1, tnc2, tnc3, tnc4, tnc5, tnc6, tnc7, tnc8, tnc9, tnc10, tnc11, tnc12, tnc13, tnc14, tnc15, tnc218, tnc219, tnc220, tnc221, up2_at, up1_at, Nat.reduceEqDiff, and_false, false_and, e3, e4, o_lt (a := ((221 + 0 : Nat) : Int)) (b := 222) (by omega), g, o_64 hb, o_64 ho, o_64 hh, q_lt (a := α 4 + 1) (b := 40) (by omega)]
    by_cases hx : α 4 + 1 < 40 <;> simp only [hx, if_true, if_false, up1_r64, up2_r64, lgA]
  | succ r ih =>
    rintro K rfl hK
    have g : ¬ (((221 + (r + 1) : Nat) : Int) < 222) := by omega
    have e1 : (((221 + (r + 1) : Nat) : Int) - 4).toNat = 221 + (r + 1) - 4 := by omega
    have e2 : ((221 + (r + 1) : Nat) : Int) + -1 = ((221 + r : Nat) : Int) := by omega
    rw [w241_5]
    simp only [w241_0, w241_3, w241_7, w241_10, w241_13, w241_14, w241_17, w241_19, w241_20, w241_23, w241_25, w241_26, w241_27, w241_28, w241_29, w241_32, w241_35, w241_36, w241_39, w241_42, w241_43, w241_46, w241_47, w241_48, w241_49, w241_50, w241_53, w241_56, w241_57, w241_58, w241_59, w241_60, w241_63, w241_66, w241_67, w241_68, w241_69, w241_70, w241_73, w241_76, w241_77, w241_78, w241_79, w241_80, w241_83, w241_84, w241_87, w241_88, w241_91, w241_92, w241_93, w241_94, w241_95, w241_98, w241_99, kn_s, kn_n, zh_mk, zR_mk, zI_mk, zL_mk, zD_mk, wI_mk, wL_mk, wD_mk, zT_mk, zC_mk, kill_i, kill_r, kill_0, kill_n, kill_l, kill_q, zzk_r, zzk_0, zzk_q, zcat_r, zcat_i, zcat_0, cats_0, cats_i, cats_r, cats_l, cats_d, cats_f, rv_s, rv_0, Nat.reduceAdd, Nat.reduceLeDiff, Nat.add_zero, Nat.reduceMul, Nat.reduceSub, ne_eq, not_false_eq_true, not_true_eq_false, and_self, and_true, true_and, or_self, or_true, true_or, or_false, false_or, if_true, if_false, reduceIte, reduceCtorEq, implies_true, ite_self, ite_not, kM, kMr, kRow hw, sR_at, up2_r64, r64_at, o_add, o_sub, o_mul, o_neg, q_add, q_sub, q_mul, q_neg, o_32, cast_s, Int.toNat_natCast, o_lt (a := ((221 + (r + 1) : Nat) : Int)) (b := 222) (by omega), g, o_ix (z := ((221 + (r + 1) : Nat) : Int)) (n := 378) (by omega), o_ix (z := ((221 + (r + 1) : Nat) : Int) - 4) (n := 378) (by omega), o_tn (z := ((221 + (r + 1) : Nat) : Int)) (by omega), o_tn (z := ((221 + (r + 1) : Nat) : Int) - 4) (by omega), e1, e2, shK_s (α := α) (K := 221 + (r + 1)) (by omega)]
    exact ih (221 + r) rfl (by omega)
theorem c241 (hw : RW w) {b o h : Int} (hb : -2147483648 ≤ b ∧ b < 2147483648) (ho : -2147483648 ≤ o ∧ o < 2147483648) (hh : -2147483648 ≤ h ∧ h < 2147483648) (h4 : 0 ≤ α 4 ∧ α 4 ≤ 40) : Wp d 241 0 [some (.ref 294), some (.int (Int32.ofInt b)), some (.int (Int32.ofInt o)), some (.int (Int32.ofInt h)), none] [] (mk N t w I (sR L w (r64 α)) D) Q = Q (.inl none) (mk N t w I (sR L w (r64 (lgA α b o h))) D) := by
  have e : shK α 377 = α := by
    funext j
    unfold shK
    rw [if_neg (by omega)]
  have := c241_5 (d := d) (N := N) (t := t) (I := I) (L := L) (D := D) (Q := Q) hw hb ho hh h4 156 377 rfl (by omega)
  rw [e] at this
  simp only [w241_0, w241_3, kn_s, kn_n, zh_mk, zR_mk, zI_mk, zL_mk, zD_mk, wI_mk, wL_mk, wD_mk, zT_mk, zC_mk, kill_i, kill_r, kill_0, kill_n, kill_l, kill_q, zzk_r, zzk_0, zzk_q, zcat_r, zcat_i, zcat_0, cats_0, cats_i, cats_r, cats_l, cats_d, cats_f, rv_s, rv_0, Nat.reduceAdd, Nat.reduceLeDiff, Nat.add_zero, Nat.reduceMul, Nat.reduceSub, ne_eq, not_false_eq_true, not_true_eq_false, and_self, and_true, true_and, or_self, or_true, true_or, or_false, false_or, if_true, if_false, reduceIte, reduceCtorEq, implies_true, ite_self, ite_not]
  exact this
/-- what a bounce takes of a speed -/
def stA (s st : Int) : Int := zabs s * st / 100
/-- the speed behind it -/
def bsA (s st : Int) : Int := if 0 < s then -(zabs s - stA s st) else zabs s - stA s st
theorem stA_b {s st : Int} (hs : -60 ≤ s ∧ s ≤ 60) (ht : 0 ≤ st ∧ st ≤ 100) : 0 ≤ stA s st ∧ stA s st ≤ zabs s ∧ 0 ≤ zabs s ∧ zabs s ≤ 60 ∧ 0 ≤ zabs s * st ∧ zabs s * st ≤ 6000 := by
  have h1 : 0 ≤ zabs s ∧ zabs s ≤ 60 := by unfold zabs; split <;> omega
  have h2 : 0 ≤ zabs s * st := Int.mul_nonneg h1.1 ht.1
  have h3 : zabs s * st ≤ zabs s * 100 := Int.mul_le_mul_of_nonneg_left ht.2 h1.1
  unfold stA
  omega
theorem bsA_b {s st : Int} (hs : -60 ≤ s ∧ s ≤ 60) (ht : 0 ≤ st ∧ st ≤ 100) : -60 ≤ bsA s st ∧ bsA s st ≤ 60 := by
  have := stA_b hs ht
  unfold bsA
  split <;> omega
theorem c228 {s st : Int} (hs : -60 ≤ s ∧ s ≤ 60) (ht : 0 ≤ st ∧ st ≤ 100) {σ : St} : Wp d 228 0 [some (.int (Int32.ofInt s)), some (.int (Int32.ofInt st))] [] σ Q = Q (.inl (some (.int (Int32.ofInt (stA s st))))) σ := by
  have h1 := stA_b hs ht
  have e : (if 0 ≤ s then Int32.ofInt s else Int32.ofInt (0 - s)) = Int32.ofInt (zabs s) := by
    unfold zabs
    by_cases h : s < 0
    · rw [if_neg (by omega), if_pos h, Int.zero_sub]
    · rw [if_pos (by omega), if_neg h]
  have e2 : (zabs s * st).tdiv 100 = stA s st := by
    unfold stA
    rw [Int.tdiv_eq_ediv_of_nonneg (by omega)]
  simp only [w228_0, w228_1, w228_4, w228_5, w228_6, w228_8, w228_9, kn_s, kn_n, zh_mk, zR_mk, zI_mk, zL_mk, zD_mk, wI_mk, wL_mk, wD_mk, zT_mk, zC_mk, kill_i, kill_r, kill_0, kill_n, kill_l, kill_q, zzk_r, zzk_0, zzk_q, zcat_r, zcat_i, zcat_0, cats_0, cats_i, cats_r, cats_l, cats_d, cats_f, rv_s, rv_0, Nat.reduceAdd, Nat.reduceLeDiff, Nat.add_zero, Nat.reduceMul, Nat.reduceSub, ne_eq, not_false_eq_true, not_true_eq_false, and_self, and_true, true_and, or_self, or_true, true_or, or_false, false_or, if_true, if_false, reduceIte, reduceCtorEq, implies_true, ite_self, ite_not, o_add, o_sub, o_mul, o_neg, q_add, q_sub, q_mul, q_neg, o_32, cast_s, o_le (a := 0) (b := s) (by omega), e, o_eq (a := 100) (b := 0) (by omega), o_div (a := zabs s * st) (b := 100) (by omega), e2, show ((100 : Int) = 0) = False by simp]
theorem c227 {s st : Int} (hs : -60 ≤ s ∧ s ≤ 60) (ht : 0 ≤ st ∧ st ≤ 100) {σ : St} : Wp (d + 1) 227 0 [some (.int (Int32.ofInt s)), some (.int (Int32.ofInt st)), none] [] σ Q = Q (.inl (some (.int (Int32.ofInt (bsA s st))))) σ := by
  have h1 := stA_b hs ht
  have e : (if 0 ≤ s then Int32.ofInt s else Int32.ofInt (0 - s)) = Int32.ofInt (zabs s) := by
    unfold zabs
    by_cases h : s < 0
    · rw [if_neg (by omega), if_pos h, Int.zero_sub]
    · rw [if_pos (by omega), if_neg h]
  simp only [w227_0, w227_1, w227_4, w227_5, w227_6, w227_9, w227_10, w227_11, w227_12, w227_15, w227_16, w227_17, w227_20, w227_21, kn_s, kn_n, zh_mk, zR_mk, zI_mk, zL_mk, zD_mk, wI_mk, wL_mk, wD_mk, zT_mk, zC_mk, kill_i, kill_r, kill_0, kill_n, kill_l, kill_q, zzk_r, zzk_0, zzk_q, zcat_r, zcat_i, zcat_0, cats_0, cats_i, cats_r, cats_l, cats_d, cats_f, rv_s, rv_0, Nat.reduceAdd, Nat.reduceLeDiff, Nat.add_zero, Nat.reduceMul, Nat.reduceSub, ne_eq, not_false_eq_true, not_true_eq_false, and_self, and_true, true_and, or_self, or_true, true_or, or_false, false_or, if_true, if_false, reduceIte, reduceCtorEq, implies_true, ite_self, ite_not, o_add, o_sub, o_mul, o_neg, q_add, q_sub, q_mul, q_neg, o_32, cast_s, c228 hs ht, o_le (a := 0) (b := s) (by omega), e, o_lt (a := 0) (b := s) (by omega)]
  unfold bsA
  by_cases h : 0 < s <;> simp only [h, if_true, if_false]
/-- the row behind a bounce, but for the count of what it bounced at -/
def boA (α : Nat → Int) (i : Nat) (st : Int) : Nat → Int :=
  lgA (up1 (up1 (up1 (up1 α (B9 i 1) (bsA (α (B9 i 1)) st)) (B9 i 6) (α (B9 i 6) + 1)) 13 (α 13 + 1)) 5 (α 5 + α (B9 i 2) * (α (B9 i 1) - bsA (α (B9 i 1)) st))) i (-1) (stA (α (B9 i 1)) st)
theorem c243 (hw : RW w) {i : Nat} (hi : i < 10) {st : Int} (hs : -60 ≤ α (B9 i 1) ∧ α (B9 i 1) ≤ 60) (hg : 1 ≤ α (B9 i 2) ∧ α (B9 i 2) ≤ 20) (ht : 0 ≤ st ∧ st ≤ 100) (h4 : 0 ≤ α 4 ∧ α 4 ≤ 40) : Wp (d + 2) 243 0 [some (.ref 294), some (.int (Int32.ofInt (i : Int))), some (.int (Int32.ofInt st)), none, none] [] (mk N t w I (sR L w (r64 α)) D) Q = Q (.inl none) (mk N t w I (sR L w (r64 (boA α i st))) D) := by
  have h1 := stA_b hs ht
  have h2 := bsA_b hs ht
  have h3 := mulb (a := α (B9 i 2)) (b := α (B9 i 1) - bsA (α (B9 i 1)) st) (A := 20) (B := 120) (by omega) (by omega)
  simp only [w243_0, w243_1, w243_2, w243_5, w243_6, w243_7, w243_8, w243_11, w243_13, w243_14, w243_15, w243_16, w243_18, w243_19, w243_22, w243_23, w243_24, w243_26, w243_29, w243_30, w243_31, w243_34, w243_35, w243_38, w243_39, w243_40, w243_41, w243_42, w243_43, w243_44, w243_47, w243_48, w243_50, w243_51, w243_52, w243_53, w243_54, w243_55, w243_56, w243_57, w243_58, w243_59, w243_60, w243_63, w243_66, kn_s, kn_n, zh_mk, zR_mk, zI_mk, zL_mk, zD_mk, wI_mk, wL_mk, wD_mk, zT_mk, zC_mk, kill_i, kill_r, kill_0, kill_n, kill_l, kill_q, zzk_r, zzk_0, zzk_q, zcat_r, zcat_i, zcat_0, cats_0, cats_i, cats_r, cats_l, cats_d, cats_f, rv_s, rv_0, Nat.reduceAdd, Nat.reduceLeDiff, Nat.add_zero, Nat.reduceMul, Nat.reduceSub, ne_eq, not_false_eq_true, not_true_eq_false, and_self, and_true, true_and, or_self, or_true, true_or, or_false, false_or, if_true, if_false, reduceIte, reduceCtorEq, implies_true, ite_self, ite_not, kM, kMr, kRow hw, sR_at, up2_r64, r64_at, o_add, o_sub, o_mul, o_neg, q_add, q_sub, q_mul, q_neg, o_32, cast_s, Int.toNat_natCast, ixc0, ixc1, ixc2, ixc3, ixc4, ixc5, ixc6, ixc7, ixc8, ixc9, ixc10, ixc11, ixc12, ixc13, ixc14, ixc15, ixc218, ixc219, ixc220, ixc221, tnc0, tnc1, tnc2, tnc3, tnc4, tnc5, tnc6, tnc7, tnc8, tnc9, tnc10, tnc11, tnc12, tnc13, tnc14, tnc15, tnc218, tnc219, tnc220, tnc221, up2_at, up1_at, Nat.reduceEqDiff, and_false, false_and, B9_s, B9_l (show 0 < 28 by omega), B9_l (show 1 < 28 by omega), B9_l (show 3 < 28 by omega), B9_l (show 4 < 28 by omega), B9_l (show 5 < 28 by omega), B9_l (show 6 < 28 by omega), B9_l (show 12 < 28 by omega), B9_l (show 13 < 28 by omega), B9_l (show 14 < 28 by omega), B9_l (show 15 < 28 by omega), B9_r (show 3 < 28 by omega), B9_r (show 4 < 28 by omega), B9_r (show 5 < 28 by omega), B9_r (show 6 < 28 by omega), B9_r (show 12 < 28 by omega), B9_r (show 13 < 28 by omega), B9_r (show 14 < 28 by omega), B9_r (show 15 < 28 by omega), c194 hw hi, c227 hs ht, c228 hs ht, c187_1 hw hi, c237_6 hw hi, c238_1 hw, c177_2 hw hi, o_64 (z := bsA (α (B9 i 1)) st) (by omega), o_64 (z := α (B9 i 2) * (α (B9 i 1) - bsA (α (B9 i 1)) st)) (by omega)]
  rw [c241 hw (by omega) (by omega) (by omega) (by simp only [up2_at, up1_at, Nat.reduceEqDiff, and_false, false_and, B9_s, B9_l (show 0 < 28 by omega), B9_l (show 1 < 28 by omega), B9_l (show 3 < 28 by omega), B9_l (show 4 < 28 by omega), B9_l (show 5 < 28 by omega), B9_l (show 6 < 28 by omega), B9_l (show 12 < 28 by omega), B9_l (show 13 < 28 by omega), B9_l (show 14 < 28 by omega), B9_l (show 15 < 28 by omega), B9_r (show 3 < 28 by omega), B9_r (show 4 < 28 by omega), B9_r (show 5 < 28 by omega), B9_r (show 6 < 28 by omega), B9_r (show 12 < 28 by omega), B9_r (show 13 < 28 by omega), B9_r (show 14 < 28 by omega), B9_r (show 15 < 28 by omega), kn_s, kn_n, zh_mk, zR_mk, zI_mk, zL_mk, zD_mk, wI_mk, wL_mk, wD_mk, zT_mk, zC_mk, kill_i, kill_r, kill_0, kill_n, kill_l, kill_q, zzk_r, zzk_0, zzk_q, zcat_r, zcat_i, zcat_0, cats_0, cats_i, cats_r, cats_l, cats_d, cats_f, rv_s, rv_0, Nat.reduceAdd, Nat.reduceLeDiff, Nat.add_zero, Nat.reduceMul, Nat.reduceSub, ne_eq, not_false_eq_true, not_true_eq_false, and_self, and_true, true_and, or_self, or_true, true_or, or_false, false_or, if_true, if_false, reduceIte, reduceCtorEq, implies_true, ite_self, ite_not]; exact h4)]
  simp only [w243_0, w243_1, w243_2, w243_5, w243_6, w243_7, w243_8, w243_11, w243_13, w243_14, w243_15, w243_16, w243_18, w243_19, w243_22, w243_23, w243_24, w243_26, w243_29, w243_30, w243_31, w243_34, w243_35, w243_38, w243_39, w243_40, w243_41, w243_42, w243_43, w243_44, w243_47, w243_48, w243_50, w243_51, w243_52, w243_53, w243_54, w243_55, w243_56, w243_57, w243_58, w243_59, w243_60, w243_63, w243_66, kn_s, kn_n, zh_mk, zR_mk, zI_mk, zL_mk, zD_mk, wI_mk, wL_mk, wD_mk, zT_mk, zC_mk, kill_i, kill_r, kill_0, kill_n, kill_l, kill_q, zzk_r, zzk_0, zzk_q, zcat_r, zcat_i, zcat_0, cats_0, cats_i, cats_r, cats_l, cats_d, cats_f, rv_s, rv_0, Nat.reduceAdd, Nat.reduceLeDiff, Nat.add_zero, Nat.reduceMul, Nat.reduceSub, ne_eq, not_false_eq_true, not_true_eq_false, and_self, and_true, true_and, or_self, or_true, true_or, or_false, false_or, if_true, if_false, reduceIte, reduceCtorEq, implies_true, ite_self, ite_not]
  rfl
end S25
