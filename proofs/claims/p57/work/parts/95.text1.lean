/-! THE TEXT, 1: StringBuilder's memory; room for more -/
def tx (T : List Int) : Nat → Int32 := fun j => Int32.ofInt (T.getD j 0)
def asc (T : List Int) : Prop := ∀ x ∈ T, 0 ≤ x ∧ x < 128
/-- the builder B with its array v of cap bytes; its text T -/
def SB (N : NX) (w : WX) (I : Nat → Nat → Int32) (B v cap : Nat) (T : List Int) : Prop :=
  KH N B = (10, 0) ∧ KH N v = (13, cap) ∧ (294 ≤ B ∧ B < N.2.1) ∧ (294 ≤ v ∧ v < N.2.1) ∧ B ≠ v ∧ w B 0 = v + 1 ∧ I B 1 = Int32.ofInt 0 ∧ I B 3 = Int32.ofInt (T.length : Int) ∧ I v = tx T ∧ T.length ≤ cap ∧ cap ≤ 700 ∧ asc T ∧ T.length ≤ 300
/-- above all objects there is nothing -/
def ZA (N : NX) (w : WX) (I : Nat → Nat → Int32) : Prop := ∀ a, N.2.1 ≤ a → ∀ j, I a j = Int32.ofInt 0 ∧ w a j = 0
/-- k objects of s slots at most are made, and nothing old is touched but B and its array v; v' is its array then -/
def GO (B v k s : Nat) (N : NX) (w : WX) (I : Nat → Nat → Int32) (N' : NX) (w' : WX) (I' : Nat → Nat → Int32) (v' : Nat) : Prop :=
  N'.1 = N.1 ∧ N.2.1 ≤ N'.2.1 ∧ N'.2.1 ≤ N.2.1 + k ∧ N'.2.2.1 ≤ N.2.2.1 + s ∧ (∀ a, a < N.2.1 → KH N' a = KH N a) ∧ (∀ a, a < N.2.1 → a ≠ B → a ≠ v → I' a = I a ∧ w' a = w a) ∧ (v' = v ∨ N.2.1 ≤ v') ∧ ZA N' w' I'
theorem GO.refl {B v k s : Nat} {N : NX} {w : WX} {I : Nat → Nat → Int32} (h : ZA N w I) : GO B v k s N w I N w I v :=
  ⟨rfl, Nat.le_refl _, Nat.le_add_right _ _, Nat.le_add_right _ _, fun _ _ => rfl, fun _ _ _ _ => ⟨rfl, rfl⟩, Or.inl rfl, h⟩
theorem GO.trans {B v v' v2 k s k' s' k2 s2 : Nat} {N N' N2 : NX} {w w' w2 : WX} {I I' I2 : Nat → Nat → Int32} (h : GO B v k s N w I N' w' I' v') (g : GO B v' k' s' N' w' I' N2 w2 I2 v2) (hk : k + k' ≤ k2) (hs : s + s' ≤ s2) : GO B v k2 s2 N w I N2 w2 I2 v2 := by
  obtain ⟨a1, a2, a3, a4, a5, a6, a7, a8⟩ := h
  obtain ⟨b1, b2, b3, b4, b5, b6, b7, b8⟩ := g
  refine ⟨b1.trans a1, by omega, by omega, by omega, fun a h => (b5 a (by omega)).trans (a5 a h), fun a h h1 h2 => ?_, by omega, b8⟩
  have q1 := a6 a h h1 h2
  have q2 := b6 a (by omega) h1 (by omega)
  exact ⟨q2.1.trans q1.1, q2.2.trans q1.2⟩
theorem tx_nil : tx [] = fun _ => Int32.ofInt 0 := by
  funext j
  unfold tx
  rfl
theorem fits_b {x : Int} (h : 0 ≤ x ∧ x < 128) : fits .byte (.int (Int32.ofInt x)) = true := by
  obtain ⟨k, rfl⟩ : ∃ k : Nat, x = (k : Int) := ⟨x.toNat, by omega⟩
  have : ∀ k : Nat, k < 128 → fits .byte (.int (Int32.ofInt ((k : Nat) : Int))) = true := by decide +kernel
  exact this k (by omega)
theorem asc_at {T : List Int} (h : asc T) (j : Nat) : 0 ≤ T.getD j 0 ∧ T.getD j 0 < 128 := by
  rw [List.getD_eq_getElem?_getD]
  rcases Nat.lt_or_ge j T.length with h1 | h1
  · rw [List.getElem?_eq_getElem h1]
    exact h _ (List.getElem_mem _)
  · rw [List.getElem?_eq_none h1]
    exact ⟨by decide, by decide⟩
theorem bts_tx {T : List Int} (h : asc T) (p n : Nat) : bts (tx T) p n = true := by
  unfold bts
  rw [List.all_eq_true]
  intro i _
  exact fits_b (asc_at h _)
theorem tx_big {T : List Int} {j : Nat} (h : T.length ≤ j) : tx T j = Int32.ofInt 0 := by
  unfold tx
  rw [List.getD_eq_getElem?_getD, List.getElem?_eq_none h]
  rfl
theorem sr0 {x : Int32} : x >>> (Int32.ofInt 0 &&& 31) = x := by
  rw [show Int32.ofInt 0 &&& 31 = (0 : Int32) from by decide]
  exact Int32.shiftRight_zero
theorem sl0 {x : Int32} : x <<< (Int32.ofInt 0 &&& 31) = x := by
  rw [show Int32.ofInt 0 &&& 31 = (0 : Int32) from by decide]
  exact Int32.shiftLeft_zero
theorem o_ofN {n : Nat} : Int32.ofNat n = Int32.ofInt (n : Int) := rfl
theorem zI_m1 {N : NX} {w : WX} {t a : Nat} {I : Nat → Nat → Int32} {L : Nat → Nat → Int64} {D : Nat → Nat → UInt64} : zI (mk N t w I L D) a = I a := nr rfl
theorem z00 : (Int32.ofInt 0 ≤ Int32.ofInt 0) = True := by decide
theorem t00 : (Int32.ofInt 0).toNatClampNeg = 0 := by decide
section S95
variable {N : NX} {w : WX} {d t B v cap : Nat} {T : List Int} {I : Nat → Nat → Int32} {L : Nat → Nat → Int64} {D : Nat → Nat → UInt64} {Q : Rs → St → Prop}
theorem c187 {a b c : Int} {σ : St} (h : 0 ≤ a ∧ a ≤ 1000 ∧ 0 ≤ b ∧ b ≤ 1000 ∧ 0 ≤ c ∧ 0 < c ∧ c ≤ 2000) : Wp d 187 0 [some (.int (Int32.ofInt a)), some (.int (Int32.ofInt b)), some (.int (Int32.ofInt c)), none] [] σ Q = Q (.inl (some (.int (Int32.ofInt (a + if b < c then c else b))))) σ := by
  simp only [w187_0, w187_1, w187_2, w187_3, w187_6, w187_7, w187_8, w187_9, w187_10, w187_13, w187_14, w187_16, w187_19, w187_20, w187_21, w187_22, w187_26, kn_s, kn_n, zh_mk, zR_mk, zI_mk, zL_mk, zD_mk, wI_mk, wL_mk, wD_mk, zT_mk, zC_mk, kill_i, kill_r, kill_0, kill_n, kill_l, kill_q, zzk_r, zzk_0, zzk_q, zcat_r, zcat_i, zcat_0, zcat_q, cats_0, cats_i, cats_r, cats_l, cats_d, cats_f, cats_q, cats_n, rv_s, rv_0, Nat.reduceAdd, Nat.reduceLeDiff, Nat.reduceEqDiff, Nat.add_zero, Nat.reduceMul, Nat.reduceSub, ne_eq, not_false_eq_true, not_true_eq_false, and_self, and_true, true_and, or_self, or_true, true_or, or_false, false_or, if_true, if_false, reduceIte, reduceCtorEq, implies_true, ite_self, ite_not, o_add, o_sub, o_mul, o_neg, q_add, q_sub, q_mul, q_neg, o_32, cast_s, o_lt (a := b) (b := c) (by omega)]
  by_cases hb : b < c
  · have g1 : 0 < a + c := by omega
    have g2 : ¬ (2147483639 < a + c) := by omega
    simp only [hb, if_true, o_add, o_lt (a := 0) (b := a + c) (by omega), o_lt (a := 2147483639) (b := a + c) (by omega), g1, g2, if_false]
  · have g1 : 0 < a + b := by omega
    have g2 : ¬ (2147483639 < a + b) := by omega
    simp only [hb, if_false, o_add, o_lt (a := 0) (b := a + b) (by omega), o_lt (a := 2147483639) (b := a + b) (by omega), g1, g2, if_true]
/-- the capacity behind a growth -/
def gcap (cap m : Nat) : Nat := if m - cap < cap + 2 then 2 * cap + 2 else m
theorem c171 {m : Nat} (hS : SB N w I B v cap T) (hm : cap < m ∧ m ≤ 300) : Wp (d + 1) 171 0 [some (.ref B), some (.int (Int32.ofInt (m : Int))), none, none, none, none] [] (mk N t w I L D) Q = Q (.inl (some (.int (Int32.ofInt (gcap cap m : Int))))) (mk N t w I L D) := by
  obtain ⟨s1, s2, s3, s4, s5, s6, s7, s8, s9, s10, s11, s12, s13⟩ := hS
  have r0 : KR w B 0 = v + 1 := by
    unfold KR
    rw [if_neg (by omega)]
    exact s6
  have e : (cap : Int) + (if (m : Int) - cap < (cap : Int) + 2 then (cap : Int) + 2 else (m : Int) - cap) = (gcap cap m : Int) := by
    unfold gcap
    by_cases h : m - cap < cap + 2
    · rw [if_pos h, if_pos (by omega)]
      omega
    · rw [if_neg h, if_neg (by omega)]
      omega
  have hg : gcap cap m ≤ 1500 := by
    unfold gcap
    split <;> omega
  have g : ¬ ((gcap cap m : Int) = 2147483647) := by omega
  simp only [w171_0, w171_1, w171_4, w171_4q, w171_5, w171_6, w171_7, w171_8, w171_11, w171_12, w171_13, w171_14, w171_15, w171_16, w171_18, w171_19, w171_21, w171_22, w171_23, w171_24, w171_27, w171_28, w171_29, w171_32, w171_34, w171_36, w171_38, w171_44, w171_51, w171_53, w171_54, w171_57, w171_58, kn_s, kn_n, zh_mk, zR_mk, zI_mk, zL_mk, zD_mk, wI_mk, wL_mk, wD_mk, zT_mk, zC_mk, kill_i, kill_r, kill_0, kill_n, kill_l, kill_q, zzk_r, zzk_0, zzk_q, zcat_r, zcat_i, zcat_0, zcat_q, cats_0, cats_i, cats_r, cats_l, cats_d, cats_f, cats_q, cats_n, rv_s, rv_0, Nat.reduceAdd, Nat.reduceLeDiff, Nat.reduceEqDiff, Nat.add_zero, Nat.reduceMul, Nat.reduceSub, ne_eq, not_false_eq_true, not_true_eq_false, and_self, and_true, true_and, or_self, or_true, true_or, or_false, false_or, if_true, if_false, reduceIte, reduceCtorEq, implies_true, ite_self, ite_not, o_add, o_sub, o_mul, o_neg, q_add, q_sub, q_mul, q_neg, o_32, cast_s, s1, s2, r0, s7, sl0, sr0, o_ofN, c187 (a := (cap : Int)) (b := (m : Int) - cap) (c := (cap : Int) + 2) (by omega), e, o_eq (a := (gcap cap m : Int)) (b := 2147483647) (by omega), g]
theorem kR {a k : Nat} (h : 294 ≤ a) : KR w a k = w a k := by
  unfold KR
  rw [if_neg (by omega)]
/-- room for m bytes -/
theorem c170 {m : Nat} (hS : SB N w I B v cap T) (hZ : ZA N w I) (hm : T.length ≤ m ∧ m ≤ 300) (hN : N.2.1 < 90000)
    (K : ∀ N' w' I' v' cap', SB N' w' I' B v' cap' T → m ≤ cap' → GO B v 1 700 N w I N' w' I' v' → Q (.inl none) (mk N' t w' I' L D)) : Wp (d + 2) 170 0 [some (.ref B), some (.int (Int32.ofInt (m : Int))), none] [] (mk N t w I L D) Q := by
  have hS0 := hS
  obtain ⟨s1, s2, s3, s4, s5, s6, s7, s8, s9, s10, s11, s12, s13⟩ := hS
  by_cases hc : m ≤ cap
  · have g : ¬ ((0 : Int) < (m : Int) - cap) := by omega
    simp only [w170_0, w170_1, w170_4, w170_4q, w170_5, w170_6, w170_9, w170_10, w170_11, w170_12, w170_13, w170_14, w170_17, w170_18, w170_19, w170_22, w170_23, w170_24, w170_27, w170_28, w170_31, w170_32, w170_35, w170_38, kn_s, kn_n, zh_mk, zR_mk, zI_mk, zL_mk, zD_mk, wI_mk, wL_mk, wD_mk, zT_mk, zC_mk, kill_i, kill_r, kill_0, kill_n, kill_l, kill_q, zzk_r, zzk_0, zzk_q, zcat_r, zcat_i, zcat_0, zcat_q, cats_0, cats_i, cats_r, cats_l, cats_d, cats_f, cats_q, cats_n, rv_s, rv_0, Nat.reduceAdd, Nat.reduceLeDiff, Nat.reduceEqDiff, Nat.add_zero, Nat.reduceMul, Nat.reduceSub, ne_eq, not_false_eq_true, not_true_eq_false, and_self, and_true, true_and, or_self, or_true, true_or, or_false, false_or, if_true, if_false, reduceIte, reduceCtorEq, implies_true, ite_self, ite_not, o_add, o_sub, o_mul, o_neg, q_add, q_sub, q_mul, q_neg, o_32, cast_s, s1, s2, kR s3.1, s6, s7, sl0, sr0, o_ofN, o_lt (a := 0) (b := (m : Int) - cap) (by omega), g]
    exact K N w I v cap hS0 hc (GO.refl hZ)
  · have g : (0 : Int) < (m : Int) - cap := by omega
    have hg : cap < gcap cap m ∧ m ≤ gcap cap m ∧ gcap cap m ≤ 700 := by
      unfold gcap
      split <;> omega
    have g2 : ¬ ((gcap cap m : Int) = cap) := by omega
    have g3 : (cap : Int) < gcap cap m := by omega
    have hN0 : 294 ≤ N.2.1 := by omega
    have hKB : N.2.1 < KB := by show N.2.1 < 100000; omega
    have z0 : (Int32.ofInt 0 ≤ Int32.ofInt (gcap cap m : Int)) = True := eq_true ((o_le (by omega)).mpr (by omega))
    simp only [w170_0, w170_1, w170_4, w170_4q, w170_5, w170_6, w170_9, w170_10, w170_11, w170_12, w170_13, w170_14, w170_17, w170_18, w170_19, w170_22, w170_23, w170_24, w170_27, w170_28, w170_31, w170_32, w170_35, w170_38, kn_s, kn_n, zh_mk, zR_mk, zI_mk, zL_mk, zD_mk, wI_mk, wL_mk, wD_mk, zT_mk, zC_mk, kill_i, kill_r, kill_0, kill_n, kill_l, kill_q, zzk_r, zzk_0, zzk_q, zcat_r, zcat_i, zcat_0, zcat_q, cats_0, cats_i, cats_r, cats_l, cats_d, cats_f, cats_q, cats_n, rv_s, rv_0, Nat.reduceAdd, Nat.reduceLeDiff, Nat.reduceEqDiff, Nat.add_zero, Nat.reduceMul, Nat.reduceSub, ne_eq, not_false_eq_true, not_true_eq_false, and_self, and_true, true_and, or_self, or_true, true_or, or_false, false_or, if_true, if_false, reduceIte, reduceCtorEq, implies_true, ite_self, ite_not, o_add, o_sub, o_mul, o_neg, q_add, q_sub, q_mul, q_neg, o_32, cast_s, s1, s2, kR s3.1, s6, s7, sl0, sr0, o_ofN, o_lt (a := 0) (b := (m : Int) - cap) (by omega), g, c171 hS0 (m := m) (by omega)]
    have k1 : KH (nwN N (13, gcap cap m) (gcap cap m)) v = (13, cap) := (KH_old (by omega)).trans s2
    have k2 : KH (nwN N (13, gcap cap m) (gcap cap m)) N.2.1 = (13, gcap cap m) := KH_new hN0
    have k3 : KH (nwN N (13, gcap cap m) (gcap cap m)) B = (10, 0) := (KH_old (by omega)).trans s1
    have hb : bts (I v) 0 cap = true := by rw [s9]; exact bts_tx s12 0 cap
    have g4 : ¬ ((gcap cap m : Int) < cap) := by omega
    have hne : v ≠ N.2.1 := by omega
    simp only [w183_0, w183_1, w183_2, w183_2q, w183_3, w183_6, w183_7, w183_10, w183_13, w183_14, w183_15, w183_17, w183_18, w183_19, w183_20, w183_21, w183_22, w183_23, w183_23q, w183_24, w183_25, w183_28, w183_28q, w183_31, w183_32, kn_s, kn_n, zh_mk, zR_mk, zI_mk, zL_mk, zD_mk, wI_mk, wL_mk, wD_mk, zT_mk, zC_mk, kill_i, kill_r, kill_0, kill_n, kill_l, kill_q, zzk_r, zzk_0, zzk_q, zcat_r, zcat_i, zcat_0, zcat_q, cats_0, cats_i, cats_r, cats_l, cats_d, cats_f, cats_q, cats_n, rv_s, rv_0, Nat.reduceAdd, Nat.reduceLeDiff, Nat.reduceEqDiff, Nat.add_zero, Nat.reduceMul, Nat.reduceSub, ne_eq, not_false_eq_true, not_true_eq_false, and_self, and_true, true_and, or_self, or_true, true_or, or_false, false_or, if_true, if_false, reduceIte, reduceCtorEq, implies_true, ite_self, ite_not, o_add, o_sub, o_mul, o_neg, q_add, q_sub, q_mul, q_neg, o_32, cast_s, s2, o_ofN, o_eq (a := (gcap cap m : Int)) (b := (cap : Int)) (by omega), g2, z0, z00, t00, o_tnn (j := gcap cap m) (by omega), o_tnn (j := cap) (by omega), show gcap cap m ≤ 4000 by omega, zn_mk, hKB, zNew_mk hN0, k1, k2, k3, hb, o_lt (a := (gcap cap m : Int)) (b := (cap : Int)) (by omega), g4, o_le (a := 0) (b := (cap : Int)) (by omega), show (0 : Int) ≤ (cap : Int) by omega, Nat.zero_add, Nat.le_refl, show cap ≤ gcap cap m by omega, hne, zI_m1, w170_0, w170_1, w170_4, w170_4q, w170_5, w170_6, w170_9, w170_10, w170_11, w170_12, w170_13, w170_17, w170_18, w170_19, w170_22, w170_23, w170_24, w170_27, w170_28, w170_31, w170_32, w170_35, w170_38, wR_mk s3.1]
    refine K _ _ _ N.2.1 (gcap cap m) ⟨k3, k2, ⟨s3.1, Nat.lt_succ_of_lt s3.2⟩, ⟨hN0, Nat.lt_succ_self _⟩, by omega, ?_, ?_, ?_, ?_, by omega, by omega, s12, s13⟩ hg.2.1 ⟨rfl, Nat.le_succ _, Nat.le_refl _, ?_, fun a h => KH_old (by omega), fun a h h1 h2 => ⟨?_, ?_⟩, Or.inr (Nat.le_refl _), fun a h j => ⟨?_, ?_⟩⟩
    · exact up2_same
    · show (if B = N.2.1 then _ else I B 1) = _
      rw [if_neg (by omega)]
      exact s7
    · show (if B = N.2.1 then _ else I B 3) = _
      rw [if_neg (by omega)]
      exact s8
    · funext j
      show (if N.2.1 = N.2.1 then va_cpy (I v) (I N.2.1) 0 0 cap j else I N.2.1 j) = _
      rw [if_pos rfl]
      unfold va_cpy
      by_cases hj : 0 ≤ j ∧ j < 0 + cap
      · rw [if_pos hj, s9, show 0 + (j - 0) = j by omega]
      · rw [if_neg hj, tx_big (by omega)]
        exact (hZ _ (Nat.le_refl _) j).1
    · show N.2.2.1 + gcap cap m ≤ N.2.2.1 + 700
      omega
    · funext j
      show (if a = N.2.1 then _ else I a j) = _
      rw [if_neg (by omega)]
    · funext j
      unfold up2
      rw [if_neg (by omega)]
    · have h' : N.2.1 + 1 ≤ a := h
      show (if a = N.2.1 then _ else I a j) = _
      rw [if_neg (by omega)]
      exact (hZ a (by omega) j).1
    · have h' : N.2.1 + 1 ≤ a := h
      unfold up2
      rw [if_neg (by omega)]
      exact (hZ a (by omega) j).2
end S95
