/-! THE TEXT, 2: a constant String or a sign is appended -/
def kT (i : Nat) : List Int := [[98, 111, 120, 32], [32, 115, 116, 101, 97, 108, 32], [32], [59], [112, 111, 115, 116, 32], [98, 97, 108, 108, 32, 98], [32, 97, 116, 32], [32, 115, 112, 101, 101, 100, 32], [32, 119, 101, 105, 103, 104, 116, 32]].getD i []
theorem kT_l : ∀ i, i < 9 → kle (i + 9) = (kT i).length ∧ (kT i).length ≤ 8 := by decide
theorem kT_f : ∀ i, i < 9 → ∀ j, j < 8 → j < (kT i).length → kfn (i + 9) j = Int32.ofInt ((kT i).getD j 0) := by decide +kernel
theorem kT_a : ∀ i, i < 9 → ∀ x ∈ kT i, 0 ≤ x ∧ x < 128 := by decide
theorem bts_k {i : Nat} (hi : i < 9) : bts (kfn (i + 9)) 0 (kT i).length = true := by
  have : ∀ i, i < 9 → bts (kfn (i + 9)) 0 (kT i).length = true := by decide +kernel
  exact this i hi
theorem tx_app {T s : List Int} {f : Nat → Int32} (h : ∀ j, j < s.length → f j = Int32.ofInt (s.getD j 0)) : va_cpy f (tx T) 0 T.length s.length = tx (T ++ s) := by
  funext j
  unfold va_cpy tx
  by_cases hj : T.length ≤ j ∧ j < T.length + s.length
  · rw [if_pos hj, h _ (by omega), List.getD_eq_getElem?_getD, List.getD_eq_getElem?_getD, List.getElem?_append_right hj.1, show 0 + (j - T.length) = j - T.length by omega]
  · rw [if_neg hj]
    rcases Nat.lt_or_ge j T.length with h1 | h1
    · rw [List.getD_eq_getElem?_getD, List.getD_eq_getElem?_getD, List.getElem?_append_left h1]
    · rw [List.getD_eq_getElem?_getD, List.getD_eq_getElem?_getD, List.getElem?_eq_none h1, List.getElem?_eq_none (by rw [List.length_append]; omega)]
theorem asc_app {T s : List Int} (h : asc T) (h2 : asc s) : asc (T ++ s) := fun x hx => (List.mem_append.mp hx).elim (h x) (h2 x)
section S96
variable {N : NX} {w : WX} {d t B v cap : Nat} {T : List Int} {I : Nat → Nat → Int32} {L : Nat → Nat → Int64} {D : Nat → Nat → UInt64} {Q : Rs → St → Prop}
theorem c189q {q : Nat} {σ : St} (hq : 1 ≤ q ∧ q ≤ 9) : Wp d 189 0 [some (.retAddr q)] [] σ Q = Q (.inl (some (.int (Int32.ofInt 0)))) σ := by
  simp only [w189_0, w189_3, w189_6, w189_7, w189_7k, w189_7q, w189_10, w189_13, w189_14, kn_s, kn_n, zh_mk, zR_mk, zI_mk, zL_mk, zD_mk, wI_mk, wL_mk, wD_mk, zT_mk, zC_mk, kill_i, kill_r, kill_0, kill_n, kill_l, kill_q, zzk_r, zzk_0, zzk_q, zcat_r, zcat_i, zcat_0, zcat_q, cats_0, cats_i, cats_r, cats_l, cats_d, cats_f, cats_q, cats_n, rv_s, rv_0, Nat.reduceAdd, Nat.reduceLeDiff, Nat.reduceEqDiff, Nat.add_zero, Nat.reduceMul, Nat.reduceSub, ne_eq, not_false_eq_true, not_true_eq_false, and_self, and_true, true_and, or_self, or_true, true_or, or_false, false_or, if_true, if_false, reduceIte, reduceCtorEq, implies_true, ite_self, ite_not, hq, i10, nb0]
theorem c188q {i : Nat} {σ : St} (hi : i < 9) : Wp (d + 1) 188 0 [some (.retAddr (i + 1))] [] σ Q = Q (.inl (some (.int (Int32.ofInt ((kT i).length : Int))))) σ := by
  have h1 : 1 ≤ i + 1 ∧ i + 1 ≤ 9 := by omega
  have h2 : 10 ≤ i + 1 + 9 ∧ i + 1 + 9 ≤ 20 := by omega
  simp only [w188_0, w188_1, w188_1k, w188_1q, w188_4, w188_4q, w188_5, w188_6, w188_6q, w188_9, w188_10, kn_s, kn_n, zh_mk, zR_mk, zI_mk, zL_mk, zD_mk, wI_mk, wL_mk, wD_mk, zT_mk, zC_mk, kill_i, kill_r, kill_0, kill_n, kill_l, kill_q, zzk_r, zzk_0, zzk_q, zcat_r, zcat_i, zcat_0, zcat_q, cats_0, cats_i, cats_r, cats_l, cats_d, cats_f, cats_q, cats_n, rv_s, rv_0, Nat.reduceAdd, Nat.reduceLeDiff, Nat.reduceEqDiff, Nat.add_zero, Nat.reduceMul, Nat.reduceSub, ne_eq, not_false_eq_true, not_true_eq_false, and_self, and_true, true_and, or_self, or_true, true_or, or_false, false_or, if_true, if_false, reduceIte, reduceCtorEq, implies_true, ite_self, ite_not, h1, h2, c189q h1, sh0, o_ofN, show i + 1 + 9 - 1 = i + 9 by omega, (kT_l i hi).1]
/-- the builder behind the bytes' copying -/
theorem SB_wr (hS : SB N w I B v cap T) {s : List Int} {f : Nat → Int32} (h : ∀ j, j < s.length → f j = Int32.ofInt (s.getD j 0)) (ha : asc s) (hc : T.length + s.length ≤ cap) (hl : T.length + s.length ≤ 300) :
    SB N w (up2 (cpk I f v 0 T.length s.length) B 3 (Int32.ofInt ((T ++ s).length : Int))) B v cap (T ++ s) := by
  obtain ⟨s1, s2, s3, s4, s5, s6, s7, s8, s9, s10, s11, s12, s13⟩ := hS
  refine ⟨s1, s2, s3, s4, s5, s6, ?_, up2_same, ?_, by rw [List.length_append]; exact hc, s11, asc_app s12 ha, by rw [List.length_append]; exact hl⟩
  · rw [u2_ne (by omega)]
    show (if B = v then _ else I B 1) = _
    rw [if_neg s5]
    exact s7
  · rw [← tx_app h]
    funext j
    rw [u2_ne (by omega)]
    show (if v = v then va_cpy f (I v) 0 T.length s.length j else _) = _
    rw [if_pos rfl, s9]
/-- nothing else is touched -/
theorem GO_wr (hS : SB N w I B v cap T) (hZ : ZA N w I) {k m p n : Nat} {f : Nat → Int32} {x : Int32} : GO B v k m N w I N w (up2 (cpk I f v 0 p n) B 3 x) v := by
  obtain ⟨s1, s2, s3, s4, -⟩ := hS
  refine ⟨rfl, Nat.le_refl _, by omega, by omega, fun _ _ => rfl, fun a h h1 h2 => ⟨?_, rfl⟩, Or.inl rfl, fun a h j => ⟨?_, (hZ a h j).2⟩⟩
  · funext j
    rw [u2_ne (by omega)]
    exact if_neg h2
  · rw [u2_ne (by omega)]
    exact (if_neg (by omega)).trans (hZ a h j).1
theorem c179 {i : Nat} (hS : SB N w I B v cap T) (hi : i < 9) (hc : T.length + (kT i).length ≤ cap) : Wp (d + 1) 179 0 [some (.retAddr (i + 1)), some (.ref v), some (.int (Int32.ofInt (T.length : Int))), some (.int (Int32.ofInt 0))] [] (mk N t w I L D) Q = Q (.inl none) (mk N t w (cpk I (kfn (i + 9)) v 0 T.length (kT i).length) L D) := by
  obtain ⟨s1, s2, s3, s4, s5, s6, s7, s8, s9, s10, s11, s12, s13⟩ := hS
  have h1 : 1 ≤ i + 1 ∧ i + 1 ≤ 9 := by omega
  have h2 : 10 ≤ i + 1 + 9 ∧ i + 1 + 9 ≤ 18 := by omega
  have h3 : 10 ≤ i + 1 + 9 ∧ i + 1 + 9 ≤ 20 := by omega
  have hk := kT_l i hi
  simp only [w179_0, w179_1, w179_1q, w179_4, w179_5, w179_8, w179_9, w179_9k, w179_9q, w179_12, w179_13, w179_14, w179_15, w179_16, w179_17, w179_18, w179_18k, w179_18q, w179_21, w179_21q, w179_22, w179_22q, w179_25, w179_28, w179_29, w179_29k, w179_29q, w179_32, w179_33, w179_34, w179_35, w179_36, w179_36k, w179_36q, w179_39, w179_39q, w179_43, kn_s, kn_n, zh_mk, zR_mk, zI_mk, zL_mk, zD_mk, wI_mk, wL_mk, wD_mk, zT_mk, zC_mk, kill_i, kill_r, kill_0, kill_n, kill_l, kill_q, zzk_r, zzk_0, zzk_q, zcat_r, zcat_i, zcat_0, zcat_q, cats_0, cats_i, cats_r, cats_l, cats_d, cats_f, cats_q, cats_n, rv_s, rv_0, Nat.reduceAdd, Nat.reduceLeDiff, Nat.reduceEqDiff, Nat.add_zero, Nat.reduceMul, Nat.reduceSub, ne_eq, not_false_eq_true, not_true_eq_false, and_self, and_true, true_and, or_self, or_true, true_or, or_false, false_or, if_true, if_false, reduceIte, reduceCtorEq, implies_true, ite_self, ite_not, h1, h2, h3, c189q h1, i00, sl0, o_ofN, show i + 1 + 9 - 1 = i + 9 by omega, hk.1, s2, bts_k hi, z00, t00, o_tnn (j := T.length) (by omega), o_tnn (j := (kT i).length) (by omega), o_le (a := 0) (b := (T.length : Int)) (by omega), o_le (a := 0) (b := ((kT i).length : Int)) (by omega), show (0 : Int) ≤ (T.length : Int) by omega, show (0 : Int) ≤ ((kT i).length : Int) by omega, Nat.zero_add, Nat.le_refl, hc, zCk_mk]
theorem c172 {i : Nat} (hS : SB N w I B v cap T) (hi : i < 9) (hc : T.length + (kT i).length ≤ cap) : Wp (d + 2) 172 0 [some (.ref B), some (.int (Int32.ofInt (T.length : Int))), some (.retAddr (i + 1))] [] (mk N t w I L D) Q = Q (.inl none) (mk N t w (cpk I (kfn (i + 9)) v 0 T.length (kT i).length) L D) := by
  have hS0 := hS
  obtain ⟨s1, s2, s3, s4, s5, s6, s7, s8, s9, s10, s11, s12, s13⟩ := hS
  have h1 : 1 ≤ i + 1 ∧ i + 1 ≤ 9 := by omega
  simp only [w172_0, w172_1, w172_2, w172_2q, w172_5, w172_6, w172_7, w172_10, w172_11, w172_12, w172_15, w172_15q, w172_18, w173_0, w173_3, w173_6, w173_7, w173_10, w173_11, w173_11q, w173_14, w173_17, w173_21, kn_s, kn_n, zh_mk, zR_mk, zI_mk, zL_mk, zD_mk, wI_mk, wL_mk, wD_mk, zT_mk, zC_mk, kill_i, kill_r, kill_0, kill_n, kill_l, kill_q, zzk_r, zzk_0, zzk_q, zcat_r, zcat_i, zcat_0, zcat_q, cats_0, cats_i, cats_r, cats_l, cats_d, cats_f, cats_q, cats_n, rv_s, rv_0, Nat.reduceAdd, Nat.reduceLeDiff, Nat.reduceEqDiff, Nat.add_zero, Nat.reduceMul, Nat.reduceSub, ne_eq, not_false_eq_true, not_true_eq_false, and_self, and_true, true_and, or_self, or_true, true_or, or_false, false_or, if_true, if_false, reduceIte, reduceCtorEq, implies_true, ite_self, ite_not, s1, s7, kR s3.1, s6, h1, i10, i00, c189q h1, c179 hS0 hi hc]
theorem c169 {i : Nat} (hS : SB N w I B v cap T) (hZ : ZA N w I) (hi : i < 9) (hl : T.length + (kT i).length ≤ 300) (hN : N.2.1 < 90000)
    (K : ∀ N' w' I' v' cap', SB N' w' I' B v' cap' (T ++ kT i) → GO B v 1 700 N w I N' w' I' v' → Q (.inl (some (.ref B))) (mk N' t w' I' L D)) : Wp (d + 3) 169 0 [some (.ref B), some (.retAddr (i + 1)), none] [] (mk N t w I L D) Q := by
  have hS0 := hS
  obtain ⟨s1, s2, s3, s4, s5, s6, s7, s8, s9, s10, s11, s12, s13⟩ := hS
  have h1 : 1 ≤ i + 1 ∧ i + 1 ≤ 9 := by omega
  have e : (T.length : Int) + ((kT i).length : Int) = ((T.length + (kT i).length : Nat) : Int) := by omega
  simp only [w169_0, w169_1, w169_1r, w169_1q, w169_4, w169_8, w169_8n, w169_9, w169_10, w169_10q, w169_13, w169_14, w169_15, w169_16, w169_19, w169_20, w169_21, w169_24, w169_25, w169_26, w169_29, w169_30, w169_30q, w169_33, w169_34, w169_35, w169_38, w169_39, w169_40, w169_43, w169_44, w169_44n, kn_s, kn_n, zh_mk, zR_mk, zI_mk, zL_mk, zD_mk, wI_mk, wL_mk, wD_mk, zT_mk, zC_mk, kill_i, kill_r, kill_0, kill_n, kill_l, kill_q, zzk_r, zzk_0, zzk_q, zcat_r, zcat_i, zcat_0, zcat_q, cats_0, cats_i, cats_r, cats_l, cats_d, cats_f, cats_q, cats_n, rv_s, rv_0, Nat.reduceAdd, Nat.reduceLeDiff, Nat.reduceEqDiff, Nat.add_zero, Nat.reduceMul, Nat.reduceSub, ne_eq, not_false_eq_true, not_true_eq_false, and_self, and_true, true_and, or_self, or_true, true_or, or_false, false_or, if_true, if_false, reduceIte, reduceCtorEq, implies_true, ite_self, ite_not, o_add, o_sub, o_mul, o_neg, q_add, q_sub, q_mul, q_neg, o_32, cast_s, s1, s8, h1, c188q hi, e]
  refine c170 hS0 hZ (m := T.length + (kT i).length) (by omega) hN fun N' w' I' v' cap' hS' hc hG => ?_
  have hS2 := hS'
  obtain ⟨s1, s2, s3, s4, s5, s6, s7, s8, s9, s10, s11, s12, s13⟩ := hS'
  have e8 : (cpk I' (kfn (i + 9)) v' 0 T.length (kT i).length) B 3 = Int32.ofInt (T.length : Int) := (if_neg s5).trans s8
  simp only [w169_0, w169_1, w169_1r, w169_1q, w169_4, w169_8, w169_8n, w169_9, w169_10, w169_10q, w169_13, w169_14, w169_15, w169_16, w169_19, w169_20, w169_21, w169_24, w169_25, w169_26, w169_29, w169_30, w169_30q, w169_33, w169_34, w169_35, w169_38, w169_39, w169_40, w169_43, w169_44, w169_44n, kn_s, kn_n, zh_mk, zR_mk, zI_mk, zL_mk, zD_mk, wI_mk, wL_mk, wD_mk, zT_mk, zC_mk, kill_i, kill_r, kill_0, kill_n, kill_l, kill_q, zzk_r, zzk_0, zzk_q, zcat_r, zcat_i, zcat_0, zcat_q, cats_0, cats_i, cats_r, cats_l, cats_d, cats_f, cats_q, cats_n, rv_s, rv_0, Nat.reduceAdd, Nat.reduceLeDiff, Nat.reduceEqDiff, Nat.add_zero, Nat.reduceMul, Nat.reduceSub, ne_eq, not_false_eq_true, not_true_eq_false, and_self, and_true, true_and, or_self, or_true, true_or, or_false, false_or, if_true, if_false, reduceIte, reduceCtorEq, implies_true, ite_self, ite_not, o_add, o_sub, o_mul, o_neg, q_add, q_sub, q_mul, q_neg, o_32, cast_s, s1, s8, c172 hS2 hi hc, e8, e]
  rw [show ((T.length + (kT i).length : Nat) : Int) = ((T ++ kT i).length : Int) by rw [List.length_append]]
  exact K _ _ _ v' cap' (SB_wr hS2 (fun j hj => kT_f i hi j (by have := (kT_l i hi).2; omega) hj) (kT_a i hi) hc hl) (hG.trans (GO_wr (k := 0) (m := 0) hS2 hG.2.2.2.2.2.2.2) (by omega) (by omega))
theorem c162 {i : Nat} (hS : SB N w I B v cap T) (hZ : ZA N w I) (hi : i < 9) (hl : T.length + (kT i).length ≤ 300) (hN : N.2.1 < 90000)
    (K : ∀ N' w' I' v' cap', SB N' w' I' B v' cap' (T ++ kT i) → GO B v 1 700 N w I N' w' I' v' → Q (.inl (some (.ref B))) (mk N' t w' I' L D)) : Wp (d + 4) 162 0 [some (.ref B), some (.retAddr (i + 1))] [] (mk N t w I L D) Q := by
  simp only [w162_0, w162_1, w162_2, w162_2q, w162_5, w162_6, w162_7, w162_7n, kn_s, kn_n, zh_mk, zR_mk, zI_mk, zL_mk, zD_mk, wI_mk, wL_mk, wD_mk, zT_mk, zC_mk, kill_i, kill_r, kill_0, kill_n, kill_l, kill_q, zzk_r, zzk_0, zzk_q, zcat_r, zcat_i, zcat_0, zcat_q, cats_0, cats_i, cats_r, cats_l, cats_d, cats_f, cats_q, cats_n, rv_s, rv_0, Nat.reduceAdd, Nat.reduceLeDiff, Nat.reduceEqDiff, Nat.add_zero, Nat.reduceMul, Nat.reduceSub, ne_eq, not_false_eq_true, not_true_eq_false, and_self, and_true, true_and, or_self, or_true, true_or, or_false, false_or, if_true, if_false, reduceIte, reduceCtorEq, implies_true, ite_self, ite_not, hS.1]
  refine c169 hS hZ hi hl hN fun N' w' I' v' cap' hS' hG => ?_
  simp only [w162_0, w162_1, w162_2, w162_2q, w162_5, w162_6, w162_7, w162_7n, kn_s, kn_n, zh_mk, zR_mk, zI_mk, zL_mk, zD_mk, wI_mk, wL_mk, wD_mk, zT_mk, zC_mk, kill_i, kill_r, kill_0, kill_n, kill_l, kill_q, zzk_r, zzk_0, zzk_q, zcat_r, zcat_i, zcat_0, zcat_q, cats_0, cats_i, cats_r, cats_l, cats_d, cats_f, cats_q, cats_n, rv_s, rv_0, Nat.reduceAdd, Nat.reduceLeDiff, Nat.reduceEqDiff, Nat.add_zero, Nat.reduceMul, Nat.reduceSub, ne_eq, not_false_eq_true, not_true_eq_false, and_self, and_true, true_and, or_self, or_true, true_or, or_false, false_or, if_true, if_false, reduceIte, reduceCtorEq, implies_true, ite_self, ite_not]
  exact K _ _ _ _ _ hS' hG
end S96
