/-! THE PARSER of the class: words, numbers, cells, names -/
theorem ch_d : ∀ z, z < 128 → (((Int32.ofInt ((z : Nat) : Int)) &&& Int32.ofInt 255).toUInt32 % 65536).toInt32 = Int32.ofInt ((z : Nat) : Int) := by decide +kernel
theorem ch_z {z : Int} (h : 0 ≤ z ∧ z < 128) : (((Int32.ofInt z) &&& Int32.ofInt 255).toUInt32 % 65536).toInt32 = Int32.ofInt z := by
  obtain ⟨k, rfl⟩ : ∃ k : Nat, z = (k : Int) := ⟨z.toNat, by omega⟩
  exact ch_d k (by omega)
theorem ch_e : ∀ z, z < 128 → (Int32.ofInt ((z : Nat) : Int)).toUInt32 % 65536 = (Int32.ofInt ((z : Nat) : Int)).toUInt32 := by decide +kernel
theorem ch_n {z : Int} (h : 0 ≤ z ∧ z < 128) : narrow .char (.int (Int32.ofInt z)) = .int (Int32.ofInt z) := by
  obtain ⟨k, rfl⟩ : ∃ k : Nat, z = (k : Int) := ⟨z.toNat, by omega⟩
  show Value.int ((Int32.ofInt (k : Int)).toUInt32 % 65536).toInt32 = _
  rw [ch_e k (by omega)]
  rfl
theorem nb0 : narrow .byte (.int (Int32.ofInt 0)) = .int (Int32.ofInt 0) := nr rfl
theorem nz0 : narrow .boolean (.int (Int32.ofInt 0)) = .int (Int32.ofInt 0) := nr rfl
theorem nz1 : narrow .boolean (.int (Int32.ofInt 1)) = .int (Int32.ofInt 1) := nr rfl
theorem sh0 {x : Int32} : x >>> (Int32.ofInt 0 &&& 31) = x := by
  rw [show Int32.ofInt 0 &&& 31 = (0 : Int32) from by decide]
  exact Int32.shiftRight_zero
theorem o_wdL {a : Nat} : Int32.ofNat (wdL a) = Int32.ofInt (wdL a : Int) := rfl
theorem i10 : (Int32.ofInt 1 = Int32.ofInt 0) = False := by decide
theorem i00 : (Int32.ofInt 0 = Int32.ofInt 0) = True := by decide
section S79
variable {N : NX} {w : WX} {d t n : Nat} {f : Nat → Int} {I J : Nat → Nat → Int32} {L : Nat → Nat → Int64} {D : Nat → Nat → UInt64} {Q : Rs → St → Prop} {P : PS}
theorem c189 {a : Nat} (ha : 1 ≤ a ∧ a < 8) : Wp d 189 0 [some (.ref a)] [] (mk N t w I L D) Q = Q (.inl (some (.int (Int32.ofInt 0)))) (mk N t w I L D) := by
  simp only [w189_0, w189_3, w189_6, w189_7, w189_7k, w189_7q, w189_10, w189_13, w189_14, kn_s, kn_n, zh_mk, zR_mk, zI_mk, zL_mk, zD_mk, wI_mk, wL_mk, wD_mk, zT_mk, zC_mk, kill_i, kill_r, kill_0, kill_n, kill_l, kill_q, zzk_r, zzk_0, zzk_q, zcat_r, zcat_i, zcat_0, zcat_q, cats_0, cats_i, cats_r, cats_l, cats_d, cats_f, cats_q, cats_n, rv_s, rv_0, Nat.reduceAdd, Nat.reduceLeDiff, Nat.reduceEqDiff, Nat.add_zero, Nat.reduceMul, Nat.reduceSub, ne_eq, not_false_eq_true, not_true_eq_false, and_self, and_true, true_and, or_self, or_true, true_or, or_false, false_or, if_true, if_false, reduceIte, reduceCtorEq, implies_true, ite_self, ite_not, kh_s ha, i10, nb0]
theorem c191 {a : Nat} (ha : 1 ≤ a ∧ a < 8) : Wp d 191 0 [some (.ref a)] [] (mk N t w I L D) Q = Q (.inl (some (.int (Int32.ofInt 1)))) (mk N t w I L D) := by
  simp only [w191_0, w191_3, w191_6, w191_7, w191_7k, w191_7q, w191_10, w191_13, w191_14, w191_17, w191_18, kn_s, kn_n, zh_mk, zR_mk, zI_mk, zL_mk, zD_mk, wI_mk, wL_mk, wD_mk, zT_mk, zC_mk, kill_i, kill_r, kill_0, kill_n, kill_l, kill_q, zzk_r, zzk_0, zzk_q, zcat_r, zcat_i, zcat_0, zcat_q, cats_0, cats_i, cats_r, cats_l, cats_d, cats_f, cats_q, cats_n, rv_s, rv_0, Nat.reduceAdd, Nat.reduceLeDiff, Nat.reduceEqDiff, Nat.add_zero, Nat.reduceMul, Nat.reduceSub, ne_eq, not_false_eq_true, not_true_eq_false, and_self, and_true, true_and, or_self, or_true, true_or, or_false, false_or, if_true, if_false, reduceIte, reduceCtorEq, implies_true, ite_self, ite_not, kh_s ha, i10, nz1]
theorem c188 {a : Nat} (ha : 1 ≤ a ∧ a < 8) : Wp (d + 1) 188 0 [some (.ref a)] [] (mk N t w I L D) Q = Q (.inl (some (.int (Int32.ofInt (wdL a : Int))))) (mk N t w I L D) := by
  simp only [w188_0, w188_1, w188_1k, w188_1q, w188_4, w188_4q, w188_5, w188_6, w188_6q, w188_9, w188_10, kn_s, kn_n, zh_mk, zR_mk, zI_mk, zL_mk, zD_mk, wI_mk, wL_mk, wD_mk, zT_mk, zC_mk, kill_i, kill_r, kill_0, kill_n, kill_l, kill_q, zzk_r, zzk_0, zzk_q, zcat_r, zcat_i, zcat_0, zcat_q, cats_0, cats_i, cats_r, cats_l, cats_d, cats_f, cats_q, cats_n, rv_s, rv_0, Nat.reduceAdd, Nat.reduceLeDiff, Nat.reduceEqDiff, Nat.add_zero, Nat.reduceMul, Nat.reduceSub, ne_eq, not_false_eq_true, not_true_eq_false, and_self, and_true, true_and, or_self, or_true, true_or, or_false, false_or, if_true, if_false, reduceIte, reduceCtorEq, implies_true, ite_self, ite_not, kh_s ha, kh_sb ha, c189 ha, sh0, o_wdL]
theorem c194 {a b : Int} {v : Value} (h : 0 ≤ a ∧ a < b ∧ b < 2147483648) : Wp d 194 0 [some (.int (Int32.ofInt a)), some (.int (Int32.ofInt b)), some v] [] (mk N t w I L D) Q = Q (.inl (some (.int (Int32.ofInt a)))) (mk N t w I L D) := by
  have g : ¬ (a < 0) := by omega
  simp only [w194_0, w194_1, w194_4, w194_5, w194_6, w194_10, w194_11, w194_16, w194_17, kn_s, kn_n, zh_mk, zR_mk, zI_mk, zL_mk, zD_mk, wI_mk, wL_mk, wD_mk, zT_mk, zC_mk, kill_i, kill_r, kill_0, kill_n, kill_l, kill_q, zzk_r, zzk_0, zzk_q, zcat_r, zcat_i, zcat_0, zcat_q, cats_0, cats_i, cats_r, cats_l, cats_d, cats_f, cats_q, cats_n, rv_s, rv_0, Nat.reduceAdd, Nat.reduceLeDiff, Nat.reduceEqDiff, Nat.add_zero, Nat.reduceMul, Nat.reduceSub, ne_eq, not_false_eq_true, not_true_eq_false, and_self, and_true, true_and, or_self, or_true, true_or, or_false, false_or, if_true, if_false, reduceIte, reduceCtorEq, implies_true, ite_self, ite_not, o_lt (a := a) (b := 0) (by omega), o_lt (a := a) (b := b) (by omega), g, h.2.1]
theorem c192 {a b : Int} (h : 0 ≤ a ∧ a < b ∧ b < 2147483648) : Wp (d + 1) 192 0 [some (.int (Int32.ofInt a)), some (.int (Int32.ofInt b))] [] (mk N t w I L D) Q = Q (.inl none) (mk N t w I L D) := by
  have ct : (Value.int (Int32.ofInt a)).category = 1 := rfl
  simp only [w192_0, w192_1, w192_2, w192_5, w192_8, w192_9, kn_s, kn_n, zh_mk, zR_mk, zI_mk, zL_mk, zD_mk, wI_mk, wL_mk, wD_mk, zT_mk, zC_mk, kill_i, kill_r, kill_0, kill_n, kill_l, kill_q, zzk_r, zzk_0, zzk_q, zcat_r, zcat_i, zcat_0, zcat_q, cats_0, cats_i, cats_r, cats_l, cats_d, cats_f, cats_q, cats_n, rv_s, rv_0, Nat.reduceAdd, Nat.reduceLeDiff, Nat.reduceEqDiff, Nat.add_zero, Nat.reduceMul, Nat.reduceSub, ne_eq, not_false_eq_true, not_true_eq_false, and_self, and_true, true_and, or_self, or_true, true_or, or_false, false_or, if_true, if_false, reduceIte, reduceCtorEq, implies_true, ite_self, ite_not, c194 h, ct]
theorem c190 (hS : SW I) {a j : Nat} (ha : 1 ≤ a ∧ a < 8) (hj : j < wdL a) : Wp (d + 3) 190 0 [some (.ref a), some (.int (Int32.ofInt (j : Int)))] [] (mk N t w I L D) Q = Q (.inl (some (.int (Int32.ofInt (wdC a j))))) (mk N t w I L D) := by
  have h1 := wdL_d a ha.2 ha.1
  have h2 := wdC_d a ha.2 ha.1 j hj
  have e : I (a + 7) j = Int32.ofInt (wdC a j) := by
    rw [hS (a + 7) (by omega) (by omega) j, show a + 7 - 8 = a - 1 by omega]
    exact wdC_o
  simp only [w190_0, w190_1, w190_1q, w190_4, w190_7, w190_8, w190_8k, w190_8q, w190_11, w190_12, w190_15, w190_16, w190_17, w190_17k, w190_17q, w190_20, w190_24, w193_0, w193_1, w193_2, w193_2q, w193_3, w193_6, w193_7, w193_8, w193_9, w193_12, w193_13, w193_14, kn_s, kn_n, zh_mk, zR_mk, zI_mk, zL_mk, zD_mk, wI_mk, wL_mk, wD_mk, zT_mk, zC_mk, kill_i, kill_r, kill_0, kill_n, kill_l, kill_q, zzk_r, zzk_0, zzk_q, zcat_r, zcat_i, zcat_0, zcat_q, cats_0, cats_i, cats_r, cats_l, cats_d, cats_f, cats_q, cats_n, rv_s, rv_0, Nat.reduceAdd, Nat.reduceLeDiff, Nat.reduceEqDiff, Nat.add_zero, Nat.reduceMul, Nat.reduceSub, ne_eq, not_false_eq_true, not_true_eq_false, and_self, and_true, true_and, or_self, or_true, true_or, or_false, false_or, if_true, if_false, reduceIte, reduceCtorEq, implies_true, ite_self, ite_not, kh_s ha, kh_sb ha, c191 ha, i10, o_wdL, c192 (a := (j : Int)) (b := (wdL a : Int)) (by omega), o_ixn (j := j) (n := wdL a) (by omega), o_tnn (j := j) (by omega), e, ch_z (z := wdC a j) (by omega), ch_n (z := wdC a j) (by omega)]
theorem c69 {c : Nat} {z : Int} (hz : z = (c : Int)) (hr : P.2.2.2.1 ≤ 5) : Wp d 69 0 [some (.ref 73), some (.int (Int32.ofInt z))] [] (mk N t w (pC P J) L D) Q = Q (.inl none) (mk N t w (pC (flT c P) J) L D) := by
  subst hz
  obtain ⟨s, e, k, r, v⟩ := P
  have hr : r ≤ 5 := hr
  unfold flT
  by_cases h : r = 0
  · have h' : (r : Int) = 0 := by omega
    simp only [w69_0, w69_1, w69_4, w69_7, w69_8, w69_9, w69_12, kn_s, kn_n, zh_mk, zR_mk, zI_mk, zL_mk, zD_mk, wI_mk, wL_mk, wD_mk, zT_mk, zC_mk, kill_i, kill_r, kill_0, kill_n, kill_l, kill_q, zzk_r, zzk_0, zzk_q, zcat_r, zcat_i, zcat_0, zcat_q, cats_0, cats_i, cats_r, cats_l, cats_d, cats_f, cats_q, cats_n, rv_s, rv_0, Nat.reduceAdd, Nat.reduceLeDiff, Nat.reduceEqDiff, Nat.add_zero, Nat.reduceMul, Nat.reduceSub, ne_eq, not_false_eq_true, not_true_eq_false, and_self, and_true, true_and, or_self, or_true, true_or, or_false, false_or, if_true, if_false, reduceIte, reduceCtorEq, implies_true, ite_self, ite_not, k73, pC_6, pC_u6, o_eq (a := (r : Int)) (b := 0) (by omega), eq_true h', eq_true h]
  · have h' : ¬ ((r : Int) = 0) := by omega
    simp only [w69_0, w69_1, w69_4, w69_7, w69_8, w69_9, w69_12, kn_s, kn_n, zh_mk, zR_mk, zI_mk, zL_mk, zD_mk, wI_mk, wL_mk, wD_mk, zT_mk, zC_mk, kill_i, kill_r, kill_0, kill_n, kill_l, kill_q, zzk_r, zzk_0, zzk_q, zcat_r, zcat_i, zcat_0, zcat_q, cats_0, cats_i, cats_r, cats_l, cats_d, cats_f, cats_q, cats_n, rv_s, rv_0, Nat.reduceAdd, Nat.reduceLeDiff, Nat.reduceEqDiff, Nat.add_zero, Nat.reduceMul, Nat.reduceSub, ne_eq, not_false_eq_true, not_true_eq_false, and_self, and_true, true_and, or_self, or_true, true_or, or_false, false_or, if_true, if_false, reduceIte, reduceCtorEq, implies_true, ite_self, ite_not, k73, pC_6, o_eq (a := (r : Int)) (b := 0) (by omega), eq_false h', eq_false h]
theorem c68_31 (hT : TC f n J) (hS : SW J) {a : Nat} (ha : 1 ≤ a ∧ a < 8) {s e k r0 : Nat} {v : Int} (he : e ≤ n) (hl : e = s + wdL a) : ∀ r i : Nat, i + r = e → s ≤ i → Wp (d + 4) 68 31 [some (.ref 73), some (.ref a), some (.int (Int32.ofInt (i : Int)))] [] (mk N t w (pC (s, e, k, r0, v) J) L D) Q = Q (.inl (some (.int (pI (∀ j, j < e → i ≤ j → f j = wdC a (j - s)))))) (mk N t w (pC (s, e, k, r0, v) J) L D) := by
  have h4 := hT.1
  intro r
  induction r with
  | zero =>
    intro i hi hs
    have g : ¬ ((i : Int) < e) := by omega
    have g2 : ∀ j, j < e → i ≤ j → f j = wdC a (j - s) := fun j h1 h2 => by omega
    rw [w68_31]
    simp only [w68_0, w68_1, w68_4, w68_5, w68_8, w68_9, w68_12, w68_13, w68_16, w68_17, w68_18, w68_18q, w68_21, w68_24, w68_25, w68_26, w68_27, w68_30, w68_32, w68_33, w68_36, w68_39, w68_40, w68_43, w68_44, w68_45, w68_46, w68_47, w68_48, w68_51, w68_52, w68_52q, w68_55, w68_58, w68_59, w68_60, w68_63, w68_66, w68_67, kn_s, kn_n, zh_mk, zR_mk, zI_mk, zL_mk, zD_mk, wI_mk, wL_mk, wD_mk, zT_mk, zC_mk, kill_i, kill_r, kill_0, kill_n, kill_l, kill_q, zzk_r, zzk_0, zzk_q, zcat_r, zcat_i, zcat_0, zcat_q, cats_0, cats_i, cats_r, cats_l, cats_d, cats_f, cats_q, cats_n, rv_s, rv_0, Nat.reduceAdd, Nat.reduceLeDiff, Nat.reduceEqDiff, Nat.add_zero, Nat.reduceMul, Nat.reduceSub, ne_eq, not_false_eq_true, not_true_eq_false, and_self, and_true, true_and, or_self, or_true, true_or, or_false, false_or, if_true, if_false, reduceIte, reduceCtorEq, implies_true, ite_self, ite_not, nz0, nz1, k73, pC_5, o_lt (a := (i : Int)) (b := (e : Int)) (by omega), g, pI, eq_true g2]
  | succ r ih =>
    intro i hi hs
    have g : (i : Int) < e := by omega
    have hb := hT.2.2 i (by omega)
    have eJ : pC (s, e, k, r0, v) J 16 i = Int32.ofInt (f i) := by rw [pC_o (by omega)]; exact hb.1
    have hc := wdC_d a ha.2 ha.1 (i - s) (by omega)
    have es : (i : Int) - (s : Int) = ((i - s : Nat) : Int) := by omega
    rw [w68_31]
    by_cases h : f i = wdC a (i - s)
    · have hp : pI (∀ j, j < e → i ≤ j → f j = wdC a (j - s)) = pI (∀ j, j < e → i + 1 ≤ j → f j = wdC a (j - s)) := by
        have : (∀ j, j < e → i ≤ j → f j = wdC a (j - s)) ↔ (∀ j, j < e → i + 1 ≤ j → f j = wdC a (j - s)) := ⟨fun q j h1 h2 => q j h1 (by omega), fun q j h1 h2 => by
          by_cases ej : j = i
          · rw [ej]; exact h
          · exact q j h1 (by omega)⟩
        unfold pI
        by_cases q : ∀ j, j < e → i ≤ j → f j = wdC a (j - s)
        · rw [if_pos q, if_pos (this.1 q)]
        · rw [if_neg q, if_neg (fun z => q (this.2 z))]
      rw [hp]
      simp only [w68_0, w68_1, w68_4, w68_5, w68_8, w68_9, w68_12, w68_13, w68_16, w68_17, w68_18, w68_18q, w68_21, w68_24, w68_25, w68_26, w68_27, w68_30, w68_32, w68_33, w68_36, w68_39, w68_40, w68_43, w68_44, w68_45, w68_46, w68_47, w68_48, w68_51, w68_52, w68_52q, w68_55, w68_58, w68_59, w68_60, w68_63, w68_66, w68_67, kn_s, kn_n, zh_mk, zR_mk, zI_mk, zL_mk, zD_mk, wI_mk, wL_mk, wD_mk, zT_mk, zC_mk, kill_i, kill_r, kill_0, kill_n, kill_l, kill_q, zzk_r, zzk_0, zzk_q, zcat_r, zcat_i, zcat_0, zcat_q, cats_0, cats_i, cats_r, cats_l, cats_d, cats_f, cats_q, cats_n, rv_s, rv_0, Nat.reduceAdd, Nat.reduceLeDiff, Nat.reduceEqDiff, Nat.add_zero, Nat.reduceMul, Nat.reduceSub, ne_eq, not_false_eq_true, not_true_eq_false, and_self, and_true, true_and, or_self, or_true, true_or, or_false, false_or, if_true, if_false, reduceIte, reduceCtorEq, implies_true, ite_self, ite_not, nz0, nz1, o_sub, o_add, cast_s, k73, k16, kr73_0, pC_4, pC_5, eJ, es, kh_s ha, c190 (SW_pC hS) ha (show i - s < wdL a by omega), o_lt (a := (i : Int)) (b := (e : Int)) (by omega), g, o_ixn (j := i) (n := 400) (by omega), o_tnn (j := i) (by omega), o_eq (a := f i) (b := wdC a (i - s)) (by omega), eq_true h, ih (i + 1) (by omega) (by omega)]
    · have g2 : ¬ (∀ j, j < e → i ≤ j → f j = wdC a (j - s)) := fun q => h (q i (by omega) (by omega))
      simp only [w68_0, w68_1, w68_4, w68_5, w68_8, w68_9, w68_12, w68_13, w68_16, w68_17, w68_18, w68_18q, w68_21, w68_24, w68_25, w68_26, w68_27, w68_30, w68_32, w68_33, w68_36, w68_39, w68_40, w68_43, w68_44, w68_45, w68_46, w68_47, w68_48, w68_51, w68_52, w68_52q, w68_55, w68_58, w68_59, w68_60, w68_63, w68_66, w68_67, kn_s, kn_n, zh_mk, zR_mk, zI_mk, zL_mk, zD_mk, wI_mk, wL_mk, wD_mk, zT_mk, zC_mk, kill_i, kill_r, kill_0, kill_n, kill_l, kill_q, zzk_r, zzk_0, zzk_q, zcat_r, zcat_i, zcat_0, zcat_q, cats_0, cats_i, cats_r, cats_l, cats_d, cats_f, cats_q, cats_n, rv_s, rv_0, Nat.reduceAdd, Nat.reduceLeDiff, Nat.reduceEqDiff, Nat.add_zero, Nat.reduceMul, Nat.reduceSub, ne_eq, not_false_eq_true, not_true_eq_false, and_self, and_true, true_and, or_self, or_true, true_or, or_false, false_or, if_true, if_false, reduceIte, reduceCtorEq, implies_true, ite_self, ite_not, nz0, nz1, o_sub, k73, k16, kr73_0, pC_4, pC_5, eJ, es, kh_s ha, c190 (SW_pC hS) ha (show i - s < wdL a by omega), o_lt (a := (i : Int)) (b := (e : Int)) (by omega), g, o_ixn (j := i) (n := 400) (by omega), o_tnn (j := i) (by omega), o_eq (a := f i) (b := wdC a (i - s)) (by omega), eq_false h, pI, eq_false g2]
theorem WF_k {P : PS} (h : WF f n P) : P.2.2.1 ≤ 4 := by
  rw [h.2.1.1]
  exact kd_le
theorem c68 (hT : TC f n J) (hS : SW J) (hW : WF f n P) {a : Nat} (ha : 1 ≤ a ∧ a < 8) : Wp (d + 4) 68 0 [some (.ref 73), some (.ref a), none] [] (mk N t w (pC P J) L D) Q = Q (.inl (some (.int (pI (iw f a P = true))))) (mk N t w (pC P J) L D) := by
  have hk := WF_k hW
  obtain ⟨s, e, k, r, v⟩ := P
  have hk : k ≤ 4 := hk
  have he : s ≤ e ∧ e ≤ n := hW.1
  have h4 := hT.1
  have hl := wdL_d a ha.2 ha.1
  by_cases h1 : k = 1
  · have h1' : (k : Int) = 1 := by omega
    by_cases h2 : e - s = wdL a
    · have h2' : (e : Int) - (s : Int) = (wdL a : Int) := by omega
      have l := c68_31 (d := d) (N := N) (t := t) (w := w) (L := L) (D := D) (Q := Q) (k := k) (r0 := r) (v := v) hT hS ha he.2 (show e = s + wdL a by omega) (e - s) s (by omega) (by omega)
      have hp : pI (iw f a (s, e, k, r, v) = true) = pI (∀ j, j < e → s ≤ j → f j = wdC a (j - s)) := by
        have : (iw f a (s, e, k, r, v) = true) ↔ (∀ j, j < e → s ≤ j → f j = wdC a (j - s)) := by
          unfold iw
          rw [decide_eq_true_eq]
          refine ⟨fun q j h3 h5 => ?_, fun q => ⟨h1, h2, fun j hj => ?_⟩⟩
          · have := q.2.2 (j - s) (by omega)
            rw [show (s, e, k, r, v).1 + (j - s) = j from (by show s + (j - s) = j; omega)] at this
            exact this
          · have := q (s + j) (by omega) (by omega)
            rw [show s + j - s = j by omega] at this
            exact this
        unfold pI
        by_cases q : iw f a (s, e, k, r, v) = true
        · rw [if_pos q, if_pos (this.1 q)]
        · rw [if_neg q, if_neg (fun z => q (this.2 z))]
      rw [hp]
      simp only [w68_0, w68_1, w68_4, w68_5, w68_8, w68_9, w68_12, w68_13, w68_16, w68_17, w68_18, w68_18q, w68_21, w68_24, w68_25, w68_26, w68_27, w68_30, nz0, nz1, kn_s, kn_n, zh_mk, zR_mk, zI_mk, zL_mk, zD_mk, wI_mk, wL_mk, wD_mk, zT_mk, zC_mk, kill_i, kill_r, kill_0, kill_n, kill_l, kill_q, zzk_r, zzk_0, zzk_q, zcat_r, zcat_i, zcat_0, zcat_q, cats_0, cats_i, cats_r, cats_l, cats_d, cats_f, cats_q, cats_n, rv_s, rv_0, Nat.reduceAdd, Nat.reduceLeDiff, Nat.reduceEqDiff, Nat.add_zero, Nat.reduceMul, Nat.reduceSub, ne_eq, not_false_eq_true, not_true_eq_false, and_self, and_true, true_and, or_self, or_true, true_or, or_false, false_or, if_true, if_false, reduceIte, reduceCtorEq, implies_true, ite_self, ite_not, o_sub, k73, pC_3, pC_4, pC_5, kh_s ha, c188 ha, o_eq (a := (k : Int)) (b := 1) (by omega), eq_true h1', o_eq (a := (e : Int) - (s : Int)) (b := (wdL a : Int)) (by omega), eq_true h2']
      exact l
    · have h2' : ¬ ((e : Int) - (s : Int) = (wdL a : Int)) := by omega
      have hf : ¬ (iw f a (s, e, k, r, v) = true) := by
        unfold iw
        rw [decide_eq_true_eq]
        exact fun q => h2 q.2.1
      simp only [w68_0, w68_1, w68_4, w68_5, w68_8, w68_9, w68_12, w68_13, w68_16, w68_17, w68_18, w68_18q, w68_21, w68_24, w68_25, w68_26, w68_27, w68_30, nz0, nz1, kn_s, kn_n, zh_mk, zR_mk, zI_mk, zL_mk, zD_mk, wI_mk, wL_mk, wD_mk, zT_mk, zC_mk, kill_i, kill_r, kill_0, kill_n, kill_l, kill_q, zzk_r, zzk_0, zzk_q, zcat_r, zcat_i, zcat_0, zcat_q, cats_0, cats_i, cats_r, cats_l, cats_d, cats_f, cats_q, cats_n, rv_s, rv_0, Nat.reduceAdd, Nat.reduceLeDiff, Nat.reduceEqDiff, Nat.add_zero, Nat.reduceMul, Nat.reduceSub, ne_eq, not_false_eq_true, not_true_eq_false, and_self, and_true, true_and, or_self, or_true, true_or, or_false, false_or, if_true, if_false, reduceIte, reduceCtorEq, implies_true, ite_self, ite_not, o_sub, k73, pC_3, pC_4, pC_5, kh_s ha, c188 ha, o_eq (a := (k : Int)) (b := 1) (by omega), eq_true h1', o_eq (a := (e : Int) - (s : Int)) (b := (wdL a : Int)) (by omega), eq_false h2', pI, eq_false hf]
  · have h1' : ¬ ((k : Int) = 1) := by omega
    have hf : ¬ (iw f a (s, e, k, r, v) = true) := by
      unfold iw
      rw [decide_eq_true_eq]
      exact fun q => h1 q.1
    simp only [w68_0, w68_1, w68_4, w68_5, w68_8, w68_9, w68_12, w68_13, w68_16, w68_17, w68_18, w68_18q, w68_21, w68_24, w68_25, w68_26, w68_27, w68_30, nz0, nz1, kn_s, kn_n, zh_mk, zR_mk, zI_mk, zL_mk, zD_mk, wI_mk, wL_mk, wD_mk, zT_mk, zC_mk, kill_i, kill_r, kill_0, kill_n, kill_l, kill_q, zzk_r, zzk_0, zzk_q, zcat_r, zcat_i, zcat_0, zcat_q, cats_0, cats_i, cats_r, cats_l, cats_d, cats_f, cats_q, cats_n, rv_s, rv_0, Nat.reduceAdd, Nat.reduceLeDiff, Nat.reduceEqDiff, Nat.add_zero, Nat.reduceMul, Nat.reduceSub, ne_eq, not_false_eq_true, not_true_eq_false, and_self, and_true, true_and, or_self, or_true, true_or, or_false, false_or, if_true, if_false, reduceIte, reduceCtorEq, implies_true, ite_self, ite_not, k73, pC_3, o_eq (a := (k : Int)) (b := 1) (by omega), eq_false h1', pI, eq_false hf]
theorem WF_twT {a : Nat} (hW : WF f n P) : WF f n (twT f n a P) := by
  unfold twT
  split
  · exact WF_nx hW
  · exact WF_nx (WF_fl (by omega) hW)
theorem WF_ch {lo hi : Int} (hW : WF f n P) : WF f n (chT f lo hi P) := by
  unfold chT
  split
  · split
    · exact hW
    · exact WF_fl (by omega) hW
  · exact WF_fl (by omega) hW
theorem WF_sm (hW : WF f n P) : WF f n (smT f n P) := by
  unfold smT
  split
  · exact WF_nx hW
  · exact WF_nx (WF_fl (by omega) hW)
theorem WF_e {P : PS} (h : WF f n P) : P.2.2.2.1 ≤ 5 := h.2.2.2.2.2
theorem c67 (hT : TC f n J) (hS : SW J) (hW : WF f n P) {a : Nat} (ha : 1 ≤ a ∧ a < 8) : Wp (d + 5) 67 0 [some (.ref 73), some (.ref a)] [] (mk N t w (pC P J) L D) Q = Q (.inl none) (mk N t w (pC (twT f n a P) J) L D) := by
  have hF : WF f n (flT 1 P) := WF_fl (by omega) hW
  unfold twT
  by_cases h : iw f a P = true
  · simp only [w67_0, w67_1, w67_2, w67_5, w67_8, w67_9, w67_10, w67_13, w67_14, w67_17, kn_s, kn_n, zh_mk, zR_mk, zI_mk, zL_mk, zD_mk, wI_mk, wL_mk, wD_mk, zT_mk, zC_mk, kill_i, kill_r, kill_0, kill_n, kill_l, kill_q, zzk_r, zzk_0, zzk_q, zcat_r, zcat_i, zcat_0, zcat_q, cats_0, cats_i, cats_r, cats_l, cats_d, cats_f, cats_q, cats_n, rv_s, rv_0, Nat.reduceAdd, Nat.reduceLeDiff, Nat.reduceEqDiff, Nat.add_zero, Nat.reduceMul, Nat.reduceSub, ne_eq, not_false_eq_true, not_true_eq_false, and_self, and_true, true_and, or_self, or_true, true_or, or_false, false_or, if_true, if_false, reduceIte, reduceCtorEq, implies_true, ite_self, ite_not, k73, c68 hT hS hW ha, pI, eq_true h, i10, c64 hT hW.1.2 (WF_e hW)]
  · simp only [w67_0, w67_1, w67_2, w67_5, w67_8, w67_9, w67_10, w67_13, w67_14, w67_17, kn_s, kn_n, zh_mk, zR_mk, zI_mk, zL_mk, zD_mk, wI_mk, wL_mk, wD_mk, zT_mk, zC_mk, kill_i, kill_r, kill_0, kill_n, kill_l, kill_q, zzk_r, zzk_0, zzk_q, zcat_r, zcat_i, zcat_0, zcat_q, cats_0, cats_i, cats_r, cats_l, cats_d, cats_f, cats_q, cats_n, rv_s, rv_0, Nat.reduceAdd, Nat.reduceLeDiff, Nat.reduceEqDiff, Nat.add_zero, Nat.reduceMul, Nat.reduceSub, ne_eq, not_false_eq_true, not_true_eq_false, and_self, and_true, true_and, or_self, or_true, true_or, or_false, false_or, if_true, if_false, reduceIte, reduceCtorEq, implies_true, ite_self, ite_not, k73, c68 hT hS hW ha, pI, eq_false h, i00, c69 (c := 1) (z := 1) rfl (WF_e hW), c64 hT hF.1.2 (WF_e hF)]
theorem c71_23 (hT : TC f n J) (hr0 : P.2.2.2.1 ≤ 5) {lo hi : Int} (hlo : -2147483648 ≤ lo ∧ lo < 2147483648) (hhi : -2147483648 ≤ hi ∧ hi < 2147483648) (he : P.2.1 ≤ n) : ∀ (r i : Nat) (v : Int), i + r = P.2.1 → (∀ j, i ≤ j → j < i + r → 48 ≤ f j ∧ f j ≤ 57) → 0 ≤ v ∧ v < 20000000 → Wp (d + 1) 71 23 [some (.ref 73), some (.int (Int32.ofInt lo)), some (.int (Int32.ofInt hi)), some (.int (Int32.ofInt v)), some (.int (Int32.ofInt (i : Int)))] [] (mk N t w (pC P J) L D) Q = Q (.inl (some (.int (Int32.ofInt (cnL f r i v))))) (mk N t w (pC (if lo ≤ cnL f r i v ∧ cnL f r i v ≤ hi then P else flT 2 P) J) L D) := by
  have h4 := hT.1
  have fin : ∀ (v : Int) (x : Option Value), 0 ≤ v ∧ v < 20000000 → Wp (d + 1) 71 60 [some (.ref 73), some (.int (Int32.ofInt lo)), some (.int (Int32.ofInt hi)), some (.int (Int32.ofInt v)), x] [] (mk N t w (pC P J) L D) Q = Q (.inl (some (.int (Int32.ofInt v)))) (mk N t w (pC (if lo ≤ v ∧ v ≤ hi then P else flT 2 P) J) L D) := by
    intro v x hv
    by_cases h1 : v < lo
    · have h3 : ¬ (lo ≤ v ∧ v ≤ hi) := by omega
      simp only [w71_60, w71_61, w71_62, w71_65, w71_66, w71_67, w71_70, w71_71, w71_72, w71_75, w71_76, kn_s, kn_n, zh_mk, zR_mk, zI_mk, zL_mk, zD_mk, wI_mk, wL_mk, wD_mk, zT_mk, zC_mk, kill_i, kill_r, kill_0, kill_n, kill_l, kill_q, zzk_r, zzk_0, zzk_q, zcat_r, zcat_i, zcat_0, zcat_q, cats_0, cats_i, cats_r, cats_l, cats_d, cats_f, cats_q, cats_n, rv_s, rv_0, Nat.reduceAdd, Nat.reduceLeDiff, Nat.reduceEqDiff, Nat.add_zero, Nat.reduceMul, Nat.reduceSub, ne_eq, not_false_eq_true, not_true_eq_false, and_self, and_true, true_and, or_self, or_true, true_or, or_false, false_or, if_true, if_false, reduceIte, reduceCtorEq, implies_true, ite_self, ite_not, k73, o_lt (a := v) (b := lo) (by omega), h1, h3, c69 (c := 2) (z := 2) rfl hr0]
    · by_cases h2 : hi < v
      · have h3 : ¬ (lo ≤ v ∧ v ≤ hi) := by omega
        simp only [w71_60, w71_61, w71_62, w71_65, w71_66, w71_67, w71_70, w71_71, w71_72, w71_75, w71_76, kn_s, kn_n, zh_mk, zR_mk, zI_mk, zL_mk, zD_mk, wI_mk, wL_mk, wD_mk, zT_mk, zC_mk, kill_i, kill_r, kill_0, kill_n, kill_l, kill_q, zzk_r, zzk_0, zzk_q, zcat_r, zcat_i, zcat_0, zcat_q, cats_0, cats_i, cats_r, cats_l, cats_d, cats_f, cats_q, cats_n, rv_s, rv_0, Nat.reduceAdd, Nat.reduceLeDiff, Nat.reduceEqDiff, Nat.add_zero, Nat.reduceMul, Nat.reduceSub, ne_eq, not_false_eq_true, not_true_eq_false, and_self, and_true, true_and, or_self, or_true, true_or, or_false, false_or, if_true, if_false, reduceIte, reduceCtorEq, implies_true, ite_self, ite_not, k73, o_lt (a := v) (b := lo) (by omega), h1, o_lt (a := hi) (b := v) (by omega), h2, h3, c69 (c := 2) (z := 2) rfl hr0]
      · have h3 : lo ≤ v ∧ v ≤ hi := by omega
        simp only [w71_60, w71_61, w71_62, w71_65, w71_66, w71_67, w71_70, w71_71, w71_72, w71_75, w71_76, kn_s, kn_n, zh_mk, zR_mk, zI_mk, zL_mk, zD_mk, wI_mk, wL_mk, wD_mk, zT_mk, zC_mk, kill_i, kill_r, kill_0, kill_n, kill_l, kill_q, zzk_r, zzk_0, zzk_q, zcat_r, zcat_i, zcat_0, zcat_q, cats_0, cats_i, cats_r, cats_l, cats_d, cats_f, cats_q, cats_n, rv_s, rv_0, Nat.reduceAdd, Nat.reduceLeDiff, Nat.reduceEqDiff, Nat.add_zero, Nat.reduceMul, Nat.reduceSub, ne_eq, not_false_eq_true, not_true_eq_false, and_self, and_true, true_and, or_self, or_true, true_or, or_false, false_or, if_true, if_false, reduceIte, reduceCtorEq, implies_true, ite_self, ite_not, k73, o_lt (a := v) (b := lo) (by omega), h1, o_lt (a := hi) (b := v) (by omega), h2, eq_true h3]
  intro r
  induction r with
  | zero =>
    intro i v hi' hd hv
    have g : ¬ ((i : Int) < (P.2.1 : Int)) := by omega
    rw [w71_23]
    simp only [w71_25, w71_26, w71_29, w71_32, w71_33, w71_35, w71_38, w71_39, w71_41, w71_42, w71_43, w71_46, w71_48, w71_49, w71_50, w71_52, w71_53, w71_54, w71_57, kn_s, kn_n, zh_mk, zR_mk, zI_mk, zL_mk, zD_mk, wI_mk, wL_mk, wD_mk, zT_mk, zC_mk, kill_i, kill_r, kill_0, kill_n, kill_l, kill_q, zzk_r, zzk_0, zzk_q, zcat_r, zcat_i, zcat_0, zcat_q, cats_0, cats_i, cats_r, cats_l, cats_d, cats_f, cats_q, cats_n, rv_s, rv_0, Nat.reduceAdd, Nat.reduceLeDiff, Nat.reduceEqDiff, Nat.add_zero, Nat.reduceMul, Nat.reduceSub, ne_eq, not_false_eq_true, not_true_eq_false, and_self, and_true, true_and, or_self, or_true, true_or, or_false, false_or, if_true, if_false, reduceIte, reduceCtorEq, implies_true, ite_self, ite_not, k73, pC_5, o_lt (a := (i : Int)) (b := (P.2.1 : Int)) (by omega), g]
    exact fin v _ hv
  | succ r ih =>
    intro i v hi' hd hv
    have g : (i : Int) < (P.2.1 : Int) := by omega
    have hb := hT.2.2 i (by omega)
    have h0 := hd i (by omega) (by omega)
    have eJ : pC P J 16 i = Int32.ofInt (f i) := by rw [pC_o (by omega)]; exact hb.1
    rw [w71_23, cnL_s]
    by_cases h : v < 1000000
    · have ih' := ih (i + 1) (v * 10 + f i - 48) (by omega) (fun j h1 h2 => hd j (by omega) (by omega)) (by omega)
      simp only [w71_25, w71_26, w71_29, w71_32, w71_33, w71_35, w71_38, w71_39, w71_41, w71_42, w71_43, w71_46, w71_48, w71_49, w71_50, w71_52, w71_53, w71_54, w71_57, kn_s, kn_n, zh_mk, zR_mk, zI_mk, zL_mk, zD_mk, wI_mk, wL_mk, wD_mk, zT_mk, zC_mk, kill_i, kill_r, kill_0, kill_n, kill_l, kill_q, zzk_r, zzk_0, zzk_q, zcat_r, zcat_i, zcat_0, zcat_q, cats_0, cats_i, cats_r, cats_l, cats_d, cats_f, cats_q, cats_n, rv_s, rv_0, Nat.reduceAdd, Nat.reduceLeDiff, Nat.reduceEqDiff, Nat.add_zero, Nat.reduceMul, Nat.reduceSub, ne_eq, not_false_eq_true, not_true_eq_false, and_self, and_true, true_and, or_self, or_true, true_or, or_false, false_or, if_true, if_false, reduceIte, reduceCtorEq, implies_true, ite_self, ite_not, o_add, o_sub, o_mul, cast_s, k73, k16, kr73_0, pC_5, eJ, o_lt (a := (i : Int)) (b := (P.2.1 : Int)) (by omega), g, o_lt (a := v) (b := 1000000) (by omega), eq_true h, o_ixn (j := i) (n := 400) (by omega), o_tnn (j := i) (by omega)]
      exact ih'
    · simp only [w71_25, w71_26, w71_29, w71_32, w71_33, w71_35, w71_38, w71_39, w71_41, w71_42, w71_43, w71_46, w71_48, w71_49, w71_50, w71_52, w71_53, w71_54, w71_57, kn_s, kn_n, zh_mk, zR_mk, zI_mk, zL_mk, zD_mk, wI_mk, wL_mk, wD_mk, zT_mk, zC_mk, kill_i, kill_r, kill_0, kill_n, kill_l, kill_q, zzk_r, zzk_0, zzk_q, zcat_r, zcat_i, zcat_0, zcat_q, cats_0, cats_i, cats_r, cats_l, cats_d, cats_f, cats_q, cats_n, rv_s, rv_0, Nat.reduceAdd, Nat.reduceLeDiff, Nat.reduceEqDiff, Nat.add_zero, Nat.reduceMul, Nat.reduceSub, ne_eq, not_false_eq_true, not_true_eq_false, and_self, and_true, true_and, or_self, or_true, true_or, or_false, false_or, if_true, if_false, reduceIte, reduceCtorEq, implies_true, ite_self, ite_not, k73, pC_5, o_lt (a := (i : Int)) (b := (P.2.1 : Int)) (by omega), g, o_lt (a := v) (b := 1000000) (by omega), eq_false h]
      exact fin v _ hv
theorem WF_dig {P : PS} (h : WF f n P) (h2 : P.2.2.1 = 2) : ∀ j, P.1 ≤ j → j < P.2.1 → 48 ≤ f j ∧ f j ≤ 57 := fun j h3 h4 => by
  have := h.2.2.1 j h3 h4
  rw [h2] at this
  exact (kd_2 this).2
theorem cv_b {lo : Int} (hW : WF f n P) (hlo : 0 ≤ lo ∧ lo < 20000000) : 0 ≤ cvT f lo P ∧ cvT f lo P < 20000000 := by
  unfold cvT
  by_cases h : P.2.2.1 = 2
  · rw [if_pos h]
    have := hW.1
    exact cn_b _ _ _ (fun j h1 h2 => WF_dig hW h j h1 (by omega)) (by omega)
  · rw [if_neg h]
    exact hlo
theorem c71 (hT : TC f n J) (hW : WF f n P) {lo hi : Int} (hlo : -2147483648 ≤ lo ∧ lo < 2147483648) (hhi : -2147483648 ≤ hi ∧ hi < 2147483648) : Wp (d + 1) 71 0 [some (.ref 73), some (.int (Int32.ofInt lo)), some (.int (Int32.ofInt hi)), none, none] [] (mk N t w (pC P J) L D) Q = Q (.inl (some (.int (Int32.ofInt (cvT f lo P))))) (mk N t w (pC (chT f lo hi P) J) L D) := by
  have hk := WF_k hW
  have h1 := hW.1
  unfold cvT chT
  by_cases h : P.2.2.1 = 2
  · have h' : (P.2.2.1 : Int) = 2 := by omega
    have l := c71_23 (d := d) (N := N) (t := t) (w := w) (L := L) (D := D) (Q := Q) hT (WF_e hW) hlo hhi h1.2 (P.2.1 - P.1) P.1 0 (by omega) (fun j h1 h2 => WF_dig hW h j h1 (by omega)) (by omega)
    rw [if_pos h, if_pos h]
    simp only [w71_0, w71_1, w71_4, w71_5, w71_8, w71_9, w71_10, w71_13, w71_14, w71_15, w71_16, w71_17, w71_18, w71_21, kn_s, kn_n, zh_mk, zR_mk, zI_mk, zL_mk, zD_mk, wI_mk, wL_mk, wD_mk, zT_mk, zC_mk, kill_i, kill_r, kill_0, kill_n, kill_l, kill_q, zzk_r, zzk_0, zzk_q, zcat_r, zcat_i, zcat_0, zcat_q, cats_0, cats_i, cats_r, cats_l, cats_d, cats_f, cats_q, cats_n, rv_s, rv_0, Nat.reduceAdd, Nat.reduceLeDiff, Nat.reduceEqDiff, Nat.add_zero, Nat.reduceMul, Nat.reduceSub, ne_eq, not_false_eq_true, not_true_eq_false, and_self, and_true, true_and, or_self, or_true, true_or, or_false, false_or, if_true, if_false, reduceIte, reduceCtorEq, implies_true, ite_self, ite_not, k73, pC_3, pC_4, o_eq (a := (P.2.2.1 : Int)) (b := 2) (by omega), eq_true h']
    exact l
  · have h' : ¬ ((P.2.2.1 : Int) = 2) := by omega
    rw [if_neg h, if_neg h]
    simp only [w71_0, w71_1, w71_4, w71_5, w71_8, w71_9, w71_10, w71_13, w71_14, w71_15, w71_16, w71_17, w71_18, w71_21, kn_s, kn_n, zh_mk, zR_mk, zI_mk, zL_mk, zD_mk, wI_mk, wL_mk, wD_mk, zT_mk, zC_mk, kill_i, kill_r, kill_0, kill_n, kill_l, kill_q, zzk_r, zzk_0, zzk_q, zcat_r, zcat_i, zcat_0, zcat_q, cats_0, cats_i, cats_r, cats_l, cats_d, cats_f, cats_q, cats_n, rv_s, rv_0, Nat.reduceAdd, Nat.reduceLeDiff, Nat.reduceEqDiff, Nat.add_zero, Nat.reduceMul, Nat.reduceSub, ne_eq, not_false_eq_true, not_true_eq_false, and_self, and_true, true_and, or_self, or_true, true_or, or_false, false_or, if_true, if_false, reduceIte, reduceCtorEq, implies_true, ite_self, ite_not, k73, pC_3, o_eq (a := (P.2.2.1 : Int)) (b := 2) (by omega), eq_false h', c69 (c := 1) (z := 1) rfl (WF_e hW)]
theorem c70 (hT : TC f n J) (hW : WF f n P) {lo hi : Int} (hlo : -2147483648 ≤ lo ∧ lo < 2147483648) (hhi : -2147483648 ≤ hi ∧ hi < 2147483648) : Wp (d + 2) 70 0 [some (.ref 73), some (.int (Int32.ofInt lo)), some (.int (Int32.ofInt hi)), none] [] (mk N t w (pC P J) L D) Q = Q (.inl (some (.int (Int32.ofInt (cvT f lo P))))) (mk N t w (pC (nxT f n (chT f lo hi P)) J) L D) := by
  have hC : WF f n (chT f lo hi P) := WF_ch hW
  simp only [w70_0, w70_1, w70_2, w70_3, w70_6, w70_7, w70_8, w70_11, w70_12, kn_s, kn_n, zh_mk, zR_mk, zI_mk, zL_mk, zD_mk, wI_mk, wL_mk, wD_mk, zT_mk, zC_mk, kill_i, kill_r, kill_0, kill_n, kill_l, kill_q, zzk_r, zzk_0, zzk_q, zcat_r, zcat_i, zcat_0, zcat_q, cats_0, cats_i, cats_r, cats_l, cats_d, cats_f, cats_q, cats_n, rv_s, rv_0, Nat.reduceAdd, Nat.reduceLeDiff, Nat.reduceEqDiff, Nat.add_zero, Nat.reduceMul, Nat.reduceSub, ne_eq, not_false_eq_true, not_true_eq_false, and_self, and_true, true_and, or_self, or_true, true_or, or_false, false_or, if_true, if_false, reduceIte, reduceCtorEq, implies_true, ite_self, ite_not, k73, c71 hT hW hlo hhi, c64 hT hC.1.2 (WF_e hC)]
theorem c73 (hT : TC f n J) (hW : WF f n P) {c : Int} (hc : 0 ≤ c ∧ c < 128) : Wp d 73 0 [some (.ref 73), some (.int (Int32.ofInt c))] [] (mk N t w (pC P J) L D) Q = Q (.inl (some (.int (pI (syT f c P = true))))) (mk N t w (pC P J) L D) := by
  have hk := WF_k hW
  have h4 := hT.1
  have e2 := hT.2.1
  have hz : (syT f c P = true) ↔ (P.2.2.1 = 3 ∧ f P.1 = c) := by
    unfold syT
    rw [decide_eq_true_eq]
  by_cases h : P.2.2.1 = 3
  · have h' : (P.2.2.1 : Int) = 3 := by omega
    have hs := hW.2.1.2.2.2 (by omega)
    have h1 := hW.1
    have g : (P.1 : Int) < (n : Int) := by omega
    have hb := hT.2.2 P.1 (by omega)
    have eJ : pC P J 16 P.1 = Int32.ofInt (f P.1) := by rw [pC_o (by omega)]; exact hb.1
    by_cases h2 : f P.1 = c
    · have hq : syT f c P = true := hz.2 ⟨h, h2⟩
      simp only [w73_0, w73_1, w73_4, w73_5, w73_8, w73_9, w73_12, w73_13, w73_16, w73_19, w73_20, w73_23, w73_24, w73_27, w73_28, w73_29, w73_32, w73_33, w73_36, w73_37, kn_s, kn_n, zh_mk, zR_mk, zI_mk, zL_mk, zD_mk, wI_mk, wL_mk, wD_mk, zT_mk, zC_mk, kill_i, kill_r, kill_0, kill_n, kill_l, kill_q, zzk_r, zzk_0, zzk_q, zcat_r, zcat_i, zcat_0, zcat_q, cats_0, cats_i, cats_r, cats_l, cats_d, cats_f, cats_q, cats_n, rv_s, rv_0, Nat.reduceAdd, Nat.reduceLeDiff, Nat.reduceEqDiff, Nat.add_zero, Nat.reduceMul, Nat.reduceSub, ne_eq, not_false_eq_true, not_true_eq_false, and_self, and_true, true_and, or_self, or_true, true_or, or_false, false_or, if_true, if_false, reduceIte, reduceCtorEq, implies_true, ite_self, ite_not, nz0, nz1, k73, k16, kr73_0, pC_2, pC_3, pC_4, e2, eJ, o_eq (a := (P.2.2.1 : Int)) (b := 3) (by omega), eq_true h', o_lt (a := (P.1 : Int)) (b := (n : Int)) (by omega), g, o_ixn (j := P.1) (n := 400) (by omega), o_tnn (j := P.1) (by omega), o_eq (a := f P.1) (b := c) (by omega), eq_true h2, pI, hq]
    · have hq : ¬ (syT f c P = true) := fun q => h2 (hz.1 q).2
      simp only [w73_0, w73_1, w73_4, w73_5, w73_8, w73_9, w73_12, w73_13, w73_16, w73_19, w73_20, w73_23, w73_24, w73_27, w73_28, w73_29, w73_32, w73_33, w73_36, w73_37, kn_s, kn_n, zh_mk, zR_mk, zI_mk, zL_mk, zD_mk, wI_mk, wL_mk, wD_mk, zT_mk, zC_mk, kill_i, kill_r, kill_0, kill_n, kill_l, kill_q, zzk_r, zzk_0, zzk_q, zcat_r, zcat_i, zcat_0, zcat_q, cats_0, cats_i, cats_r, cats_l, cats_d, cats_f, cats_q, cats_n, rv_s, rv_0, Nat.reduceAdd, Nat.reduceLeDiff, Nat.reduceEqDiff, Nat.add_zero, Nat.reduceMul, Nat.reduceSub, ne_eq, not_false_eq_true, not_true_eq_false, and_self, and_true, true_and, or_self, or_true, true_or, or_false, false_or, if_true, if_false, reduceIte, reduceCtorEq, implies_true, ite_self, ite_not, nz0, nz1, k73, k16, kr73_0, pC_2, pC_3, pC_4, e2, eJ, o_eq (a := (P.2.2.1 : Int)) (b := 3) (by omega), eq_true h', o_lt (a := (P.1 : Int)) (b := (n : Int)) (by omega), g, o_ixn (j := P.1) (n := 400) (by omega), o_tnn (j := P.1) (by omega), o_eq (a := f P.1) (b := c) (by omega), eq_false h2, pI, eq_false hq]
  · have h' : ¬ ((P.2.2.1 : Int) = 3) := by omega
    have hq : ¬ (syT f c P = true) := fun q => h (hz.1 q).1
    simp only [w73_0, w73_1, w73_4, w73_5, w73_8, w73_9, w73_12, w73_13, w73_16, w73_19, w73_20, w73_23, w73_24, w73_27, w73_28, w73_29, w73_32, w73_33, w73_36, w73_37, kn_s, kn_n, zh_mk, zR_mk, zI_mk, zL_mk, zD_mk, wI_mk, wL_mk, wD_mk, zT_mk, zC_mk, kill_i, kill_r, kill_0, kill_n, kill_l, kill_q, zzk_r, zzk_0, zzk_q, zcat_r, zcat_i, zcat_0, zcat_q, cats_0, cats_i, cats_r, cats_l, cats_d, cats_f, cats_q, cats_n, rv_s, rv_0, Nat.reduceAdd, Nat.reduceLeDiff, Nat.reduceEqDiff, Nat.add_zero, Nat.reduceMul, Nat.reduceSub, ne_eq, not_false_eq_true, not_true_eq_false, and_self, and_true, true_and, or_self, or_true, true_or, or_false, false_or, if_true, if_false, reduceIte, reduceCtorEq, implies_true, ite_self, ite_not, nz0, nz1, k73, pC_3, o_eq (a := (P.2.2.1 : Int)) (b := 3) (by omega), eq_false h', pI, eq_false hq]
theorem c72 (hT : TC f n J) (hW : WF f n P) : Wp (d + 2) 72 0 [some (.ref 73)] [] (mk N t w (pC P J) L D) Q = Q (.inl none) (mk N t w (pC (smT f n P) J) L D) := by
  have hF : WF f n (flT 1 P) := WF_fl (by omega) hW
  unfold smT
  by_cases h : syT f 59 P = true
  · simp only [w72_0, w72_1, w72_3, w72_6, w72_9, w72_10, w72_11, w72_14, w72_15, w72_18, kn_s, kn_n, zh_mk, zR_mk, zI_mk, zL_mk, zD_mk, wI_mk, wL_mk, wD_mk, zT_mk, zC_mk, kill_i, kill_r, kill_0, kill_n, kill_l, kill_q, zzk_r, zzk_0, zzk_q, zcat_r, zcat_i, zcat_0, zcat_q, cats_0, cats_i, cats_r, cats_l, cats_d, cats_f, cats_q, cats_n, rv_s, rv_0, Nat.reduceAdd, Nat.reduceLeDiff, Nat.reduceEqDiff, Nat.add_zero, Nat.reduceMul, Nat.reduceSub, ne_eq, not_false_eq_true, not_true_eq_false, and_self, and_true, true_and, or_self, or_true, true_or, or_false, false_or, if_true, if_false, reduceIte, reduceCtorEq, implies_true, ite_self, ite_not, k73, c73 hT hW (c := 59) (by omega), pI, eq_true h, i10, c64 hT hW.1.2 (WF_e hW)]
  · simp only [w72_0, w72_1, w72_3, w72_6, w72_9, w72_10, w72_11, w72_14, w72_15, w72_18, kn_s, kn_n, zh_mk, zR_mk, zI_mk, zL_mk, zD_mk, wI_mk, wL_mk, wD_mk, zT_mk, zC_mk, kill_i, kill_r, kill_0, kill_n, kill_l, kill_q, zzk_r, zzk_0, zzk_q, zcat_r, zcat_i, zcat_0, zcat_q, cats_0, cats_i, cats_r, cats_l, cats_d, cats_f, cats_q, cats_n, rv_s, rv_0, Nat.reduceAdd, Nat.reduceLeDiff, Nat.reduceEqDiff, Nat.add_zero, Nat.reduceMul, Nat.reduceSub, ne_eq, not_false_eq_true, not_true_eq_false, and_self, and_true, true_and, or_self, or_true, true_or, or_false, false_or, if_true, if_false, reduceIte, reduceCtorEq, implies_true, ite_self, ite_not, k73, c73 hT hW (c := 59) (by omega), pI, eq_false h, i00, c69 (c := 1) (z := 1) rfl (WF_e hW), c64 hT hF.1.2 (WF_e hF)]
end S79
