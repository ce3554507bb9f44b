/-! THE PARSER of the reference: tokens -/
def pR (P : PS) (J : Nat → Nat → Int32) : Nat → Nat → Int32 := fun a q => if a = 294 then (if q = 15 then Int32.ofInt (P.2.1 : Int) else if q = 16 then Int32.ofInt (P.1 : Int) else if q = 17 then Int32.ofInt (P.2.2.1 : Int) else if q = 18 then Int32.ofInt P.2.2.2.2 else if q = 19 then Int32.ofInt (P.2.2.2.1 : Int) else if q = 20 then (if P.2.2.2.1 = 0 then Int32.ofInt (-1) else Int32.ofInt (P.1 : Int)) else J a q) else J a q
def TR (f : Nat → Int) (n : Nat) (J : Nat → Nat → Int32) : Prop := n ≤ 400 ∧ J 294 14 = Int32.ofInt (n : Int) ∧ ∀ j, j < n → J 298 j = Int32.ofInt (f j) ∧ -128 ≤ f j ∧ f j < 128
def byR (f : Nat → Int) (n i : Nat) : Int := if i < n then f i % 256 else -1
theorem an_d : ∀ z, z < 256 → Int32.ofInt (((z : Nat) : Int) - 128) &&& Int32.ofInt 255 = Int32.ofInt ((((z : Nat) : Int) - 128) % 256) := by decide +kernel
theorem an_e {z : Int} (h : -128 ≤ z ∧ z < 128) : Int32.ofInt z &&& Int32.ofInt 255 = Int32.ofInt (z % 256) := by
  have := an_d (z + 128).toNat (by omega)
  rw [show (((z + 128).toNat : Nat) : Int) - 128 = z by omega] at this
  exact this
section S84
variable {d N t w n : Nat} {f : Nat → Int} {I J : Nat → Nat → Int32} {L : Nat → Nat → Int64} {D : Nat → Nat → UInt64} {Q : Rs → St → Prop} {P : PS}
theorem pR_15 : pR P J 294 15 = Int32.ofInt (P.2.1 : Int) := nr rfl
theorem pR_16 : pR P J 294 16 = Int32.ofInt (P.1 : Int) := nr rfl
theorem pR_17 : pR P J 294 17 = Int32.ofInt (P.2.2.1 : Int) := nr rfl
theorem pR_18 : pR P J 294 18 = Int32.ofInt P.2.2.2.2 := nr rfl
theorem pR_19 : pR P J 294 19 = Int32.ofInt (P.2.2.2.1 : Int) := nr rfl
theorem pR_14 : pR P J 294 14 = J 294 14 := nr rfl
theorem pR_o {a q : Nat} (h : a ≠ 294 ∨ (q < 15 ∨ 20 < q)) : pR P J a q = J a q := by
  unfold pR
  by_cases e : a = 294
  · rw [if_pos e, if_neg (by omega), if_neg (by omega), if_neg (by omega), if_neg (by omega), if_neg (by omega), if_neg (by omega)]
  · rw [if_neg e]
theorem pR_u15 {x s e k : Nat} {v : Int} : up2 (pR (s, e, k, 0, v) J) 294 15 (Int32.ofInt (x : Int)) = pR (s, x, k, 0, v) J := by
  funext a q
  unfold up2 pR
  by_cases h : a = 294
  · subst h
    by_cases h3 : q = 15
    · simp [h3]
    · simp [h3]
  · simp [h]
theorem pR_u16 {x s e k : Nat} {v : Int} : up2 (pR (s, e, k, 0, v) J) 294 16 (Int32.ofInt (x : Int)) = pR (x, e, k, 0, v) J := by
  funext a q
  unfold up2 pR
  by_cases h : a = 294
  · subst h
    by_cases h3 : q = 16
    · simp [h3]
    · simp [h3]
  · simp [h]
theorem pR_u17 {x s e k : Nat} {v : Int} : up2 (pR (s, e, k, 0, v) J) 294 17 (Int32.ofInt (x : Int)) = pR (s, e, x, 0, v) J := by
  funext a q
  unfold up2 pR
  by_cases h : a = 294
  · subst h
    by_cases h3 : q = 17
    · simp [h3]
    · simp [h3]
  · simp [h]
theorem pR_u18 {s e k : Nat} {v x : Int} : up2 (pR (s, e, k, 0, v) J) 294 18 (Int32.ofInt x) = pR (s, e, k, 0, x) J := by
  funext a q
  unfold up2 pR
  by_cases h : a = 294
  · subst h
    by_cases h3 : q = 18
    · simp [h3]
    · simp [h3]
  · simp [h]
theorem TR_pR (h : TR f n J) : TR f n (pR P J) := ⟨h.1, h.2.1, fun j hj => by rw [pR_o (by omega)]; exact h.2.2 j hj⟩
theorem by_b {i : Nat} : -1 ≤ byR f n i ∧ byR f n i < 256 := by
  unfold byR
  split <;> omega
theorem by_4 {i : Nat} (hb : i < n → -128 ≤ f i ∧ f i < 128) : (byR f n i = 32 ∨ byR f n i = 10) ↔ kd0 f n i = 4 := by
  unfold byR kd0
  by_cases h : i < n
  · have := hb h
    rw [if_pos h, if_neg (by omega)]
    split
    · omega
    · split
      · omega
      · split <;> omega
  · rw [if_neg h, if_pos (by omega)]
    omega
theorem by_0 {i : Nat} : byR f n i = -1 ↔ kd0 f n i = 0 := by
  rw [kd_0]
  unfold byR
  split <;> omega
theorem by_1 {i : Nat} (hb : i < n → -128 ≤ f i ∧ f i < 128) : (97 ≤ byR f n i ∧ byR f n i ≤ 122) ↔ kd0 f n i = 1 := by
  rw [kd_1]
  unfold byR
  by_cases h : i < n
  · have := hb h
    rw [if_pos h]
    omega
  · rw [if_neg h]
    omega
theorem by_2 {i : Nat} (hb : i < n → -128 ≤ f i ∧ f i < 128) : (48 ≤ byR f n i ∧ byR f n i ≤ 57) ↔ kd0 f n i = 2 := by
  unfold byR kd0
  by_cases h : i < n
  · have := hb h
    rw [if_pos h, if_neg (by omega)]
    split
    · omega
    · split
      · omega
      · split <;> omega
  · rw [if_neg h, if_pos (by omega)]
    omega
theorem by_f {i : Nat} (h : i < n) (hf : 0 ≤ f i ∧ f i < 128) : byR f n i = f i := by
  unfold byR
  rw [if_pos h]
  omega
theorem c157 (hT : TR f n I) {i : Nat} (hi : i ≤ n) : Wp d 157 0 [some (.ref 294), some (.int (Int32.ofInt (i : Int)))] [] (mk N t w I L D) Q = Q (.inl (some (.int (Int32.ofInt (byR f n i))))) (mk N t w I L D) := by
  have h4 := hT.1
  unfold byR
  by_cases h : i < n
  · have g : (i : Int) < n := by omega
    have hb := hT.2.2 i h
    simp only [w157_0, w157_1, w157_2, w157_5, w157_8, w157_9, w157_12, w157_13, w157_14, w157_17, w157_18, w157_21, w157_22, kn_s, kn_n, zh_mk, zR_mk, zI_mk, zL_mk, zD_mk, wI_mk, wL_mk, wD_mk, zT_mk, zC_mk, kill_i, kill_r, kill_0, kill_n, kill_l, kill_q, zzk_r, zzk_0, zzk_q, zcat_r, zcat_i, zcat_0, cats_0, cats_i, cats_r, cats_l, cats_d, cats_f, rv_s, rv_0, Nat.reduceAdd, Nat.reduceLeDiff, Nat.add_zero, Nat.reduceMul, Nat.reduceSub, ne_eq, not_false_eq_true, not_true_eq_false, and_self, and_true, true_and, or_self, or_true, true_or, or_false, false_or, if_true, if_false, reduceIte, reduceCtorEq, implies_true, ite_self, ite_not, kM, k298, kr294_12, hT.2.1, hb.1, o_lt (a := (i : Int)) (b := (n : Int)) (by omega), g, o_ixn (j := i) (n := 400) (by omega), o_tnn (j := i) (by omega), an_e hb.2, eq_true h]
  · have g : ¬ ((i : Int) < n) := by omega
    simp only [w157_0, w157_1, w157_2, w157_5, w157_8, w157_9, w157_12, w157_13, w157_14, w157_17, w157_18, w157_21, w157_22, kn_s, kn_n, zh_mk, zR_mk, zI_mk, zL_mk, zD_mk, wI_mk, wL_mk, wD_mk, zT_mk, zC_mk, kill_i, kill_r, kill_0, kill_n, kill_l, kill_q, zzk_r, zzk_0, zzk_q, zcat_r, zcat_i, zcat_0, cats_0, cats_i, cats_r, cats_l, cats_d, cats_f, rv_s, rv_0, Nat.reduceAdd, Nat.reduceLeDiff, Nat.add_zero, Nat.reduceMul, Nat.reduceSub, ne_eq, not_false_eq_true, not_true_eq_false, and_self, and_true, true_and, or_self, or_true, true_or, or_false, false_or, if_true, if_false, reduceIte, reduceCtorEq, implies_true, ite_self, ite_not, kM, hT.2.1, o_lt (a := (i : Int)) (b := (n : Int)) (by omega), g, eq_false h]
theorem c156_0 (hT : TR f n J) {s k : Nat} {v : Int} : ∀ r i : Nat, i + r = n → Wp (d + 1) 156 0 [some (.ref 294), none] [] (mk N t w (pR (s, i, k, 0, v) J) L D) Q = Wp (d + 1) 156 39 [some (.ref 294), none] [] (mk N t w (pR (s, exL f n 4 r i, k, 0, v) J) L D) Q := by
  have h4 := hT.1
  have out : ∀ i, i ≤ n → kd0 f n i ≠ 4 → Wp (d + 1) 156 0 [some (.ref 294), none] [] (mk N t w (pR (s, i, k, 0, v) J) L D) Q = Wp (d + 1) 156 39 [some (.ref 294), none] [] (mk N t w (pR (s, i, k, 0, v) J) L D) Q := by
    intro i hi h
    have hb : i < n → -128 ≤ f i ∧ f i < 128 := fun q => (hT.2.2 i q).2
    have hq := fun q => h ((by_4 hb).1 q)
    have hbb := by_b (f := f) (n := n) (i := i)
    have q1 : ¬ (byR f n i = 32) := fun q => hq (Or.inl q)
    have q2 : ¬ (byR f n i = 10) := fun q => hq (Or.inr q)
    rw [w156_0 zzk_r]
    simp only [w156_1, w156_2, w156_5, w156_8, w156_10, w156_13, w156_14, w156_15, w156_18, w156_21, w156_23, kn_s, kn_n, zh_mk, zR_mk, zI_mk, zL_mk, zD_mk, wI_mk, wL_mk, wD_mk, zT_mk, zC_mk, kill_i, kill_r, kill_0, kill_n, kill_l, kill_q, zzk_r, zzk_0, zzk_q, zcat_r, zcat_i, zcat_0, cats_0, cats_i, cats_r, cats_l, cats_d, cats_f, rv_s, rv_0, Nat.reduceAdd, Nat.reduceLeDiff, Nat.add_zero, Nat.reduceMul, Nat.reduceSub, ne_eq, not_false_eq_true, not_true_eq_false, and_self, and_true, true_and, or_self, or_true, true_or, or_false, false_or, if_true, if_false, reduceIte, reduceCtorEq, implies_true, ite_self, ite_not, kM, pR_15, c157 (TR_pR hT) hi, o_eq (a := byR f n i) (b := 32) (by omega), eq_false q1, o_eq (a := byR f n i) (b := 10) (by omega), eq_false q2]
  intro r
  induction r with
  | zero =>
    intro i hi
    exact out i (by omega) (by rw [kd_0.2 (by omega)]; omega)
  | succ r ih =>
    intro i hi
    rw [exL_s]
    by_cases h : kd0 f n i = 4
    · have hb : i < n → -128 ≤ f i ∧ f i < 128 := fun q => (hT.2.2 i q).2
      have hq := (by_4 hb).2 h
      have hbb := by_b (f := f) (n := n) (i := i)
      have e : pR (s, i + 1, k, 0, v) J = up2 (pR (s, i, k, 0, v) J) 294 15 (Int32.ofInt ((i + 1 : Nat) : Int)) := pR_u15.symm
      rw [if_pos h, ← ih (i + 1) (by omega), w156_0 zzk_r]
      by_cases q1 : byR f n i = 32
      · simp only [w156_1, w156_2, w156_5, w156_8, w156_10, w156_13, w156_14, w156_15, w156_18, w156_21, w156_23, w156_26, w156_27, w156_28, w156_31, w156_32, w156_33, w156_36, kn_s, kn_n, zh_mk, zR_mk, zI_mk, zL_mk, zD_mk, wI_mk, wL_mk, wD_mk, zT_mk, zC_mk, kill_i, kill_r, kill_0, kill_n, kill_l, kill_q, zzk_r, zzk_0, zzk_q, zcat_r, zcat_i, zcat_0, cats_0, cats_i, cats_r, cats_l, cats_d, cats_f, rv_s, rv_0, Nat.reduceAdd, Nat.reduceLeDiff, Nat.add_zero, Nat.reduceMul, Nat.reduceSub, ne_eq, not_false_eq_true, not_true_eq_false, and_self, and_true, true_and, or_self, or_true, true_or, or_false, false_or, if_true, if_false, reduceIte, reduceCtorEq, implies_true, ite_self, ite_not, o_add, cast_s, kM, pR_15, pR_u15, c157 (TR_pR hT) (show i ≤ n by omega), o_eq (a := byR f n i) (b := 32) (by omega), eq_true q1]
      · have q2 : byR f n i = 10 := by omega
        simp only [w156_1, w156_2, w156_5, w156_8, w156_10, w156_13, w156_14, w156_15, w156_18, w156_21, w156_23, w156_26, w156_27, w156_28, w156_31, w156_32, w156_33, w156_36, kn_s, kn_n, zh_mk, zR_mk, zI_mk, zL_mk, zD_mk, wI_mk, wL_mk, wD_mk, zT_mk, zC_mk, kill_i, kill_r, kill_0, kill_n, kill_l, kill_q, zzk_r, zzk_0, zzk_q, zcat_r, zcat_i, zcat_0, cats_0, cats_i, cats_r, cats_l, cats_d, cats_f, rv_s, rv_0, Nat.reduceAdd, Nat.reduceLeDiff, Nat.add_zero, Nat.reduceMul, Nat.reduceSub, ne_eq, not_false_eq_true, not_true_eq_false, and_self, and_true, true_and, or_self, or_true, true_or, or_false, false_or, if_true, if_false, reduceIte, reduceCtorEq, implies_true, ite_self, ite_not, o_add, cast_s, kM, pR_15, pR_u15, c157 (TR_pR hT) (show i ≤ n by omega), o_eq (a := byR f n i) (b := 32) (by omega), eq_false q1, o_eq (a := byR f n i) (b := 10) (by omega), eq_true q2]
    · rw [if_neg h]
      exact out i (by omega) h
theorem c156_83 (hT : TR f n J) {s k : Nat} {v : Int} {x : Option Value} : ∀ r i : Nat, i + r = n → Wp (d + 1) 156 83 [some (.ref 294), x] [] (mk N t w (pR (s, i, k, 0, v) J) L D) Q = Q (.inl none) (mk N t w (pR (s, exL f n 1 r i, 1, 0, v) J) L D) := by
  have h4 := hT.1
  have out : ∀ i, i ≤ n → kd0 f n i ≠ 1 → Wp (d + 1) 156 83 [some (.ref 294), x] [] (mk N t w (pR (s, i, k, 0, v) J) L D) Q = Q (.inl none) (mk N t w (pR (s, i, 1, 0, v) J) L D) := by
    intro i hi h
    have hb : i < n → -128 ≤ f i ∧ f i < 128 := fun q => (hT.2.2 i q).2
    have hq := (fun q => h ((by_1 hb).1 q) : ¬ (97 ≤ byR f n i ∧ byR f n i ≤ 122))
    have hbb := by_b (f := f) (n := n) (i := i)
    have e1 : Int32.ofInt 1 = Int32.ofInt ((1 : Nat) : Int) := rfl
    rw [w156_83 zzk_r]
    simp only [w156_84, w156_85, w156_88, w156_91, w156_92, w156_95, w156_98, w156_101, w156_104, w156_105, w156_106, w156_109, w156_110, w156_111, w156_114, w156_117, w156_118, w156_119, w156_122, w156_235, kn_s, kn_n, zh_mk, zR_mk, zI_mk, zL_mk, zD_mk, wI_mk, wL_mk, wD_mk, zT_mk, zC_mk, kill_i, kill_r, kill_0, kill_n, kill_l, kill_q, zzk_r, zzk_0, zzk_q, zcat_r, zcat_i, zcat_0, cats_0, cats_i, cats_r, cats_l, cats_d, cats_f, rv_s, rv_0, Nat.reduceAdd, Nat.reduceLeDiff, Nat.add_zero, Nat.reduceMul, Nat.reduceSub, ne_eq, not_false_eq_true, not_true_eq_false, and_self, and_true, true_and, or_self, or_true, true_or, or_false, false_or, if_true, if_false, reduceIte, reduceCtorEq, implies_true, ite_self, ite_not, kM, pR_15, c157 (TR_pR hT) hi, o_64 (z := byR f n i) (by omega), c154 (a := byR f n i) (b := 97) (c := 122) (by omega), pI, eq_false hq, i00]
    rw [e1, pR_u17]
  intro r
  induction r with
  | zero =>
    intro i hi
    exact out i (by omega) (by rw [kd_0.2 (by omega)]; omega)
  | succ r ih =>
    intro i hi
    rw [exL_s]
    by_cases h : kd0 f n i = 1
    · have hb : i < n → -128 ≤ f i ∧ f i < 128 := fun q => (hT.2.2 i q).2
      have hq := (by_1 hb).2 h
      have hbb := by_b (f := f) (n := n) (i := i)
      rw [if_pos h, ← ih (i + 1) (by omega), w156_83 zzk_r]
      simp only [w156_84, w156_85, w156_88, w156_91, w156_92, w156_95, w156_98, w156_101, w156_104, w156_105, w156_106, w156_109, w156_110, w156_111, w156_114, kn_s, kn_n, zh_mk, zR_mk, zI_mk, zL_mk, zD_mk, wI_mk, wL_mk, wD_mk, zT_mk, zC_mk, kill_i, kill_r, kill_0, kill_n, kill_l, kill_q, zzk_r, zzk_0, zzk_q, zcat_r, zcat_i, zcat_0, cats_0, cats_i, cats_r, cats_l, cats_d, cats_f, rv_s, rv_0, Nat.reduceAdd, Nat.reduceLeDiff, Nat.add_zero, Nat.reduceMul, Nat.reduceSub, ne_eq, not_false_eq_true, not_true_eq_false, and_self, and_true, true_and, or_self, or_true, true_or, or_false, false_or, if_true, if_false, reduceIte, reduceCtorEq, implies_true, ite_self, ite_not, o_add, cast_s, kM, pR_15, pR_u15, c157 (TR_pR hT) (show i ≤ n by omega), o_64 (z := byR f n i) (by omega), c154 (a := byR f n i) (b := 97) (c := 122) (by omega), pI, eq_true hq, i10]
    · rw [if_neg h]
      exact out i (by omega) h
theorem c156_144 (hT : TR f n J) {s k : Nat} {x : Option Value} : ∀ (r i : Nat) (v : Int), i + r = n → 0 ≤ v ∧ v ≤ 9999 → Wp (d + 1) 156 144 [some (.ref 294), x] [] (mk N t w (pR (s, i, k, 0, v) J) L D) Q = Q (.inl none) (mk N t w (pR (s, exL f n 2 r i, 2, 0, vaL f (exL f n 2 r i - i) i v) J) L D) := by
  have h4 := hT.1
  have out : ∀ (i : Nat) (v : Int), i ≤ n → kd0 f n i ≠ 2 → Wp (d + 1) 156 144 [some (.ref 294), x] [] (mk N t w (pR (s, i, k, 0, v) J) L D) Q = Q (.inl none) (mk N t w (pR (s, i, 2, 0, vaL f (i - i) i v) J) L D) := by
    intro i v hi h
    have hb : i < n → -128 ≤ f i ∧ f i < 128 := fun q => (hT.2.2 i q).2
    have hq := (fun q => h ((by_2 hb).1 q) : ¬ (48 ≤ byR f n i ∧ byR f n i ≤ 57))
    have hbb := by_b (f := f) (n := n) (i := i)
    have e1 : Int32.ofInt 2 = Int32.ofInt ((2 : Nat) : Int) := rfl
    rw [Nat.sub_self, w156_144 zzk_r]
    simp only [w156_145, w156_146, w156_149, w156_152, w156_153, w156_156, w156_159, w156_162, w156_165, w156_166, w156_169, w156_171, w156_172, w156_175, w156_176, w156_177, w156_178, w156_181, w156_184, w156_185, w156_187, w156_188, w156_191, w156_194, w156_195, w156_196, w156_199, w156_200, w156_201, w156_204, w156_207, w156_208, w156_209, w156_212, w156_235, kn_s, kn_n, zh_mk, zR_mk, zI_mk, zL_mk, zD_mk, wI_mk, wL_mk, wD_mk, zT_mk, zC_mk, kill_i, kill_r, kill_0, kill_n, kill_l, kill_q, zzk_r, zzk_0, zzk_q, zcat_r, zcat_i, zcat_0, cats_0, cats_i, cats_r, cats_l, cats_d, cats_f, rv_s, rv_0, Nat.reduceAdd, Nat.reduceLeDiff, Nat.add_zero, Nat.reduceMul, Nat.reduceSub, ne_eq, not_false_eq_true, not_true_eq_false, and_self, and_true, true_and, or_self, or_true, true_or, or_false, false_or, if_true, if_false, reduceIte, reduceCtorEq, implies_true, ite_self, ite_not, kM, pR_15, c157 (TR_pR hT) hi, o_64 (z := byR f n i) (by omega), c154 (a := byR f n i) (b := 48) (c := 57) (by omega), pI, eq_false hq, i00, vaL]
    rw [e1, pR_u17]
  intro r
  induction r with
  | zero =>
    intro i v hi hv
    exact out i v (by omega) (by rw [kd_0.2 (by omega)]; omega)
  | succ r ih =>
    intro i v hi hv
    rw [exL_s]
    by_cases h : kd0 f n i = 2
    · have hb : i < n → -128 ≤ f i ∧ f i < 128 := fun q => (hT.2.2 i q).2
      have hd := kd_2 h
      have hq := (by_2 hb).2 h
      have hbb := by_b (f := f) (n := n) (i := i)
      have ef := by_f (f := f) (n := n) (i := i) hd.1 (by omega)
      have hE := (exL_b (f := f) (n := n) (k := 2) (by omega) r (i + 1) (by omega)).1
      have ev : vaL f (exL f n 2 r (i + 1) - i) i v = vaL f (exL f n 2 r (i + 1) - (i + 1)) (i + 1) (if 10 * v + f i - 48 < 9999 then 10 * v + f i - 48 else 9999) := by
        rw [show exL f n 2 r (i + 1) - i = (exL f n 2 r (i + 1) - (i + 1)) + 1 by omega, vaL_s]
      have ih' := ih (i + 1) (if 10 * v + f i - 48 < 9999 then 10 * v + f i - 48 else 9999) (by omega) (by split <;> omega)
      rw [if_pos h, ev, ← ih', w156_144 zzk_r]
      by_cases q : 10 * v + f i - 48 < 9999
      · simp only [w156_145, w156_146, w156_149, w156_152, w156_153, w156_156, w156_159, w156_162, w156_165, w156_166, w156_169, w156_171, w156_172, w156_175, w156_176, w156_177, w156_178, w156_181, w156_184, w156_185, w156_187, w156_188, w156_191, w156_194, w156_195, w156_196, w156_199, w156_200, w156_201, w156_204, kn_s, kn_n, zh_mk, zR_mk, zI_mk, zL_mk, zD_mk, wI_mk, wL_mk, wD_mk, zT_mk, zC_mk, kill_i, kill_r, kill_0, kill_n, kill_l, kill_q, zzk_r, zzk_0, zzk_q, zcat_r, zcat_i, zcat_0, cats_0, cats_i, cats_r, cats_l, cats_d, cats_f, rv_s, rv_0, Nat.reduceAdd, Nat.reduceLeDiff, Nat.add_zero, Nat.reduceMul, Nat.reduceSub, ne_eq, not_false_eq_true, not_true_eq_false, and_self, and_true, true_and, or_self, or_true, true_or, or_false, false_or, if_true, if_false, reduceIte, reduceCtorEq, implies_true, ite_self, ite_not, o_add, o_sub, o_mul, o_neg, q_add, q_sub, q_mul, q_neg, o_32, cast_s, kM, pR_15, pR_18, pR_u15, pR_u18, c157 (TR_pR hT) (show i ≤ n by omega), o_64 (z := f i) (by omega), c154 (a := f i) (b := 48) (c := 57) (by omega), pI, eq_true hd.2, i10, ef, o_lt (a := 10 * v + f i - 48) (b := 9999) (by omega), eq_true q]
      · simp only [w156_145, w156_146, w156_149, w156_152, w156_153, w156_156, w156_159, w156_162, w156_165, w156_166, w156_169, w156_171, w156_172, w156_175, w156_176, w156_177, w156_178, w156_181, w156_184, w156_185, w156_187, w156_188, w156_191, w156_194, w156_195, w156_196, w156_199, w156_200, w156_201, w156_204, kn_s, kn_n, zh_mk, zR_mk, zI_mk, zL_mk, zD_mk, wI_mk, wL_mk, wD_mk, zT_mk, zC_mk, kill_i, kill_r, kill_0, kill_n, kill_l, kill_q, zzk_r, zzk_0, zzk_q, zcat_r, zcat_i, zcat_0, cats_0, cats_i, cats_r, cats_l, cats_d, cats_f, rv_s, rv_0, Nat.reduceAdd, Nat.reduceLeDiff, Nat.add_zero, Nat.reduceMul, Nat.reduceSub, ne_eq, not_false_eq_true, not_true_eq_false, and_self, and_true, true_and, or_self, or_true, true_or, or_false, false_or, if_true, if_false, reduceIte, reduceCtorEq, implies_true, ite_self, ite_not, o_add, o_sub, o_mul, o_neg, q_add, q_sub, q_mul, q_neg, o_32, cast_s, kM, pR_15, pR_18, pR_u15, pR_u18, c157 (TR_pR hT) (show i ≤ n by omega), o_64 (z := f i) (by omega), c154 (a := f i) (b := 48) (c := 57) (by omega), pI, eq_true hd.2, i10, ef, o_lt (a := 10 * v + f i - 48) (b := 9999) (by omega), eq_false q]
    · rw [if_neg h]
      exact out i v (by omega) h
/-- the next token -/
theorem c156 (hT : TR f n J) {s e k : Nat} {v : Int} (he : e ≤ n) : Wp (d + 1) 156 0 [some (.ref 294), none] [] (mk N t w (pR (s, e, k, 0, v) J) L D) Q = Q (.inl none) (mk N t w (pR (tok f n e v) J) L D) := by
  have h4 := hT.1
  have hs := tkS_b (f := f) (i := e) he
  rw [c156_0 hT (n - e) e (by omega)]
  show Wp (d + 1) 156 39 _ _ (mk N t w (pR (s, tkS f n e, k, 0, v) J) L D) Q = _
  unfold tok
  generalize tkS f n e = i at hs ⊢
  have hb : i < n → -128 ≤ f i ∧ f i < 128 := fun q => (hT.2.2 i q).2
  have hbb := by_b (f := f) (n := n) (i := i)
  have hc := fun (Q : Rs → St → Prop) (P : PS) => c157 (d := d) (N := N) (t := t) (w := w) (L := L) (D := D) (Q := Q) (TR_pR (P := P) hT) (i := i) hs.2.1
  by_cases h0 : kd0 f n i = 0
  · have q0 := by_0.2 h0
    have e0 : Int32.ofInt 0 = Int32.ofInt ((0 : Nat) : Int) := rfl
    have et : tkE f n i = i := by unfold tkE; rw [if_pos h0]
    have ev : tkV f n i v = v := by unfold tkV; rw [if_neg (by omega), if_neg (by omega)]
    rw [et, ev, h0]
    simp only [w156_39, w156_40, w156_41, w156_44, w156_47, w156_48, w156_49, w156_52, w156_55, w156_56, w156_57, w156_58, w156_61, w156_62, w156_63, w156_66, w156_235, kn_s, kn_n, zh_mk, zR_mk, zI_mk, zL_mk, zD_mk, wI_mk, wL_mk, wD_mk, zT_mk, zC_mk, kill_i, kill_r, kill_0, kill_n, kill_l, kill_q, zzk_r, zzk_0, zzk_q, zcat_r, zcat_i, zcat_0, cats_0, cats_i, cats_r, cats_l, cats_d, cats_f, rv_s, rv_0, Nat.reduceAdd, Nat.reduceLeDiff, Nat.add_zero, Nat.reduceMul, Nat.reduceSub, ne_eq, not_false_eq_true, not_true_eq_false, and_self, and_true, true_and, or_self, or_true, true_or, or_false, false_or, if_true, if_false, reduceIte, reduceCtorEq, implies_true, ite_self, ite_not, kM, pR_15, pR_u16, hc, o_eq (a := byR f n i) (b := -1) (by omega), eq_true q0]
    rw [e0, pR_u17]
  · have q0 : ¬ (byR f n i = -1) := fun q => h0 (by_0.1 q)
    have hn : i < n := by
      have : ¬ (n ≤ i) := fun q => h0 (kd_0.2 q)
      omega
    by_cases h1 : kd0 f n i = 1
    · have q1 := (by_1 hb).2 h1
      have et : tkE f n i = exL f n 1 (n - i) i := by
        unfold tkE
        rw [if_neg h0, if_neg (by omega), h1, show n - i = (n - (i + 1)) + 1 by omega, exL_s, if_pos h1]
      have ev : tkV f n i v = v := by unfold tkV; rw [if_neg (by omega), if_neg (by omega)]
      have l := c156_83 (d := d) (N := N) (t := t) (w := w) (L := L) (D := D) (Q := Q) (s := i) (k := k) (v := v) (x := some (.int (Int32.ofInt (byR f n i)))) hT (n - i) i (by omega)
      rw [et, ev, h1, ← l]
      simp only [w156_39, w156_40, w156_41, w156_44, w156_47, w156_48, w156_49, w156_52, w156_55, w156_56, w156_57, w156_58, w156_61, w156_62, w156_63, w156_66, w156_69, w156_70, w156_71, w156_74, w156_77, w156_80, kn_s, kn_n, zh_mk, zR_mk, zI_mk, zL_mk, zD_mk, wI_mk, wL_mk, wD_mk, zT_mk, zC_mk, kill_i, kill_r, kill_0, kill_n, kill_l, kill_q, zzk_r, zzk_0, zzk_q, zcat_r, zcat_i, zcat_0, cats_0, cats_i, cats_r, cats_l, cats_d, cats_f, rv_s, rv_0, Nat.reduceAdd, Nat.reduceLeDiff, Nat.add_zero, Nat.reduceMul, Nat.reduceSub, ne_eq, not_false_eq_true, not_true_eq_false, and_self, and_true, true_and, or_self, or_true, true_or, or_false, false_or, if_true, if_false, reduceIte, reduceCtorEq, implies_true, ite_self, ite_not, kM, pR_15, pR_u16, hc, o_eq (a := byR f n i) (b := -1) (by omega), eq_false q0, o_64 (z := byR f n i) (by omega), c154 (a := byR f n i) (b := 97) (c := 122) (by omega), pI, eq_true q1, i10]
    · have q1 := (fun q => h1 ((by_1 hb).1 q) : ¬ (97 ≤ byR f n i ∧ byR f n i ≤ 122))
      by_cases h2 : kd0 f n i = 2
      · have q2 := (by_2 hb).2 h2
        have et : tkE f n i = exL f n 2 (n - i) i := by
          unfold tkE
          rw [if_neg h0, if_neg (by omega), h2, show n - i = (n - (i + 1)) + 1 by omega, exL_s, if_pos h2]
        have ev : tkV f n i v = vaL f (tkE f n i - i) i 0 := by unfold tkV; rw [if_pos h2]
        have l := c156_144 (d := d) (N := N) (t := t) (w := w) (L := L) (D := D) (Q := Q) (s := i) (k := k) (x := some (.int (Int32.ofInt (byR f n i)))) hT (n - i) i 0 (by omega) (by omega)
        rw [ev, et, h2, ← l]
        simp only [w156_39, w156_40, w156_41, w156_44, w156_47, w156_48, w156_49, w156_52, w156_55, w156_56, w156_57, w156_58, w156_61, w156_62, w156_63, w156_66, w156_69, w156_70, w156_71, w156_74, w156_77, w156_80, w156_83, w156_84, w156_85, w156_88, w156_91, w156_92, w156_95, w156_98, w156_101, w156_104, w156_105, w156_106, w156_109, w156_110, w156_111, w156_114, w156_117, w156_118, w156_119, w156_122, w156_125, w156_126, w156_127, w156_130, w156_133, w156_136, w156_139, w156_140, w156_141, kn_s, kn_n, zh_mk, zR_mk, zI_mk, zL_mk, zD_mk, wI_mk, wL_mk, wD_mk, zT_mk, zC_mk, kill_i, kill_r, kill_0, kill_n, kill_l, kill_q, zzk_r, zzk_0, zzk_q, zcat_r, zcat_i, zcat_0, cats_0, cats_i, cats_r, cats_l, cats_d, cats_f, rv_s, rv_0, Nat.reduceAdd, Nat.reduceLeDiff, Nat.add_zero, Nat.reduceMul, Nat.reduceSub, ne_eq, not_false_eq_true, not_true_eq_false, and_self, and_true, true_and, or_self, or_true, true_or, or_false, false_or, if_true, if_false, reduceIte, reduceCtorEq, implies_true, ite_self, ite_not, kM, pR_15, pR_u16, pR_u18, hc, o_eq (a := byR f n i) (b := -1) (by omega), eq_false q0, o_64 (z := byR f n i) (by omega), c154 (a := byR f n i) (b := 97) (c := 122) (by omega), c154 (a := byR f n i) (b := 48) (c := 57) (by omega), pI, eq_false q1, i00, eq_true q2, i10]
      · have q2 := (fun q => h2 ((by_2 hb).1 q) : ¬ (48 ≤ byR f n i ∧ byR f n i ≤ 57))
        have h3 : kd0 f n i = 3 := by
          have := kd_le (f := f) (n := n) (i := i)
          omega
        have e3 : Int32.ofInt 3 = Int32.ofInt ((3 : Nat) : Int) := rfl
        have et : tkE f n i = i + 1 := by unfold tkE; rw [if_neg h0, if_pos h3]
        have ev : tkV f n i v = byR f n i := by unfold tkV byR; rw [if_neg h2, if_pos h3, if_pos hn]
        rw [et, ev, h3]
        simp only [w156_39, w156_40, w156_41, w156_44, w156_47, w156_48, w156_49, w156_52, w156_55, w156_56, w156_57, w156_58, w156_61, w156_62, w156_63, w156_66, w156_69, w156_70, w156_71, w156_74, w156_77, w156_80, w156_83, w156_84, w156_85, w156_88, w156_91, w156_92, w156_95, w156_98, w156_101, w156_104, w156_105, w156_106, w156_109, w156_110, w156_111, w156_114, w156_117, w156_118, w156_119, w156_122, w156_125, w156_126, w156_127, w156_130, w156_133, w156_136, w156_139, w156_140, w156_141, w156_215, w156_216, w156_217, kn_s, kn_n, zh_mk, zR_mk, zI_mk, zL_mk, zD_mk, wI_mk, wL_mk, wD_mk, zT_mk, zC_mk, kill_i, kill_r, kill_0, kill_n, kill_l, kill_q, zzk_r, zzk_0, zzk_q, zcat_r, zcat_i, zcat_0, cats_0, cats_i, cats_r, cats_l, cats_d, cats_f, rv_s, rv_0, Nat.reduceAdd, Nat.reduceLeDiff, Nat.add_zero, Nat.reduceMul, Nat.reduceSub, ne_eq, not_false_eq_true, not_true_eq_false, and_self, and_true, true_and, or_self, or_true, true_or, or_false, false_or, if_true, if_false, reduceIte, reduceCtorEq, implies_true, ite_self, ite_not, kM, pR_15, pR_u16, hc, o_eq (a := byR f n i) (b := -1) (by omega), eq_false q0, o_64 (z := byR f n i) (by omega), c154 (a := byR f n i) (b := 97) (c := 122) (by omega), c154 (a := byR f n i) (b := 48) (c := 57) (by omega), pI, eq_false q1, i00, eq_false q2]
        rw [e3, pR_u17]
        simp only [w156_220, w156_221, w156_222, w156_225, w156_226, w156_227, w156_230, w156_231, w156_232, w156_235, kn_s, kn_n, zh_mk, zR_mk, zI_mk, zL_mk, zD_mk, wI_mk, wL_mk, wD_mk, zT_mk, zC_mk, kill_i, kill_r, kill_0, kill_n, kill_l, kill_q, zzk_r, zzk_0, zzk_q, zcat_r, zcat_i, zcat_0, cats_0, cats_i, cats_r, cats_l, cats_d, cats_f, rv_s, rv_0, Nat.reduceAdd, Nat.reduceLeDiff, Nat.add_zero, Nat.reduceMul, Nat.reduceSub, ne_eq, not_false_eq_true, not_true_eq_false, and_self, and_true, true_and, or_self, or_true, true_or, or_false, false_or, if_true, if_false, reduceIte, reduceCtorEq, implies_true, ite_self, ite_not, o_add, cast_s, kM, pR_15, pR_u15, pR_u18]
end S84
