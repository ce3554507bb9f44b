/-! CONTRACTS of the reference: a pulse -/
def sdA (α : Nat → Int) (j : Nat) : Int := α (B9 j 3) + zabs (α (B9 j 1))
def nsv (α : Nat → Int) (j : Nat) : Int := if 60 ≤ sdA α j then sdA α j - 60 else sdA α j
def svA (α : Nat → Int) : Nat → (Nat → Int)
  | 0 => α
  | i + 1 => up1 (svA α i) (B9 i 3) (nsv α i)
def dlA (α : Nat → Int) : Nat → Nat
  | 0 => 0
  | i + 1 => if 60 ≤ sdA α i ∧ α (B9 i 1) < 0 then dlA α i ||| 2 ^ i else dlA α i
def dqA (α : Nat → Int) : Nat → Nat
  | 0 => 0
  | i + 1 => if 60 ≤ sdA α i ∧ 0 < α (B9 i 1) then dqA α i ||| 2 ^ i else dqA α i
theorem svA_ne {α : Nat → Int} {k : Nat} : ∀ i, (∀ j, j < i → k ≠ B9 j 3) → svA α i k = α k
  | 0, _ => rfl
  | i + 1, h => by
    show up1 (svA α i) (B9 i 3) (nsv α i) k = α k
    rw [up1_ne (h i (by omega)), svA_ne i (fun j hj => h j (by omega))]
theorem svA_at {α : Nat → Int} : ∀ i j, j < i → svA α i (B9 j 3) = nsv α j
  | 0, j, h => by omega
  | i + 1, j, h => by
    show up1 (svA α i) (B9 i 3) (nsv α i) (B9 j 3) = nsv α j
    by_cases hj : j = i
    · subst hj
      exact up1_eq'
    · rw [up1_ne (by unfold B9; omega), svA_at i j (by omega)]
theorem svA_k {α : Nat → Int} {i j k : Nat} (h : k ≠ 3 ∨ i ≤ j) (hk : k < 9) : svA α i (B9 j k) = α (B9 j k) := svA_ne i (fun q hq => by unfold B9; omega)
theorem dlA_lt {α : Nat → Int} : ∀ i, i ≤ 10 → dlA α i < 1024
  | 0, _ => by show 0 < 1024; omega
  | i + 1, h => by
    show (if _ then _ else _) < 1024
    split
    · exact or_lt (dlA_lt i (by omega)) (by omega)
    · exact dlA_lt i (by omega)
theorem dqA_lt {α : Nat → Int} : ∀ i, i ≤ 10 → dqA α i < 1024
  | 0, _ => by show 0 < 1024; omega
  | i + 1, h => by
    show (if _ then _ else _) < 1024
    split
    · exact or_lt (dqA_lt i (by omega)) (by omega)
    · exact dqA_lt i (by omega)
theorem dlA_t {α : Nat → Int} {j : Nat} : ∀ i, (dlA α i).testBit j = decide (j < i ∧ 60 ≤ sdA α j ∧ α (B9 j 1) < 0)
  | 0 => by
    show Nat.testBit 0 j = _
    rw [Nat.zero_testBit]
    exact (decide_eq_false (by omega)).symm
  | i + 1 => by
    show Nat.testBit (if _ then _ else _) j = _
    by_cases h : 60 ≤ sdA α i ∧ α (B9 i 1) < 0
    · rw [if_pos h, or_t, dlA_t i]
      by_cases hj : i = j
      · subst hj
        simp only [decide_true, Bool.or_true, h, and_self, and_true]
        exact (decide_eq_true (by omega)).symm
      · simp only [hj, decide_false, Bool.or_false]
        exact decide_eq_decide.mpr ⟨fun g => ⟨by omega, g.2⟩, fun g => ⟨by omega, g.2⟩⟩
    · rw [if_neg h, dlA_t i]
      refine decide_eq_decide.mpr ⟨fun g => ⟨by omega, g.2⟩, fun g => ⟨?_, g.2⟩⟩
      by_cases hj : i = j
      · subst hj
        exact absurd g.2 h
      · omega
theorem dqA_t {α : Nat → Int} {j : Nat} : ∀ i, (dqA α i).testBit j = decide (j < i ∧ 60 ≤ sdA α j ∧ 0 < α (B9 j 1))
  | 0 => by
    show Nat.testBit 0 j = _
    rw [Nat.zero_testBit]
    exact (decide_eq_false (by omega)).symm
  | i + 1 => by
    show Nat.testBit (if _ then _ else _) j = _
    by_cases h : 60 ≤ sdA α i ∧ 0 < α (B9 i 1)
    · rw [if_pos h, or_t, dqA_t i]
      by_cases hj : i = j
      · subst hj
        simp only [decide_true, Bool.or_true, h, and_self, and_true]
        exact (decide_eq_true (by omega)).symm
      · simp only [hj, decide_false, Bool.or_false]
        exact decide_eq_decide.mpr ⟨fun g => ⟨by omega, g.2⟩, fun g => ⟨by omega, g.2⟩⟩
    · rw [if_neg h, dqA_t i]
      refine decide_eq_decide.mpr ⟨fun g => ⟨by omega, g.2⟩, fun g => ⟨?_, g.2⟩⟩
      by_cases hj : i = j
      · subst hj
        exact absurd g.2 h
      · omega
theorem nsv_b {α : Nat → Int} {j : Nat} (h1 : -60 ≤ α (B9 j 1) ∧ α (B9 j 1) ≤ 60) (h3 : 0 ≤ α (B9 j 3) ∧ α (B9 j 3) ≤ 59) : 0 ≤ nsv α j ∧ nsv α j ≤ 59 ∧ 0 ≤ sdA α j ∧ sdA α j ≤ 119 ∧ (60 ≤ sdA α j → α (B9 j 1) ≠ 0) := by
  unfold nsv sdA zabs
  split <;> split <;> omega
theorem svA_G {α : Nat → Int} {n m : Nat} {o : Nat → Nat} (h : GA α n m o) : ∀ i, i ≤ n → GA (svA α i) n m o
  | 0, _ => h
  | i + 1, hi => by
    have h10 : n ≤ 10 := h.1.1
    have hm4 : m ≤ 4 := h.2.1.1
    have ih := svA_G h i (by omega)
    have gi := h.1.2.2.2.2 i (by omega)
    have nb := nsv_b gi.2.1 gi.2.2.2
    show GA (up1 (svA α i) (B9 i 3) (nsv α i)) n m o
    refine GA_ext ih ⟨up1_ne (by unfold B9; omega), up1_ne (by unfold B9; omega), up1_ne (by unfold B9; omega), up1_ne (by unfold B9; omega), up1_ne (by unfold B9; omega)⟩ (fun j hj => ?_) (fun p hp => ?_) ?_
    · have g := ih.1.2.2.2.2 j hj
      rw [up1_ne (by unfold B9; omega), up1_ne (by unfold B9; omega), up1_ne (by unfold B9; omega)]
      refine ⟨rfl, g.2.1, g.2.2.1, ?_⟩
      by_cases hij : j = i
      · subst hij
        rw [up1_eq']
        omega
      · rw [up1_ne (by unfold B9; omega)]
        exact g.2.2.2
    · have g := ih.2.1.2.2 p hp
      rw [up1_ne (by unfold B9 P3; omega), up1_ne (by unfold B9 P3; omega)]
      exact ⟨rfl, g.2⟩
    · rw [up1_ne (by unfold B9; omega)]
      exact ih.2.2.1.2.2
section S29
variable {d N t w n m : Nat} {I : Nat → Nat → Int32} {L : Nat → Nat → Int64} {D : Nat → Nat → UInt64} {Q : Rs → St → Prop} {α : Nat → Int} {f : Nat → Int32} {x : Tn} {l q p r z1 z2 M : Int} {o : Nat → Nat}
theorem rt10 : (Int32.ofInt 0 = Int32.ofInt 1) = False := by
  simp only [eq_iff_iff, iff_false]
  decide
theorem or0 {x : Int32} : x ||| Int32.ofInt 0 = x := by
  rw [o0]
  exact Int32.or_zero
theorem c234_12 (hw : RW w) (hG : GA α n m o) : ∀ (k i : Nat) (u2 u3 : Option Value), i + k = n → Wp (d + 3) 234 12 [some (.ref 294), some (.int (Int32.ofInt (i : Int))), u2, u3] [] (mk N t w (ms I (FN p r M z1 z2 (dlA α i : Int) (dqA α i : Int))) (sR L w (r64 (svA α i))) D) Q = Q (.inl none) (mk N t w (ms I (FN p r M z1 z2 (dlA α n : Int) (dqA α n : Int))) (sR L w (r64 (svA α n))) D) := by
  have h10 : n ≤ 10 := hG.1.1
  intro k
  induction k with
  | zero =>
    intro i u2 u3 hi
    obtain rfl : i = n := by omega
    have g : ¬ ((i : Int) < i) := by omega
    have e1 := (svA_G hG i (by omega)).1.2.1
    simp only [w234_0, w234_1, w234_2, w234_5, w234_6, w234_7, w234_10, w234_11, w234_12, w234_13, w234_14, w234_17, w234_20, w234_21, w234_22, w234_23, w234_26, w234_27, w234_28, w234_31, w234_32, w234_33, w234_34, w234_36, w234_39, w234_40, w234_43, w234_44, w234_45, w234_46, w234_47, w234_48, w234_49, w234_52, w234_53, w234_55, w234_56, w234_57, w234_60, w234_61, w234_62, w234_65, w234_66, w234_67, w234_70, w234_71, w234_74, w234_75, w234_76, w234_79, w234_82, w234_83, w234_84, w234_85, w234_88, w234_89, w234_90, w234_93, w234_94, w234_95, w234_98, w234_99, w234_102, w234_103, w234_104, w234_107, w234_110, w234_111, w234_112, w234_113, w234_116, w234_117, w234_118, w234_121, w234_124, w234_127, kn_s, kn_n, zh_mk, zR_mk, zI_mk, zL_mk, zD_mk, wI_mk, wL_mk, wD_mk, zT_mk, zC_mk, kill_i, kill_r, kill_0, kill_n, kill_l, kill_q, zzk_r, zzk_0, zzk_q, zcat_r, zcat_i, zcat_0, cats_0, cats_i, cats_r, cats_l, cats_d, cats_f, rv_s, rv_0, Nat.reduceAdd, Nat.reduceLeDiff, Nat.add_zero, Nat.reduceMul, Nat.reduceSub, ne_eq, not_false_eq_true, not_true_eq_false, and_self, and_true, true_and, or_self, or_true, true_or, or_false, false_or, if_true, if_false, reduceIte, reduceCtorEq, implies_true, ite_self, ite_not, kM, kMr, kRow hw, sR_at, up2_r64, r64_at, o_add, o_sub, o_mul, o_neg, q_add, q_sub, q_mul, q_neg, o_32, cast_s, Int.toNat_natCast, c176 hw, e1, o_lt (a := (i : Int)) (b := (i : Int)) (by omega), g]
  | succ k ih =>
    intro i u2 u3 hi
    have ih' := fun u2 u3 => ih (i + 1) u2 u3 (by omega)
    have g : (i : Int) < n := by omega
    have hi10 : i < 10 := by omega
    have gi := hG.1.2.2.2.2 i (by omega)
    have nb := nsv_b gi.2.1 gi.2.2.2
    have e1 := (svA_G hG i (by omega)).1.2.1
    have es : svA α i (B9 i 1) = α (B9 i 1) := svA_k (by omega) (by omega)
    have es3 : svA α i (B9 i 3) = α (B9 i 3) := svA_k (by omega) (by omega)
    have esd : α (B9 i 3) + zabs (α (B9 i 1)) = sdA α i := rfl
    have hbs : -60 ≤ svA α i (B9 i 1) ∧ svA α i (B9 i 1) ≤ 60 := by rw [es]; exact gi.2.1
    rw [w234_12]
    by_cases hd : 60 ≤ sdA α i
    · have hd' : ¬ (sdA α i < 60) := by omega
      have en : sdA α i - 60 = nsv α i := by unfold nsv; rw [if_pos hd]
      have e4 : up1 (svA α i) (B9 i 3) (nsv α i) = svA α (i + 1) := rfl
      by_cases hs : α (B9 i 1) < 0
      · have hs2 : ¬ (0 < α (B9 i 1)) := by omega
        have e5 : dlA α i ||| 2 ^ i = dlA α (i + 1) := by show _ = (if _ then _ else _); rw [if_pos ⟨hd, hs⟩]
        have e6 : dqA α i = dqA α (i + 1) := by show _ = (if _ then _ else _); rw [if_neg (fun h => hs2 h.2)]
        simp only [w234_0, w234_1, w234_2, w234_5, w234_6, w234_7, w234_10, w234_11, w234_13, w234_14, w234_17, w234_20, w234_21, w234_22, w234_23, w234_26, w234_27, w234_28, w234_31, w234_32, w234_33, w234_34, w234_36, w234_39, w234_40, w234_43, w234_44, w234_45, w234_46, w234_47, w234_48, w234_49, w234_52, w234_53, w234_55, w234_56, w234_57, w234_60, w234_61, w234_62, w234_65, w234_66, w234_67, w234_70, w234_71, w234_74, w234_75, w234_76, w234_79, w234_82, w234_83, w234_84, w234_85, w234_88, w234_89, w234_90, w234_93, w234_94, w234_95, w234_98, w234_99, w234_102, w234_103, w234_104, w234_107, w234_110, w234_111, w234_112, w234_113, w234_116, w234_117, w234_118, w234_121, w234_124, w234_127, kn_s, kn_n, zh_mk, zR_mk, zI_mk, zL_mk, zD_mk, wI_mk, wL_mk, wD_mk, zT_mk, zC_mk, kill_i, kill_r, kill_0, kill_n, kill_l, kill_q, zzk_r, zzk_0, zzk_q, zcat_r, zcat_i, zcat_0, cats_0, cats_i, cats_r, cats_l, cats_d, cats_f, rv_s, rv_0, Nat.reduceAdd, Nat.reduceLeDiff, Nat.add_zero, Nat.reduceMul, Nat.reduceSub, ne_eq, not_false_eq_true, not_true_eq_false, and_self, and_true, true_and, or_self, or_true, true_or, or_false, false_or, if_true, if_false, reduceIte, reduceCtorEq, implies_true, ite_self, ite_not, kM, kMr, kRow hw, sR_at, up2_r64, r64_at, o_add, o_sub, o_mul, o_neg, q_add, q_sub, q_mul, q_neg, o_32, cast_s, Int.toNat_natCast, ms_at (show 4 ≤ 4 ∧ 4 ≤ 10 by omega), ms_at (show 4 ≤ 5 ∧ 5 ≤ 10 by omega), ms_at (show 4 ≤ 6 ∧ 6 ≤ 10 by omega), ms_at (show 4 ≤ 7 ∧ 7 ≤ 10 by omega), ms_at (show 4 ≤ 8 ∧ 8 ≤ 10 by omega), ms_at (show 4 ≤ 9 ∧ 9 ≤ 10 by omega), ms_at (show 4 ≤ 10 ∧ 10 ≤ 10 by omega), up2_ms (show 4 ≤ 4 ∧ 4 ≤ 10 by omega), up2_ms (show 4 ≤ 5 ∧ 5 ≤ 10 by omega), up2_ms (show 4 ≤ 6 ∧ 6 ≤ 10 by omega), up2_ms (show 4 ≤ 7 ∧ 7 ≤ 10 by omega), up2_ms (show 4 ≤ 8 ∧ 8 ≤ 10 by omega), up2_ms (show 4 ≤ 9 ∧ 9 ≤ 10 by omega), up2_ms (show 4 ≤ 10 ∧ 10 ≤ 10 by omega), FN_4, FN_5, FN_6, FN_7, FN_8, FN_9, FN_10, uFN_4, uFN_5, uFN_6, uFN_7, uFN_8, uFN_9, uFN_10, c176 hw, e1, o_lt (a := (i : Int)) (b := (n : Int)) (by omega), g, c177_3 hw hi10, c220 hw hi10 hbs, c194 hw hi10, es, es3, esd, o_lt (a := sdA α i) (b := 60) (by omega), hd', rt01, o_64 (z := nsv α i) (by omega), en, c187_3 hw hi10, e4, up1_at, B9_s, show ((1 : Nat) = 3) = False by simp, o_lt (a := α (B9 i 1)) (b := 0) (by omega), o_lt (a := 0) (b := α (B9 i 1)) (by omega), hs, hs2, or_e (dlA_lt (α := α) i (by omega)) hi10, e5, or0, svA_k (α := α) (i := i + 1) (j := i) (k := 1) (by omega) (by omega)]
        rw [e6]
        exact ih' _ _
      · by_cases hs2 : 0 < α (B9 i 1)
        · have e5 : dqA α i ||| 2 ^ i = dqA α (i + 1) := by show _ = (if _ then _ else _); rw [if_pos ⟨hd, hs2⟩]
          have e6 : dlA α i = dlA α (i + 1) := by show _ = (if _ then _ else _); rw [if_neg (fun h => hs h.2)]
          simp only [w234_0, w234_1, w234_2, w234_5, w234_6, w234_7, w234_10, w234_11, w234_13, w234_14, w234_17, w234_20, w234_21, w234_22, w234_23, w234_26, w234_27, w234_28, w234_31, w234_32, w234_33, w234_34, w234_36, w234_39, w234_40, w234_43, w234_44, w234_45, w234_46, w234_47, w234_48, w234_49, w234_52, w234_53, w234_55, w234_56, w234_57, w234_60, w234_61, w234_62, w234_65, w234_66, w234_67, w234_70, w234_71, w234_74, w234_75, w234_76, w234_79, w234_82, w234_83, w234_84, w234_85, w234_88, w234_89, w234_90, w234_93, w234_94, w234_95, w234_98, w234_99, w234_102, w234_103, w234_104, w234_107, w234_110, w234_111, w234_112, w234_113, w234_116, w234_117, w234_118, w234_121, w234_124, w234_127, kn_s, kn_n, zh_mk, zR_mk, zI_mk, zL_mk, zD_mk, wI_mk, wL_mk, wD_mk, zT_mk, zC_mk, kill_i, kill_r, kill_0, kill_n, kill_l, kill_q, zzk_r, zzk_0, zzk_q, zcat_r, zcat_i, zcat_0, cats_0, cats_i, cats_r, cats_l, cats_d, cats_f, rv_s, rv_0, Nat.reduceAdd, Nat.reduceLeDiff, Nat.add_zero, Nat.reduceMul, Nat.reduceSub, ne_eq, not_false_eq_true, not_true_eq_false, and_self, and_true, true_and, or_self, or_true, true_or, or_false, false_or, if_true, if_false, reduceIte, reduceCtorEq, implies_true, ite_self, ite_not, kM, kMr, kRow hw, sR_at, up2_r64, r64_at, o_add, o_sub, o_mul, o_neg, q_add, q_sub, q_mul, q_neg, o_32, cast_s, Int.toNat_natCast, ms_at (show 4 ≤ 4 ∧ 4 ≤ 10 by omega), ms_at (show 4 ≤ 5 ∧ 5 ≤ 10 by omega), ms_at (show 4 ≤ 6 ∧ 6 ≤ 10 by omega), ms_at (show 4 ≤ 7 ∧ 7 ≤ 10 by omega), ms_at (show 4 ≤ 8 ∧ 8 ≤ 10 by omega), ms_at (show 4 ≤ 9 ∧ 9 ≤ 10 by omega), ms_at (show 4 ≤ 10 ∧ 10 ≤ 10 by omega), up2_ms (show 4 ≤ 4 ∧ 4 ≤ 10 by omega), up2_ms (show 4 ≤ 5 ∧ 5 ≤ 10 by omega), up2_ms (show 4 ≤ 6 ∧ 6 ≤ 10 by omega), up2_ms (show 4 ≤ 7 ∧ 7 ≤ 10 by omega), up2_ms (show 4 ≤ 8 ∧ 8 ≤ 10 by omega), up2_ms (show 4 ≤ 9 ∧ 9 ≤ 10 by omega), up2_ms (show 4 ≤ 10 ∧ 10 ≤ 10 by omega), FN_4, FN_5, FN_6, FN_7, FN_8, FN_9, FN_10, uFN_4, uFN_5, uFN_6, uFN_7, uFN_8, uFN_9, uFN_10, c176 hw, e1, o_lt (a := (i : Int)) (b := (n : Int)) (by omega), g, c177_3 hw hi10, c220 hw hi10 hbs, c194 hw hi10, es, es3, esd, o_lt (a := sdA α i) (b := 60) (by omega), hd', rt01, o_64 (z := nsv α i) (by omega), en, c187_3 hw hi10, e4, up1_at, B9_s, show ((1 : Nat) = 3) = False by simp, o_lt (a := α (B9 i 1)) (b := 0) (by omega), o_lt (a := 0) (b := α (B9 i 1)) (by omega), hs, hs2, or_e (dqA_lt (α := α) i (by omega)) hi10, e5, or0, svA_k (α := α) (i := i + 1) (j := i) (k := 1) (by omega) (by omega)]
          rw [e6]
          exact ih' _ _
        · exact absurd (show α (B9 i 1) = 0 by omega) (nb.2.2.2.2 hd)
    · have hd' : sdA α i < 60 := by omega
      have en : sdA α i = nsv α i := by unfold nsv; rw [if_neg hd]
      have e4 : up1 (svA α i) (B9 i 3) (sdA α i) = svA α (i + 1) := by rw [en]; rfl
      have e5 : dlA α i = dlA α (i + 1) := by show _ = (if _ then _ else _); rw [if_neg (fun h => hd h.1)]
      have e6 : dqA α i = dqA α (i + 1) := by show _ = (if _ then _ else _); rw [if_neg (fun h => hd h.1)]
      simp only [w234_0, w234_1, w234_2, w234_5, w234_6, w234_7, w234_10, w234_11, w234_13, w234_14, w234_17, w234_20, w234_21, w234_22, w234_23, w234_26, w234_27, w234_28, w234_31, w234_32, w234_33, w234_34, w234_36, w234_39, w234_40, w234_43, w234_44, w234_45, w234_46, w234_47, w234_48, w234_49, w234_52, w234_53, w234_55, w234_56, w234_57, w234_60, w234_61, w234_62, w234_65, w234_66, w234_67, w234_70, w234_71, w234_74, w234_75, w234_76, w234_79, w234_82, w234_83, w234_84, w234_85, w234_88, w234_89, w234_90, w234_93, w234_94, w234_95, w234_98, w234_99, w234_102, w234_103, w234_104, w234_107, w234_110, w234_111, w234_112, w234_113, w234_116, w234_117, w234_118, w234_121, w234_124, w234_127, kn_s, kn_n, zh_mk, zR_mk, zI_mk, zL_mk, zD_mk, wI_mk, wL_mk, wD_mk, zT_mk, zC_mk, kill_i, kill_r, kill_0, kill_n, kill_l, kill_q, zzk_r, zzk_0, zzk_q, zcat_r, zcat_i, zcat_0, cats_0, cats_i, cats_r, cats_l, cats_d, cats_f, rv_s, rv_0, Nat.reduceAdd, Nat.reduceLeDiff, Nat.add_zero, Nat.reduceMul, Nat.reduceSub, ne_eq, not_false_eq_true, not_true_eq_false, and_self, and_true, true_and, or_self, or_true, true_or, or_false, false_or, if_true, if_false, reduceIte, reduceCtorEq, implies_true, ite_self, ite_not, kM, kMr, kRow hw, sR_at, up2_r64, r64_at, o_add, o_sub, o_mul, o_neg, q_add, q_sub, q_mul, q_neg, o_32, cast_s, Int.toNat_natCast, ms_at (show 4 ≤ 4 ∧ 4 ≤ 10 by omega), ms_at (show 4 ≤ 5 ∧ 5 ≤ 10 by omega), ms_at (show 4 ≤ 6 ∧ 6 ≤ 10 by omega), ms_at (show 4 ≤ 7 ∧ 7 ≤ 10 by omega), ms_at (show 4 ≤ 8 ∧ 8 ≤ 10 by omega), ms_at (show 4 ≤ 9 ∧ 9 ≤ 10 by omega), ms_at (show 4 ≤ 10 ∧ 10 ≤ 10 by omega), up2_ms (show 4 ≤ 4 ∧ 4 ≤ 10 by omega), up2_ms (show 4 ≤ 5 ∧ 5 ≤ 10 by omega), up2_ms (show 4 ≤ 6 ∧ 6 ≤ 10 by omega), up2_ms (show 4 ≤ 7 ∧ 7 ≤ 10 by omega), up2_ms (show 4 ≤ 8 ∧ 8 ≤ 10 by omega), up2_ms (show 4 ≤ 9 ∧ 9 ≤ 10 by omega), up2_ms (show 4 ≤ 10 ∧ 10 ≤ 10 by omega), FN_4, FN_5, FN_6, FN_7, FN_8, FN_9, FN_10, uFN_4, uFN_5, uFN_6, uFN_7, uFN_8, uFN_9, uFN_10, c176 hw, e1, o_lt (a := (i : Int)) (b := (n : Int)) (by omega), g, c177_3 hw hi10, c220 hw hi10 hbs, c194 hw hi10, es, es3, esd, o_lt (a := sdA α i) (b := 60) (by omega), hd', rt01, o_64 (z := sdA α i) (by omega), c187_3 hw hi10, e4, or0]
      rw [e5, e6]
      exact ih' _ _
theorem c234 (hw : RW w) (hG : GA α n m o) : Wp (d + 3) 234 0 [some (.ref 294), none, none, none] [] (mk N t w (ms I (FN p r M z1 z2 l q)) (sR L w (r64 α)) D) Q = Q (.inl none) (mk N t w (ms I (FN p r M z1 z2 (dlA α n : Int) (dqA α n : Int))) (sR L w (r64 (svA α n))) D) := by
  have := c234_12 (d := d) (N := N) (t := t) (I := I) (L := L) (D := D) (Q := Q) (p := p) (r := r) (M := M) (z1 := z1) (z2 := z2) hw hG n 0 none none (by omega)
  simp only [w234_0, w234_1, w234_2, w234_5, w234_6, w234_7, w234_10, w234_11, w234_13, w234_14, w234_17, w234_20, w234_21, w234_22, w234_23, w234_26, w234_27, w234_28, w234_31, w234_32, w234_33, w234_34, w234_36, w234_39, w234_40, w234_43, w234_44, w234_45, w234_46, w234_47, w234_48, w234_49, w234_52, w234_53, w234_55, w234_56, w234_57, w234_60, w234_61, w234_62, w234_65, w234_66, w234_67, w234_70, w234_71, w234_74, w234_75, w234_76, w234_79, w234_82, w234_83, w234_84, w234_85, w234_88, w234_89, w234_90, w234_93, w234_94, w234_95, w234_98, w234_99, w234_102, w234_103, w234_104, w234_107, w234_110, w234_111, w234_112, w234_113, w234_116, w234_117, w234_118, w234_121, w234_124, w234_127, kn_s, kn_n, zh_mk, zR_mk, zI_mk, zL_mk, zD_mk, wI_mk, wL_mk, wD_mk, zT_mk, zC_mk, kill_i, kill_r, kill_0, kill_n, kill_l, kill_q, zzk_r, zzk_0, zzk_q, zcat_r, zcat_i, zcat_0, cats_0, cats_i, cats_r, cats_l, cats_d, cats_f, rv_s, rv_0, Nat.reduceAdd, Nat.reduceLeDiff, Nat.add_zero, Nat.reduceMul, Nat.reduceSub, ne_eq, not_false_eq_true, not_true_eq_false, and_self, and_true, true_and, or_self, or_true, true_or, or_false, false_or, if_true, if_false, reduceIte, reduceCtorEq, implies_true, ite_self, ite_not, kM, kMr, kRow hw, sR_at, up2_r64, r64_at, o_add, o_sub, o_mul, o_neg, q_add, q_sub, q_mul, q_neg, o_32, cast_s, Int.toNat_natCast, ms_at (show 4 ≤ 4 ∧ 4 ≤ 10 by omega), ms_at (show 4 ≤ 5 ∧ 5 ≤ 10 by omega), ms_at (show 4 ≤ 6 ∧ 6 ≤ 10 by omega), ms_at (show 4 ≤ 7 ∧ 7 ≤ 10 by omega), ms_at (show 4 ≤ 8 ∧ 8 ≤ 10 by omega), ms_at (show 4 ≤ 9 ∧ 9 ≤ 10 by omega), ms_at (show 4 ≤ 10 ∧ 10 ≤ 10 by omega), up2_ms (show 4 ≤ 4 ∧ 4 ≤ 10 by omega), up2_ms (show 4 ≤ 5 ∧ 5 ≤ 10 by omega), up2_ms (show 4 ≤ 6 ∧ 6 ≤ 10 by omega), up2_ms (show 4 ≤ 7 ∧ 7 ≤ 10 by omega), up2_ms (show 4 ≤ 8 ∧ 8 ≤ 10 by omega), up2_ms (show 4 ≤ 9 ∧ 9 ≤ 10 by omega), up2_ms (show 4 ≤ 10 ∧ 10 ≤ 10 by omega), FN_4, FN_5, FN_6, FN_7, FN_8, FN_9, FN_10, uFN_4, uFN_5, uFN_6, uFN_7, uFN_8, uFN_9, uFN_10]
  exact this
/-- the first of a set: of b balls, from the best up to now -/
def fOA (α : Nat → Int) (X : Nat) (hi : Bool) : Nat → Int → Nat → Int
  | 0, best, _ => best
  | k + 1, best, b => fOA α X hi k (if X.testBit b = true ∧ (best = -1 ∨ decide (α (B9 best.toNat 0) < α (B9 b 0)) = hi) then (b : Int) else best) (b + 1)
theorem fOA_s {X : Nat} {hi : Bool} {k b : Nat} {best : Int} : fOA α X hi (k + 1) best b = fOA α X hi k (if X.testBit b = true ∧ (best = -1 ∨ decide (α (B9 best.toNat 0) < α (B9 b 0)) = hi) then (b : Int) else best) (b + 1) := nr rfl
theorem c204_5 (hw : RW w) (hB : GB α n) {X : Nat} (hX : X < 1024) {hi : Bool} : ∀ (k : Nat) (best : Int) (b : Nat), b + k = n → (-1 ≤ best ∧ best < n) → Wp (d + 1) 204 5 [some (.ref 294), some (.int (Int32.ofInt (X : Int))), some (.int (Int32.ofInt (if hi then 1 else 0))), some (.int (Int32.ofInt best)), some (.int (Int32.ofInt (b : Int)))] [] (mk N t w I (sR L w (r64 α)) D) Q = Q (.inl (some (.int (Int32.ofInt (fOA α X hi k best b))))) (mk N t w I (sR L w (r64 α)) D) := by
  obtain ⟨h1, h2, h3, h4, h5⟩ := hB
  intro k
  induction k with
  | zero =>
    intro best b hb hbest
    have g : ¬ ((b : Int) < n) := by omega
    simp only [w204_0, w204_1, w204_2, w204_3, w204_5, w204_7, w204_8, w204_11, w204_14, w204_15, w204_17, w204_20, w204_23, w204_24, w204_25, w204_28, w204_29, w204_31, w204_32, w204_35, w204_36, w204_37, w204_38, w204_41, w204_44, w204_45, w204_48, w204_49, w204_50, w204_53, w204_55, w204_56, w204_59, w204_62, w204_63, kn_s, kn_n, zh_mk, zR_mk, zI_mk, zL_mk, zD_mk, wI_mk, wL_mk, wD_mk, zT_mk, zC_mk, kill_i, kill_r, kill_0, kill_n, kill_l, kill_q, zzk_r, zzk_0, zzk_q, zcat_r, zcat_i, zcat_0, cats_0, cats_i, cats_r, cats_l, cats_d, cats_f, rv_s, rv_0, Nat.reduceAdd, Nat.reduceLeDiff, Nat.add_zero, Nat.reduceMul, Nat.reduceSub, ne_eq, not_false_eq_true, not_true_eq_false, and_self, and_true, true_and, or_self, or_true, true_or, or_false, false_or, if_true, if_false, reduceIte, reduceCtorEq, implies_true, ite_self, ite_not, kM, kMr, kRow hw, sR_at, up2_r64, r64_at, o_add, o_sub, o_mul, o_neg, q_add, q_sub, q_mul, q_neg, o_32, cast_s, Int.toNat_natCast, c176 hw, h2, o_lt (a := (b : Int)) (b := (n : Int)) (by omega), g]
    rfl
  | succ k ih =>
    intro best b hb hbest
    have g : (b : Int) < n := by omega
    have hb10 : b < 10 := by omega
    have gb := h5 b (by omega)
    have ih1 := ih best (b + 1) (by omega) hbest
    have ih2 := ih (b : Int) (b + 1) (by omega) (by omega)
    rw [w204_5, fOA_s]
    by_cases hx : X.testBit b = true
    · by_cases hm : best = -1
      · subst hm
        have hc : X.testBit b = true ∧ ((-1 : Int) = -1 ∨ decide (α (B9 (-1 : Int).toNat 0) < α (B9 b 0)) = hi) := ⟨hx, Or.inl rfl⟩
        rw [if_pos hc]
        simp only [w204_0, w204_1, w204_2, w204_3, w204_7, w204_8, w204_11, w204_14, w204_15, w204_17, w204_20, w204_23, w204_24, w204_25, w204_28, w204_29, w204_31, w204_32, w204_35, w204_36, w204_37, w204_38, w204_41, w204_44, w204_45, w204_48, w204_49, w204_50, w204_53, w204_55, w204_56, w204_59, w204_62, w204_63, kn_s, kn_n, zh_mk, zR_mk, zI_mk, zL_mk, zD_mk, wI_mk, wL_mk, wD_mk, zT_mk, zC_mk, kill_i, kill_r, kill_0, kill_n, kill_l, kill_q, zzk_r, zzk_0, zzk_q, zcat_r, zcat_i, zcat_0, cats_0, cats_i, cats_r, cats_l, cats_d, cats_f, rv_s, rv_0, Nat.reduceAdd, Nat.reduceLeDiff, Nat.add_zero, Nat.reduceMul, Nat.reduceSub, ne_eq, not_false_eq_true, not_true_eq_false, and_self, and_true, true_and, or_self, or_true, true_or, or_false, false_or, if_true, if_false, reduceIte, reduceCtorEq, implies_true, ite_self, ite_not, kM, kMr, kRow hw, sR_at, up2_r64, r64_at, o_add, o_sub, o_mul, o_neg, q_add, q_sub, q_mul, q_neg, o_32, cast_s, Int.toNat_natCast, c176 hw, h2, o_lt (a := (b : Int)) (b := (n : Int)) (by omega), g, c205 hX hb10, p_0, hx, ih2]
      · obtain ⟨j, rfl⟩ : ∃ j : Nat, best = j := ⟨best.toNat, by omega⟩
        have hj10 : j < 10 := by omega
        have gj := h5 j (by omega)
        rw [Int.toNat_natCast]
        by_cases hlt : α (B9 j 0) < α (B9 b 0)
        · cases hi with
          | true =>
            have hc : X.testBit b = true ∧ ((j : Int) = -1 ∨ decide (α (B9 j 0) < α (B9 b 0)) = true) := ⟨hx, Or.inr (decide_eq_true hlt)⟩
            rw [if_pos hc]
            simp only [w204_0, w204_1, w204_2, w204_3, w204_7, w204_8, w204_11, w204_14, w204_15, w204_17, w204_20, w204_23, w204_24, w204_25, w204_28, w204_29, w204_31, w204_32, w204_35, w204_36, w204_37, w204_38, w204_41, w204_44, w204_45, w204_48, w204_49, w204_50, w204_53, w204_55, w204_56, w204_59, w204_62, w204_63, kn_s, kn_n, zh_mk, zR_mk, zI_mk, zL_mk, zD_mk, wI_mk, wL_mk, wD_mk, zT_mk, zC_mk, kill_i, kill_r, kill_0, kill_n, kill_l, kill_q, zzk_r, zzk_0, zzk_q, zcat_r, zcat_i, zcat_0, cats_0, cats_i, cats_r, cats_l, cats_d, cats_f, rv_s, rv_0, Nat.reduceAdd, Nat.reduceLeDiff, Nat.add_zero, Nat.reduceMul, Nat.reduceSub, ne_eq, not_false_eq_true, not_true_eq_false, and_self, and_true, true_and, or_self, or_true, true_or, or_false, false_or, if_true, if_false, reduceIte, reduceCtorEq, implies_true, ite_self, ite_not, kM, kMr, kRow hw, sR_at, up2_r64, r64_at, o_add, o_sub, o_mul, o_neg, q_add, q_sub, q_mul, q_neg, o_32, cast_s, Int.toNat_natCast, c176 hw, h2, o_lt (a := (b : Int)) (b := (n : Int)) (by omega), g, c205 hX hb10, p_0, hx, o_eq (a := (j : Int)) (b := -1) (by omega), hm, c177_0 hw hb10, c177_0 hw hj10, o_lt (a := α (B9 j 0)) (b := α (B9 b 0)) (by omega), hlt]
            exact ih2
          | false =>
            have hc : ¬ (X.testBit b = true ∧ ((j : Int) = -1 ∨ decide (α (B9 j 0) < α (B9 b 0)) = false)) := fun h => h.2.elim hm (fun e => (of_decide_eq_false e) hlt)
            rw [if_neg hc]
            simp only [w204_0, w204_1, w204_2, w204_3, w204_7, w204_8, w204_11, w204_14, w204_15, w204_17, w204_20, w204_23, w204_24, w204_25, w204_28, w204_29, w204_31, w204_32, w204_35, w204_36, w204_37, w204_38, w204_41, w204_44, w204_45, w204_48, w204_49, w204_50, w204_53, w204_55, w204_56, w204_59, w204_62, w204_63, kn_s, kn_n, zh_mk, zR_mk, zI_mk, zL_mk, zD_mk, wI_mk, wL_mk, wD_mk, zT_mk, zC_mk, kill_i, kill_r, kill_0, kill_n, kill_l, kill_q, zzk_r, zzk_0, zzk_q, zcat_r, zcat_i, zcat_0, cats_0, cats_i, cats_r, cats_l, cats_d, cats_f, rv_s, rv_0, Nat.reduceAdd, Nat.reduceLeDiff, Nat.add_zero, Nat.reduceMul, Nat.reduceSub, ne_eq, not_false_eq_true, not_true_eq_false, and_self, and_true, true_and, or_self, or_true, true_or, or_false, false_or, if_true, if_false, reduceIte, reduceCtorEq, implies_true, ite_self, ite_not, kM, kMr, kRow hw, sR_at, up2_r64, r64_at, o_add, o_sub, o_mul, o_neg, q_add, q_sub, q_mul, q_neg, o_32, cast_s, Int.toNat_natCast, c176 hw, h2, o_lt (a := (b : Int)) (b := (n : Int)) (by omega), g, c205 hX hb10, p_0, hx, o_eq (a := (j : Int)) (b := -1) (by omega), hm, c177_0 hw hb10, c177_0 hw hj10, o_lt (a := α (B9 j 0)) (b := α (B9 b 0)) (by omega), hlt, rt01, Bool.false_eq_true]
            exact ih1
        · cases hi with
          | true =>
            have hc : ¬ (X.testBit b = true ∧ ((j : Int) = -1 ∨ decide (α (B9 j 0) < α (B9 b 0)) = true)) := fun h => h.2.elim hm (fun e => hlt (of_decide_eq_true e))
            rw [if_neg hc]
            simp only [w204_0, w204_1, w204_2, w204_3, w204_7, w204_8, w204_11, w204_14, w204_15, w204_17, w204_20, w204_23, w204_24, w204_25, w204_28, w204_29, w204_31, w204_32, w204_35, w204_36, w204_37, w204_38, w204_41, w204_44, w204_45, w204_48, w204_49, w204_50, w204_53, w204_55, w204_56, w204_59, w204_62, w204_63, kn_s, kn_n, zh_mk, zR_mk, zI_mk, zL_mk, zD_mk, wI_mk, wL_mk, wD_mk, zT_mk, zC_mk, kill_i, kill_r, kill_0, kill_n, kill_l, kill_q, zzk_r, zzk_0, zzk_q, zcat_r, zcat_i, zcat_0, cats_0, cats_i, cats_r, cats_l, cats_d, cats_f, rv_s, rv_0, Nat.reduceAdd, Nat.reduceLeDiff, Nat.add_zero, Nat.reduceMul, Nat.reduceSub, ne_eq, not_false_eq_true, not_true_eq_false, and_self, and_true, true_and, or_self, or_true, true_or, or_false, false_or, if_true, if_false, reduceIte, reduceCtorEq, implies_true, ite_self, ite_not, kM, kMr, kRow hw, sR_at, up2_r64, r64_at, o_add, o_sub, o_mul, o_neg, q_add, q_sub, q_mul, q_neg, o_32, cast_s, Int.toNat_natCast, c176 hw, h2, o_lt (a := (b : Int)) (b := (n : Int)) (by omega), g, c205 hX hb10, p_0, hx, o_eq (a := (j : Int)) (b := -1) (by omega), hm, c177_0 hw hb10, c177_0 hw hj10, o_lt (a := α (B9 j 0)) (b := α (B9 b 0)) (by omega), hlt, rt10]
            exact ih1
          | false =>
            have hc : X.testBit b = true ∧ ((j : Int) = -1 ∨ decide (α (B9 j 0) < α (B9 b 0)) = false) := ⟨hx, Or.inr (decide_eq_false hlt)⟩
            rw [if_pos hc]
            simp only [w204_0, w204_1, w204_2, w204_3, w204_7, w204_8, w204_11, w204_14, w204_15, w204_17, w204_20, w204_23, w204_24, w204_25, w204_28, w204_29, w204_31, w204_32, w204_35, w204_36, w204_37, w204_38, w204_41, w204_44, w204_45, w204_48, w204_49, w204_50, w204_53, w204_55, w204_56, w204_59, w204_62, w204_63, kn_s, kn_n, zh_mk, zR_mk, zI_mk, zL_mk, zD_mk, wI_mk, wL_mk, wD_mk, zT_mk, zC_mk, kill_i, kill_r, kill_0, kill_n, kill_l, kill_q, zzk_r, zzk_0, zzk_q, zcat_r, zcat_i, zcat_0, cats_0, cats_i, cats_r, cats_l, cats_d, cats_f, rv_s, rv_0, Nat.reduceAdd, Nat.reduceLeDiff, Nat.add_zero, Nat.reduceMul, Nat.reduceSub, ne_eq, not_false_eq_true, not_true_eq_false, and_self, and_true, true_and, or_self, or_true, true_or, or_false, false_or, if_true, if_false, reduceIte, reduceCtorEq, implies_true, ite_self, ite_not, kM, kMr, kRow hw, sR_at, up2_r64, r64_at, o_add, o_sub, o_mul, o_neg, q_add, q_sub, q_mul, q_neg, o_32, cast_s, Int.toNat_natCast, c176 hw, h2, o_lt (a := (b : Int)) (b := (n : Int)) (by omega), g, c205 hX hb10, p_0, hx, o_eq (a := (j : Int)) (b := -1) (by omega), hm, c177_0 hw hb10, c177_0 hw hj10, o_lt (a := α (B9 j 0)) (b := α (B9 b 0)) (by omega), hlt, Bool.false_eq_true]
            exact ih2
    · have hc : ¬ (X.testBit b = true ∧ (best = -1 ∨ decide (α (B9 best.toNat 0) < α (B9 b 0)) = hi)) := fun h => hx h.1
      rw [if_neg hc]
      simp only [w204_0, w204_1, w204_2, w204_3, w204_7, w204_8, w204_11, w204_14, w204_15, w204_17, w204_20, w204_23, w204_24, w204_25, w204_28, w204_29, w204_31, w204_32, w204_35, w204_36, w204_37, w204_38, w204_41, w204_44, w204_45, w204_48, w204_49, w204_50, w204_53, w204_55, w204_56, w204_59, w204_62, w204_63, kn_s, kn_n, zh_mk, zR_mk, zI_mk, zL_mk, zD_mk, wI_mk, wL_mk, wD_mk, zT_mk, zC_mk, kill_i, kill_r, kill_0, kill_n, kill_l, kill_q, zzk_r, zzk_0, zzk_q, zcat_r, zcat_i, zcat_0, cats_0, cats_i, cats_r, cats_l, cats_d, cats_f, rv_s, rv_0, Nat.reduceAdd, Nat.reduceLeDiff, Nat.add_zero, Nat.reduceMul, Nat.reduceSub, ne_eq, not_false_eq_true, not_true_eq_false, and_self, and_true, true_and, or_self, or_true, true_or, or_false, false_or, if_true, if_false, reduceIte, reduceCtorEq, implies_true, ite_self, ite_not, kM, kMr, kRow hw, sR_at, up2_r64, r64_at, o_add, o_sub, o_mul, o_neg, q_add, q_sub, q_mul, q_neg, o_32, cast_s, Int.toNat_natCast, c176 hw, h2, o_lt (a := (b : Int)) (b := (n : Int)) (by omega), g, c205 hX hb10, p_0, hx, ih1]
/-- what firstOf answers: the lowest or highest of the set, or none -/
theorem fOA_spec {X : Nat} {hi : Bool} : ∀ (k : Nat) (best : Int) (b : Nat),
    ((best = -1 ∧ ∀ j, j < b → X.testBit j = false) ∨ (∃ j : Nat, best = (j : Int) ∧ j < b ∧ X.testBit j = true ∧ ∀ i, i < b → X.testBit i = true → (if hi then α (B9 i 0) ≤ α (B9 j 0) else α (B9 j 0) ≤ α (B9 i 0)))) →
    ((fOA α X hi k best b = -1 ∧ ∀ j, j < b + k → X.testBit j = false) ∨ (∃ j : Nat, fOA α X hi k best b = (j : Int) ∧ j < b + k ∧ X.testBit j = true ∧ ∀ i, i < b + k → X.testBit i = true → (if hi then α (B9 i 0) ≤ α (B9 j 0) else α (B9 j 0) ≤ α (B9 i 0)))) := by
  intro k
  induction k with
  | zero => intro best b h; exact h
  | succ k ih =>
    intro best b h
    rw [fOA_s, show b + (k + 1) = (b + 1) + k by omega]
    apply ih
    by_cases hx : X.testBit b = true
    · rcases h with ⟨rfl, h1⟩ | ⟨j, rfl, h1, h2, h3⟩
      · rw [if_pos ⟨hx, Or.inl rfl⟩]
        refine Or.inr ⟨b, rfl, by omega, hx, fun i hi1 hi2 => ?_⟩
        by_cases hib : i = b
        · subst hib
          split <;> omega
        · rw [h1 i (by omega)] at hi2
          cases hi2
      · rw [Int.toNat_natCast]
        by_cases hc : decide (α (B9 j 0) < α (B9 b 0)) = hi
        · rw [if_pos ⟨hx, Or.inr hc⟩]
          refine Or.inr ⟨b, rfl, by omega, hx, fun i hi1 hi2 => ?_⟩
          by_cases hib : i = b
          · subst hib
            split <;> omega
          · have := h3 i (by omega) hi2
            cases hi with
            | true =>
              have hlt := of_decide_eq_true hc
              simp only [if_true] at this ⊢
              omega
            | false =>
              have hlt := of_decide_eq_false hc
              simp only [Bool.false_eq_true, if_false] at this ⊢
              omega
        · have hm : ¬ (X.testBit b = true ∧ ((j : Int) = -1 ∨ decide (α (B9 j 0) < α (B9 b 0)) = hi)) := fun h => h.2.elim (by omega) hc
          rw [if_neg hm]
          refine Or.inr ⟨j, rfl, by omega, h2, fun i hi1 hi2 => ?_⟩
          by_cases hib : i = b
          · subst hib
            cases hi with
            | true =>
              have hlt : ¬ (α (B9 j 0) < α (B9 i 0)) := fun e => hc (decide_eq_true e)
              simp only [if_true]
              omega
            | false =>
              have hlt : α (B9 j 0) < α (B9 i 0) := Classical.byContradiction fun e => hc (decide_eq_false e)
              simp only [Bool.false_eq_true, if_false]
              omega
          · exact h3 i (by omega) hi2
    · rw [if_neg (fun h => hx h.1)]
      rcases h with ⟨h1, h2⟩ | ⟨j, h1, h2, h3, h4⟩
      · refine Or.inl ⟨h1, fun j hj => ?_⟩
        by_cases hjb : j = b
        · subst hjb
          exact Bool.eq_false_iff.mpr hx
        · exact h2 j (by omega)
      · refine Or.inr ⟨j, h1, by omega, h3, fun i hi1 hi2 => ?_⟩
        by_cases hib : i = b
        · subst hib
          exact absurd hi2 hx
        · exact h4 i (by omega) hi2
theorem c204 (hw : RW w) (hB : GB α n) {X : Nat} (hX : X < 1024) {hi : Bool} : Wp (d + 1) 204 0 [some (.ref 294), some (.int (Int32.ofInt (X : Int))), some (.int (Int32.ofInt (if hi then 1 else 0))), none, none] [] (mk N t w I (sR L w (r64 α)) D) Q = Q (.inl (some (.int (Int32.ofInt (fOA α X hi n (-1) 0))))) (mk N t w I (sR L w (r64 α)) D) := by
  have := c204_5 (d := d) (N := N) (t := t) (I := I) (L := L) (D := D) (Q := Q) hw hB hX (hi := hi) n (-1) 0 (by omega) (by omega)
  simp only [w204_0, w204_1, w204_2, w204_3, kn_s, kn_n, zh_mk, zR_mk, zI_mk, zL_mk, zD_mk, wI_mk, wL_mk, wD_mk, zT_mk, zC_mk, kill_i, kill_r, kill_0, kill_n, kill_l, kill_q, zzk_r, zzk_0, zzk_q, zcat_r, zcat_i, zcat_0, cats_0, cats_i, cats_r, cats_l, cats_d, cats_f, rv_s, rv_0, Nat.reduceAdd, Nat.reduceLeDiff, Nat.add_zero, Nat.reduceMul, Nat.reduceSub, ne_eq, not_false_eq_true, not_true_eq_false, and_self, and_true, true_and, or_self, or_true, true_or, or_false, false_or, if_true, if_false, reduceIte, reduceCtorEq, implies_true, ite_self, ite_not]
  exact this
/-- of a set in order: the first at or behind place P, or at or ahead of it -/
theorem fOA_low {X P : Nat} (hG : GA α n m o) (hX : ∀ p, p < n → X.testBit (o p) = true → P ≤ p) (hP : P < n) (hb : X.testBit (o P) = true) : fOA α X false n (-1) 0 = ((o P : Nat) : Int) := by
  obtain ⟨-, -, -, d1, d2, d3, -⟩ := hG
  rcases fOA_spec (α := α) (X := X) (hi := false) n (-1) 0 (Or.inl ⟨rfl, fun j hj => by omega⟩) with ⟨h1, h2⟩ | ⟨j, h1, h2, h3, h4⟩
  · rw [h2 (o P) (by have := d1 P hP; omega)] at hb
    cases hb
  · rw [h1]
    obtain ⟨p, hp, rfl⟩ := d3 j (by omega)
    have hpP := hX p hp h3
    by_cases h : p = P
    · rw [h]
    · have g1 := d2 P p (by omega) hp
      have g2 := h4 (o P) (by have := d1 P hP; omega) hb
      simp only [Bool.false_eq_true, if_false] at g2
      omega
theorem fOA_high {X P : Nat} (hG : GA α n m o) (hX : ∀ p, p < n → X.testBit (o p) = true → p ≤ P) (hP : P < n) (hb : X.testBit (o P) = true) : fOA α X true n (-1) 0 = ((o P : Nat) : Int) := by
  obtain ⟨-, -, -, d1, d2, d3, -⟩ := hG
  rcases fOA_spec (α := α) (X := X) (hi := true) n (-1) 0 (Or.inl ⟨rfl, fun j hj => by omega⟩) with ⟨h1, h2⟩ | ⟨j, h1, h2, h3, h4⟩
  · rw [h2 (o P) (by have := d1 P hP; omega)] at hb
    cases hb
  · rw [h1]
    obtain ⟨p, hp, rfl⟩ := d3 j (by omega)
    have hpP := hX p hp h3
    by_cases h : p = P
    · rw [h]
    · have g1 := d2 p P (by omega) hP
      have g2 := h4 (o P) (by have := d1 P hP; omega) hb
      simp only [if_true] at g2
      omega
end S29
