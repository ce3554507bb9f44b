/-! THE LAW'S LOOP, whole -/
section SBK
variable {d : Nat} {D : Nat → Nat → UInt64} {Q : Rs → St → Prop} {xs : Nat → Int32} {first : Int}
theorem c195_48 {s : Nat} (hs : s ≤ 260) (hQ : ∀ (N : NX) (w : WX) (t : Nat) (I : Nat → Nat → Int32) (L : Nat → Nat → Int64), N.2.1 ≤ 600 → N.2.2.1 ≤ 200000 → t ≤ 60 → Q (.inl (some (.int (Int32.ofInt 1)))) (mk N t w I L D)) : ∀ (q j : Nat) (N : NX) (w : WX) (t : Nat) (I : Nat → Nat → Int32) (L : Nat → Nat → Int64) (α : Nat → Int) (n m : Nat) (o : Nat → Nat) (b : Bool) (u6 u7 u8 u9 u10 u11 : Option Value), j + q = 56 → N.1 = s → CI xs j I L α n m o → LI first (b = true) α n m → ZA N w I → 294 ≤ N.2.1 → N.2.1 ≤ 401 + 3 * j → N.2.2.1 ≤ 105300 + 300 * j → t ≤ j →
    Wp (d + 8) 195 48 [some (.ref 0), some (.ref 15), some (.long (Int64.ofInt first)), none, some (.int (Int32.ofInt (wB b))), some (.int (Int32.ofInt ((30 + 3 * j : Nat) : Int))), u6, u7, u8, u9, u10, u11] [] (mk N t w I L D) Q := by
  intro q
  induction q with
  | zero =>
    intro j N w t I L α n m o b u6 u7 u8 u9 u10 u11 hj hN hCI hLI hZ h1 h2 h3 h4
    have g : ¬ (((30 + 3 * j : Nat) : Int) + 2 < 200) := by omega
    rw [w195_48]
    simp only [w195_50, w195_51, w195_52, w195_55, w195_223, w195_224 nz1, kn_s, kn_n, zh_mk, zR_mk, zI_mk, zL_mk, zD_mk, wI_mk, wL_mk, wD_mk, zT_mk, zC_mk, kill_i, kill_r, kill_0, kill_n, kill_l, kill_q, zzk_r, zzk_0, zzk_q, zcat_r, zcat_i, zcat_0, zcat_q, cats_0, cats_i, cats_r, cats_l, cats_d, cats_f, cats_q, cats_n, rv_s, rv_0, Nat.reduceAdd, Nat.reduceLeDiff, Nat.reduceEqDiff, Nat.add_zero, Nat.reduceMul, Nat.reduceSub, ne_eq, not_false_eq_true, not_true_eq_false, and_self, and_true, true_and, or_self, or_true, true_or, or_false, false_or, if_true, if_false, reduceIte, reduceCtorEq, implies_true, ite_self, ite_not, o_add, o_lt (a := ((30 + 3 * j : Nat) : Int) + 2) (b := 200) (by omega), g]
    exact hQ N w t I L (by omega) (by omega) (by omega)
  | succ q ih =>
    intro j N w t I L α n m o b u6 u7 u8 u9 u10 u11 hj hN hCI hLI hZ h1 h2 h3 h4
    have g : ((30 + 3 * j : Nat) : Int) + 2 < 200 := by omega
    have h10 := hCI.2.2.1.1.1
    rw [w195_48]
    simp only [w195_50, w195_51, w195_52, w195_55, w195_58, w195_59, kn_s, kn_n, zh_mk, zR_mk, zI_mk, zL_mk, zD_mk, wI_mk, wL_mk, wD_mk, zT_mk, zC_mk, kill_i, kill_r, kill_0, kill_n, kill_l, kill_q, zzk_r, zzk_0, zzk_q, zcat_r, zcat_i, zcat_0, zcat_q, cats_0, cats_i, cats_r, cats_l, cats_d, cats_f, cats_q, cats_n, rv_s, rv_0, Nat.reduceAdd, Nat.reduceLeDiff, Nat.reduceEqDiff, Nat.add_zero, Nat.reduceMul, Nat.reduceSub, ne_eq, not_false_eq_true, not_true_eq_false, and_self, and_true, true_and, or_self, or_true, true_or, or_false, false_or, if_true, if_false, reduceIte, reduceCtorEq, implies_true, ite_self, ite_not, o_add, o_lt (a := ((30 + 3 * j : Nat) : Int) + 2) (b := 200) (by omega), g]
    refine c158 hCI hZ ⟨h1, by omega⟩ fun I1 hI1 hW1 hZ1 hC1 => ?_
    have hx1 : I1 0 = xs := funext fun i => hC1.1.1 i
    have dd := fun (d : Nat) (Q : Rs → St → Prop) => c147' (d := d) (N := nwN N (11, n) n) (w := w) (t := t) (L := L) (D := D) (Q := Q) (k := ((30 + 3 * j : Nat) : Int)) (n := 20) (κ := 30 + 3 * j) (ν := 20) rfl rfl hx1 (by rw [nwN_1]; omega) (by omega) (by omega)
    have hκ := dr_lt (L := (nwN N (11, n) n).1) (xs := xs) (k := 30 + 3 * j) (n := 20) (by omega)
    have act := fun (Q : Rs → St → Prop) (hK : AQ xs first (b = true) j α n m o (dr (nwN N (11, n) n).1 xs (30 + 3 * j) 20) (nwN N (11, n) n) w t D I1 Q) => c154 (d := d) (N := nwN N (11, n) n) (w := w) (t := t) (L := L) (D := D) (Q := Q) (k := 30 + 3 * j) (by omega) hx1 (by rw [nwN_1]; omega) hC1 hLI hK
    generalize dr (nwN N (11, n) n).1 xs (30 + 3 * j) 20 = κ at dd hκ act
    simp only [w195_62, w195_64, w195_65, w195_67, w195_69, w195_72, w195_74, w195_75, w195_76, w195_79, w195_81, w195_82, w195_83, w195_85, kn_s, kn_n, zh_mk, zR_mk, zI_mk, zL_mk, zD_mk, wI_mk, wL_mk, wD_mk, zT_mk, zC_mk, kill_i, kill_r, kill_0, kill_n, kill_l, kill_q, zzk_r, zzk_0, zzk_q, zcat_r, zcat_i, zcat_0, zcat_q, cats_0, cats_i, cats_r, cats_l, cats_d, cats_f, cats_q, cats_n, rv_s, rv_0, Nat.reduceAdd, Nat.reduceLeDiff, Nat.reduceEqDiff, Nat.add_zero, Nat.reduceMul, Nat.reduceSub, ne_eq, not_false_eq_true, not_true_eq_false, and_self, and_true, true_and, or_self, or_true, true_or, or_false, false_or, if_true, if_false, reduceIte, reduceCtorEq, implies_true, ite_self, ite_not, k15, dd, c105_3 hC1.2.1]
    refine act _ fun t' r I2 L2 α' n' m' o' p1 p2 p3 p4 p5 p6 p7 => ?_
    have ea3 : α 3 ≤ 3000 * (j : Int) := hCI.2.2.2.1.2
    have ea3' : α' 3 ≤ 3000 * ((j + 1 : Nat) : Int) := p2.2.2.2.1.2
    have eb3 : 0 ≤ α 3 := hCI.2.2.2.1.1
    have eb3' : 0 ≤ α' 3 := p2.2.2.2.1.1
    have h10' := p2.2.2.1.1.1
    have hZ2 : ZA (nwN N (11, n) n) w I2 := fun a ha i => by
      have ha' : N.2.1 + 1 ≤ a := ha
      exact ⟨by rw [p4 a (by omega)]; exact (hZ1 a ha i).1, (hZ1 a ha i).2⟩
    simp only [w195_88, kn_s, kn_n, zh_mk, zR_mk, zI_mk, zL_mk, zD_mk, wI_mk, wL_mk, wD_mk, zT_mk, zC_mk, kill_i, kill_r, kill_0, kill_n, kill_l, kill_q, zzk_r, zzk_0, zzk_q, zcat_r, zcat_i, zcat_0, zcat_q, cats_0, cats_i, cats_r, cats_l, cats_d, cats_f, cats_q, cats_n, rv_s, rv_0, Nat.reduceAdd, Nat.reduceLeDiff, Nat.reduceEqDiff, Nat.add_zero, Nat.reduceMul, Nat.reduceSub, ne_eq, not_false_eq_true, not_true_eq_false, and_self, and_true, true_and, or_self, or_true, true_or, or_false, false_or, if_true, if_false, reduceIte, reduceCtorEq, implies_true, ite_self, ite_not]
    refine c195_90 (κ := κ) hκ p7 (by omega) p2 p3 hZ2 ⟨by rw [nwN_2]; omega, by rw [nwN_2]; omega⟩ fun b' I3 q1 q2 q3 q4 => ?_
    have nx : ∀ (N' : NX) (I' : Nat → Nat → Int32) (v6 v7 v8 v9 v10 v11 : Option Value), N'.1 = s → CI xs (j + 1) I' L2 α' n' m' o' → ZA N' w I' → 294 ≤ N'.2.1 → N'.2.1 ≤ 401 + 3 * (j + 1) → N'.2.2.1 ≤ 105300 + 300 * (j + 1) → Wp (d + 8) 195 217 [some (.ref 0), some (.ref 15), some (.long (Int64.ofInt first)), none, some (.int (Int32.ofInt (wB b'))), some (.int (Int32.ofInt ((30 + 3 * j : Nat) : Int))), v6, v7, v8, v9, v10, v11] [] (mk N' t' w I' L2 D) Q := by
      intro N' I' v6 v7 v8 v9 v10 v11 a1 a2 a3 a4 a5 a6
      have e : ((30 + 3 * j : Nat) : Int) + 3 = ((30 + 3 * (j + 1) : Nat) : Int) := by omega
      simp only [w195_217, w195_220, kn_s, kn_n, zh_mk, zR_mk, zI_mk, zL_mk, zD_mk, wI_mk, wL_mk, wD_mk, zT_mk, zC_mk, kill_i, kill_r, kill_0, kill_n, kill_l, kill_q, zzk_r, zzk_0, zzk_q, zcat_r, zcat_i, zcat_0, zcat_q, cats_0, cats_i, cats_r, cats_l, cats_d, cats_f, cats_q, cats_n, rv_s, rv_0, Nat.reduceAdd, Nat.reduceLeDiff, Nat.reduceEqDiff, Nat.add_zero, Nat.reduceMul, Nat.reduceSub, ne_eq, not_false_eq_true, not_true_eq_false, and_self, and_true, true_and, or_self, or_true, true_or, or_false, false_or, if_true, if_false, reduceIte, reduceCtorEq, implies_true, ite_self, ite_not, o_add, e]
      exact ih (j + 1) N' w t' I' L2 α' n' m' o' b' v6 v7 v8 v9 v10 v11 (by omega) a1 a2 q1 a3 a4 a5 a6 (by omega)
    have n1 : (nwN (nwN N (11, n) n) (11, 200) 200).1 = s := hN
    have n2 : (nwN (nwN N (11, n) n) (11, 200) 200).2.1 = N.2.1 + 1 + 1 := rfl
    have n3 : (nwN (nwN N (11, n) n) (11, 200) 200).2.2.1 = N.2.2.1 + n + 200 := rfl
    have cmp : n' = n → o' = o → (κ = 16 ∨ α 3 < α' 3) → ∀ u10 u11 : Option Value, Wp (d + 8) 195 160 [some (.ref 0), some (.ref 15), some (.long (Int64.ofInt first)), none, some (.int (Int32.ofInt (wB b'))), some (.int (Int32.ofInt ((30 + 3 * j : Nat) : Int))), some (.ref N.2.1), some (.int (Int32.ofInt (κ : Int))), some (.int (Int32.ofInt (α 3))), some (.int (Int32.ofInt r)), u10, u11] [] (mk (nwN (nwN N (11, n) n) (11, 200) 200) t' w I3 L2 D) Q := by
      intro en eo ht u10 u11
      subst en eo
      simp only [w195_160, w195_161, kn_s, kn_n, zh_mk, zR_mk, zI_mk, zL_mk, zD_mk, wI_mk, wL_mk, wD_mk, zT_mk, zC_mk, kill_i, kill_r, kill_0, kill_n, kill_l, kill_q, zzk_r, zzk_0, zzk_q, zcat_r, zcat_i, zcat_0, zcat_q, cats_0, cats_i, cats_r, cats_l, cats_d, cats_f, cats_q, cats_n, rv_s, rv_0, Nat.reduceAdd, Nat.reduceLeDiff, Nat.reduceEqDiff, Nat.add_zero, Nat.reduceMul, Nat.reduceSub, ne_eq, not_false_eq_true, not_true_eq_false, and_self, and_true, true_and, or_self, or_true, true_or, or_false, false_or, if_true, if_false, reduceIte, reduceCtorEq, implies_true, ite_self, ite_not]
      refine c158 q4 q3 ⟨by rw [n2]; omega, by rw [n2]; omega⟩ fun I4 hI4 hW4 hZ4 hC4 => ?_
      have kW1 : KH (nwN (nwN (nwN N (11, n') n') (11, 200) 200) (11, n') n') N.2.1 = (11, n') := (KH_old (by rw [n2]; omega)).trans ((KH_old (show N.2.1 ≠ N.2.1 + 1 by omega)).trans (KH_new h1))
      have kW2 : KH (nwN (nwN (nwN N (11, n') n') (11, 200) 200) (11, n') n') (nwN (nwN N (11, n') n') (11, 200) 200).2.1 = (11, n') := KH_new (by rw [n2]; omega)
      have eW1 : ∀ i, i < n' → I4 N.2.1 i = Int32.ofInt (o' i : Int) := fun i hi => by
        rw [hI4 _ (by rw [n2]; omega), q2 _ (by rw [nwN_2]; omega), p4 _ h1]
        exact hW1 i hi
      simp only [w195_164, w195_166, w195_167, kn_s, kn_n, zh_mk, zR_mk, zI_mk, zL_mk, zD_mk, wI_mk, wL_mk, wD_mk, zT_mk, zC_mk, kill_i, kill_r, kill_0, kill_n, kill_l, kill_q, zzk_r, zzk_0, zzk_q, zcat_r, zcat_i, zcat_0, zcat_q, cats_0, cats_i, cats_r, cats_l, cats_d, cats_f, cats_q, cats_n, rv_s, rv_0, Nat.reduceAdd, Nat.reduceLeDiff, Nat.reduceEqDiff, Nat.add_zero, Nat.reduceMul, Nat.reduceSub, ne_eq, not_false_eq_true, not_true_eq_false, and_self, and_true, true_and, or_self, or_true, true_or, or_false, false_or, if_true, if_false, reduceIte, reduceCtorEq, implies_true, ite_self, ite_not]
      have l := c195_169 (d := d + 8) (N := nwN (nwN (nwN N (11, n') n') (11, 200) 200) (11, n') n') (w := w) (t := t') (L := L2) (D := D) (Q := Q) (I := I4) (o := o') (W1 := N.2.1) (W2 := (nwN (nwN N (11, n') n') (11, 200) 200).2.1) (lo := []) (v1 := some (.ref 15)) (v2 := some (.long (Int64.ofInt first))) (v3 := none) (v4 := some (.int (Int32.ofInt (wB b')))) (v5 := some (.int (Int32.ofInt ((30 + 3 * j : Nat) : Int)))) (v7 := some (.int (Int32.ofInt (κ : Int)))) (v8 := some (.int (Int32.ofInt (α 3)))) (v9 := some (.int (Int32.ofInt r))) ⟨h1, kW1⟩ ⟨by rw [n2]; omega, kW2⟩ h10' eW1 hW4 n' 0 (by omega)
      refine Eq.mpr l ?_
      have fin := fun v10 v11 => nx (nwN (nwN (nwN N (11, n') n') (11, 200) 200) (11, n') n') I4 (some (.ref N.2.1)) (some (.int (Int32.ofInt (κ : Int)))) (some (.int (Int32.ofInt (α 3)))) (some (.int (Int32.ofInt r))) v10 v11 hN hC4 hZ4 (by show 294 ≤ N.2.1 + 1 + 1 + 1; omega) (by show N.2.1 + 1 + 1 + 1 ≤ _; omega) (by show N.2.2.1 + n' + 200 + n' ≤ _; omega)
      by_cases h16 : κ = 16
      · simp only [w195_198, w195_200, w195_202, kn_s, kn_n, zh_mk, zR_mk, zI_mk, zL_mk, zD_mk, wI_mk, wL_mk, wD_mk, zT_mk, zC_mk, kill_i, kill_r, kill_0, kill_n, kill_l, kill_q, zzk_r, zzk_0, zzk_q, zcat_r, zcat_i, zcat_0, zcat_q, cats_0, cats_i, cats_r, cats_l, cats_d, cats_f, cats_q, cats_n, rv_s, rv_0, Nat.reduceAdd, Nat.reduceLeDiff, Nat.reduceEqDiff, Nat.add_zero, Nat.reduceMul, Nat.reduceSub, ne_eq, not_false_eq_true, not_true_eq_false, and_self, and_true, true_and, or_self, or_true, true_or, or_false, false_or, if_true, if_false, reduceIte, reduceCtorEq, implies_true, ite_self, ite_not, o_eq (a := (κ : Int)) (b := 16) (by omega), show ((κ : Int) = 16) = True by rw [eq_iff_iff, iff_true]; omega]
        exact fin _ _
      · have hlt := ht.resolve_left h16
        simp only [w195_198, w195_200, w195_202, w195_205, w195_206, w195_207, w195_210, w195_212, kn_s, kn_n, zh_mk, zR_mk, zI_mk, zL_mk, zD_mk, wI_mk, wL_mk, wD_mk, zT_mk, zC_mk, kill_i, kill_r, kill_0, kill_n, kill_l, kill_q, zzk_r, zzk_0, zzk_q, zcat_r, zcat_i, zcat_0, zcat_q, cats_0, cats_i, cats_r, cats_l, cats_d, cats_f, cats_q, cats_n, rv_s, rv_0, Nat.reduceAdd, Nat.reduceLeDiff, Nat.reduceEqDiff, Nat.add_zero, Nat.reduceMul, Nat.reduceSub, ne_eq, not_false_eq_true, not_true_eq_false, and_self, and_true, true_and, or_self, or_true, true_or, or_false, false_or, if_true, if_false, reduceIte, reduceCtorEq, implies_true, ite_self, ite_not, k15, o_eq (a := (κ : Int)) (b := 16) (by omega), show ((κ : Int) = 16) = False by rw [eq_iff_iff, iff_false]; omega, c105_3 hC4.2.1, o_lt (a := α 3) (b := α' 3) (by omega), eq_true hlt]
        exact fin _ _
    by_cases k7 : κ ≤ 7
    · obtain ⟨a1, a2, a3⟩ := p5 (Or.inl k7)
      have gg : ¬ ((7 : Int) < (κ : Int)) := by omega
      simp only [w195_136, w195_138, w195_140, kn_s, kn_n, zh_mk, zR_mk, zI_mk, zL_mk, zD_mk, wI_mk, wL_mk, wD_mk, zT_mk, zC_mk, kill_i, kill_r, kill_0, kill_n, kill_l, kill_q, zzk_r, zzk_0, zzk_q, zcat_r, zcat_i, zcat_0, zcat_q, cats_0, cats_i, cats_r, cats_l, cats_d, cats_f, cats_q, cats_n, rv_s, rv_0, Nat.reduceAdd, Nat.reduceLeDiff, Nat.reduceEqDiff, Nat.add_zero, Nat.reduceMul, Nat.reduceSub, ne_eq, not_false_eq_true, not_true_eq_false, and_self, and_true, true_and, or_self, or_true, true_or, or_false, false_or, if_true, if_false, reduceIte, reduceCtorEq, implies_true, ite_self, ite_not, o_lt (a := 7) (b := (κ : Int)) (by omega), gg]
      exact cmp a1 a2 (Or.inr a3) _ _
    · have gg : (7 : Int) < (κ : Int) := by omega
      by_cases k16 : κ = 16
      · obtain ⟨a1, a2⟩ := p6 k16
        simp only [w195_136, w195_138, w195_140, w195_143, w195_145, w195_147, kn_s, kn_n, zh_mk, zR_mk, zI_mk, zL_mk, zD_mk, wI_mk, wL_mk, wD_mk, zT_mk, zC_mk, kill_i, kill_r, kill_0, kill_n, kill_l, kill_q, zzk_r, zzk_0, zzk_q, zcat_r, zcat_i, zcat_0, zcat_q, cats_0, cats_i, cats_r, cats_l, cats_d, cats_f, cats_q, cats_n, rv_s, rv_0, Nat.reduceAdd, Nat.reduceLeDiff, Nat.reduceEqDiff, Nat.add_zero, Nat.reduceMul, Nat.reduceSub, ne_eq, not_false_eq_true, not_true_eq_false, and_self, and_true, true_and, or_self, or_true, true_or, or_false, false_or, if_true, if_false, reduceIte, reduceCtorEq, implies_true, ite_self, ite_not, o_lt (a := 7) (b := (κ : Int)) (by omega), gg, o_eq (a := (κ : Int)) (b := 16) (by omega), show ((κ : Int) = 16) = True by rw [eq_iff_iff, iff_true]; omega]
        exact cmp a1 a2 (Or.inl k16) _ _
      · by_cases k18 : 18 ≤ κ
        · obtain ⟨a1, a2, a3⟩ := p5 (Or.inr k18)
          have g18 : ¬ ((κ : Int) < 18) := by omega
          simp only [w195_136, w195_138, w195_140, w195_143, w195_145, w195_147, w195_150, w195_152, w195_154, kn_s, kn_n, zh_mk, zR_mk, zI_mk, zL_mk, zD_mk, wI_mk, wL_mk, wD_mk, zT_mk, zC_mk, kill_i, kill_r, kill_0, kill_n, kill_l, kill_q, zzk_r, zzk_0, zzk_q, zcat_r, zcat_i, zcat_0, zcat_q, cats_0, cats_i, cats_r, cats_l, cats_d, cats_f, cats_q, cats_n, rv_s, rv_0, Nat.reduceAdd, Nat.reduceLeDiff, Nat.reduceEqDiff, Nat.add_zero, Nat.reduceMul, Nat.reduceSub, ne_eq, not_false_eq_true, not_true_eq_false, and_self, and_true, true_and, or_self, or_true, true_or, or_false, false_or, if_true, if_false, reduceIte, reduceCtorEq, implies_true, ite_self, ite_not, o_lt (a := 7) (b := (κ : Int)) (by omega), gg, o_eq (a := (κ : Int)) (b := 16) (by omega), show ((κ : Int) = 16) = False by rw [eq_iff_iff, iff_false]; omega, o_lt (a := (κ : Int)) (b := 18) (by omega), g18]
          exact cmp a1 a2 (Or.inr a3) _ _
        · have g18 : (κ : Int) < 18 := by omega
          simp only [w195_136, w195_138, w195_140, w195_143, w195_145, w195_147, w195_150, w195_152, w195_154, w195_157, kn_s, kn_n, zh_mk, zR_mk, zI_mk, zL_mk, zD_mk, wI_mk, wL_mk, wD_mk, zT_mk, zC_mk, kill_i, kill_r, kill_0, kill_n, kill_l, kill_q, zzk_r, zzk_0, zzk_q, zcat_r, zcat_i, zcat_0, zcat_q, cats_0, cats_i, cats_r, cats_l, cats_d, cats_f, cats_q, cats_n, rv_s, rv_0, Nat.reduceAdd, Nat.reduceLeDiff, Nat.reduceEqDiff, Nat.add_zero, Nat.reduceMul, Nat.reduceSub, ne_eq, not_false_eq_true, not_true_eq_false, and_self, and_true, true_and, or_self, or_true, true_or, or_false, false_or, if_true, if_false, reduceIte, reduceCtorEq, implies_true, ite_self, ite_not, o_lt (a := 7) (b := (κ : Int)) (by omega), gg, o_eq (a := (κ : Int)) (b := 16) (by omega), show ((κ : Int) = 16) = False by rw [eq_iff_iff, iff_false]; omega, o_lt (a := (κ : Int)) (b := 18) (by omega), g18]
          exact nx _ I3 _ _ _ _ _ _ n1 q4 q3 (by rw [n2]; omega) (by rw [n2]; omega) (by rw [n3]; omega)
end SBK
