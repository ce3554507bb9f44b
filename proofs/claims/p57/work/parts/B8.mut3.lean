/-! THE CLASS'S CHANGES, as the law asks for them: stop, a ball less, place; refusals -/
section SB8
variable {N : NX} {w : WX} {d t b n m c : Nat} {α : Nat → Int} {o : Nat → Nat} {I : Nat → Nat → Int32} {L : Nat → Nat → Int64} {μ : Nat → Nat → Int64} {D : Nat → Nat → UInt64} {Q : Rs → St → Prop} {xs : Nat → Int32}
/-- the first i speeds are 0 -/
def szA (α : Nat → Int) : Nat → (Nat → Int)
  | 0 => α
  | i + 1 => up1 (szA α i) (B9 i 1) 0
theorem szA_ne {k : Nat} : ∀ i : Nat, (∀ j, j < i → k ≠ B9 j 1) → szA α i k = α k
  | 0, _ => rfl
  | i + 1, h => by
    show up1 (szA α i) (B9 i 1) 0 k = _
    rw [up1_ne (h i (by omega))]
    exact szA_ne i (fun j hj => h j (by omega))
theorem szA_G (hG : GA α n m o) : ∀ i : Nat, i ≤ n → GA (szA α i) n m o
  | 0, _ => hG
  | i + 1, h => spd_G (szA_G hG i (by omega)) (by omega) (by omega)
theorem c95_29 (hb : LB b) (h5 : rv (KR w 15 5) = .ref b) {v1 v2 : Int32} (h10 : n ≤ 10) : ∀ (q i : Nat) (ℓ : Nat → Nat → Int32), i + q = n → RL ℓ μ (szA α i) n m o → (∀ ℓ', RL ℓ' μ (szA α n) n m o → Wp d 95 59 [some (.ref 15), some (.int v1), some (.int v2), some (.int (Int32.ofInt (n : Int)))] [] (mk N t w (lay b ℓ' I) L D) Q) → Wp d 95 29 [some (.ref 15), some (.int v1), some (.int v2), some (.int (Int32.ofInt (i : Int)))] [] (mk N t w (lay b ℓ I) L D) Q := by
  intro q
  induction q with
  | zero =>
    intro i ℓ hi hR hQ
    obtain rfl : i = n := by omega
    have g : ¬ ((i : Int) < i) := by omega
    rw [w95_29]
    simp only [w95_30, w95_31, w95_34, w95_37, kn_s, kn_n, zh_mk, zR_mk, zI_mk, zL_mk, zD_mk, wI_mk, wL_mk, wD_mk, zT_mk, zC_mk, kill_i, kill_r, kill_0, kill_n, kill_l, kill_q, zzk_r, zzk_0, zzk_q, zcat_r, zcat_i, zcat_0, zcat_q, cats_0, cats_i, cats_r, cats_l, cats_d, cats_f, cats_q, cats_n, rv_s, rv_0, Nat.reduceAdd, Nat.reduceLeDiff, Nat.reduceEqDiff, Nat.add_zero, Nat.reduceMul, Nat.reduceSub, ne_eq, not_false_eq_true, not_true_eq_false, and_self, and_true, true_and, or_self, or_true, true_or, or_false, false_or, if_true, if_false, reduceIte, reduceCtorEq, implies_true, ite_self, ite_not, lay_in, lay_0, up2_lay, up2_lay0, kh0, kh1, kh2, kh3, kh4, kh5, kh6, kh7, kh8, kh9, kh10, kh11, kh12, khB, khP, kr2, kr4, kr5, kr7, kr8, kr9, kr10, krB, krP, krG0, krG1, krG2, krG3, krK, Nat.reduceLT, o_add, o_sub, o_mul, o_neg, q_add, q_sub, q_mul, q_neg, o_32, cast_s, Int.toNat_natCast, k15, h5, hb, rd_n hR, o_lt (a := (i : Int)) (b := (i : Int)) (by omega), g]
    exact hQ ℓ hR
  | succ q ih =>
    intro i ℓ hi hR hQ
    have g : (i : Int) < n := by omega
    have i10' : i < 10 := by omega
    have hR' : RL (up2 ℓ (i + 13) 2 (Int32.ofInt 0)) μ (szA α (i + 1)) n m o := by
      have := RL_i (key := B9 i 1) (v := 0) hR (by unfold kd B9; omega)
      rwa [mo_B (by omega) (by omega), mq_B (by omega) (by omega)] at this
    rw [w95_29]
    simp only [w95_30, w95_31, w95_34, w95_37, w95_40, w95_41, w95_44, w95_47, w95_48, w95_49, w95_50, w95_53, w95_56, kn_s, kn_n, zh_mk, zR_mk, zI_mk, zL_mk, zD_mk, wI_mk, wL_mk, wD_mk, zT_mk, zC_mk, kill_i, kill_r, kill_0, kill_n, kill_l, kill_q, zzk_r, zzk_0, zzk_q, zcat_r, zcat_i, zcat_0, zcat_q, cats_0, cats_i, cats_r, cats_l, cats_d, cats_f, cats_q, cats_n, rv_s, rv_0, Nat.reduceAdd, Nat.reduceLeDiff, Nat.reduceEqDiff, Nat.add_zero, Nat.reduceMul, Nat.reduceSub, ne_eq, not_false_eq_true, not_true_eq_false, and_self, and_true, true_and, or_self, or_true, true_or, or_false, false_or, if_true, if_false, reduceIte, reduceCtorEq, implies_true, ite_self, ite_not, lay_in, lay_0, up2_lay, up2_lay0, kh0, kh1, kh2, kh3, kh4, kh5, kh6, kh7, kh8, kh9, kh10, kh11, kh12, khB, khP, kr2, kr4, kr5, kr7, kr8, kr9, kr10, krB, krP, krG0, krG1, krG2, krG3, krK, Nat.reduceLT, o_add, o_sub, o_mul, o_neg, q_add, q_sub, q_mul, q_neg, o_32, cast_s, Int.toNat_natCast, k15, h5, hb, i10', show i + 13 < 27 by omega, rd_n hR, o_lt (a := (i : Int)) (b := (n : Int)) (by omega), g, o_ixn (j := i) (n := 10) (by omega), o_tnn (j := i) (by omega)]
    exact ih (i + 1) _ (by omega) hR' hQ
theorem c95 (hCI : CI xs c I L α n m o) (K : ∀ I' L', CI xs (c + 1) I' L' (psA α (szA α n) n) n m o → (∀ a, 294 ≤ a → I' a = I a) → Q (.inl (some (.int (Int32.ofInt (mvA α n))))) (mk N t w I' L' D)) : Wp (d + 3) 95 0 [some (.ref 15), none, none, none] [] (mk N t w I L D) Q := by
  obtain ⟨I1, L1, l21, hR1, hC1, hhi, -⟩ := mut_0 hCI
  have hG := hCI.2.2.1
  have h10 := hG.1.1
  have hG1 := szA_G hG n (Nat.le_refl n)
  have ne : ∀ k, (∀ j, j < n → k ≠ B9 j 1) → szA α n k = α k := fun k h => szA_ne n h
  have pb := pushA_b hG
  have hX2 : EX (c + 1) (psA α (szA α n) n) n := EX_ext hCI.2.2.2 (by omega) (fun k hk => by unfold psA; rw [up1_ne (by omega), ne _ (fun j hj => by unfold B9; omega)]) (fun i hi => by unfold psA; rw [up1_ne (by unfold B9; omega), ne _ (fun j hj => by unfold B9; omega)])
  have l := fun (d : Nat) => c95_29 (d := d + 3) (N := N) (t := t) (w := w) (I := I1) (L := L1) (D := D) (Q := Q) (α := α) (n := n) (m := m) (o := o) (μ := gl 19 L1) (v1 := Int32.ofInt (pushA α n)) (v2 := Int32.ofInt (mvA α n)) LB_now kr15_5 h10 n 0 (gl 19 I1) (by omega) hR1 (fun ℓ' h => by
    have hR2 := RL_7 (v := szA α n 7 + (pushA (szA α n) n - pushA α n)) h
    simp only [w95_59, w95_60, w95_63, w95_64, w95_67, w95_68, kn_s, kn_n, zh_mk, zR_mk, zI_mk, zL_mk, zD_mk, wI_mk, wL_mk, wD_mk, zT_mk, zC_mk, kill_i, kill_r, kill_0, kill_n, kill_l, kill_q, zzk_r, zzk_0, zzk_q, zcat_r, zcat_i, zcat_0, zcat_q, cats_0, cats_i, cats_r, cats_l, cats_d, cats_f, cats_q, cats_n, rv_s, rv_0, Nat.reduceAdd, Nat.reduceLeDiff, Nat.reduceEqDiff, Nat.add_zero, Nat.reduceMul, Nat.reduceSub, ne_eq, not_false_eq_true, not_true_eq_false, and_self, and_true, true_and, or_self, or_true, true_or, or_false, false_or, if_true, if_false, reduceIte, reduceCtorEq, implies_true, ite_self, ite_not, lay_in, lay_0, up2_lay, up2_lay0, kh0, kh1, kh2, kh3, kh4, kh5, kh6, kh7, kh8, kh9, kh10, kh11, kh12, khB, khP, kr2, kr4, kr5, kr7, kr8, kr9, kr10, krB, krP, krG0, krG1, krG2, krG3, krK, Nat.reduceLT, o_add, o_sub, o_mul, o_neg, q_add, q_sub, q_mul, q_neg, o_32, cast_s, Int.toNat_natCast, k15, kr15_8, k74, kr15_5, LB_now, kh19, c42m LB_now h hG1 (B := pushA α n) (by omega)]
    exact K _ _ ⟨hC1 _, RL_lay19 hR2, g7_G hG1, hX2⟩ (lay_hi hhi))
  rw [lay_gl] at l
  simp only [w95_0, w95_1, w95_4, w95_5, w95_8, w95_11, w95_12, w95_15, w95_18, w95_19, w95_20, w95_23, w95_26, w95_27, w95_28, kn_s, kn_n, zh_mk, zR_mk, zI_mk, zL_mk, zD_mk, wI_mk, wL_mk, wD_mk, zT_mk, zC_mk, kill_i, kill_r, kill_0, kill_n, kill_l, kill_q, zzk_r, zzk_0, zzk_q, zcat_r, zcat_i, zcat_0, zcat_q, cats_0, cats_i, cats_r, cats_l, cats_d, cats_f, cats_q, cats_n, rv_s, rv_0, Nat.reduceAdd, Nat.reduceLeDiff, Nat.reduceEqDiff, Nat.add_zero, Nat.reduceMul, Nat.reduceSub, ne_eq, not_false_eq_true, not_true_eq_false, and_self, and_true, true_and, or_self, or_true, true_or, or_false, false_or, if_true, if_false, reduceIte, reduceCtorEq, implies_true, ite_self, ite_not, lay_in, lay_0, up2_lay, up2_lay0, kh0, kh1, kh2, kh3, kh4, kh5, kh6, kh7, kh8, kh9, kh10, kh11, kh12, khB, khP, kr2, kr4, kr5, kr7, kr8, kr9, kr10, krB, krP, krG0, krG1, krG2, krG3, krK, Nat.reduceLT, o_add, o_sub, o_mul, o_neg, q_add, q_sub, q_mul, q_neg, o_32, cast_s, Int.toNat_natCast, k15, kr15_8, k74, kr15_5, LB_now, kh19, l21, c41r LB_now hR1 hG, c39r LB_now hR1 hG]
  exact l _
theorem c139 {g : Nat} (hg : g < n) (hCI : CI xs c I L α n m o) (K : ∀ I' L' o', CI xs (c + 1) I' L' (up1 (rvA α n g) 7 (rvA α n g 7 + (pushA (rvA α n g) (n - 1) - pushA α n))) (n - 1) m o' → (∀ a, 294 ≤ a → I' a = I a) → Q (.inl (some (.int (Int32.ofInt ((n - 1 : Nat) : Int))))) (mk N t w I' L' D)) : Wp (d + 4) 139 0 [some (.ref 15), some (.int (Int32.ofInt (g : Int))), none] [] (mk N t w I L D) Q := by
  obtain ⟨I1, L1, l21, hR1, hC1, hhi, -⟩ := mut_0 hCI
  have hR := hCI.2.1
  have hG := hCI.2.2.1
  have hX := hCI.2.2.2
  have h10 := hG.1.1
  have pb := pushA_b hG
  have hE2 := EX_rv (c' := c + 1) hX (by omega) h10 hg
  have hX2 : EX (c + 1) (up1 (rvA α n g) 7 (rvA α n g 7 + (pushA (rvA α n g) (n - 1) - pushA α n))) (n - 1) := EX_ext hE2 (Nat.le_refl _) (fun k hk => up1_ne (by omega)) (fun j hj => up1_ne (by unfold B9; omega))
  simp only [w139_0, w139_1, w139_2, w139_5, w139_6, w139_7, w139_10, w139_11, w139_14, w139_17, w139_18, w139_21, w139_24, w139_25, w139_26, w139_29, w139_30, kn_s, kn_n, zh_mk, zR_mk, zI_mk, zL_mk, zD_mk, wI_mk, wL_mk, wD_mk, zT_mk, zC_mk, kill_i, kill_r, kill_0, kill_n, kill_l, kill_q, zzk_r, zzk_0, zzk_q, zcat_r, zcat_i, zcat_0, zcat_q, cats_0, cats_i, cats_r, cats_l, cats_d, cats_f, cats_q, cats_n, rv_s, rv_0, Nat.reduceAdd, Nat.reduceLeDiff, Nat.reduceEqDiff, Nat.add_zero, Nat.reduceMul, Nat.reduceSub, ne_eq, not_false_eq_true, not_true_eq_false, and_self, and_true, true_and, or_self, or_true, true_or, or_false, false_or, if_true, if_false, reduceIte, reduceCtorEq, implies_true, ite_self, ite_not, lay_in, lay_0, up2_lay, up2_lay0, kh0, kh1, kh2, kh3, kh4, kh5, kh6, kh7, kh8, kh9, kh10, kh11, kh12, khB, khP, kr2, kr4, kr5, kr7, kr8, kr9, kr10, krB, krP, krG0, krG1, krG2, krG3, krK, Nat.reduceLT, o_add, o_sub, o_mul, o_neg, q_add, q_sub, q_mul, q_neg, o_32, cast_s, Int.toNat_natCast, k15, kr15_8, k74, kr15_5, LB_now, kh19, c107r LB_now kr15_5 hR hG hg, l21, c41r LB_now hR1 hG]
  refine c45r LB_now hR1 hG hX.2.1 hg (fun ℓ' o' hR' hG' => ?_)
  have hR2 := RL_7 (v := rvA α n g 7 + (pushA (rvA α n g) (n - 1) - pushA α n)) hR'
  have en2 : lay 19 ℓ' I1 19 3 = Int32.ofInt ((n - 1 : Nat) : Int) := by
    have := lay_in (b := 19) (ℓ := ℓ') (I := I1) (o := 0) (k := 3) (by omega)
    rw [show 19 + 0 = 19 from rfl] at this
    rw [this]; exact rd_n hR'
  simp only [w139_33, w139_34, w139_37, w139_38, w139_41, w139_42, w139_45, w139_48, kn_s, kn_n, zh_mk, zR_mk, zI_mk, zL_mk, zD_mk, wI_mk, wL_mk, wD_mk, zT_mk, zC_mk, kill_i, kill_r, kill_0, kill_n, kill_l, kill_q, zzk_r, zzk_0, zzk_q, zcat_r, zcat_i, zcat_0, zcat_q, cats_0, cats_i, cats_r, cats_l, cats_d, cats_f, cats_q, cats_n, rv_s, rv_0, Nat.reduceAdd, Nat.reduceLeDiff, Nat.reduceEqDiff, Nat.add_zero, Nat.reduceMul, Nat.reduceSub, ne_eq, not_false_eq_true, not_true_eq_false, and_self, and_true, true_and, or_self, or_true, true_or, or_false, false_or, if_true, if_false, reduceIte, reduceCtorEq, implies_true, ite_self, ite_not, lay_in, lay_0, up2_lay, up2_lay0, kh0, kh1, kh2, kh3, kh4, kh5, kh6, kh7, kh8, kh9, kh10, kh11, kh12, khB, khP, kr2, kr4, kr5, kr7, kr8, kr9, kr10, krB, krP, krG0, krG1, krG2, krG3, krK, Nat.reduceLT, o_add, o_sub, o_mul, o_neg, q_add, q_sub, q_mul, q_neg, o_32, cast_s, Int.toNat_natCast, k15, kr15_8, k74, kr15_5, LB_now, kh19, c42m LB_now hR' hG' (B := pushA α n) (by omega), en2, rd_n hR']
  exact K _ _ o' ⟨hC1 _, RL_lay19 hR2, g7_G hG', hX2⟩ (lay_hi hhi)
theorem c138_x {cc s g : Int} (hci : isC α cc) (hF : ¬ (n < 10 ∧ isF α n m cc)) (hs : -60 ≤ s ∧ s ≤ 60) (hg : 1 ≤ g ∧ g ≤ 20) (hCI : CI xs c I L α n m o) : Wp (d + 5) 138 0 [some (.ref 15), some (.int (Int32.ofInt cc)), some (.int (Int32.ofInt s)), some (.int (Int32.ofInt g)), none] [] (mk N t w I L D) Q = Q (.inr 0) (mk N (t + 1) w I L D) := by
  have hR := hCI.2.1
  have hG := hCI.2.2.1
  have h10 := hG.1.1
  have hc2 := hci
  unfold isC at hc2
  have h0 : α 0 ≤ 200 := hG.1.2.2.2.1
  have hz : -2147483648 ≤ cc ∧ cc < 2147483648 := by omega
  have en : I 19 3 = Int32.ofInt (n : Int) := rd_n hR
  have l09 := fun (d : Nat) (Q : Rs → St → Prop) => c109 (d := d) (N := N) (t := t) (w := w) (ℓ := gl 19 I) (I := I) (L := L) (D := D) (Q := Q) LB_now kr15_5 ⟨hG.1.2.2.1, hG.1.2.2.2.1⟩ (rd_0 hR) (z := cc) hz hci
  simp only [lay_gl] at l09
  by_cases hn : n < 10
  · have hF2 : ¬ isF α n m cc := fun h => hF ⟨hn, h⟩
    have hn' : (n : Int) < 10 := by omega
    simp only [w138_0, w138_1, w138_2, w138_5, w138_6, w138_8, w138_10, w138_13, w138_14, w138_15, w138_17, w138_20, w138_21, w138_24, w138_27, w138_29, w138_32, w138_33, w138_36, w138_37, w138_40, w138_43, kn_s, kn_n, zh_mk, zR_mk, zI_mk, zL_mk, zD_mk, wI_mk, wL_mk, wD_mk, zT_mk, zC_mk, kill_i, kill_r, kill_0, kill_n, kill_l, kill_q, zzk_r, zzk_0, zzk_q, zcat_r, zcat_i, zcat_0, zcat_q, cats_0, cats_i, cats_r, cats_l, cats_d, cats_f, cats_q, cats_n, rv_s, rv_0, Nat.reduceAdd, Nat.reduceLeDiff, Nat.reduceEqDiff, Nat.add_zero, Nat.reduceMul, Nat.reduceSub, ne_eq, not_false_eq_true, not_true_eq_false, and_self, and_true, true_and, or_self, or_true, true_or, or_false, false_or, if_true, if_false, reduceIte, reduceCtorEq, implies_true, ite_self, ite_not, lay_in, lay_0, up2_lay, up2_lay0, kh0, kh1, kh2, kh3, kh4, kh5, kh6, kh7, kh8, kh9, kh10, kh11, kh12, khB, khP, kr2, kr4, kr5, kr7, kr8, kr9, kr10, krB, krP, krG0, krG1, krG2, krG3, krK, Nat.reduceLT, o_add, o_sub, o_mul, o_neg, q_add, q_sub, q_mul, q_neg, o_32, cast_s, Int.toNat_natCast, k15, kr15_8, k74, kr15_5, LB_now, kh19, l09, c104 (z := s) (l := -60) (h := 60) (by omega) (by omega) (by omega) hs, c104 (z := g) (l := 1) (h := 20) (by omega) (by omega) (by omega) hg, en, o_lt (a := (n : Int)) (b := 10) (by omega), eq_true hn', c25r LB_now hR hG hz, p_0, eq_false hF2, Nat.zero_le]
  · have hn' : ¬ ((n : Int) < 10) := by omega
    simp only [w138_0, w138_1, w138_2, w138_5, w138_6, w138_8, w138_10, w138_13, w138_14, w138_15, w138_17, w138_20, w138_21, w138_24, w138_27, w138_29, w138_32, w138_33, w138_36, w138_37, w138_40, w138_43, kn_s, kn_n, zh_mk, zR_mk, zI_mk, zL_mk, zD_mk, wI_mk, wL_mk, wD_mk, zT_mk, zC_mk, kill_i, kill_r, kill_0, kill_n, kill_l, kill_q, zzk_r, zzk_0, zzk_q, zcat_r, zcat_i, zcat_0, zcat_q, cats_0, cats_i, cats_r, cats_l, cats_d, cats_f, cats_q, cats_n, rv_s, rv_0, Nat.reduceAdd, Nat.reduceLeDiff, Nat.reduceEqDiff, Nat.add_zero, Nat.reduceMul, Nat.reduceSub, ne_eq, not_false_eq_true, not_true_eq_false, and_self, and_true, true_and, or_self, or_true, true_or, or_false, false_or, if_true, if_false, reduceIte, reduceCtorEq, implies_true, ite_self, ite_not, lay_in, lay_0, up2_lay, up2_lay0, kh0, kh1, kh2, kh3, kh4, kh5, kh6, kh7, kh8, kh9, kh10, kh11, kh12, khB, khP, kr2, kr4, kr5, kr7, kr8, kr9, kr10, krB, krP, krG0, krG1, krG2, krG3, krK, Nat.reduceLT, o_add, o_sub, o_mul, o_neg, q_add, q_sub, q_mul, q_neg, o_32, cast_s, Int.toNat_natCast, k15, kr15_8, k74, kr15_5, LB_now, kh19, l09, c104 (z := s) (l := -60) (h := 60) (by omega) (by omega) (by omega) hs, c104 (z := g) (l := 1) (h := 20) (by omega) (by omega) (by omega) hg, en, o_lt (a := (n : Int)) (b := 10) (by omega), eq_false hn', Nat.zero_le]
theorem c141 {i : Nat} {z : Int} (hi : i < n) (hC : isC α z) (hfr : z = α (B9 i 0) ∨ isF α n m z) (hCI : CI xs c I L α n m o) (K : ∀ I' L' o', CI xs (c + 1) I' L' (up1 α (B9 i 0) z) n m o' → (∀ a, 294 ≤ a → I' a = I a) → Q (.inl (some (.int (Int32.ofInt (α (B9 i 0)))))) (mk N t w I' L' D)) : Wp (d + 3) 141 0 [some (.ref 15), some (.int (Int32.ofInt (i : Int))), some (.int (Int32.ofInt z)), none, none] [] (mk N t w I L D) Q := by
  obtain ⟨I1, L1, l21, hR1, hC1, hhi, -⟩ := mut_0 hCI
  have hR := hCI.2.1
  have hG := hCI.2.2.1
  have h10 := hG.1.1
  have hCb := hC
  unfold isC at hCb
  have h0 : α 0 ≤ 200 := hG.1.2.2.2.1
  have hy : -2147483648 ≤ z ∧ z < 2147483648 := by omega
  have i10' : i < 10 := by omega
  have i27 : i + 13 < 27 := by omega
  have gc := (hG.1.2.2.2.2 i hi).1
  have f0 : I (19 + (i + 13)) 1 = Int32.ofInt (α (B9 i 0)) := RL_B (k := 0) hR hi h10 (by omega)
  have f1 : I1 (19 + (i + 13)) 1 = Int32.ofInt (α (B9 i 0)) := RL_B (k := 0) hR1 hi h10 (by omega)
  have l09 := fun (d : Nat) (Q : Rs → St → Prop) => c109 (d := d) (N := N) (t := t) (w := w) (ℓ := gl 19 I) (I := I) (L := L) (D := D) (Q := Q) LB_now kr15_5 ⟨hG.1.2.2.1, hG.1.2.2.2.1⟩ (rd_0 hR) (z := z) hy hC
  simp only [lay_gl] at l09
  have hfb : ∀ j, j < n → j ≠ i → α (B9 j 0) ≠ z := fun j hj hji e => by
    rcases hfr with h | h
    · exact hji (cell_inj hG hj hi (by omega))
    · exact bAt_ne h.2.1 j hj e
  have hfp : ∀ p, p < m → α (P3 p 0) ≠ z := fun p hp e => by
    rcases hfr with h | h
    · exact hG.2.2.2.2.2.2 i hi p hp (by omega)
    · exact pAt_ne h.2.2 p hp e
  have hA := plc_G hG hi hC hfb hfp
  have hR2 : RL (up2 (gl 19 I1) (i + 13) 1 (Int32.ofInt z)) (gl 19 L1) (up1 α (B9 i 0) z) n m o := by
    have := RL_i (key := B9 i 0) (v := z) hR1 (by unfold kd B9; omega)
    rwa [mo_B (by omega) (by omega), mq_B (by omega) (by omega)] at this
  have hX2 : EX (c + 1) (up1 α (B9 i 0) z) n := EX_ext hCI.2.2.2 (by omega) (fun k hk => up1_ne (by unfold B9; omega)) (fun j hj => up1_ne (by unfold B9; omega))
  have eu : up2 I1 (19 + (i + 13)) 1 (Int32.ofInt z) = lay 19 (up2 (gl 19 I1) (i + 13) 1 (Int32.ofInt z)) I1 := by rw [← up2_lay (show i + 13 < 27 by omega), lay_gl]
  have first : Wp (d + 3) 141 0 [some (.ref 15), some (.int (Int32.ofInt (i : Int))), some (.int (Int32.ofInt z)), none, none] [] (mk N t w I L D) Q = Wp (d + 3) 141 38 [some (.ref 15), some (.int (Int32.ofInt (i : Int))), some (.int (Int32.ofInt z)), some (.ref (19 + (i + 13))), none] [] (mk N t w I L D) Q := by
    by_cases hown : z = α (B9 i 0)
    · simp only [w141_0, w141_1, w141_2, w141_5, w141_6, w141_7, w141_8, w141_11, w141_12, w141_13, w141_16, kn_s, kn_n, zh_mk, zR_mk, zI_mk, zL_mk, zD_mk, wI_mk, wL_mk, wD_mk, zT_mk, zC_mk, kill_i, kill_r, kill_0, kill_n, kill_l, kill_q, zzk_r, zzk_0, zzk_q, zcat_r, zcat_i, zcat_0, zcat_q, cats_0, cats_i, cats_r, cats_l, cats_d, cats_f, cats_q, cats_n, rv_s, rv_0, Nat.reduceAdd, Nat.reduceLeDiff, Nat.reduceEqDiff, Nat.add_zero, Nat.reduceMul, Nat.reduceSub, ne_eq, not_false_eq_true, not_true_eq_false, and_self, and_true, true_and, or_self, or_true, true_or, or_false, false_or, if_true, if_false, reduceIte, reduceCtorEq, implies_true, ite_self, ite_not, lay_in, lay_0, up2_lay, up2_lay0, kh0, kh1, kh2, kh3, kh4, kh5, kh6, kh7, kh8, kh9, kh10, kh11, kh12, khB, khP, kr2, kr4, kr5, kr7, kr8, kr9, kr10, krB, krP, krG0, krG1, krG2, krG3, krK, Nat.reduceLT, o_add, o_sub, o_mul, o_neg, q_add, q_sub, q_mul, q_neg, o_32, cast_s, Int.toNat_natCast, k15, kr15_8, k74, kr15_5, LB_now, kh19, i10', i27, khB (N := N) LB_now i10', f0, c107r LB_now kr15_5 hR hG hi, l09, o_eq (a := z) (b := α (B9 i 0)) (by omega), eq_true hown]
    · simp only [w141_0, w141_1, w141_2, w141_5, w141_6, w141_7, w141_8, w141_11, w141_12, w141_13, w141_16, w141_19, w141_20, w141_23, w141_24, w141_27, kn_s, kn_n, zh_mk, zR_mk, zI_mk, zL_mk, zD_mk, wI_mk, wL_mk, wD_mk, zT_mk, zC_mk, kill_i, kill_r, kill_0, kill_n, kill_l, kill_q, zzk_r, zzk_0, zzk_q, zcat_r, zcat_i, zcat_0, zcat_q, cats_0, cats_i, cats_r, cats_l, cats_d, cats_f, cats_q, cats_n, rv_s, rv_0, Nat.reduceAdd, Nat.reduceLeDiff, Nat.reduceEqDiff, Nat.add_zero, Nat.reduceMul, Nat.reduceSub, ne_eq, not_false_eq_true, not_true_eq_false, and_self, and_true, true_and, or_self, or_true, true_or, or_false, false_or, if_true, if_false, reduceIte, reduceCtorEq, implies_true, ite_self, ite_not, lay_in, lay_0, up2_lay, up2_lay0, kh0, kh1, kh2, kh3, kh4, kh5, kh6, kh7, kh8, kh9, kh10, kh11, kh12, khB, khP, kr2, kr4, kr5, kr7, kr8, kr9, kr10, krB, krP, krG0, krG1, krG2, krG3, krK, Nat.reduceLT, o_add, o_sub, o_mul, o_neg, q_add, q_sub, q_mul, q_neg, o_32, cast_s, Int.toNat_natCast, k15, kr15_8, k74, kr15_5, LB_now, kh19, i10', i27, khB (N := N) LB_now i10', f0, c107r LB_now kr15_5 hR hG hi, l09, o_eq (a := z) (b := α (B9 i 0)) (by omega), eq_false hown, c25r LB_now hR hG hy, p_0, eq_true (hfr.resolve_left hown)]
  rw [first]
  simp only [w141_38, w141_39, w141_42, w141_43, w141_46, w141_49, w141_50, w141_53, w141_55, w141_56, w141_57, w141_60, w141_61, w141_64, kn_s, kn_n, zh_mk, zR_mk, zI_mk, zL_mk, zD_mk, wI_mk, wL_mk, wD_mk, zT_mk, zC_mk, kill_i, kill_r, kill_0, kill_n, kill_l, kill_q, zzk_r, zzk_0, zzk_q, zcat_r, zcat_i, zcat_0, zcat_q, cats_0, cats_i, cats_r, cats_l, cats_d, cats_f, cats_q, cats_n, rv_s, rv_0, Nat.reduceAdd, Nat.reduceLeDiff, Nat.reduceEqDiff, Nat.add_zero, Nat.reduceMul, Nat.reduceSub, ne_eq, not_false_eq_true, not_true_eq_false, and_self, and_true, true_and, or_self, or_true, true_or, or_false, false_or, if_true, if_false, reduceIte, reduceCtorEq, implies_true, ite_self, ite_not, lay_in, lay_0, up2_lay, up2_lay0, kh0, kh1, kh2, kh3, kh4, kh5, kh6, kh7, kh8, kh9, kh10, kh11, kh12, khB, khP, kr2, kr4, kr5, kr7, kr8, kr9, kr10, krB, krP, krG0, krG1, krG2, krG3, krK, Nat.reduceLT, o_add, o_sub, o_mul, o_neg, q_add, q_sub, q_mul, q_neg, o_32, cast_s, Int.toNat_natCast, k15, kr15_8, k74, kr15_5, LB_now, kh19, l21, khB (N := N) LB_now i10', f1, eu, i27]
  refine c31 (n := n) (κ := fun j => up1 α (B9 i 0) z (B9 j 0)) LB_now h10 (by rw [u2_ne (by omega)]; exact rd_n hR1) (fun j hj => ?_) hA.2.2.2.2 (fun ω p hS hp => ?_)
  · have g := (hA.1.2.2.2.2 j hj).1
    have g2 := hA.1.2.2.2.1
    exact ⟨RL_B (k := 0) hR2 hj h10 (by omega), by omega, by omega⟩
  · simp only [w141_67, w141_69, kn_s, kn_n, zh_mk, zR_mk, zI_mk, zL_mk, zD_mk, wI_mk, wL_mk, wD_mk, zT_mk, zC_mk, kill_i, kill_r, kill_0, kill_n, kill_l, kill_q, zzk_r, zzk_0, zzk_q, zcat_r, zcat_i, zcat_0, zcat_q, cats_0, cats_i, cats_r, cats_l, cats_d, cats_f, cats_q, cats_n, rv_s, rv_0, Nat.reduceAdd, Nat.reduceLeDiff, Nat.reduceEqDiff, Nat.add_zero, Nat.reduceMul, Nat.reduceSub, ne_eq, not_false_eq_true, not_true_eq_false, and_self, and_true, true_and, or_self, or_true, true_or, or_false, false_or, if_true, if_false, reduceIte, reduceCtorEq, implies_true, ite_self, ite_not]
    have el : L1 = lay 19 (gl 19 L1) L1 := lay_gl.symm
    rw [el]
    exact K _ _ ω ⟨hC1 _, RL_lay19 (RL_o hR2 hp), GA_o hA.1 hA.2.1 hA.2.2.1 hS hA.2.2.2.1, hX2⟩ (lay_hi hhi)
theorem c141_x {i : Nat} {z : Int} (hi : i < n) (hC : isC α z) (hown : ¬ (z = α (B9 i 0))) (hF : ¬ isF α n m z) (hCI : CI xs c I L α n m o) : Wp (d + 5) 141 0 [some (.ref 15), some (.int (Int32.ofInt (i : Int))), some (.int (Int32.ofInt z)), none, none] [] (mk N t w I L D) Q = Q (.inr 0) (mk N (t + 1) w I L D) := by
  have hR := hCI.2.1
  have hG := hCI.2.2.1
  have h10 := hG.1.1
  have hCb := hC
  unfold isC at hCb
  have h0 : α 0 ≤ 200 := hG.1.2.2.2.1
  have hy : -2147483648 ≤ z ∧ z < 2147483648 := by omega
  have i10' : i < 10 := by omega
  have i27 : i + 13 < 27 := by omega
  have gc := (hG.1.2.2.2.2 i hi).1
  have f0 : I (19 + (i + 13)) 1 = Int32.ofInt (α (B9 i 0)) := RL_B (k := 0) hR hi h10 (by omega)
  have l09 := fun (d : Nat) (Q : Rs → St → Prop) => c109 (d := d) (N := N) (t := t) (w := w) (ℓ := gl 19 I) (I := I) (L := L) (D := D) (Q := Q) LB_now kr15_5 ⟨hG.1.2.2.1, hG.1.2.2.2.1⟩ (rd_0 hR) (z := z) hy hC
  simp only [lay_gl] at l09
  simp only [w141_0, w141_1, w141_2, w141_5, w141_6, w141_7, w141_8, w141_11, w141_12, w141_13, w141_16, w141_19, w141_20, w141_23, w141_24, w141_27, w141_30, kn_s, kn_n, zh_mk, zR_mk, zI_mk, zL_mk, zD_mk, wI_mk, wL_mk, wD_mk, zT_mk, zC_mk, kill_i, kill_r, kill_0, kill_n, kill_l, kill_q, zzk_r, zzk_0, zzk_q, zcat_r, zcat_i, zcat_0, zcat_q, cats_0, cats_i, cats_r, cats_l, cats_d, cats_f, cats_q, cats_n, rv_s, rv_0, Nat.reduceAdd, Nat.reduceLeDiff, Nat.reduceEqDiff, Nat.add_zero, Nat.reduceMul, Nat.reduceSub, ne_eq, not_false_eq_true, not_true_eq_false, and_self, and_true, true_and, or_self, or_true, true_or, or_false, false_or, if_true, if_false, reduceIte, reduceCtorEq, implies_true, ite_self, ite_not, lay_in, lay_0, up2_lay, up2_lay0, kh0, kh1, kh2, kh3, kh4, kh5, kh6, kh7, kh8, kh9, kh10, kh11, kh12, khB, khP, kr2, kr4, kr5, kr7, kr8, kr9, kr10, krB, krP, krG0, krG1, krG2, krG3, krK, Nat.reduceLT, o_add, o_sub, o_mul, o_neg, q_add, q_sub, q_mul, q_neg, o_32, cast_s, Int.toNat_natCast, k15, kr15_8, k74, kr15_5, LB_now, kh19, i10', i27, khB (N := N) LB_now i10', f0, c107r LB_now kr15_5 hR hG hi, l09, o_eq (a := z) (b := α (B9 i 0)) (by omega), eq_false hown, c25r LB_now hR hG hy, p_0, eq_false hF, Nat.zero_le]
end SB8
