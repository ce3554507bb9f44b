/-! THE CLASS'S CHANGES, as the law asks for them: weight, turn, steal, a ball more -/
section SB7
variable {N : NX} {w : WX} {d t n m c : Nat} {α : Nat → Int} {o : Nat → Nat} {I : Nat → Nat → Int32} {L : Nat → Nat → Int64} {D : Nat → Nat → UInt64} {Q : Rs → St → Prop} {xs : Nat → Int32}
theorem c136 {i : Nat} {z : Int} (hi : i < n) (hz : 1 ≤ z ∧ z ≤ 20) (hCI : CI xs c I L α n m o) (K : ∀ I' L', CI xs (c + 1) I' L' (psA α (up1 α (B9 i 2) (z)) n) n m o → (∀ a, 294 ≤ a → I' a = I a) → Q (.inl (some (.int (Int32.ofInt (α (B9 i 2)))))) (mk N t w I' L' D)) : Wp (d + 3) 136 0 [some (.ref 15), some (.int (Int32.ofInt (i : Int))), some (.int (Int32.ofInt z)), none, none, none] [] (mk N t w I L D) Q := by
  obtain ⟨I1, L1, l21, hR1, hC1, hhi, -⟩ := mut_0 hCI
  have hR := hCI.2.1
  have hG := hCI.2.2.1
  have h10 := hG.1.1
  have gs := (hG.1.2.2.2.2 i hi).2.1
  have i10' : i < 10 := by omega
  have i27 : i + 13 < 27 := by omega
  have pb := pushA_b hG
  have f1 : I1 (19 + (i + 13)) 3 = Int32.ofInt (α (B9 i 2)) := RL_B (k := 2) hR1 hi h10 (by omega)
  have hG1 : GA (up1 α (B9 i 2) (z)) n m o := wgt_G hG hi hz
  have hR2 : RL (up2 (gl 19 I1) (i + 13) 3 (Int32.ofInt (z))) (gl 19 L1) (up1 α (B9 i 2) (z)) n m o := by
    have := RL_i (key := B9 i 2) (v := z) hR1 (by unfold kd B9; omega)
    rwa [mo_B (by omega) (by omega), mq_B (by omega) (by omega)] at this
  have hR3 := RL_7 (v := (up1 α (B9 i 2) (z)) 7 + (pushA (up1 α (B9 i 2) (z)) n - pushA α n)) hR2
  have hX2 : EX (c + 1) (psA α (up1 α (B9 i 2) (z)) n) n := EX_ext hCI.2.2.2 (by omega) (fun k hk => by unfold psA; rw [up1_ne (by omega), up1_ne (by unfold B9; omega)]) (fun j hj => by unfold psA; rw [up1_ne (by unfold B9; omega), up1_ne (by unfold B9; omega)])
  have eu : up2 I1 (19 + (i + 13)) 3 (Int32.ofInt (z)) = lay 19 (up2 (gl 19 I1) (i + 13) 3 (Int32.ofInt (z))) I1 := by rw [← up2_lay (show i + 13 < 27 by omega), lay_gl]
  simp only [w136_0, w136_1, w136_2, w136_5, w136_6, w136_7, w136_8, w136_10, w136_13, w136_14, w136_17, w136_18, w136_21, w136_24, w136_25, w136_28, w136_31, w136_33, w136_34, w136_37, w136_39, w136_40, w136_41, w136_44, w136_45, w136_48, w136_50, w136_53, w136_55, kn_s, kn_n, zh_mk, zR_mk, zI_mk, zL_mk, zD_mk, wI_mk, wL_mk, wD_mk, zT_mk, zC_mk, kill_i, kill_r, kill_0, kill_n, kill_l, kill_q, zzk_r, zzk_0, zzk_q, zcat_r, zcat_i, zcat_0, zcat_q, cats_0, cats_i, cats_r, cats_l, cats_d, cats_f, cats_q, cats_n, rv_s, rv_0, Nat.reduceAdd, Nat.reduceLeDiff, Nat.reduceEqDiff, Nat.add_zero, Nat.reduceMul, Nat.reduceSub, ne_eq, not_false_eq_true, not_true_eq_false, and_self, and_true, true_and, or_self, or_true, true_or, or_false, false_or, if_true, if_false, reduceIte, reduceCtorEq, implies_true, ite_self, ite_not, lay_in, lay_0, up2_lay, up2_lay0, kh0, kh1, kh2, kh3, kh4, kh5, kh6, kh7, kh8, kh9, kh10, kh11, kh12, khB, khP, kr2, kr4, kr5, kr7, kr8, kr9, kr10, krB, krP, krG0, krG1, krG2, krG3, krK, Nat.reduceLT, o_add, o_sub, o_mul, o_neg, q_add, q_sub, q_mul, q_neg, o_32, cast_s, Int.toNat_natCast, k15, kr15_8, k74, kr15_5, LB_now, kh19, c107r LB_now kr15_5 hR hG hi, l21, c41r LB_now hR1 hG, khB (N := N) LB_now i10', f1, c104 (z := z) (l := 1) (h := 20) (by omega) (by omega) (by omega) hz, eu, c42m LB_now hR2 hG1 (B := pushA α n) (by omega), i27, up2_same]
  exact K _ _ ⟨hC1 _, RL_lay19 hR3, g7_G hG1, hX2⟩ (lay_hi hhi)
theorem c140 {i : Nat} (hi : i < n) (hCI : CI xs c I L α n m o) (K : ∀ I' L', CI xs (c + 1) I' L' (psA α (up1 α (B9 i 1) (-α (B9 i 1))) n) n m o → (∀ a, 294 ≤ a → I' a = I a) → Q (.inl (some (.int (Int32.ofInt (-α (B9 i 1)))))) (mk N t w I' L' D)) : Wp (d + 3) 140 0 [some (.ref 15), some (.int (Int32.ofInt (i : Int))), none, none] [] (mk N t w I L D) Q := by
  obtain ⟨I1, L1, l21, hR1, hC1, hhi, -⟩ := mut_0 hCI
  have hR := hCI.2.1
  have hG := hCI.2.2.1
  have h10 := hG.1.1
  have gs := (hG.1.2.2.2.2 i hi).2.1
  have i10' : i < 10 := by omega
  have i27 : i + 13 < 27 := by omega
  have pb := pushA_b hG
  have f1 : I1 (19 + (i + 13)) 2 = Int32.ofInt (α (B9 i 1)) := RL_B (k := 1) hR1 hi h10 (by omega)
  have hG1 : GA (up1 α (B9 i 1) (-α (B9 i 1))) n m o := spd_G hG hi (by omega)
  have hR2 : RL (up2 (gl 19 I1) (i + 13) 2 (Int32.ofInt (-α (B9 i 1)))) (gl 19 L1) (up1 α (B9 i 1) (-α (B9 i 1))) n m o := by
    have := RL_i (key := B9 i 1) (v := -α (B9 i 1)) hR1 (by unfold kd B9; omega)
    rwa [mo_B (by omega) (by omega), mq_B (by omega) (by omega)] at this
  have hR3 := RL_7 (v := (up1 α (B9 i 1) (-α (B9 i 1))) 7 + (pushA (up1 α (B9 i 1) (-α (B9 i 1))) n - pushA α n)) hR2
  have hX2 : EX (c + 1) (psA α (up1 α (B9 i 1) (-α (B9 i 1))) n) n := EX_ext hCI.2.2.2 (by omega) (fun k hk => by unfold psA; rw [up1_ne (by omega), up1_ne (by unfold B9; omega)]) (fun j hj => by unfold psA; rw [up1_ne (by unfold B9; omega), up1_ne (by unfold B9; omega)])
  have eu : up2 I1 (19 + (i + 13)) 2 (Int32.ofInt (-α (B9 i 1))) = lay 19 (up2 (gl 19 I1) (i + 13) 2 (Int32.ofInt (-α (B9 i 1)))) I1 := by rw [← up2_lay (show i + 13 < 27 by omega), lay_gl]
  simp only [w140_0, w140_1, w140_2, w140_5, w140_6, w140_7, w140_10, w140_11, w140_14, w140_17, w140_18, w140_21, w140_24, w140_25, w140_26, w140_27, w140_30, w140_31, w140_34, w140_35, w140_38, w140_39, w140_42, w140_43, w140_46, kn_s, kn_n, zh_mk, zR_mk, zI_mk, zL_mk, zD_mk, wI_mk, wL_mk, wD_mk, zT_mk, zC_mk, kill_i, kill_r, kill_0, kill_n, kill_l, kill_q, zzk_r, zzk_0, zzk_q, zcat_r, zcat_i, zcat_0, zcat_q, cats_0, cats_i, cats_r, cats_l, cats_d, cats_f, cats_q, cats_n, rv_s, rv_0, Nat.reduceAdd, Nat.reduceLeDiff, Nat.reduceEqDiff, Nat.add_zero, Nat.reduceMul, Nat.reduceSub, ne_eq, not_false_eq_true, not_true_eq_false, and_self, and_true, true_and, or_self, or_true, true_or, or_false, false_or, if_true, if_false, reduceIte, reduceCtorEq, implies_true, ite_self, ite_not, lay_in, lay_0, up2_lay, up2_lay0, kh0, kh1, kh2, kh3, kh4, kh5, kh6, kh7, kh8, kh9, kh10, kh11, kh12, khB, khP, kr2, kr4, kr5, kr7, kr8, kr9, kr10, krB, krP, krG0, krG1, krG2, krG3, krK, Nat.reduceLT, o_add, o_sub, o_mul, o_neg, q_add, q_sub, q_mul, q_neg, o_32, cast_s, Int.toNat_natCast, k15, kr15_8, k74, kr15_5, LB_now, kh19, c107r LB_now kr15_5 hR hG hi, l21, c41r LB_now hR1 hG, khB (N := N) LB_now i10', f1, o_neg, eu, c42m LB_now hR2 hG1 (B := pushA α n) (by omega), i27, up2_same]
  exact K _ _ ⟨hC1 _, RL_lay19 hR3, g7_G hG1, hX2⟩ (lay_hi hhi)
/-- which place of the row a post's or wall's steal has -/
def stK (z : Int) : Nat := if z = -1 then 8 else if z = -2 then 9 else P3 z.toNat 1
theorem wal_G {k : Nat} {v : Int} (hG : GA α n m o) (hk : k = 8 ∨ k = 9) (hv : 0 ≤ v ∧ v ≤ 100) : GA (up1 α k v) n m o := by
  obtain ⟨⟨a1, a2, a3, a4, a5⟩, ⟨b1, b2, b3⟩, ⟨c1, c2, c3⟩, d1, d2, d3, d4⟩ := hG
  have e : ∀ j, j ≠ k → up1 α k v j = α j := fun j h => up1_ne h
  have eB : ∀ i q, up1 α k v (B9 i q) = α (B9 i q) := fun i q => e _ (by unfold B9; omega)
  have eP : ∀ p q, up1 α k v (P3 p q) = α (P3 p q) := fun p q => e _ (by unfold P3; omega)
  refine ⟨⟨a1, by rw [e 1 (by omega)]; exact a2, by rw [e 0 (by omega)]; exact a3, by rw [e 0 (by omega)]; exact a4, fun i hi => by rw [eB, eB, eB, eB, e 0 (by omega)]; exact a5 i hi⟩, ⟨b1, by rw [e 2 (by omega)]; exact b2, fun p hp => by rw [eP, eP, e 0 (by omega)]; exact b3 p hp⟩, ⟨?_, ?_, by rw [e 4 (by omega)]; exact c3⟩, d1, fun p q h1 h2 => by rw [eB, eB]; exact d2 p q h1 h2, d3, fun i hi p hp => by rw [eB, eP]; exact d4 i hi p hp⟩
  · by_cases h8 : k = 8
    · rw [h8, up1_eq']; exact hv
    · rw [e 8 (by omega)]; exact c1
  · by_cases h9 : k = 9
    · rw [h9, up1_eq']; exact hv
    · rw [e 9 (by omega)]; exact c2
theorem ste_G {z v : Int} (hG : GA α n m o) (hz : -2 ≤ z ∧ z ≤ (m : Int) - 1) (hv : 0 ≤ v ∧ v ≤ 100) : GA (up1 α (stK z) v) n m o := by
  unfold stK
  by_cases h1 : z = -1
  · rw [if_pos h1]
    exact wal_G hG (Or.inl rfl) hv
  · rw [if_neg h1]
    by_cases h2 : z = -2
    · rw [if_pos h2]
      exact wal_G hG (Or.inr rfl) hv
    · rw [if_neg h2]
      exact pst_G hG (by omega) hv
theorem brO_b {z : Int} (hm : m ≤ 4) (hz : -2 ≤ z ∧ z ≤ (m : Int) - 1) : brO z < 27 ∧ KH N (19 + brO z) = (2, 0) ∧ mo (stK z) = brO z ∧ mq (stK z) = 1 ∧ kd n m (stK z) ∧ (stK z = 8 ∨ stK z = 9 ∨ (16 ≤ stK z ∧ stK z < 28)) ∧ stK z ≠ 3 := by
  unfold brO stK
  by_cases h1 : z = -1
  · rw [if_pos h1, if_pos h1]
    exact ⟨by omega, rfl, rfl, rfl, by unfold kd; omega, by omega, by omega⟩
  · rw [if_neg h1, if_neg h1]
    by_cases h2 : z = -2
    · rw [if_pos h2, if_pos h2]
      exact ⟨by omega, rfl, rfl, rfl, by unfold kd; omega, by omega, by omega⟩
    · rw [if_neg h2, if_neg h2]
      exact ⟨by omega, khP LB_now (by omega), mo_P (by omega) (by omega), mq_P (by omega) (by omega), by unfold kd P3; omega, by unfold P3; omega, by unfold P3; omega⟩
theorem c137 {z v : Int} (hz : -2 ≤ z ∧ z ≤ (m : Int) - 1) (hv : 0 ≤ v ∧ v ≤ 100) (hCI : CI xs c I L α n m o) (K : ∀ I' L', CI xs (c + 1) I' L' (up1 α (stK z) v) n m o → (∀ a, 294 ≤ a → I' a = I a) → Q (.inl (some (.int (Int32.ofInt (α (stK z)))))) (mk N t w I' L' D)) : Wp (d + 3) 137 0 [some (.ref 15), some (.int (Int32.ofInt z)), some (.int (Int32.ofInt v)), none, none] [] (mk N t w I L D) Q := by
  obtain ⟨I1, L1, l21, hR1, hC1, hhi, -⟩ := mut_0 hCI
  have hR := hCI.2.1
  have hG := hCI.2.2.1
  obtain ⟨k1, k2, k3, k4, k5, k6, k7⟩ := brO_b (N := N) (n := n) hG.2.1.1 hz
  have hR2 := RL_i (key := stK z) (v := v) hR1 k5
  rw [k3, k4] at hR2
  have f1 : I1 (19 + brO z) 1 = Int32.ofInt (α (stK z)) := by
    have := hR1.1 (stK z) k5
    rw [k3, k4] at this
    exact this
  have eu : up2 I1 (19 + brO z) 1 (Int32.ofInt v) = lay 19 (up2 (gl 19 I1) (brO z) 1 (Int32.ofInt v)) I1 := by rw [← up2_lay k1, lay_gl]
  have hX2 : EX (c + 1) (up1 α (stK z) v) n := EX_ext hCI.2.2.2 (by omega) (fun k hk => up1_ne (by omega)) (fun j hj => up1_ne (by unfold B9; omega))
  have el : L1 = lay 19 (gl 19 L1) L1 := lay_gl.symm
  simp only [w137_0, w137_1, w137_2, w137_5, w137_6, w137_7, w137_8, w137_10, w137_13, w137_14, w137_17, w137_18, w137_21, w137_24, w137_25, w137_28, w137_30, w137_31, w137_32, w137_35, w137_37, kn_s, kn_n, zh_mk, zR_mk, zI_mk, zL_mk, zD_mk, wI_mk, wL_mk, wD_mk, zT_mk, zC_mk, kill_i, kill_r, kill_0, kill_n, kill_l, kill_q, zzk_r, zzk_0, zzk_q, zcat_r, zcat_i, zcat_0, zcat_q, cats_0, cats_i, cats_r, cats_l, cats_d, cats_f, cats_q, cats_n, rv_s, rv_0, Nat.reduceAdd, Nat.reduceLeDiff, Nat.reduceEqDiff, Nat.add_zero, Nat.reduceMul, Nat.reduceSub, ne_eq, not_false_eq_true, not_true_eq_false, and_self, and_true, true_and, or_self, or_true, true_or, or_false, false_or, if_true, if_false, reduceIte, reduceCtorEq, implies_true, ite_self, ite_not, lay_in, lay_0, up2_lay, up2_lay0, kh0, kh1, kh2, kh3, kh4, kh5, kh6, kh7, kh8, kh9, kh10, kh11, kh12, khB, khP, kr2, kr4, kr5, kr7, kr8, kr9, kr10, krB, krP, krG0, krG1, krG2, krG3, krK, Nat.reduceLT, o_add, o_sub, o_mul, o_neg, q_add, q_sub, q_mul, q_neg, o_32, cast_s, Int.toNat_natCast, k15, kr15_8, k74, kr15_5, LB_now, kh19, c111r LB_now kr15_5 hR hG hz, c104 (z := v) (l := 0) (h := 100) (by omega) (by omega) (by omega) hv, l21, k2, f1, eu]
  rw [el]
  exact K _ _ ⟨hC1 _, RL_lay19 hR2, ste_G hG hz hv, hX2⟩ (lay_hi hhi)
theorem c138 {cc s g : Int} (hn : n < 10) (hF : isF α n m cc) (hs : -60 ≤ s ∧ s ≤ 60) (hg : 1 ≤ g ∧ g ≤ 20) (hCI : CI xs c I L α n m o) (K : ∀ I' L' o', CI xs (c + 1) I' L' (up1 (bdA α n cc s g 0) 7 (bdA α n cc s g 0 7 + (pushA (bdA α n cc s g 0) (n + 1) - pushA α n))) (n + 1) m o' → (∀ a, 294 ≤ a → I' a = I a) → Q (.inl (some (.int (Int32.ofInt (n : Int))))) (mk N t w I' L' D)) : Wp (d + 3) 138 0 [some (.ref 15), some (.int (Int32.ofInt cc)), some (.int (Int32.ofInt s)), some (.int (Int32.ofInt g)), none] [] (mk N t w I L D) Q := by
  obtain ⟨I1, L1, l21, hR1, hC1, hhi, -⟩ := mut_0 hCI
  have hR := hCI.2.1
  have hG := hCI.2.2.1
  have hX := hCI.2.2.2
  have hci := hF.1
  have hc2 := hci
  unfold isC at hc2
  have h0 : α 0 ≤ 200 := hG.1.2.2.2.1
  have hz : -2147483648 ≤ cc ∧ cc < 2147483648 := by omega
  have en : I 19 3 = Int32.ofInt (n : Int) := rd_n hR
  have hn' : (n : Int) < 10 := by omega
  have pb := pushA_b hG
  have l09 := fun (d : Nat) (Q : Rs → St → Prop) => c109 (d := d) (N := N) (t := t) (w := w) (ℓ := gl 19 I) (I := I) (L := L) (D := D) (Q := Q) LB_now kr15_5 ⟨hG.1.2.2.1, hG.1.2.2.2.1⟩ (rd_0 hR) (z := cc) hz hci
  simp only [lay_gl] at l09
  have hX2 : EX (c + 1) (up1 (bdA α n cc s g 0) 7 (bdA α n cc s g 0 7 + (pushA (bdA α n cc s g 0) (n + 1) - pushA α n))) (n + 1) := by
    obtain ⟨x1, x2, x3⟩ := hX
    have e : ∀ k, k = 3 ∨ k = 4 ∨ 218 ≤ k → up1 (bdA α n cc s g 0) 7 (bdA α n cc s g 0 7 + (pushA (bdA α n cc s g 0) (n + 1) - pushA α n)) k = α k := fun k hk => by rw [up1_ne (by omega), bdA_ne (by omega)]
    refine ⟨by rw [e 3 (by omega)]; omega, fun k hk h4 => ?_, fun i hi => ?_⟩
    · rw [e 4 (by omega)] at h4
      rw [e _ (by omega), e 3 (by omega), e _ (by omega), e _ (by omega), e _ (by omega)]
      exact x2 k hk h4
    · rw [up1_ne (by unfold B9; omega)]
      by_cases ei : i = n
      · rw [ei, bdA_at (by omega)]; show (0 : Int) ≤ 0 ∧ (0 : Int) < 2147483648; omega
      · rw [bdA_ne (by unfold B9; omega)]; exact x3 i (by omega)
  simp only [w138_0, w138_1, w138_2, w138_5, w138_6, w138_8, w138_10, w138_13, w138_14, w138_15, w138_17, w138_20, w138_21, w138_24, w138_27, w138_29, w138_32, w138_33, w138_36, w138_37, w138_40, w138_43, w138_51, w138_52, w138_55, w138_56, w138_59, w138_62, w138_63, w138_66, w138_69, w138_71, w138_72, w138_75, w138_76, w138_77, w138_78, w138_79, kn_s, kn_n, zh_mk, zR_mk, zI_mk, zL_mk, zD_mk, wI_mk, wL_mk, wD_mk, zT_mk, zC_mk, kill_i, kill_r, kill_0, kill_n, kill_l, kill_q, zzk_r, zzk_0, zzk_q, zcat_r, zcat_i, zcat_0, zcat_q, cats_0, cats_i, cats_r, cats_l, cats_d, cats_f, cats_q, cats_n, rv_s, rv_0, Nat.reduceAdd, Nat.reduceLeDiff, Nat.reduceEqDiff, Nat.add_zero, Nat.reduceMul, Nat.reduceSub, ne_eq, not_false_eq_true, not_true_eq_false, and_self, and_true, true_and, or_self, or_true, true_or, or_false, false_or, if_true, if_false, reduceIte, reduceCtorEq, implies_true, ite_self, ite_not, lay_in, lay_0, up2_lay, up2_lay0, kh0, kh1, kh2, kh3, kh4, kh5, kh6, kh7, kh8, kh9, kh10, kh11, kh12, khB, khP, kr2, kr4, kr5, kr7, kr8, kr9, kr10, krB, krP, krG0, krG1, krG2, krG3, krK, Nat.reduceLT, o_add, o_sub, o_mul, o_neg, q_add, q_sub, q_mul, q_neg, o_32, cast_s, Int.toNat_natCast, k15, kr15_8, k74, kr15_5, LB_now, kh19, l09, c104 (z := s) (l := -60) (h := 60) (by omega) (by omega) (by omega) hs, c104 (z := g) (l := 1) (h := 20) (by omega) (by omega) (by omega) hg, en, o_lt (a := (n : Int)) (b := 10) (by omega), eq_true hn', c25r LB_now hR hG hz, p_0, eq_true hF, l21, c41r LB_now hR1 hG]
  refine c30r (nm := 0) LB_now hR1 hG hn hF hs hg (fun ℓ' o' hR' hG' => ?_)
  have hR2 := RL_7 (v := bdA α n cc s g 0 7 + (pushA (bdA α n cc s g 0) (n + 1) - pushA α n)) hR'
  have e' : ((n + 1 : Nat) : Int) - 1 = (n : Int) := by omega
  have en2 : lay 19 ℓ' I1 19 3 = Int32.ofInt ((n + 1 : Nat) : Int) := by
    have := lay_in (b := 19) (ℓ := ℓ') (I := I1) (o := 0) (k := 3) (by omega)
    rw [show 19 + 0 = 19 from rfl] at this
    rw [this]; exact rd_n hR'
  simp only [w138_82, w138_83, w138_86, w138_88, w138_91, w138_92, w138_95, w138_98, w138_99, w138_100, kn_s, kn_n, zh_mk, zR_mk, zI_mk, zL_mk, zD_mk, wI_mk, wL_mk, wD_mk, zT_mk, zC_mk, kill_i, kill_r, kill_0, kill_n, kill_l, kill_q, zzk_r, zzk_0, zzk_q, zcat_r, zcat_i, zcat_0, zcat_q, cats_0, cats_i, cats_r, cats_l, cats_d, cats_f, cats_q, cats_n, rv_s, rv_0, Nat.reduceAdd, Nat.reduceLeDiff, Nat.reduceEqDiff, Nat.add_zero, Nat.reduceMul, Nat.reduceSub, ne_eq, not_false_eq_true, not_true_eq_false, and_self, and_true, true_and, or_self, or_true, true_or, or_false, false_or, if_true, if_false, reduceIte, reduceCtorEq, implies_true, ite_self, ite_not, lay_in, lay_0, up2_lay, up2_lay0, kh0, kh1, kh2, kh3, kh4, kh5, kh6, kh7, kh8, kh9, kh10, kh11, kh12, khB, khP, kr2, kr4, kr5, kr7, kr8, kr9, kr10, krB, krP, krG0, krG1, krG2, krG3, krK, Nat.reduceLT, o_add, o_sub, o_mul, o_neg, q_add, q_sub, q_mul, q_neg, o_32, cast_s, Int.toNat_natCast, k15, kr15_8, k74, kr15_5, LB_now, kh19, c42m LB_now hR' hG' (B := pushA α n) (by omega), en2, rd_n hR', e']
  exact K _ _ o' ⟨hC1 _, RL_lay19 hR2, g7_G hG', hX2⟩ (lay_hi hhi)
end SB7
