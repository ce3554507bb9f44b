/-! THE CLASS'S CHANGES, as the law asks for them: pulses, kick, weight, steal -/
abbrev U0 (α : Nat → Int) : Un := (α, 0, 0, 0, 0, 0, 0, 0)
section SB6
variable {N : NX} {w : WX} {d t n m c : Nat} {α : Nat → Int} {o : Nat → Nat} {I : Nat → Nat → Int32} {L : Nat → Nat → Int64} {D : Nat → Nat → UInt64} {Q : Rs → St → Prop} {xs : Nat → Int32}
theorem uK_ex {k : Nat} (hG : GA α n m o) (hX : EX c α n) (hk : k ≤ 3000) : EX (c + 1) (uK n m o k (U0 α)).1 n := by
  have h := uK_EX k (U0 α) (3000 * (c : Int)) hG hX.1 hX.2.1 hX.2.2
  exact ⟨⟨h.1.1, by have := h.1.2; omega⟩, h.2⟩
theorem c133 {k : Nat} (hk : 1 ≤ k ∧ k ≤ 600) (hCI : CI xs c I L α n m o) (K : ∀ I' L', CI xs (c + 1) I' L' (uK n m o k (U0 α)).1 n m o → (∀ a, 294 ≤ a → I' a = I a) → Q (.inl (some (.int (Int32.ofInt ((uK n m o k (U0 α)).1 12 - α 12))))) (mk N t w I' L' D)) : Wp (d + 5) 133 0 [some (.ref 15), some (.int (Int32.ofInt (k : Int)))] [] (mk N t w I L D) Q := by
  obtain ⟨I1, L1, l21, hR1, hC1, hhi, -⟩ := mut_0 hCI
  have hG := hCI.2.2.1
  simp only [w133_0, w133_1, w133_2, w133_5, w133_8, w133_9, w133_12, w133_13, w133_16, w133_19, w133_20, w133_23, w133_24, kn_s, kn_n, zh_mk, zR_mk, zI_mk, zL_mk, zD_mk, wI_mk, wL_mk, wD_mk, zT_mk, zC_mk, kill_i, kill_r, kill_0, kill_n, kill_l, kill_q, zzk_r, zzk_0, zzk_q, zcat_r, zcat_i, zcat_0, zcat_q, cats_0, cats_i, cats_r, cats_l, cats_d, cats_f, cats_q, cats_n, rv_s, rv_0, Nat.reduceAdd, Nat.reduceLeDiff, Nat.reduceEqDiff, Nat.add_zero, Nat.reduceMul, Nat.reduceSub, ne_eq, not_false_eq_true, not_true_eq_false, and_self, and_true, true_and, or_self, or_true, true_or, or_false, false_or, if_true, if_false, reduceIte, reduceCtorEq, implies_true, ite_self, ite_not, o_add, o_sub, o_mul, o_neg, q_add, q_sub, q_mul, q_neg, o_32, cast_s, k15, kr15_8, k74, kr15_5, kh19, c104 (z := (k : Int)) (l := 1) (h := 600) (by omega) (by omega) (by omega) (by omega), l21]
  refine c33r (u := U0 α) LB_now (by omega) hR1 hG (fun ℓ' μ' h => ?_)
  simp only [w133_27, kn_s, kn_n, zh_mk, zR_mk, zI_mk, zL_mk, zD_mk, wI_mk, wL_mk, wD_mk, zT_mk, zC_mk, kill_i, kill_r, kill_0, kill_n, kill_l, kill_q, zzk_r, zzk_0, zzk_q, zcat_r, zcat_i, zcat_0, zcat_q, cats_0, cats_i, cats_r, cats_l, cats_d, cats_f, cats_q, cats_n, rv_s, rv_0, Nat.reduceAdd, Nat.reduceLeDiff, Nat.reduceEqDiff, Nat.add_zero, Nat.reduceMul, Nat.reduceSub, ne_eq, not_false_eq_true, not_true_eq_false, and_self, and_true, true_and, or_self, or_true, true_or, or_false, false_or, if_true, if_false, reduceIte, reduceCtorEq, implies_true, ite_self, ite_not]
  exact K _ _ ⟨hC1 ℓ', RL_lay19 h, uK_G hG, uK_ex hG hCI.2.2.2 (by omega)⟩ (lay_hi hhi)
theorem c134 {k : Nat} (hk : 1 ≤ k ∧ k ≤ 50) (hCI : CI xs c I L α n m o) (K : ∀ I' L', CI xs (c + 1) I' L' (uK n m o (60 * k) (U0 α)).1 n m o → (∀ a, 294 ≤ a → I' a = I a) → Q (.inl (some (.int (Int32.ofInt ((uK n m o (60 * k) (U0 α)).1 12 - α 12))))) (mk N t w I' L' D)) : Wp (d + 5) 134 0 [some (.ref 15), some (.int (Int32.ofInt (k : Int)))] [] (mk N t w I L D) Q := by
  obtain ⟨I1, L1, l21, hR1, hC1, hhi, -⟩ := mut_0 hCI
  have hG := hCI.2.2.1
  have e : (k : Int) * 60 = ((60 * k : Nat) : Int) := by omega
  simp only [w134_0, w134_1, w134_2, w134_4, w134_7, w134_8, w134_11, w134_12, w134_15, w134_18, w134_19, w134_22, w134_23, w134_25, w134_26, w134_29, kn_s, kn_n, zh_mk, zR_mk, zI_mk, zL_mk, zD_mk, wI_mk, wL_mk, wD_mk, zT_mk, zC_mk, kill_i, kill_r, kill_0, kill_n, kill_l, kill_q, zzk_r, zzk_0, zzk_q, zcat_r, zcat_i, zcat_0, zcat_q, cats_0, cats_i, cats_r, cats_l, cats_d, cats_f, cats_q, cats_n, rv_s, rv_0, Nat.reduceAdd, Nat.reduceLeDiff, Nat.reduceEqDiff, Nat.add_zero, Nat.reduceMul, Nat.reduceSub, ne_eq, not_false_eq_true, not_true_eq_false, and_self, and_true, true_and, or_self, or_true, true_or, or_false, false_or, if_true, if_false, reduceIte, reduceCtorEq, implies_true, ite_self, ite_not, o_add, o_sub, o_mul, o_neg, q_add, q_sub, q_mul, q_neg, o_32, cast_s, k15, kr15_8, k74, kr15_5, kh19, c104 (z := (k : Int)) (l := 1) (h := 50) (by omega) (by omega) (by omega) (by omega), l21, e]
  refine c33r (k := 60 * k) (u := U0 α) LB_now (by omega) hR1 hG (fun ℓ' μ' h => ?_)
  simp only [w134_0, w134_1, w134_2, w134_4, w134_7, w134_8, w134_11, w134_12, w134_15, w134_18, w134_19, w134_22, w134_23, w134_25, w134_26, w134_29, kn_s, kn_n, zh_mk, zR_mk, zI_mk, zL_mk, zD_mk, wI_mk, wL_mk, wD_mk, zT_mk, zC_mk, kill_i, kill_r, kill_0, kill_n, kill_l, kill_q, zzk_r, zzk_0, zzk_q, zcat_r, zcat_i, zcat_0, zcat_q, cats_0, cats_i, cats_r, cats_l, cats_d, cats_f, cats_q, cats_n, rv_s, rv_0, Nat.reduceAdd, Nat.reduceLeDiff, Nat.reduceEqDiff, Nat.add_zero, Nat.reduceMul, Nat.reduceSub, ne_eq, not_false_eq_true, not_true_eq_false, and_self, and_true, true_and, or_self, or_true, true_or, or_false, false_or, if_true, if_false, reduceIte, reduceCtorEq, implies_true, ite_self, ite_not]
  exact K _ _ ⟨hC1 ℓ', RL_lay19 h, uK_G hG, uK_ex hG hCI.2.2.2 (by omega)⟩ (lay_hi hhi)
/-- a speed clipped -/
def clp60 (z : Int) : Int := if z < 60 then (if -60 < z then z else -60) else 60
theorem clp60_b (z : Int) : -60 ≤ clp60 z ∧ clp60 z ≤ 60 := by
  unfold clp60
  split
  · split <;> omega
  · omega
theorem clip_e {s : Int} (h : -200 ≤ s ∧ s ≤ 200) : (if Int32.ofInt (-60) < (if Int32.ofInt s < Int32.ofInt 60 then Int32.ofInt s else Int32.ofInt 60) then (if Int32.ofInt s < Int32.ofInt 60 then Int32.ofInt s else Int32.ofInt 60) else Int32.ofInt (-60)) = Int32.ofInt (clp60 s) := by
  unfold clp60
  by_cases h1 : s < 60
  · have e1 : Int32.ofInt s < Int32.ofInt 60 := by rw [o_lt (by omega)]; exact h1
    rw [if_pos e1, if_pos h1]
    by_cases h2 : -60 < s
    · have e2 : Int32.ofInt (-60) < Int32.ofInt s := by rw [o_lt (by omega)]; exact h2
      rw [if_pos e2, if_pos h2]
    · have e2 : ¬ (Int32.ofInt (-60) < Int32.ofInt s) := by rw [o_lt (by omega)]; exact h2
      rw [if_neg e2, if_neg h2]
  · have e1 : ¬ (Int32.ofInt s < Int32.ofInt 60) := by rw [o_lt (by omega)]; exact h1
    rw [if_neg e1, if_neg h1, if_pos (by decide)]
theorem c135 {i : Nat} {z : Int} (hi : i < n) (hz : -60 ≤ z ∧ z ≤ 60) (hCI : CI xs c I L α n m o) (K : ∀ I' L', CI xs (c + 1) I' L' (psA α (up1 α (B9 i 1) (clp60 (α (B9 i 1) + z))) n) n m o → (∀ a, 294 ≤ a → I' a = I a) → Q (.inl (some (.int (Int32.ofInt (clp60 (α (B9 i 1) + z)))))) (mk N t w I' L' D)) : Wp (d + 3) 135 0 [some (.ref 15), some (.int (Int32.ofInt (i : Int))), some (.int (Int32.ofInt z)), none, none] [] (mk N t w I L D) Q := by
  obtain ⟨I1, L1, l21, hR1, hC1, hhi, -⟩ := mut_0 hCI
  have hR := hCI.2.1
  have hG := hCI.2.2.1
  have h10 := hG.1.1
  have gs := (hG.1.2.2.2.2 i hi).2.1
  have i10' : i < 10 := by omega
  have i27 : i + 13 < 27 := by omega
  have hv := clp60_b (α (B9 i 1) + z)
  have pb := pushA_b hG
  have f1 : I1 (19 + (i + 13)) 2 = Int32.ofInt (α (B9 i 1)) := RL_B (k := 1) hR1 hi h10 (by omega)
  have hG1 : GA (up1 α (B9 i 1) (clp60 (α (B9 i 1) + z))) n m o := spd_G hG hi hv
  have hR2 : RL (up2 (gl 19 I1) (i + 13) 2 (Int32.ofInt (clp60 (α (B9 i 1) + z)))) (gl 19 L1) (up1 α (B9 i 1) (clp60 (α (B9 i 1) + z))) n m o := by
    have := RL_i (key := B9 i 1) (v := clp60 (α (B9 i 1) + z)) hR1 (by unfold kd B9; omega)
    rwa [mo_B (by omega) (by omega), mq_B (by omega) (by omega)] at this
  have hR3 := RL_7 (v := (up1 α (B9 i 1) (clp60 (α (B9 i 1) + z))) 7 + (pushA (up1 α (B9 i 1) (clp60 (α (B9 i 1) + z))) n - pushA α n)) hR2
  have hX2 : EX (c + 1) (psA α (up1 α (B9 i 1) (clp60 (α (B9 i 1) + z))) n) n := EX_ext hCI.2.2.2 (by omega) (fun k hk => by unfold psA; rw [up1_ne (by omega), up1_ne (by unfold B9; omega)]) (fun j hj => by unfold psA; rw [up1_ne (by unfold B9; omega), up1_ne (by unfold B9; omega)])
  have eu : up2 I1 (19 + (i + 13)) 2 (Int32.ofInt (clp60 (α (B9 i 1) + z))) = lay 19 (up2 (gl 19 I1) (i + 13) 2 (Int32.ofInt (clp60 (α (B9 i 1) + z)))) I1 := by rw [← up2_lay (show i + 13 < 27 by omega), lay_gl]
  simp only [w135_0, w135_1, w135_2, w135_5, w135_6, w135_7, w135_9, w135_11, w135_14, w135_15, w135_18, w135_19, w135_22, w135_25, w135_26, w135_29, w135_32, w135_34, w135_35, w135_37, w135_39, w135_40, w135_43, w135_44, w135_45, w135_48, w135_51, w135_54, w135_55, w135_58, w135_60, w135_63, w135_64, w135_67, kn_s, kn_n, zh_mk, zR_mk, zI_mk, zL_mk, zD_mk, wI_mk, wL_mk, wD_mk, zT_mk, zC_mk, kill_i, kill_r, kill_0, kill_n, kill_l, kill_q, zzk_r, zzk_0, zzk_q, zcat_r, zcat_i, zcat_0, zcat_q, cats_0, cats_i, cats_r, cats_l, cats_d, cats_f, cats_q, cats_n, rv_s, rv_0, Nat.reduceAdd, Nat.reduceLeDiff, Nat.reduceEqDiff, Nat.add_zero, Nat.reduceMul, Nat.reduceSub, ne_eq, not_false_eq_true, not_true_eq_false, and_self, and_true, true_and, or_self, or_true, true_or, or_false, false_or, if_true, if_false, reduceIte, reduceCtorEq, implies_true, ite_self, ite_not, lay_in, lay_0, up2_lay, up2_lay0, kh0, kh1, kh2, kh3, kh4, kh5, kh6, kh7, kh8, kh9, kh10, kh11, kh12, khB, khP, kr2, kr4, kr5, kr7, kr8, kr9, kr10, krB, krP, krG0, krG1, krG2, krG3, krK, Nat.reduceLT, o_add, o_sub, o_mul, o_neg, q_add, q_sub, q_mul, q_neg, o_32, cast_s, Int.toNat_natCast, k15, kr15_8, k74, kr15_5, LB_now, kh19, c107r LB_now kr15_5 hR hG hi, l21, c41r LB_now hR1 hG, khB (N := N) LB_now i10', f1, c104 (z := z) (l := -60) (h := 60) (by omega) (by omega) (by omega) (by omega), clip_e (s := α (B9 i 1) + z) (by omega), eu, c42m LB_now hR2 hG1 (B := pushA α n) (by omega), i27, up2_same]
  exact K _ _ ⟨hC1 _, RL_lay19 hR3, g7_G hG1, hX2⟩ (lay_hi hhi)
end SB6
