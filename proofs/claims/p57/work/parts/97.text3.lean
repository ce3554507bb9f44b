/-! THE TEXT, 3: a sign is appended -/
theorem vpn : ∀ z : Nat, z < 128 → vp_nar .byte (Int32.ofInt ((z : Nat) : Int)).toInt8.toInt32 = Int32.ofInt ((z : Nat) : Int) ∧ vp_nar .byte (Int32.ofInt ((z : Nat) : Int)) = Int32.ofInt ((z : Nat) : Int) := by decide +kernel
theorem vp_n {x : Int} (h : 0 ≤ x ∧ x < 128) : vp_nar .byte (Int32.ofInt x).toInt8.toInt32 = Int32.ofInt x ∧ vp_nar .byte (Int32.ofInt x) = Int32.ofInt x := by
  obtain ⟨k, rfl⟩ : ∃ k : Nat, x = (k : Int) := ⟨x.toNat, by omega⟩
  exact vpn k (by omega)
theorem wr1 {I : Nat → Nat → Int32} {B v p : Nat} {y z : Int32} (h : B ≠ v) : up2 (up2 I B 3 y) v p z = up2 (cpk I (fun _ => z) v 0 p 1) B 3 y := by
  funext a j
  unfold up2 cpk va_cpy
  by_cases ha : a = v
  · have hB : ¬ (a = B) := by omega
    simp only [ha, true_and, if_true]
    subst ha
    simp only [hB, false_and, if_false]
    by_cases hj : j = p
    · rw [if_pos hj, if_pos (by omega)]
    · rw [if_neg hj, if_neg (by omega)]
  · simp only [ha, false_and, if_false]
section S97
variable {N : NX} {w : WX} {d t B v cap : Nat} {T : List Int} {I : Nat → Nat → Int32} {L : Nat → Nat → Int64} {D : Nat → Nat → UInt64} {Q : Rs → St → Prop}
theorem c174 {σ : St} {B : Nat} (h : zh σ B = (10, 0)) (h1 : zI σ B 1 = Int32.ofInt 0) : Wp d 174 0 [some (.ref B)] [] σ Q = Q (.inl (some (.int (Int32.ofInt 1)))) σ := by
  simp only [w174_0, w174_3, w174_6, w174_7, w174_10, w174_13, w174_14, w174_17, w174_18, kn_s, kn_n, zh_mk, zR_mk, zI_mk, zL_mk, zD_mk, wI_mk, wL_mk, wD_mk, zT_mk, zC_mk, kill_i, kill_r, kill_0, kill_n, kill_l, kill_q, zzk_r, zzk_0, zzk_q, zcat_r, zcat_i, zcat_0, zcat_q, cats_0, cats_i, cats_r, cats_l, cats_d, cats_f, cats_q, cats_n, rv_s, rv_0, Nat.reduceAdd, Nat.reduceLeDiff, Nat.reduceEqDiff, Nat.add_zero, Nat.reduceMul, Nat.reduceSub, ne_eq, not_false_eq_true, not_true_eq_false, and_self, and_true, true_and, or_self, or_true, true_or, or_false, false_or, if_true, if_false, reduceIte, reduceCtorEq, implies_true, ite_self, ite_not, h, h1, i10, i00, nz1]
theorem c180 {σ : St} {x : Int} (h : 0 ≤ x ∧ x < 128) : Wp d 180 0 [some (.int (Int32.ofInt x))] [] σ Q = Q (.inl (some (.int (Int32.ofInt 1)))) σ := by
  have g : ¬ (255 < x) := by omega
  simp only [w180_0, w180_1, w180_4, w180_7, w180_8, w180_11, w180_12, kn_s, kn_n, zh_mk, zR_mk, zI_mk, zL_mk, zD_mk, wI_mk, wL_mk, wD_mk, zT_mk, zC_mk, kill_i, kill_r, kill_0, kill_n, kill_l, kill_q, zzk_r, zzk_0, zzk_q, zcat_r, zcat_i, zcat_0, zcat_q, cats_0, cats_i, cats_r, cats_l, cats_d, cats_f, cats_q, cats_n, rv_s, rv_0, Nat.reduceAdd, Nat.reduceLeDiff, Nat.reduceEqDiff, Nat.add_zero, Nat.reduceMul, Nat.reduceSub, ne_eq, not_false_eq_true, not_true_eq_false, and_self, and_true, true_and, or_self, or_true, true_or, or_false, false_or, if_true, if_false, reduceIte, reduceCtorEq, implies_true, ite_self, ite_not, o_lt (a := 255) (b := x) (by omega), g, nz1]
theorem c167 {x : Int} (hS : SB N w I B v cap T) (hZ : ZA N w I) (hx : 0 ≤ x ∧ x < 128) (hl : T.length + 1 ≤ 300) (hN : N.2.1 < 90000)
    (K : ∀ N' w' I' v' cap', SB N' w' I' B v' cap' (T ++ [x]) → GO B v 1 700 N w I N' w' I' v' → Q (.inl (some (.ref B))) (mk N' t w' I' L D)) : Wp (d + 3) 167 0 [some (.ref B), some (.int (Int32.ofInt x))] [] (mk N t w I L D) Q := by
  have hS0 := hS
  obtain ⟨s1, s2, s3, s4, s5, s6, s7, s8, s9, s10, s11, s12, s13⟩ := hS
  simp only [w167_0, w167_1, w167_2, w167_5, w167_6, w167_7, w167_10, w167_11, w167_14, w167_17, w167_18, w167_21, w167_24, w167_25, w167_28, w167_29, w167_30, w167_33, w167_34, w167_35, w167_36, w167_39, w167_40, w167_41, w167_42, w167_45, w167_46, w167_49, w167_52, w167_56, w167_57, w167_60, w167_61, w167_62, w167_65, w167_66, w167_67, w167_68, w167_71, w167_75, w167_76, w167_76n, kn_s, kn_n, zh_mk, zR_mk, zI_mk, zL_mk, zD_mk, wI_mk, wL_mk, wD_mk, zT_mk, zC_mk, kill_i, kill_r, kill_0, kill_n, kill_l, kill_q, zzk_r, zzk_0, zzk_q, zcat_r, zcat_i, zcat_0, zcat_q, cats_0, cats_i, cats_r, cats_l, cats_d, cats_f, cats_q, cats_n, rv_s, rv_0, Nat.reduceAdd, Nat.reduceLeDiff, Nat.reduceEqDiff, Nat.add_zero, Nat.reduceMul, Nat.reduceSub, ne_eq, not_false_eq_true, not_true_eq_false, and_self, and_true, true_and, or_self, or_true, true_or, or_false, false_or, if_true, if_false, reduceIte, reduceCtorEq, implies_true, ite_self, ite_not, o_add, o_sub, o_mul, o_neg, q_add, q_sub, q_mul, q_neg, o_32, cast_s, s1, s8]
  refine c170 hS0 hZ (m := T.length + 1) (by omega) hN fun N' w' I' v' cap' hS' hc hG => ?_
  have hS2 := hS'
  obtain ⟨s1, s2, s3, s4, s5, s6, s7, s8, s9, s10, s11, s12, s13⟩ := hS'
  have c4 := fun (d : Nat) (Q : Rs → St → Prop) => c174 (d := d) (Q := Q) (σ := mk N' t w' I' L D) (B := B) s1 s7
  simp only [w167_0, w167_1, w167_2, w167_5, w167_6, w167_7, w167_10, w167_11, w167_14, w167_17, w167_18, w167_21, w167_24, w167_25, w167_28, w167_29, w167_30, w167_33, w167_34, w167_35, w167_36, w167_39, w167_40, w167_41, w167_42, w167_45, w167_46, w167_49, w167_52, w167_56, w167_57, w167_60, w167_61, w167_62, w167_65, w167_66, w167_67, w167_68, w167_71, w167_75, w167_76, w167_76n, kn_s, kn_n, zh_mk, zR_mk, zI_mk, zL_mk, zD_mk, wI_mk, wL_mk, wD_mk, zT_mk, zC_mk, kill_i, kill_r, kill_0, kill_n, kill_l, kill_q, zzk_r, zzk_0, zzk_q, zcat_r, zcat_i, zcat_0, zcat_q, cats_0, cats_i, cats_r, cats_l, cats_d, cats_f, cats_q, cats_n, rv_s, rv_0, Nat.reduceAdd, Nat.reduceLeDiff, Nat.reduceEqDiff, Nat.add_zero, Nat.reduceMul, Nat.reduceSub, ne_eq, not_false_eq_true, not_true_eq_false, and_self, and_true, true_and, or_self, or_true, true_or, or_false, false_or, if_true, if_false, reduceIte, reduceCtorEq, implies_true, ite_self, ite_not, o_add, o_sub, o_mul, o_neg, q_add, q_sub, q_mul, q_neg, o_32, cast_s, s1, s8, c4, i10, c180 hx, kR s3.1, s6, s2, o_tnn (j := T.length) (by omega), o_ixn (j := T.length) (n := cap') (by omega), (vp_n hx).1, wr1 s5]
  rw [show ((T.length + 1 : Nat) : Int) = ((T ++ [x]).length : Int) by rw [List.length_append]; rfl]
  exact K _ _ _ v' cap' (SB_wr (s := [x]) hS2 (fun j hj => by rw [show j = 0 by simp at hj; exact hj]; rfl) (fun y hy => by rw [List.mem_singleton.mp hy]; exact hx) hc hl) (hG.trans (GO_wr (k := 0) (m := 0) hS2 hG.2.2.2.2.2.2.2) (by omega) (by omega))
theorem c160 {x : Int} (hS : SB N w I B v cap T) (hZ : ZA N w I) (hx : 0 ≤ x ∧ x < 128) (hl : T.length + 1 ≤ 300) (hN : N.2.1 < 90000)
    (K : ∀ N' w' I' v' cap', SB N' w' I' B v' cap' (T ++ [x]) → GO B v 1 700 N w I N' w' I' v' → Q (.inl (some (.ref B))) (mk N' t w' I' L D)) : Wp (d + 4) 160 0 [some (.ref B), some (.int (Int32.ofInt x))] [] (mk N t w I L D) Q := by
  simp only [w160_0, w160_1, w160_2, w160_5, w160_6, w160_7, w160_7n, kn_s, kn_n, zh_mk, zR_mk, zI_mk, zL_mk, zD_mk, wI_mk, wL_mk, wD_mk, zT_mk, zC_mk, kill_i, kill_r, kill_0, kill_n, kill_l, kill_q, zzk_r, zzk_0, zzk_q, zcat_r, zcat_i, zcat_0, zcat_q, cats_0, cats_i, cats_r, cats_l, cats_d, cats_f, cats_q, cats_n, rv_s, rv_0, Nat.reduceAdd, Nat.reduceLeDiff, Nat.reduceEqDiff, Nat.add_zero, Nat.reduceMul, Nat.reduceSub, ne_eq, not_false_eq_true, not_true_eq_false, and_self, and_true, true_and, or_self, or_true, true_or, or_false, false_or, if_true, if_false, reduceIte, reduceCtorEq, implies_true, ite_self, ite_not, hS.1]
  refine c167 hS hZ hx hl hN fun N' w' I' v' cap' hS' hG => ?_
  simp only [w160_0, w160_1, w160_2, w160_5, w160_6, w160_7, w160_7n, kn_s, kn_n, zh_mk, zR_mk, zI_mk, zL_mk, zD_mk, wI_mk, wL_mk, wD_mk, zT_mk, zC_mk, kill_i, kill_r, kill_0, kill_n, kill_l, kill_q, zzk_r, zzk_0, zzk_q, zcat_r, zcat_i, zcat_0, zcat_q, cats_0, cats_i, cats_r, cats_l, cats_d, cats_f, cats_q, cats_n, rv_s, rv_0, Nat.reduceAdd, Nat.reduceLeDiff, Nat.reduceEqDiff, Nat.add_zero, Nat.reduceMul, Nat.reduceSub, ne_eq, not_false_eq_true, not_true_eq_false, and_self, and_true, true_and, or_self, or_true, true_or, or_false, false_or, if_true, if_false, reduceIte, reduceCtorEq, implies_true, ite_self, ite_not]
  exact K _ _ _ _ _ hS' hG
end S97
