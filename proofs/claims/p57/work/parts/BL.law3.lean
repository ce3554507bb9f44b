/-! THE LAW'S RUN -/
theorem z0_bs {N : Nat} {xs : Nat → Int32} : z0 N xs = bs N 15 0 0 (zI (z0 N xs)) (fun _ _ => 0) (fun _ _ => 0) := by
  unfold z0 bs
  refine Prod.ext rfl (Prod.ext ?_ (Prod.ext ?_ rfl))
  · show (fun a => if a = 0 then _ else if a < 8 then _ else if a < 15 then _ else _) = KT N 15
    funext a
    unfold KT KH
    by_cases h : a < 15
    · simp only [h, if_true]
      by_cases h0 : a = 0
      · simp only [h0, if_true]
        rfl
      · simp only [h0, if_false]
    · have h0 : ¬ a = 0 := by omega
      have h8 : ¬ a < 8 := by omega
      simp only [h, h0, h8, if_false]
  · show (fun _ _ => 0) = RTm 0
    funext a k
    unfold RTm
    rw [if_neg (by omega)]
theorem e82 {I : Nat → Nat → Int32} {a k : Nat} (h : a < 15 ∨ a = 74 ∨ 294 ≤ a) : I82 I a k = I a k := by
  unfold I82
  rw [clI_o (by omega), clI_o (by omega), clI_o (by omega), clI_o (by omega), clI_o (by omega), clI_o (by omega), clI_o (by omega), clI_o (by omega), clI_o (by omega), clI_o (by omega), u2_ne (by omega), u2_ne (by omega), u2_ne (by omega)]
theorem e82_15 {I : Nat → Nat → Int32} : I82 I 15 1 = Int32.ofInt 0 := by
  unfold I82
  rw [clI_o (by omega), clI_o (by omega), clI_o (by omega), clI_o (by omega), clI_o (by omega), clI_o (by omega), clI_o (by omega), clI_o (by omega), clI_o (by omega), clI_o (by omega), u2_ne (by omega), u2_ne (by omega), u2_same]
theorem zi_0 {N : Nat} {xs : Nat → Int32} {a k : Nat} : zI (z0 N xs) a k = if a = 0 then xs k else if a < 8 then 0 else if a < 15 then (sby.getD (a - 8) []).getD k 0 else 0 := rfl
set_option maxRecDepth 100000 in
theorem law_run {d s : Nat} {xs : Nat → Int32} (hs : s ≤ 260) {Q : Rs → St → Prop} (hQ : ∀ (N : NX) (w : WX) (t : Nat) (I : Nat → Nat → Int32) (L : Nat → Nat → Int64) (D : Nat → Nat → UInt64), N.2.1 ≤ 600 → N.2.2.1 ≤ 200000 → t ≤ 60 → Q (.inl (some (.int (Int32.ofInt 1)))) (mk N t w I L D)) : Wp (d + 11) 195 0 [some (.ref 0), none, none, none, none, none, none, none, none, none, none, none] [] (z0 s xs) Q := by
  have hx0 : I82 (zI (z0 s xs)) 0 = xs := by
    funext j
    rw [e82 (by omega), zi_0, if_pos rfl]
  have hC0 : C0 xs (I82 (zI (z0 s xs))) := by
    refine ⟨fun j => by rw [hx0], fun a h1 h2 j => ?_, 0, 0, by omega, by omega, ?_, ?_⟩
    · rw [e82 (by omega), zi_0, if_neg (by omega), if_neg (by omega), if_pos h2]
    · rw [e82 (by omega), zi_0, if_neg (by omega), if_neg (by omega), if_neg (by omega)]
      rfl
    · rw [e82 (by omega), zi_0, if_neg (by omega), if_neg (by omega), if_neg (by omega)]
      rfl
  have hZ0 : ZA (N0 s) (fun _ _ => 0) (I82 (zI (z0 s xs))) := fun a ha j => by
    have ha' : 294 ≤ a := ha
    refine ⟨?_, rfl⟩
    rw [e82 (by omega), zi_0, if_neg (by omega), if_neg (by omega), if_neg (by omega)]
    rfl
  rw [z0_bs]
  have hKB : (15 : Nat) < KB := by decide
  have t1 : ¬ (Int32.ofInt 1 = Int32.ofInt 0) := by decide
  simp only [w195_0, w195_3, w195_4, w195_7, w195_8, w195_9, w195_10, kn_s, kn_n, kill_i, kill_r, kill_0, kill_n, kill_l, kill_q, zzk_r, zzk_0, zzk_q, zcat_r, zcat_i, zcat_0, cats_0, cats_i, cats_r, cats_l, cats_d, cats_f, rv_s, rv_0, Nat.reduceAdd, Nat.reduceLeDiff, Nat.reduceLT, Nat.reduceEqDiff, Nat.add_zero, Nat.reduceMul, Nat.reduceSub, ne_eq, not_false_eq_true, not_true_eq_false, and_self, and_true, true_and, or_self, or_true, true_or, or_false, false_or, if_true, if_false, reduceIte, reduceCtorEq, implies_true, bs_zn, bs_zh, bs_zR, bs_wI, bs_wL, KB, el16, el17, el18, bl1, bl2, bl4, bl6, bl10, bl40, bl100, bl256, bl300, bl378, bl400, bl756, bl2268, bt0, bt1, bt2, bt3, bt4, bt5, bt6, bt7, bt8, bt9, bt10, bt40, bt100, bt256, bt300, bt378, bt400, bt756, bt2268, bx10_0, bv10_0, bx10_1, bv10_1, bx10_2, bv10_2, bx10_3, bv10_3, bx10_4, bv10_4, bx10_5, bv10_5, bx10_6, bv10_6, bx10_7, bv10_7, bx10_8, bv10_8, bx10_9, bv10_9, bv10_10, bx4_0, bv4_0, bx4_1, bv4_1, bx4_2, bv4_2, bx4_3, bv4_3, bv4_4, bx6_0, bv6_0, bx6_1, bv6_1, bx6_2, bv6_2, bx6_3, bv6_3, bx6_4, bv6_4, bx6_5, bv6_5, bv6_6, bx2_0, bv2_0, bx2_1, bv2_1, bv2_2, ba0, ba1, ba2, ba3, ba4, ba5, ba6, ba7, ba8, ba9, bn15, kt15, c82g, bs_end]
  refine c151 (s := s) ⟨rfl, rfl, Nat.le_refl _⟩ hZ0 hx0 hs hC0 e82_15 fun N1 w1 I1 L1 o1 Z hoB hoZ hCI hN1 h294 hN2 hN3 hZ1 => ?_
  have hZK := ZK_eff Z _ ZK_bx hoZ
  generalize effs (bxO (bxX s xs : Int) (bxS s xs)) Z = F at hCI hZK
  have hG := hCI.2.2.1
  have hLI : LI (pushA F.1 F.2.1) (true = true) F.1 F.2.1 F.2.2 := LI_0 hZK hG.1.1 hG.2.1.1
  have h3 : F.1 3 ≤ 1000000 := by have := hCI.2.2.2.1.2; omega
  simp only [w195_13, w195_16, w195_17, w195_18, w195_19, w195_20, w195_23, w195_24, w195_25, w195_27, w195_28, w195_29, kn_s, kn_n, zh_mk, zR_mk, zI_mk, zL_mk, zD_mk, wI_mk, wL_mk, wD_mk, zT_mk, zC_mk, kill_i, kill_r, kill_0, kill_n, kill_l, kill_q, zzk_r, zzk_0, zzk_q, zcat_r, zcat_i, zcat_0, zcat_q, cats_0, cats_i, cats_r, cats_l, cats_d, cats_f, cats_q, cats_n, rv_s, rv_0, Nat.reduceAdd, Nat.reduceLeDiff, Nat.reduceEqDiff, Nat.add_zero, Nat.reduceMul, Nat.reduceSub, ne_eq, not_false_eq_true, not_true_eq_false, and_self, and_true, true_and, or_self, or_true, true_or, or_false, false_or, if_true, if_false, reduceIte, reduceCtorEq, implies_true, ite_self, ite_not, k15, t1, c119_0 hCI.2.1 hG]
  refine c156 hCI hLI.1 hZ1 ⟨h294, by omega⟩ fun I2 hI2 hZ2 hC2 => ?_
  simp only [w195_32, w195_35, w195_36, kn_s, kn_n, zh_mk, zR_mk, zI_mk, zL_mk, zD_mk, wI_mk, wL_mk, wD_mk, zT_mk, zC_mk, kill_i, kill_r, kill_0, kill_n, kill_l, kill_q, zzk_r, zzk_0, zzk_q, zcat_r, zcat_i, zcat_0, zcat_q, cats_0, cats_i, cats_r, cats_l, cats_d, cats_f, cats_q, cats_n, rv_s, rv_0, Nat.reduceAdd, Nat.reduceLeDiff, Nat.reduceEqDiff, Nat.add_zero, Nat.reduceMul, Nat.reduceSub, ne_eq, not_false_eq_true, not_true_eq_false, and_self, and_true, true_and, or_self, or_true, true_or, or_false, false_or, if_true, if_false, reduceIte, reduceCtorEq, implies_true, ite_self, ite_not, t1]
  refine c157 hC2.2.1 hC2.2.2.1 (hLI.2 rfl) h3 ?_
  simp only [w195_39, w195_42, w195_43, w195_44, w195_46, kn_s, kn_n, zh_mk, zR_mk, zI_mk, zL_mk, zD_mk, wI_mk, wL_mk, wD_mk, zT_mk, zC_mk, kill_i, kill_r, kill_0, kill_n, kill_l, kill_q, zzk_r, zzk_0, zzk_q, zcat_r, zcat_i, zcat_0, zcat_q, cats_0, cats_i, cats_r, cats_l, cats_d, cats_f, cats_q, cats_n, rv_s, rv_0, Nat.reduceAdd, Nat.reduceLeDiff, Nat.reduceEqDiff, Nat.add_zero, Nat.reduceMul, Nat.reduceSub, ne_eq, not_false_eq_true, not_true_eq_false, and_self, and_true, true_and, or_self, or_true, true_or, or_false, false_or, if_true, if_false, reduceIte, reduceCtorEq, implies_true, ite_self, ite_not, t1]
  have go := c195_48 (d := d + 3) (D := fun _ _ => 0) (Q := Q) (xs := xs) (first := pushA F.1 F.2.1) hs (fun N w t I L a1 a2 a3 => hQ N w t I L _ a1 a2 a3) 56 0 (nwN N1 (11, 200) 200) w1 0 I2 L1 F.1 F.2.1 F.2.2 o1 true none none none none none none (by omega) hN1 hC2 hLI hZ2 (Nat.le_succ_of_le h294) (by show N1.2.1 + 1 ≤ _; omega) (by show N1.2.2.1 + 200 ≤ _; omega) (Nat.le_refl _)
  exact go
theorem lawRun : LawRun := by
  intro s xs hs
  exact law_run (d := 4) hs fun N w t I L D h1 h2 h3 => ⟨rfl, by show N.2.1 + t ≤ 600101; omega, by show N.2.2.1 + 6 * t ≤ 7301442; omega⟩
