/-! THE PARSER of the reference: words, numbers, cells, speeds -/
def rvT (f : Nat → Int) (lo hi : Int) (P : PS) : Int := if (chT f lo hi P).2.2.2.1 = 0 then cvT f lo P else lo
def rsT (f : Nat → Int) (n : Nat) (P : PS) : Int := if P.2.2.2.1 = 0 ∧ syT f 45 P = true then -rvT f 0 60 (nxT f n P) else rvT f 0 60 P
section S85
variable {d N t w n bn bm : Nat} {f : Nat → Int} {I J : Nat → Nat → Int32} {L : Nat → Nat → Int64} {D : Nat → Nat → UInt64} {Q : Rs → St → Prop} {P : PS} {α : Nat → Int} {o : Nat → Nat}
theorem flT_x {c : Nat} (h : P.2.2.2.1 ≠ 0) : flT c P = P := by
  unfold flT
  rw [if_neg h]
theorem nxT_x (h : P.2.2.2.1 ≠ 0) : nxT f n P = P := by
  unfold nxT
  rw [if_neg h]
theorem pR_fl {s e k c : Nat} {v : Int} (hc : c ≠ 0) : up2 (up2 (pR (s, e, k, 0, v) J) 294 19 (Int32.ofInt (c : Int))) 294 20 (Int32.ofInt (s : Int)) = pR (s, e, k, c, v) J := by
  funext a q
  unfold up2 pR
  by_cases h : a = 294
  · subst h
    by_cases h3 : q = 19
    · simp [h3]
    · by_cases h4 : q = 20
      · simp [h4, hc]
      · simp [h3, h4]
  · simp [h]
theorem c161 (hr : P.2.2.2.1 ≤ 5) : Wp d 161 0 [some (.ref 294)] [] (mk N t w (pR P J) L D) Q = Q (.inl (some (.int (pI (P.2.2.2.1 = 0))))) (mk N t w (pR P J) L D) := by
  by_cases h : P.2.2.2.1 = 0
  · have h' : (P.2.2.2.1 : Int) = 0 := by omega
    simp only [w161_0, w161_1, w161_4, w161_7, w161_8, w161_11, w161_12, kn_s, kn_n, zh_mk, zR_mk, zI_mk, zL_mk, zD_mk, wI_mk, wL_mk, wD_mk, zT_mk, zC_mk, kill_i, kill_r, kill_0, kill_n, kill_l, kill_q, zzk_r, zzk_0, zzk_q, zcat_r, zcat_i, zcat_0, cats_0, cats_i, cats_r, cats_l, cats_d, cats_f, rv_s, rv_0, Nat.reduceAdd, Nat.reduceLeDiff, Nat.add_zero, Nat.reduceMul, Nat.reduceSub, ne_eq, not_false_eq_true, not_true_eq_false, and_self, and_true, true_and, or_self, or_true, true_or, or_false, false_or, if_true, if_false, reduceIte, reduceCtorEq, implies_true, ite_self, ite_not, nz0, nz1, kM, pR_19, o_eq (a := (P.2.2.2.1 : Int)) (b := 0) (by omega), eq_true h', eq_true h, pI]
  · have h' : ¬ ((P.2.2.2.1 : Int) = 0) := by omega
    simp only [w161_0, w161_1, w161_4, w161_7, w161_8, w161_11, w161_12, kn_s, kn_n, zh_mk, zR_mk, zI_mk, zL_mk, zD_mk, wI_mk, wL_mk, wD_mk, zT_mk, zC_mk, kill_i, kill_r, kill_0, kill_n, kill_l, kill_q, zzk_r, zzk_0, zzk_q, zcat_r, zcat_i, zcat_0, cats_0, cats_i, cats_r, cats_l, cats_d, cats_f, rv_s, rv_0, Nat.reduceAdd, Nat.reduceLeDiff, Nat.add_zero, Nat.reduceMul, Nat.reduceSub, ne_eq, not_false_eq_true, not_true_eq_false, and_self, and_true, true_and, or_self, or_true, true_or, or_false, false_or, if_true, if_false, reduceIte, reduceCtorEq, implies_true, ite_self, ite_not, nz0, nz1, kM, pR_19, o_eq (a := (P.2.2.2.1 : Int)) (b := 0) (by omega), eq_false h', eq_false h, pI]
theorem c162 {c : Nat} {z : Int} (hz : z = (c : Int)) (hc : c ≠ 0) (hr : P.2.2.2.1 ≤ 5) : Wp (d + 1) 162 0 [some (.ref 294), some (.int (Int32.ofInt z))] [] (mk N t w (pR P J) L D) Q = Q (.inl none) (mk N t w (pR (flT c P) J) L D) := by
  subst hz
  obtain ⟨s, e, k, r, v⟩ := P
  by_cases h : r = 0
  · subst h
    have e16 : up2 (pR (s, e, k, 0, v) J) 294 19 (Int32.ofInt (c : Int)) 294 16 = Int32.ofInt (s : Int) := by rw [u2_ne (by omega)]; rfl
    simp only [w162_0, w162_1, w162_4, w162_7, w162_8, w162_9, w162_10, w162_13, w162_14, w162_15, w162_18, w162_21, kn_s, kn_n, zh_mk, zR_mk, zI_mk, zL_mk, zD_mk, wI_mk, wL_mk, wD_mk, zT_mk, zC_mk, kill_i, kill_r, kill_0, kill_n, kill_l, kill_q, zzk_r, zzk_0, zzk_q, zcat_r, zcat_i, zcat_0, cats_0, cats_i, cats_r, cats_l, cats_d, cats_f, rv_s, rv_0, Nat.reduceAdd, Nat.reduceLeDiff, Nat.add_zero, Nat.reduceMul, Nat.reduceSub, ne_eq, not_false_eq_true, not_true_eq_false, and_self, and_true, true_and, or_self, or_true, true_or, or_false, false_or, if_true, if_false, reduceIte, reduceCtorEq, implies_true, ite_self, ite_not, kM, c161 hr, pI, i10, e16, pR_fl hc, flT]
  · have h' : ¬ ((s, e, k, r, v).2.2.2.1 = 0) := h
    rw [flT_x h']
    simp only [w162_0, w162_1, w162_4, w162_7, w162_8, w162_9, w162_10, w162_13, w162_14, w162_15, w162_18, w162_21, kn_s, kn_n, zh_mk, zR_mk, zI_mk, zL_mk, zD_mk, wI_mk, wL_mk, wD_mk, zT_mk, zC_mk, kill_i, kill_r, kill_0, kill_n, kill_l, kill_q, zzk_r, zzk_0, zzk_q, zcat_r, zcat_i, zcat_0, cats_0, cats_i, cats_r, cats_l, cats_d, cats_f, rv_s, rv_0, Nat.reduceAdd, Nat.reduceLeDiff, Nat.add_zero, Nat.reduceMul, Nat.reduceSub, ne_eq, not_false_eq_true, not_true_eq_false, and_self, and_true, true_and, or_self, or_true, true_or, or_false, false_or, if_true, if_false, reduceIte, reduceCtorEq, implies_true, ite_self, ite_not, kM, c161 hr, pI, eq_false h, i00]
theorem c163 (hT : TR f n J) (hW : WF f n P) : Wp (d + 2) 163 0 [some (.ref 294)] [] (mk N t w (pR P J) L D) Q = Q (.inl none) (mk N t w (pR (nxT f n P) J) L D) := by
  have hr := WF_e hW
  by_cases h : P.2.2.2.1 = 0
  · have l := fun (Q : Rs → St → Prop) => c156 (d := d) (N := N) (t := t) (w := w) (L := L) (D := D) (Q := Q) (s := P.1) (e := P.2.1) (k := P.2.2.1) (v := P.2.2.2.2) hT hW.1.2
    have eP : P = (P.1, P.2.1, P.2.2.1, 0, P.2.2.2.2) := by
      obtain ⟨s, e, k, r, v⟩ := P
      have h : r = 0 := h
      rw [h]
    have en : nxT f n P = tok f n P.2.1 P.2.2.2.2 := by unfold nxT; rw [if_pos h]
    rw [← eP] at l
    simp only [w163_0, w163_1, w163_4, w163_7, w163_8, w163_11, kn_s, kn_n, zh_mk, zR_mk, zI_mk, zL_mk, zD_mk, wI_mk, wL_mk, wD_mk, zT_mk, zC_mk, kill_i, kill_r, kill_0, kill_n, kill_l, kill_q, zzk_r, zzk_0, zzk_q, zcat_r, zcat_i, zcat_0, cats_0, cats_i, cats_r, cats_l, cats_d, cats_f, rv_s, rv_0, Nat.reduceAdd, Nat.reduceLeDiff, Nat.add_zero, Nat.reduceMul, Nat.reduceSub, ne_eq, not_false_eq_true, not_true_eq_false, and_self, and_true, true_and, or_self, or_true, true_or, or_false, false_or, if_true, if_false, reduceIte, reduceCtorEq, implies_true, ite_self, ite_not, kM, c161 hr, pI, eq_true h, i10, l, en]
  · rw [nxT_x h]
    simp only [w163_0, w163_1, w163_4, w163_7, w163_8, w163_11, kn_s, kn_n, zh_mk, zR_mk, zI_mk, zL_mk, zD_mk, wI_mk, wL_mk, wD_mk, zT_mk, zC_mk, kill_i, kill_r, kill_0, kill_n, kill_l, kill_q, zzk_r, zzk_0, zzk_q, zcat_r, zcat_i, zcat_0, cats_0, cats_i, cats_r, cats_l, cats_d, cats_f, rv_s, rv_0, Nat.reduceAdd, Nat.reduceLeDiff, Nat.add_zero, Nat.reduceMul, Nat.reduceSub, ne_eq, not_false_eq_true, not_true_eq_false, and_self, and_true, true_and, or_self, or_true, true_or, or_false, false_or, if_true, if_false, reduceIte, reduceCtorEq, implies_true, ite_self, ite_not, kM, c161 hr, pI, eq_false h, i00]
theorem c160_39 (hT : TR f n J) (hS : SW J) {a : Nat} (ha : 1 ≤ a ∧ a < 8) {s e k r0 : Nat} {v : Int} (he : e ≤ n) (hl : e = s + wdL a) : ∀ r j : Nat, j + r = wdL a → Wp (d + 4) 160 39 [some (.ref 294), some (.ref a), some (.int (Int32.ofInt 1)), some (.int (Int32.ofInt (j : Int)))] [] (mk N t w (pR (s, e, k, r0, v) J) L D) Q = Q (.inl (some (.int (pI (∀ q, q < wdL a → j ≤ q → f (s + q) = wdC a q))))) (mk N t w (pR (s, e, k, r0, v) J) L D) := by
  have h4 := hT.1
  intro r
  induction r with
  | zero =>
    intro j hj
    have hw := wdL_d a ha.2 ha.1
    have g : ¬ ((j : Int) < (wdL a : Int)) := by omega
    have g2 : ∀ q, q < wdL a → j ≤ q → f (s + q) = wdC a q := fun q h1 h2 => by omega
    rw [w160_39]
    simp only [w160_0, w160_1, w160_4, w160_7, w160_8, w160_11, w160_12, w160_15, w160_16, w160_19, w160_20, w160_23, w160_24, w160_25, w160_28, w160_31, w160_32, w160_35, w160_36, w160_37, w160_38, w160_40, w160_41, w160_44, w160_47, w160_48, w160_51, w160_52, w160_55, w160_56, w160_59, w160_60, w160_61, w160_62, w160_63, w160_64, w160_67, w160_70, w160_71, w160_74, w160_75, w160_76, w160_79, w160_82, w160_83, kn_s, kn_n, zh_mk, zR_mk, zI_mk, zL_mk, zD_mk, wI_mk, wL_mk, wD_mk, zT_mk, zC_mk, kill_i, kill_r, kill_0, kill_n, kill_l, kill_q, zzk_r, zzk_0, zzk_q, zcat_r, zcat_i, zcat_0, cats_0, cats_i, cats_r, cats_l, cats_d, cats_f, rv_s, rv_0, Nat.reduceAdd, Nat.reduceLeDiff, Nat.add_zero, Nat.reduceMul, Nat.reduceSub, ne_eq, not_false_eq_true, not_true_eq_false, and_self, and_true, true_and, or_self, or_true, true_or, or_false, false_or, if_true, if_false, reduceIte, reduceCtorEq, implies_true, ite_self, ite_not, nz0, nz1, kM, kh_s ha, c327 ha, o_lt (a := (j : Int)) (b := (wdL a : Int)) (by omega), g, pI, eq_true g2]
  | succ r ih =>
    intro j hj
    have hw := wdL_d a ha.2 ha.1
    have g : (j : Int) < (wdL a : Int) := by omega
    have hb := hT.2.2 (s + j) (by omega)
    have eJ : pR (s, e, k, r0, v) J 298 (s + j) = Int32.ofInt (f (s + j)) := by rw [pR_o (by omega)]; exact hb.1
    have hc := wdC_d a ha.2 ha.1 j (by omega)
    have es : (s : Int) + (j : Int) = ((s + j : Nat) : Int) := by omega
    have hSR : SW (pR (s, e, k, r0, v) J) := fun a h1 h2 j => by rw [pR_o (by omega)]; exact hS a h1 h2 j
    rw [w160_39]
    by_cases h : f (s + j) = wdC a j
    · have hp : pI (∀ q, q < wdL a → j ≤ q → f (s + q) = wdC a q) = pI (∀ q, q < wdL a → j + 1 ≤ q → f (s + q) = wdC a q) := by
        have : (∀ q, q < wdL a → j ≤ q → f (s + q) = wdC a q) ↔ (∀ q, q < wdL a → j + 1 ≤ q → f (s + q) = wdC a q) := ⟨fun z q h1 h2 => z q h1 (by omega), fun z q h1 h2 => by
          by_cases ej : q = j
          · rw [ej]; exact h
          · exact z q h1 (by omega)⟩
        unfold pI
        by_cases z : ∀ q, q < wdL a → j ≤ q → f (s + q) = wdC a q
        · rw [if_pos z, if_pos (this.1 z)]
        · rw [if_neg z, if_neg (fun y => z (this.2 y))]
      rw [hp]
      simp only [w160_0, w160_1, w160_4, w160_7, w160_8, w160_11, w160_12, w160_15, w160_16, w160_19, w160_20, w160_23, w160_24, w160_25, w160_28, w160_31, w160_32, w160_35, w160_36, w160_37, w160_38, w160_40, w160_41, w160_44, w160_47, w160_48, w160_51, w160_52, w160_55, w160_56, w160_59, w160_60, w160_61, w160_62, w160_63, w160_64, w160_67, w160_70, w160_71, w160_74, w160_75, w160_76, w160_79, w160_82, w160_83, kn_s, kn_n, zh_mk, zR_mk, zI_mk, zL_mk, zD_mk, wI_mk, wL_mk, wD_mk, zT_mk, zC_mk, kill_i, kill_r, kill_0, kill_n, kill_l, kill_q, zzk_r, zzk_0, zzk_q, zcat_r, zcat_i, zcat_0, cats_0, cats_i, cats_r, cats_l, cats_d, cats_f, rv_s, rv_0, Nat.reduceAdd, Nat.reduceLeDiff, Nat.add_zero, Nat.reduceMul, Nat.reduceSub, ne_eq, not_false_eq_true, not_true_eq_false, and_self, and_true, true_and, or_self, or_true, true_or, or_false, false_or, if_true, if_false, reduceIte, reduceCtorEq, implies_true, ite_self, ite_not, nz0, nz1, o_add, cast_s, kM, k298, kr294_12, pR_16, es, eJ, kh_s ha, c327 ha, c329 hSR ha (show j < wdL a by omega), i10, o_lt (a := (j : Int)) (b := (wdL a : Int)) (by omega), g, o_ixn (j := s + j) (n := 400) (by omega), o_tnn (j := s + j) (by omega), o_eq (a := f (s + j)) (b := wdC a j) (by omega), eq_true h, ih (j + 1) (by omega)]
    · have g2 : ¬ (∀ q, q < wdL a → j ≤ q → f (s + q) = wdC a q) := fun z => h (z j (by omega) (Nat.le_refl _))
      have st : Wp (d + 4) 160 39 [some (.ref 294), some (.ref a), some (.int (Int32.ofInt 0)), some (.int (Int32.ofInt ((j + 1 : Nat) : Int)))] [] (mk N t w (pR (s, e, k, r0, v) J) L D) Q = Q (.inl (some (.int (Int32.ofInt 0)))) (mk N t w (pR (s, e, k, r0, v) J) L D) := by
        rw [w160_39]
        by_cases g5 : ((j + 1 : Nat) : Int) < (wdL a : Int)
        · simp only [w160_0, w160_1, w160_4, w160_7, w160_8, w160_11, w160_12, w160_15, w160_16, w160_19, w160_20, w160_23, w160_24, w160_25, w160_28, w160_31, w160_32, w160_35, w160_36, w160_37, w160_38, w160_40, w160_41, w160_44, w160_47, w160_48, w160_51, w160_52, w160_55, w160_56, w160_59, w160_60, w160_61, w160_62, w160_63, w160_64, w160_67, w160_70, w160_71, w160_74, w160_75, w160_76, w160_79, w160_82, w160_83, kn_s, kn_n, zh_mk, zR_mk, zI_mk, zL_mk, zD_mk, wI_mk, wL_mk, wD_mk, zT_mk, zC_mk, kill_i, kill_r, kill_0, kill_n, kill_l, kill_q, zzk_r, zzk_0, zzk_q, zcat_r, zcat_i, zcat_0, cats_0, cats_i, cats_r, cats_l, cats_d, cats_f, rv_s, rv_0, Nat.reduceAdd, Nat.reduceLeDiff, Nat.add_zero, Nat.reduceMul, Nat.reduceSub, ne_eq, not_false_eq_true, not_true_eq_false, and_self, and_true, true_and, or_self, or_true, true_or, or_false, false_or, if_true, if_false, reduceIte, reduceCtorEq, implies_true, ite_self, ite_not, nz0, nz1, kM, kh_s ha, c327 ha, i00, o_lt (a := ((j + 1 : Nat) : Int)) (b := (wdL a : Int)) (by omega), eq_true g5]
        · simp only [w160_0, w160_1, w160_4, w160_7, w160_8, w160_11, w160_12, w160_15, w160_16, w160_19, w160_20, w160_23, w160_24, w160_25, w160_28, w160_31, w160_32, w160_35, w160_36, w160_37, w160_38, w160_40, w160_41, w160_44, w160_47, w160_48, w160_51, w160_52, w160_55, w160_56, w160_59, w160_60, w160_61, w160_62, w160_63, w160_64, w160_67, w160_70, w160_71, w160_74, w160_75, w160_76, w160_79, w160_82, w160_83, kn_s, kn_n, zh_mk, zR_mk, zI_mk, zL_mk, zD_mk, wI_mk, wL_mk, wD_mk, zT_mk, zC_mk, kill_i, kill_r, kill_0, kill_n, kill_l, kill_q, zzk_r, zzk_0, zzk_q, zcat_r, zcat_i, zcat_0, cats_0, cats_i, cats_r, cats_l, cats_d, cats_f, rv_s, rv_0, Nat.reduceAdd, Nat.reduceLeDiff, Nat.add_zero, Nat.reduceMul, Nat.reduceSub, ne_eq, not_false_eq_true, not_true_eq_false, and_self, and_true, true_and, or_self, or_true, true_or, or_false, false_or, if_true, if_false, reduceIte, reduceCtorEq, implies_true, ite_self, ite_not, nz0, nz1, kM, kh_s ha, c327 ha, i00, o_lt (a := ((j + 1 : Nat) : Int)) (b := (wdL a : Int)) (by omega), eq_false g5]
      simp only [w160_0, w160_1, w160_4, w160_7, w160_8, w160_11, w160_12, w160_15, w160_16, w160_19, w160_20, w160_23, w160_24, w160_25, w160_28, w160_31, w160_32, w160_35, w160_36, w160_37, w160_38, w160_40, w160_41, w160_44, w160_47, w160_48, w160_51, w160_52, w160_55, w160_56, w160_59, w160_60, w160_61, w160_62, w160_63, w160_64, w160_67, w160_70, w160_71, w160_74, w160_75, w160_76, w160_79, w160_82, w160_83, kn_s, kn_n, zh_mk, zR_mk, zI_mk, zL_mk, zD_mk, wI_mk, wL_mk, wD_mk, zT_mk, zC_mk, kill_i, kill_r, kill_0, kill_n, kill_l, kill_q, zzk_r, zzk_0, zzk_q, zcat_r, zcat_i, zcat_0, cats_0, cats_i, cats_r, cats_l, cats_d, cats_f, rv_s, rv_0, Nat.reduceAdd, Nat.reduceLeDiff, Nat.add_zero, Nat.reduceMul, Nat.reduceSub, ne_eq, not_false_eq_true, not_true_eq_false, and_self, and_true, true_and, or_self, or_true, true_or, or_false, false_or, if_true, if_false, reduceIte, reduceCtorEq, implies_true, ite_self, ite_not, nz0, nz1, o_add, cast_s, kM, k298, kr294_12, pR_16, es, eJ, kh_s ha, c327 ha, c329 hSR ha (show j < wdL a by omega), i10, o_lt (a := (j : Int)) (b := (wdL a : Int)) (by omega), g, o_ixn (j := s + j) (n := 400) (by omega), o_tnn (j := s + j) (by omega), o_eq (a := f (s + j)) (b := wdC a j) (by omega), eq_false h, st, pI, eq_false g2]
theorem c160 (hT : TR f n J) (hS : SW J) (hW : WF f n P) {a : Nat} (ha : 1 ≤ a ∧ a < 8) : Wp (d + 4) 160 0 [some (.ref 294), some (.ref a), none, none] [] (mk N t w (pR P J) L D) Q = Q (.inl (some (.int (pI (P.2.2.2.1 = 0 ∧ iw f a P = true))))) (mk N t w (pR P J) L D) := by
  have hk := WF_k hW
  have hr := WF_e hW
  obtain ⟨s, e, k, r, v⟩ := P
  have hk : k ≤ 4 := hk
  have he : s ≤ e ∧ e ≤ n := hW.1
  have h4 := hT.1
  have hl := wdL_d a ha.2 ha.1
  have st : Wp (d + 4) 160 39 [some (.ref 294), some (.ref a), some (.int (Int32.ofInt 0)), some (.int (Int32.ofInt 0))] [] (mk N t w (pR (s, e, k, r, v) J) L D) Q = Q (.inl (some (.int (Int32.ofInt 0)))) (mk N t w (pR (s, e, k, r, v) J) L D) := by
    have g : (0 : Int) < (wdL a : Int) := by omega
    rw [w160_39]
    simp only [w160_0, w160_1, w160_4, w160_7, w160_8, w160_11, w160_12, w160_15, w160_16, w160_19, w160_20, w160_23, w160_24, w160_25, w160_28, w160_31, w160_32, w160_35, w160_36, w160_37, w160_38, w160_40, w160_41, w160_44, w160_47, w160_48, w160_51, w160_52, w160_55, w160_56, w160_59, w160_60, w160_61, w160_62, w160_63, w160_64, w160_67, w160_70, w160_71, w160_74, w160_75, w160_76, w160_79, w160_82, w160_83, kn_s, kn_n, zh_mk, zR_mk, zI_mk, zL_mk, zD_mk, wI_mk, wL_mk, wD_mk, zT_mk, zC_mk, kill_i, kill_r, kill_0, kill_n, kill_l, kill_q, zzk_r, zzk_0, zzk_q, zcat_r, zcat_i, zcat_0, cats_0, cats_i, cats_r, cats_l, cats_d, cats_f, rv_s, rv_0, Nat.reduceAdd, Nat.reduceLeDiff, Nat.add_zero, Nat.reduceMul, Nat.reduceSub, ne_eq, not_false_eq_true, not_true_eq_false, and_self, and_true, true_and, or_self, or_true, true_or, or_false, false_or, if_true, if_false, reduceIte, reduceCtorEq, implies_true, ite_self, ite_not, nz0, nz1, kM, kh_s ha, c327 ha, i00, o_lt (a := 0) (b := (wdL a : Int)) (by omega), eq_true g]
  by_cases h0 : r = 0
  · by_cases h1 : k = 1
    · have h1' : (k : Int) = 1 := by omega
      by_cases h2 : e - s = wdL a
      · have h2' : (e : Int) - (s : Int) = (wdL a : Int) := by omega
        have l := c160_39 (d := d) (N := N) (t := t) (w := w) (L := L) (D := D) (Q := Q) (k := k) (r0 := r) (v := v) hT hS ha he.2 (show e = s + wdL a by omega) (wdL a) 0 (by omega)
        have hp : pI ((s, e, k, r, v).2.2.2.1 = 0 ∧ iw f a (s, e, k, r, v) = true) = pI (∀ q, q < wdL a → 0 ≤ q → f (s + q) = wdC a q) := by
          have : ((s, e, k, r, v).2.2.2.1 = 0 ∧ iw f a (s, e, k, r, v) = true) ↔ (∀ q, q < wdL a → 0 ≤ q → f (s + q) = wdC a q) := by
            unfold iw
            rw [decide_eq_true_eq]
            exact ⟨fun q j h3 h5 => q.2.2.2 j h3, fun q => ⟨h0, h1, h2, fun j hj => q j hj (Nat.zero_le _)⟩⟩
          unfold pI
          by_cases q : (s, e, k, r, v).2.2.2.1 = 0 ∧ iw f a (s, e, k, r, v) = true
          · rw [if_pos q, if_pos (this.1 q)]
          · rw [if_neg q, if_neg (fun z => q (this.2 z))]
        rw [hp]
        refine Eq.trans ?_ l
        simp only [w160_0, w160_1, w160_4, w160_7, w160_8, w160_11, w160_12, w160_15, w160_16, w160_19, w160_20, w160_23, w160_24, w160_25, w160_28, w160_31, w160_32, w160_35, w160_36, w160_37, w160_38, kn_s, kn_n, zh_mk, zR_mk, zI_mk, zL_mk, zD_mk, wI_mk, wL_mk, wD_mk, zT_mk, zC_mk, kill_i, kill_r, kill_0, kill_n, kill_l, kill_q, zzk_r, zzk_0, zzk_q, zcat_r, zcat_i, zcat_0, cats_0, cats_i, cats_r, cats_l, cats_d, cats_f, rv_s, rv_0, Nat.reduceAdd, Nat.reduceLeDiff, Nat.add_zero, Nat.reduceMul, Nat.reduceSub, ne_eq, not_false_eq_true, not_true_eq_false, and_self, and_true, true_and, or_self, or_true, true_or, or_false, false_or, if_true, if_false, reduceIte, reduceCtorEq, implies_true, ite_self, ite_not, o_sub, kM, c161 hr, pI, eq_true h0, i10, pR_15, pR_16, pR_17, kh_s ha, c327 ha, o_eq (a := (k : Int)) (b := 1) (by omega), eq_true h1', o_eq (a := (e : Int) - (s : Int)) (b := (wdL a : Int)) (by omega), eq_true h2']
        rfl
      · have h2' : ¬ ((e : Int) - (s : Int) = (wdL a : Int)) := by omega
        have hf : ¬ ((s, e, k, r, v).2.2.2.1 = 0 ∧ iw f a (s, e, k, r, v) = true) := by
          unfold iw
          rw [decide_eq_true_eq]
          exact fun q => h2 q.2.2.1
        rw [show pI ((s, e, k, r, v).2.2.2.1 = 0 ∧ iw f a (s, e, k, r, v) = true) = Int32.ofInt 0 from if_neg hf]
        simp only [w160_0, w160_1, w160_4, w160_7, w160_8, w160_11, w160_12, w160_15, w160_16, w160_19, w160_20, w160_23, w160_24, w160_25, w160_28, w160_31, w160_32, w160_35, w160_36, w160_37, w160_38, kn_s, kn_n, zh_mk, zR_mk, zI_mk, zL_mk, zD_mk, wI_mk, wL_mk, wD_mk, zT_mk, zC_mk, kill_i, kill_r, kill_0, kill_n, kill_l, kill_q, zzk_r, zzk_0, zzk_q, zcat_r, zcat_i, zcat_0, cats_0, cats_i, cats_r, cats_l, cats_d, cats_f, rv_s, rv_0, Nat.reduceAdd, Nat.reduceLeDiff, Nat.add_zero, Nat.reduceMul, Nat.reduceSub, ne_eq, not_false_eq_true, not_true_eq_false, and_self, and_true, true_and, or_self, or_true, true_or, or_false, false_or, if_true, if_false, reduceIte, reduceCtorEq, implies_true, ite_self, ite_not, o_sub, kM, c161 hr, pI, eq_true h0, i10, pR_15, pR_16, pR_17, kh_s ha, c327 ha, o_eq (a := (k : Int)) (b := 1) (by omega), eq_true h1', o_eq (a := (e : Int) - (s : Int)) (b := (wdL a : Int)) (by omega), eq_false h2', st]
    · have h1' : ¬ ((k : Int) = 1) := by omega
      have hf : ¬ ((s, e, k, r, v).2.2.2.1 = 0 ∧ iw f a (s, e, k, r, v) = true) := by
        unfold iw
        rw [decide_eq_true_eq]
        exact fun q => h1 q.2.1
      rw [show pI ((s, e, k, r, v).2.2.2.1 = 0 ∧ iw f a (s, e, k, r, v) = true) = Int32.ofInt 0 from if_neg hf]
      simp only [w160_0, w160_1, w160_4, w160_7, w160_8, w160_11, w160_12, w160_15, w160_16, w160_19, w160_20, w160_23, w160_24, w160_25, w160_28, w160_31, w160_32, w160_35, w160_36, w160_37, w160_38, kn_s, kn_n, zh_mk, zR_mk, zI_mk, zL_mk, zD_mk, wI_mk, wL_mk, wD_mk, zT_mk, zC_mk, kill_i, kill_r, kill_0, kill_n, kill_l, kill_q, zzk_r, zzk_0, zzk_q, zcat_r, zcat_i, zcat_0, cats_0, cats_i, cats_r, cats_l, cats_d, cats_f, rv_s, rv_0, Nat.reduceAdd, Nat.reduceLeDiff, Nat.add_zero, Nat.reduceMul, Nat.reduceSub, ne_eq, not_false_eq_true, not_true_eq_false, and_self, and_true, true_and, or_self, or_true, true_or, or_false, false_or, if_true, if_false, reduceIte, reduceCtorEq, implies_true, ite_self, ite_not, kM, c161 hr, pI, eq_true h0, i10, pR_17, o_eq (a := (k : Int)) (b := 1) (by omega), eq_false h1', st]
  · have hf : ¬ ((s, e, k, r, v).2.2.2.1 = 0 ∧ iw f a (s, e, k, r, v) = true) := fun q => h0 q.1
    rw [show pI ((s, e, k, r, v).2.2.2.1 = 0 ∧ iw f a (s, e, k, r, v) = true) = Int32.ofInt 0 from if_neg hf]
    simp only [w160_0, w160_1, w160_4, w160_7, w160_8, w160_11, w160_12, w160_15, w160_16, w160_19, w160_20, w160_23, w160_24, w160_25, w160_28, w160_31, w160_32, w160_35, w160_36, w160_37, w160_38, kn_s, kn_n, zh_mk, zR_mk, zI_mk, zL_mk, zD_mk, wI_mk, wL_mk, wD_mk, zT_mk, zC_mk, kill_i, kill_r, kill_0, kill_n, kill_l, kill_q, zzk_r, zzk_0, zzk_q, zcat_r, zcat_i, zcat_0, cats_0, cats_i, cats_r, cats_l, cats_d, cats_f, rv_s, rv_0, Nat.reduceAdd, Nat.reduceLeDiff, Nat.add_zero, Nat.reduceMul, Nat.reduceSub, ne_eq, not_false_eq_true, not_true_eq_false, and_self, and_true, true_and, or_self, or_true, true_or, or_false, false_or, if_true, if_false, reduceIte, reduceCtorEq, implies_true, ite_self, ite_not, kM, c161 hr, pI, eq_false h0, i00, st]
theorem c159 (hT : TR f n J) (hS : SW J) (hW : WF f n P) {a : Nat} (ha : 1 ≤ a ∧ a < 8) : Wp (d + 5) 159 0 [some (.ref 294), some (.ref a)] [] (mk N t w (pR P J) L D) Q = Q (.inl none) (mk N t w (pR (twT f n a P) J) L D) := by
  have hF : WF f n (flT 1 P) := WF_fl (by omega) hW
  unfold twT
  by_cases h : P.2.2.2.1 = 0 ∧ iw f a P = true
  · simp only [w159_0, w159_1, w159_2, w159_5, w159_8, w159_9, w159_10, w159_13, w159_14, w159_17, kn_s, kn_n, zh_mk, zR_mk, zI_mk, zL_mk, zD_mk, wI_mk, wL_mk, wD_mk, zT_mk, zC_mk, kill_i, kill_r, kill_0, kill_n, kill_l, kill_q, zzk_r, zzk_0, zzk_q, zcat_r, zcat_i, zcat_0, cats_0, cats_i, cats_r, cats_l, cats_d, cats_f, rv_s, rv_0, Nat.reduceAdd, Nat.reduceLeDiff, Nat.add_zero, Nat.reduceMul, Nat.reduceSub, ne_eq, not_false_eq_true, not_true_eq_false, and_self, and_true, true_and, or_self, or_true, true_or, or_false, false_or, if_true, if_false, reduceIte, reduceCtorEq, implies_true, ite_self, ite_not, kM, c160 hT hS hW ha, pI, eq_true h.1, i10, c163 hT hW, eq_true h.2]
  · have e : (if iw f a P = true then P else flT 1 P) = flT 1 P := by
      by_cases q : iw f a P = true
      · rw [if_pos q, flT_x (fun z => h ⟨z, q⟩)]
      · rw [if_neg q]
    simp only [w159_0, w159_1, w159_2, w159_5, w159_8, w159_9, w159_10, w159_13, w159_14, w159_17, kn_s, kn_n, zh_mk, zR_mk, zI_mk, zL_mk, zD_mk, wI_mk, wL_mk, wD_mk, zT_mk, zC_mk, kill_i, kill_r, kill_0, kill_n, kill_l, kill_q, zzk_r, zzk_0, zzk_q, zcat_r, zcat_i, zcat_0, cats_0, cats_i, cats_r, cats_l, cats_d, cats_f, rv_s, rv_0, Nat.reduceAdd, Nat.reduceLeDiff, Nat.add_zero, Nat.reduceMul, Nat.reduceSub, ne_eq, not_false_eq_true, not_true_eq_false, and_self, and_true, true_and, or_self, or_true, true_or, or_false, false_or, if_true, if_false, reduceIte, reduceCtorEq, implies_true, ite_self, ite_not, kM, c160 hT hS hW ha, pI, eq_false h, i00, c162 (c := 1) (z := 1) rfl (by omega) (WF_e hW), c163 hT hF, e]
theorem ch_v {lo hi : Int} (hW : WF f n P) (hh : hi < 9999) (h2 : P.2.2.1 = 2) : (lo ≤ P.2.2.2.2 ∧ P.2.2.2.2 ≤ hi ↔ lo ≤ cnL f (P.2.1 - P.1) P.1 0 ∧ cnL f (P.2.1 - P.1) P.1 0 ≤ hi) ∨ 9999 < lo := by
  by_cases hlo : 9999 < lo
  · exact Or.inr hlo
  · have h1 := hW.1
    have e := hW.2.2.2.1 h2
    have := va_cn (f := f) (P.2.1 - P.1) P.1 0 (fun j h3 h4 => WF_dig hW h2 j h3 (by omega)) (by omega)
    rw [if_pos (by omega), ← e] at this
    refine Or.inl ?_
    rw [this]
    split <;> omega
theorem c165 (hW : WF f n P) {lo hi : Int} (hlo : 0 ≤ lo ∧ lo ≤ hi) (hhi : hi < 9999) : Wp (d + 2) 165 0 [some (.ref 294), some (.int (Int32.ofInt lo)), some (.int (Int32.ofInt hi))] [] (mk N t w (pR P J) L D) Q = Q (.inl (some (.int (Int32.ofInt (rvT f lo hi P))))) (mk N t w (pR (chT f lo hi P) J) L D) := by
  have hr := WF_e hW
  have hk := WF_k hW
  have h1 := hW.1
  unfold rvT
  by_cases h0 : P.2.2.2.1 = 0
  · by_cases h2 : P.2.2.1 = 2
    · have h2' : (P.2.2.1 : Int) = 2 := by omega
      have e := hW.2.2.2.1 h2
      have hv := va_b (f := f) (P.2.1 - P.1) P.1 0 (fun j h3 h4 => WF_dig hW h2 j h3 (by omega)) (by omega)
      have hvc := va_cn (f := f) (P.2.1 - P.1) P.1 0 (fun j h3 h4 => WF_dig hW h2 j h3 (by omega)) (by omega)
      rw [if_pos (by omega)] at hvc
      rw [← e] at hv hvc
      have hi' := (ch_v (lo := lo) hW hhi h2).resolve_right (by omega)
      have ec : cvT f lo P = cnL f (P.2.1 - P.1) P.1 0 := by unfold cvT; rw [if_pos h2]
      by_cases h3 : lo ≤ P.2.2.2.2 ∧ P.2.2.2.2 ≤ hi
      · have q := hi'.1 h3
        have e1 : chT f lo hi P = P := by unfold chT; rw [if_pos h2, if_pos q]
        have e2 : P.2.2.2.2 = cnL f (P.2.1 - P.1) P.1 0 := by
          rw [hvc]
          split
          · rfl
          · omega
        rw [e1, if_pos h0, ec, ← e2]
        simp only [w165_0, w165_1, w165_4, w165_7, w165_8, w165_11, w165_12, w165_15, w165_16, w165_17, w165_20, w165_21, w165_24, w165_27, w165_28, w165_31, w165_32, w165_33, w165_34, w165_35, w165_36, w165_39, w165_42, w165_43, w165_44, w165_47, w165_48, w165_51, w165_54, w165_55, w165_58, w165_61, w165_62, kn_s, kn_n, zh_mk, zR_mk, zI_mk, zL_mk, zD_mk, wI_mk, wL_mk, wD_mk, zT_mk, zC_mk, kill_i, kill_r, kill_0, kill_n, kill_l, kill_q, zzk_r, zzk_0, zzk_q, zcat_r, zcat_i, zcat_0, cats_0, cats_i, cats_r, cats_l, cats_d, cats_f, rv_s, rv_0, Nat.reduceAdd, Nat.reduceLeDiff, Nat.add_zero, Nat.reduceMul, Nat.reduceSub, ne_eq, not_false_eq_true, not_true_eq_false, and_self, and_true, true_and, or_self, or_true, true_or, or_false, false_or, if_true, if_false, reduceIte, reduceCtorEq, implies_true, ite_self, ite_not, kM, c161 hr, pI, eq_true h0, i10, pR_17, pR_18, o_eq (a := (P.2.2.1 : Int)) (b := 2) (by omega), eq_true h2', o_64 (z := P.2.2.2.2) (by omega), o_64 (z := lo) (by omega), o_64 (z := hi) (by omega), c154 (a := P.2.2.2.2) (b := lo) (c := hi) (by omega), eq_true h3]
      · have q : ¬ (lo ≤ cnL f (P.2.1 - P.1) P.1 0 ∧ cnL f (P.2.1 - P.1) P.1 0 ≤ hi) := fun z => h3 (hi'.2 z)
        have e1 : chT f lo hi P = flT 2 P := by unfold chT; rw [if_pos h2, if_neg q]
        have hF : WF f n (flT 2 P) := WF_fl (by omega) hW
        have hfe : (flT 2 P).2.2.2.1 ≠ 0 := flT_e (by omega)
        rw [e1, if_neg hfe]
        simp only [w165_0, w165_1, w165_4, w165_7, w165_8, w165_11, w165_12, w165_15, w165_16, w165_17, w165_20, w165_21, w165_24, w165_27, w165_28, w165_31, w165_32, w165_33, w165_34, w165_35, w165_36, w165_39, w165_42, w165_43, w165_44, w165_47, w165_48, w165_51, w165_54, w165_55, w165_58, w165_61, w165_62, kn_s, kn_n, zh_mk, zR_mk, zI_mk, zL_mk, zD_mk, wI_mk, wL_mk, wD_mk, zT_mk, zC_mk, kill_i, kill_r, kill_0, kill_n, kill_l, kill_q, zzk_r, zzk_0, zzk_q, zcat_r, zcat_i, zcat_0, cats_0, cats_i, cats_r, cats_l, cats_d, cats_f, rv_s, rv_0, Nat.reduceAdd, Nat.reduceLeDiff, Nat.add_zero, Nat.reduceMul, Nat.reduceSub, ne_eq, not_false_eq_true, not_true_eq_false, and_self, and_true, true_and, or_self, or_true, true_or, or_false, false_or, if_true, if_false, reduceIte, reduceCtorEq, implies_true, ite_self, ite_not, kM, c161 hr, c161 (WF_e hF), pI, eq_true h0, eq_false hfe, i10, i00, pR_17, pR_18, o_eq (a := (P.2.2.1 : Int)) (b := 2) (by omega), eq_true h2', o_64 (z := P.2.2.2.2) (by omega), o_64 (z := lo) (by omega), o_64 (z := hi) (by omega), c154 (a := P.2.2.2.2) (b := lo) (c := hi) (by omega), eq_false h3, c162 (c := 2) (z := 2) rfl (by omega) hr]
    · have h2' : ¬ ((P.2.2.1 : Int) = 2) := by omega
      have e1 : chT f lo hi P = flT 1 P := by unfold chT; rw [if_neg h2]
      have hF : WF f n (flT 1 P) := WF_fl (by omega) hW
      have hfe : (flT 1 P).2.2.2.1 ≠ 0 := flT_e (by omega)
      rw [e1, if_neg hfe]
      simp only [w165_0, w165_1, w165_4, w165_7, w165_8, w165_11, w165_12, w165_15, w165_16, w165_17, w165_20, w165_21, w165_24, w165_27, w165_28, w165_31, w165_32, w165_33, w165_34, w165_35, w165_36, w165_39, w165_42, w165_43, w165_44, w165_47, w165_48, w165_51, w165_54, w165_55, w165_58, w165_61, w165_62, kn_s, kn_n, zh_mk, zR_mk, zI_mk, zL_mk, zD_mk, wI_mk, wL_mk, wD_mk, zT_mk, zC_mk, kill_i, kill_r, kill_0, kill_n, kill_l, kill_q, zzk_r, zzk_0, zzk_q, zcat_r, zcat_i, zcat_0, cats_0, cats_i, cats_r, cats_l, cats_d, cats_f, rv_s, rv_0, Nat.reduceAdd, Nat.reduceLeDiff, Nat.add_zero, Nat.reduceMul, Nat.reduceSub, ne_eq, not_false_eq_true, not_true_eq_false, and_self, and_true, true_and, or_self, or_true, true_or, or_false, false_or, if_true, if_false, reduceIte, reduceCtorEq, implies_true, ite_self, ite_not, kM, c161 hr, c161 (WF_e hF), pI, eq_true h0, eq_false hfe, i10, i00, pR_17, o_eq (a := (P.2.2.1 : Int)) (b := 2) (by omega), eq_false h2', c162 (c := 1) (z := 1) rfl (by omega) hr]
  · have e1 : chT f lo hi P = P := by
      unfold chT
      split
      · split
        · rfl
        · exact flT_x h0
      · exact flT_x h0
    rw [e1, if_neg h0]
    simp only [w165_0, w165_1, w165_4, w165_7, w165_8, w165_11, w165_12, w165_15, w165_16, w165_17, w165_20, w165_21, w165_24, w165_27, w165_28, w165_31, w165_32, w165_33, w165_34, w165_35, w165_36, w165_39, w165_42, w165_43, w165_44, w165_47, w165_48, w165_51, w165_54, w165_55, w165_58, w165_61, w165_62, kn_s, kn_n, zh_mk, zR_mk, zI_mk, zL_mk, zD_mk, wI_mk, wL_mk, wD_mk, zT_mk, zC_mk, kill_i, kill_r, kill_0, kill_n, kill_l, kill_q, zzk_r, zzk_0, zzk_q, zcat_r, zcat_i, zcat_0, cats_0, cats_i, cats_r, cats_l, cats_d, cats_f, rv_s, rv_0, Nat.reduceAdd, Nat.reduceLeDiff, Nat.add_zero, Nat.reduceMul, Nat.reduceSub, ne_eq, not_false_eq_true, not_true_eq_false, and_self, and_true, true_and, or_self, or_true, true_or, or_false, false_or, if_true, if_false, reduceIte, reduceCtorEq, implies_true, ite_self, ite_not, kM, c161 hr, pI, eq_false h0, i00]
theorem c164 (hT : TR f n J) (hW : WF f n P) {lo hi : Int} (hlo : 0 ≤ lo ∧ lo ≤ hi) (hhi : hi < 9999) : Wp (d + 3) 164 0 [some (.ref 294), some (.int (Int32.ofInt lo)), some (.int (Int32.ofInt hi)), none] [] (mk N t w (pR P J) L D) Q = Q (.inl (some (.int (Int32.ofInt (rvT f lo hi P))))) (mk N t w (pR (nxT f n (chT f lo hi P)) J) L D) := by
  have hC : WF f n (chT f lo hi P) := WF_ch hW
  simp only [w164_0, w164_1, w164_2, w164_3, w164_6, w164_7, w164_8, w164_11, w164_12, kn_s, kn_n, zh_mk, zR_mk, zI_mk, zL_mk, zD_mk, wI_mk, wL_mk, wD_mk, zT_mk, zC_mk, kill_i, kill_r, kill_0, kill_n, kill_l, kill_q, zzk_r, zzk_0, zzk_q, zcat_r, zcat_i, zcat_0, cats_0, cats_i, cats_r, cats_l, cats_d, cats_f, rv_s, rv_0, Nat.reduceAdd, Nat.reduceLeDiff, Nat.add_zero, Nat.reduceMul, Nat.reduceSub, ne_eq, not_false_eq_true, not_true_eq_false, and_self, and_true, true_and, or_self, or_true, true_or, or_false, false_or, if_true, if_false, reduceIte, reduceCtorEq, implies_true, ite_self, ite_not, kM, c165 hW hlo hhi, c163 hT hC]
theorem sy_v {c : Int} (hT : TR f n J) (hW : WF f n P) (hc : 0 ≤ c ∧ c < 128) (h3 : P.2.2.1 = 3) : (P.2.2.2.2 = c) = (syT f c P = true) ∧ (0 ≤ P.2.2.2.2 ∧ P.2.2.2.2 < 256) := by
  have h1 := hW.1
  have hs := hW.2.1.2.2.2 (by omega)
  have hb := (hT.2.2 P.1 (by omega)).2
  have e := hW.2.2.2.2.1 h3
  have hz : (syT f c P = true) = (f P.1 = c) := by
    unfold syT
    rw [decide_eq_true_eq]
    exact propext ⟨fun q => q.2, fun q => ⟨h3, q⟩⟩
  rw [hz, e]
  refine ⟨propext ⟨fun q => by omega, fun q => by omega⟩, by omega, by omega⟩
theorem c166 (hT : TR f n J) (hW : WF f n P) : Wp (d + 3) 166 0 [some (.ref 294)] [] (mk N t w (pR P J) L D) Q = Q (.inl none) (mk N t w (pR (smT f n P) J) L D) := by
  have hr := WF_e hW
  have hk := WF_k hW
  have hF : WF f n (flT 1 P) := WF_fl (by omega) hW
  unfold smT
  by_cases h0 : P.2.2.2.1 = 0
  · by_cases h3 : P.2.2.1 = 3
    · have h3' : (P.2.2.1 : Int) = 3 := by omega
      obtain ⟨hv, hb⟩ := sy_v (c := 59) hT hW (by omega) h3
      by_cases q : syT f 59 P = true
      · have q' : P.2.2.2.2 = 59 := by rw [hv]; exact q
        simp only [w166_0, w166_1, w166_4, w166_7, w166_8, w166_11, w166_12, w166_15, w166_16, w166_19, w166_21, w166_24, w166_25, w166_26, w166_29, w166_30, w166_33, kn_s, kn_n, zh_mk, zR_mk, zI_mk, zL_mk, zD_mk, wI_mk, wL_mk, wD_mk, zT_mk, zC_mk, kill_i, kill_r, kill_0, kill_n, kill_l, kill_q, zzk_r, zzk_0, zzk_q, zcat_r, zcat_i, zcat_0, cats_0, cats_i, cats_r, cats_l, cats_d, cats_f, rv_s, rv_0, Nat.reduceAdd, Nat.reduceLeDiff, Nat.add_zero, Nat.reduceMul, Nat.reduceSub, ne_eq, not_false_eq_true, not_true_eq_false, and_self, and_true, true_and, or_self, or_true, true_or, or_false, false_or, if_true, if_false, reduceIte, reduceCtorEq, implies_true, ite_self, ite_not, kM, c161 hr, pI, eq_true h0, i10, pR_17, pR_18, o_eq (a := (P.2.2.1 : Int)) (b := 3) (by omega), eq_true h3', o_eq (a := P.2.2.2.2) (b := 59) (by omega), eq_true q', eq_true q, c163 hT hW]
      · have q' : ¬ (P.2.2.2.2 = 59) := by rw [hv]; exact q
        simp only [w166_0, w166_1, w166_4, w166_7, w166_8, w166_11, w166_12, w166_15, w166_16, w166_19, w166_21, w166_24, w166_25, w166_26, w166_29, w166_30, w166_33, kn_s, kn_n, zh_mk, zR_mk, zI_mk, zL_mk, zD_mk, wI_mk, wL_mk, wD_mk, zT_mk, zC_mk, kill_i, kill_r, kill_0, kill_n, kill_l, kill_q, zzk_r, zzk_0, zzk_q, zcat_r, zcat_i, zcat_0, cats_0, cats_i, cats_r, cats_l, cats_d, cats_f, rv_s, rv_0, Nat.reduceAdd, Nat.reduceLeDiff, Nat.add_zero, Nat.reduceMul, Nat.reduceSub, ne_eq, not_false_eq_true, not_true_eq_false, and_self, and_true, true_and, or_self, or_true, true_or, or_false, false_or, if_true, if_false, reduceIte, reduceCtorEq, implies_true, ite_self, ite_not, kM, c161 hr, pI, eq_true h0, i10, pR_17, pR_18, o_eq (a := (P.2.2.1 : Int)) (b := 3) (by omega), eq_true h3', o_eq (a := P.2.2.2.2) (b := 59) (by omega), eq_false q', eq_false q, c162 (c := 1) (z := 1) rfl (by omega) hr, c163 hT hF]
    · have h3' : ¬ ((P.2.2.1 : Int) = 3) := by omega
      have q : ¬ (syT f 59 P = true) := by
        unfold syT
        rw [decide_eq_true_eq]
        exact fun z => h3 z.1
      simp only [w166_0, w166_1, w166_4, w166_7, w166_8, w166_11, w166_12, w166_15, w166_16, w166_19, w166_21, w166_24, w166_25, w166_26, w166_29, w166_30, w166_33, kn_s, kn_n, zh_mk, zR_mk, zI_mk, zL_mk, zD_mk, wI_mk, wL_mk, wD_mk, zT_mk, zC_mk, kill_i, kill_r, kill_0, kill_n, kill_l, kill_q, zzk_r, zzk_0, zzk_q, zcat_r, zcat_i, zcat_0, cats_0, cats_i, cats_r, cats_l, cats_d, cats_f, rv_s, rv_0, Nat.reduceAdd, Nat.reduceLeDiff, Nat.add_zero, Nat.reduceMul, Nat.reduceSub, ne_eq, not_false_eq_true, not_true_eq_false, and_self, and_true, true_and, or_self, or_true, true_or, or_false, false_or, if_true, if_false, reduceIte, reduceCtorEq, implies_true, ite_self, ite_not, kM, c161 hr, pI, eq_true h0, i10, pR_17, o_eq (a := (P.2.2.1 : Int)) (b := 3) (by omega), eq_false h3', eq_false q, c162 (c := 1) (z := 1) rfl (by omega) hr, c163 hT hF]
  · have e : (if syT f 59 P = true then P else flT 1 P) = flT 1 P := by
      by_cases q : syT f 59 P = true
      · rw [if_pos q, flT_x h0]
      · rw [if_neg q]
    simp only [w166_0, w166_1, w166_4, w166_7, w166_8, w166_11, w166_12, w166_15, w166_16, w166_19, w166_21, w166_24, w166_25, w166_26, w166_29, w166_30, w166_33, kn_s, kn_n, zh_mk, zR_mk, zI_mk, zL_mk, zD_mk, wI_mk, wL_mk, wD_mk, zT_mk, zC_mk, kill_i, kill_r, kill_0, kill_n, kill_l, kill_q, zzk_r, zzk_0, zzk_q, zcat_r, zcat_i, zcat_0, cats_0, cats_i, cats_r, cats_l, cats_d, cats_f, rv_s, rv_0, Nat.reduceAdd, Nat.reduceLeDiff, Nat.add_zero, Nat.reduceMul, Nat.reduceSub, ne_eq, not_false_eq_true, not_true_eq_false, and_self, and_true, true_and, or_self, or_true, true_or, or_false, false_or, if_true, if_false, reduceIte, reduceCtorEq, implies_true, ite_self, ite_not, kM, c161 hr, pI, eq_false h0, i00, c162 (c := 1) (z := 1) rfl (by omega) hr, c163 hT hF, e]
theorem c170 {p : Prop} [Decidable p] {c : Nat} {z : Int} (hz : z = (c : Int)) (hc : c ≠ 0) (hr : P.2.2.2.1 ≤ 5) : Wp (d + 2) 170 0 [some (.ref 294), some (.int (pI p)), some (.int (Int32.ofInt z))] [] (mk N t w (pR P J) L D) Q = Q (.inl none) (mk N t w (pR (if p then flT c P else P) J) L D) := by
  by_cases h0 : P.2.2.2.1 = 0
  · by_cases hp : p
    · simp only [w170_0, w170_1, w170_4, w170_7, w170_8, w170_11, w170_12, w170_13, w170_16, kn_s, kn_n, zh_mk, zR_mk, zI_mk, zL_mk, zD_mk, wI_mk, wL_mk, wD_mk, zT_mk, zC_mk, kill_i, kill_r, kill_0, kill_n, kill_l, kill_q, zzk_r, zzk_0, zzk_q, zcat_r, zcat_i, zcat_0, cats_0, cats_i, cats_r, cats_l, cats_d, cats_f, rv_s, rv_0, Nat.reduceAdd, Nat.reduceLeDiff, Nat.add_zero, Nat.reduceMul, Nat.reduceSub, ne_eq, not_false_eq_true, not_true_eq_false, and_self, and_true, true_and, or_self, or_true, true_or, or_false, false_or, if_true, if_false, reduceIte, reduceCtorEq, implies_true, ite_self, ite_not, kM, c161 hr, pI, eq_true h0, i10, eq_true hp, c162 hz hc hr]
    · simp only [w170_0, w170_1, w170_4, w170_7, w170_8, w170_11, w170_12, w170_13, w170_16, kn_s, kn_n, zh_mk, zR_mk, zI_mk, zL_mk, zD_mk, wI_mk, wL_mk, wD_mk, zT_mk, zC_mk, kill_i, kill_r, kill_0, kill_n, kill_l, kill_q, zzk_r, zzk_0, zzk_q, zcat_r, zcat_i, zcat_0, cats_0, cats_i, cats_r, cats_l, cats_d, cats_f, rv_s, rv_0, Nat.reduceAdd, Nat.reduceLeDiff, Nat.add_zero, Nat.reduceMul, Nat.reduceSub, ne_eq, not_false_eq_true, not_true_eq_false, and_self, and_true, true_and, or_self, or_true, true_or, or_false, false_or, if_true, if_false, reduceIte, reduceCtorEq, implies_true, ite_self, ite_not, kM, c161 hr, pI, eq_true h0, i10, eq_false hp, i00]
  · have e : (if p then flT c P else P) = P := by
      split
      · exact flT_x h0
      · rfl
    simp only [w170_0, w170_1, w170_4, w170_7, w170_8, w170_11, w170_12, w170_13, w170_16, kn_s, kn_n, zh_mk, zR_mk, zI_mk, zL_mk, zD_mk, wI_mk, wL_mk, wD_mk, zT_mk, zC_mk, kill_i, kill_r, kill_0, kill_n, kill_l, kill_q, zzk_r, zzk_0, zzk_q, zcat_r, zcat_i, zcat_0, cats_0, cats_i, cats_r, cats_l, cats_d, cats_f, rv_s, rv_0, Nat.reduceAdd, Nat.reduceLeDiff, Nat.add_zero, Nat.reduceMul, Nat.reduceSub, ne_eq, not_false_eq_true, not_true_eq_false, and_self, and_true, true_and, or_self, or_true, true_or, or_false, false_or, if_true, if_false, reduceIte, reduceCtorEq, implies_true, ite_self, ite_not, kM, c161 hr, pI, eq_false h0, i00, e]
theorem c171 (hw : RW w) (hT : TR f n J) (hW : WF f n P) (hG : GA α bn bm o) : Wp (d + 3) 171 0 [some (.ref 294), none] [] (mk N t w (pR P J) (sR L w (r64 α)) D) Q = Q (.inl (some (.int (Int32.ofInt (rvT f 0 (α 0 - 1) P))))) (mk N t w (pR (tcT f n α bn bm P) J) (sR L w (r64 α)) D) := by
  have h0 : 10 ≤ α 0 ∧ α 0 ≤ 200 := ⟨hG.1.2.2.1, hG.1.2.2.2.1⟩
  have hC : WF f n (chT f 0 (α 0 - 1) P) := WF_ch hW
  have hv := cv_b (lo := 0) hW (by omega)
  have hrv : 0 ≤ rvT f 0 (α 0 - 1) P ∧ rvT f 0 (α 0 - 1) P < 20000000 := by
    unfold rvT
    split <;> omega
  have est : ∀ p : Prop, ∀ _ : Decidable p, (p ↔ ¬ isF α bn bm (rvT f 0 (α 0 - 1) P)) → (if p then flT 4 (chT f 0 (α 0 - 1) P) else chT f 0 (α 0 - 1) P) = (if isF α bn bm (cvT f 0 P) then chT f 0 (α 0 - 1) P else flT 4 (chT f 0 (α 0 - 1) P)) := by
    intro p _ hp
    by_cases he : (chT f 0 (α 0 - 1) P).2.2.2.1 = 0
    · have e1 : rvT f 0 (α 0 - 1) P = cvT f 0 P := by unfold rvT; rw [if_pos he]
      rw [e1] at hp
      by_cases q : isF α bn bm (cvT f 0 P)
      · rw [if_neg (fun z => hp.1 z q), if_pos q]
      · rw [if_pos (hp.2 q), if_neg q]
    · rw [flT_x he]
      split <;> split <;> rfl
  by_cases q : isF α bn bm (rvT f 0 (α 0 - 1) P)
  · have e := est False inferInstance ⟨fun z => z.elim, fun z => z q⟩
    rw [if_neg (fun z => z)] at e
    have l := fun (Q : Rs → St → Prop) => c170 (d := d) (N := N) (t := t) (w := w) (J := J) (L := sR L w (r64 α)) (D := D) (Q := Q) (p := False) (c := 4) (z := 4) rfl (by omega) (WF_e hC)
    simp only [pI, if_false] at l
    unfold tcT
    rw [← e]
    simp only [w171_0, w171_1, w171_2, w171_3, w171_6, w171_7, w171_8, w171_11, w171_12, w171_13, w171_14, w171_15, w171_18, w171_21, w171_22, w171_25, w171_26, w171_27, w171_30, w171_31, w171_34, w171_35, kn_s, kn_n, zh_mk, zR_mk, zI_mk, zL_mk, zD_mk, wI_mk, wL_mk, wD_mk, zT_mk, zC_mk, kill_i, kill_r, kill_0, kill_n, kill_l, kill_q, zzk_r, zzk_0, zzk_q, zcat_r, zcat_i, zcat_0, cats_0, cats_i, cats_r, cats_l, cats_d, cats_f, rv_s, rv_0, Nat.reduceAdd, Nat.reduceLeDiff, Nat.add_zero, Nat.reduceMul, Nat.reduceSub, ne_eq, not_false_eq_true, not_true_eq_false, and_self, and_true, true_and, or_self, or_true, true_or, or_false, false_or, if_true, if_false, reduceIte, reduceCtorEq, implies_true, ite_self, ite_not, kM, kMr, kRow hw, sR_at, up2_r64, r64_at, o_add, o_sub, o_mul, o_neg, q_add, q_sub, q_mul, q_neg, o_32, cast_s, Int.toNat_natCast, c172 hw, c165 hW (lo := 0) (hi := α 0 - 1) (by omega) (by omega), c173 hw hG.1 hG.2.1 (c := rvT f 0 (α 0 - 1) P) (by omega), pI, eq_true q, i10, l, c163 hT hC]
  · have e := est True inferInstance ⟨fun _ => q, fun _ => trivial⟩
    rw [if_pos trivial] at e
    have l := fun (Q : Rs → St → Prop) => c170 (d := d) (N := N) (t := t) (w := w) (J := J) (L := sR L w (r64 α)) (D := D) (Q := Q) (p := True) (c := 4) (z := 4) rfl (by omega) (WF_e hC)
    simp only [pI, if_true] at l
    have hF : WF f n (flT 4 (chT f 0 (α 0 - 1) P)) := WF_fl (by omega) hC
    unfold tcT
    rw [← e]
    simp only [w171_0, w171_1, w171_2, w171_3, w171_6, w171_7, w171_8, w171_11, w171_12, w171_13, w171_14, w171_15, w171_18, w171_21, w171_22, w171_25, w171_26, w171_27, w171_30, w171_31, w171_34, w171_35, kn_s, kn_n, zh_mk, zR_mk, zI_mk, zL_mk, zD_mk, wI_mk, wL_mk, wD_mk, zT_mk, zC_mk, kill_i, kill_r, kill_0, kill_n, kill_l, kill_q, zzk_r, zzk_0, zzk_q, zcat_r, zcat_i, zcat_0, cats_0, cats_i, cats_r, cats_l, cats_d, cats_f, rv_s, rv_0, Nat.reduceAdd, Nat.reduceLeDiff, Nat.add_zero, Nat.reduceMul, Nat.reduceSub, ne_eq, not_false_eq_true, not_true_eq_false, and_self, and_true, true_and, or_self, or_true, true_or, or_false, false_or, if_true, if_false, reduceIte, reduceCtorEq, implies_true, ite_self, ite_not, kM, kMr, kRow hw, sR_at, up2_r64, r64_at, o_add, o_sub, o_mul, o_neg, q_add, q_sub, q_mul, q_neg, o_32, cast_s, Int.toNat_natCast, c172 hw, c165 hW (lo := 0) (hi := α 0 - 1) (by omega) (by omega), c173 hw hG.1 hG.2.1 (c := rvT f 0 (α 0 - 1) P) (by omega), pI, eq_false q, i00, l, c163 hT hF]
theorem c180 (hT : TR f n J) (hS : SW J) (hW : WF f n P) {a : Nat} (ha : 1 ≤ a ∧ a < 8) {lo hi : Int} (hlo : 0 ≤ lo ∧ lo ≤ hi) (hhi : hi < 9999) : Wp (d + 6) 180 0 [some (.ref 294), some (.ref a), some (.int (Int32.ofInt lo)), some (.int (Int32.ofInt hi))] [] (mk N t w (pR P J) L D) Q = Q (.inl (some (.int (Int32.ofInt (rvT f lo hi (twT f n a P)))))) (mk N t w (pR (nxT f n (chT f lo hi (twT f n a P))) J) L D) := by
  have hX : WF f n (twT f n a P) := WF_twT hW
  simp only [w180_0, w180_1, w180_2, w180_5, w180_6, w180_7, w180_8, w180_11, kn_s, kn_n, zh_mk, zR_mk, zI_mk, zL_mk, zD_mk, wI_mk, wL_mk, wD_mk, zT_mk, zC_mk, kill_i, kill_r, kill_0, kill_n, kill_l, kill_q, zzk_r, zzk_0, zzk_q, zcat_r, zcat_i, zcat_0, cats_0, cats_i, cats_r, cats_l, cats_d, cats_f, rv_s, rv_0, Nat.reduceAdd, Nat.reduceLeDiff, Nat.add_zero, Nat.reduceMul, Nat.reduceSub, ne_eq, not_false_eq_true, not_true_eq_false, and_self, and_true, true_and, or_self, or_true, true_or, or_false, false_or, if_true, if_false, reduceIte, reduceCtorEq, implies_true, ite_self, ite_not, kM, c159 hT hS hW ha, c164 hT hX hlo hhi]
theorem c182 (hT : TR f n J) (hS : SW J) (hW : WF f n P) (h0 : P.2.2.2.1 = 0) : Wp (d + 5) 182 0 [some (.ref 294), none] [] (mk N t w (pR P J) L D) Q = Q (.inl (some (.int (pI (kwT f P = true))))) (mk N t w (pR P J) L D) := by
  have c : ∀ a : Nat, 1 ≤ a ∧ a < 8 → ∀ Q, Wp (d + 4) 160 0 [some (.ref 294), some (.ref a), none, none] [] (mk N t w (pR P J) L D) Q = Q (.inl (some (.int (pI (iw f a P = true))))) (mk N t w (pR P J) L D) := fun a ha Q => by
    rw [c160 hT hS hW ha]
    simp only [h0, true_and]
  by_cases h1 : iw f 1 P = true
  · simp only [w182_0, w182_1, w182_4, w182_7, w182_10, w182_11, w182_14, w182_17, w182_20, w182_21, w182_24, w182_27, w182_30, w182_31, w182_34, w182_37, w182_40, w182_41, w182_44, w182_45, w182_46, w182_47, w182_50, w182_51, w182_54, w182_57, w182_60, w182_61, w182_64, w182_67, w182_70, w182_71, w182_74, w182_77, w182_80, w182_81, w182_84, w182_85, kn_s, kn_n, zh_mk, zR_mk, zI_mk, zL_mk, zD_mk, wI_mk, wL_mk, wD_mk, zT_mk, zC_mk, kill_i, kill_r, kill_0, kill_n, kill_l, kill_q, zzk_r, zzk_0, zzk_q, zcat_r, zcat_i, zcat_0, cats_0, cats_i, cats_r, cats_l, cats_d, cats_f, rv_s, rv_0, Nat.reduceAdd, Nat.reduceLeDiff, Nat.add_zero, Nat.reduceMul, Nat.reduceSub, ne_eq, not_false_eq_true, not_true_eq_false, and_self, and_true, true_and, or_self, or_true, true_or, or_false, false_or, if_true, if_false, reduceIte, reduceCtorEq, implies_true, ite_self, ite_not, nz0, nz1, kM, c 1 (by omega), c 2 (by omega), c 3 (by omega), c 4 (by omega), c 5 (by omega), c 6 (by omega), c 7 (by omega), pI, kwT, h1, i10, i00, Bool.true_or, Bool.or_true, Bool.false_or, Bool.false_eq_true]
  · rw [Bool.not_eq_true] at h1
    by_cases h2 : iw f 2 P = true
    · simp only [w182_0, w182_1, w182_4, w182_7, w182_10, w182_11, w182_14, w182_17, w182_20, w182_21, w182_24, w182_27, w182_30, w182_31, w182_34, w182_37, w182_40, w182_41, w182_44, w182_45, w182_46, w182_47, w182_50, w182_51, w182_54, w182_57, w182_60, w182_61, w182_64, w182_67, w182_70, w182_71, w182_74, w182_77, w182_80, w182_81, w182_84, w182_85, kn_s, kn_n, zh_mk, zR_mk, zI_mk, zL_mk, zD_mk, wI_mk, wL_mk, wD_mk, zT_mk, zC_mk, kill_i, kill_r, kill_0, kill_n, kill_l, kill_q, zzk_r, zzk_0, zzk_q, zcat_r, zcat_i, zcat_0, cats_0, cats_i, cats_r, cats_l, cats_d, cats_f, rv_s, rv_0, Nat.reduceAdd, Nat.reduceLeDiff, Nat.add_zero, Nat.reduceMul, Nat.reduceSub, ne_eq, not_false_eq_true, not_true_eq_false, and_self, and_true, true_and, or_self, or_true, true_or, or_false, false_or, if_true, if_false, reduceIte, reduceCtorEq, implies_true, ite_self, ite_not, nz0, nz1, kM, c 1 (by omega), c 2 (by omega), c 3 (by omega), c 4 (by omega), c 5 (by omega), c 6 (by omega), c 7 (by omega), pI, kwT, h1, h2, i10, i00, Bool.true_or, Bool.or_true, Bool.false_or, Bool.false_eq_true]
    · rw [Bool.not_eq_true] at h2
      by_cases h3 : iw f 3 P = true
      · simp only [w182_0, w182_1, w182_4, w182_7, w182_10, w182_11, w182_14, w182_17, w182_20, w182_21, w182_24, w182_27, w182_30, w182_31, w182_34, w182_37, w182_40, w182_41, w182_44, w182_45, w182_46, w182_47, w182_50, w182_51, w182_54, w182_57, w182_60, w182_61, w182_64, w182_67, w182_70, w182_71, w182_74, w182_77, w182_80, w182_81, w182_84, w182_85, kn_s, kn_n, zh_mk, zR_mk, zI_mk, zL_mk, zD_mk, wI_mk, wL_mk, wD_mk, zT_mk, zC_mk, kill_i, kill_r, kill_0, kill_n, kill_l, kill_q, zzk_r, zzk_0, zzk_q, zcat_r, zcat_i, zcat_0, cats_0, cats_i, cats_r, cats_l, cats_d, cats_f, rv_s, rv_0, Nat.reduceAdd, Nat.reduceLeDiff, Nat.add_zero, Nat.reduceMul, Nat.reduceSub, ne_eq, not_false_eq_true, not_true_eq_false, and_self, and_true, true_and, or_self, or_true, true_or, or_false, false_or, if_true, if_false, reduceIte, reduceCtorEq, implies_true, ite_self, ite_not, nz0, nz1, kM, c 1 (by omega), c 2 (by omega), c 3 (by omega), c 4 (by omega), c 5 (by omega), c 6 (by omega), c 7 (by omega), pI, kwT, h1, h2, h3, i10, i00, Bool.true_or, Bool.or_true, Bool.false_or, Bool.false_eq_true]
      · rw [Bool.not_eq_true] at h3
        by_cases h4 : iw f 4 P = true
        · simp only [w182_0, w182_1, w182_4, w182_7, w182_10, w182_11, w182_14, w182_17, w182_20, w182_21, w182_24, w182_27, w182_30, w182_31, w182_34, w182_37, w182_40, w182_41, w182_44, w182_45, w182_46, w182_47, w182_50, w182_51, w182_54, w182_57, w182_60, w182_61, w182_64, w182_67, w182_70, w182_71, w182_74, w182_77, w182_80, w182_81, w182_84, w182_85, kn_s, kn_n, zh_mk, zR_mk, zI_mk, zL_mk, zD_mk, wI_mk, wL_mk, wD_mk, zT_mk, zC_mk, kill_i, kill_r, kill_0, kill_n, kill_l, kill_q, zzk_r, zzk_0, zzk_q, zcat_r, zcat_i, zcat_0, cats_0, cats_i, cats_r, cats_l, cats_d, cats_f, rv_s, rv_0, Nat.reduceAdd, Nat.reduceLeDiff, Nat.add_zero, Nat.reduceMul, Nat.reduceSub, ne_eq, not_false_eq_true, not_true_eq_false, and_self, and_true, true_and, or_self, or_true, true_or, or_false, false_or, if_true, if_false, reduceIte, reduceCtorEq, implies_true, ite_self, ite_not, nz0, nz1, kM, c 1 (by omega), c 2 (by omega), c 3 (by omega), c 4 (by omega), c 5 (by omega), c 6 (by omega), c 7 (by omega), pI, kwT, h1, h2, h3, h4, i10, i00, Bool.true_or, Bool.or_true, Bool.false_or, Bool.false_eq_true]
        · rw [Bool.not_eq_true] at h4
          by_cases h5 : iw f 5 P = true
          · simp only [w182_0, w182_1, w182_4, w182_7, w182_10, w182_11, w182_14, w182_17, w182_20, w182_21, w182_24, w182_27, w182_30, w182_31, w182_34, w182_37, w182_40, w182_41, w182_44, w182_45, w182_46, w182_47, w182_50, w182_51, w182_54, w182_57, w182_60, w182_61, w182_64, w182_67, w182_70, w182_71, w182_74, w182_77, w182_80, w182_81, w182_84, w182_85, kn_s, kn_n, zh_mk, zR_mk, zI_mk, zL_mk, zD_mk, wI_mk, wL_mk, wD_mk, zT_mk, zC_mk, kill_i, kill_r, kill_0, kill_n, kill_l, kill_q, zzk_r, zzk_0, zzk_q, zcat_r, zcat_i, zcat_0, cats_0, cats_i, cats_r, cats_l, cats_d, cats_f, rv_s, rv_0, Nat.reduceAdd, Nat.reduceLeDiff, Nat.add_zero, Nat.reduceMul, Nat.reduceSub, ne_eq, not_false_eq_true, not_true_eq_false, and_self, and_true, true_and, or_self, or_true, true_or, or_false, false_or, if_true, if_false, reduceIte, reduceCtorEq, implies_true, ite_self, ite_not, nz0, nz1, kM, c 1 (by omega), c 2 (by omega), c 3 (by omega), c 4 (by omega), c 5 (by omega), c 6 (by omega), c 7 (by omega), pI, kwT, h1, h2, h3, h4, h5, i10, i00, Bool.true_or, Bool.or_true, Bool.false_or, Bool.false_eq_true]
          · rw [Bool.not_eq_true] at h5
            by_cases h6 : iw f 6 P = true
            · simp only [w182_0, w182_1, w182_4, w182_7, w182_10, w182_11, w182_14, w182_17, w182_20, w182_21, w182_24, w182_27, w182_30, w182_31, w182_34, w182_37, w182_40, w182_41, w182_44, w182_45, w182_46, w182_47, w182_50, w182_51, w182_54, w182_57, w182_60, w182_61, w182_64, w182_67, w182_70, w182_71, w182_74, w182_77, w182_80, w182_81, w182_84, w182_85, kn_s, kn_n, zh_mk, zR_mk, zI_mk, zL_mk, zD_mk, wI_mk, wL_mk, wD_mk, zT_mk, zC_mk, kill_i, kill_r, kill_0, kill_n, kill_l, kill_q, zzk_r, zzk_0, zzk_q, zcat_r, zcat_i, zcat_0, cats_0, cats_i, cats_r, cats_l, cats_d, cats_f, rv_s, rv_0, Nat.reduceAdd, Nat.reduceLeDiff, Nat.add_zero, Nat.reduceMul, Nat.reduceSub, ne_eq, not_false_eq_true, not_true_eq_false, and_self, and_true, true_and, or_self, or_true, true_or, or_false, false_or, if_true, if_false, reduceIte, reduceCtorEq, implies_true, ite_self, ite_not, nz0, nz1, kM, c 1 (by omega), c 2 (by omega), c 3 (by omega), c 4 (by omega), c 5 (by omega), c 6 (by omega), c 7 (by omega), pI, kwT, h1, h2, h3, h4, h5, h6, i10, i00, Bool.true_or, Bool.or_true, Bool.false_or, Bool.false_eq_true]
            · rw [Bool.not_eq_true] at h6
              by_cases h7 : iw f 7 P = true
              · simp only [w182_0, w182_1, w182_4, w182_7, w182_10, w182_11, w182_14, w182_17, w182_20, w182_21, w182_24, w182_27, w182_30, w182_31, w182_34, w182_37, w182_40, w182_41, w182_44, w182_45, w182_46, w182_47, w182_50, w182_51, w182_54, w182_57, w182_60, w182_61, w182_64, w182_67, w182_70, w182_71, w182_74, w182_77, w182_80, w182_81, w182_84, w182_85, kn_s, kn_n, zh_mk, zR_mk, zI_mk, zL_mk, zD_mk, wI_mk, wL_mk, wD_mk, zT_mk, zC_mk, kill_i, kill_r, kill_0, kill_n, kill_l, kill_q, zzk_r, zzk_0, zzk_q, zcat_r, zcat_i, zcat_0, cats_0, cats_i, cats_r, cats_l, cats_d, cats_f, rv_s, rv_0, Nat.reduceAdd, Nat.reduceLeDiff, Nat.add_zero, Nat.reduceMul, Nat.reduceSub, ne_eq, not_false_eq_true, not_true_eq_false, and_self, and_true, true_and, or_self, or_true, true_or, or_false, false_or, if_true, if_false, reduceIte, reduceCtorEq, implies_true, ite_self, ite_not, nz0, nz1, kM, c 1 (by omega), c 2 (by omega), c 3 (by omega), c 4 (by omega), c 5 (by omega), c 6 (by omega), c 7 (by omega), pI, kwT, h1, h2, h3, h4, h5, h6, h7, i10, i00, Bool.true_or, Bool.or_true, Bool.false_or, Bool.false_eq_true]
              · rw [Bool.not_eq_true] at h7
                simp only [w182_0, w182_1, w182_4, w182_7, w182_10, w182_11, w182_14, w182_17, w182_20, w182_21, w182_24, w182_27, w182_30, w182_31, w182_34, w182_37, w182_40, w182_41, w182_44, w182_45, w182_46, w182_47, w182_50, w182_51, w182_54, w182_57, w182_60, w182_61, w182_64, w182_67, w182_70, w182_71, w182_74, w182_77, w182_80, w182_81, w182_84, w182_85, kn_s, kn_n, zh_mk, zR_mk, zI_mk, zL_mk, zD_mk, wI_mk, wL_mk, wD_mk, zT_mk, zC_mk, kill_i, kill_r, kill_0, kill_n, kill_l, kill_q, zzk_r, zzk_0, zzk_q, zcat_r, zcat_i, zcat_0, cats_0, cats_i, cats_r, cats_l, cats_d, cats_f, rv_s, rv_0, Nat.reduceAdd, Nat.reduceLeDiff, Nat.add_zero, Nat.reduceMul, Nat.reduceSub, ne_eq, not_false_eq_true, not_true_eq_false, and_self, and_true, true_and, or_self, or_true, true_or, or_false, false_or, if_true, if_false, reduceIte, reduceCtorEq, implies_true, ite_self, ite_not, nz0, nz1, kM, c 1 (by omega), c 2 (by omega), c 3 (by omega), c 4 (by omega), c 5 (by omega), c 6 (by omega), c 7 (by omega), pI, kwT, h1, h2, h3, h4, h5, h6, h7, i10, i00, Bool.false_or, Bool.false_eq_true]
theorem c185 (hT : TR f n J) (hS : SW J) (hW : WF f n P) : Wp (d + 6) 185 0 [some (.ref 294), none, none] [] (mk N t w (pR P J) L D) Q = Q (.inl (some (.int (Int32.ofInt (rsT f n (twT f n 6 P)))))) (mk N t w (pR (tsT f n (twT f n 6 P)) J) L D) := by
  have hX : WF f n (twT f n 6 P) := WF_twT hW
  have l1 := fun Q => c159 (d := d) (N := N) (t := t) (w := w) (L := L) (D := D) (Q := Q) (a := 6) hT hS hW (by omega)
  generalize twT f n 6 P = p at hX l1 ⊢
  have hr := WF_e hX
  have hk := WF_k hX
  have hN : WF f n (nxT f n p) := WF_nx hX
  unfold tsT tsP rsT
  by_cases h0 : p.2.2.2.1 = 0
  · by_cases h3 : p.2.2.1 = 3
    · have h3' : (p.2.2.1 : Int) = 3 := by omega
      obtain ⟨hv, hb⟩ := sy_v (c := 45) hT hX (by omega) h3
      by_cases q : syT f 45 p = true
      · have q' : p.2.2.2.2 = 45 := by rw [hv]; exact q
        simp only [w185_0, w185_1, w185_4, w185_7, w185_8, w185_11, w185_14, w185_15, w185_18, w185_19, w185_22, w185_23, w185_26, w185_28, w185_31, w185_32, w185_35, w185_36, w185_37, w185_38, w185_41, w185_42, w185_45, w185_46, w185_47, w185_49, w185_52, w185_53, w185_54, w185_57, w185_58, w185_59, w185_62, w185_63, kn_s, kn_n, zh_mk, zR_mk, zI_mk, zL_mk, zD_mk, wI_mk, wL_mk, wD_mk, zT_mk, zC_mk, kill_i, kill_r, kill_0, kill_n, kill_l, kill_q, zzk_r, zzk_0, zzk_q, zcat_r, zcat_i, zcat_0, cats_0, cats_i, cats_r, cats_l, cats_d, cats_f, rv_s, rv_0, Nat.reduceAdd, Nat.reduceLeDiff, Nat.add_zero, Nat.reduceMul, Nat.reduceSub, ne_eq, not_false_eq_true, not_true_eq_false, and_self, and_true, true_and, or_self, or_true, true_or, or_false, false_or, if_true, if_false, reduceIte, reduceCtorEq, implies_true, ite_self, ite_not, o_neg, kM, l1, c161 hr, pI, eq_true h0, i10, pR_17, pR_18, o_eq (a := (p.2.2.1 : Int)) (b := 3) (by omega), eq_true h3', o_eq (a := p.2.2.2.2) (b := 45) (by omega), eq_true q', eq_true q, c163 hT hX, c164 hT hN (lo := 0) (hi := 60) (by omega) (by omega), and_self]
      · have q' : ¬ (p.2.2.2.2 = 45) := by rw [hv]; exact q
        simp only [w185_0, w185_1, w185_4, w185_7, w185_8, w185_11, w185_14, w185_15, w185_18, w185_19, w185_22, w185_23, w185_26, w185_28, w185_31, w185_32, w185_35, w185_36, w185_37, w185_38, w185_41, w185_42, w185_45, w185_46, w185_47, w185_49, w185_52, w185_53, w185_54, w185_57, w185_58, w185_59, w185_62, w185_63, kn_s, kn_n, zh_mk, zR_mk, zI_mk, zL_mk, zD_mk, wI_mk, wL_mk, wD_mk, zT_mk, zC_mk, kill_i, kill_r, kill_0, kill_n, kill_l, kill_q, zzk_r, zzk_0, zzk_q, zcat_r, zcat_i, zcat_0, cats_0, cats_i, cats_r, cats_l, cats_d, cats_f, rv_s, rv_0, Nat.reduceAdd, Nat.reduceLeDiff, Nat.add_zero, Nat.reduceMul, Nat.reduceSub, ne_eq, not_false_eq_true, not_true_eq_false, and_self, and_true, true_and, or_self, or_true, true_or, or_false, false_or, if_true, if_false, reduceIte, reduceCtorEq, implies_true, ite_self, ite_not, kM, l1, c161 hr, pI, eq_true h0, i10, i00, pR_17, pR_18, o_eq (a := (p.2.2.1 : Int)) (b := 3) (by omega), eq_true h3', o_eq (a := p.2.2.2.2) (b := 45) (by omega), eq_false q', eq_false q, and_false, c164 hT hX (lo := 0) (hi := 60) (by omega) (by omega)]
    · have h3' : ¬ ((p.2.2.1 : Int) = 3) := by omega
      have q : ¬ (syT f 45 p = true) := by
        unfold syT
        rw [decide_eq_true_eq]
        exact fun z => h3 z.1
      simp only [w185_0, w185_1, w185_4, w185_7, w185_8, w185_11, w185_14, w185_15, w185_18, w185_19, w185_22, w185_23, w185_26, w185_28, w185_31, w185_32, w185_35, w185_36, w185_37, w185_38, w185_41, w185_42, w185_45, w185_46, w185_47, w185_49, w185_52, w185_53, w185_54, w185_57, w185_58, w185_59, w185_62, w185_63, kn_s, kn_n, zh_mk, zR_mk, zI_mk, zL_mk, zD_mk, wI_mk, wL_mk, wD_mk, zT_mk, zC_mk, kill_i, kill_r, kill_0, kill_n, kill_l, kill_q, zzk_r, zzk_0, zzk_q, zcat_r, zcat_i, zcat_0, cats_0, cats_i, cats_r, cats_l, cats_d, cats_f, rv_s, rv_0, Nat.reduceAdd, Nat.reduceLeDiff, Nat.add_zero, Nat.reduceMul, Nat.reduceSub, ne_eq, not_false_eq_true, not_true_eq_false, and_self, and_true, true_and, or_self, or_true, true_or, or_false, false_or, if_true, if_false, reduceIte, reduceCtorEq, implies_true, ite_self, ite_not, kM, l1, c161 hr, pI, eq_true h0, i10, i00, pR_17, o_eq (a := (p.2.2.1 : Int)) (b := 3) (by omega), eq_false h3', eq_false q, and_false, c164 hT hX (lo := 0) (hi := 60) (by omega) (by omega)]
  · have e : (if syT f 45 p = true then nxT f n p else p) = p := by
      split
      · exact nxT_x h0
      · rfl
    simp only [w185_0, w185_1, w185_4, w185_7, w185_8, w185_11, w185_14, w185_15, w185_18, w185_19, w185_22, w185_23, w185_26, w185_28, w185_31, w185_32, w185_35, w185_36, w185_37, w185_38, w185_41, w185_42, w185_45, w185_46, w185_47, w185_49, w185_52, w185_53, w185_54, w185_57, w185_58, w185_59, w185_62, w185_63, kn_s, kn_n, zh_mk, zR_mk, zI_mk, zL_mk, zD_mk, wI_mk, wL_mk, wD_mk, zT_mk, zC_mk, kill_i, kill_r, kill_0, kill_n, kill_l, kill_q, zzk_r, zzk_0, zzk_q, zcat_r, zcat_i, zcat_0, cats_0, cats_i, cats_r, cats_l, cats_d, cats_f, rv_s, rv_0, Nat.reduceAdd, Nat.reduceLeDiff, Nat.add_zero, Nat.reduceMul, Nat.reduceSub, ne_eq, not_false_eq_true, not_true_eq_false, and_self, and_true, true_and, or_self, or_true, true_or, or_false, false_or, if_true, if_false, reduceIte, reduceCtorEq, implies_true, ite_self, ite_not, kM, l1, c161 hr, pI, eq_false h0, i00, false_and, e, c164 hT hX (lo := 0) (hi := 60) (by omega) (by omega)]
end S85
