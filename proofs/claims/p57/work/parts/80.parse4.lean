/-! THE PARSER of the class: a post more, statements -/
def poA (α : Nat → Int) (m : Nat) (c s : Int) : Nat → Int := up1 (up1 (up1 α 2 (α 2 + 1)) (P3 m 0) c) (P3 m 1) s
def poL (ℓ : Nat → Nat → Int32) (m : Nat) (x y : Int32) : Nat → Nat → Int32 := up2 (up2 (up2 (up2 ℓ (m + 23) 0 x) (m + 23) 1 y) (m + 23) 2 (Int32.ofInt 0)) 0 6 (Int32.ofInt ((m + 1 : Nat) : Int))
section S80
variable {N : NX} {w : WX} {d t b n bn bm : Nat} {f : Nat → Int} {I J ℓ : Nat → Nat → Int32} {L μ : Nat → Nat → Int64} {D : Nat → Nat → UInt64} {Q : Rs → St → Prop} {P : PS} {α : Nat → Int} {o : Nat → Nat}
theorem poA_ne {m k : Nat} {c s : Int} (h : k ≠ 2 ∧ k ≠ P3 m 0 ∧ k ≠ P3 m 1) : poA α m c s k = α k := by
  unfold poA
  rw [up1_ne h.2.2, up1_ne h.2.1, up1_ne h.1]
theorem poA_2 {m : Nat} {c s : Int} : poA α m c s 2 = α 2 + 1 := by
  unfold poA
  rw [up1_ne (by unfold P3; omega), up1_ne (by unfold P3; omega), up1_eq']
theorem poA_0 {m : Nat} {c s : Int} : poA α m c s (P3 m 0) = c := by
  unfold poA
  rw [up1_ne (by unfold P3; omega), up1_eq']
theorem poA_1 {m : Nat} {c s : Int} : poA α m c s (P3 m 1) = s := by
  unfold poA
  rw [up1_eq']
theorem RL_post (h : RL ℓ μ α bn bm o) (hm : bm < 4) {c s : Int} (h2 : α (P3 bm 2) = 0) : RL (poL ℓ bm (Int32.ofInt c) (Int32.ofInt s)) μ (poA α bm c s) bn (bm + 1) o := by
  obtain ⟨g1, ⟨g2, g3⟩, ⟨g4, g5, g6⟩, g7, nx, g8, g9, g10, g11⟩ := h
  have far : ∀ a k, a ≠ bm + 23 → (a ≠ 0 ∨ k ≠ 6) → poL ℓ bm (Int32.ofInt c) (Int32.ofInt s) a k = ℓ a k := by
    intro a k q1 q2
    unfold poL
    rw [u2_ne q2, u2_ne (Or.inl q1), u2_ne (Or.inl q1), u2_ne (Or.inl q1)]
  have z : ∀ k, k ≠ 2 → (k < 16 ∨ 28 ≤ k) → poA α bm c s k = α k := fun k h1 h2 => poA_ne (by unfold P3; omega)
  refine ⟨fun k hk => ?_, ⟨by rw [far _ _ (by omega) (by omega)]; exact g2, by unfold poL; rw [u2_same]⟩, ⟨by rw [z 5 (by omega) (by omega)]; exact g4, by rw [z 6 (by omega) (by omega)]; exact g5, by rw [z 7 (by omega) (by omega)]; exact g6⟩, fun k hk => by rw [far _ _ (by omega) (by omega)]; exact g7 k hk, nx, g8, by rw [far _ _ (by omega) (by omega)]; exact g9, by rw [far _ _ (by omega) (by omega), z 4 (by omega) (by omega)]; exact g10, fun k q1 q2 c' hc' => ?_⟩
  · by_cases hb : 16 + 3 * bm ≤ k ∧ k < 19 + 3 * bm
    · have e1 : mo k = bm + 23 := by unfold mo; rw [if_neg (by omega), if_neg (by omega), if_neg (by omega), if_neg (by omega), if_pos (by omega)]; omega
      have e2 : mq k = k - 16 - 3 * bm := by unfold mq; rw [if_neg (by omega), if_neg (by omega), if_neg (by omega), if_neg (by omega), if_neg (by omega), if_pos (by omega)]; omega
      rw [e1, e2]
      have : k = P3 bm 0 ∨ k = P3 bm 1 ∨ k = P3 bm 2 := by unfold P3; omega
      rcases this with e | e | e
      · rw [e, poA_0, show P3 bm 0 - 16 - 3 * bm = 0 by unfold P3; omega]
        unfold poL
        rw [u2_ne (by omega), u2_ne (by omega), u2_ne (by omega), u2_same]
      · rw [e, poA_1, show P3 bm 1 - 16 - 3 * bm = 1 by unfold P3; omega]
        unfold poL
        rw [u2_ne (by omega), u2_ne (by omega), u2_same]
      · rw [e, poA_ne (by unfold P3; omega), h2, show P3 bm 2 - 16 - 3 * bm = 2 by unfold P3; omega]
        unfold poL
        rw [u2_ne (by omega), u2_same]
    · have hk' : kd bn bm k := by unfold kd at hk ⊢; omega
      have hk2 : k ≠ 2 := by unfold kd at hk'; omega
      rw [poA_ne (by unfold P3; omega)]
      have hn : mo k ≠ bm + 23 := by
        unfold mo
        by_cases q1 : k < 8
        · rw [if_pos q1]; omega
        · rw [if_neg q1]
          by_cases q2 : k = 8 ∨ k = 10
          · rw [if_pos q2]; omega
          · rw [if_neg q2]
            by_cases q3 : k = 9 ∨ k = 11
            · rw [if_pos q3]; omega
            · rw [if_neg q3]
              by_cases q4 : k < 16
              · rw [if_pos q4]; omega
              · rw [if_neg q4]
                by_cases q5 : k < 28
                · rw [if_pos q5]; omega
                · rw [if_neg q5]
                  by_cases q6 : k < 118
                  · rw [if_pos q6]; unfold kd at hk'; omega
                  · rw [if_neg q6]; omega
      have h06 : mo k ≠ 0 ∨ mq k ≠ 6 := by
        by_cases q1 : k < 8
        · refine Or.inr ?_
          unfold mq
          split
          · omega
          · first
            | omega
            | (rw [if_pos q1]; omega)
        · refine Or.inl ?_
          unfold mo
          rw [if_neg q1]
          split
          · omega
          · split
            · omega
            · split
              · omega
              · split
                · omega
                · split <;> omega
      rw [far _ _ hn h06]
      exact g1 k hk'
  · have hj : (nx + 39 - k) % 40 < 40 := Nat.mod_lt _ (by omega)
    rw [z 4 (by omega) (by omega)] at q1
    rw [far _ _ (by omega) (by omega), z _ (by omega) (by omega)]
    exact g11 k q1 q2 c' hc'
theorem GA_post (hG : GA α bn bm o) (hm : bm < 4) {c s : Int} (hF : isF α bn bm c) (hs : 0 ≤ s ∧ s ≤ 100) : GA (poA α bm c s) bn (bm + 1) o := by
  obtain ⟨⟨a1, a2, a3, a4, a5⟩, ⟨b1, b2, b3⟩, c1, d1, d2, d3, d4⟩ := hG
  have z : ∀ k, k ≠ 2 → (k < 16 ∨ 28 ≤ k) → poA α bm c s k = α k := fun k h1 h2 => poA_ne (by unfold P3; omega)
  have zb : ∀ i k, poA α bm c s (B9 i k) = α (B9 i k) := fun i k => z _ (by unfold B9; omega) (by unfold B9; omega)
  have zp : ∀ p k, p < bm → k < 3 → poA α bm c s (P3 p k) = α (P3 p k) := fun p k h1 h2 => poA_ne (by unfold P3; omega)
  have hF1 := hF.1
  have bf := bAt_ne hF.2.1
  refine ⟨⟨a1, by rw [z 1 (by omega) (by omega)]; exact a2, by rw [z 0 (by omega) (by omega)]; exact a3, by rw [z 0 (by omega) (by omega)]; exact a4, fun i hi => by rw [zb, zb, zb, zb, z 0 (by omega) (by omega)]; exact a5 i hi⟩, ⟨by omega, by rw [poA_2, b2]; rfl, fun p hp => ?_⟩, by rw [z 8 (by omega) (by omega), z 9 (by omega) (by omega), z 4 (by omega) (by omega)]; exact c1, d1, fun p q h1 h2 => by rw [zb, zb]; exact d2 p q h1 h2, d3, fun i hi p hp => ?_⟩
  · rw [z 0 (by omega) (by omega)]
    by_cases e : p = bm
    · rw [e, poA_0, poA_1]
      unfold isC at hF1
      omega
    · rw [zp p 0 (by omega) (by omega), zp p 1 (by omega) (by omega)]
      exact b3 p (by omega)
  · rw [zb]
    by_cases e : p = bm
    · rw [e, poA_0]; exact bf i hi
    · rw [zp p 0 (by omega) (by omega)]; exact d4 i hi p (by omega)
theorem c28 (hb : LB b) (hR : RL ℓ μ α bn bm o) (hm : bm < 4) {x y : Int32} : Wp (d + 1) 28 0 [some (.ref b), some (.int x), some (.int y)] [] (mk N t w (lay b ℓ I) L D) Q = Q (.inl none) (mk N t w (lay b (poL ℓ bm x y) I) L D) := by
  have em := rd_m hR
  have g : ¬ (4 ≤ (bm : Int)) := by omega
  have g' : (bm : Int) < 4 := by omega
  simp only [w28_0, w28_1, w28_4, w28_5, w28_8, w28_9, w28_12, w28_13, w28_16, w28_17, w28_18, w28_19, w28_22, w28_23, w28_24, w28_27, w28_28, w28_29, w28_32, w11_0, w11_1, w11_2, w11_5, w11_6, w11_7, w11_10, w11_11, w11_12, w11_15, kn_s, kn_n, zh_mk, zR_mk, zI_mk, zL_mk, zD_mk, wI_mk, wL_mk, wD_mk, zT_mk, zC_mk, kill_i, kill_r, kill_0, kill_n, kill_l, kill_q, zzk_r, zzk_0, zzk_q, zcat_r, zcat_i, zcat_0, zcat_q, cats_0, cats_i, cats_r, cats_l, cats_d, cats_f, cats_q, cats_n, rv_s, rv_0, Nat.reduceAdd, Nat.reduceLeDiff, Nat.reduceEqDiff, Nat.add_zero, Nat.reduceMul, Nat.reduceSub, ne_eq, not_false_eq_true, not_true_eq_false, and_self, and_true, true_and, or_self, or_true, true_or, or_false, false_or, if_true, if_false, reduceIte, reduceCtorEq, implies_true, ite_self, ite_not, lay_in, lay_0, up2_lay, up2_lay0, kh0, kh1, kh2, kh3, kh4, kh5, kh6, kh7, kh8, kh9, kh10, kh11, kh12, khB, khP, kr2, kr4, kr5, kr7, kr8, kr9, kr10, krB, krP, krG0, krG1, krG2, krG3, krK, Nat.reduceLT, o_add, o_sub, o_mul, o_neg, q_add, q_sub, q_mul, q_neg, o_32, cast_s, Int.toNat_natCast, hb, em, o_lt (a := (bm : Int)) (b := 4) (by omega), g', hm, show bm + 23 < 27 by omega, o_ixn (j := bm) (n := 4) (by omega), o_tnn (j := bm) (by omega), u2_ne (show (0 : Nat) ≠ bm + 23 ∨ (6 : Nat) ≠ 2 by omega), u2_ne (show (0 : Nat) ≠ bm + 23 ∨ (6 : Nat) ≠ 1 by omega), u2_ne (show (0 : Nat) ≠ bm + 23 ∨ (6 : Nat) ≠ 0 by omega), poL]
theorem c28r (hb : LB b) (hR : RL (gl b I) (gl b L) α bn bm o) (hm : bm < 4) {x y : Int32} : Wp (d + 1) 28 0 [some (.ref b), some (.int x), some (.int y)] [] (mk N t w I L D) Q = Q (.inl none) (mk N t w (lay b (poL (gl b I) bm x y) I) L D) := by
  have := c28 (d := d) (N := N) (t := t) (w := w) (ℓ := gl b I) (I := I) (L := L) (D := D) (Q := Q) (x := x) (y := y) hb hR hm
  rw [lay_gl] at this
  exact this
theorem c29r (hb : LB b) (hR : RL (gl b I) (gl b L) α bn bm o) (hG : GA α bn bm o) (hN : ∀ i, i < bn → 0 ≤ α (B9 i 8) ∧ α (B9 i 8) < 2147483648) {c : Int} (hc : -2147483648 ≤ c ∧ c < 2147483648) : Wp d 29 0 [some (.ref b), some (.int (Int32.ofInt c)), none] [] (mk N t w I L D) Q = Q (.inl (some (.int (Int32.ofInt (nmF α bn c))))) (mk N t w I L D) := by
  have := c29 (d := d) (N := N) (t := t) (w := w) (ℓ := gl b I) (I := I) (L := L) (D := D) (Q := Q) hb hR hG hN hc
  rw [lay_gl] at this
  exact this
theorem RL_pC (h : RL (gl 46 J) (gl 46 L) α bn bm o) : RL (gl 46 (pC P J)) (gl 46 L) α bn bm o := RL_ext h (fun a ha k => pC_o (by omega)) (fun _ _ _ => rfl)
theorem pC_lay {ℓ : Nat → Nat → Int32} : lay 46 ℓ (pC P J) = pC P (lay 46 ℓ J) := by
  funext a q
  by_cases h : a = 73
  · subst h
    rw [lay_out (by omega)]
    unfold pC
    rw [if_pos rfl, if_pos rfl, lay_out (by omega)]
  · rw [pC_o h]
    unfold lay
    split
    · rfl
    · rw [pC_o h]
theorem LB_tr : LB 46 := by unfold LB; decide
/-- a cell -/
def tcT (f : Nat → Int) (n : Nat) (α : Nat → Int) (bn bm : Nat) (P : PS) : PS := nxT f n (if isF α bn bm (cvT f 0 P) then chT f 0 (α 0 - 1) P else flT 4 (chT f 0 (α 0 - 1) P))
theorem WF_tc (hW : WF f n P) : WF f n (tcT f n α bn bm P) := by
  unfold tcT
  split
  · exact WF_nx (WF_ch hW)
  · exact WF_nx (WF_fl (by omega) (WF_ch hW))
theorem c75 (hT : TC f n J) (hW : WF f n P) (hR : RL (gl 46 J) (gl 46 L) α bn bm o) (hG : GA α bn bm o) : Wp (d + 2) 75 0 [some (.ref 73), none] [] (mk N t w (pC P J) L D) Q = Q (.inl (some (.int (Int32.ofInt (cvT f 0 P))))) (mk N t w (pC (tcT f n α bn bm P) J) L D) := by
  have h0 : 10 ≤ α 0 ∧ α 0 ≤ 200 := ⟨hG.1.2.2.1, hG.1.2.2.2.1⟩
  have hC : WF f n (chT f 0 (α 0 - 1) P) := WF_ch hW
  have hF : WF f n (flT 4 (chT f 0 (α 0 - 1) P)) := WF_fl (by omega) hC
  have e0 : pC P J 46 0 = Int32.ofInt (α 0) := rd_0 (RL_pC hR)
  have hv := cv_b (lo := 0) hW (by omega)
  unfold tcT
  by_cases h : isF α bn bm (cvT f 0 P)
  · have h' : ¬ ¬ isF α bn bm (cvT f 0 P) := fun q => q h
    simp only [w75_0, w75_1, w75_2, w75_3, w75_6, w75_9, w75_10, w75_11, w75_14, w75_15, w75_16, w75_19, w75_20, w75_23, w75_26, w75_27, w75_28, w75_31, w75_32, w75_35, w75_36, kn_s, kn_n, zh_mk, zR_mk, zI_mk, zL_mk, zD_mk, wI_mk, wL_mk, wD_mk, zT_mk, zC_mk, kill_i, kill_r, kill_0, kill_n, kill_l, kill_q, zzk_r, zzk_0, zzk_q, zcat_r, zcat_i, zcat_0, zcat_q, cats_0, cats_i, cats_r, cats_l, cats_d, cats_f, cats_q, cats_n, rv_s, rv_0, Nat.reduceAdd, Nat.reduceLeDiff, Nat.reduceEqDiff, Nat.add_zero, Nat.reduceMul, Nat.reduceSub, ne_eq, not_false_eq_true, not_true_eq_false, and_self, and_true, true_and, or_self, or_true, true_or, or_false, false_or, if_true, if_false, reduceIte, reduceCtorEq, implies_true, ite_self, ite_not, lay_in, lay_0, up2_lay, up2_lay0, kh0, kh1, kh2, kh3, kh4, kh5, kh6, kh7, kh8, kh9, kh10, kh11, kh12, khB, khP, kr2, kr4, kr5, kr7, kr8, kr9, kr10, krB, krP, krG0, krG1, krG2, krG3, krK, Nat.reduceLT, o_add, o_sub, o_mul, o_neg, q_add, q_sub, q_mul, q_neg, o_32, cast_s, Int.toNat_natCast, LB_tr, k73, kr73_1, e0, c71 hT hW (lo := 0) (hi := α 0 - 1) (by omega) (by omega), c25r LB_tr (RL_pC hR) hG (c := cvT f 0 P) (by omega), pI, eq_true h, not_true_eq_false, i00, c64 hT hC.1.2 (WF_e hC)]
  · simp only [w75_0, w75_1, w75_2, w75_3, w75_6, w75_9, w75_10, w75_11, w75_14, w75_15, w75_16, w75_19, w75_20, w75_23, w75_26, w75_27, w75_28, w75_31, w75_32, w75_35, w75_36, kn_s, kn_n, zh_mk, zR_mk, zI_mk, zL_mk, zD_mk, wI_mk, wL_mk, wD_mk, zT_mk, zC_mk, kill_i, kill_r, kill_0, kill_n, kill_l, kill_q, zzk_r, zzk_0, zzk_q, zcat_r, zcat_i, zcat_0, zcat_q, cats_0, cats_i, cats_r, cats_l, cats_d, cats_f, cats_q, cats_n, rv_s, rv_0, Nat.reduceAdd, Nat.reduceLeDiff, Nat.reduceEqDiff, Nat.add_zero, Nat.reduceMul, Nat.reduceSub, ne_eq, not_false_eq_true, not_true_eq_false, and_self, and_true, true_and, or_self, or_true, true_or, or_false, false_or, if_true, if_false, reduceIte, reduceCtorEq, implies_true, ite_self, ite_not, lay_in, lay_0, up2_lay, up2_lay0, kh0, kh1, kh2, kh3, kh4, kh5, kh6, kh7, kh8, kh9, kh10, kh11, kh12, khB, khP, kr2, kr4, kr5, kr7, kr8, kr9, kr10, krB, krP, krG0, krG1, krG2, krG3, krK, Nat.reduceLT, o_add, o_sub, o_mul, o_neg, q_add, q_sub, q_mul, q_neg, o_32, cast_s, Int.toNat_natCast, LB_tr, k73, kr73_1, e0, c71 hT hW (lo := 0) (hi := α 0 - 1) (by omega) (by omega), c25r LB_tr (RL_pC hR) hG (c := cvT f 0 P) (by omega), pI, eq_false h, not_false_eq_true, i10, c69 (c := 4) (z := 4) rfl (WF_e hC), c64 hT hF.1.2 (WF_e hF)]
/-- a keyword -/
def kwT (f : Nat → Int) (P : PS) : Bool := iw f 1 P || (iw f 2 P || (iw f 3 P || (iw f 4 P || (iw f 5 P || (iw f 6 P || iw f 7 P)))))
theorem c79 (hT : TC f n J) (hS : SW J) (hW : WF f n P) : Wp (d + 5) 79 0 [some (.ref 73)] [] (mk N t w (pC P J) L D) Q = Q (.inl (some (.int (pI (kwT f P = true))))) (mk N t w (pC P J) L D) := by
  have c : ∀ a : Nat, 1 ≤ a ∧ a < 8 → ∀ Q, Wp (d + 4) 68 0 [some (.ref 73), some (.ref a), none] [] (mk N t w (pC P J) L D) Q = Q (.inl (some (.int (pI (iw f a P = true))))) (mk N t w (pC P J) L D) := fun a ha Q => c68 hT hS hW ha
  by_cases h1 : iw f 1 P = true
  · simp only [w79_0, w79_1, w79_3, w79_6, w79_9, w79_10, w79_12, w79_15, w79_18, w79_19, w79_21, w79_24, w79_27, w79_28, w79_30, w79_33, w79_36, w79_37, w79_39, w79_42, w79_45, w79_46, w79_48, w79_51, w79_54, w79_55, w79_57, w79_60, w79_63, w79_64, w79_67, w79_68, kn_s, kn_n, zh_mk, zR_mk, zI_mk, zL_mk, zD_mk, wI_mk, wL_mk, wD_mk, zT_mk, zC_mk, kill_i, kill_r, kill_0, kill_n, kill_l, kill_q, zzk_r, zzk_0, zzk_q, zcat_r, zcat_i, zcat_0, zcat_q, cats_0, cats_i, cats_r, cats_l, cats_d, cats_f, cats_q, cats_n, rv_s, rv_0, Nat.reduceAdd, Nat.reduceLeDiff, Nat.reduceEqDiff, Nat.add_zero, Nat.reduceMul, Nat.reduceSub, ne_eq, not_false_eq_true, not_true_eq_false, and_self, and_true, true_and, or_self, or_true, true_or, or_false, false_or, if_true, if_false, reduceIte, reduceCtorEq, implies_true, ite_self, ite_not, nz0, nz1, k73, c 1 (by omega), pI, kwT, h1, i10, i00, Bool.true_or, Bool.or_true, Bool.false_or]
  · rw [Bool.not_eq_true] at h1
    by_cases h2 : iw f 2 P = true
    · simp only [w79_0, w79_1, w79_3, w79_6, w79_9, w79_10, w79_12, w79_15, w79_18, w79_19, w79_21, w79_24, w79_27, w79_28, w79_30, w79_33, w79_36, w79_37, w79_39, w79_42, w79_45, w79_46, w79_48, w79_51, w79_54, w79_55, w79_57, w79_60, w79_63, w79_64, w79_67, w79_68, kn_s, kn_n, zh_mk, zR_mk, zI_mk, zL_mk, zD_mk, wI_mk, wL_mk, wD_mk, zT_mk, zC_mk, kill_i, kill_r, kill_0, kill_n, kill_l, kill_q, zzk_r, zzk_0, zzk_q, zcat_r, zcat_i, zcat_0, zcat_q, cats_0, cats_i, cats_r, cats_l, cats_d, cats_f, cats_q, cats_n, rv_s, rv_0, Nat.reduceAdd, Nat.reduceLeDiff, Nat.reduceEqDiff, Nat.add_zero, Nat.reduceMul, Nat.reduceSub, ne_eq, not_false_eq_true, not_true_eq_false, and_self, and_true, true_and, or_self, or_true, true_or, or_false, false_or, if_true, if_false, reduceIte, reduceCtorEq, implies_true, ite_self, ite_not, nz0, nz1, k73, c 1 (by omega), c 2 (by omega), pI, kwT, h1, h2, i10, i00, Bool.true_or, Bool.or_true, Bool.false_or]
    · rw [Bool.not_eq_true] at h2
      by_cases h3 : iw f 3 P = true
      · simp only [w79_0, w79_1, w79_3, w79_6, w79_9, w79_10, w79_12, w79_15, w79_18, w79_19, w79_21, w79_24, w79_27, w79_28, w79_30, w79_33, w79_36, w79_37, w79_39, w79_42, w79_45, w79_46, w79_48, w79_51, w79_54, w79_55, w79_57, w79_60, w79_63, w79_64, w79_67, w79_68, kn_s, kn_n, zh_mk, zR_mk, zI_mk, zL_mk, zD_mk, wI_mk, wL_mk, wD_mk, zT_mk, zC_mk, kill_i, kill_r, kill_0, kill_n, kill_l, kill_q, zzk_r, zzk_0, zzk_q, zcat_r, zcat_i, zcat_0, zcat_q, cats_0, cats_i, cats_r, cats_l, cats_d, cats_f, cats_q, cats_n, rv_s, rv_0, Nat.reduceAdd, Nat.reduceLeDiff, Nat.reduceEqDiff, Nat.add_zero, Nat.reduceMul, Nat.reduceSub, ne_eq, not_false_eq_true, not_true_eq_false, and_self, and_true, true_and, or_self, or_true, true_or, or_false, false_or, if_true, if_false, reduceIte, reduceCtorEq, implies_true, ite_self, ite_not, nz0, nz1, k73, c 1 (by omega), c 2 (by omega), c 3 (by omega), pI, kwT, h1, h2, h3, i10, i00, Bool.true_or, Bool.or_true, Bool.false_or]
      · rw [Bool.not_eq_true] at h3
        by_cases h4 : iw f 4 P = true
        · simp only [w79_0, w79_1, w79_3, w79_6, w79_9, w79_10, w79_12, w79_15, w79_18, w79_19, w79_21, w79_24, w79_27, w79_28, w79_30, w79_33, w79_36, w79_37, w79_39, w79_42, w79_45, w79_46, w79_48, w79_51, w79_54, w79_55, w79_57, w79_60, w79_63, w79_64, w79_67, w79_68, kn_s, kn_n, zh_mk, zR_mk, zI_mk, zL_mk, zD_mk, wI_mk, wL_mk, wD_mk, zT_mk, zC_mk, kill_i, kill_r, kill_0, kill_n, kill_l, kill_q, zzk_r, zzk_0, zzk_q, zcat_r, zcat_i, zcat_0, zcat_q, cats_0, cats_i, cats_r, cats_l, cats_d, cats_f, cats_q, cats_n, rv_s, rv_0, Nat.reduceAdd, Nat.reduceLeDiff, Nat.reduceEqDiff, Nat.add_zero, Nat.reduceMul, Nat.reduceSub, ne_eq, not_false_eq_true, not_true_eq_false, and_self, and_true, true_and, or_self, or_true, true_or, or_false, false_or, if_true, if_false, reduceIte, reduceCtorEq, implies_true, ite_self, ite_not, nz0, nz1, k73, c 1 (by omega), c 2 (by omega), c 3 (by omega), c 4 (by omega), pI, kwT, h1, h2, h3, h4, i10, i00, Bool.true_or, Bool.or_true, Bool.false_or]
        · rw [Bool.not_eq_true] at h4
          by_cases h5 : iw f 5 P = true
          · simp only [w79_0, w79_1, w79_3, w79_6, w79_9, w79_10, w79_12, w79_15, w79_18, w79_19, w79_21, w79_24, w79_27, w79_28, w79_30, w79_33, w79_36, w79_37, w79_39, w79_42, w79_45, w79_46, w79_48, w79_51, w79_54, w79_55, w79_57, w79_60, w79_63, w79_64, w79_67, w79_68, kn_s, kn_n, zh_mk, zR_mk, zI_mk, zL_mk, zD_mk, wI_mk, wL_mk, wD_mk, zT_mk, zC_mk, kill_i, kill_r, kill_0, kill_n, kill_l, kill_q, zzk_r, zzk_0, zzk_q, zcat_r, zcat_i, zcat_0, zcat_q, cats_0, cats_i, cats_r, cats_l, cats_d, cats_f, cats_q, cats_n, rv_s, rv_0, Nat.reduceAdd, Nat.reduceLeDiff, Nat.reduceEqDiff, Nat.add_zero, Nat.reduceMul, Nat.reduceSub, ne_eq, not_false_eq_true, not_true_eq_false, and_self, and_true, true_and, or_self, or_true, true_or, or_false, false_or, if_true, if_false, reduceIte, reduceCtorEq, implies_true, ite_self, ite_not, nz0, nz1, k73, c 1 (by omega), c 2 (by omega), c 3 (by omega), c 4 (by omega), c 5 (by omega), pI, kwT, h1, h2, h3, h4, h5, i10, i00, Bool.true_or, Bool.or_true, Bool.false_or]
          · rw [Bool.not_eq_true] at h5
            by_cases h6 : iw f 6 P = true
            · simp only [w79_0, w79_1, w79_3, w79_6, w79_9, w79_10, w79_12, w79_15, w79_18, w79_19, w79_21, w79_24, w79_27, w79_28, w79_30, w79_33, w79_36, w79_37, w79_39, w79_42, w79_45, w79_46, w79_48, w79_51, w79_54, w79_55, w79_57, w79_60, w79_63, w79_64, w79_67, w79_68, kn_s, kn_n, zh_mk, zR_mk, zI_mk, zL_mk, zD_mk, wI_mk, wL_mk, wD_mk, zT_mk, zC_mk, kill_i, kill_r, kill_0, kill_n, kill_l, kill_q, zzk_r, zzk_0, zzk_q, zcat_r, zcat_i, zcat_0, zcat_q, cats_0, cats_i, cats_r, cats_l, cats_d, cats_f, cats_q, cats_n, rv_s, rv_0, Nat.reduceAdd, Nat.reduceLeDiff, Nat.reduceEqDiff, Nat.add_zero, Nat.reduceMul, Nat.reduceSub, ne_eq, not_false_eq_true, not_true_eq_false, and_self, and_true, true_and, or_self, or_true, true_or, or_false, false_or, if_true, if_false, reduceIte, reduceCtorEq, implies_true, ite_self, ite_not, nz0, nz1, k73, c 1 (by omega), c 2 (by omega), c 3 (by omega), c 4 (by omega), c 5 (by omega), c 6 (by omega), pI, kwT, h1, h2, h3, h4, h5, h6, i10, i00, Bool.true_or, Bool.or_true, Bool.false_or]
            · rw [Bool.not_eq_true] at h6
              by_cases h7 : iw f 7 P = true
              · simp only [w79_0, w79_1, w79_3, w79_6, w79_9, w79_10, w79_12, w79_15, w79_18, w79_19, w79_21, w79_24, w79_27, w79_28, w79_30, w79_33, w79_36, w79_37, w79_39, w79_42, w79_45, w79_46, w79_48, w79_51, w79_54, w79_55, w79_57, w79_60, w79_63, w79_64, w79_67, w79_68, kn_s, kn_n, zh_mk, zR_mk, zI_mk, zL_mk, zD_mk, wI_mk, wL_mk, wD_mk, zT_mk, zC_mk, kill_i, kill_r, kill_0, kill_n, kill_l, kill_q, zzk_r, zzk_0, zzk_q, zcat_r, zcat_i, zcat_0, zcat_q, cats_0, cats_i, cats_r, cats_l, cats_d, cats_f, cats_q, cats_n, rv_s, rv_0, Nat.reduceAdd, Nat.reduceLeDiff, Nat.reduceEqDiff, Nat.add_zero, Nat.reduceMul, Nat.reduceSub, ne_eq, not_false_eq_true, not_true_eq_false, and_self, and_true, true_and, or_self, or_true, true_or, or_false, false_or, if_true, if_false, reduceIte, reduceCtorEq, implies_true, ite_self, ite_not, nz0, nz1, k73, c 1 (by omega), c 2 (by omega), c 3 (by omega), c 4 (by omega), c 5 (by omega), c 6 (by omega), c 7 (by omega), pI, kwT, h1, h2, h3, h4, h5, h6, h7, i10, i00, Bool.true_or, Bool.or_true, Bool.false_or]
              · rw [Bool.not_eq_true] at h7
                simp only [w79_0, w79_1, w79_3, w79_6, w79_9, w79_10, w79_12, w79_15, w79_18, w79_19, w79_21, w79_24, w79_27, w79_28, w79_30, w79_33, w79_36, w79_37, w79_39, w79_42, w79_45, w79_46, w79_48, w79_51, w79_54, w79_55, w79_57, w79_60, w79_63, w79_64, w79_67, w79_68, kn_s, kn_n, zh_mk, zR_mk, zI_mk, zL_mk, zD_mk, wI_mk, wL_mk, wD_mk, zT_mk, zC_mk, kill_i, kill_r, kill_0, kill_n, kill_l, kill_q, zzk_r, zzk_0, zzk_q, zcat_r, zcat_i, zcat_0, zcat_q, cats_0, cats_i, cats_r, cats_l, cats_d, cats_f, cats_q, cats_n, rv_s, rv_0, Nat.reduceAdd, Nat.reduceLeDiff, Nat.reduceEqDiff, Nat.add_zero, Nat.reduceMul, Nat.reduceSub, ne_eq, not_false_eq_true, not_true_eq_false, and_self, and_true, true_and, or_self, or_true, true_or, or_false, false_or, if_true, if_false, reduceIte, reduceCtorEq, implies_true, ite_self, ite_not, nz0, nz1, k73, c 1 (by omega), c 2 (by omega), c 3 (by omega), c 4 (by omega), c 5 (by omega), c 6 (by omega), c 7 (by omega), pI, kwT, h1, h2, h3, h4, h5, h6, h7, i10, i00, Bool.false_or, Bool.false_eq_true]
/-- a name -/
def nm1 (f : Nat → Int) (P : PS) : PS := if pkN f P.1 P.2.1 = 0 ∨ kwT f P = true then flT 1 P else P
def nm2 (f : Nat → Int) (α : Nat → Int) (bn : Nat) (P : PS) : PS := if nmF α bn (pkN f P.1 P.2.1) = -1 then nm1 f P else flT 3 (nm1 f P)
def nmT (f : Nat → Int) (n : Nat) (α : Nat → Int) (bn : Nat) (P : PS) : PS := nxT f n (nm2 f α bn P)
theorem WF_nm1 (hW : WF f n P) : WF f n (nm1 f P) := by
  unfold nm1
  split
  · exact WF_fl (by omega) hW
  · exact hW
theorem WF_nm2 (hW : WF f n P) : WF f n (nm2 f α bn P) := by
  unfold nm2
  split
  · exact WF_nm1 hW
  · exact WF_fl (by omega) (WF_nm1 hW)
theorem nmF_b {z : Int} (h : bn ≤ 10) : -1 ≤ nmF α bn z ∧ nmF α bn z < 10 := by
  unfold nmF
  split
  · omega
  · have := pFind_rng (f := fun i => α (B9 i 8)) (c := z) bn 0
    omega
theorem c77 (hT : TC f n J) (hS : SW J) (hW : WF f n P) (hR : RL (gl 46 J) (gl 46 L) α bn bm o) (hG : GA α bn bm o) (hN : ∀ i, i < bn → 0 ≤ α (B9 i 8) ∧ α (B9 i 8) < 2147483648) : Wp (d + 6) 77 0 [some (.ref 73), none] [] (mk N t w (pC P J) L D) Q = Q (.inl (some (.int (Int32.ofInt (pkN f P.1 P.2.1))))) (mk N t w (pC (nmT f n α bn P) J) L D) := by
  have h4 := hT.1
  have h1 := hW.1
  have hp := pkN_b (f := f) (a := P.1) (e := P.2.1)
  have hnm := nmF_b (α := α) (bn := bn) (z := pkN f P.1 P.2.1) hG.1.1
  have W1 : WF f n (nm1 f P) := WF_nm1 hW
  have W2 : WF f n (nm2 f α bn P) := WF_nm2 hW
  have l78 := fun (Q : Rs → St → Prop) => c78 (d := d + 5) (N := N) (t := t) (w := w) (I := pC P J) (L := L) (D := D) (Q := Q) (A := 16) (f := f) (a := P.1) (e := P.2.1) k16 h1.1 (by omega) (fun j hj => by rw [pC_o (by omega)]; exact hT.2.2 j (by omega))
  have tail : ∀ (P1 : PS), WF f n P1 → Wp (d + 6) 77 32 [some (.ref 73), some (.int (Int32.ofInt (pkN f P.1 P.2.1)))] [] (mk N t w (pC P1 J) L D) Q = Q (.inl (some (.int (Int32.ofInt (pkN f P.1 P.2.1))))) (mk N t w (pC (nxT f n (if nmF α bn (pkN f P.1 P.2.1) = -1 then P1 else flT 3 P1)) J) L D) := by
    intro P1 hP1
    have hF : WF f n (flT 3 P1) := WF_fl (by omega) hP1
    by_cases h : nmF α bn (pkN f P.1 P.2.1) = -1
    · simp only [w77_32, w77_33, w77_36, w77_37, w77_40, w77_41, w77_44, w77_45, w77_46, w77_49, w77_50, w77_53, w77_54, kn_s, kn_n, zh_mk, zR_mk, zI_mk, zL_mk, zD_mk, wI_mk, wL_mk, wD_mk, zT_mk, zC_mk, kill_i, kill_r, kill_0, kill_n, kill_l, kill_q, zzk_r, zzk_0, zzk_q, zcat_r, zcat_i, zcat_0, zcat_q, cats_0, cats_i, cats_r, cats_l, cats_d, cats_f, cats_q, cats_n, rv_s, rv_0, Nat.reduceAdd, Nat.reduceLeDiff, Nat.reduceEqDiff, Nat.add_zero, Nat.reduceMul, Nat.reduceSub, ne_eq, not_false_eq_true, not_true_eq_false, and_self, and_true, true_and, or_self, or_true, true_or, or_false, false_or, if_true, if_false, reduceIte, reduceCtorEq, implies_true, ite_self, ite_not, lay_in, lay_0, up2_lay, up2_lay0, kh0, kh1, kh2, kh3, kh4, kh5, kh6, kh7, kh8, kh9, kh10, kh11, kh12, khB, khP, kr2, kr4, kr5, kr7, kr8, kr9, kr10, krB, krP, krG0, krG1, krG2, krG3, krK, Nat.reduceLT, o_add, o_sub, o_mul, o_neg, q_add, q_sub, q_mul, q_neg, o_32, cast_s, Int.toNat_natCast, LB_tr, k73, kr73_1, c29r LB_tr (RL_pC hR) hG hN (c := pkN f P.1 P.2.1) (by omega), o_eq (a := nmF α bn (pkN f P.1 P.2.1)) (b := -1) (by omega), eq_true h, c64 hT hP1.1.2 (WF_e hP1)]
    · simp only [w77_32, w77_33, w77_36, w77_37, w77_40, w77_41, w77_44, w77_45, w77_46, w77_49, w77_50, w77_53, w77_54, kn_s, kn_n, zh_mk, zR_mk, zI_mk, zL_mk, zD_mk, wI_mk, wL_mk, wD_mk, zT_mk, zC_mk, kill_i, kill_r, kill_0, kill_n, kill_l, kill_q, zzk_r, zzk_0, zzk_q, zcat_r, zcat_i, zcat_0, zcat_q, cats_0, cats_i, cats_r, cats_l, cats_d, cats_f, cats_q, cats_n, rv_s, rv_0, Nat.reduceAdd, Nat.reduceLeDiff, Nat.reduceEqDiff, Nat.add_zero, Nat.reduceMul, Nat.reduceSub, ne_eq, not_false_eq_true, not_true_eq_false, and_self, and_true, true_and, or_self, or_true, true_or, or_false, false_or, if_true, if_false, reduceIte, reduceCtorEq, implies_true, ite_self, ite_not, lay_in, lay_0, up2_lay, up2_lay0, kh0, kh1, kh2, kh3, kh4, kh5, kh6, kh7, kh8, kh9, kh10, kh11, kh12, khB, khP, kr2, kr4, kr5, kr7, kr8, kr9, kr10, krB, krP, krG0, krG1, krG2, krG3, krK, Nat.reduceLT, o_add, o_sub, o_mul, o_neg, q_add, q_sub, q_mul, q_neg, o_32, cast_s, Int.toNat_natCast, LB_tr, k73, kr73_1, c29r LB_tr (RL_pC hR) hG hN (c := pkN f P.1 P.2.1) (by omega), o_eq (a := nmF α bn (pkN f P.1 P.2.1)) (b := -1) (by omega), eq_false h, c69 (c := 3) (z := 3) rfl (WF_e hP1), c64 hT hF.1.2 (WF_e hF)]
  unfold nmT nm2
  by_cases h0 : pkN f P.1 P.2.1 = 0
  · have e1 : nm1 f P = flT 1 P := by unfold nm1; rw [if_pos (Or.inl h0)]
    have t1 := tail _ W1
    rw [e1] at t1 ⊢
    refine Eq.trans ?_ t1
    simp only [w77_0, w77_1, w77_4, w77_5, w77_8, w77_9, w77_12, w77_15, w77_16, w77_17, w77_20, w77_21, w77_24, w77_27, w77_28, w77_29, kn_s, kn_n, zh_mk, zR_mk, zI_mk, zL_mk, zD_mk, wI_mk, wL_mk, wD_mk, zT_mk, zC_mk, kill_i, kill_r, kill_0, kill_n, kill_l, kill_q, zzk_r, zzk_0, zzk_q, zcat_r, zcat_i, zcat_0, zcat_q, cats_0, cats_i, cats_r, cats_l, cats_d, cats_f, cats_q, cats_n, rv_s, rv_0, Nat.reduceAdd, Nat.reduceLeDiff, Nat.reduceEqDiff, Nat.add_zero, Nat.reduceMul, Nat.reduceSub, ne_eq, not_false_eq_true, not_true_eq_false, and_self, and_true, true_and, or_self, or_true, true_or, or_false, false_or, if_true, if_false, reduceIte, reduceCtorEq, implies_true, ite_self, ite_not, k73, kr73_0, pC_4, pC_5, l78, o_eq (a := pkN f P.1 P.2.1) (b := 0) (by omega), eq_true h0, c69 (c := 1) (z := 1) rfl (WF_e hW)]
  · by_cases hk : kwT f P = true
    · have e1 : nm1 f P = flT 1 P := by unfold nm1; rw [if_pos (Or.inr hk)]
      have t1 := tail _ W1
      rw [e1] at t1 ⊢
      refine Eq.trans ?_ t1
      simp only [w77_0, w77_1, w77_4, w77_5, w77_8, w77_9, w77_12, w77_15, w77_16, w77_17, w77_20, w77_21, w77_24, w77_27, w77_28, w77_29, kn_s, kn_n, zh_mk, zR_mk, zI_mk, zL_mk, zD_mk, wI_mk, wL_mk, wD_mk, zT_mk, zC_mk, kill_i, kill_r, kill_0, kill_n, kill_l, kill_q, zzk_r, zzk_0, zzk_q, zcat_r, zcat_i, zcat_0, zcat_q, cats_0, cats_i, cats_r, cats_l, cats_d, cats_f, cats_q, cats_n, rv_s, rv_0, Nat.reduceAdd, Nat.reduceLeDiff, Nat.reduceEqDiff, Nat.add_zero, Nat.reduceMul, Nat.reduceSub, ne_eq, not_false_eq_true, not_true_eq_false, and_self, and_true, true_and, or_self, or_true, true_or, or_false, false_or, if_true, if_false, reduceIte, reduceCtorEq, implies_true, ite_self, ite_not, k73, kr73_0, pC_4, pC_5, l78, o_eq (a := pkN f P.1 P.2.1) (b := 0) (by omega), eq_false h0, c79 hT hS hW, pI, eq_true hk, i10, c69 (c := 1) (z := 1) rfl (WF_e hW)]
    · have e1 : nm1 f P = P := by unfold nm1; rw [if_neg (fun q => q.elim h0 hk)]
      have t1 := tail _ W1
      rw [e1] at t1 ⊢
      refine Eq.trans ?_ t1
      simp only [w77_0, w77_1, w77_4, w77_5, w77_8, w77_9, w77_12, w77_15, w77_16, w77_17, w77_20, w77_21, w77_24, w77_27, w77_28, w77_29, kn_s, kn_n, zh_mk, zR_mk, zI_mk, zL_mk, zD_mk, wI_mk, wL_mk, wD_mk, zT_mk, zC_mk, kill_i, kill_r, kill_0, kill_n, kill_l, kill_q, zzk_r, zzk_0, zzk_q, zcat_r, zcat_i, zcat_0, zcat_q, cats_0, cats_i, cats_r, cats_l, cats_d, cats_f, cats_q, cats_n, rv_s, rv_0, Nat.reduceAdd, Nat.reduceLeDiff, Nat.reduceEqDiff, Nat.add_zero, Nat.reduceMul, Nat.reduceSub, ne_eq, not_false_eq_true, not_true_eq_false, and_self, and_true, true_and, or_self, or_true, true_or, or_false, false_or, if_true, if_false, reduceIte, reduceCtorEq, implies_true, ite_self, ite_not, k73, kr73_0, pC_4, pC_5, l78, o_eq (a := pkN f P.1 P.2.1) (b := 0) (by omega), eq_false h0, c79 hT hS hW, pI, eq_false hk, i00]
/-- a speed -/
def tsP (f : Nat → Int) (n : Nat) (P : PS) : PS := if syT f 45 P = true then nxT f n P else P
def tsV (f : Nat → Int) (n : Nat) (P : PS) : Int := if syT f 45 P = true then -cvT f 0 (nxT f n P) else cvT f 0 P
def tsT (f : Nat → Int) (n : Nat) (P : PS) : PS := nxT f n (chT f 0 60 (tsP f n P))
theorem c80 (hT : TC f n J) (hW : WF f n P) : Wp (d + 3) 80 0 [some (.ref 73), none, none] [] (mk N t w (pC P J) L D) Q = Q (.inl (some (.int (Int32.ofInt (tsV f n P))))) (mk N t w (pC (tsT f n P) J) L D) := by
  have hX : WF f n (nxT f n P) := WF_nx hW
  unfold tsT tsV tsP
  by_cases h : syT f 45 P = true
  · simp only [w80_0, w80_1, w80_3, w80_6, w80_7, w80_8, w80_11, w80_12, w80_15, w80_16, w80_17, w80_19, w80_22, w80_23, w80_24, w80_27, w80_28, w80_29, w80_32, w80_33, kn_s, kn_n, zh_mk, zR_mk, zI_mk, zL_mk, zD_mk, wI_mk, wL_mk, wD_mk, zT_mk, zC_mk, kill_i, kill_r, kill_0, kill_n, kill_l, kill_q, zzk_r, zzk_0, zzk_q, zcat_r, zcat_i, zcat_0, zcat_q, cats_0, cats_i, cats_r, cats_l, cats_d, cats_f, cats_q, cats_n, rv_s, rv_0, Nat.reduceAdd, Nat.reduceLeDiff, Nat.reduceEqDiff, Nat.add_zero, Nat.reduceMul, Nat.reduceSub, ne_eq, not_false_eq_true, not_true_eq_false, and_self, and_true, true_and, or_self, or_true, true_or, or_false, false_or, if_true, if_false, reduceIte, reduceCtorEq, implies_true, ite_self, ite_not, k73, c73 hT hW (c := 45) (by omega), pI, eq_true h, i10, c64 hT hW.1.2 (WF_e hW), c70 hT hX (lo := 0) (hi := 60) (by omega) (by omega), o_neg]
  · simp only [w80_0, w80_1, w80_3, w80_6, w80_7, w80_8, w80_11, w80_12, w80_15, w80_16, w80_17, w80_19, w80_22, w80_23, w80_24, w80_27, w80_28, w80_29, w80_32, w80_33, kn_s, kn_n, zh_mk, zR_mk, zI_mk, zL_mk, zD_mk, wI_mk, wL_mk, wD_mk, zT_mk, zC_mk, kill_i, kill_r, kill_0, kill_n, kill_l, kill_q, zzk_r, zzk_0, zzk_q, zcat_r, zcat_i, zcat_0, zcat_q, cats_0, cats_i, cats_r, cats_l, cats_d, cats_f, cats_q, cats_n, rv_s, rv_0, Nat.reduceAdd, Nat.reduceLeDiff, Nat.reduceEqDiff, Nat.add_zero, Nat.reduceMul, Nat.reduceSub, ne_eq, not_false_eq_true, not_true_eq_false, and_self, and_true, true_and, or_self, or_true, true_or, or_false, false_or, if_true, if_false, reduceIte, reduceCtorEq, implies_true, ite_self, ite_not, k73, c73 hT hW (c := 45) (by omega), pI, eq_false h, i00, c70 hT hW (lo := 0) (hi := 60) (by omega) (by omega)]
theorem WF_ts (hW : WF f n P) : WF f n (tsT f n P) := by
  unfold tsT tsP
  split
  · exact WF_nx (WF_ch (WF_nx hW))
  · exact WF_nx (WF_ch hW)
end S80
