/-! CLASS AND REFERENCE AGREE: load -/
theorem kr15_7 {w : Nat} : rv (KR w 15 7) = .ref 73 := nr rfl
theorem kr15_6 {w : Nat} : rv (KR w 15 6) = .ref 46 := nr rfl
theorem kr15_5 {w : Nat} : rv (KR w 15 5) = .ref 19 := nr rfl
def JR (I : Nat → Nat → Int32) (n : Nat) : Nat → Nat → Int32 := up2 (up2 (up2 I 294 0 (Int32.ofInt 0)) 294 14 (Int32.ofInt (n : Int))) 294 13 (Int32.ofInt 0)
/-- the draft's row when it is cleared -/
def zrw (L : Nat → Nat → Int64) : Nat → Int := fun k => if k < 378 then 0 else (L 296 k).toInt
section S90
variable {d N t w n : Nat} {f : Nat → Int} {I J : Nat → Nat → Int32} {L : Nat → Nat → Int64} {D : Nat → Nat → UInt64} {Q : Rs → St → Prop} {P : PS}
theorem JR_o {a k : Nat} (h : a ≠ 294 ∨ (k ≠ 0 ∧ k ≠ 14 ∧ k ≠ 13)) : JR I n a k = I a k := by
  unfold JR
  rw [u2_ne (by omega), u2_ne (by omega), u2_ne (by omega)]
theorem wR297 {I : Nat → Nat → Int32} : wR (mk N t w I L D) 294 3 297 = mk N t 296 I L D := wR_mk (x := 296)
theorem wR296 {I : Nat → Nat → Int32} : wR (mk N t w I L D) 294 3 296 = mk N t 295 I L D := wR_mk (x := 295)
theorem c155_a {p1 b1 b2 b3 b4 pE : PS} {l r v0 : Int} (hP : bxR f n (tok f n 0 v0) p1 b1 b2 b3 b4 pE l r) (hn : n ≤ 400) (e13 : I 294 13 = Int32.ofInt (n : Int)) (e18 : I 294 18 = Int32.ofInt v0) (hB : ∀ j, j < n → I 298 j = Int32.ofInt (f j) ∧ -128 ≤ f j ∧ f j < 128) (hS : SW I) : Wp (d + 9) 155 0 [some (.ref 294), none] [] (mk N t 295 I L D) Q = Wp (d + 9) 155 71 [some (.ref 294), some (.int (Int32.ofInt ((378 : Nat) : Int)))] [] (mk N t 296 (pR pE (JR I n)) (sR L 296 (r64 (bxZ f (zrw L) p1 b1 b2 b3))) D) Q := by
  obtain ⟨s0, es⟩ := o_natT (I 294 16)
  obtain ⟨k0, ek⟩ := o_natT (I 294 17)
  have hT : TR f n (JR I n) := ⟨hn, by unfold JR; rw [u2_ne (by omega), u2_same], fun j hj => by rw [JR_o (by omega)]; exact hB j hj⟩
  have hS' : SW (JR I n) := fun a h1 h2 j => by rw [JR_o (by omega)]; exact hS a h1 h2 j
  have eM : up2 (up2 (up2 (JR I n) 294 15 (Int32.ofInt 0)) 294 19 (Int32.ofInt 0)) 294 20 (Int32.ofInt (-1)) = pR (s0, 0, k0, 0, v0) (JR I n) := by
    funext a q
    unfold pR
    by_cases h : a = 294
    · subst h
      rw [if_pos rfl]
      by_cases h5 : q = 15
      · rw [if_pos h5, u2_ne (by omega), u2_ne (by omega), h5, u2_same]; rfl
      · rw [if_neg h5]
        by_cases h6 : q = 16
        · rw [if_pos h6, u2_ne (by omega), u2_ne (by omega), u2_ne (by omega), JR_o (by omega), h6]; exact es
        · rw [if_neg h6]
          by_cases h7 : q = 17
          · rw [if_pos h7, u2_ne (by omega), u2_ne (by omega), u2_ne (by omega), JR_o (by omega), h7]; exact ek
          · rw [if_neg h7]
            by_cases h8 : q = 18
            · rw [if_pos h8, u2_ne (by omega), u2_ne (by omega), u2_ne (by omega), JR_o (by omega), h8]; exact e18
            · rw [if_neg h8]
              by_cases h9 : q = 19
              · rw [if_pos h9, u2_ne (by omega), h9, u2_same]; rfl
              · rw [if_neg h9]
                by_cases h10 : q = 20
                · rw [if_pos h10, h10, u2_same]; rfl
                · rw [if_neg h10, u2_ne (by omega), u2_ne (by omega), u2_ne (by omega)]
    · rw [if_neg h, u2_ne (by omega), u2_ne (by omega), u2_ne (by omega)]
  have e13' : up2 I 294 0 (Int32.ofInt 0) 294 13 = Int32.ofInt (n : Int) := by rw [u2_ne (by omega)]; exact e13
  have eJ : up2 (up2 (up2 I 294 0 (Int32.ofInt 0)) 294 14 (Int32.ofInt (n : Int))) 294 13 (Int32.ofInt 0) = JR I n := rfl
  have hW : WF f n (tok f n 0 v0) := WF_tok (Nat.zero_le n)
  have l35 := c155_35 (d := d) (N := N) (t := t) (L := L) (D := D) (Q := Q) (F := L 296) (J := pR (s0, 0, k0, 0, v0) (JR I n)) 378 0 (by omega)
  have eL : sR L 296 (fun q => if q < 0 then Int64.ofInt 0 else L 296 q) = L := by
    funext a q
    unfold sR
    by_cases h : a = 296
    · rw [if_pos h, h]; dsimp only; rw [if_neg (by omega)]
    · rw [if_neg h]
  have eR : sR L 296 (fun q => if q < 378 then Int64.ofInt 0 else L 296 q) = sR L 296 (r64 (zrw L)) := by
    congr 1
    funext q
    show _ = Int64.ofInt (zrw L q)
    unfold zrw
    by_cases h : q < 378
    · rw [if_pos h, if_pos h]
    · rw [if_neg h, if_neg h, Int64.ofInt_toInt]
  rw [eL, eR] at l35
  have l156 := fun Q => c156 (d := d + 7) (N := N) (t := t) (w := 296) (J := JR I n) (L := sR L 296 (r64 (zrw L))) (D := D) (Q := Q) (s := s0) (e := 0) (k := k0) (v := v0) hT (Nat.zero_le n)
  have l158 := fun Q => c158 (d := d + 2) (N := N) (t := t) (w := 296) (J := JR I n) (L := L) (D := D) (Q := Q) (z := zrw L) hP (Or.inr rfl) hT hS' hW
  simp only [w155_0, w155_1, w155_2, w155_5, w155_6, w155_7, w155_10, w155_13, w155_14, w155_15, w155_18, w155_19, w155_20, w155_23, w155_24, w155_25, w155_28, w155_29, w155_30, w155_33, w155_34, kn_s, kn_n, zh_mk, zR_mk, zI_mk, zL_mk, zD_mk, wI_mk, wL_mk, wD_mk, zT_mk, zC_mk, kill_i, kill_r, kill_0, kill_n, kill_l, kill_q, zzk_r, zzk_0, zzk_q, zcat_r, zcat_i, zcat_0, cats_0, cats_i, cats_r, cats_l, cats_d, cats_f, rv_s, rv_0, Nat.reduceAdd, Nat.reduceLeDiff, Nat.add_zero, Nat.reduceMul, Nat.reduceSub, ne_eq, not_false_eq_true, not_true_eq_false, and_self, and_true, true_and, or_self, or_true, true_or, or_false, false_or, if_true, if_false, reduceIte, reduceCtorEq, implies_true, ite_self, ite_not, kM, e13', eJ, eM]
  refine l35.trans ?_
  simp only [w155_55, w155_56, w155_57, w155_60, w155_63, w155_64, w155_67, w155_68, kn_s, kn_n, zh_mk, zR_mk, zI_mk, zL_mk, zD_mk, wI_mk, wL_mk, wD_mk, zT_mk, zC_mk, kill_i, kill_r, kill_0, kill_n, kill_l, kill_q, zzk_r, zzk_0, zzk_q, zcat_r, zcat_i, zcat_0, cats_0, cats_i, cats_r, cats_l, cats_d, cats_f, rv_s, rv_0, Nat.reduceAdd, Nat.reduceLeDiff, Nat.add_zero, Nat.reduceMul, Nat.reduceSub, ne_eq, not_false_eq_true, not_true_eq_false, and_self, and_true, true_and, or_self, or_true, true_or, or_false, false_or, if_true, if_false, reduceIte, reduceCtorEq, implies_true, ite_self, ite_not, kM, kr294_2, wR297, l156, l158]
end S90
section S90b
variable {xs : Nat → Int32} {d c t N n : Nat} {I : Nat → Nat → Int32} {L : Nat → Nat → Int64} {D : Nat → Nat → UInt64} {f : Nat → Int}
theorem Inv_ld {c c' t t' : Nat} {I I' : Nat → Nat → Int32} {L L' : Nat → Nat → Int64} (h : Inv xs c t I L) (hc : c ≤ c') (ht : t' ≤ c') (h1 : ∀ a k, rI a k → ¬ (a = 15 ∧ (k = 1 ∨ k = 3 ∨ k = 4)) → ¬ (a = 294 ∧ (k = 13 ∨ k = 19 ∨ k = 20)) → I' a k = I a k) (e1 : I' 15 1 = Int32.ofInt 0) (e2 : I' 294 13 = Int32.ofInt 0) (e3 : I' 15 3 = I' 294 19) (e4 : I' 15 4 = I' 294 20) (h2 : ∀ a, rLo a → L' a = L a) : Inv xs c' t' I' L' := by
  have q : ∀ a k, (a < 15 ∨ (16 ≤ a ∧ a < 46) ∨ (74 ≤ a ∧ a < 294) ∨ (a = 294 ∧ 21 ≤ k) ∨ (295 ≤ a ∧ a < 303)) → I' a k = I a k := fun a k h => h1 a k (by unfold rI; omega) (by omega) (by omega)
  exact Inv_mk h ht (fun a k ha => q a k (by omega)) ⟨0, by omega, e1, e2, fun j hj => by omega⟩ ⟨e3, e4⟩ (OU_ext h.2.2.2.1 (fun k => q _ _ (by omega)) (q _ _ (by omega)) (fun k => q _ _ (by omega)) (fun k => q _ _ (by omega))) (NW_ext h.2.2.2.2.1 hc (fun a _ _ k => q _ _ (by omega)) (fun a _ _ k => by rw [h2 a (by unfold rLo; omega)]) (h2 _ (by unfold rLo; omega))) (KE_ext h.2.2.2.2.2.1.1 hc (fun k => q _ _ (by omega)) (fun k => q _ _ (by omega)) (fun a _ _ k => q _ _ (by omega)) (fun a _ _ k => by rw [h2 a (by unfold rLo; omega)]) (fun k => Or.inl (by rw [h2 299 (by unfold rLo; omega)]))) (KE_ext h.2.2.2.2.2.1.2 hc (fun k => q _ _ (by omega)) (fun k => q _ _ (by omega)) (fun a _ _ k => q _ _ (by omega)) (fun a _ _ k => by rw [h2 a (by unfold rLo; omega)]) (fun k => Or.inl (by rw [h2 299 (by unfold rLo; omega)]))) (HI_ext h.2.2.2.2.2.2 hc (fun k => q _ _ (by omega)) (q _ _ (by omega)) (fun a _ _ k => q _ _ (by omega)) (fun a _ _ k => by rw [h2 a (by unfold rLo; omega)]) (fun k => by rw [h2 301 (by unfold rLo; omega)]))
theorem rmI_cg {f r : Nat} {X Y : Nat → Nat → Int32} (h : ∀ a k, a ≠ 294 → X a k = Y a k) {a k : Nat} (ha : a ≠ 294) : rmI f r X a k = rmI f r Y a k := by
  have hBb := hB_b f r
  have e : ∀ a k, a ≠ 294 → lay (hB f r) (mg CP (gl 19 X) (gl (hB f r) X)) X a k = lay (hB f r) (mg CP (gl 19 Y) (gl (hB f r) Y)) Y a k := fun a k ha => by
    unfold lay
    by_cases q : hB f r ≤ a ∧ a < hB f r + 27
    · rw [if_pos q, if_pos q]
      unfold mg gl
      split
      · exact h _ _ (by omega)
      · exact h _ _ (by omega)
    · rw [if_neg q, if_neg q]
      exact h _ _ ha
  unfold rmI
  split
  · by_cases z : a = 74 ∧ k = 2
    · rw [z.1, z.2, u2_same, u2_same]
    · rw [u2_ne (by omega), u2_ne (by omega)]; exact e a k ha
  · by_cases z : a = 74 ∧ k = 1
    · rw [z.1, z.2, u2_same, u2_same]
    · rw [u2_ne (by omega), u2_ne (by omega)]; exact e a k ha
/-- the class's memory behind a load's parse -/
def ldI (P : PS) (x : Int32) (J : Nat → Nat → Int32) : Nat → Nat → Int32 := up2 (up2 (up2 (pC P J) 15 3 (Int32.ofInt (P.2.2.2.1 : Int))) 15 4 x) 15 1 (Int32.ofInt 0)
theorem ldI_o {P : PS} {x : Int32} {J : Nat → Nat → Int32} {a k : Nat} (h : a ≠ 73 ∧ (a ≠ 15 ∨ (k ≠ 1 ∧ k ≠ 3 ∧ k ≠ 4))) : ldI P x J a k = J a k := by
  unfold ldI
  rw [u2_ne (by omega), u2_ne (by omega), u2_ne (by omega), pC_o h.1]
/-- both sides behind an error -/
theorem ld_err {PF : PS} {J' : Nat → Nat → Int32} {L' : Nat → Nat → Int64} {γ : Nat → Int} {Q : Rs → St → Prop} (hI : Inv xs c t I L) (hW : WF f n PF) (hne : PF.2.2.2.1 ≠ 0) (hJ : ∀ a k, rI a k → J' a k = I a k) (hL' : ∀ a, rLo a → L' a = L a) (h1 : ∀ (v : Int32) (t1 : Nat) (I1 : Nat → Nat → Int32) (L1 : Nat → Nat → Int64), (∀ j, I1 0 j = xs j) → RefI (d + 41) 155 [some (.ref 294), none] N xs c t1 I1 L1 D 0 v → Q (.inl (some (.int v))) (mk N t1 295 I1 L1 D))
    (href : ∀ (L2 : Nat → Nat → Int64) (Q : Rs → St → Prop), (∀ a, a ≠ 303 → L2 a = L' a) → Wp (d + 41) 155 0 [some (.ref 294), none] [] (mk N t 295 (ldI PF (Int32.ofInt (PF.1 : Int)) J') L2 D) Q = Wp (d + 41) 155 92 [some (.ref 294), some (.int (Int32.ofInt ((378 : Nat) : Int)))] [] (mk N t 296 (pR PF (JR (ldI PF (Int32.ofInt (PF.1 : Int)) J') n)) (sR L2 296 (r64 γ)) D) Q) : Wp (d + 41) 83 12 [some (.ref 15)] [.int (Int32.ofInt (PF.2.2.2.1 : Int)), .ref 15] (mk N t 295 (pC PF J') L' D) Q := by
  have hr := WF_e hW
  have hne' : ¬ ((PF.2.2.2.1 : Int) = 0) := by omega
  have ht := hI.1.2.1
  have e4 : up2 (pC PF J') 15 3 (Int32.ofInt (PF.2.2.2.1 : Int)) 73 4 = Int32.ofInt (PF.1 : Int) := by rw [u2_ne (by omega)]; rfl
  have e3 : up2 (up2 (up2 (pC PF J') 15 3 (Int32.ofInt (PF.2.2.2.1 : Int))) 15 4 (Int32.ofInt (PF.1 : Int))) 15 1 (Int32.ofInt 0) 15 3 = Int32.ofInt (PF.2.2.2.1 : Int) := by rw [u2_ne (by omega), u2_ne (by omega), u2_same]
  simp only [w83_12, w83_15, w83_16, w83_17, w83_20, w83_23, w83_24, w83_27, w83_28, w83_31, w83_34, w83_37, w83_38, w83_39, w83_42, w83_43, w83_46, w83_49, w83_51, w81_0, w81_1, w81_4, kn_s, kn_n, zh_mk, zR_mk, zI_mk, zL_mk, zD_mk, wI_mk, wL_mk, wD_mk, zT_mk, zC_mk, kill_i, kill_r, kill_0, kill_n, kill_l, kill_q, zzk_r, zzk_0, zzk_q, zcat_r, zcat_i, zcat_0, cats_0, cats_i, cats_r, cats_l, cats_d, cats_f, rv_s, rv_0, Nat.reduceAdd, Nat.reduceLeDiff, Nat.add_zero, Nat.reduceMul, Nat.reduceSub, ne_eq, not_false_eq_true, not_true_eq_false, and_self, and_true, true_and, or_self, or_true, true_or, or_false, false_or, if_true, if_false, reduceIte, reduceCtorEq, implies_true, ite_self, ite_not, k15, k73, kr15_7, u2_same, e4, e3, o_eq (a := (PF.2.2.2.1 : Int)) (b := 0) (by omega), eq_false hne']
  refine h1 (Int32.ofInt (-4)) t (ldI PF (Int32.ofInt (PF.1 : Int)) J') L' (fun j => by rw [ldI_o (by omega), hJ 0 j (by unfold rI; omega)]; exact hI.1.1 j) ?_
  intro L2 Q2 hL2 hQ
  rw [href L2 Q2 hL2]
  simp only [w155_92, w155_93, w155_94, w155_97, w155_100, w155_101, w155_104, w155_107, w155_109, kn_s, kn_n, zh_mk, zR_mk, zI_mk, zL_mk, zD_mk, wI_mk, wL_mk, wD_mk, zT_mk, zC_mk, kill_i, kill_r, kill_0, kill_n, kill_l, kill_q, zzk_r, zzk_0, zzk_q, zcat_r, zcat_i, zcat_0, cats_0, cats_i, cats_r, cats_l, cats_d, cats_f, rv_s, rv_0, Nat.reduceAdd, Nat.reduceLeDiff, Nat.add_zero, Nat.reduceMul, Nat.reduceSub, ne_eq, not_false_eq_true, not_true_eq_false, and_self, and_true, true_and, or_self, or_true, true_or, or_false, false_or, if_true, if_false, reduceIte, reduceCtorEq, implies_true, ite_self, ite_not, kM, kr294_1, wR296, c161 hr, pI, eq_false hne, i00]
  refine hQ _ _ _ ?_ (fun _ => rfl) (by funext k; rw [sR_ne (by omega)]) ?_
  · rw [pR_o (by omega)]
    unfold JR
    rw [u2_ne (by omega), u2_ne (by omega), u2_same]
  · refine Inv_ld hI (by omega) (by omega) (fun a k ha q1 q2 => ?_) ?_ ?_ ?_ ?_ (fun a ha => ?_)
    · rw [pR_o (by unfold rI at ha; omega), JR_o (by unfold rI at ha; omega), ldI_o (by unfold rI at ha; omega)]
      exact hJ a k ha
    · rw [pR_o (by omega), JR_o (by omega)]
      exact u2_same
    · rw [pR_o (by omega)]
      exact u2_same
    · rw [pR_o (by omega), JR_o (by omega)]
      unfold ldI
      rw [u2_ne (by omega), u2_ne (by omega), u2_same]
      rfl
    · rw [pR_o (by omega), JR_o (by omega)]
      unfold ldI
      rw [u2_ne (by omega), u2_same]
      show _ = (if PF.2.2.2.1 = 0 then Int32.ofInt (-1) else Int32.ofInt (PF.1 : Int))
      rw [if_neg hne]
    · funext k
      rw [sR_ne (by unfold rLo at ha; omega), hL2 a (by unfold rLo at ha; omega), hL' a ha]
end S90b
