/-! CLASS AND REFERENCE AGREE: what will be. Made by wip/whole/gen/gen66.py -/
section S66a
variable {xs : Nat → Int32} {c t N dA a dB b' e : Nat} {I : Nat → Nat → Int32} {L : Nat → Nat → Int64} {D : Nat → Nat → UInt64} {EA EB : Lo} {ex : List (Nat × Nat)} {α β : Nat → Int}
theorem Inv_tr (h : Inv xs c t I L) : ∃ (b e : Nat) (α : Nat → Int) (n m : Nat) (o : Nat → Nat), b = 19 ∧ e = 46 ∧ LB b ∧ LB e ∧ apt e b ∧ rv (KR 295 15 5) = .ref b ∧ rv (KR 295 15 6) = .ref e ∧ RL (gl b I) (gl b L) α n m o ∧ GA α n m o ∧ EX c α n ∧ L 295 = r64 α ∧ LN 19 I L c α n m o := by
  obtain ⟨α, n, m, o, ⟨h1, h2, h3⟩, h4⟩ := h.2.2.2.2.1
  exact ⟨19, 46, α, n, m, o, rfl, rfl, by unfold LB; decide, by unfold LB; decide, by unfold apt; omega, rfl, rfl, h1, h2, h3, h4, h1, h2, h3⟩
theorem cp_lt {k : Nat} (h : k < 378) : cpN 378 α β k = α k := by
  unfold cpN
  rw [if_pos h]
theorem EX_cp {n : Nat} (h : EX c α n) (hn : n ≤ 10) : EX c (cpN 378 α β) n := by
  obtain ⟨h1, h2, h3⟩ := h
  refine ⟨by rw [cp_lt (by omega)]; exact h1, fun k hk h4 => ?_, fun i hi => by rw [cp_lt (by unfold B9; omega)]; exact h3 i hi⟩
  rw [cp_lt (by omega)] at h4
  rw [cp_lt (by omega), cp_lt (by omega), cp_lt (by omega), cp_lt (by omega), cp_lt (by omega)]
  exact h2 k hk h4
/-- the row's rest may change -/
theorem Inv_pr {t0 n m : Nat} {o : Nat → Nat} {I3 : Nat → Nat → Int32} {L3 : Nat → Nat → Int64} (hI : Inv xs c t0 I L) (hN : LN 19 I L c α n m o) (ht : t ≤ c + 1) (hr : ∀ a q, rI a q → I3 a q = I a q) (hl : ∀ a, rLo a → a ≠ 295 → L3 a = L a) (h5 : L3 295 = r64 (cpN 378 α β)) : Inv xs (c + 1) t I3 L3 := by
  have q : ∀ a k, (a < 46 ∨ (74 ≤ a ∧ a < 294) ∨ (a = 294 ∧ (k = 13 ∨ 19 ≤ k)) ∨ (295 ≤ a ∧ a < 303)) → I3 a k = I a k := fun a k h => hr a k (by unfold rI; omega)
  have ql : ∀ a, (a < 46 ∨ (74 ≤ a ∧ a < 295) ∨ (298 ≤ a ∧ a < 303)) → L3 a = L a := fun a h => hl a (by unfold rLo; omega) (by omega)
  refine Inv_mk hI ht (fun a k ha => q a k (by omega)) (IN_ext hI.2.1 (fun k => q _ _ (by omega)) (q _ _ (by omega)) (fun k => q _ _ (by omega)) (fun k => q _ _ (by omega))) ⟨?_, ?_⟩ (OU_ext hI.2.2.2.1 (fun k => q _ _ (by omega)) (q _ _ (by omega)) (fun k => q _ _ (by omega)) (fun k => q _ _ (by omega))) ⟨cpN 378 α β, n, m, o, ⟨RL_cp (RL_ext hN.1 (fun a ha k => q _ _ (by omega)) (fun a ha k => by show L3 (19 + a) k = L (19 + a) k; rw [ql _ (by omega)])), GA_cp hN.2.1, EX_cp (EX_le hN.2.2 (by omega)) hN.2.1.1.1⟩, h5⟩ (KE_ext hI.2.2.2.2.2.1.1 (by omega) (fun k => q _ _ (by omega)) (fun k => q _ _ (by omega)) (fun a _ _ k => q _ _ (by omega)) (fun a _ _ k => by rw [ql a (by omega)]) (fun k => Or.inl (by rw [ql 299 (by omega)]))) (KE_ext hI.2.2.2.2.2.1.2 (by omega) (fun k => q _ _ (by omega)) (fun k => q _ _ (by omega)) (fun a _ _ k => q _ _ (by omega)) (fun a _ _ k => by rw [ql a (by omega)]) (fun k => Or.inl (by rw [ql 299 (by omega)]))) (HI_ext hI.2.2.2.2.2.2 (by omega) (fun k => q _ _ (by omega)) (q _ _ (by omega)) (fun a _ _ k => q _ _ (by omega)) (fun a _ _ k => by rw [ql a (by omega)]) (fun k => by rw [ql 301 (by omega)]))
  · rw [q _ _ (by omega), q 294 19 (by omega)]; exact hI.2.2.1.1
  · rw [q _ _ (by omega), q 294 20 (by omega)]; exact hI.2.2.1.2
/-- the reference's ints behind such an answer -/
def IF (e : Nat) (ℓ I : Nat → Nat → Int32) (u : Un) : Nat → Nat → Int32 := uS (up2 (lay e ℓ I) 294 0 (Int32.ofInt 0)) u
theorem IF_0 {ℓ : Nat → Nat → Int32} {u : Un} : IF e ℓ I u 294 0 = Int32.ofInt 0 := by
  unfold IF
  rw [uS_ne (by omega), u2_same]
theorem IF_r {ℓ : Nat → Nat → Int32} {u : Un} (he : e = 46) : ∀ a q, rI a q → IF e ℓ I u a q = I a q := by
  intro a q h
  unfold rI at h
  unfold IF
  rw [uS_ne (by omega), u2_ne (by omega), lay_out (by omega)]
theorem IF_J {ℓ : Nat → Nat → Int32} (he : e = 46) : uS (up2 (lay e ℓ I) 294 0 (Int32.ofInt 0)) (α, (uF I α).2) = up2 (lay e ℓ I) 294 0 (Int32.ofInt 0) := uS_uF (I := I) (α := α) (fun k h1 h2 => by rw [u2_ne (by omega), lay_out (by omega)])
theorem LF_303 {L2 : Nat → Nat → Int64} : LF L2 α β 303 = L2 303 := by
  unfold LF
  funext k
  rw [sR_ne (by omega), sR_ne (by omega)]
theorem LF_o {L2 : Nat → Nat → Int64} {q : Nat} (h : q ≠ 295 ∧ q ≠ 297) : LF L2 α β q = L2 q := by
  unfold LF
  funext k
  rw [sR_ne (by omega), sR_ne (by omega)]
theorem LF_295 {L2 : Nat → Nat → Int64} : LF L2 α β 295 = r64 (cpN 378 α β) := by
  unfold LF
  funext k
  rw [sR_at]
theorem PairI_pr {n m : Nat} {o : Nat → Nat} {v : Int32} {u : Un} (he : e = 46) (hI : Inv xs c t I L) (hN : LN 19 I L c α n m o) (hL : L 295 = r64 α)
    (hcls : ∀ Q : Rs → St → Prop, (∀ (ℓ' : Nat → Nat → Int32) (μ' : Nat → Nat → Int64), Q (.inl (some (.int v))) (mk N t 295 (lay e ℓ' I) (lay e μ' L) D)) → Wp dA a 0 EA [] (mk N t 295 I L D) Q)
    (href : ∀ (ℓ' : Nat → Nat → Int32) (L2 : Nat → Nat → Int64) (Q : Rs → St → Prop), Wp dB b' 0 EB [] (mk N t 295 (lay e ℓ' I) (sR L2 295 (r64 α)) D) Q = Q (.inl (some (.int v))) (mk N t 295 (IF e ℓ' I u) (LF L2 α β) D)) : PairI dA a EA ex dB b' EB N xs c t I L D := by
  intro Q h1 h2
  refine hcls Q (fun ℓ' μ' => h1 _ _ _ _ (fun j => by rw [lay_out (by omega)]; exact hI.1.1 j) ?_)
  intro L2 Q2 hL2 hQ
  have l0 : ∀ a, rLo a → L2 a = L a := fun a ha => by
    unfold rLo at ha
    rw [hL2 a (by omega)]
    funext k
    exact lay_out (by omega)
  have e2 : sR L2 295 (r64 α) = L2 := by rw [← hL, ← l0 295 (by unfold rLo; omega)]; exact sR_self
  have r := href ℓ' L2 Q2
  rw [e2] at r
  rw [r]
  exact hQ _ _ _ IF_0 (fun _ => rfl) LF_303 (Inv_pr hI hN (by have := hI.1.2.1; omega) (IF_r he) (fun a ha h5 => by rw [LF_o (by unfold rLo at ha; omega)]; exact l0 a ha) LF_295)
theorem PairJ_pr {n m : Nat} {o : Nat → Nat} {v : Int64} {u : Un} (he : e = 46) (hI : Inv xs c t I L) (hN : LN 19 I L c α n m o) (hL : L 295 = r64 α)
    (hcls : ∀ Q : Rs → St → Prop, (∀ (ℓ' : Nat → Nat → Int32) (μ' : Nat → Nat → Int64), Q (.inl (some (.long v))) (mk N t 295 (lay e ℓ' I) (lay e μ' L) D)) → Wp dA a 0 EA [] (mk N t 295 I L D) Q)
    (href : ∀ (ℓ' : Nat → Nat → Int32) (L2 : Nat → Nat → Int64) (Q : Rs → St → Prop), Wp dB b' 0 EB [] (mk N t 295 (lay e ℓ' I) (sR L2 295 (r64 α)) D) Q = Q (.inl (some (.long v))) (mk N t 295 (IF e ℓ' I u) (LF L2 α β) D)) : PairJ dA a EA ex dB b' EB N xs c t I L D := by
  intro Q h1 h2
  refine hcls Q (fun ℓ' μ' => h1 _ _ _ _ (fun j => by rw [lay_out (by omega)]; exact hI.1.1 j) ?_)
  intro L2 Q2 hL2 hQ
  have l0 : ∀ a, rLo a → L2 a = L a := fun a ha => by
    unfold rLo at ha
    rw [hL2 a (by omega)]
    funext k
    exact lay_out (by omega)
  have e2 : sR L2 295 (r64 α) = L2 := by rw [← hL, ← l0 295 (by unfold rLo; omega)]; exact sR_self
  have r := href ℓ' L2 Q2
  rw [e2] at r
  rw [r]
  exact hQ _ _ _ IF_0 (fun _ => rfl) LF_303 (Inv_pr hI hN (by have := hI.1.2.1; omega) (IF_r he) (fun a ha h5 => by rw [LF_o (by unfold rLo at ha; omega)]; exact l0 a ha) LF_295)
end S66a
section S66
variable {xs : Nat → Int32} {d c t N w b e n m : Nat} {I ℓ : Nat → Nat → Int32} {L μ : Nat → Nat → Int64} {D : Nat → Nat → UInt64} {x y z : Int32} {Q : Rs → St → Prop} {α : Nat → Int} {o : Nat → Nat} {v : Int × Int × Int × Int × Int × Int × Int}
theorem c107r (hb : LB b) (h5 : rv (KR w 15 5) = .ref b) (hR : RL (gl b I) (gl b L) α n m o) (hG : GA α n m o) {i : Nat} (hi : i < n) : Wp d 107 0 [some (.ref 15), some (.int (Int32.ofInt (i : Int)))] [] (mk N t w I L D) Q = Q (.inl (some (.ref (b + (i + 13))))) (mk N t w I L D) := by
  have := c107 (d := d) (N := N) (t := t) (w := w) (ℓ := gl b I) (I := I) (L := L) (D := D) (Q := Q) hb h5 hG.1.1 (rd_n hR) hi
  rw [lay_gl] at this
  exact this
theorem c107rx (hb : LB b) (h5 : rv (KR w 15 5) = .ref b) (hR : RL (gl b I) (gl b L) α n m o) (hG : GA α n m o) {z : Int} (hz : -2147483648 ≤ z ∧ z < 2147483648) (hi : ¬ (0 ≤ z ∧ z ≤ (n : Int) - 1)) : Wp d 107 0 [some (.ref 15), some (.int (Int32.ofInt z))] [] (mk N t w I L D) Q = Q (.inr 2) (mk N (t + 1) w I L D) := by
  have := c107_x (d := d) (N := N) (t := t) (w := w) (ℓ := gl b I) (I := I) (L := L) (D := D) (Q := Q) hb h5 hG.1.1 (rd_n hR) hz hi
  rw [lay_gl] at this
  exact this
theorem pk26 (hI : Inv xs c t I L) : PairI (d + 40) 125 [some (.ref 15), some (.int x), some (.int y)] [(1, 2), (2, 1)] (d + 41) 248 [some (.ref 294), some (.int x), some (.int y)] N xs c t I L D := by
  obtain ⟨z1, rfl, hz⟩ := o_z x
  obtain ⟨z2, rfl, hy⟩ := o_z y
  obtain ⟨b, e, α, n, m, o, hb19, he46, hb, he, hd, h5, h6, hR, hG, hE, hL, hN⟩ := Inv_tr hI
  have h10 := hG.1.1
  have hw : RW 295 := Or.inl rfl
  by_cases hi : 0 ≤ z1 ∧ z1 ≤ (n : Int) - 1
  · obtain ⟨i, rfl⟩ : ∃ i : Nat, z1 = (i : Int) := ⟨z1.toNat, by omega⟩
    have hin : i < n := by omega
    have i10' : i < 10 := by omega
    have i27 : i + 13 < 27 := by omega
    by_cases h7 : 0 ≤ z2 ∧ z2 ≤ 50
    · refine PairI_pr (e := e) (u := uK n m o (60 * z2.toNat) (α, (uF I α).2)) (β := (uK n m o (60 * z2.toNat) (α, (uF I α).2)).1) (v := Int32.ofInt ((uK n m o (60 * z2.toNat) (α, (uF I α).2)).1 (B9 i 0))) he46 hI hN hL (fun Q hQ => ?_) (fun ℓ' L2 Q => ?_)
      · simp only [w125_0, w125_1, w125_2, w125_5, w125_6, w125_7, w125_8, kn_s, kn_n, zh_mk, zR_mk, zI_mk, zL_mk, zD_mk, wI_mk, wL_mk, wD_mk, zT_mk, zC_mk, kill_i, kill_r, kill_0, kill_n, kill_l, kill_q, zzk_r, zzk_0, zzk_q, zcat_r, zcat_i, zcat_0, cats_0, cats_i, cats_r, cats_l, cats_d, cats_f, rv_s, rv_0, Nat.reduceAdd, Nat.reduceLeDiff, Nat.add_zero, Nat.reduceMul, Nat.reduceSub, ne_eq, not_false_eq_true, not_true_eq_false, and_self, and_true, true_and, or_self, or_true, true_or, or_false, false_or, if_true, if_false, reduceIte, reduceCtorEq, implies_true, ite_self, ite_not, k15, c107r hb h5 hR hG hin]
        refine c126 (v := (uF I α).2) he hb hd h5 h6 hR hG h7 (fun ℓ' μ' h => ?_)
        have er := rd_c h (uK_G (k := 60 * z2.toNat) hG) hin
        simp only [w125_11, w125_12, w125_15, w125_18, w125_19, w125_20, w125_23, kn_s, kn_n, zh_mk, zR_mk, zI_mk, zL_mk, zD_mk, wI_mk, wL_mk, wD_mk, zT_mk, zC_mk, kill_i, kill_r, kill_0, kill_n, kill_l, kill_q, zzk_r, zzk_0, zzk_q, zcat_r, zcat_i, zcat_0, cats_0, cats_i, cats_r, cats_l, cats_d, cats_f, rv_s, rv_0, Nat.reduceAdd, Nat.reduceLeDiff, Nat.add_zero, Nat.reduceMul, Nat.reduceSub, ne_eq, not_false_eq_true, not_true_eq_false, and_self, and_true, true_and, or_self, or_true, true_or, or_false, false_or, if_true, if_false, reduceIte, reduceCtorEq, implies_true, ite_self, ite_not, lay_in, lay_0, up2_lay, up2_lay0, kh0, kh1, kh2, kh3, kh4, kh5, kh6, kh7, kh8, kh9, kh10, kh11, kh12, khB, khP, kr2, kr4, kr5, kr7, kr8, kr9, kr10, krB, krP, krG0, krG1, krG2, krG3, krK, Nat.reduceLT, o_add, o_sub, o_mul, o_neg, q_add, q_sub, q_mul, q_neg, o_32, cast_s, Int.toNat_natCast, k15, h5, h6, he, i10', i27, er, o_ixn (j := i) (n := 10) (by omega), o_tnn (j := i) (by omega)]
        exact hQ ℓ' μ'
      · have c := fun (d : Nat) (Q : Rs → St → Prop) => c250 (d := d) (N := N) (t := t) (L := L2) (D := D) (Q := Q) (i := i) (k := 0) (z := z2) hG (IF_J (ℓ := ℓ') (I := I) (α := α) he46) h7 hin (by omega)
        rw [show ((0 : Nat) : Int) = 0 from rfl] at c
        simp only [w248_0, w248_1, w248_2, w248_3, w248_6, w248_7, w248_10, w248_13, w248_16, w248_17, w248_18, w248_19, w248_20, w248_23, w248_26, w248_27, kn_s, kn_n, zh_mk, zR_mk, zI_mk, zL_mk, zD_mk, wI_mk, wL_mk, wD_mk, zT_mk, zC_mk, kill_i, kill_r, kill_0, kill_n, kill_l, kill_q, zzk_r, zzk_0, zzk_q, zcat_r, zcat_i, zcat_0, cats_0, cats_i, cats_r, cats_l, cats_d, cats_f, rv_s, rv_0, Nat.reduceAdd, Nat.reduceLeDiff, Nat.add_zero, Nat.reduceMul, Nat.reduceSub, ne_eq, not_false_eq_true, not_true_eq_false, and_self, and_true, true_and, or_self, or_true, true_or, or_false, false_or, if_true, if_false, reduceIte, reduceCtorEq, implies_true, ite_self, ite_not, kM, kMr, kRow hw, sR_at, up2_r64, r64_at, o_add, o_sub, o_mul, o_neg, q_add, q_sub, q_mul, q_neg, o_32, cast_s, Int.toNat_natCast, kM1, kA295, c197 hw hG.1 hz, c249 hy, c198, eq_true hi, eq_true h7, thr, p_0, c]
        rfl
    · refine PairI_x (y := Int32.ofInt 0) (I' := I) hI hL rfl rfl m2 (fun Q => ?_) (fun L2 Q => ?_) (by omega)
      · simp only [w125_0, w125_1, w125_2, w125_5, w125_6, w125_7, w125_8, w125_11, w125_12, w125_15, w125_18, w125_19, w125_20, w125_23, kn_s, kn_n, zh_mk, zR_mk, zI_mk, zL_mk, zD_mk, wI_mk, wL_mk, wD_mk, zT_mk, zC_mk, kill_i, kill_r, kill_0, kill_n, kill_l, kill_q, zzk_r, zzk_0, zzk_q, zcat_r, zcat_i, zcat_0, cats_0, cats_i, cats_r, cats_l, cats_d, cats_f, rv_s, rv_0, Nat.reduceAdd, Nat.reduceLeDiff, Nat.add_zero, Nat.reduceMul, Nat.reduceSub, ne_eq, not_false_eq_true, not_true_eq_false, and_self, and_true, true_and, or_self, or_true, true_or, or_false, false_or, if_true, if_false, reduceIte, reduceCtorEq, implies_true, ite_self, ite_not, k15, c107r hb h5 hR hG hin, c126_x hy h7, kn_x mh125]
      · simp only [w248_0, w248_1, w248_2, w248_3, w248_6, w248_7, w248_10, w248_13, w248_16, w248_17, w248_18, w248_19, w248_20, w248_23, w248_26, w248_27, kn_s, kn_n, zh_mk, zR_mk, zI_mk, zL_mk, zD_mk, wI_mk, wL_mk, wD_mk, zT_mk, zC_mk, kill_i, kill_r, kill_0, kill_n, kill_l, kill_q, zzk_r, zzk_0, zzk_q, zcat_r, zcat_i, zcat_0, cats_0, cats_i, cats_r, cats_l, cats_d, cats_f, rv_s, rv_0, Nat.reduceAdd, Nat.reduceLeDiff, Nat.add_zero, Nat.reduceMul, Nat.reduceSub, ne_eq, not_false_eq_true, not_true_eq_false, and_self, and_true, true_and, or_self, or_true, true_or, or_false, false_or, if_true, if_false, reduceIte, reduceCtorEq, implies_true, ite_self, ite_not, kM, kMr, kRow hw, sR_at, up2_r64, r64_at, o_add, o_sub, o_mul, o_neg, q_add, q_sub, q_mul, q_neg, o_32, cast_s, Int.toNat_natCast, kM1, kA295, c197 hw hG.1 hz, c249 hy, c198, eq_true hi, eq_false h7, thr, p_0]
        rfl
  · refine PairI_x (y := Int32.ofInt 0) (I' := I) hI hL rfl rfl m1 (fun Q => ?_) (fun L2 Q => ?_) (by omega)
    · simp only [w125_0, w125_1, w125_2, w125_5, w125_6, w125_7, w125_8, w125_11, w125_12, w125_15, w125_18, w125_19, w125_20, w125_23, kn_s, kn_n, zh_mk, zR_mk, zI_mk, zL_mk, zD_mk, wI_mk, wL_mk, wD_mk, zT_mk, zC_mk, kill_i, kill_r, kill_0, kill_n, kill_l, kill_q, zzk_r, zzk_0, zzk_q, zcat_r, zcat_i, zcat_0, cats_0, cats_i, cats_r, cats_l, cats_d, cats_f, rv_s, rv_0, Nat.reduceAdd, Nat.reduceLeDiff, Nat.add_zero, Nat.reduceMul, Nat.reduceSub, ne_eq, not_false_eq_true, not_true_eq_false, and_self, and_true, true_and, or_self, or_true, true_or, or_false, false_or, if_true, if_false, reduceIte, reduceCtorEq, implies_true, ite_self, ite_not, k15, c107rx hb h5 hR hG hz hi, kn_x mh125]
    · simp only [w248_0, w248_1, w248_2, w248_3, w248_6, w248_7, w248_10, w248_13, w248_16, w248_17, w248_18, w248_19, w248_20, w248_23, w248_26, w248_27, kn_s, kn_n, zh_mk, zR_mk, zI_mk, zL_mk, zD_mk, wI_mk, wL_mk, wD_mk, zT_mk, zC_mk, kill_i, kill_r, kill_0, kill_n, kill_l, kill_q, zzk_r, zzk_0, zzk_q, zcat_r, zcat_i, zcat_0, cats_0, cats_i, cats_r, cats_l, cats_d, cats_f, rv_s, rv_0, Nat.reduceAdd, Nat.reduceLeDiff, Nat.add_zero, Nat.reduceMul, Nat.reduceSub, ne_eq, not_false_eq_true, not_true_eq_false, and_self, and_true, true_and, or_self, or_true, true_or, or_false, false_or, if_true, if_false, reduceIte, reduceCtorEq, implies_true, ite_self, ite_not, kM, kMr, kRow hw, sR_at, up2_r64, r64_at, o_add, o_sub, o_mul, o_neg, q_add, q_sub, q_mul, q_neg, o_32, cast_s, Int.toNat_natCast, kM1, kA295, c197 hw hG.1 hz, c249 hy, c198, eq_false hi, thr, p_0]
      rfl
theorem pk27 (hI : Inv xs c t I L) : PairI (d + 40) 127 [some (.ref 15), some (.int x), some (.int y)] [(1, 2), (2, 1)] (d + 41) 252 [some (.ref 294), some (.int x), some (.int y)] N xs c t I L D := by
  obtain ⟨z1, rfl, hz⟩ := o_z x
  obtain ⟨z2, rfl, hy⟩ := o_z y
  obtain ⟨b, e, α, n, m, o, hb19, he46, hb, he, hd, h5, h6, hR, hG, hE, hL, hN⟩ := Inv_tr hI
  have h10 := hG.1.1
  have hw : RW 295 := Or.inl rfl
  by_cases hi : 0 ≤ z1 ∧ z1 ≤ (n : Int) - 1
  · obtain ⟨i, rfl⟩ : ∃ i : Nat, z1 = (i : Int) := ⟨z1.toNat, by omega⟩
    have hin : i < n := by omega
    have i10' : i < 10 := by omega
    have i27 : i + 13 < 27 := by omega
    by_cases h7 : 0 ≤ z2 ∧ z2 ≤ 50
    · refine PairI_pr (e := e) (u := uK n m o (60 * z2.toNat) (α, (uF I α).2)) (β := (uK n m o (60 * z2.toNat) (α, (uF I α).2)).1) (v := Int32.ofInt ((uK n m o (60 * z2.toNat) (α, (uF I α).2)).1 (B9 i 1))) he46 hI hN hL (fun Q hQ => ?_) (fun ℓ' L2 Q => ?_)
      · simp only [w127_0, w127_1, w127_2, w127_5, w127_6, w127_7, w127_8, kn_s, kn_n, zh_mk, zR_mk, zI_mk, zL_mk, zD_mk, wI_mk, wL_mk, wD_mk, zT_mk, zC_mk, kill_i, kill_r, kill_0, kill_n, kill_l, kill_q, zzk_r, zzk_0, zzk_q, zcat_r, zcat_i, zcat_0, cats_0, cats_i, cats_r, cats_l, cats_d, cats_f, rv_s, rv_0, Nat.reduceAdd, Nat.reduceLeDiff, Nat.add_zero, Nat.reduceMul, Nat.reduceSub, ne_eq, not_false_eq_true, not_true_eq_false, and_self, and_true, true_and, or_self, or_true, true_or, or_false, false_or, if_true, if_false, reduceIte, reduceCtorEq, implies_true, ite_self, ite_not, k15, c107r hb h5 hR hG hin]
        refine c126 (v := (uF I α).2) he hb hd h5 h6 hR hG h7 (fun ℓ' μ' h => ?_)
        have er := rd_s h (uK_G (k := 60 * z2.toNat) hG) hin
        simp only [w127_11, w127_12, w127_15, w127_18, w127_19, w127_20, w127_23, kn_s, kn_n, zh_mk, zR_mk, zI_mk, zL_mk, zD_mk, wI_mk, wL_mk, wD_mk, zT_mk, zC_mk, kill_i, kill_r, kill_0, kill_n, kill_l, kill_q, zzk_r, zzk_0, zzk_q, zcat_r, zcat_i, zcat_0, cats_0, cats_i, cats_r, cats_l, cats_d, cats_f, rv_s, rv_0, Nat.reduceAdd, Nat.reduceLeDiff, Nat.add_zero, Nat.reduceMul, Nat.reduceSub, ne_eq, not_false_eq_true, not_true_eq_false, and_self, and_true, true_and, or_self, or_true, true_or, or_false, false_or, if_true, if_false, reduceIte, reduceCtorEq, implies_true, ite_self, ite_not, lay_in, lay_0, up2_lay, up2_lay0, kh0, kh1, kh2, kh3, kh4, kh5, kh6, kh7, kh8, kh9, kh10, kh11, kh12, khB, khP, kr2, kr4, kr5, kr7, kr8, kr9, kr10, krB, krP, krG0, krG1, krG2, krG3, krK, Nat.reduceLT, o_add, o_sub, o_mul, o_neg, q_add, q_sub, q_mul, q_neg, o_32, cast_s, Int.toNat_natCast, k15, h5, h6, he, i10', i27, er, o_ixn (j := i) (n := 10) (by omega), o_tnn (j := i) (by omega)]
        exact hQ ℓ' μ'
      · have c := fun (d : Nat) (Q : Rs → St → Prop) => c250 (d := d) (N := N) (t := t) (L := L2) (D := D) (Q := Q) (i := i) (k := 1) (z := z2) hG (IF_J (ℓ := ℓ') (I := I) (α := α) he46) h7 hin (by omega)
        rw [show ((1 : Nat) : Int) = 1 from rfl] at c
        simp only [w252_0, w252_1, w252_2, w252_3, w252_6, w252_7, w252_10, w252_13, w252_16, w252_17, w252_18, w252_19, w252_20, w252_23, w252_26, w252_27, kn_s, kn_n, zh_mk, zR_mk, zI_mk, zL_mk, zD_mk, wI_mk, wL_mk, wD_mk, zT_mk, zC_mk, kill_i, kill_r, kill_0, kill_n, kill_l, kill_q, zzk_r, zzk_0, zzk_q, zcat_r, zcat_i, zcat_0, cats_0, cats_i, cats_r, cats_l, cats_d, cats_f, rv_s, rv_0, Nat.reduceAdd, Nat.reduceLeDiff, Nat.add_zero, Nat.reduceMul, Nat.reduceSub, ne_eq, not_false_eq_true, not_true_eq_false, and_self, and_true, true_and, or_self, or_true, true_or, or_false, false_or, if_true, if_false, reduceIte, reduceCtorEq, implies_true, ite_self, ite_not, kM, kMr, kRow hw, sR_at, up2_r64, r64_at, o_add, o_sub, o_mul, o_neg, q_add, q_sub, q_mul, q_neg, o_32, cast_s, Int.toNat_natCast, kM1, kA295, c197 hw hG.1 hz, c249 hy, c198, eq_true hi, eq_true h7, thr, p_0, c]
        rfl
    · refine PairI_x (y := Int32.ofInt 0) (I' := I) hI hL rfl rfl m2 (fun Q => ?_) (fun L2 Q => ?_) (by omega)
      · simp only [w127_0, w127_1, w127_2, w127_5, w127_6, w127_7, w127_8, w127_11, w127_12, w127_15, w127_18, w127_19, w127_20, w127_23, kn_s, kn_n, zh_mk, zR_mk, zI_mk, zL_mk, zD_mk, wI_mk, wL_mk, wD_mk, zT_mk, zC_mk, kill_i, kill_r, kill_0, kill_n, kill_l, kill_q, zzk_r, zzk_0, zzk_q, zcat_r, zcat_i, zcat_0, cats_0, cats_i, cats_r, cats_l, cats_d, cats_f, rv_s, rv_0, Nat.reduceAdd, Nat.reduceLeDiff, Nat.add_zero, Nat.reduceMul, Nat.reduceSub, ne_eq, not_false_eq_true, not_true_eq_false, and_self, and_true, true_and, or_self, or_true, true_or, or_false, false_or, if_true, if_false, reduceIte, reduceCtorEq, implies_true, ite_self, ite_not, k15, c107r hb h5 hR hG hin, c126_x hy h7, kn_x mh127]
      · simp only [w252_0, w252_1, w252_2, w252_3, w252_6, w252_7, w252_10, w252_13, w252_16, w252_17, w252_18, w252_19, w252_20, w252_23, w252_26, w252_27, kn_s, kn_n, zh_mk, zR_mk, zI_mk, zL_mk, zD_mk, wI_mk, wL_mk, wD_mk, zT_mk, zC_mk, kill_i, kill_r, kill_0, kill_n, kill_l, kill_q, zzk_r, zzk_0, zzk_q, zcat_r, zcat_i, zcat_0, cats_0, cats_i, cats_r, cats_l, cats_d, cats_f, rv_s, rv_0, Nat.reduceAdd, Nat.reduceLeDiff, Nat.add_zero, Nat.reduceMul, Nat.reduceSub, ne_eq, not_false_eq_true, not_true_eq_false, and_self, and_true, true_and, or_self, or_true, true_or, or_false, false_or, if_true, if_false, reduceIte, reduceCtorEq, implies_true, ite_self, ite_not, kM, kMr, kRow hw, sR_at, up2_r64, r64_at, o_add, o_sub, o_mul, o_neg, q_add, q_sub, q_mul, q_neg, o_32, cast_s, Int.toNat_natCast, kM1, kA295, c197 hw hG.1 hz, c249 hy, c198, eq_true hi, eq_false h7, thr, p_0]
        rfl
  · refine PairI_x (y := Int32.ofInt 0) (I' := I) hI hL rfl rfl m1 (fun Q => ?_) (fun L2 Q => ?_) (by omega)
    · simp only [w127_0, w127_1, w127_2, w127_5, w127_6, w127_7, w127_8, w127_11, w127_12, w127_15, w127_18, w127_19, w127_20, w127_23, kn_s, kn_n, zh_mk, zR_mk, zI_mk, zL_mk, zD_mk, wI_mk, wL_mk, wD_mk, zT_mk, zC_mk, kill_i, kill_r, kill_0, kill_n, kill_l, kill_q, zzk_r, zzk_0, zzk_q, zcat_r, zcat_i, zcat_0, cats_0, cats_i, cats_r, cats_l, cats_d, cats_f, rv_s, rv_0, Nat.reduceAdd, Nat.reduceLeDiff, Nat.add_zero, Nat.reduceMul, Nat.reduceSub, ne_eq, not_false_eq_true, not_true_eq_false, and_self, and_true, true_and, or_self, or_true, true_or, or_false, false_or, if_true, if_false, reduceIte, reduceCtorEq, implies_true, ite_self, ite_not, k15, c107rx hb h5 hR hG hz hi, kn_x mh127]
    · simp only [w252_0, w252_1, w252_2, w252_3, w252_6, w252_7, w252_10, w252_13, w252_16, w252_17, w252_18, w252_19, w252_20, w252_23, w252_26, w252_27, kn_s, kn_n, zh_mk, zR_mk, zI_mk, zL_mk, zD_mk, wI_mk, wL_mk, wD_mk, zT_mk, zC_mk, kill_i, kill_r, kill_0, kill_n, kill_l, kill_q, zzk_r, zzk_0, zzk_q, zcat_r, zcat_i, zcat_0, cats_0, cats_i, cats_r, cats_l, cats_d, cats_f, rv_s, rv_0, Nat.reduceAdd, Nat.reduceLeDiff, Nat.add_zero, Nat.reduceMul, Nat.reduceSub, ne_eq, not_false_eq_true, not_true_eq_false, and_self, and_true, true_and, or_self, or_true, true_or, or_false, false_or, if_true, if_false, reduceIte, reduceCtorEq, implies_true, ite_self, ite_not, kM, kMr, kRow hw, sR_at, up2_r64, r64_at, o_add, o_sub, o_mul, o_neg, q_add, q_sub, q_mul, q_neg, o_32, cast_s, Int.toNat_natCast, kM1, kA295, c197 hw hG.1 hz, c249 hy, c198, eq_false hi, thr, p_0]
      rfl
theorem pk28 (hI : Inv xs c t I L) : PairI (d + 40) 128 [some (.ref 15), some (.int x)] [(1, 1)] (d + 41) 253 [some (.ref 294), some (.int x)] N xs c t I L D := by
  obtain ⟨z2, rfl, hy⟩ := o_z x
  obtain ⟨b, e, α, n, m, o, hb19, he46, hb, he, hd, h5, h6, hR, hG, hE, hL, hN⟩ := Inv_tr hI
  have h10 := hG.1.1
  have hw : RW 295 := Or.inl rfl
  by_cases h7 : 0 ≤ z2 ∧ z2 ≤ 50
  · refine PairI_pr (e := e) (u := uK n m o (60 * z2.toNat) (α, (uF I α).2)) (β := (uK n m o (60 * z2.toNat) (α, (uF I α).2)).1) (v := Int32.ofInt ((uK n m o (60 * z2.toNat) (α, (uF I α).2)).1 12 - α 12)) he46 hI hN hL (fun Q hQ => ?_) (fun ℓ' L2 Q => ?_)
    · have q1 : I (b + 11) 4 = Int32.ofInt (α 12) := hR.1 12 (by unfold kd; omega)
      simp only [w128_0, w128_1, w128_2, kn_s, kn_n, zh_mk, zR_mk, zI_mk, zL_mk, zD_mk, wI_mk, wL_mk, wD_mk, zT_mk, zC_mk, kill_i, kill_r, kill_0, kill_n, kill_l, kill_q, zzk_r, zzk_0, zzk_q, zcat_r, zcat_i, zcat_0, cats_0, cats_i, cats_r, cats_l, cats_d, cats_f, rv_s, rv_0, Nat.reduceAdd, Nat.reduceLeDiff, Nat.add_zero, Nat.reduceMul, Nat.reduceSub, ne_eq, not_false_eq_true, not_true_eq_false, and_self, and_true, true_and, or_self, or_true, true_or, or_false, false_or, if_true, if_false, reduceIte, reduceCtorEq, implies_true, ite_self, ite_not, k15]
      refine c126 (v := (uF I α).2) he hb hd h5 h6 hR hG h7 (fun ℓ' μ' h => ?_)
      have q2 : ℓ' 11 4 = Int32.ofInt ((uK n m o (60 * z2.toNat) (α, (uF I α).2)).1 12) := h.1 12 (by unfold kd; omega)
      simp only [w128_5, w128_6, w128_9, w128_12, w128_15, w128_16, w128_19, w128_22, w128_25, w128_26, kn_s, kn_n, zh_mk, zR_mk, zI_mk, zL_mk, zD_mk, wI_mk, wL_mk, wD_mk, zT_mk, zC_mk, kill_i, kill_r, kill_0, kill_n, kill_l, kill_q, zzk_r, zzk_0, zzk_q, zcat_r, zcat_i, zcat_0, cats_0, cats_i, cats_r, cats_l, cats_d, cats_f, rv_s, rv_0, Nat.reduceAdd, Nat.reduceLeDiff, Nat.add_zero, Nat.reduceMul, Nat.reduceSub, ne_eq, not_false_eq_true, not_true_eq_false, and_self, and_true, true_and, or_self, or_true, true_or, or_false, false_or, if_true, if_false, reduceIte, reduceCtorEq, implies_true, ite_self, ite_not, lay_in, lay_0, up2_lay, up2_lay0, kh0, kh1, kh2, kh3, kh4, kh5, kh6, kh7, kh8, kh9, kh10, kh11, kh12, khB, khP, kr2, kr4, kr5, kr7, kr8, kr9, kr10, krB, krP, krG0, krG1, krG2, krG3, krK, Nat.reduceLT, o_add, o_sub, o_mul, o_neg, q_add, q_sub, q_mul, q_neg, o_32, cast_s, Int.toNat_natCast, k15, h5, h6, he, hb, q2, lay_far hd (show 11 < 27 by omega), q1]
      exact hQ ℓ' μ'
    · have c := fun (d : Nat) (Q : Rs → St → Prop) => c254 (d := d) (N := N) (t := t) (L := L2) (D := D) (Q := Q) (k := 0) (z := z2) hG (IF_J (ℓ := ℓ') (I := I) (α := α) he46) h7 (by omega)
      rw [show ((0 : Nat) : Int) = 0 from rfl] at c
      simp only [w253_0, w253_1, w253_2, w253_5, w253_8, w253_11, w253_12, w253_13, w253_14, w253_17, w253_20, w253_21, kn_s, kn_n, zh_mk, zR_mk, zI_mk, zL_mk, zD_mk, wI_mk, wL_mk, wD_mk, zT_mk, zC_mk, kill_i, kill_r, kill_0, kill_n, kill_l, kill_q, zzk_r, zzk_0, zzk_q, zcat_r, zcat_i, zcat_0, cats_0, cats_i, cats_r, cats_l, cats_d, cats_f, rv_s, rv_0, Nat.reduceAdd, Nat.reduceLeDiff, Nat.add_zero, Nat.reduceMul, Nat.reduceSub, ne_eq, not_false_eq_true, not_true_eq_false, and_self, and_true, true_and, or_self, or_true, true_or, or_false, false_or, if_true, if_false, reduceIte, reduceCtorEq, implies_true, ite_self, ite_not, kM, kMr, kRow hw, sR_at, up2_r64, r64_at, o_add, o_sub, o_mul, o_neg, q_add, q_sub, q_mul, q_neg, o_32, cast_s, Int.toNat_natCast, kM1, kA295, c249 hy, c150, eq_true h7, thr, p_0, c]
      rfl
  · refine PairI_x (y := Int32.ofInt 0) (I' := I) hI hL rfl rfl m1 (fun Q => ?_) (fun L2 Q => ?_) (by omega)
    · simp only [w128_0, w128_1, w128_2, w128_5, w128_6, w128_9, w128_12, w128_15, w128_16, w128_19, w128_22, w128_25, w128_26, kn_s, kn_n, zh_mk, zR_mk, zI_mk, zL_mk, zD_mk, wI_mk, wL_mk, wD_mk, zT_mk, zC_mk, kill_i, kill_r, kill_0, kill_n, kill_l, kill_q, zzk_r, zzk_0, zzk_q, zcat_r, zcat_i, zcat_0, cats_0, cats_i, cats_r, cats_l, cats_d, cats_f, rv_s, rv_0, Nat.reduceAdd, Nat.reduceLeDiff, Nat.add_zero, Nat.reduceMul, Nat.reduceSub, ne_eq, not_false_eq_true, not_true_eq_false, and_self, and_true, true_and, or_self, or_true, true_or, or_false, false_or, if_true, if_false, reduceIte, reduceCtorEq, implies_true, ite_self, ite_not, k15, c126_x hy h7, kn_x mh128]
    · simp only [w253_0, w253_1, w253_2, w253_5, w253_8, w253_11, w253_12, w253_13, w253_14, w253_17, w253_20, w253_21, kn_s, kn_n, zh_mk, zR_mk, zI_mk, zL_mk, zD_mk, wI_mk, wL_mk, wD_mk, zT_mk, zC_mk, kill_i, kill_r, kill_0, kill_n, kill_l, kill_q, zzk_r, zzk_0, zzk_q, zcat_r, zcat_i, zcat_0, cats_0, cats_i, cats_r, cats_l, cats_d, cats_f, rv_s, rv_0, Nat.reduceAdd, Nat.reduceLeDiff, Nat.add_zero, Nat.reduceMul, Nat.reduceSub, ne_eq, not_false_eq_true, not_true_eq_false, and_self, and_true, true_and, or_self, or_true, true_or, or_false, false_or, if_true, if_false, reduceIte, reduceCtorEq, implies_true, ite_self, ite_not, kM, kMr, kRow hw, sR_at, up2_r64, r64_at, o_add, o_sub, o_mul, o_neg, q_add, q_sub, q_mul, q_neg, o_32, cast_s, Int.toNat_natCast, kM1, kA295, c249 hy, c150, eq_false h7, thr, p_0]
      rfl
theorem pk29 (hI : Inv xs c t I L) : PairI (d + 40) 129 [some (.ref 15), some (.int x)] [(1, 1)] (d + 41) 255 [some (.ref 294), some (.int x)] N xs c t I L D := by
  obtain ⟨z2, rfl, hy⟩ := o_z x
  obtain ⟨b, e, α, n, m, o, hb19, he46, hb, he, hd, h5, h6, hR, hG, hE, hL, hN⟩ := Inv_tr hI
  have h10 := hG.1.1
  have hw : RW 295 := Or.inl rfl
  by_cases h7 : 0 ≤ z2 ∧ z2 ≤ 50
  · refine PairI_pr (e := e) (u := uK n m o (60 * z2.toNat) (α, (uF I α).2)) (β := (uK n m o (60 * z2.toNat) (α, (uF I α).2)).1) (v := Int32.ofInt ((uK n m o (60 * z2.toNat) (α, (uF I α).2)).1 13 - α 13)) he46 hI hN hL (fun Q hQ => ?_) (fun ℓ' L2 Q => ?_)
    · have q1 : I (b + 11) 5 = Int32.ofInt (α 13) := hR.1 13 (by unfold kd; omega)
      simp only [w129_0, w129_1, w129_2, kn_s, kn_n, zh_mk, zR_mk, zI_mk, zL_mk, zD_mk, wI_mk, wL_mk, wD_mk, zT_mk, zC_mk, kill_i, kill_r, kill_0, kill_n, kill_l, kill_q, zzk_r, zzk_0, zzk_q, zcat_r, zcat_i, zcat_0, cats_0, cats_i, cats_r, cats_l, cats_d, cats_f, rv_s, rv_0, Nat.reduceAdd, Nat.reduceLeDiff, Nat.add_zero, Nat.reduceMul, Nat.reduceSub, ne_eq, not_false_eq_true, not_true_eq_false, and_self, and_true, true_and, or_self, or_true, true_or, or_false, false_or, if_true, if_false, reduceIte, reduceCtorEq, implies_true, ite_self, ite_not, k15]
      refine c126 (v := (uF I α).2) he hb hd h5 h6 hR hG h7 (fun ℓ' μ' h => ?_)
      have q2 : ℓ' 11 5 = Int32.ofInt ((uK n m o (60 * z2.toNat) (α, (uF I α).2)).1 13) := h.1 13 (by unfold kd; omega)
      simp only [w129_5, w129_6, w129_9, w129_12, w129_15, w129_16, w129_19, w129_22, w129_25, w129_26, kn_s, kn_n, zh_mk, zR_mk, zI_mk, zL_mk, zD_mk, wI_mk, wL_mk, wD_mk, zT_mk, zC_mk, kill_i, kill_r, kill_0, kill_n, kill_l, kill_q, zzk_r, zzk_0, zzk_q, zcat_r, zcat_i, zcat_0, cats_0, cats_i, cats_r, cats_l, cats_d, cats_f, rv_s, rv_0, Nat.reduceAdd, Nat.reduceLeDiff, Nat.add_zero, Nat.reduceMul, Nat.reduceSub, ne_eq, not_false_eq_true, not_true_eq_false, and_self, and_true, true_and, or_self, or_true, true_or, or_false, false_or, if_true, if_false, reduceIte, reduceCtorEq, implies_true, ite_self, ite_not, lay_in, lay_0, up2_lay, up2_lay0, kh0, kh1, kh2, kh3, kh4, kh5, kh6, kh7, kh8, kh9, kh10, kh11, kh12, khB, khP, kr2, kr4, kr5, kr7, kr8, kr9, kr10, krB, krP, krG0, krG1, krG2, krG3, krK, Nat.reduceLT, o_add, o_sub, o_mul, o_neg, q_add, q_sub, q_mul, q_neg, o_32, cast_s, Int.toNat_natCast, k15, h5, h6, he, hb, q2, lay_far hd (show 11 < 27 by omega), q1]
      exact hQ ℓ' μ'
    · have c := fun (d : Nat) (Q : Rs → St → Prop) => c254 (d := d) (N := N) (t := t) (L := L2) (D := D) (Q := Q) (k := 1) (z := z2) hG (IF_J (ℓ := ℓ') (I := I) (α := α) he46) h7 (by omega)
      rw [show ((1 : Nat) : Int) = 1 from rfl] at c
      simp only [w255_0, w255_1, w255_2, w255_5, w255_8, w255_11, w255_12, w255_13, w255_14, w255_17, w255_20, w255_21, kn_s, kn_n, zh_mk, zR_mk, zI_mk, zL_mk, zD_mk, wI_mk, wL_mk, wD_mk, zT_mk, zC_mk, kill_i, kill_r, kill_0, kill_n, kill_l, kill_q, zzk_r, zzk_0, zzk_q, zcat_r, zcat_i, zcat_0, cats_0, cats_i, cats_r, cats_l, cats_d, cats_f, rv_s, rv_0, Nat.reduceAdd, Nat.reduceLeDiff, Nat.add_zero, Nat.reduceMul, Nat.reduceSub, ne_eq, not_false_eq_true, not_true_eq_false, and_self, and_true, true_and, or_self, or_true, true_or, or_false, false_or, if_true, if_false, reduceIte, reduceCtorEq, implies_true, ite_self, ite_not, kM, kMr, kRow hw, sR_at, up2_r64, r64_at, o_add, o_sub, o_mul, o_neg, q_add, q_sub, q_mul, q_neg, o_32, cast_s, Int.toNat_natCast, kM1, kA295, c249 hy, c150, eq_true h7, thr, p_0, c]
      rfl
  · refine PairI_x (y := Int32.ofInt 0) (I' := I) hI hL rfl rfl m1 (fun Q => ?_) (fun L2 Q => ?_) (by omega)
    · simp only [w129_0, w129_1, w129_2, w129_5, w129_6, w129_9, w129_12, w129_15, w129_16, w129_19, w129_22, w129_25, w129_26, kn_s, kn_n, zh_mk, zR_mk, zI_mk, zL_mk, zD_mk, wI_mk, wL_mk, wD_mk, zT_mk, zC_mk, kill_i, kill_r, kill_0, kill_n, kill_l, kill_q, zzk_r, zzk_0, zzk_q, zcat_r, zcat_i, zcat_0, cats_0, cats_i, cats_r, cats_l, cats_d, cats_f, rv_s, rv_0, Nat.reduceAdd, Nat.reduceLeDiff, Nat.add_zero, Nat.reduceMul, Nat.reduceSub, ne_eq, not_false_eq_true, not_true_eq_false, and_self, and_true, true_and, or_self, or_true, true_or, or_false, false_or, if_true, if_false, reduceIte, reduceCtorEq, implies_true, ite_self, ite_not, k15, c126_x hy h7, kn_x mh129]
    · simp only [w255_0, w255_1, w255_2, w255_5, w255_8, w255_11, w255_12, w255_13, w255_14, w255_17, w255_20, w255_21, kn_s, kn_n, zh_mk, zR_mk, zI_mk, zL_mk, zD_mk, wI_mk, wL_mk, wD_mk, zT_mk, zC_mk, kill_i, kill_r, kill_0, kill_n, kill_l, kill_q, zzk_r, zzk_0, zzk_q, zcat_r, zcat_i, zcat_0, cats_0, cats_i, cats_r, cats_l, cats_d, cats_f, rv_s, rv_0, Nat.reduceAdd, Nat.reduceLeDiff, Nat.add_zero, Nat.reduceMul, Nat.reduceSub, ne_eq, not_false_eq_true, not_true_eq_false, and_self, and_true, true_and, or_self, or_true, true_or, or_false, false_or, if_true, if_false, reduceIte, reduceCtorEq, implies_true, ite_self, ite_not, kM, kMr, kRow hw, sR_at, up2_r64, r64_at, o_add, o_sub, o_mul, o_neg, q_add, q_sub, q_mul, q_neg, o_32, cast_s, Int.toNat_natCast, kM1, kA295, c249 hy, c150, eq_false h7, thr, p_0]
      rfl
theorem pk30 (hI : Inv xs c t I L) : PairJ (d + 40) 130 [some (.ref 15), some (.int x)] [(1, 1)] (d + 41) 256 [some (.ref 294), some (.int x), none] N xs c t I L D := by
  obtain ⟨z2, rfl, hy⟩ := o_z x
  obtain ⟨b, e, α, n, m, o, hb19, he46, hb, he, hd, h5, h6, hR, hG, hE, hL, hN⟩ := Inv_tr hI
  have h10 := hG.1.1
  have hw : RW 295 := Or.inl rfl
  by_cases h7 : 0 ≤ z2 ∧ z2 ≤ 50
  · have hG' := uK_G (k := 60 * z2.toNat) (n := n) (m := m) (o := o) (u := (α, (uF I α).2)) hG
    have eb := enA_b hG'
    refine PairJ_pr (e := e) (u := uK n m o (60 * z2.toNat) (α, (uF I α).2)) (β := (uK n m o (60 * z2.toNat) (α, (uF I α).2)).1) (v := Int64.ofInt (enA (uK n m o (60 * z2.toNat) (α, (uF I α).2)).1 n)) he46 hI hN hL (fun Q hQ => ?_) (fun ℓ' L2 Q => ?_)
    · simp only [w130_0, w130_1, w130_2, kn_s, kn_n, zh_mk, zR_mk, zI_mk, zL_mk, zD_mk, wI_mk, wL_mk, wD_mk, zT_mk, zC_mk, kill_i, kill_r, kill_0, kill_n, kill_l, kill_q, zzk_r, zzk_0, zzk_q, zcat_r, zcat_i, zcat_0, cats_0, cats_i, cats_r, cats_l, cats_d, cats_f, rv_s, rv_0, Nat.reduceAdd, Nat.reduceLeDiff, Nat.add_zero, Nat.reduceMul, Nat.reduceSub, ne_eq, not_false_eq_true, not_true_eq_false, and_self, and_true, true_and, or_self, or_true, true_or, or_false, false_or, if_true, if_false, reduceIte, reduceCtorEq, implies_true, ite_self, ite_not, k15]
      refine c126 (v := (uF I α).2) he hb hd h5 h6 hR hG h7 (fun ℓ' μ' h => ?_)
      simp only [w130_5, w130_6, w130_9, w130_12, w130_13, kn_s, kn_n, zh_mk, zR_mk, zI_mk, zL_mk, zD_mk, wI_mk, wL_mk, wD_mk, zT_mk, zC_mk, kill_i, kill_r, kill_0, kill_n, kill_l, kill_q, zzk_r, zzk_0, zzk_q, zcat_r, zcat_i, zcat_0, cats_0, cats_i, cats_r, cats_l, cats_d, cats_f, rv_s, rv_0, Nat.reduceAdd, Nat.reduceLeDiff, Nat.add_zero, Nat.reduceMul, Nat.reduceSub, ne_eq, not_false_eq_true, not_true_eq_false, and_self, and_true, true_and, or_self, or_true, true_or, or_false, false_or, if_true, if_false, reduceIte, reduceCtorEq, implies_true, ite_self, ite_not, lay_in, lay_0, up2_lay, up2_lay0, kh0, kh1, kh2, kh3, kh4, kh5, kh6, kh7, kh8, kh9, kh10, kh11, kh12, khB, khP, kr2, kr4, kr5, kr7, kr8, kr9, kr10, krB, krP, krG0, krG1, krG2, krG3, krK, Nat.reduceLT, o_add, o_sub, o_mul, o_neg, q_add, q_sub, q_mul, q_neg, o_32, cast_s, Int.toNat_natCast, k15, h5, h6, he, c44 he h hG', o_64 (z := enA (uK n m o (60 * z2.toNat) (α, (uF I α).2)).1 n) (by omega)]
      exact hQ ℓ' μ'
    · exact c256 hG (IF_J he46) h7
  · refine PairJ_x (y := Int64.ofInt 0) (I' := I) hI hL rfl rfl m1 (fun Q => ?_) (fun L2 Q => ?_) (by omega)
    · simp only [w130_0, w130_1, w130_2, w130_5, w130_6, w130_9, w130_12, w130_13, kn_s, kn_n, zh_mk, zR_mk, zI_mk, zL_mk, zD_mk, wI_mk, wL_mk, wD_mk, zT_mk, zC_mk, kill_i, kill_r, kill_0, kill_n, kill_l, kill_q, zzk_r, zzk_0, zzk_q, zcat_r, zcat_i, zcat_0, cats_0, cats_i, cats_r, cats_l, cats_d, cats_f, rv_s, rv_0, Nat.reduceAdd, Nat.reduceLeDiff, Nat.add_zero, Nat.reduceMul, Nat.reduceSub, ne_eq, not_false_eq_true, not_true_eq_false, and_self, and_true, true_and, or_self, or_true, true_or, or_false, false_or, if_true, if_false, reduceIte, reduceCtorEq, implies_true, ite_self, ite_not, k15, c126_x hy h7, kn_x mh130]
    · simp only [w256_0, w256_1, w256_2, w256_5, w256_8, w256_11, w256_12, w256_13, w256_14, w256_17, w256_18, w256_20, w256_21, w256_22, w256_25, w256_26, w256_27, w256_28, w256_31, w256_34, kn_s, kn_n, zh_mk, zR_mk, zI_mk, zL_mk, zD_mk, wI_mk, wL_mk, wD_mk, zT_mk, zC_mk, kill_i, kill_r, kill_0, kill_n, kill_l, kill_q, zzk_r, zzk_0, zzk_q, zcat_r, zcat_i, zcat_0, cats_0, cats_i, cats_r, cats_l, cats_d, cats_f, rv_s, rv_0, Nat.reduceAdd, Nat.reduceLeDiff, Nat.add_zero, Nat.reduceMul, Nat.reduceSub, ne_eq, not_false_eq_true, not_true_eq_false, and_self, and_true, true_and, or_self, or_true, true_or, or_false, false_or, if_true, if_false, reduceIte, reduceCtorEq, implies_true, ite_self, ite_not, kM, kMr, kRow hw, sR_at, up2_r64, r64_at, o_add, o_sub, o_mul, o_neg, q_add, q_sub, q_mul, q_neg, o_32, cast_s, Int.toNat_natCast, kM1, kA295, c249 hy, c150, eq_false h7, thr, p_0]
      rfl
theorem pk31 (hI : Inv xs c t I L) : PairI (d + 41) 92 [some (.ref 15), none] [] (d + 41) 257 [some (.ref 294), none, none] N xs c t I L D := by
  obtain ⟨b, e, α, n, m, o, hb19, he46, hb, he, hd, h5, h6, hR, hG, hE, hL, hN⟩ := Inv_tr hI
  have h10 := hG.1.1
  have hw : RW 295 := Or.inl rfl
  refine PairI_pr (e := e) (u := (clF n m o 51 0 (α, (uF I α).2)).2) (β := ((clF n m o 51 0 (α, (uF I α).2)).2).1) (v := Int32.ofInt (clF n m o 51 0 (α, (uF I α).2)).1) he46 hI hN hL (fun Q hQ => ?_) (fun ℓ' L2 Q => ?_)
  · exact c92 (v := (uF I α).2) he hb hd h5 h6 hR hG hQ
  · exact c257 hG (IF_J he46)
theorem pk32 (hI : Inv xs c t I L) : PairJ (d + 40) 131 [some (.ref 15), some (.int (bI x)), some (.int y), some (.int z), none] [(1, 1)] (d + 41) 258 [some (.ref 294), some (.int (bI x)), some (.int y), some (.int z), none] N xs c t I L D := by
  obtain ⟨z1, rfl, hz⟩ := o_z y
  obtain ⟨z2, rfl, hy⟩ := o_z z
  obtain ⟨b, e, α, n, m, o, hb19, he46, hb, he, hd, h5, h6, hR, hG, hE, hL, hN⟩ := Inv_tr hI
  have h10 := hG.1.1
  have hw : RW 295 := Or.inl rfl
  unfold bI
  by_cases hs : 0 ≤ z1 ∧ z1 ≤ 100
  · by_cases h7 : 0 ≤ z2 ∧ z2 ≤ 50
    · by_cases hx : x = Int32.ofInt 0
      · simp only [eq_true hx, if_true, if_false]
        have hGw := wsA_G hG (r := false) hs
        have hG' := uK_G (k := 60 * z2.toNat) (n := n) (m := m) (o := o) (u := (wsA α false z1, (uF I α).2)) hGw
        have eb := enA_b hG'
        have hRw : RL (up2 (mg CP (gl b I) (gl e I)) 4 1 (Int32.ofInt z1)) (muC (gl b L) (gl e L)) (wsA α false z1) n m o := RL_i (key := 8) (v := z1) (RL_mg (ℓ := gl e I) (μ := gl e L) hR hG.1.1) (by unfold kd; omega)
        refine PairJ_pr (e := e) (u := uK n m o (60 * z2.toNat) (wsA α false z1, (uF I α).2)) (β := (uK n m o (60 * z2.toNat) (wsA α false z1, (uF I α).2)).1) (v := Int64.ofInt (enA (uK n m o (60 * z2.toNat) (wsA α false z1, (uF I α).2)).1 n)) he46 hI hN hL (fun Q hQ => ?_) (fun ℓ' L2 Q => ?_)
        · simp only [w131_0, w131_1, w131_2, w131_4, w131_7, w131_8, w131_9, w131_11, w131_14, w131_15, w131_18, w131_19, w131_22, w131_25, w131_26, w131_29, w131_30, w131_33, w131_36, w131_39, w131_40, w131_43, w131_46, w131_48, w131_50, w131_51, w131_54, w131_55, w131_58, w131_59, w131_61, w131_62, kn_s, kn_n, zh_mk, zR_mk, zI_mk, zL_mk, zD_mk, wI_mk, wL_mk, wD_mk, zT_mk, zC_mk, kill_i, kill_r, kill_0, kill_n, kill_l, kill_q, zzk_r, zzk_0, zzk_q, zcat_r, zcat_i, zcat_0, cats_0, cats_i, cats_r, cats_l, cats_d, cats_f, rv_s, rv_0, Nat.reduceAdd, Nat.reduceLeDiff, Nat.add_zero, Nat.reduceMul, Nat.reduceSub, ne_eq, not_false_eq_true, not_true_eq_false, and_self, and_true, true_and, or_self, or_true, true_or, or_false, false_or, if_true, if_false, reduceIte, reduceCtorEq, implies_true, ite_self, ite_not, lay_in, lay_0, up2_lay, up2_lay0, kh0, kh1, kh2, kh3, kh4, kh5, kh6, kh7, kh8, kh9, kh10, kh11, kh12, khB, khP, kr2, kr4, kr5, kr7, kr8, kr9, kr10, krB, krP, krG0, krG1, krG2, krG3, krK, Nat.reduceLT, o_add, o_sub, o_mul, o_neg, q_add, q_sub, q_mul, q_neg, o_32, cast_s, Int.toNat_natCast, k15, h5, h6, he, hb, i00, i10, c104 (z := z1) (l := 0) (h := 100) hz (by omega) (by omega) hs, c104 (z := z2) (l := 0) (h := 50) hy (by omega) (by omega) h7, c32t he hb hd]
          rw [show z2 * 60 = ((60 * z2.toNat : Nat) : Int) by omega]
          refine c33 he (by omega) (u := (wsA α false z1, (uF I α).2)) hRw hGw (fun ℓ' μ' h => ?_)
          simp only [w131_65, w131_66, w131_67, w131_70, w131_73, w131_74, kn_s, kn_n, zh_mk, zR_mk, zI_mk, zL_mk, zD_mk, wI_mk, wL_mk, wD_mk, zT_mk, zC_mk, kill_i, kill_r, kill_0, kill_n, kill_l, kill_q, zzk_r, zzk_0, zzk_q, zcat_r, zcat_i, zcat_0, cats_0, cats_i, cats_r, cats_l, cats_d, cats_f, rv_s, rv_0, Nat.reduceAdd, Nat.reduceLeDiff, Nat.add_zero, Nat.reduceMul, Nat.reduceSub, ne_eq, not_false_eq_true, not_true_eq_false, and_self, and_true, true_and, or_self, or_true, true_or, or_false, false_or, if_true, if_false, reduceIte, reduceCtorEq, implies_true, ite_self, ite_not, lay_in, lay_0, up2_lay, up2_lay0, kh0, kh1, kh2, kh3, kh4, kh5, kh6, kh7, kh8, kh9, kh10, kh11, kh12, khB, khP, kr2, kr4, kr5, kr7, kr8, kr9, kr10, krB, krP, krG0, krG1, krG2, krG3, krK, Nat.reduceLT, o_add, o_sub, o_mul, o_neg, q_add, q_sub, q_mul, q_neg, o_32, cast_s, Int.toNat_natCast, k15, h5, h6, he, c44 he h hG', o_64 (z := enA (uK n m o (60 * z2.toNat) (wsA α false z1, (uF I α).2)).1 n) (by omega)]
          exact hQ ℓ' μ'
        · exact c258 (r := false) hG (IF_J he46) hs h7
      · simp only [eq_false hx, if_true, if_false]
        have hGw := wsA_G hG (r := true) hs
        have hG' := uK_G (k := 60 * z2.toNat) (n := n) (m := m) (o := o) (u := (wsA α true z1, (uF I α).2)) hGw
        have eb := enA_b hG'
        have hRw : RL (up2 (mg CP (gl b I) (gl e I)) 5 1 (Int32.ofInt z1)) (muC (gl b L) (gl e L)) (wsA α true z1) n m o := RL_i (key := 9) (v := z1) (RL_mg (ℓ := gl e I) (μ := gl e L) hR hG.1.1) (by unfold kd; omega)
        refine PairJ_pr (e := e) (u := uK n m o (60 * z2.toNat) (wsA α true z1, (uF I α).2)) (β := (uK n m o (60 * z2.toNat) (wsA α true z1, (uF I α).2)).1) (v := Int64.ofInt (enA (uK n m o (60 * z2.toNat) (wsA α true z1, (uF I α).2)).1 n)) he46 hI hN hL (fun Q hQ => ?_) (fun ℓ' L2 Q => ?_)
        · simp only [w131_0, w131_1, w131_2, w131_4, w131_7, w131_8, w131_9, w131_11, w131_14, w131_15, w131_18, w131_19, w131_22, w131_25, w131_26, w131_29, w131_30, w131_33, w131_36, w131_39, w131_40, w131_43, w131_46, w131_48, w131_50, w131_51, w131_54, w131_55, w131_58, w131_59, w131_61, w131_62, kn_s, kn_n, zh_mk, zR_mk, zI_mk, zL_mk, zD_mk, wI_mk, wL_mk, wD_mk, zT_mk, zC_mk, kill_i, kill_r, kill_0, kill_n, kill_l, kill_q, zzk_r, zzk_0, zzk_q, zcat_r, zcat_i, zcat_0, cats_0, cats_i, cats_r, cats_l, cats_d, cats_f, rv_s, rv_0, Nat.reduceAdd, Nat.reduceLeDiff, Nat.add_zero, Nat.reduceMul, Nat.reduceSub, ne_eq, not_false_eq_true, not_true_eq_false, and_self, and_true, true_and, or_self, or_true, true_or, or_false, false_or, if_true, if_false, reduceIte, reduceCtorEq, implies_true, ite_self, ite_not, lay_in, lay_0, up2_lay, up2_lay0, kh0, kh1, kh2, kh3, kh4, kh5, kh6, kh7, kh8, kh9, kh10, kh11, kh12, khB, khP, kr2, kr4, kr5, kr7, kr8, kr9, kr10, krB, krP, krG0, krG1, krG2, krG3, krK, Nat.reduceLT, o_add, o_sub, o_mul, o_neg, q_add, q_sub, q_mul, q_neg, o_32, cast_s, Int.toNat_natCast, k15, h5, h6, he, hb, i00, i10, c104 (z := z1) (l := 0) (h := 100) hz (by omega) (by omega) hs, c104 (z := z2) (l := 0) (h := 50) hy (by omega) (by omega) h7, c32t he hb hd]
          rw [show z2 * 60 = ((60 * z2.toNat : Nat) : Int) by omega]
          refine c33 he (by omega) (u := (wsA α true z1, (uF I α).2)) hRw hGw (fun ℓ' μ' h => ?_)
          simp only [w131_65, w131_66, w131_67, w131_70, w131_73, w131_74, kn_s, kn_n, zh_mk, zR_mk, zI_mk, zL_mk, zD_mk, wI_mk, wL_mk, wD_mk, zT_mk, zC_mk, kill_i, kill_r, kill_0, kill_n, kill_l, kill_q, zzk_r, zzk_0, zzk_q, zcat_r, zcat_i, zcat_0, cats_0, cats_i, cats_r, cats_l, cats_d, cats_f, rv_s, rv_0, Nat.reduceAdd, Nat.reduceLeDiff, Nat.add_zero, Nat.reduceMul, Nat.reduceSub, ne_eq, not_false_eq_true, not_true_eq_false, and_self, and_true, true_and, or_self, or_true, true_or, or_false, false_or, if_true, if_false, reduceIte, reduceCtorEq, implies_true, ite_self, ite_not, lay_in, lay_0, up2_lay, up2_lay0, kh0, kh1, kh2, kh3, kh4, kh5, kh6, kh7, kh8, kh9, kh10, kh11, kh12, khB, khP, kr2, kr4, kr5, kr7, kr8, kr9, kr10, krB, krP, krG0, krG1, krG2, krG3, krK, Nat.reduceLT, o_add, o_sub, o_mul, o_neg, q_add, q_sub, q_mul, q_neg, o_32, cast_s, Int.toNat_natCast, k15, h5, h6, he, c44 he h hG', o_64 (z := enA (uK n m o (60 * z2.toNat) (wsA α true z1, (uF I α).2)).1 n) (by omega)]
          exact hQ ℓ' μ'
        · exact c258 (r := true) hG (IF_J he46) hs h7
    · refine PairJ_x (y := Int64.ofInt 0) (I' := I) hI hL rfl rfl m1 (fun Q => ?_) (fun L2 Q => ?_) (by omega)
      · simp only [w131_0, w131_1, w131_2, w131_4, w131_7, w131_8, w131_9, w131_11, w131_14, w131_15, w131_18, w131_19, w131_22, w131_25, w131_26, w131_29, w131_30, w131_33, w131_36, w131_39, w131_40, w131_43, w131_46, w131_48, w131_50, w131_51, w131_54, w131_55, w131_58, w131_59, w131_61, w131_62, w131_65, w131_66, w131_67, w131_70, w131_73, w131_74, kn_s, kn_n, zh_mk, zR_mk, zI_mk, zL_mk, zD_mk, wI_mk, wL_mk, wD_mk, zT_mk, zC_mk, kill_i, kill_r, kill_0, kill_n, kill_l, kill_q, zzk_r, zzk_0, zzk_q, zcat_r, zcat_i, zcat_0, cats_0, cats_i, cats_r, cats_l, cats_d, cats_f, rv_s, rv_0, Nat.reduceAdd, Nat.reduceLeDiff, Nat.add_zero, Nat.reduceMul, Nat.reduceSub, ne_eq, not_false_eq_true, not_true_eq_false, and_self, and_true, true_and, or_self, or_true, true_or, or_false, false_or, if_true, if_false, reduceIte, reduceCtorEq, implies_true, ite_self, ite_not, k15, c104 (z := z1) (l := 0) (h := 100) hz (by omega) (by omega) hs, c104_x (z := z2) (l := 0) (h := 50) hy (by omega) (by omega) h7, kn_x mh131]
      · simp only [w258_0, w258_1, w258_2, w258_5, w258_8, w258_9, w258_12, w258_15, w258_16, w258_19, w258_20, w258_23, w258_26, w258_27, w258_28, w258_29, w258_32, w258_33, w258_36, w258_38, w258_39, w258_42, w258_43, w258_46, w258_47, w258_48, w258_49, w258_50, w258_51, w258_52, w258_54, w258_55, w258_56, w258_59, w258_61, w258_62, w258_63, w258_66, w258_69, kn_s, kn_n, zh_mk, zR_mk, zI_mk, zL_mk, zD_mk, wI_mk, wL_mk, wD_mk, zT_mk, zC_mk, kill_i, kill_r, kill_0, kill_n, kill_l, kill_q, zzk_r, zzk_0, zzk_q, zcat_r, zcat_i, zcat_0, cats_0, cats_i, cats_r, cats_l, cats_d, cats_f, rv_s, rv_0, Nat.reduceAdd, Nat.reduceLeDiff, Nat.add_zero, Nat.reduceMul, Nat.reduceSub, ne_eq, not_false_eq_true, not_true_eq_false, and_self, and_true, true_and, or_self, or_true, true_or, or_false, false_or, if_true, if_false, reduceIte, reduceCtorEq, implies_true, ite_self, ite_not, kM, kMr, kRow hw, sR_at, up2_r64, r64_at, o_add, o_sub, o_mul, o_neg, q_add, q_sub, q_mul, q_neg, o_32, cast_s, Int.toNat_natCast, kM1, kA295, c226 hz, c249 hy, c150f, eq_true hs, eq_false h7, p_0, i00]
        rfl
  · refine PairJ_x (y := Int64.ofInt 0) (I' := I) hI hL rfl rfl m1 (fun Q => ?_) (fun L2 Q => ?_) (by omega)
    · simp only [w131_0, w131_1, w131_2, w131_4, w131_7, w131_8, w131_9, w131_11, w131_14, w131_15, w131_18, w131_19, w131_22, w131_25, w131_26, w131_29, w131_30, w131_33, w131_36, w131_39, w131_40, w131_43, w131_46, w131_48, w131_50, w131_51, w131_54, w131_55, w131_58, w131_59, w131_61, w131_62, w131_65, w131_66, w131_67, w131_70, w131_73, w131_74, kn_s, kn_n, zh_mk, zR_mk, zI_mk, zL_mk, zD_mk, wI_mk, wL_mk, wD_mk, zT_mk, zC_mk, kill_i, kill_r, kill_0, kill_n, kill_l, kill_q, zzk_r, zzk_0, zzk_q, zcat_r, zcat_i, zcat_0, cats_0, cats_i, cats_r, cats_l, cats_d, cats_f, rv_s, rv_0, Nat.reduceAdd, Nat.reduceLeDiff, Nat.add_zero, Nat.reduceMul, Nat.reduceSub, ne_eq, not_false_eq_true, not_true_eq_false, and_self, and_true, true_and, or_self, or_true, true_or, or_false, false_or, if_true, if_false, reduceIte, reduceCtorEq, implies_true, ite_self, ite_not, k15, c104_x (z := z1) (l := 0) (h := 100) hz (by omega) (by omega) hs, kn_x mh131]
    · simp only [w258_0, w258_1, w258_2, w258_5, w258_8, w258_9, w258_12, w258_15, w258_16, w258_19, w258_20, w258_23, w258_26, w258_27, w258_28, w258_29, w258_32, w258_33, w258_36, w258_38, w258_39, w258_42, w258_43, w258_46, w258_47, w258_48, w258_49, w258_50, w258_51, w258_52, w258_54, w258_55, w258_56, w258_59, w258_61, w258_62, w258_63, w258_66, w258_69, kn_s, kn_n, zh_mk, zR_mk, zI_mk, zL_mk, zD_mk, wI_mk, wL_mk, wD_mk, zT_mk, zC_mk, kill_i, kill_r, kill_0, kill_n, kill_l, kill_q, zzk_r, zzk_0, zzk_q, zcat_r, zcat_i, zcat_0, cats_0, cats_i, cats_r, cats_l, cats_d, cats_f, rv_s, rv_0, Nat.reduceAdd, Nat.reduceLeDiff, Nat.add_zero, Nat.reduceMul, Nat.reduceSub, ne_eq, not_false_eq_true, not_true_eq_false, and_self, and_true, true_and, or_self, or_true, true_or, or_false, false_or, if_true, if_false, reduceIte, reduceCtorEq, implies_true, ite_self, ite_not, kM, kMr, kRow hw, sR_at, up2_r64, r64_at, o_add, o_sub, o_mul, o_neg, q_add, q_sub, q_mul, q_neg, o_32, cast_s, Int.toNat_natCast, kM1, kA295, c226 hz, c249 hy, c150f, eq_false hs, p_0, i00]
      rfl
theorem pk23 (hI : Inv xs c t I L) : PairI (d + 41) 89 [some (.ref 15)] [] (d + 41) 230 [some (.ref 294)] N xs c t I L D := by
  obtain ⟨b, e, α, n, m, o, hb19, he46, hb, he, hd, h5, h6, hR, hG, hE, hL, hN⟩ := Inv_tr hI
  have h10 := hG.1.1
  have hw : RW 295 := Or.inl rfl
  refine PairI_pr (e := e) (u := (nhF n m o (-1) 3000 1 (α, (uF I α).2)).2) (β := ((nhF n m o (-1) 3000 1 (α, (uF I α).2)).2).1) (v := Int32.ofInt (nhF n m o (-1) 3000 1 (α, (uF I α).2)).1) he46 hI hN hL (fun Q hQ => ?_) (fun ℓ' L2 Q => ?_)
  · simp only [w89_0, w89_1, kn_s, kn_n, zh_mk, zR_mk, zI_mk, zL_mk, zD_mk, wI_mk, wL_mk, wD_mk, zT_mk, zC_mk, kill_i, kill_r, kill_0, kill_n, kill_l, kill_q, zzk_r, zzk_0, zzk_q, zcat_r, zcat_i, zcat_0, cats_0, cats_i, cats_r, cats_l, cats_d, cats_f, rv_s, rv_0, Nat.reduceAdd, Nat.reduceLeDiff, Nat.add_zero, Nat.reduceMul, Nat.reduceSub, ne_eq, not_false_eq_true, not_true_eq_false, and_self, and_true, true_and, or_self, or_true, true_or, or_false, false_or, if_true, if_false, reduceIte, reduceCtorEq, implies_true, ite_self, ite_not, k15]
    refine c90 (v := (uF I α).2) he hb hd h5 h6 hR hG (fun ℓ' μ' _ => ?_)
    simp only [w89_4, kn_s, kn_n, zh_mk, zR_mk, zI_mk, zL_mk, zD_mk, wI_mk, wL_mk, wD_mk, zT_mk, zC_mk, kill_i, kill_r, kill_0, kill_n, kill_l, kill_q, zzk_r, zzk_0, zzk_q, zcat_r, zcat_i, zcat_0, cats_0, cats_i, cats_r, cats_l, cats_d, cats_f, rv_s, rv_0, Nat.reduceAdd, Nat.reduceLeDiff, Nat.add_zero, Nat.reduceMul, Nat.reduceSub, ne_eq, not_false_eq_true, not_true_eq_false, and_self, and_true, true_and, or_self, or_true, true_or, or_false, false_or, if_true, if_false, reduceIte, reduceCtorEq, implies_true, ite_self, ite_not]
    exact hQ ℓ' μ'
  · have c := fun (d : Nat) (Q : Rs → St → Prop) => c231 (d := d) (N := N) (t := t) (L := L2) (D := D) (Q := Q) (z := -1) hG (IF_J (ℓ := ℓ') (I := I) (α := α) he46) (by omega)
    simp only [w230_0, w230_1, w230_2, w230_5, w230_6, w230_7, w230_10, kn_s, kn_n, zh_mk, zR_mk, zI_mk, zL_mk, zD_mk, wI_mk, wL_mk, wD_mk, zT_mk, zC_mk, kill_i, kill_r, kill_0, kill_n, kill_l, kill_q, zzk_r, zzk_0, zzk_q, zcat_r, zcat_i, zcat_0, cats_0, cats_i, cats_r, cats_l, cats_d, cats_f, rv_s, rv_0, Nat.reduceAdd, Nat.reduceLeDiff, Nat.add_zero, Nat.reduceMul, Nat.reduceSub, ne_eq, not_false_eq_true, not_true_eq_false, and_self, and_true, true_and, or_self, or_true, true_or, or_false, false_or, if_true, if_false, reduceIte, reduceCtorEq, implies_true, ite_self, ite_not, kM, kMr, kRow hw, sR_at, up2_r64, r64_at, o_add, o_sub, o_mul, o_neg, q_add, q_sub, q_mul, q_neg, o_32, cast_s, Int.toNat_natCast, c]
    rfl
theorem pk24 (hcN : c ≤ 100000) (hI : Inv xs c t I L) : PairI (d + 41) 91 [some (.ref 15), some (.int (bI x)), none] [] (d + 41) 246 [some (.ref 294), some (.int (bI x)), none] N xs c t I L D := by
  obtain ⟨b, e, α, n, m, o, hb19, he46, hb, he, hd, h5, h6, hR, hG, hE, hL, hN⟩ := Inv_tr hI
  have h10 := hG.1.1
  have hw : RW 295 := Or.inl rfl
  have hNE := nhF_end (z := -1) 3000 1 (α, (uF I α).2) hG ⟨hE.1.1, hE.2.1⟩
  have c31 := fun (ℓ' : Nat → Nat → Int32) (L2 : Nat → Nat → Int64) (d : Nat) (Q : Rs → St → Prop) => c231 (d := d) (N := N) (t := t) (L := L2) (D := D) (Q := Q) (z := -1) hG (IF_J (ℓ := ℓ') (I := I) (α := α) he46) (by omega)
  have hb1 : (nhF n m o (-1) 3000 1 (α, (uF I α).2)).1 < 10000 ∧ -1 ≤ (nhF n m o (-1) 3000 1 (α, (uF I α).2)).1 := by rcases hNE with h1 | ⟨u', h1, h2, h3, h4, h8, h9, h11, h12⟩ <;> omega
  rcases hNE with h1 | ⟨u', h1, h2, h3, h4, h8, h9, h11, h12⟩
  · refine PairI_pr (e := e) (u := (nhF n m o (-1) 3000 1 (α, (uF I α).2)).2) (β := ((nhF n m o (-1) 3000 1 (α, (uF I α).2)).2).1) (v := Int32.ofInt (-1)) he46 hI hN hL (fun Q hQ => ?_) (fun ℓ' L2 Q => ?_)
    · simp only [w91_0, w91_1, kn_s, kn_n, zh_mk, zR_mk, zI_mk, zL_mk, zD_mk, wI_mk, wL_mk, wD_mk, zT_mk, zC_mk, kill_i, kill_r, kill_0, kill_n, kill_l, kill_q, zzk_r, zzk_0, zzk_q, zcat_r, zcat_i, zcat_0, cats_0, cats_i, cats_r, cats_l, cats_d, cats_f, rv_s, rv_0, Nat.reduceAdd, Nat.reduceLeDiff, Nat.add_zero, Nat.reduceMul, Nat.reduceSub, ne_eq, not_false_eq_true, not_true_eq_false, and_self, and_true, true_and, or_self, or_true, true_or, or_false, false_or, if_true, if_false, reduceIte, reduceCtorEq, implies_true, ite_self, ite_not, k15]
      refine c90 (v := (uF I α).2) he hb hd h5 h6 hR hG (fun ℓ' μ' _ => ?_)
      rw [h1]
      simp only [w91_4, w91_5, w91_8, w91_9, kn_s, kn_n, zh_mk, zR_mk, zI_mk, zL_mk, zD_mk, wI_mk, wL_mk, wD_mk, zT_mk, zC_mk, kill_i, kill_r, kill_0, kill_n, kill_l, kill_q, zzk_r, zzk_0, zzk_q, zcat_r, zcat_i, zcat_0, cats_0, cats_i, cats_r, cats_l, cats_d, cats_f, rv_s, rv_0, Nat.reduceAdd, Nat.reduceLeDiff, Nat.add_zero, Nat.reduceMul, Nat.reduceSub, ne_eq, not_false_eq_true, not_true_eq_false, and_self, and_true, true_and, or_self, or_true, true_or, or_false, false_or, if_true, if_false, reduceIte, reduceCtorEq, implies_true, ite_self, ite_not, show (Int32.ofInt (-1) = Int32.ofInt (-1)) = True by decide]
      exact hQ ℓ' μ'
    · simp only [w246_0, w246_1, w246_2, w246_5, w246_6, w246_7, w246_10, w246_11, w246_12, w246_13, w246_16, w246_17, w246_20, w246_21, w246_24, w246_25, w246_28, w246_31, w246_32, w246_35, kn_s, kn_n, zh_mk, zR_mk, zI_mk, zL_mk, zD_mk, wI_mk, wL_mk, wD_mk, zT_mk, zC_mk, kill_i, kill_r, kill_0, kill_n, kill_l, kill_q, zzk_r, zzk_0, zzk_q, zcat_r, zcat_i, zcat_0, cats_0, cats_i, cats_r, cats_l, cats_d, cats_f, rv_s, rv_0, Nat.reduceAdd, Nat.reduceLeDiff, Nat.add_zero, Nat.reduceMul, Nat.reduceSub, ne_eq, not_false_eq_true, not_true_eq_false, and_self, and_true, true_and, or_self, or_true, true_or, or_false, false_or, if_true, if_false, reduceIte, reduceCtorEq, implies_true, ite_self, ite_not, kM, kMr, kRow hw, sR_at, up2_r64, r64_at, o_add, o_sub, o_mul, o_neg, q_add, q_sub, q_mul, q_neg, o_32, cast_s, Int.toNat_natCast, c31, h1, show (Int32.ofInt (-1) = Int32.ofInt (-1)) = True by decide]
      rfl
  · have ht : (puU n m o u').2.2.2.2.1 ≠ -1 := by
      rcases h8 with h | h
      · exact h.2
      · exact absurd rfl h.1
    obtain ⟨k, k1, k2, k3, k4, k5⟩ := fh_u h1 h4 ht
    have hG' := puU_G (n := n) (m := m) (o := o) h1
    have e3 := puU_3 (n := n) (m := m) (o := o) h1
    have hX' := puU_LX h1 h2 h4
    have hne : ¬ ((nhF n m o (-1) 3000 1 (α, (uF I α).2)).1 = -1) := by omega
    have hkn : ¬ ((k : Int) = -1) := by omega
    have h3 : u'.1 3 ≤ α 3 + ((3000 : Nat) : Int) := h3
    have h3b := hE.1.2
    have hcN := hcN
    unfold bI
    by_cases hx : x = Int32.ofInt 0
    · simp only [eq_true hx, if_true, if_false]
      refine PairI_pr (e := e) (u := puU n m o u') (β := (puU n m o u').1) (v := Int32.ofInt ((puU n m o u').2.2.2.2.1)) he46 hI hN hL (fun Q hQ => ?_) (fun ℓ' L2 Q => ?_)
      · simp only [w91_0, w91_1, kn_s, kn_n, zh_mk, zR_mk, zI_mk, zL_mk, zD_mk, wI_mk, wL_mk, wD_mk, zT_mk, zC_mk, kill_i, kill_r, kill_0, kill_n, kill_l, kill_q, zzk_r, zzk_0, zzk_q, zcat_r, zcat_i, zcat_0, cats_0, cats_i, cats_r, cats_l, cats_d, cats_f, rv_s, rv_0, Nat.reduceAdd, Nat.reduceLeDiff, Nat.add_zero, Nat.reduceMul, Nat.reduceSub, ne_eq, not_false_eq_true, not_true_eq_false, and_self, and_true, true_and, or_self, or_true, true_or, or_false, false_or, if_true, if_false, reduceIte, reduceCtorEq, implies_true, ite_self, ite_not, k15]
        refine c90 (v := (uF I α).2) he hb hd h5 h6 hR hG (fun ℓ' μ' h => ?_)
        rw [h9] at h
        have er3 := rd_3 h
        have c5 := fun (Q : Rs → St → Prop) => c50 (d := d + 38) (N := N) (t := t) (w := 295) (b := e) (I := I) (L := lay e μ' L) (D := D) (Q := Q) he h hG' hX' (by omega) (T := u'.1 3) (by omega)
        rw [k3] at c5
        simp only [w91_4, w91_5, w91_8, w91_9, w91_10, w91_11, w91_14, w91_17, w91_18, w91_21, w91_24, w91_25, w91_26, w91_29, w91_30, w91_31, w91_32, w91_35, w91_36, w91_37, w91_38, w91_41, w91_42, w91_45, w91_48, w91_49, w91_52, w91_55, w91_56, w91_59, w91_62, w91_63, w91_66, kn_s, kn_n, zh_mk, zR_mk, zI_mk, zL_mk, zD_mk, wI_mk, wL_mk, wD_mk, zT_mk, zC_mk, kill_i, kill_r, kill_0, kill_n, kill_l, kill_q, zzk_r, zzk_0, zzk_q, zcat_r, zcat_i, zcat_0, cats_0, cats_i, cats_r, cats_l, cats_d, cats_f, rv_s, rv_0, Nat.reduceAdd, Nat.reduceLeDiff, Nat.add_zero, Nat.reduceMul, Nat.reduceSub, ne_eq, not_false_eq_true, not_true_eq_false, and_self, and_true, true_and, or_self, or_true, true_or, or_false, false_or, if_true, if_false, reduceIte, reduceCtorEq, implies_true, ite_self, ite_not, lay_in, lay_0, up2_lay, up2_lay0, kh0, kh1, kh2, kh3, kh4, kh5, kh6, kh7, kh8, kh9, kh10, kh11, kh12, khB, khP, kr2, kr4, kr5, kr7, kr8, kr9, kr10, krB, krP, krG0, krG1, krG2, krG3, krK, Nat.reduceLT, o_add, o_sub, o_mul, o_neg, q_add, q_sub, q_mul, q_neg, o_32, cast_s, Int.toNat_natCast, k15, h5, h6, he, i00, i10, o_eq (a := (nhF n m o (-1) 3000 1 (α, (uF I α).2)).1) (b := -1) (by omega), eq_false hne, er3, e3, show u'.1 3 + 1 - 1 = u'.1 3 by omega, c5, o_eq (a := (k : Int)) (b := -1) (by omega), eq_false hkn, c54 he h k1 k2, k4]
        exact hQ ℓ' μ'
      · have f : uS (up2 (lay e ℓ' I) 294 0 (Int32.ofInt 0)) (puU n m o u') 294 7 = Int32.ofInt ((puU n m o u').2.2.2.2.1) := by unfold uS; rw [ms_at (by omega)]; rfl
        simp only [w246_0, w246_1, w246_2, w246_5, w246_6, w246_7, w246_10, w246_11, w246_12, w246_13, w246_16, w246_17, w246_20, w246_21, w246_24, w246_25, w246_28, w246_31, w246_32, w246_35, kn_s, kn_n, zh_mk, zR_mk, zI_mk, zL_mk, zD_mk, wI_mk, wL_mk, wD_mk, zT_mk, zC_mk, kill_i, kill_r, kill_0, kill_n, kill_l, kill_q, zzk_r, zzk_0, zzk_q, zcat_r, zcat_i, zcat_0, cats_0, cats_i, cats_r, cats_l, cats_d, cats_f, rv_s, rv_0, Nat.reduceAdd, Nat.reduceLeDiff, Nat.add_zero, Nat.reduceMul, Nat.reduceSub, ne_eq, not_false_eq_true, not_true_eq_false, and_self, and_true, true_and, or_self, or_true, true_or, or_false, false_or, if_true, if_false, reduceIte, reduceCtorEq, implies_true, ite_self, ite_not, kM, kMr, kRow hw, sR_at, up2_r64, r64_at, o_add, o_sub, o_mul, o_neg, q_add, q_sub, q_mul, q_neg, o_32, cast_s, Int.toNat_natCast, i00, i10, c31, o_eq (a := (nhF n m o (-1) 3000 1 (α, (uF I α).2)).1) (b := -1) (by omega), eq_false hne, h9, f]
        rfl
    · simp only [eq_false hx, if_true, if_false]
      refine PairI_pr (e := e) (u := puU n m o u') (β := (puU n m o u').1) (v := Int32.ofInt ((puU n m o u').2.2.2.2.2.1)) he46 hI hN hL (fun Q hQ => ?_) (fun ℓ' L2 Q => ?_)
      · simp only [w91_0, w91_1, kn_s, kn_n, zh_mk, zR_mk, zI_mk, zL_mk, zD_mk, wI_mk, wL_mk, wD_mk, zT_mk, zC_mk, kill_i, kill_r, kill_0, kill_n, kill_l, kill_q, zzk_r, zzk_0, zzk_q, zcat_r, zcat_i, zcat_0, cats_0, cats_i, cats_r, cats_l, cats_d, cats_f, rv_s, rv_0, Nat.reduceAdd, Nat.reduceLeDiff, Nat.add_zero, Nat.reduceMul, Nat.reduceSub, ne_eq, not_false_eq_true, not_true_eq_false, and_self, and_true, true_and, or_self, or_true, true_or, or_false, false_or, if_true, if_false, reduceIte, reduceCtorEq, implies_true, ite_self, ite_not, k15]
        refine c90 (v := (uF I α).2) he hb hd h5 h6 hR hG (fun ℓ' μ' h => ?_)
        rw [h9] at h
        have er3 := rd_3 h
        have c5 := fun (Q : Rs → St → Prop) => c50 (d := d + 38) (N := N) (t := t) (w := 295) (b := e) (I := I) (L := lay e μ' L) (D := D) (Q := Q) he h hG' hX' (by omega) (T := u'.1 3) (by omega)
        rw [k3] at c5
        simp only [w91_4, w91_5, w91_8, w91_9, w91_10, w91_11, w91_14, w91_17, w91_18, w91_21, w91_24, w91_25, w91_26, w91_29, w91_30, w91_31, w91_32, w91_35, w91_36, w91_37, w91_38, w91_41, w91_42, w91_45, w91_48, w91_49, w91_52, w91_55, w91_56, w91_59, w91_62, w91_63, w91_66, kn_s, kn_n, zh_mk, zR_mk, zI_mk, zL_mk, zD_mk, wI_mk, wL_mk, wD_mk, zT_mk, zC_mk, kill_i, kill_r, kill_0, kill_n, kill_l, kill_q, zzk_r, zzk_0, zzk_q, zcat_r, zcat_i, zcat_0, cats_0, cats_i, cats_r, cats_l, cats_d, cats_f, rv_s, rv_0, Nat.reduceAdd, Nat.reduceLeDiff, Nat.add_zero, Nat.reduceMul, Nat.reduceSub, ne_eq, not_false_eq_true, not_true_eq_false, and_self, and_true, true_and, or_self, or_true, true_or, or_false, false_or, if_true, if_false, reduceIte, reduceCtorEq, implies_true, ite_self, ite_not, lay_in, lay_0, up2_lay, up2_lay0, kh0, kh1, kh2, kh3, kh4, kh5, kh6, kh7, kh8, kh9, kh10, kh11, kh12, khB, khP, kr2, kr4, kr5, kr7, kr8, kr9, kr10, krB, krP, krG0, krG1, krG2, krG3, krK, Nat.reduceLT, o_add, o_sub, o_mul, o_neg, q_add, q_sub, q_mul, q_neg, o_32, cast_s, Int.toNat_natCast, k15, h5, h6, he, i00, i10, o_eq (a := (nhF n m o (-1) 3000 1 (α, (uF I α).2)).1) (b := -1) (by omega), eq_false hne, er3, e3, show u'.1 3 + 1 - 1 = u'.1 3 by omega, c5, o_eq (a := (k : Int)) (b := -1) (by omega), eq_false hkn, c53 he h k1 k2, k5]
        exact hQ ℓ' μ'
      · have f : uS (up2 (lay e ℓ' I) 294 0 (Int32.ofInt 0)) (puU n m o u') 294 8 = Int32.ofInt ((puU n m o u').2.2.2.2.2.1) := by unfold uS; rw [ms_at (by omega)]; rfl
        simp only [w246_0, w246_1, w246_2, w246_5, w246_6, w246_7, w246_10, w246_11, w246_12, w246_13, w246_16, w246_17, w246_20, w246_21, w246_24, w246_25, w246_28, w246_31, w246_32, w246_35, kn_s, kn_n, zh_mk, zR_mk, zI_mk, zL_mk, zD_mk, wI_mk, wL_mk, wD_mk, zT_mk, zC_mk, kill_i, kill_r, kill_0, kill_n, kill_l, kill_q, zzk_r, zzk_0, zzk_q, zcat_r, zcat_i, zcat_0, cats_0, cats_i, cats_r, cats_l, cats_d, cats_f, rv_s, rv_0, Nat.reduceAdd, Nat.reduceLeDiff, Nat.add_zero, Nat.reduceMul, Nat.reduceSub, ne_eq, not_false_eq_true, not_true_eq_false, and_self, and_true, true_and, or_self, or_true, true_or, or_false, false_or, if_true, if_false, reduceIte, reduceCtorEq, implies_true, ite_self, ite_not, kM, kMr, kRow hw, sR_at, up2_r64, r64_at, o_add, o_sub, o_mul, o_neg, q_add, q_sub, q_mul, q_neg, o_32, cast_s, Int.toNat_natCast, i00, i10, c31, o_eq (a := (nhF n m o (-1) 3000 1 (α, (uF I α).2)).1) (b := -1) (by omega), eq_false hne, h9, f]
        rfl
theorem c124_19 (hb : LB b) (he : LB e) (hd : apt e b) (h6 : rv (KR w 15 6) = .ref e) {i : Nat} {A : Int} (hin : i < n) (eo : I (b + (i + 13)) 6 = Int32.ofInt A) : ∀ (r k : Nat) (u : Un) (ℓ : Nat → Nat → Int32) (μ : Nat → Nat → Int64), k + r = 3001 → RL ℓ μ u.1 n m o → GA u.1 n m o → Int32.ofInt (u.1 (B9 i 5)) = Int32.ofInt A → (∀ (ℓ' : Nat → Nat → Int32) (μ' : Nat → Nat → Int64), Q (.inl (some (.int (Int32.ofInt (nhF n m o (i : Int) r k u).1)))) (mk N t w (lay e ℓ' I) (lay e μ' L) D)) → Wp (d + 5) 124 19 [some (.ref 15), some (.int (Int32.ofInt (i : Int))), some (.ref (b + (i + 13))), some (.int (Int32.ofInt (k : Int)))] [] (mk N t w (lay e ℓ I) (lay e μ L) D) Q := by
  intro r
  induction r with
  | zero =>
    intro k u ℓ μ hk hR hG hA hQ
    have g : 3000 < (k : Int) := by omega
    rw [w124_19]
    simp only [w124_20, w124_23, w124_62, w124_63, kn_s, kn_n, zh_mk, zR_mk, zI_mk, zL_mk, zD_mk, wI_mk, wL_mk, wD_mk, zT_mk, zC_mk, kill_i, kill_r, kill_0, kill_n, kill_l, kill_q, zzk_r, zzk_0, zzk_q, zcat_r, zcat_i, zcat_0, cats_0, cats_i, cats_r, cats_l, cats_d, cats_f, rv_s, rv_0, Nat.reduceAdd, Nat.reduceLeDiff, Nat.add_zero, Nat.reduceMul, Nat.reduceSub, ne_eq, not_false_eq_true, not_true_eq_false, and_self, and_true, true_and, or_self, or_true, true_or, or_false, false_or, if_true, if_false, reduceIte, reduceCtorEq, implies_true, ite_self, ite_not, o_lt (a := 3000) (b := (k : Int)) (by omega), g]
    exact hQ ℓ μ
  | succ r ih =>
    intro k u ℓ μ hk hR hG hA hQ
    have h10 := hG.1.1
    have g : ¬ (3000 < (k : Int)) := by omega
    have hP := PT_u hG
    have i10' : i < 10 := by omega
    have i27 : i + 13 < 27 := by omega
    have i27' : 13 + i < 27 := by omega
    have e5 : (puU n m o u).1 (B9 i 5) = (tuT n m o u.1 u.2.1 u.2.2.1).1 (B9 i 5) := puU_ne (by unfold B9; omega)
    have hH := hP.2.1.2.2 i hin
    rw [← e5] at hH
    have hM : (puU n m o u).2.2.2.1.toNat = (tuT n m o u.1 u.2.1 u.2.2.1).2.2.2.1 := Int.toNat_natCast _
    have im : ¬ ((i : Int) = -1) := by omega
    rw [w124_19]
    simp only [w124_20, w124_23, w124_26, w124_27, w124_30, w124_31, kn_s, kn_n, zh_mk, zR_mk, zI_mk, zL_mk, zD_mk, wI_mk, wL_mk, wD_mk, zT_mk, zC_mk, kill_i, kill_r, kill_0, kill_n, kill_l, kill_q, zzk_r, zzk_0, zzk_q, zcat_r, zcat_i, zcat_0, cats_0, cats_i, cats_r, cats_l, cats_d, cats_f, rv_s, rv_0, Nat.reduceAdd, Nat.reduceLeDiff, Nat.add_zero, Nat.reduceMul, Nat.reduceSub, ne_eq, not_false_eq_true, not_true_eq_false, and_self, and_true, true_and, or_self, or_true, true_or, or_false, false_or, if_true, if_false, reduceIte, reduceCtorEq, implies_true, ite_self, ite_not, k15, h6, kh0 he, o_lt (a := 3000) (b := (k : Int)) (by omega), g]
    rw [show (1 : Int) = ((1 : Nat) : Int) from rfl]
    refine c33 he (by omega) (u := u) hR hG (fun ℓ' μ' h => ?_)
    have h : RL ℓ' μ' (puU n m o u).1 n m o := h
    have er : ℓ' (i + 13) 6 = Int32.ofInt ((puU n m o u).1 (B9 i 5)) := RL_B h hin h10 (by omega)
    have hIh : Int32.ofInt (u.1 (B9 i 5)) = Int32.ofInt A := hA
    have far : lay e ℓ' I (b + (i + 13)) 6 = Int32.ofInt A := by rw [lay_far hd (by omega)]; exact eo
    by_cases hx : nhT (i : Int) (puU n m o u)
    · rw [nhF_y hx] at hQ
      have ht : (tuT n m o u.1 u.2.1 u.2.2.1).2.2.2.1.testBit i = true := by
        rcases hx with h | h
        · exact absurd h.1 im
        · rw [hM, Int.toNat_natCast] at h; exact h.2
      have hlt : u.1 (B9 i 5) < (puU n m o u).1 (B9 i 5) := by
        rcases hH.1 with h | h
        · rw [ht] at h; exact absurd h.1 (by decide)
        · exact h.2
      have hne : ¬ (Int32.ofInt ((puU n m o u).1 (B9 i 5)) = Int32.ofInt A) := by
        rw [← hIh]
        intro h
        have h2 : Int32.ofInt ((puU n m o u).1 (B9 i 5) - u.1 (B9 i 5)) = Int32.ofInt 0 := by
          rw [← o_sub, h, o_sub, Int.sub_self]
        rw [o_eq (by omega)] at h2
        omega
      simp only [w124_34, w124_35, w124_36, w124_39, w124_42, w124_43, w124_44, w124_47, w124_48, w124_51, w124_54, w124_55, kn_s, kn_n, zh_mk, zR_mk, zI_mk, zL_mk, zD_mk, wI_mk, wL_mk, wD_mk, zT_mk, zC_mk, kill_i, kill_r, kill_0, kill_n, kill_l, kill_q, zzk_r, zzk_0, zzk_q, zcat_r, zcat_i, zcat_0, cats_0, cats_i, cats_r, cats_l, cats_d, cats_f, rv_s, rv_0, Nat.reduceAdd, Nat.reduceLeDiff, Nat.add_zero, Nat.reduceMul, Nat.reduceSub, ne_eq, not_false_eq_true, not_true_eq_false, and_self, and_true, true_and, or_self, or_true, true_or, or_false, false_or, if_true, if_false, reduceIte, reduceCtorEq, implies_true, ite_self, ite_not, lay_in, lay_0, up2_lay, up2_lay0, kh0, kh1, kh2, kh3, kh4, kh5, kh6, kh7, kh8, kh9, kh10, kh11, kh12, khB, khP, kr2, kr4, kr5, kr7, kr8, kr9, kr10, krB, krP, krG0, krG1, krG2, krG3, krK, Nat.reduceLT, o_add, o_sub, o_mul, o_neg, q_add, q_sub, q_mul, q_neg, o_32, cast_s, Int.toNat_natCast, k15, h6, he, hb, hd, i10', i27, khB (N := N) hb i10', far, er, o_ixn (j := i) (n := 10) (by omega), o_tnn (j := i) (by omega), eq_false hne]
      exact hQ ℓ' μ'
    · rw [nhF_n hx] at hQ
      have ht : (tuT n m o u.1 u.2.1 u.2.2.1).2.2.2.1.testBit i = false := by
        cases hb2 : (tuT n m o u.1 u.2.1 u.2.2.1).2.2.2.1.testBit i
        · rfl
        · exact absurd (Or.inr ⟨im, by rw [hM, Int.toNat_natCast]; exact hb2⟩) hx
      have heq : (puU n m o u).1 (B9 i 5) = u.1 (B9 i 5) := by
        rcases hH.1 with h | h
        · exact h.2
        · rw [ht] at h; exact absurd h.1 (by decide)
      have hA' : Int32.ofInt ((puU n m o u).1 (B9 i 5)) = Int32.ofInt A := by rw [heq]; exact hA
      simp only [w124_34, w124_35, w124_36, w124_39, w124_42, w124_43, w124_44, w124_47, w124_48, w124_51, w124_54, w124_55, w124_56, w124_59, kn_s, kn_n, zh_mk, zR_mk, zI_mk, zL_mk, zD_mk, wI_mk, wL_mk, wD_mk, zT_mk, zC_mk, kill_i, kill_r, kill_0, kill_n, kill_l, kill_q, zzk_r, zzk_0, zzk_q, zcat_r, zcat_i, zcat_0, cats_0, cats_i, cats_r, cats_l, cats_d, cats_f, rv_s, rv_0, Nat.reduceAdd, Nat.reduceLeDiff, Nat.add_zero, Nat.reduceMul, Nat.reduceSub, ne_eq, not_false_eq_true, not_true_eq_false, and_self, and_true, true_and, or_self, or_true, true_or, or_false, false_or, if_true, if_false, reduceIte, reduceCtorEq, implies_true, ite_self, ite_not, lay_in, lay_0, up2_lay, up2_lay0, kh0, kh1, kh2, kh3, kh4, kh5, kh6, kh7, kh8, kh9, kh10, kh11, kh12, khB, khP, kr2, kr4, kr5, kr7, kr8, kr9, kr10, krB, krP, krG0, krG1, krG2, krG3, krK, Nat.reduceLT, o_add, o_sub, o_mul, o_neg, q_add, q_sub, q_mul, q_neg, o_32, cast_s, Int.toNat_natCast, k15, h6, he, hb, hd, i10', i27, khB (N := N) hb i10', far, er, o_ixn (j := i) (n := 10) (by omega), o_tnn (j := i) (by omega), eq_true hA', cast_s]
      exact ih (k + 1) (puU n m o u) ℓ' μ' (by omega) h (puU_G hG) hA' hQ
theorem pk25 (hI : Inv xs c t I L) : PairI (d + 40) 124 [some (.ref 15), some (.int x), none, none] [(1, 2)] (d + 41) 247 [some (.ref 294), some (.int x)] N xs c t I L D := by
  obtain ⟨z1, rfl, hz⟩ := o_z x
  obtain ⟨b, e, α, n, m, o, hb19, he46, hb, he, hd, h5, h6, hR, hG, hE, hL, hN⟩ := Inv_tr hI
  have h10 := hG.1.1
  have hw : RW 295 := Or.inl rfl
  by_cases hi : 0 ≤ z1 ∧ z1 ≤ (n : Int) - 1
  · obtain ⟨i, rfl⟩ : ∃ i : Nat, z1 = (i : Int) := ⟨z1.toNat, by omega⟩
    have hin : i < n := by omega
    have eo : I (b + (i + 13)) 6 = Int32.ofInt (α (B9 i 5)) := RL_B hR hin h10 (by omega)
    refine PairI_pr (e := e) (u := (nhF n m o (i : Int) 3000 1 (α, (uF I α).2)).2) (β := ((nhF n m o (i : Int) 3000 1 (α, (uF I α).2)).2).1) (v := Int32.ofInt (nhF n m o (i : Int) 3000 1 (α, (uF I α).2)).1) he46 hI hN hL (fun Q hQ => ?_) (fun ℓ' L2 Q => ?_)
    · have l := c124_19 (d := d + 35) (N := N) (t := t) (w := 295) (I := I) (L := L) (D := D) (Q := Q) hb he hd h6 hin eo 3000 1 (α, (uF I α).2) _ _ (by omega) (RL_mg (ℓ := gl e I) (μ := gl e L) hR hG.1.1) hG rfl hQ
      simp only [w124_0, w124_1, w124_2, w124_5, w124_6, w124_7, w124_10, w124_11, w124_14, w124_17, w124_18, kn_s, kn_n, zh_mk, zR_mk, zI_mk, zL_mk, zD_mk, wI_mk, wL_mk, wD_mk, zT_mk, zC_mk, kill_i, kill_r, kill_0, kill_n, kill_l, kill_q, zzk_r, zzk_0, zzk_q, zcat_r, zcat_i, zcat_0, cats_0, cats_i, cats_r, cats_l, cats_d, cats_f, rv_s, rv_0, Nat.reduceAdd, Nat.reduceLeDiff, Nat.add_zero, Nat.reduceMul, Nat.reduceSub, ne_eq, not_false_eq_true, not_true_eq_false, and_self, and_true, true_and, or_self, or_true, true_or, or_false, false_or, if_true, if_false, reduceIte, reduceCtorEq, implies_true, ite_self, ite_not, k15, h5, h6, kh0 he, c107r hb h5 hR hG hin, c32t he hb hd]
      exact l
    · have c := fun (d : Nat) (Q : Rs → St → Prop) => c231 (d := d) (N := N) (t := t) (L := L2) (D := D) (Q := Q) (z := (i : Int)) hG (IF_J (ℓ := ℓ') (I := I) (α := α) he46) (by omega)
      simp only [w247_0, w247_1, w247_2, w247_3, w247_6, w247_9, w247_12, w247_13, w247_14, w247_17, w247_20, w247_21, kn_s, kn_n, zh_mk, zR_mk, zI_mk, zL_mk, zD_mk, wI_mk, wL_mk, wD_mk, zT_mk, zC_mk, kill_i, kill_r, kill_0, kill_n, kill_l, kill_q, zzk_r, zzk_0, zzk_q, zcat_r, zcat_i, zcat_0, cats_0, cats_i, cats_r, cats_l, cats_d, cats_f, rv_s, rv_0, Nat.reduceAdd, Nat.reduceLeDiff, Nat.add_zero, Nat.reduceMul, Nat.reduceSub, ne_eq, not_false_eq_true, not_true_eq_false, and_self, and_true, true_and, or_self, or_true, true_or, or_false, false_or, if_true, if_false, reduceIte, reduceCtorEq, implies_true, ite_self, ite_not, kM, kMr, kRow hw, sR_at, up2_r64, r64_at, o_add, o_sub, o_mul, o_neg, q_add, q_sub, q_mul, q_neg, o_32, cast_s, Int.toNat_natCast, c197 hw hG.1 hz, c150, eq_true hi, thr, p_0, c]
      rfl
  · refine PairI_x (y := Int32.ofInt 0) (I' := I) hI hL rfl rfl m1 (fun Q => ?_) (fun L2 Q => ?_) (by omega)
    · simp only [w124_0, w124_1, w124_2, w124_5, w124_6, w124_7, w124_10, w124_11, w124_14, w124_17, w124_18, w124_19, w124_20, w124_23, w124_26, w124_27, w124_30, w124_31, w124_34, w124_35, w124_36, w124_39, w124_42, w124_43, w124_44, w124_47, w124_48, w124_51, w124_54, w124_55, w124_56, w124_59, w124_62, w124_63, kn_s, kn_n, zh_mk, zR_mk, zI_mk, zL_mk, zD_mk, wI_mk, wL_mk, wD_mk, zT_mk, zC_mk, kill_i, kill_r, kill_0, kill_n, kill_l, kill_q, zzk_r, zzk_0, zzk_q, zcat_r, zcat_i, zcat_0, cats_0, cats_i, cats_r, cats_l, cats_d, cats_f, rv_s, rv_0, Nat.reduceAdd, Nat.reduceLeDiff, Nat.add_zero, Nat.reduceMul, Nat.reduceSub, ne_eq, not_false_eq_true, not_true_eq_false, and_self, and_true, true_and, or_self, or_true, true_or, or_false, false_or, if_true, if_false, reduceIte, reduceCtorEq, implies_true, ite_self, ite_not, k15, c107rx hb h5 hR hG hz hi, kn_x mh124]
    · simp only [w247_0, w247_1, w247_2, w247_3, w247_6, w247_9, w247_12, w247_13, w247_14, w247_17, w247_20, w247_21, kn_s, kn_n, zh_mk, zR_mk, zI_mk, zL_mk, zD_mk, wI_mk, wL_mk, wD_mk, zT_mk, zC_mk, kill_i, kill_r, kill_0, kill_n, kill_l, kill_q, zzk_r, zzk_0, zzk_q, zcat_r, zcat_i, zcat_0, cats_0, cats_i, cats_r, cats_l, cats_d, cats_f, rv_s, rv_0, Nat.reduceAdd, Nat.reduceLeDiff, Nat.add_zero, Nat.reduceMul, Nat.reduceSub, ne_eq, not_false_eq_true, not_true_eq_false, and_self, and_true, true_and, or_self, or_true, true_or, or_false, false_or, if_true, if_false, reduceIte, reduceCtorEq, implies_true, ite_self, ite_not, kM, kMr, kRow hw, sR_at, up2_r64, r64_at, o_add, o_sub, o_mul, o_neg, q_add, q_sub, q_mul, q_neg, o_32, cast_s, Int.toNat_natCast, kM1, kA295, c197 hw hG.1 hz, c150, eq_false hi, thr, p_0]
      rfl
end S66
