/-! CLASS AND REFERENCE AGREE: load, the whole -/
section S91
variable {xs : Nat → Int32} {d c t N n : Nat} {I : Nat → Nat → Int32} {L : Nat → Nat → Int64} {D : Nat → Nat → UInt64} {f : Nat → Int}
theorem ck_o {a : Nat} (h : a ≠ 57) : ckL 57 L a = L a := by
  funext k
  unfold ckL
  rw [u2_ne (by omega), u2_ne (by omega), u2_ne (by omega)]
theorem zrw_e {L' : Nat → Nat → Int64} (h : L' 296 = L 296) : zrw L' = zrw L := by
  funext k
  unfold zrw
  rw [h]
theorem EX_dr {β : Nat → Int} {m : Nat} (h : DR β n m) : EX c β n := ⟨⟨by rw [h.1]; omega, by rw [h.1]; omega⟩, fun k _ h2 => by rw [h.2.1] at h2; omega, h.2.2.2⟩
/-- both sides behind a good text -/
theorem ld_ok {F : SS} {ℓ' : Nat → Nat → Int32} {o' : Nat → Nat} {Q : Rs → St → Prop} (hI : Inv xs c t I L) (hW : WF f n F.1) (h0 : F.1.2.2.2.1 = 0) (hn : n ≤ 400) (hR : RL ℓ' (gl 46 (ckL 57 L)) F.2.1 F.2.2.1 F.2.2.2 o') (hG : GA F.2.1 F.2.2.1 F.2.2.2 o') (hD : DR F.2.1 F.2.2.1 F.2.2.2) (h1 : ∀ (v : Int32) (t1 : Nat) (I1 : Nat → Nat → Int32) (L1 : Nat → Nat → Int64), (∀ j, I1 0 j = xs j) → RefI (d + 41) 155 [some (.ref 294), none] N xs c t1 I1 L1 D 0 v → Q (.inl (some (.int v))) (mk N t1 295 I1 L1 D))
    (href : ∀ (IC : Nat → Nat → Int32) (L2 : Nat → Nat → Int64) (Q : Rs → St → Prop), (∀ a k, (a < 15 ∨ a = 294 ∨ a = 298) → IC a k = I a k) → L2 296 = L 296 → Wp (d + 41) 155 0 [some (.ref 294), none] [] (mk N t 295 IC L2 D) Q = Wp (d + 41) 155 92 [some (.ref 294), some (.int (Int32.ofInt ((378 : Nat) : Int)))] [] (mk N t 296 (pR F.1 (JR IC n)) (sR L2 296 (r64 F.2.1)) D) Q) : Wp (d + 41) 83 12 [some (.ref 15)] [.int (Int32.ofInt (F.1.2.2.2.1 : Int)), .ref 15] (mk N t 295 (pC F.1 (lay 46 ℓ' (up2 I 73 2 (Int32.ofInt (n : Int))))) (ckL 57 L) D) Q := by
  have ht := hI.1.2.1
  have h0' : (F.1.2.2.2.1 : Int) = 0 := by omega
  have h10 := hG.1.1
  have hm4 := hG.2.1.1
  generalize hI1 : ldI F.1 (Int32.ofInt (-1)) (lay 46 ℓ' (up2 I 73 2 (Int32.ofInt (n : Int)))) = I1
  have o1 : ∀ a k, a ≠ 73 ∧ (a ≠ 15 ∨ (k ≠ 1 ∧ k ≠ 3 ∧ k ≠ 4)) ∧ (a < 46 ∨ 73 ≤ a) → I1 a k = I a k := fun a k h => by
    rw [← hI1, ldI_o (by omega), lay_out (by omega), u2_ne (by omega)]
  have o2 : ∀ a k, a < 27 → I1 (46 + a) k = ℓ' a k := fun a k h => by
    rw [← hI1, ldI_o (by omega), lay_in h]
  have i3 : I1 15 3 = Int32.ofInt 0 := by rw [← hI1]; unfold ldI; rw [u2_ne (by omega), u2_ne (by omega), u2_same, h0']
  have i4 : I1 15 4 = Int32.ofInt (-1) := by rw [← hI1]; unfold ldI; rw [u2_ne (by omega), u2_same]
  have i1 : I1 15 1 = Int32.ofInt 0 := by rw [← hI1]; unfold ldI; rw [u2_same]
  have hIv : Inv xs c t (up2 (up2 (up2 I1 294 19 (Int32.ofInt 0)) 294 20 (Int32.ofInt (-1))) 294 13 (Int32.ofInt 0)) (ckL 57 L) := by
    refine Inv_ld hI (Nat.le_refl c) ht (fun a k ha q1 q2 => ?_) ?_ u2_same ?_ ?_ (fun a ha => ck_o (by unfold rLo at ha; omega))
    · rw [u2_ne (by omega), u2_ne (by omega), u2_ne (by omega), o1 a k (by unfold rI at ha; omega)]
    · rw [u2_ne (by omega), u2_ne (by omega), u2_ne (by omega), i1]
    · rw [u2_ne (by omega), u2_ne (by omega), u2_ne (by omega), i3, u2_ne (by omega), u2_ne (by omega), u2_same]
    · rw [u2_ne (by omega), u2_ne (by omega), u2_ne (by omega), i4, u2_ne (by omega), u2_same]
  obtain ⟨fh, rh, b, α, nn, mm, oo, hb19, hb, h5, hf6, hr6, e1, e2, e24, hE, hN, hL, -, -⟩ := Inv_ch hIv
  have e1' : I1 74 1 = Int32.ofInt (fh : Int) := by rw [← e1, u2_ne (by omega), u2_ne (by omega), u2_ne (by omega)]
  have e2' : I1 74 2 = Int32.ofInt (rh : Int) := by rw [← e2, u2_ne (by omega), u2_ne (by omega), u2_ne (by omega)]
  have hBb := hB_b fh rh
  have l21 := fun (Q : Rs → St → Prop) => c21 (d := d + 38) (N := N) (t := t) (w := 295) (I := I1) (L := ckL 57 L) (D := D) (Q := Q) (b := 19) hf6 hr6 e1' e2' rfl
  have l32 := fun (Q : Rs → St → Prop) => c32t (d := d + 39) (N := N) (t := t) (w := 295) (I := rmI fh rh I1) (L := rmL fh rh (ckL 57 L)) (D := D) (Q := Q) (e := 19) (b := 46) LB_now LB_tr (by unfold apt; omega)
  generalize hℓ2 : mg CP (gl 46 (rmI fh rh I1)) (gl 19 (rmI fh rh I1)) = ℓ2 at l32
  generalize hμ2 : muC (gl 46 (rmL fh rh (ckL 57 L))) (gl 19 (rmL fh rh (ckL 57 L))) = μ2 at l32
  have hRX : RL (gl 46 (rmI fh rh I1)) (gl 46 (rmL fh rh (ckL 57 L))) F.2.1 F.2.2.1 F.2.2.2 o' := RL_ext hR (fun a ha k => by
    show rmI fh rh I1 (46 + a) k = _
    rw [rmI_o (by omega)]; exact o2 a k ha) (fun a ha k => by
    show rmL fh rh (ckL 57 L) (46 + a) k = _
    rw [rmL_o (by omega)]; rfl)
  have hRn : RL ℓ2 μ2 F.2.1 F.2.2.1 F.2.2.2 o' := by rw [← hℓ2, ← hμ2]; exact RL_mg hRX h10
  have en : lay 19 ℓ2 (rmI fh rh I1) 19 3 = Int32.ofInt (F.2.2.1 : Int) := by
    have := lay_in (b := 19) (ℓ := ℓ2) (I := rmI fh rh I1) (o := 0) (k := 3) (by omega)
    rw [show 19 + 0 = 19 from rfl] at this
    rw [this]; exact rd_n hRn
  have w3 : up2 (pC F.1 (lay 46 ℓ' (up2 I 73 2 (Int32.ofInt (n : Int))))) 15 3 (Int32.ofInt (F.1.2.2.2.1 : Int)) 15 3 = Int32.ofInt (F.1.2.2.2.1 : Int) := u2_same
  have eI1 : up2 (up2 (up2 (pC F.1 (lay 46 ℓ' (up2 I 73 2 (Int32.ofInt (n : Int))))) 15 3 (Int32.ofInt (F.1.2.2.2.1 : Int))) 15 4 (Int32.ofInt (-1))) 15 1 (Int32.ofInt 0) = I1 := hI1
  simp only [w83_12, w83_15, w83_16, w83_17, w83_20, w83_23, w83_24, w83_27, w83_28, w83_31, w83_34, w83_37, w83_38, w83_39, w83_42, w83_43, w83_46, w83_49, w83_51, w83_52, w83_53, w83_56, w83_57, w83_60, w83_63, w83_64, w83_67, w83_68, w83_71, w83_74, w83_75, w83_78, w83_81, kn_s, kn_n, zh_mk, zR_mk, zI_mk, zL_mk, zD_mk, wI_mk, wL_mk, wD_mk, zT_mk, zC_mk, kill_i, kill_r, kill_0, kill_n, kill_l, kill_q, zzk_r, zzk_0, zzk_q, zcat_r, zcat_i, zcat_0, cats_0, cats_i, cats_r, cats_l, cats_d, cats_f, rv_s, rv_0, Nat.reduceAdd, Nat.reduceLeDiff, Nat.add_zero, Nat.reduceMul, Nat.reduceSub, ne_eq, not_false_eq_true, not_true_eq_false, and_self, and_true, true_and, or_self, or_true, true_or, or_false, false_or, if_true, if_false, reduceIte, reduceCtorEq, implies_true, ite_self, ite_not, k15, k73, kr15_7, kr15_8, kr15_5, kr15_6, k74, kh0 LB_now, kh0 LB_tr, w3, eI1, i3, o_eq (a := (F.1.2.2.2.1 : Int)) (b := 0) (by omega), eq_true h0', i00, l21, l32, en]
  refine h1 (Int32.ofInt (F.2.2.1 : Int)) t (lay 19 ℓ2 (rmI fh rh I1)) (lay 19 μ2 (rmL fh rh (ckL 57 L))) (fun j => by rw [lay_out (by omega), rmI_o (by omega), o1 0 j (by omega)]; exact hI.1.1 j) ?_
  intro L2 Q2 hL2 hQ
  have oC : ∀ a k, (a < 15 ∨ a = 294 ∨ a = 298) → lay 19 ℓ2 (rmI fh rh I1) a k = I a k := fun a k h => by
    rw [lay_out (by omega), rmI_o (by omega), o1 a k (by omega)]
  have oL : ∀ a, (a = 295 ∨ a = 296 ∨ a = 301) → L2 a = ckL 57 L a := fun a h => by
    rw [hL2 a (by omega)]
    funext k
    rw [lay_out (by omega), rmL_o (by omega)]
  rw [href _ L2 Q2 oC (by rw [oL 296 (by omega)]; exact ck_o (by omega))]
  have eS : sR L2 296 (r64 F.2.1) = sR (sR L2 296 (r64 F.2.1)) 295 (r64 α) := by
    have : (sR L2 296 (r64 F.2.1)) 295 = r64 α := by
      funext k
      rw [sR_ne (by omega), oL 295 (by omega), hL]
    rw [← this]
    exact sR_self.symm
  generalize hIC : lay 19 ℓ2 (rmI fh rh I1) = IC at oC hQ ⊢
  have e24R : pR F.1 (JR IC n) 294 24 = Int32.ofInt (rh : Int) := by
    rw [pR_o (by omega), JR_o (by omega), oC _ _ (by omega), ← o1 294 24 (by omega), ← e24, u2_ne (by omega), u2_ne (by omega), u2_ne (by omega)]
  have l188 := fun (Q : Rs → St → Prop) => c188' (d := d + 40) (N := N) (t := t) (w := 295) (I := pR F.1 (JR IC n)) (L := sR L2 296 (r64 F.2.1)) (D := D) (Q := Q) (F := r64 α) hr6 e24R
  generalize hL3 : sR (sR L2 296 (r64 F.2.1)) 301 (rmP rh (r64 α) ((sR L2 296 (r64 F.2.1)) 301)) = L3 at l188
  have hg : L3 296 = r64 F.2.1 := by
    rw [← hL3]
    funext k
    rw [sR_ne (by omega), sR_at]
  have l116 := fun (Q : Rs → St → Prop) => c155_116 (d := d + 32) (N := N) (t := t) (L := L3) (D := D) (Q := Q) (F := r64 α) (G := r64 F.2.1) (J := up2 (pR F.1 (JR IC n)) 294 24 (Int32.ofInt (rn rh : Int))) hg 378 0 (by omega)
  have z1 : (fun q => if q < 0 then r64 F.2.1 q else r64 α q) = r64 α := by
    funext q
    rw [if_neg (by omega)]
  have z2 : (fun q => if q < 378 then r64 F.2.1 q else r64 α q) = r64 (fun q => if q < 378 then F.2.1 q else α q) := by
    funext q
    show _ = Int64.ofInt _
    by_cases h : q < 378
    · rw [if_pos h]; dsimp only; rw [if_pos h]; rfl
    · rw [if_neg h]; dsimp only; rw [if_neg h]; rfl
  rw [z1, z2] at l116
  have eβ : ∀ k, k < 378 → (fun q => if q < 378 then F.2.1 q else α q) k = F.2.1 k := fun k hk => by
    dsimp only
    rw [if_pos hk]
  generalize hβ : (fun q => if q < 378 then F.2.1 q else α q) = β at l116 eβ
  have eβ1 : β 1 = (F.2.2.1 : Int) := by rw [eβ 1 (by omega)]; exact hG.1.2.1
  have l176 := fun (Q : Rs → St → Prop) => c176 (d := d + 40) (N := N) (t := t) (w := 295) (I := up2 (pR F.1 (JR IC n)) 294 24 (Int32.ofInt (rn rh : Int))) (L := L3) (D := D) (Q := Q) (α := β) (Or.inl rfl)
  rw [eβ1] at l176
  have hr5 := WF_e hW
  rw [eS]
  simp only [w155_92, w155_93, w155_94, w155_97, w155_100, w155_101, w155_104, w155_107, w155_109, w155_110, w155_111, w155_114, w155_115, kn_s, kn_n, zh_mk, zR_mk, zI_mk, zL_mk, zD_mk, wI_mk, wL_mk, wD_mk, zT_mk, zC_mk, kill_i, kill_r, kill_0, kill_n, kill_l, kill_q, zzk_r, zzk_0, zzk_q, zcat_r, zcat_i, zcat_0, cats_0, cats_i, cats_r, cats_l, cats_d, cats_f, rv_s, rv_0, Nat.reduceAdd, Nat.reduceLeDiff, Nat.add_zero, Nat.reduceMul, Nat.reduceSub, ne_eq, not_false_eq_true, not_true_eq_false, and_self, and_true, true_and, or_self, or_true, true_or, or_false, false_or, if_true, if_false, reduceIte, reduceCtorEq, implies_true, ite_self, ite_not, kM, kr294_1, wR296, c161 hr5, pI, eq_true h0, i10, l188]
  refine Eq.mpr (l116 Q2) ?_
  simp only [w155_141, w155_142, w155_145, kn_s, kn_n, zh_mk, zR_mk, zI_mk, zL_mk, zD_mk, wI_mk, wL_mk, wD_mk, zT_mk, zC_mk, kill_i, kill_r, kill_0, kill_n, kill_l, kill_q, zzk_r, zzk_0, zzk_q, zcat_r, zcat_i, zcat_0, cats_0, cats_i, cats_r, cats_l, cats_d, cats_f, rv_s, rv_0, Nat.reduceAdd, Nat.reduceLeDiff, Nat.add_zero, Nat.reduceMul, Nat.reduceSub, ne_eq, not_false_eq_true, not_true_eq_false, and_self, and_true, true_and, or_self, or_true, true_or, or_false, false_or, if_true, if_false, reduceIte, reduceCtorEq, implies_true, ite_self, ite_not, kM, l176]
  refine hQ _ _ _ ?_ (fun _ => rfl) ?_ ?_
  · rw [u2_ne (by omega), pR_o (by omega)]
    unfold JR
    rw [u2_ne (by omega), u2_ne (by omega), u2_same]
  · funext k
    rw [sR_ne (by omega), ← hL3, sR_ne (by omega), sR_ne (by omega)]
  · refine Inv_mut (β := β) (ℓ' := ℓ2) (μ' := μ2) (n' := F.2.2.1) (m' := F.2.2.2) (o' := o') hIv (by omega) hf6 hr6 e1 e2 hE hN (fun a k ha hne => ?_) u2_same (fun a ha q1 q2 k => ?_) (by funext k; rw [sR_at]) ?_ (RL_cg hRn h10 hm4 eβ) (GA_cg hG eβ) (EX_dr (DR_cg hD h10 eβ))
    · rw [u2_ne (by omega)]
      by_cases h294 : a = 294
      · subst h294
        rw [lay_out (by omega), rmI_o (by omega)]
        have hk : k = 13 ∨ k = 19 ∨ k = 20 ∨ (21 ≤ k ∧ k ≠ 24) := by unfold rI at ha; omega
        rcases hk with rfl | rfl | rfl | hk
        · rw [pR_o (by omega), u2_same]
          unfold JR
          rw [u2_same]
        · rw [u2_ne (by omega), u2_ne (by omega), u2_same, pR_19, h0']
        · rw [u2_ne (by omega), u2_same]
          show (if F.1.2.2.2.1 = 0 then Int32.ofInt (-1) else _) = _
          rw [if_pos h0]
        · rw [pR_o (by omega), JR_o (by omega), oC _ _ (by omega), u2_ne (by omega), u2_ne (by omega), u2_ne (by omega), o1 294 k (by omega)]
      · rw [pR_o (by omega), JR_o (by omega), ← hIC]
        unfold lay
        split
        · rfl
        · exact rmI_cg (fun a k h => by rw [u2_ne (by omega), u2_ne (by omega), u2_ne (by omega)]) h294
    · rw [sR_ne q1, ← hL3, sR_ne q2, sR_ne (by unfold rLo at ha; omega), hL2 a (by unfold rLo at ha; omega)]
    · funext k
      rw [sR_ne (by omega), ← hL3, sR_at]
      congr 1
      funext k
      rw [sR_ne (by omega), oL 301 (by omega)]
end S91
