/-! THE CLASS LOADS THE BUILT TEXT -/
theorem RL_mg {n m : Nat} {o : Nat → Nat} {α : Nat → Int} {s ℓ : Nat → Nat → Int32} {σ μ : Nat → Nat → Int64} (h : RL s σ α n m o) (hn : n ≤ 10) : RL (mg CP s ℓ) (muC σ μ) α n m o := by
  obtain ⟨h1, ⟨h2, h3⟩, ⟨h4, h5, h6⟩, h7, nx, h8, h9, h10, h11⟩ := h
  have hm : ∀ k, kd n m k → CP (mo k) (mq k) := by
    intro k hk
    have hk' := hk
    unfold kd at hk
    rcases hk with rfl | rfl | h | h | h | h
    · unfold CP mo mq; simp
    · unfold CP mo mq; simp
    · have : k = 8 ∨ k = 9 ∨ k = 10 ∨ k = 11 ∨ k = 12 ∨ k = 13 ∨ k = 14 ∨ k = 15 := by omega
      rcases this with rfl | rfl | rfl | rfl | rfl | rfl | rfl | rfl <;> · unfold CP mo mq; simp
    · have e : P3 ((k - 16) / 3) ((k - 16) % 3) = k := by unfold P3; omega
      rw [← e, mo_P (by omega) (by omega), mq_P (by omega) (by omega)]
      unfold CP
      omega
    · have e : B9 ((k - 28) / 9) ((k - 28) % 9) = k := by unfold B9; omega
      rw [← e, mo_B (by omega) (by omega)]
      by_cases h8 : (k - 28) % 9 = 8
      · rw [h8, mq_B8 (by omega)]
        unfold CP
        omega
      · rw [mq_B (by omega) (by omega)]
        unfold CP
        omega
    · have e : HH ((k - 118) / 10) ((k - 118) % 10) = k := by unfold HH; omega
      rw [← e, mo_H (by omega) (by omega), mq_H (by omega) (by omega)]
      unfold CP
      omega
  have y : ∀ a k, CP a k → mg CP s ℓ a k = s a k := fun a k h => mg_y h
  refine ⟨fun k hk => by rw [y _ _ (hm k hk)]; exact h1 k hk, ⟨by rw [y _ _ (by unfold CP; omega)]; exact h2, by rw [y _ _ (by unfold CP; omega)]; exact h3⟩, ⟨?_, ?_, ?_⟩, fun p hp => by rw [y _ _ (by unfold CP; omega)]; exact h7 p hp, nx, h8, by rw [y _ _ (by unfold CP; omega)]; exact h9, by rw [y _ _ (by unfold CP; omega)]; exact h10, fun k h12 h13 c hc => ?_⟩
  · unfold muC; rw [u2_ne (by omega), u2_ne (by omega), up2_same]; exact h4
  · unfold muC; rw [u2_ne (by omega), up2_same]; exact h5
  · unfold muC; rw [up2_same]; exact h6
  · have hj : (nx + 39 - k) % 40 < 40 := Nat.mod_lt _ (by omega)
    rw [y _ _ (by unfold CP; omega)]
    exact h11 k h12 h13 c hc
theorem kr15_7 {w : WX} : rv (KR w 15 7) = .ref 73 := nr rfl
theorem kr15_6 {w : WX} : rv (KR w 15 6) = .ref 46 := nr rfl
theorem kr15_5 {w : WX} : rv (KR w 15 5) = .ref 19 := nr rfl
theorem kr15_8 {w : WX} : rv (KR w 15 8) = .ref 74 := nr rfl
/-- what the class's calls keep: the script, the parser's words, the history's numbers -/
def C0 (xs : Nat → Int32) (I : Nat → Nat → Int32) : Prop := (∀ j, I 0 j = xs j) ∧ SW I ∧ ∃ f r : Nat, f < 6 ∧ r ≤ 6 ∧ I 74 1 = Int32.ofInt (f : Int) ∧ I 74 2 = Int32.ofInt (r : Int)
/-- and the line's -/
def CI (xs : Nat → Int32) (c : Nat) (I : Nat → Nat → Int32) (L : Nat → Nat → Int64) (α : Nat → Int) (n m : Nat) (o : Nat → Nat) : Prop := C0 xs I ∧ RL (gl 19 I) (gl 19 L) α n m o ∧ GA α n m o ∧ EX c α n
/-- remember keeps what the calls keep -/
theorem C0_rm {xs : Nat → Int32} {I I' : Nat → Nat → Int32} {f r : Nat} (hx : ∀ j, I 0 j = xs j) (hS : SW I) (hf : f < 6) (hr : r ≤ 6) (e1 : I 74 1 = Int32.ofInt (f : Int)) (e2 : I 74 2 = Int32.ofInt (r : Int)) (h1 : ∀ a k, a < 15 → I' a k = I a k) (h2 : ∀ k, I' 74 k = rmI f r I 74 k) : C0 xs I' := by
  refine ⟨fun j => by rw [h1 _ _ (by omega)]; exact hx j, fun a q1 q2 j => by rw [h1 _ _ (by omega)]; exact hS a q1 q2 j, ?_⟩
  have h7 := rmI_74 (f := f) (r := r) (I := I)
  by_cases hr6 : r < 6
  · rw [if_pos hr6, if_pos hr6] at h7
    exact ⟨f, r + 1, hf, by omega, by rw [h2, h7.1]; exact e1, by rw [h2, h7.2]⟩
  · rw [if_neg hr6, if_neg hr6] at h7
    exact ⟨(f + 1) % 6, r, Nat.mod_lt _ (by omega), hr, by rw [h2, h7.1], by rw [h2, h7.2]; exact e2⟩
section SA4
variable {N : NX} {w : WX} {d t : Nat} {T : List Int} {I : Nat → Nat → Int32} {L : Nat → Nat → Int64} {D : Nat → Nat → UInt64} {Q : Rs → St → Prop} {xs : Nat → Int32}
theorem c83 {x : Int} {o : Option (Int × Int)} {Z : List Stm} (h0 : C0 xs I) (e1 : I 15 1 = Int32.ofInt (T.length : Int)) (hn : T.length ≤ 400) (hB : ∀ j, j < T.length → I 16 j = Int32.ofInt (T.getD j 0)) (ha : asc T) (ho : okB x o) (hT : T = bxT x o (txts (bxO x o) Z)) (hZ : okZ (bxO x o) Z)
    (K : ∀ I' L' o', CI xs 0 I' L' (effs (bxO x o) Z).1 (effs (bxO x o) Z).2.1 (effs (bxO x o) Z).2.2 o' → DR (effs (bxO x o) Z).1 (effs (bxO x o) Z).2.1 (effs (bxO x o) Z).2.2 → I' 15 3 = Int32.ofInt 0 → (∀ a, 294 ≤ a → I' a = I a) → Q (.inl (some (.int (Int32.ofInt ((effs (bxO x o) Z).2.1 : Int))))) (mk N t w I' L' D)) : Wp (d + 9) 83 0 [some (.ref 15)] [] (mk N t w I L D) Q := by
  obtain ⟨hx, hS, fh, rh, hf6, hr6, f1, f2⟩ := h0
  obtain ⟨p1, b1, b2, b3, b4, pE, l, r, hP⟩ : ∃ (p1 b1 b2 b3 b4 pE : PS) (l r : Int), bxR (fT T) T.length (tok (fT T) T.length 0 0) p1 b1 b2 b3 b4 pE l r := ⟨_, _, _, _, _, _, _, _, rfl, rfl, rfl, rfl, rfl, rfl, rfl, rfl⟩
  obtain ⟨y1, y2, P', y3, y4⟩ := tx_y ho hT hZ hP
  simp only [w83_0, w83_1, w83_2, w83_5, w83_6, w83_9, kn_s, kn_n, zh_mk, zR_mk, zI_mk, zL_mk, zD_mk, wI_mk, wL_mk, wD_mk, zT_mk, zC_mk, kill_i, kill_r, kill_0, kill_n, kill_l, kill_q, zzk_r, zzk_0, zzk_q, zcat_r, zcat_i, zcat_0, zcat_q, cats_0, cats_i, cats_r, cats_l, cats_d, cats_f, cats_q, cats_n, rv_s, rv_0, Nat.reduceAdd, Nat.reduceLeDiff, Nat.reduceEqDiff, Nat.add_zero, Nat.reduceMul, Nat.reduceSub, ne_eq, not_false_eq_true, not_true_eq_false, and_self, and_true, true_and, or_self, or_true, true_or, or_false, false_or, if_true, if_false, reduceIte, reduceCtorEq, implies_true, ite_self, ite_not, k15, k73, kr15_7, e1]
  refine c63 (α0 := bxA (cvT (fT T) 10 p1) l r) hP hn (fun j hj => ⟨hB j hj, by have := asc_at ha j; show -128 ≤ T.getD j 0 ∧ _; exact ⟨by omega, this.2⟩⟩) hS (fun _ k _ => rfl) (fun q => absurd y1 q) (fun q ℓ' o' hWF hR hG hD _ => ?_)
  rw [show (pE, bxA (cvT (fT T) 10 p1) l r, 0, 0) = (pE, bxO x o) from congrArg (Prod.mk pE) y2, y4] at hWF hR hG hD ⊢
  dsimp only at hWF hR hG hD ⊢
  have y3' : (P'.2.2.2.1 : Int) = 0 := by omega
  generalize effs (bxO x o) Z = F at hR hG hD K ⊢
  have h10 := hG.1.1
  generalize hI1 : up2 (up2 (up2 (pC P' (lay 46 ℓ' (up2 I 73 2 (Int32.ofInt (T.length : Int))))) 15 3 (Int32.ofInt (P'.2.2.2.1 : Int))) 15 4 (Int32.ofInt (-1))) 15 1 (Int32.ofInt 0) = I1
  have o1 : ∀ a k, a ≠ 73 ∧ (a ≠ 15 ∨ (k ≠ 1 ∧ k ≠ 3 ∧ k ≠ 4)) ∧ (a < 46 ∨ 73 ≤ a) → I1 a k = I a k := fun a k h => by
    rw [← hI1, u2_ne (by omega), u2_ne (by omega), u2_ne (by omega), pC_o (by omega), lay_out (by omega), u2_ne (by omega)]
  have o2 : ∀ a k, a < 27 → I1 (46 + a) k = ℓ' a k := fun a k h => by
    rw [← hI1, u2_ne (by omega), u2_ne (by omega), u2_ne (by omega), pC_o (by omega), lay_in h]
  have i3 : I1 15 3 = Int32.ofInt 0 := by rw [← hI1, u2_ne (by omega), u2_ne (by omega), u2_same, y3']
  have w3 : up2 (pC P' (lay 46 ℓ' (up2 I 73 2 (Int32.ofInt (T.length : Int))))) 15 3 (Int32.ofInt (P'.2.2.2.1 : Int)) 15 3 = Int32.ofInt (P'.2.2.2.1 : Int) := u2_same
  have l21 := fun (Q : Rs → St → Prop) => c21 (d := d + 6) (N := N) (t := t) (w := w) (I := I1) (L := ckL 57 L) (D := D) (Q := Q) (b := 19) hf6 hr6 (by rw [o1 _ _ (by omega)]; exact f1) (by rw [o1 _ _ (by omega)]; exact f2) rfl
  have l32 := fun (Q : Rs → St → Prop) => c32t (d := d + 7) (N := N) (t := t) (w := w) (I := rmI fh rh I1) (L := rmL fh rh (ckL 57 L)) (D := D) (Q := Q) (e := 19) (b := 46) LB_now LB_tr (by unfold apt; omega)
  simp only [w83_12, w83_15, w83_16, w83_17, w83_20, w83_23, w83_24, w83_27, w83_28, w83_31, w83_34, w83_37, w83_38, w83_39, w83_42, w83_43, w83_46, w83_49, w83_51, w83_52, w83_53, w83_56, w83_57, w83_60, w83_63, w83_64, w83_67, w83_68, w83_71, w83_74, w83_75, w83_78, w83_81, kn_s, kn_n, zh_mk, zR_mk, zI_mk, zL_mk, zD_mk, wI_mk, wL_mk, wD_mk, zT_mk, zC_mk, kill_i, kill_r, kill_0, kill_n, kill_l, kill_q, zzk_r, zzk_0, zzk_q, zcat_r, zcat_i, zcat_0, zcat_q, cats_0, cats_i, cats_r, cats_l, cats_d, cats_f, cats_q, cats_n, rv_s, rv_0, Nat.reduceAdd, Nat.reduceLeDiff, Nat.reduceEqDiff, Nat.add_zero, Nat.reduceMul, Nat.reduceSub, ne_eq, not_false_eq_true, not_true_eq_false, and_self, and_true, true_and, or_self, or_true, true_or, or_false, false_or, if_true, if_false, reduceIte, reduceCtorEq, implies_true, ite_self, ite_not, k15, k73, kr15_7, kr15_8, kr15_5, kr15_6, k74, kh0 LB_now, kh0 LB_tr, w3, hI1, i3, o_eq (a := (P'.2.2.2.1 : Int)) (b := 0) (by omega), eq_true y3', i00, l21, l32]
  have hBb := hB_b fh rh
  have hRX : RL (gl 46 (rmI fh rh I1)) (gl 46 (rmL fh rh (ckL 57 L))) F.1 F.2.1 F.2.2 o' := RL_ext hR (fun a ha k => by
    show rmI fh rh I1 (46 + a) k = _
    rw [rmI_o (by omega)]; exact o2 a k ha) (fun a ha k => by
    show rmL fh rh (ckL 57 L) (46 + a) k = _
    rw [rmL_o (by omega)]; rfl)
  have hRn := RL_mg (ℓ := gl 19 (rmI fh rh I1)) (μ := gl 19 (rmL fh rh (ckL 57 L))) hRX h10
  generalize mg CP (gl 46 (rmI fh rh I1)) (gl 19 (rmI fh rh I1)) = ℓ2 at hRn ⊢
  generalize muC (gl 46 (rmL fh rh (ckL 57 L))) (gl 19 (rmL fh rh (ckL 57 L))) = μ2 at hRn ⊢
  have en : lay 19 ℓ2 (rmI fh rh I1) 19 3 = Int32.ofInt (F.2.1 : Int) := by
    have := lay_in (b := 19) (ℓ := ℓ2) (I := rmI fh rh I1) (o := 0) (k := 3) (by omega)
    rw [show 19 + 0 = 19 from rfl] at this
    rw [this]; exact rd_n hRn
  rw [en]
  have o3 : ∀ a k, a < 19 ∨ 238 ≤ a → lay 19 ℓ2 (rmI fh rh I1) a k = I1 a k := fun a k h => by
    rw [lay_out (by omega), rmI_o (by omega)]
  refine K _ _ o' ⟨C0_rm (I := I1) (fun j => by rw [o1 _ _ (by omega)]; exact hx j) (fun a q1 q2 j => by rw [o1 _ _ (by omega)]; exact hS a q1 q2 j) hf6 hr6 (by rw [o1 _ _ (by omega)]; exact f1) (by rw [o1 _ _ (by omega)]; exact f2) (fun a k h => by rw [o3 _ _ (by omega)]) (fun k => by rw [lay_out (by omega)]), RL_ext hRn (fun a ha k => lay_in ha) (fun a ha k => lay_in ha), hG, EX_dr hD⟩ hD (by rw [o3 _ _ (by omega)]; exact i3) (fun a h => ?_)
  funext k
  rw [o3 _ _ (by omega), o1 _ _ (by omega)]
end SA4
