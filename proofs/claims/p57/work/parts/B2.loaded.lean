/-! THE LAW'S LOAD -/
section SB2
variable {N : NX} {w : WX} {d t s : Nat} {Ib : Nat → Nat → Int32} {L : Nat → Nat → Int64} {D : Nat → Nat → UInt64} {Q : Rs → St → Prop} {xs : Nat → Int32}
theorem FE_o {I : Nat → Nat → Int32} {T : List Int} {q a j : Nat} (h : a ≠ 16 ∧ (a ≠ 15 ∨ j ≠ 1)) : FE I T q a j = I a j := by
  unfold FE FD
  rw [u2_ne (by omega), if_neg (by omega), if_neg (by omega)]
theorem FE_16 {I : Nat → Nat → Int32} {T : List Int} {q j : Nat} (h : j < q) : FE I T q 16 j = Int32.ofInt (T.getD j 0) := by
  unfold FE FD
  rw [u2_ne (by omega), if_pos ⟨rfl, h⟩]
theorem c151 (hN : N.1 = s ∧ N.2.1 = 294 ∧ N.2.2.1 ≤ 5059) (hZ : ZA N w Ib) (hIx : Ib 0 = xs) (hs : s ≤ 260) (hC : C0 xs Ib) (h15 : Ib 15 1 = Int32.ofInt 0)
    (K : ∀ N' w' I' L' o' Z, okB (bxX s xs : Int) (bxS s xs) → okZ (bxO (bxX s xs : Int) (bxS s xs)) Z → CI xs 0 I' L' (effs (bxO (bxX s xs : Int) (bxS s xs)) Z).1 (effs (bxO (bxX s xs : Int) (bxS s xs)) Z).2.1 (effs (bxO (bxX s xs : Int) (bxS s xs)) Z).2.2 o' → N'.1 = s → 294 ≤ N'.2.1 → N'.2.1 ≤ 400 → N'.2.2.1 ≤ 105059 → ZA N' w' I' → Q (.inl (some (.int (Int32.ofInt 1)))) (mk N' t w' I' L' D)) :
    Wp (d + 10) 151 0 [some (.ref 15), some (.ref 0), none, none, none, none, none, none, none, none] [] (mk N t w Ib L D) Q := by
  have hxb := bxX_b (s := s) (xs := xs)
  have hob : okB (bxX s xs : Int) (bxS s xs) := by
    refine ⟨by omega, ?_⟩
    unfold bxS
    by_cases h2 : dr s xs 2 2 = 0
    · rw [if_pos h2]
      have y3 := dr_lt (L := s) (xs := xs) (k := 3) (n := 101) (by omega)
      have y4 := dr_lt (L := s) (xs := xs) (k := 4) (n := 60) (by omega)
      show (0 ≤ (dr s xs 3 101 : Int) ∧ (dr s xs 3 101 : Int) ≤ 100) ∧ (0 ≤ (dr s xs 4 60 : Int) ∧ (dr s xs 4 60 : Int) ≤ 100)
      omega
    · rw [if_neg h2]
      trivial
  refine c151_0 hN hZ hIx hs fun N1 w1 I1 v1 cap1 q1 tk hL1 hq1 => ?_
  generalize bxS s xs = o at hL1 hob K
  generalize bxX s xs = x at hL1 hob K hxb
  have b0 : (bxO (x : Int) o).1 0 = (x : Int) ∧ (bxO (x : Int) o).2.1 = 0 ∧ (bxO (x : Int) o).2.2 = 0 := by
    match o with
    | none => exact ⟨rfl, rfl, rfl⟩
    | some (y, z) => exact ⟨rfl, rfl, rfl⟩
  have hH1 : HL Ib s x o [] N1 w1 I1 294 v1 cap1 q1 22 tk (fun _ => false) := ⟨hL1, trivial, ⟨b0.1, fun c _ _ => ⟨fun j hj => by rw [show (effs (bxO (x : Int) o) []).2.1 = 0 from b0.2.1] at hj; omega, fun j hj => by rw [show (effs (bxO (x : Int) o) []).2.2 = 0 from b0.2.2] at hj; omega⟩, fun i hi => by rw [show (effs (bxO (x : Int) o) []).2.1 = 0 from b0.2.1] at hi; omega⟩⟩
  have h53 := dr_lt (L := s) (xs := xs) (k := 5) (n := 3) (by omega)
  have go := c151_98 (d := d) (t := t) (L := L) (D := D) (Q := Q) (o := o) (B := 294) (tk := tk) hIx hs hxb (dr s xs 5 3) 0 [] N1 w1 I1 v1 cap1 q1 22 (fun _ => false) none none none (by omega) hH1 b0.2.1 (by rw [show (effs (bxO (x : Int) o) []).2.2 = 0 from b0.2.2]; omega) (by omega) (by omega)
  rw [show (effs (bxO (x : Int) o) []).2.2 = 0 from b0.2.2] at go
  refine go fun Z2 N2 w2 I2 v2 cap2 q2 ℓ2 τ2 k2 u7 u8 u9 hH2 hn2 hm2 hq2 hl2 => ?_
  simp only [w151_183, w151_184, w151_186, w151_187, kn_s, kn_n, zh_mk, zR_mk, zI_mk, zL_mk, zD_mk, wI_mk, wL_mk, wD_mk, zT_mk, zC_mk, kill_i, kill_r, kill_0, kill_n, kill_l, kill_q, zzk_r, zzk_0, zzk_q, zcat_r, zcat_i, zcat_0, zcat_q, cats_0, cats_i, cats_r, cats_l, cats_d, cats_f, cats_q, cats_n, rv_s, rv_0, Nat.reduceAdd, Nat.reduceLeDiff, Nat.reduceEqDiff, Nat.add_zero, Nat.reduceMul, Nat.reduceSub, ne_eq, not_false_eq_true, not_true_eq_false, and_self, and_true, true_and, or_self, or_true, true_or, or_false, false_or, if_true, if_false, reduceIte, reduceCtorEq, implies_true, ite_self, ite_not]
  have go2 := c151_189 (d := d) (t := t) (L := L) (D := D) (Q := Q) (o := o) (B := 294) (tk := tk) (p := (effs (bxO (x : Int) o) Z2).2.2) hIx hs hxb (dr s xs 10 7) 0 Z2 N2 w2 I2 v2 cap2 q2 ℓ2 τ2 u8 u9 (by omega) hH2 (by omega) rfl hm2 (by omega) (by omega)
  rw [hn2] at go2
  refine go2 fun Z N3 w3 I3 v3 cap3 q3 ℓ3 τ3 k3 u8 u9 hH3 hn3 hm3 hq3 hl3 => ?_
  obtain ⟨⟨⟨hS, hZ3, hI3, c1, c2, c3, c4⟩, -⟩, hoz, hrel⟩ := hH3
  have hTl := bxT_l (x := (x : Int)) (o := o) (R := txts (bxO (x : Int) o) Z)
  have kB := hS.1
  simp only [w151_331, w151_332, w151_333, w151_336, w151_336q, kn_s, kn_n, zh_mk, zR_mk, zI_mk, zL_mk, zD_mk, wI_mk, wL_mk, wD_mk, zT_mk, zC_mk, kill_i, kill_r, kill_0, kill_n, kill_l, kill_q, zzk_r, zzk_0, zzk_q, zcat_r, zcat_i, zcat_0, zcat_q, cats_0, cats_i, cats_r, cats_l, cats_d, cats_f, cats_q, cats_n, rv_s, rv_0, Nat.reduceAdd, Nat.reduceLeDiff, Nat.reduceEqDiff, Nat.add_zero, Nat.reduceMul, Nat.reduceSub, ne_eq, not_false_eq_true, not_true_eq_false, and_self, and_true, true_and, or_self, or_true, true_or, or_false, false_or, if_true, if_false, reduceIte, reduceCtorEq, implies_true, ite_self, ite_not, kB]
  refine c164 hS hZ3 (by omega) fun N4 w4 I4 hST hG => ?_
  obtain ⟨f1, f2, f3, f4, f5, f6, f7⟩ := hG
  have hI4 : ∀ a, a < 294 → I4 a = Ib a := fun a ha => (f6 a (by have := hS.2.2.1; omega)).1.trans (hI3 a ha)
  simp only [w151_331, w151_332, w151_333, w151_336, w151_336q, kn_s, kn_n, zh_mk, zR_mk, zI_mk, zL_mk, zD_mk, wI_mk, wL_mk, wD_mk, zT_mk, zC_mk, kill_i, kill_r, kill_0, kill_n, kill_l, kill_q, zzk_r, zzk_0, zzk_q, zcat_r, zcat_i, zcat_0, zcat_q, cats_0, cats_i, cats_r, cats_l, cats_d, cats_f, cats_q, cats_n, rv_s, rv_0, Nat.reduceAdd, Nat.reduceLeDiff, Nat.reduceEqDiff, Nat.add_zero, Nat.reduceMul, Nat.reduceSub, ne_eq, not_false_eq_true, not_true_eq_false, and_self, and_true, true_and, or_self, or_true, true_or, or_false, false_or, if_true, if_false, reduceIte, reduceCtorEq, implies_true, ite_self, ite_not]
  refine c149 hST (by rw [hI4 15 (by omega)]; exact h15) ⟨by omega, by omega⟩ fun q' hq'1 hq'2 => ?_
  simp only [w151_339, w151_340, kn_s, kn_n, zh_mk, zR_mk, zI_mk, zL_mk, zD_mk, wI_mk, wL_mk, wD_mk, zT_mk, zC_mk, kill_i, kill_r, kill_0, kill_n, kill_l, kill_q, zzk_r, zzk_0, zzk_q, zcat_r, zcat_i, zcat_0, zcat_q, cats_0, cats_i, cats_r, cats_l, cats_d, cats_f, cats_q, cats_n, rv_s, rv_0, Nat.reduceAdd, Nat.reduceLeDiff, Nat.reduceEqDiff, Nat.add_zero, Nat.reduceMul, Nat.reduceSub, ne_eq, not_false_eq_true, not_true_eq_false, and_self, and_true, true_and, or_self, or_true, true_or, or_false, false_or, if_true, if_false, reduceIte, reduceCtorEq, implies_true, ite_self, ite_not, k15]
  generalize hT : bxT (x : Int) o (txts (bxO (x : Int) o) Z) = T at hS hST hTl c4 hq'1 ⊢
  have hC4 : C0 xs (FE I4 T q') := by
    obtain ⟨d1, d2, f, r, d3, d4, d5, d6⟩ := hC
    exact ⟨fun j => by rw [FE_o (by omega), hI4 0 (by omega)]; exact d1 j, fun a h1 h2 j => by rw [FE_o (by omega), hI4 a (by omega)]; exact d2 a h1 h2 j, f, r, d3, d4, by rw [FE_o (by omega), hI4 74 (by omega)]; exact d5, by rw [FE_o (by omega), hI4 74 (by omega)]; exact d6⟩
  refine c83 (x := (x : Int)) (o := o) (Z := Z) hC4 (by unfold FE; exact u2_same) (by omega) (fun j hj => FE_16 (by omega)) hST.2.2.2.2.2.2.2.1 hob hT.symm hoz fun I5 L5 o5 hCI hD h153 h294 => ?_
  have hR := hCI.2.1
  have a0 := hrel.1
  have a3 : (effs (bxO (x : Int) o) Z).1 3 = 0 := hD.1
  have a4 : (effs (bxO (x : Int) o) Z).1 4 = 0 := hD.2.1
  have q0 := fun (d : Nat) (Q : Rs → St → Prop) => c105_0 (d := d) (N := N4) (w := w4) (t := t) (D := D) (Q := Q) hR
  have q1 := fun (d : Nat) (Q : Rs → St → Prop) => c105_1 (d := d) (N := N4) (w := w4) (t := t) (D := D) (Q := Q) hR
  have q2 := fun (d : Nat) (Q : Rs → St → Prop) => c105_2 (d := d) (N := N4) (w := w4) (t := t) (D := D) (Q := Q) hR
  have q3 := fun (d : Nat) (Q : Rs → St → Prop) => c105_3 (d := d) (N := N4) (w := w4) (t := t) (D := D) (Q := Q) hR
  have q4 := fun (d : Nat) (Q : Rs → St → Prop) => c105_4 (d := d) (N := N4) (w := w4) (t := t) (D := D) (Q := Q) hR
  rw [a0] at q0
  rw [a3] at q3
  rw [a4] at q4
  rw [hm3] at q2
  simp only [w151_343, w151_345, w151_348, w151_349, w151_352, w151_355, w151_356, w151_357, w151_360, w151_361, w151_364, w151_365, w151_366, w151_369, w151_371, w151_374, w151_375, w151_376, w151_379, w151_381, w151_384, w151_385, w151_386, w151_389, w151_392, w151_393, w151_394, w151_397, w151_400, w151_401, w151_404, w151_405, kn_s, kn_n, zh_mk, zR_mk, zI_mk, zL_mk, zD_mk, wI_mk, wL_mk, wD_mk, zT_mk, zC_mk, kill_i, kill_r, kill_0, kill_n, kill_l, kill_q, zzk_r, zzk_0, zzk_q, zcat_r, zcat_i, zcat_0, zcat_q, cats_0, cats_i, cats_r, cats_l, cats_d, cats_f, cats_q, cats_n, rv_s, rv_0, Nat.reduceAdd, Nat.reduceLeDiff, Nat.reduceEqDiff, Nat.add_zero, Nat.reduceMul, Nat.reduceSub, ne_eq, not_false_eq_true, not_true_eq_false, and_self, and_true, true_and, or_self, or_true, true_or, or_false, false_or, if_true, if_false, reduceIte, reduceCtorEq, implies_true, ite_self, ite_not, k15, c84 h153, i00, q0, q1, q2, q3, q4, nz1]
  refine K _ _ _ _ o5 Z hob hoz hCI (f1.trans c1) (by have := hS.2.2.1; omega) (by omega) (by omega) fun a ha j => ⟨?_, (f7 a ha j).2⟩
  rw [h294 a (by have := hS.2.2.1; omega), FE_o (by have := hS.2.2.1; omega)]
  exact (f7 a ha j).1
end SB2
