/-! THE LAW'S ACT: a ball more, a ball elsewhere; the whole -/
section SBI
variable {N : NX} {w : WX} {d t n m c κ k x y : Nat} {b : Int} {α : Nat → Int} {o : Nat → Nat} {I : Nat → Nat → Int32} {L : Nat → Nat → Int64} {D : Nat → Nat → UInt64} {Q : Rs → St → Prop} {xs : Nat → Int32} {first : Int} {W : Prop}
theorem c152 {cc s g : Int} (hci : isC α cc) (hs : -60 ≤ s ∧ s ≤ 60) (hg : 1 ≤ g ∧ g ≤ 20) (h7 : 7 < κ ∧ κ < 18 ∧ κ ≠ 16 ∧ κ ≠ 14) (hCI : CI xs c I L α n m o) (hLI : LI first W α n m) (hK : AQ xs first W c α n m o κ N w t D I Q) : Wp (d + 6) 152 0 [some (.ref 15), some (.int (Int32.ofInt cc)), some (.int (Int32.ofInt s)), some (.int (Int32.ofInt g)), none] [] (mk N t w I L D) Q := by
  by_cases hF : n < 10 ∧ isF α n m cc
  · simp only [w152_0, w152_1, w152_2, w152_3, w152_4, kx152_4_0, w152_7, kn_s, kn_n, zh_mk, zR_mk, zI_mk, zL_mk, zD_mk, wI_mk, wL_mk, wD_mk, zT_mk, zC_mk, kill_i, kill_r, kill_0, kill_n, kill_l, kill_q, zzk_r, zzk_0, zzk_q, zcat_r, zcat_i, zcat_0, zcat_q, cats_0, cats_i, cats_r, cats_l, cats_d, cats_f, cats_q, cats_n, rv_s, rv_0, Nat.reduceAdd, Nat.reduceLeDiff, Nat.reduceEqDiff, Nat.add_zero, Nat.reduceMul, Nat.reduceSub, ne_eq, not_false_eq_true, not_true_eq_false, and_self, and_true, true_and, or_self, or_true, true_or, or_false, false_or, if_true, if_false, reduceIte, reduceCtorEq, implies_true, ite_self, ite_not, k15]
    refine c138 hF.1 hF.2 hs hg hCI fun I' L' o' hC2 hI => ?_
    simp only [w152_0, w152_1, w152_2, w152_3, w152_4, kx152_4_0, w152_7, kn_s, kn_n, zh_mk, zR_mk, zI_mk, zL_mk, zD_mk, wI_mk, wL_mk, wD_mk, zT_mk, zC_mk, kill_i, kill_r, kill_0, kill_n, kill_l, kill_q, zzk_r, zzk_0, zzk_q, zcat_r, zcat_i, zcat_0, zcat_q, cats_0, cats_i, cats_r, cats_l, cats_d, cats_f, cats_q, cats_n, rv_s, rv_0, Nat.reduceAdd, Nat.reduceLeDiff, Nat.reduceEqDiff, Nat.add_zero, Nat.reduceMul, Nat.reduceSub, ne_eq, not_false_eq_true, not_true_eq_false, and_self, and_true, true_and, or_self, or_true, true_or, or_false, false_or, if_true, if_false, reduceIte, reduceCtorEq, implies_true, ite_self, ite_not]
    exact hK t _ I' L' _ (n + 1) m o' (by omega) hC2 (LI_W (LI_add hCI.2.2.1 hLI hF.1) fun h => h.1) hI (fun h => by omega) (fun h => by omega) (fun h => by omega)
  · have r := fun (d : Nat) (Q : Rs → St → Prop) => c138_x (d := d) (N := N) (w := w) (t := t) (D := D) (Q := Q) hci hF hs hg hCI
    simp only [w152_0, w152_1, w152_2, w152_3, w152_4, kx152_4_0, w152_7, w152_8, w152_10, w152_12, kn_s, kn_n, zh_mk, zR_mk, zI_mk, zL_mk, zD_mk, wI_mk, wL_mk, wD_mk, zT_mk, zC_mk, kill_i, kill_r, kill_0, kill_n, kill_l, kill_q, zzk_r, zzk_0, zzk_q, zcat_r, zcat_i, zcat_0, zcat_q, cats_0, cats_i, cats_r, cats_l, cats_d, cats_f, cats_q, cats_n, rv_s, rv_0, Nat.reduceAdd, Nat.reduceLeDiff, Nat.reduceEqDiff, Nat.add_zero, Nat.reduceMul, Nat.reduceSub, ne_eq, not_false_eq_true, not_true_eq_false, and_self, and_true, true_and, or_self, or_true, true_or, or_false, false_or, if_true, if_false, reduceIte, reduceCtorEq, implies_true, ite_self, ite_not, k15, r, kx152_4_0]
    exact AQ_none hCI hLI hK (by omega) (Nat.le_refl _)
theorem c153 {i : Nat} {z : Int} (hi : i < n) (hC : isC α z) (h7 : 7 < κ ∧ κ < 18 ∧ κ ≠ 16 ∧ κ ≠ 14) (hCI : CI xs c I L α n m o) (hLI : LI first W α n m) (hK : AQ xs first W c α n m o κ N w t D I Q) : Wp (d + 6) 153 0 [some (.ref 15), some (.int (Int32.ofInt (i : Int))), some (.int (Int32.ofInt z)), none] [] (mk N t w I L D) Q := by
  by_cases hF : z = α (B9 i 0) ∨ isF α n m z
  · simp only [w153_0, w153_1, w153_2, w153_3, kx153_3_0, w153_6, kn_s, kn_n, zh_mk, zR_mk, zI_mk, zL_mk, zD_mk, wI_mk, wL_mk, wD_mk, zT_mk, zC_mk, kill_i, kill_r, kill_0, kill_n, kill_l, kill_q, zzk_r, zzk_0, zzk_q, zcat_r, zcat_i, zcat_0, zcat_q, cats_0, cats_i, cats_r, cats_l, cats_d, cats_f, cats_q, cats_n, rv_s, rv_0, Nat.reduceAdd, Nat.reduceLeDiff, Nat.reduceEqDiff, Nat.add_zero, Nat.reduceMul, Nat.reduceSub, ne_eq, not_false_eq_true, not_true_eq_false, and_self, and_true, true_and, or_self, or_true, true_or, or_false, false_or, if_true, if_false, reduceIte, reduceCtorEq, implies_true, ite_self, ite_not, k15]
    refine c141 hi hC hF hCI fun I' L' o' hC2 hI => ?_
    simp only [w153_0, w153_1, w153_2, w153_3, kx153_3_0, w153_6, kn_s, kn_n, zh_mk, zR_mk, zI_mk, zL_mk, zD_mk, wI_mk, wL_mk, wD_mk, zT_mk, zC_mk, kill_i, kill_r, kill_0, kill_n, kill_l, kill_q, zzk_r, zzk_0, zzk_q, zcat_r, zcat_i, zcat_0, zcat_q, cats_0, cats_i, cats_r, cats_l, cats_d, cats_f, cats_q, cats_n, rv_s, rv_0, Nat.reduceAdd, Nat.reduceLeDiff, Nat.reduceEqDiff, Nat.add_zero, Nat.reduceMul, Nat.reduceSub, ne_eq, not_false_eq_true, not_true_eq_false, and_self, and_true, true_and, or_self, or_true, true_or, or_false, false_or, if_true, if_false, reduceIte, reduceCtorEq, implies_true, ite_self, ite_not]
    exact hK t _ I' L' _ n m o' (by omega) hC2 (LI_W (LI_pl hCI.2.2.1 hLI hi) fun h => h.1) hI (fun h => by omega) (fun h => by omega) (fun h => by omega)
  · have r := fun (d : Nat) (Q : Rs → St → Prop) => c141_x (d := d) (N := N) (w := w) (t := t) (D := D) (Q := Q) hi hC (fun h => hF (Or.inl h)) (fun h => hF (Or.inr h)) hCI
    simp only [w153_0, w153_1, w153_2, w153_3, kx153_3_0, w153_6, w153_7, w153_8, w153_10, kn_s, kn_n, zh_mk, zR_mk, zI_mk, zL_mk, zD_mk, wI_mk, wL_mk, wD_mk, zT_mk, zC_mk, kill_i, kill_r, kill_0, kill_n, kill_l, kill_q, zzk_r, zzk_0, zzk_q, zcat_r, zcat_i, zcat_0, zcat_q, cats_0, cats_i, cats_r, cats_l, cats_d, cats_f, cats_q, cats_n, rv_s, rv_0, Nat.reduceAdd, Nat.reduceLeDiff, Nat.reduceEqDiff, Nat.add_zero, Nat.reduceMul, Nat.reduceSub, ne_eq, not_false_eq_true, not_true_eq_false, and_self, and_true, true_and, or_self, or_true, true_or, or_false, false_or, if_true, if_false, reduceIte, reduceCtorEq, implies_true, ite_self, ite_not, k15, r, kx153_3_0]
    exact AQ_none hCI hLI hK (by omega) (Nat.le_refl _)
theorem c154_241 (hx : x < 100000) (hy : y < 100000) (h7 : 7 < κ ∧ κ < 18 ∧ κ ≠ 16 ∧ κ ≠ 14) (hCI : CI xs c I L α n m o) (hLI : LI first W α n m) (hK : AQ xs first W c α n m o κ N w t D I Q) : Wp (d + 7) 154 241 [some (.ref 15), some (.ref 0), some (.int (Int32.ofInt (k : Int))), some (.int (Int32.ofInt (x : Int))), some (.int (Int32.ofInt (y : Int))), some (.int (Int32.ofInt (n : Int))), some (.int (Int32.ofInt b))] [] (mk N t w I L D) Q := by
  have h0 : 10 ≤ α 0 ∧ α 0 ≤ 200 := ⟨hCI.2.2.1.1.2.2.1, hCI.2.2.1.1.2.2.2.1⟩
  obtain ⟨p, hp⟩ : ∃ p : Nat, α 0 = (p : Int) := ⟨(α 0).toNat, by omega⟩
  have hz0 : ¬ (Int32.ofInt (α 0) = Int32.ofInt 0) := by rw [o_eq (by omega)]; omega
  have hz1 : ¬ (Int32.ofInt 121 = Int32.ofInt 0) := by decide
  have hz2 : ¬ (Int32.ofInt 7 = Int32.ofInt 0) := by decide
  have hlt := Nat.mod_lt x (show 0 < p by omega)
  have hci : isC α ((x % p : Nat) : Int) := by unfold isC; omega
  simp only [w154_241, w154_242, w154_243, w154_244, w154_245, w154_248, w154_249, w154_251, w154_253, w154_254, w154_256, w154_257, w154_258, w154_260, w154_262, w154_263, w154_264, kn_s, kn_n, zh_mk, zR_mk, zI_mk, zL_mk, zD_mk, wI_mk, wL_mk, wD_mk, zT_mk, zC_mk, kill_i, kill_r, kill_0, kill_n, kill_l, kill_q, zzk_r, zzk_0, zzk_q, zcat_r, zcat_i, zcat_0, zcat_q, cats_0, cats_i, cats_r, cats_l, cats_d, cats_f, cats_q, cats_n, rv_s, rv_0, Nat.reduceAdd, Nat.reduceLeDiff, Nat.reduceEqDiff, Nat.add_zero, Nat.reduceMul, Nat.reduceSub, ne_eq, not_false_eq_true, not_true_eq_false, and_self, and_true, true_and, or_self, or_true, true_or, or_false, false_or, if_true, if_false, reduceIte, reduceCtorEq, implies_true, ite_self, ite_not, k15, c105_0 hCI.2.1, hz0, hz1, hz2, o_rem' (x := x) (y := α 0) (ν := p) hp (by omega) (by omega), o_rem' (x := y) (y := 121) (ν := 121) rfl (by omega) (by omega), o_rem' (x := y) (y := 7) (ν := 7) rfl (by omega) (by omega), o_sub, o_add]
  refine c152 hci (by omega) (by omega) h7 hCI hLI fun t' r I' L' α' n' m' o' q1 q2 q3 q4 q5 q6 q7 => ?_
  simp only [w154_267, kn_s, kn_n, zh_mk, zR_mk, zI_mk, zL_mk, zD_mk, wI_mk, wL_mk, wD_mk, zT_mk, zC_mk, kill_i, kill_r, kill_0, kill_n, kill_l, kill_q, zzk_r, zzk_0, zzk_q, zcat_r, zcat_i, zcat_0, zcat_q, cats_0, cats_i, cats_r, cats_l, cats_d, cats_f, cats_q, cats_n, rv_s, rv_0, Nat.reduceAdd, Nat.reduceLeDiff, Nat.reduceEqDiff, Nat.add_zero, Nat.reduceMul, Nat.reduceSub, ne_eq, not_false_eq_true, not_true_eq_false, and_self, and_true, true_and, or_self, or_true, true_or, or_false, false_or, if_true, if_false, reduceIte, reduceCtorEq, implies_true, ite_self, ite_not]
  exact hK t' r I' L' α' n' m' o' q1 q2 q3 q4 q5 q6 q7
theorem c154_330 (hy : y < 100000) (h7 : 7 < κ ∧ κ < 18 ∧ κ ≠ 16 ∧ κ ≠ 14) (hb : (n = 0 ∧ b = -1) ∨ ∃ i : Nat, i < n ∧ b = (i : Int)) (hCI : CI xs c I L α n m o) (hLI : LI first W α n m) (hK : AQ xs first W c α n m o κ N w t D I Q) : Wp (d + 7) 154 330 [some (.ref 15), some (.ref 0), some (.int (Int32.ofInt (k : Int))), some (.int (Int32.ofInt (x : Int))), some (.int (Int32.ofInt (y : Int))), some (.int (Int32.ofInt (n : Int))), some (.int (Int32.ofInt b))] [] (mk N t w I L D) Q := by
  have h10 := hCI.2.2.1.1.1
  rcases hb with ⟨h0, rfl⟩ | ⟨i, hi, rfl⟩
  · simp only [w154_330, w154_332, w154_335, w154_337, w154_340, w154_341, w154_343, w154_345, w154_346, w154_347, w154_350, w154_351, w154_354, kn_s, kn_n, zh_mk, zR_mk, zI_mk, zL_mk, zD_mk, wI_mk, wL_mk, wD_mk, zT_mk, zC_mk, kill_i, kill_r, kill_0, kill_n, kill_l, kill_q, zzk_r, zzk_0, zzk_q, zcat_r, zcat_i, zcat_0, zcat_q, cats_0, cats_i, cats_r, cats_l, cats_d, cats_f, cats_q, cats_n, rv_s, rv_0, Nat.reduceAdd, Nat.reduceLeDiff, Nat.reduceEqDiff, Nat.add_zero, Nat.reduceMul, Nat.reduceSub, ne_eq, not_false_eq_true, not_true_eq_false, and_self, and_true, true_and, or_self, or_true, true_or, or_false, false_or, if_true, if_false, reduceIte, reduceCtorEq, implies_true, ite_self, ite_not, show (Int32.ofInt (-1) < Int32.ofInt 0) = True by decide]
    exact AQ_none hCI hLI hK (by omega) (by omega)
  · have g : ¬ ((i : Int) < 0) := by omega
    have h0 : 10 ≤ α 0 ∧ α 0 ≤ 200 := ⟨hCI.2.2.1.1.2.2.1, hCI.2.2.1.1.2.2.2.1⟩
    obtain ⟨p, hp⟩ : ∃ p : Nat, α 0 = (p : Int) := ⟨(α 0).toNat, by omega⟩
    have hz0 : ¬ (Int32.ofInt (α 0) = Int32.ofInt 0) := by rw [o_eq (by omega)]; omega
    have hlt := Nat.mod_lt y (show 0 < p by omega)
    have hci : isC α ((y % p : Nat) : Int) := by unfold isC; omega
    simp only [w154_330, w154_332, w154_335, w154_337, w154_340, w154_341, w154_343, w154_345, w154_346, w154_347, w154_350, w154_351, kn_s, kn_n, zh_mk, zR_mk, zI_mk, zL_mk, zD_mk, wI_mk, wL_mk, wD_mk, zT_mk, zC_mk, kill_i, kill_r, kill_0, kill_n, kill_l, kill_q, zzk_r, zzk_0, zzk_q, zcat_r, zcat_i, zcat_0, zcat_q, cats_0, cats_i, cats_r, cats_l, cats_d, cats_f, cats_q, cats_n, rv_s, rv_0, Nat.reduceAdd, Nat.reduceLeDiff, Nat.reduceEqDiff, Nat.add_zero, Nat.reduceMul, Nat.reduceSub, ne_eq, not_false_eq_true, not_true_eq_false, and_self, and_true, true_and, or_self, or_true, true_or, or_false, false_or, if_true, if_false, reduceIte, reduceCtorEq, implies_true, ite_self, ite_not, k15, o_lt (a := (i : Int)) (b := 0) (by omega), g, c105_0 hCI.2.1, hz0, o_rem' (x := y) (y := α 0) (ν := p) hp (by omega) (by omega)]
    refine c153 hi hci h7 hCI hLI fun t' r I' L' α' n' m' o' q1 q2 q3 q4 q5 q6 q7 => ?_
    simp only [w154_354, kn_s, kn_n, zh_mk, zR_mk, zI_mk, zL_mk, zD_mk, wI_mk, wL_mk, wD_mk, zT_mk, zC_mk, kill_i, kill_r, kill_0, kill_n, kill_l, kill_q, zzk_r, zzk_0, zzk_q, zcat_r, zcat_i, zcat_0, zcat_q, cats_0, cats_i, cats_r, cats_l, cats_d, cats_f, cats_q, cats_n, rv_s, rv_0, Nat.reduceAdd, Nat.reduceLeDiff, Nat.reduceEqDiff, Nat.add_zero, Nat.reduceMul, Nat.reduceSub, ne_eq, not_false_eq_true, not_true_eq_false, and_self, and_true, true_and, or_self, or_true, true_or, or_false, false_or, if_true, if_false, reduceIte, reduceCtorEq, implies_true, ite_self, ite_not]
    exact hK t' r I' L' α' n' m' o' q1 q2 q3 q4 q5 q6 q7
theorem c154 (hk : k ≤ 300) (hx : I 0 = xs) (hL : N.1 ≤ 260) (hCI : CI xs c I L α n m o) (hLI : LI first W α n m) (hK : AQ xs first W c α n m o (dr N.1 xs k 20) N w t D I Q) : Wp (d + 7) 154 0 [some (.ref 15), some (.ref 0), some (.int (Int32.ofInt (k : Int))), none, none, none, none] [] (mk N t w I L D) Q := by
  have h10 := hCI.2.2.1.1.1
  have dd := fun (d : Nat) (Q : Rs → St → Prop) (z v : Int) (κ ν : Nat) (ek : z = (κ : Int)) (en : v = (ν : Int)) (hk : κ ≤ 1000) (hn : 0 < ν ∧ ν ≤ 1000000) => c147' (d := d) (N := N) (t := t) (w := w) (I := I) (L := L) (D := D) (Q := Q) ek en hx hL hk hn
  have hxx := dr_lt (L := N.1) (xs := xs) (k := k + 1) (n := 100000) (by omega)
  have hyy := dr_lt (L := N.1) (xs := xs) (k := k + 2) (n := 100000) (by omega)
  have hκ := dr_lt (L := N.1) (xs := xs) (k := k) (n := 20) (by omega)
  have d1 := fun (d : Nat) (Q : Rs → St → Prop) => dd d Q ((k : Int) + 1) 100000 (k + 1) 100000 (by omega) rfl (by omega) (by omega)
  have d2 := fun (d : Nat) (Q : Rs → St → Prop) => dd d Q ((k : Int) + 2) 100000 (k + 2) 100000 (by omega) rfl (by omega) (by omega)
  have d3 := fun (d : Nat) (Q : Rs → St → Prop) => dd d Q (k : Int) 20 k 20 rfl rfl (by omega) (by omega)
  generalize dr N.1 xs (k + 1) 100000 = x at hxx d1
  generalize dr N.1 xs (k + 2) 100000 = y at hyy d2
  generalize dr N.1 xs k 20 = κ at hκ d3 hK
  have sw : ∀ b : Int, ((n = 0 ∧ b = -1) ∨ ∃ i : Nat, i < n ∧ b = (i : Int)) → Wp (d + 7) 154 50 [some (.ref 15), some (.ref 0), some (.int (Int32.ofInt (k : Int))), some (.int (Int32.ofInt (x : Int))), some (.int (Int32.ofInt (y : Int))), some (.int (Int32.ofInt (n : Int))), some (.int (Int32.ofInt b))] [.int (Int32.ofInt (κ : Int))] (mk N t w I L D) Q := by
    intro b hb
    have hcs : κ = 0 ∨ κ = 1 ∨ κ = 2 ∨ κ = 3 ∨ κ = 4 ∨ κ = 5 ∨ κ = 6 ∨ κ = 7 ∨ κ = 8 ∨ κ = 9 ∨ κ = 10 ∨ κ = 11 ∨ κ = 12 ∨ κ = 13 ∨ κ = 14 ∨ κ = 15 ∨ κ = 16 ∨ κ = 17 ∨ κ = 18 ∨ κ = 19 := by omega
    have p136 := fun h => c154_136 (d := d + 1) (k := k) (y := y) (b := b) hxx h hCI hLI hK
    have p147 := fun h => c154_147 (d := d + 1) (k := k) (y := y) (b := b) hxx h hCI hLI hK
    have p158 := fun h => c154_158 (d := d + 1) (k := k) (y := y) (b := b) hxx h hCI hLI hK
    have p355 := fun h => c154_355 (d := d + 1) (k := k) (y := y) (b := b) hxx h hCI hLI hK
    have p168 := fun h => c154_168 (d := d + 1) (k := k) (x := x) hyy h hb hCI hLI hK
    have p196 := fun h => c154_196 (d := d + 1) (k := k) (x := x) hyy h hb hCI hLI hK
    have p220 := fun h => c154_220 (d := d + 1) (k := k) (b := b) hxx hyy h hCI hLI hK
    have p241 := fun h => c154_241 (d := d) (k := k) (b := b) hxx hyy h hCI hLI hK
    have p268 := fun h => c154_268 (d := d + 1) (k := k) (y := y) hxx h hb hCI hLI hK
    have p291 := fun h => c154_291 (d := d + 1) (k := k) (x := x) (y := y) h hb hCI hLI hK
    have p311 := fun h => c154_311 (d := d + 1) (k := k) (y := y) (b := b) hxx h hCI hLI hK
    have p330 := fun h => c154_330 (d := d) (k := k) (x := x) hyy h hb hCI hLI hK
    clear hK dd d1 d2 d3
    rcases hcs with rfl | rfl | rfl | rfl | rfl | rfl | rfl | rfl | rfl | rfl | rfl | rfl | rfl | rfl | rfl | rfl | rfl | rfl | rfl | rfl
    · refine Eq.mpr w154_50_0 ?_
      exact p136 (by omega)
    · refine Eq.mpr w154_50_1 ?_
      exact p136 (by omega)
    · refine Eq.mpr w154_50_2 ?_
      exact p136 (by omega)
    · refine Eq.mpr w154_50_3 ?_
      exact p136 (by omega)
    · refine Eq.mpr w154_50_4 ?_
      exact p136 (by omega)
    · refine Eq.mpr w154_50_5 ?_
      exact p147 (by omega)
    · refine Eq.mpr w154_50_6 ?_
      exact p147 (by omega)
    · refine Eq.mpr w154_50_7 ?_
      exact p158 (by omega)
    · refine Eq.mpr w154_50_8 ?_
      exact p168 (by omega)
    · refine Eq.mpr w154_50_9 ?_
      exact p168 (by omega)
    · refine Eq.mpr w154_50_10 ?_
      exact p196 (by omega)
    · refine Eq.mpr w154_50_11 ?_
      exact p220 (by omega)
    · refine Eq.mpr w154_50_12 ?_
      exact p241 (by omega)
    · refine Eq.mpr w154_50_13 ?_
      exact p241 (by omega)
    · refine Eq.mpr w154_50_14 ?_
      exact p268 (by omega)
    · refine Eq.mpr w154_50_15 ?_
      exact p291 (by omega)
    · refine Eq.mpr w154_50_16 ?_
      exact p311 (by omega)
    · refine Eq.mpr w154_50_17 ?_
      exact p330 (by omega)
    · refine Eq.mpr (w154_50_d (by decide)) ?_
      exact p355 (by omega)
    · refine Eq.mpr (w154_50_d (by decide)) ?_
      exact p355 (by omega)
  by_cases hn : n = 0
  · have e0 : (Int32.ofInt (n : Int) = Int32.ofInt 0) = True := by rw [hn]; exact eq_true rfl
    simp only [w154_0, w154_1, w154_2, w154_3, w154_4, w154_6, w154_9, w154_10, w154_11, w154_12, w154_13, w154_14, w154_16, w154_19, w154_21, w154_22, w154_23, w154_26, w154_28, w154_30, w154_33, w154_34, w154_37, w154_38, w154_40, w154_41, w154_43, w154_44, w154_45, w154_47, kn_s, kn_n, zh_mk, zR_mk, zI_mk, zL_mk, zD_mk, wI_mk, wL_mk, wD_mk, zT_mk, zC_mk, kill_i, kill_r, kill_0, kill_n, kill_l, kill_q, zzk_r, zzk_0, zzk_q, zcat_r, zcat_i, zcat_0, zcat_q, cats_0, cats_i, cats_r, cats_l, cats_d, cats_f, cats_q, cats_n, rv_s, rv_0, Nat.reduceAdd, Nat.reduceLeDiff, Nat.reduceEqDiff, Nat.add_zero, Nat.reduceMul, Nat.reduceSub, ne_eq, not_false_eq_true, not_true_eq_false, and_self, and_true, true_and, or_self, or_true, true_or, or_false, false_or, if_true, if_false, reduceIte, reduceCtorEq, implies_true, ite_self, ite_not, o_add, k15, d1, d2, d3, c105_1 hCI.2.1, e0]
    exact sw (-1) (Or.inl ⟨hn, rfl⟩)
  · have e0 : (Int32.ofInt (n : Int) = Int32.ofInt 0) = False := by rw [o_eq (by omega)]; exact eq_false (by omega)
    have e1 : ¬ (Int32.ofInt (n : Int) = Int32.ofInt 0) := by rw [e0]; exact fun h => h
    simp only [w154_0, w154_1, w154_2, w154_3, w154_4, w154_6, w154_9, w154_10, w154_11, w154_12, w154_13, w154_14, w154_16, w154_19, w154_21, w154_22, w154_23, w154_26, w154_28, w154_30, w154_33, w154_34, w154_37, w154_38, w154_40, w154_41, w154_43, w154_44, w154_45, w154_47, kn_s, kn_n, zh_mk, zR_mk, zI_mk, zL_mk, zD_mk, wI_mk, wL_mk, wD_mk, zT_mk, zC_mk, kill_i, kill_r, kill_0, kill_n, kill_l, kill_q, zzk_r, zzk_0, zzk_q, zcat_r, zcat_i, zcat_0, zcat_q, cats_0, cats_i, cats_r, cats_l, cats_d, cats_f, cats_q, cats_n, rv_s, rv_0, Nat.reduceAdd, Nat.reduceLeDiff, Nat.reduceEqDiff, Nat.add_zero, Nat.reduceMul, Nat.reduceSub, ne_eq, not_false_eq_true, not_true_eq_false, and_self, and_true, true_and, or_self, or_true, true_or, or_false, false_or, if_true, if_false, reduceIte, reduceCtorEq, implies_true, ite_self, ite_not, o_add, k15, d1, d2, d3, c105_1 hCI.2.1, e0, o_rem' (x := x) (y := (n : Int)) (ν := n) rfl (by omega) (by omega)]
    exact sw _ (Or.inr ⟨x % n, Nat.mod_lt x (by omega), rfl⟩)
end SBI
