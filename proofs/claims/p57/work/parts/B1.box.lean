/-! THE LAW BUILDS ITS TEXT: the box, the whole -/
theorem bx_n {x : Int} (hx : 0 ≤ x) : (kT 0 ++ dec x) ++ kT 3 = bxT x none [] := by
  rw [dec_p hx, show kT 0 = wlt 1 ++ [32] from rfl, show kT 3 = [59] from rfl]
  unfold bxT
  simp only [List.append_assoc, List.cons_append, List.nil_append]
theorem bx_s {x y z : Int} (hx : 0 ≤ x) (hy : 0 ≤ y) (hz : 0 ≤ z) : (((((kT 0 ++ dec x) ++ kT 1) ++ dec y) ++ kT 2) ++ dec z) ++ kT 3 = bxT x (some (y, z)) [] := by
  rw [dec_p hx, dec_p hy, dec_p hz, show kT 0 = wlt 1 ++ [32] from rfl, show kT 1 = 32 :: (wlt 2 ++ [32]) from rfl, show kT 2 = [32] from rfl, show kT 3 = [59] from rfl]
  unfold bxT
  simp only [List.append_assoc, List.cons_append, List.nil_append]
/-- one object more beside a builder -/
theorem SB_new {N : NX} {w : WX} {I : Nat → Nat → Int32} {B v cap n : Nat} {kd : Nat × Nat} {T : List Int} (h : SB N w I B v cap T) : SB (nwN N kd n) w I B v cap T := by
  obtain ⟨s1, s2, s3, s4, s5⟩ := h
  exact ⟨(KH_old (by omega)).trans s1, (KH_old (by omega)).trans s2, ⟨s3.1, Nat.lt_succ_of_lt s3.2⟩, ⟨s4.1, Nat.lt_succ_of_lt s4.2⟩, s5⟩
theorem LT_new {Ib I : Nat → Nat → Int32} {s : Nat} {N : NX} {w : WX} {B v cap q ℓ x : Nat} {T : List Int} {τ : Nat → Bool} (h : LT Ib s N w I B v cap T q ℓ 0 0 τ) (hx : x ≤ 100) : LT Ib s (nwN N (14, x) x) w I B v cap T (q + 1) ℓ N.2.1 x (fun _ => false) := by
  obtain ⟨⟨h1, h2, h3, h4, h5, h6, h7⟩, -⟩ := h
  have hB := h1.2.2.1
  have hv := h1.2.2.2.1
  have h6' : N.2.2.1 + x ≤ 5059 + 1000 * (q + 1) := ar_s (by omega) h6
  refine ⟨⟨SB_new h1, fun a ha j => ?_, h3, h4, Nat.succ_le_succ h5, h6', h7⟩, Or.inr ⟨KH_new (by omega), ⟨by omega, Nat.lt_succ_self _⟩, by omega, by omega, fun c _ => ?_⟩⟩
  · have ha' : N.2.1 + 1 ≤ a := ha
    exact h2 a (by omega) j
  · exact (h2 _ (Nat.le_refl _) c).1
section SB1
variable {N : NX} {w : WX} {d t s : Nat} {Ib : Nat → Nat → Int32} {L : Nat → Nat → Int64} {D : Nat → Nat → UInt64} {Q : Rs → St → Prop} {xs : Nat → Int32}
/-- the box's cells, its steals -/
def bxX (s : Nat) (xs : Nat → Int32) : Nat := 10 + dr s xs 0 (if dr s xs 1 2 = 0 then 8 else 40)
def bxS (s : Nat) (xs : Nat → Int32) : Option (Int × Int) := if dr s xs 2 2 = 0 then some ((dr s xs 3 101 : Int), (dr s xs 4 60 : Int)) else none
theorem bxX_b : 10 ≤ bxX s xs ∧ bxX s xs ≤ 49 := by
  unfold bxX
  by_cases h : dr s xs 1 2 = 0
  · rw [if_pos h]
    have := dr_lt (L := s) (xs := xs) (k := 0) (n := 8) (by omega)
    omega
  · rw [if_neg h]
    have := dr_lt (L := s) (xs := xs) (k := 0) (n := 40) (by omega)
    omega
theorem c151_0 (hN : N.1 = s ∧ N.2.1 = 294 ∧ N.2.2.1 ≤ 5059) (hZ : ZA N w Ib) (hIx : Ib 0 = xs) (hs : s ≤ 260)
    (K : ∀ N' w' I' v' cap' q tk, LT Ib s N' w' I' 294 v' cap' (bxT (bxX s xs : Int) (bxS s xs) []) q 22 tk (bxX s xs) (fun _ => false) → q ≤ 12 → Wp (d + 10) 151 98 [some (.ref 15), some (.ref 0), some (.int (Int32.ofInt (bxX s xs : Int))), some (.ref 294), some (.ref tk), some (.int (Int32.ofInt 0)), some (.int (Int32.ofInt 0)), none, none, none] [] (mk N' t w' I' L D) Q) :
    Wp (d + 10) 151 0 [some (.ref 15), some (.ref 0), none, none, none, none, none, none, none, none] [] (mk N t w Ib L D) Q := by
  obtain ⟨n1, n2, n3⟩ := hN
  have hxb := bxX_b (s := s) (xs := xs)
  have dd := fun (d : Nat) (Q : Rs → St → Prop) (k n : Int) (κ ν : Nat) (ek : k = (κ : Int)) (en : n = (ν : Int)) (hk : κ ≤ 1000) (hn : 0 < ν ∧ ν ≤ 1000000) => c147' (d := d) (N := N) (t := t) (w := w) (I := Ib) (L := L) (D := D) (Q := Q) ek en hIx (by omega) hk hn
  rw [n1] at dd
  have hN0 : 294 ≤ N.2.1 := by omega
  have hKB : N.2.1 < KB := by rw [n2]; decide
  have kB : KH (nwN N (10, 0) 4) 294 = (10, 0) := by rw [← n2]; exact KH_new hN0
  have ex : ∀ z : Nat, (Int32.ofInt 10 + Int32.ofInt (z : Int)) = Int32.ofInt ((10 + z : Nat) : Int) := fun z => by rw [o_add]; rfl
  have h1 := dr_lt (L := s) (xs := xs) (k := 1) (n := 2) (by omega)
  have start : ∀ (x : Nat), x ≤ 49 → Wp (d + 10) 151 25 [some (.ref 15), some (.ref 0), some (.int (Int32.ofInt (x : Int))), none, none, none, none, none, none, none] [] (mk N t w Ib L D) Q = Wp (d + 9) 159 0 [some (.ref 294), some (.retAddr 1)] [] (mk (nwN N (10, 0) 4) t w Ib L D) (kn (d + 9 + 1) 151 31 34 [some (.ref 15), some (.ref 0), some (.int (Int32.ofInt (x : Int))), none, none, none, none, none, none, none] [.ref 294] Q) := by
    intro x hx
    have kBN : KH (nwN N (10, 0) 4) N.2.1 = (10, 0) := KH_new hN0
    simp only [w151_25, w151_28, w151_29, w151_31, w151_31q, kn_s, kn_n, zh_mk, zR_mk, zI_mk, zL_mk, zD_mk, wI_mk, wL_mk, wD_mk, zT_mk, zC_mk, kill_i, kill_r, kill_0, kill_n, kill_l, kill_q, zzk_r, zzk_0, zzk_q, zcat_r, zcat_i, zcat_0, zcat_q, cats_0, cats_i, cats_r, cats_l, cats_d, cats_f, cats_q, cats_n, rv_s, rv_0, Nat.reduceAdd, Nat.reduceLeDiff, Nat.reduceEqDiff, Nat.add_zero, Nat.reduceMul, Nat.reduceSub, ne_eq, not_false_eq_true, not_true_eq_false, and_self, and_true, true_and, or_self, or_true, true_or, or_false, false_or, if_true, if_false, reduceIte, reduceCtorEq, implies_true, ite_self, ite_not, zn_mk, hKB, zNew_mk hN0, kBN]
    rw [n2]
  have first : Wp (d + 10) 151 0 [some (.ref 15), some (.ref 0), none, none, none, none, none, none, none, none] [] (mk N t w Ib L D) Q = Wp (d + 10) 151 25 [some (.ref 15), some (.ref 0), some (.int (Int32.ofInt (bxX s xs : Int))), none, none, none, none, none, none, none] [] (mk N t w Ib L D) Q := by
    unfold bxX
    by_cases h : dr s xs 1 2 = 0
    · rw [if_pos h]
      have e1 : (Int32.ofInt (dr s xs 1 2 : Int) = Int32.ofInt 0) = True := by rw [h]; exact eq_true rfl
      simp only [w151_0, w151_2, w151_3, w151_4, w151_5, w151_6, w151_7, w151_10, w151_13, w151_15, w151_18, w151_20, w151_23, w151_24, kn_s, kn_n, zh_mk, zR_mk, zI_mk, zL_mk, zD_mk, wI_mk, wL_mk, wD_mk, zT_mk, zC_mk, kill_i, kill_r, kill_0, kill_n, kill_l, kill_q, zzk_r, zzk_0, zzk_q, zcat_r, zcat_i, zcat_0, zcat_q, cats_0, cats_i, cats_r, cats_l, cats_d, cats_f, cats_q, cats_n, rv_s, rv_0, Nat.reduceAdd, Nat.reduceLeDiff, Nat.reduceEqDiff, Nat.add_zero, Nat.reduceMul, Nat.reduceSub, ne_eq, not_false_eq_true, not_true_eq_false, and_self, and_true, true_and, or_self, or_true, true_or, or_false, false_or, if_true, if_false, reduceIte, reduceCtorEq, implies_true, ite_self, ite_not, dd _ _ 1 2 1 2 rfl rfl (by omega) (by omega), e1, dd _ _ 0 8 0 8 rfl rfl (by omega) (by omega), ex]
    · rw [if_neg h]
      have e1 : (Int32.ofInt (dr s xs 1 2 : Int) = Int32.ofInt 0) = False := by rw [o_eq (by omega)]; exact eq_false (by omega)
      simp only [w151_0, w151_2, w151_3, w151_4, w151_5, w151_6, w151_7, w151_10, w151_13, w151_15, w151_18, w151_20, w151_23, w151_24, kn_s, kn_n, zh_mk, zR_mk, zI_mk, zL_mk, zD_mk, wI_mk, wL_mk, wD_mk, zT_mk, zC_mk, kill_i, kill_r, kill_0, kill_n, kill_l, kill_q, zzk_r, zzk_0, zzk_q, zcat_r, zcat_i, zcat_0, zcat_q, cats_0, cats_i, cats_r, cats_l, cats_d, cats_f, cats_q, cats_n, rv_s, rv_0, Nat.reduceAdd, Nat.reduceLeDiff, Nat.reduceEqDiff, Nat.add_zero, Nat.reduceMul, Nat.reduceSub, ne_eq, not_false_eq_true, not_true_eq_false, and_self, and_true, true_and, or_self, or_true, true_or, or_false, false_or, if_true, if_false, reduceIte, reduceCtorEq, implies_true, ite_self, ite_not, dd _ _ 1 2 1 2 rfl rfl (by omega) (by omega), e1, dd _ _ 0 40 0 40 rfl rfl (by omega) (by omega), ex]
  rw [first, start _ hxb.2]
  have hZ1 : ZA (nwN N (10, 0) 4) w Ib := fun a ha j => by
    have ha' : N.2.1 + 1 ≤ a := ha
    exact hZ a (by omega) j
  refine c159 (i := 0) ⟨kB, Nat.le_refl _, by show 294 < N.2.1 + 1; omega⟩ (hZ 294 (by omega) 1).1 (hZ 294 (by omega) 3).1 hZ1 (by omega) (by show N.2.1 + 1 < 80000; omega) fun N1 w1 I1 v1 cap1 hS1 hG1 => ?_
  obtain ⟨g1, g2, g3, g4, g5, g6, g7, g8⟩ := hG1
  have g3' : N1.2.1 ≤ N.2.1 + 1 + 2 := g3
  have g4' : N1.2.2.1 ≤ N.2.2.1 + 4 + 1000 := g4
  have g2' : N.2.1 + 1 ≤ N1.2.1 := g2
  have hL1 : LT Ib s N1 w1 I1 294 v1 cap1 (kT 0) 3 4 0 0 (fun _ => false) := ⟨⟨hS1, g8, fun a ha => (g6 a (show a < N.2.1 + 1 by omega) (by omega) (by omega)).1, g1.trans n1, by omega, by omega, Nat.le_refl _⟩, Or.inl rfl⟩
  have kB := hL1.1.1.1
  simp only [w151_34, w151_35, w151_38, w151_39, w151_40, w151_41, w151_42, w151_45, w151_48, kn_s, kn_n, zh_mk, zR_mk, zI_mk, zL_mk, zD_mk, wI_mk, wL_mk, wD_mk, zT_mk, zC_mk, kill_i, kill_r, kill_0, kill_n, kill_l, kill_q, zzk_r, zzk_0, zzk_q, zcat_r, zcat_i, zcat_0, zcat_q, cats_0, cats_i, cats_r, cats_l, cats_d, cats_f, cats_q, cats_n, rv_s, rv_0, Nat.reduceAdd, Nat.reduceLeDiff, Nat.reduceEqDiff, Nat.add_zero, Nat.reduceMul, Nat.reduceSub, ne_eq, not_false_eq_true, not_true_eq_false, and_self, and_true, true_and, or_self, or_true, true_or, or_false, false_or, if_true, if_false, reduceIte, reduceCtorEq, implies_true, ite_self, ite_not, kB]
  refine l161 (n := (bxX s xs : Int)) hL1 (by omega) (by omega) (by omega) fun N2 w2 I2 v2 cap2 hL2 => ?_
  have kB := hL2.1.1.1
  have h22 := dr_lt (L := s) (xs := xs) (k := 2) (n := 2) (by omega)
  have fin : ∀ (N4 : NX) (w4 : WX) (I4 : Nat → Nat → Int32) (v4 cap4 q ℓ : Nat) (T : List Int), LT Ib s N4 w4 I4 294 v4 cap4 T q ℓ 0 0 (fun _ => false) → T ++ kT 3 = bxT (bxX s xs : Int) (bxS s xs) [] → ℓ ≤ 21 → q ≤ 9 → Wp (d + 10) 151 80 [some (.ref 15), some (.ref 0), some (.int (Int32.ofInt (bxX s xs : Int))), some (.ref 294), none, none, none, none, none, none] [] (mk N4 t w4 I4 L D) Q := by
    intro N4 w4 I4 v4 cap4 q ℓ T hL4 hT hl hq
    have kB := hL4.1.1.1
    simp only [w151_80, w151_81, w151_83, w151_83q, kn_s, kn_n, zh_mk, zR_mk, zI_mk, zL_mk, zD_mk, wI_mk, wL_mk, wD_mk, zT_mk, zC_mk, kill_i, kill_r, kill_0, kill_n, kill_l, kill_q, zzk_r, zzk_0, zzk_q, zcat_r, zcat_i, zcat_0, zcat_q, cats_0, cats_i, cats_r, cats_l, cats_d, cats_f, cats_q, cats_n, rv_s, rv_0, Nat.reduceAdd, Nat.reduceLeDiff, Nat.reduceEqDiff, Nat.add_zero, Nat.reduceMul, Nat.reduceSub, ne_eq, not_false_eq_true, not_true_eq_false, and_self, and_true, true_and, or_self, or_true, true_or, or_false, false_or, if_true, if_false, reduceIte, reduceCtorEq, implies_true, ite_self, ite_not, kB]
    refine l162 (i := 3) (e := 1) hL4 (by omega) rfl (by omega) (by omega) fun N5 w5 I5 v5 cap5 hL5 => ?_
    rw [hT] at hL5
    have q5 := hL5.1.2.2.2.2.1
    have hN5 : 294 ≤ N5.2.1 := by have := hL5.1.1.2.2.1; omega
    have hKB5 : N5.2.1 < KB := by show N5.2.1 < 100000; omega
    have z0 : (Int32.ofInt 0 ≤ Int32.ofInt (bxX s xs : Int)) = True := eq_true ((o_le (by omega)).mpr (by omega))
    simp only [w151_86, w151_87, w151_88, w151_90, w151_92, w151_93, w151_95, w151_96, kn_s, kn_n, zh_mk, zR_mk, zI_mk, zL_mk, zD_mk, wI_mk, wL_mk, wD_mk, zT_mk, zC_mk, kill_i, kill_r, kill_0, kill_n, kill_l, kill_q, zzk_r, zzk_0, zzk_q, zcat_r, zcat_i, zcat_0, zcat_q, cats_0, cats_i, cats_r, cats_l, cats_d, cats_f, cats_q, cats_n, rv_s, rv_0, Nat.reduceAdd, Nat.reduceLeDiff, Nat.reduceEqDiff, Nat.add_zero, Nat.reduceMul, Nat.reduceSub, ne_eq, not_false_eq_true, not_true_eq_false, and_self, and_true, true_and, or_self, or_true, true_or, or_false, false_or, if_true, if_false, reduceIte, reduceCtorEq, implies_true, ite_self, ite_not, z0, o_tnn (j := bxX s xs) (by omega), show bxX s xs ≤ 4000 by omega, zn_mk, hKB5, zNew_mk hN5]
    have hL6 := LT_new (x := bxX s xs) hL5 (by omega)
    exact K _ _ _ _ _ _ _ ⟨⟨hL6.1.1, hL6.1.2.1, hL6.1.2.2.1, hL6.1.2.2.2.1, hL6.1.2.2.2.2.1, hL6.1.2.2.2.2.2.1, by have := hL6.1.2.2.2.2.2.2; omega⟩, hL6.2⟩ (by omega)
  by_cases h2 : dr s xs 2 2 = 0
  · have e2 : (Int32.ofInt (dr s xs 2 2 : Int) = Int32.ofInt 0) = True := by rw [h2]; exact eq_true rfl
    have y3 := dr_lt (L := s) (xs := xs) (k := 3) (n := 101) (by omega)
    have y4 := dr_lt (L := s) (xs := xs) (k := 4) (n := 60) (by omega)
    have eo : bxS s xs = some ((dr s xs 3 101 : Int), (dr s xs 4 60 : Int)) := by unfold bxS; rw [if_pos h2]
    simp only [w151_34, w151_35, w151_38, w151_39, w151_40, w151_41, w151_42, w151_45, w151_48, w151_49, w151_51, w151_51q, kn_s, kn_n, zh_mk, zR_mk, zI_mk, zL_mk, zD_mk, wI_mk, wL_mk, wD_mk, zT_mk, zC_mk, kill_i, kill_r, kill_0, kill_n, kill_l, kill_q, zzk_r, zzk_0, zzk_q, zcat_r, zcat_i, zcat_0, zcat_q, cats_0, cats_i, cats_r, cats_l, cats_d, cats_f, cats_q, cats_n, rv_s, rv_0, Nat.reduceAdd, Nat.reduceLeDiff, Nat.reduceEqDiff, Nat.add_zero, Nat.reduceMul, Nat.reduceSub, ne_eq, not_false_eq_true, not_true_eq_false, and_self, and_true, true_and, or_self, or_true, true_or, or_false, false_or, if_true, if_false, reduceIte, reduceCtorEq, implies_true, ite_self, ite_not, kB, l147 hL2 hIx hs (k := 2) (n := 2) (κ := 2) (ν := 2) rfl rfl (by omega) (by omega), e2]
    refine l162 (i := 1) (e := 7) hL2 (by omega) rfl (by omega) (by omega) fun N3 w3 I3 v3 cap3 hL3 => ?_
    have kB := hL3.1.1.1
    simp only [w151_54, w151_55, w151_56, w151_58, w151_61, kn_s, kn_n, zh_mk, zR_mk, zI_mk, zL_mk, zD_mk, wI_mk, wL_mk, wD_mk, zT_mk, zC_mk, kill_i, kill_r, kill_0, kill_n, kill_l, kill_q, zzk_r, zzk_0, zzk_q, zcat_r, zcat_i, zcat_0, zcat_q, cats_0, cats_i, cats_r, cats_l, cats_d, cats_f, cats_q, cats_n, rv_s, rv_0, Nat.reduceAdd, Nat.reduceLeDiff, Nat.reduceEqDiff, Nat.add_zero, Nat.reduceMul, Nat.reduceSub, ne_eq, not_false_eq_true, not_true_eq_false, and_self, and_true, true_and, or_self, or_true, true_or, or_false, false_or, if_true, if_false, reduceIte, reduceCtorEq, implies_true, ite_self, ite_not, kB, l147 hL3 hIx hs (k := 3) (n := 101) (κ := 3) (ν := 101) rfl rfl (by omega) (by omega)]
    refine l161 (n := (dr s xs 3 101 : Int)) hL3 (by omega) (by omega) (by omega) fun N4 w4 I4 v4 cap4 hL4 => ?_
    have kB := hL4.1.1.1
    simp only [w151_64, w151_66, w151_66q, kn_s, kn_n, zh_mk, zR_mk, zI_mk, zL_mk, zD_mk, wI_mk, wL_mk, wD_mk, zT_mk, zC_mk, kill_i, kill_r, kill_0, kill_n, kill_l, kill_q, zzk_r, zzk_0, zzk_q, zcat_r, zcat_i, zcat_0, zcat_q, cats_0, cats_i, cats_r, cats_l, cats_d, cats_f, cats_q, cats_n, rv_s, rv_0, Nat.reduceAdd, Nat.reduceLeDiff, Nat.reduceEqDiff, Nat.add_zero, Nat.reduceMul, Nat.reduceSub, ne_eq, not_false_eq_true, not_true_eq_false, and_self, and_true, true_and, or_self, or_true, true_or, or_false, false_or, if_true, if_false, reduceIte, reduceCtorEq, implies_true, ite_self, ite_not, kB]
    refine l162 (i := 2) (e := 1) hL4 (by omega) rfl (by omega) (by omega) fun N5 w5 I5 v5 cap5 hL5 => ?_
    have kB := hL5.1.1.1
    simp only [w151_69, w151_70, w151_71, w151_73, w151_76, kn_s, kn_n, zh_mk, zR_mk, zI_mk, zL_mk, zD_mk, wI_mk, wL_mk, wD_mk, zT_mk, zC_mk, kill_i, kill_r, kill_0, kill_n, kill_l, kill_q, zzk_r, zzk_0, zzk_q, zcat_r, zcat_i, zcat_0, zcat_q, cats_0, cats_i, cats_r, cats_l, cats_d, cats_f, cats_q, cats_n, rv_s, rv_0, Nat.reduceAdd, Nat.reduceLeDiff, Nat.reduceEqDiff, Nat.add_zero, Nat.reduceMul, Nat.reduceSub, ne_eq, not_false_eq_true, not_true_eq_false, and_self, and_true, true_and, or_self, or_true, true_or, or_false, false_or, if_true, if_false, reduceIte, reduceCtorEq, implies_true, ite_self, ite_not, kB, l147 hL5 hIx hs (k := 4) (n := 60) (κ := 4) (ν := 60) rfl rfl (by omega) (by omega)]
    refine l161 (n := (dr s xs 4 60 : Int)) hL5 (by omega) (by omega) (by omega) fun N6 w6 I6 v6 cap6 hL6 => ?_
    simp only [w151_79, kn_s, kn_n, zh_mk, zR_mk, zI_mk, zL_mk, zD_mk, wI_mk, wL_mk, wD_mk, zT_mk, zC_mk, kill_i, kill_r, kill_0, kill_n, kill_l, kill_q, zzk_r, zzk_0, zzk_q, zcat_r, zcat_i, zcat_0, zcat_q, cats_0, cats_i, cats_r, cats_l, cats_d, cats_f, cats_q, cats_n, rv_s, rv_0, Nat.reduceAdd, Nat.reduceLeDiff, Nat.reduceEqDiff, Nat.add_zero, Nat.reduceMul, Nat.reduceSub, ne_eq, not_false_eq_true, not_true_eq_false, and_self, and_true, true_and, or_self, or_true, true_or, or_false, false_or, if_true, if_false, reduceIte, reduceCtorEq, implies_true, ite_self, ite_not]
    exact fin _ _ _ _ _ _ _ _ hL6 (by rw [eo]; exact bx_s (by omega) (by omega) (by omega)) (by omega) (by omega)
  · have e2 : (Int32.ofInt (dr s xs 2 2 : Int) = Int32.ofInt 0) = False := by rw [o_eq (by omega)]; exact eq_false (by omega)
    have eo : bxS s xs = none := by unfold bxS; rw [if_neg h2]
    simp only [w151_34, w151_35, w151_38, w151_39, w151_40, w151_41, w151_42, w151_45, w151_48, kn_s, kn_n, zh_mk, zR_mk, zI_mk, zL_mk, zD_mk, wI_mk, wL_mk, wD_mk, zT_mk, zC_mk, kill_i, kill_r, kill_0, kill_n, kill_l, kill_q, zzk_r, zzk_0, zzk_q, zcat_r, zcat_i, zcat_0, zcat_q, cats_0, cats_i, cats_r, cats_l, cats_d, cats_f, cats_q, cats_n, rv_s, rv_0, Nat.reduceAdd, Nat.reduceLeDiff, Nat.reduceEqDiff, Nat.add_zero, Nat.reduceMul, Nat.reduceSub, ne_eq, not_false_eq_true, not_true_eq_false, and_self, and_true, true_and, or_self, or_true, true_or, or_false, false_or, if_true, if_false, reduceIte, reduceCtorEq, implies_true, ite_self, ite_not, kB, l147 hL2 hIx hs (k := 2) (n := 2) (κ := 2) (ν := 2) rfl rfl (by omega) (by omega), e2]
    exact fin _ _ _ _ _ _ _ _ hL2 (by rw [eo]; exact bx_n (by omega)) (by omega) (by omega)
end SB1
