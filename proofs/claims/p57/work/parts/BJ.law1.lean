/-! THE LAW'S LOOP -/
section SBJ
variable {N : NX} {w : WX} {d t n m c κ k : Nat} {α : Nat → Int} {o : Nat → Nat} {I : Nat → Nat → Int32} {L : Nat → Nat → Int64} {D : Nat → Nat → UInt64} {Q : Rs → St → Prop} {xs : Nat → Int32} {first r : Int}
theorem an_1 {z : Int32} : Int32.ofInt 0 &&& z = Int32.ofInt 0 := by
  rw [show (Int32.ofInt 0 : Int32) = 0 from rfl]
  exact Int32.zero_and
theorem an_2 : Int32.ofInt 1 &&& Int32.ofInt 1 = Int32.ofInt 1 ∧ Int32.ofInt 1 &&& Int32.ofInt 0 = Int32.ofInt 0 := by decide
def wB (b : Bool) : Int := if b = true then 1 else 0
/-- behind an act: stands, and counts as long as nothing was removed -/
theorem c195_90 {b : Bool} {v8 : Value} {lo6 : Option Value} {u10 u11 : Option Value} (hκ : κ < 20) (hr : κ = 14 → -1000000 ≤ r ∧ r ≤ 1000000) (hc : c ≤ 60) (hCI : CI xs c I L α n m o) (hLI : LI first (b = true ∧ (κ = 14 → r = -99)) α n m) (hZ : ZA N w I) (hN : 294 ≤ N.2.1 ∧ N.2.1 < 90000)
    (K : ∀ (b' : Bool) I', LI first (b' = true) α n m → (∀ a, a < N.2.1 → I' a = I a) → ZA (nwN N (11, 200) 200) w I' → CI xs c I' L α n m o → Wp (d + 8) 195 136 [some (.ref 0), some (.ref 15), some (.long (Int64.ofInt first)), none, some (.int (Int32.ofInt (wB b'))), some (.int (Int32.ofInt (k : Int))), lo6, some (.int (Int32.ofInt (κ : Int))), some v8, some (.int (Int32.ofInt r)), u10, u11] [] (mk (nwN N (11, 200) 200) t w I' L D) Q) :
    Wp (d + 8) 195 90 [some (.ref 0), some (.ref 15), some (.long (Int64.ofInt first)), none, some (.int (Int32.ofInt (wB b))), some (.int (Int32.ofInt (k : Int))), lo6, some (.int (Int32.ofInt (κ : Int))), some v8, some (.int (Int32.ofInt r)), u10, u11] [] (mk N t w I L D) Q := by
  have h3 : α 3 ≤ 1000000 := by have := hCI.2.2.2.1.2; omega
  have t0 : (Int32.ofInt 0 = Int32.ofInt 0) = True := by decide
  have t1 : (Int32.ofInt 1 = Int32.ofInt 0) = False := by decide
  have tail : ∀ b' : Bool, LI first (b' = true) α n m → Wp (d + 8) 195 114 [some (.ref 0), some (.ref 15), some (.long (Int64.ofInt first)), none, some (.int (Int32.ofInt (wB b'))), some (.int (Int32.ofInt (k : Int))), lo6, some (.int (Int32.ofInt (κ : Int))), some v8, some (.int (Int32.ofInt r)), u10, u11] [] (mk N t w I L D) Q := by
    intro b' hL
    simp only [w195_114, w195_115, w195_116, kn_s, kn_n, zh_mk, zR_mk, zI_mk, zL_mk, zD_mk, wI_mk, wL_mk, wD_mk, zT_mk, zC_mk, kill_i, kill_r, kill_0, kill_n, kill_l, kill_q, zzk_r, zzk_0, zzk_q, zcat_r, zcat_i, zcat_0, zcat_q, cats_0, cats_i, cats_r, cats_l, cats_d, cats_f, cats_q, cats_n, rv_s, rv_0, Nat.reduceAdd, Nat.reduceLeDiff, Nat.reduceEqDiff, Nat.add_zero, Nat.reduceMul, Nat.reduceSub, ne_eq, not_false_eq_true, not_true_eq_false, and_self, and_true, true_and, or_self, or_true, true_or, or_false, false_or, if_true, if_false, reduceIte, reduceCtorEq, implies_true, ite_self, ite_not]
    refine c156 hCI hL.1 hZ hN fun I' hI hZ' hC' => ?_
    have hK := K b' I' hL hI hZ' hC'
    cases b' with
    | false =>
      simp only [w195_119, w195_122, w195_124, w195_127, w195_128, w195_131, kn_s, kn_n, zh_mk, zR_mk, zI_mk, zL_mk, zD_mk, wI_mk, wL_mk, wD_mk, zT_mk, zC_mk, kill_i, kill_r, kill_0, kill_n, kill_l, kill_q, zzk_r, zzk_0, zzk_q, zcat_r, zcat_i, zcat_0, zcat_q, cats_0, cats_i, cats_r, cats_l, cats_d, cats_f, cats_q, cats_n, rv_s, rv_0, Nat.reduceAdd, Nat.reduceLeDiff, Nat.reduceEqDiff, Nat.add_zero, Nat.reduceMul, Nat.reduceSub, ne_eq, not_false_eq_true, not_true_eq_false, and_self, and_true, true_and, or_self, or_true, true_or, or_false, false_or, if_true, if_false, reduceIte, reduceCtorEq, implies_true, ite_self, ite_not, t1, wB, t0, reduceCtorEq]
      exact hK
    | true =>
      simp only [w195_119, w195_122, w195_124, w195_127, w195_128, w195_131, kn_s, kn_n, zh_mk, zR_mk, zI_mk, zL_mk, zD_mk, wI_mk, wL_mk, wD_mk, zT_mk, zC_mk, kill_i, kill_r, kill_0, kill_n, kill_l, kill_q, zzk_r, zzk_0, zzk_q, zcat_r, zcat_i, zcat_0, zcat_q, cats_0, cats_i, cats_r, cats_l, cats_d, cats_f, cats_q, cats_n, rv_s, rv_0, Nat.reduceAdd, Nat.reduceLeDiff, Nat.reduceEqDiff, Nat.add_zero, Nat.reduceMul, Nat.reduceSub, ne_eq, not_false_eq_true, not_true_eq_false, and_self, and_true, true_and, or_self, or_true, true_or, or_false, false_or, if_true, if_false, reduceIte, reduceCtorEq, implies_true, ite_self, ite_not, t1, wB]
      refine c157 hC'.2.1 hC'.2.2.1 (hL.2 rfl) h3 ?_
      simp only [w195_119, w195_122, w195_124, w195_127, w195_128, w195_131, kn_s, kn_n, zh_mk, zR_mk, zI_mk, zL_mk, zD_mk, wI_mk, wL_mk, wD_mk, zT_mk, zC_mk, kill_i, kill_r, kill_0, kill_n, kill_l, kill_q, zzk_r, zzk_0, zzk_q, zcat_r, zcat_i, zcat_0, zcat_q, cats_0, cats_i, cats_r, cats_l, cats_d, cats_f, cats_q, cats_n, rv_s, rv_0, Nat.reduceAdd, Nat.reduceLeDiff, Nat.reduceEqDiff, Nat.add_zero, Nat.reduceMul, Nat.reduceSub, ne_eq, not_false_eq_true, not_true_eq_false, and_self, and_true, true_and, or_self, or_true, true_or, or_false, false_or, if_true, if_false, reduceIte, reduceCtorEq, implies_true, ite_self, ite_not, t1]
      exact hK
  cases b with
  | false =>
    have h := tail false ⟨hLI.1, fun h => by cases h⟩
    by_cases h14 : κ = 14
    · by_cases hr9 : r = -99
      · simp only [w195_90, w195_92, w195_94, w195_96, w195_99, w195_101, w195_103, w195_106, w195_107, w195_110, w195_111, w195_112, kn_s, kn_n, zh_mk, zR_mk, zI_mk, zL_mk, zD_mk, wI_mk, wL_mk, wD_mk, zT_mk, zC_mk, kill_i, kill_r, kill_0, kill_n, kill_l, kill_q, zzk_r, zzk_0, zzk_q, zcat_r, zcat_i, zcat_0, zcat_q, cats_0, cats_i, cats_r, cats_l, cats_d, cats_f, cats_q, cats_n, rv_s, rv_0, Nat.reduceAdd, Nat.reduceLeDiff, Nat.reduceEqDiff, Nat.add_zero, Nat.reduceMul, Nat.reduceSub, ne_eq, not_false_eq_true, not_true_eq_false, and_self, and_true, true_and, or_self, or_true, true_or, or_false, false_or, if_true, if_false, reduceIte, reduceCtorEq, implies_true, ite_self, ite_not, wB, an_1, reduceCtorEq, o_eq (a := (κ : Int)) (b := 14) (by omega), show ((κ : Int) = 14) = True by rw [eq_iff_iff, iff_true]; omega, o_eq (a := r) (b := -99) (by have := hr h14; omega), eq_true hr9]
        exact h
      · simp only [w195_90, w195_92, w195_94, w195_96, w195_99, w195_101, w195_103, w195_106, w195_107, w195_110, w195_111, w195_112, kn_s, kn_n, zh_mk, zR_mk, zI_mk, zL_mk, zD_mk, wI_mk, wL_mk, wD_mk, zT_mk, zC_mk, kill_i, kill_r, kill_0, kill_n, kill_l, kill_q, zzk_r, zzk_0, zzk_q, zcat_r, zcat_i, zcat_0, zcat_q, cats_0, cats_i, cats_r, cats_l, cats_d, cats_f, cats_q, cats_n, rv_s, rv_0, Nat.reduceAdd, Nat.reduceLeDiff, Nat.reduceEqDiff, Nat.add_zero, Nat.reduceMul, Nat.reduceSub, ne_eq, not_false_eq_true, not_true_eq_false, and_self, and_true, true_and, or_self, or_true, true_or, or_false, false_or, if_true, if_false, reduceIte, reduceCtorEq, implies_true, ite_self, ite_not, wB, an_1, reduceCtorEq, o_eq (a := (κ : Int)) (b := 14) (by omega), show ((κ : Int) = 14) = True by rw [eq_iff_iff, iff_true]; omega, o_eq (a := r) (b := -99) (by have := hr h14; omega), eq_false hr9]
        exact h
    · simp only [w195_90, w195_92, w195_94, w195_96, w195_99, w195_101, w195_103, w195_106, w195_107, w195_110, w195_111, w195_112, kn_s, kn_n, zh_mk, zR_mk, zI_mk, zL_mk, zD_mk, wI_mk, wL_mk, wD_mk, zT_mk, zC_mk, kill_i, kill_r, kill_0, kill_n, kill_l, kill_q, zzk_r, zzk_0, zzk_q, zcat_r, zcat_i, zcat_0, zcat_q, cats_0, cats_i, cats_r, cats_l, cats_d, cats_f, cats_q, cats_n, rv_s, rv_0, Nat.reduceAdd, Nat.reduceLeDiff, Nat.reduceEqDiff, Nat.add_zero, Nat.reduceMul, Nat.reduceSub, ne_eq, not_false_eq_true, not_true_eq_false, and_self, and_true, true_and, or_self, or_true, true_or, or_false, false_or, if_true, if_false, reduceIte, reduceCtorEq, implies_true, ite_self, ite_not, wB, an_1, reduceCtorEq, o_eq (a := (κ : Int)) (b := 14) (by omega), show ((κ : Int) = 14) = False by rw [eq_iff_iff, iff_false]; omega]
      exact h
  | true =>
    by_cases h14 : κ = 14
    · by_cases hr9 : r = -99
      · have h := tail true (LI_W hLI fun _ => ⟨rfl, fun _ => hr9⟩)
        simp only [w195_90, w195_92, w195_94, w195_96, w195_99, w195_101, w195_103, w195_106, w195_107, w195_110, w195_111, w195_112, kn_s, kn_n, zh_mk, zR_mk, zI_mk, zL_mk, zD_mk, wI_mk, wL_mk, wD_mk, zT_mk, zC_mk, kill_i, kill_r, kill_0, kill_n, kill_l, kill_q, zzk_r, zzk_0, zzk_q, zcat_r, zcat_i, zcat_0, zcat_q, cats_0, cats_i, cats_r, cats_l, cats_d, cats_f, cats_q, cats_n, rv_s, rv_0, Nat.reduceAdd, Nat.reduceLeDiff, Nat.reduceEqDiff, Nat.add_zero, Nat.reduceMul, Nat.reduceSub, ne_eq, not_false_eq_true, not_true_eq_false, and_self, and_true, true_and, or_self, or_true, true_or, or_false, false_or, if_true, if_false, reduceIte, reduceCtorEq, implies_true, ite_self, ite_not, wB, an_2.1, o_eq (a := (κ : Int)) (b := 14) (by omega), show ((κ : Int) = 14) = True by rw [eq_iff_iff, iff_true]; omega, o_eq (a := r) (b := -99) (by have := hr h14; omega), eq_true hr9]
        exact h
      · have h := tail false ⟨hLI.1, fun h => by cases h⟩
        simp only [w195_90, w195_92, w195_94, w195_96, w195_99, w195_101, w195_103, w195_106, w195_107, w195_110, w195_111, w195_112, kn_s, kn_n, zh_mk, zR_mk, zI_mk, zL_mk, zD_mk, wI_mk, wL_mk, wD_mk, zT_mk, zC_mk, kill_i, kill_r, kill_0, kill_n, kill_l, kill_q, zzk_r, zzk_0, zzk_q, zcat_r, zcat_i, zcat_0, zcat_q, cats_0, cats_i, cats_r, cats_l, cats_d, cats_f, cats_q, cats_n, rv_s, rv_0, Nat.reduceAdd, Nat.reduceLeDiff, Nat.reduceEqDiff, Nat.add_zero, Nat.reduceMul, Nat.reduceSub, ne_eq, not_false_eq_true, not_true_eq_false, and_self, and_true, true_and, or_self, or_true, true_or, or_false, false_or, if_true, if_false, reduceIte, reduceCtorEq, implies_true, ite_self, ite_not, wB, an_2.2, o_eq (a := (κ : Int)) (b := 14) (by omega), show ((κ : Int) = 14) = True by rw [eq_iff_iff, iff_true]; omega, o_eq (a := r) (b := -99) (by have := hr h14; omega), eq_false hr9]
        exact h
    · have h := tail true (LI_W hLI fun _ => ⟨rfl, fun h => absurd h h14⟩)
      simp only [w195_90, w195_92, w195_94, w195_96, w195_99, w195_101, w195_103, w195_106, w195_107, w195_110, w195_111, w195_112, kn_s, kn_n, zh_mk, zR_mk, zI_mk, zL_mk, zD_mk, wI_mk, wL_mk, wD_mk, zT_mk, zC_mk, kill_i, kill_r, kill_0, kill_n, kill_l, kill_q, zzk_r, zzk_0, zzk_q, zcat_r, zcat_i, zcat_0, zcat_q, cats_0, cats_i, cats_r, cats_l, cats_d, cats_f, cats_q, cats_n, rv_s, rv_0, Nat.reduceAdd, Nat.reduceLeDiff, Nat.reduceEqDiff, Nat.add_zero, Nat.reduceMul, Nat.reduceSub, ne_eq, not_false_eq_true, not_true_eq_false, and_self, and_true, true_and, or_self, or_true, true_or, or_false, false_or, if_true, if_false, reduceIte, reduceCtorEq, implies_true, ite_self, ite_not, wB, an_2.1, o_eq (a := (κ : Int)) (b := 14) (by omega), show ((κ : Int) = 14) = False by rw [eq_iff_iff, iff_false]; omega]
      exact h
/-- the orders are compared -/
theorem c195_169 {W1 W2 : Nat} {lo : Lo} {v1 v2 v3 v4 v5 v7 v8 v9 : Option Value} (h1 : 294 ≤ W1 ∧ KH N W1 = (11, n)) (h2 : 294 ≤ W2 ∧ KH N W2 = (11, n)) (hn : n ≤ 10) (e1 : ∀ j, j < n → I W1 j = Int32.ofInt (o j : Int)) (e2 : ∀ j, j < n → I W2 j = Int32.ofInt (o j : Int)) : ∀ q i : Nat, i + q = n → Wp d 195 169 [some (.ref 0), v1, v2, v3, v4, v5, some (.ref W1), v7, v8, v9, some (.ref W2), some (.int (Int32.ofInt (i : Int)))] [] (mk N t w I L D) Q = Wp d 195 198 [some (.ref 0), v1, v2, v3, v4, v5, some (.ref W1), v7, v8, v9, some (.ref W2), some (.int (Int32.ofInt (n : Int)))] [] (mk N t w I L D) Q := by
  intro q
  induction q with
  | zero =>
    intro i hi
    obtain rfl : i = n := by omega
    have g : ¬ ((i : Int) < (i : Int)) := by omega
    rw [w195_169]
    simp only [w195_171, w195_173, w195_173q, w195_174, kn_s, kn_n, zh_mk, zR_mk, zI_mk, zL_mk, zD_mk, wI_mk, wL_mk, wD_mk, zT_mk, zC_mk, kill_i, kill_r, kill_0, kill_n, kill_l, kill_q, zzk_r, zzk_0, zzk_q, zcat_r, zcat_i, zcat_0, zcat_q, cats_0, cats_i, cats_r, cats_l, cats_d, cats_f, cats_q, cats_n, rv_s, rv_0, Nat.reduceAdd, Nat.reduceLeDiff, Nat.reduceEqDiff, Nat.add_zero, Nat.reduceMul, Nat.reduceSub, ne_eq, not_false_eq_true, not_true_eq_false, and_self, and_true, true_and, or_self, or_true, true_or, or_false, false_or, if_true, if_false, reduceIte, reduceCtorEq, implies_true, ite_self, ite_not, h1.2, o_ofN, o_lt (a := (i : Int)) (b := (i : Int)) (by omega), g]
  | succ q ih =>
    intro i hi
    have g : (i : Int) < (n : Int) := by omega
    rw [w195_169]
    simp only [w195_171, w195_173, w195_173q, w195_174, w195_177, w195_179, w195_181, w195_182, w195_184, w195_186, w195_187, w195_190, w195_191, w195_192, w195_195, kn_s, kn_n, zh_mk, zR_mk, zI_mk, zL_mk, zD_mk, wI_mk, wL_mk, wD_mk, zT_mk, zC_mk, kill_i, kill_r, kill_0, kill_n, kill_l, kill_q, zzk_r, zzk_0, zzk_q, zcat_r, zcat_i, zcat_0, zcat_q, cats_0, cats_i, cats_r, cats_l, cats_d, cats_f, cats_q, cats_n, rv_s, rv_0, Nat.reduceAdd, Nat.reduceLeDiff, Nat.reduceEqDiff, Nat.add_zero, Nat.reduceMul, Nat.reduceSub, ne_eq, not_false_eq_true, not_true_eq_false, and_self, and_true, true_and, or_self, or_true, true_or, or_false, false_or, if_true, if_false, reduceIte, reduceCtorEq, implies_true, ite_self, ite_not, o_add, o_sub, o_mul, o_neg, q_add, q_sub, q_mul, q_neg, o_32, cast_s, h1.2, h2.2, o_ofN, o_lt (a := (i : Int)) (b := (n : Int)) (by omega), g, e1 i (by omega), e2 i (by omega), eq_self, o_ixn (j := i) (n := n) (by omega), o_tnn (j := i) (by omega), cast_s]
    exact ih (i + 1) (by omega)
end SBJ
