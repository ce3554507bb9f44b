/-! CLEARING a line: its book's pairs in a loop, then the rest; in any memory -/
def sI (σ : St) (I : Nat → Nat → Int32) (L : Nat → Nat → Int64) : St := (σ.1, σ.2.1, zR σ, I, L, zD σ)
def clp (J : Nat → Nat → Int32) (c i : Nat) : Nat → Nat → Int32 := fun a k => if a = c ∧ k < i then Int32.ofInt 0 else J a k
section S46
variable {σ : St} {I : Nat → Nat → Int32} {L : Nat → Nat → Int64} {a k : Nat}
theorem sI_h : zh (sI σ I L) a = zh σ a := nr rfl
theorem sI_R : zR (sI σ I L) a k = zR σ a k := nr rfl
theorem sI_wI {v : Int32} : wI (sI σ I L) a k v = sI σ (up2 I a k v) L := nr rfl
theorem sI_wL {v : Int64} : wL (sI σ I L) a k v = sI σ I (up2 L a k v) := nr rfl
theorem sI_0 : σ = sI σ (zI σ) (zL σ) := rfl
theorem clp_0 {c : Nat} : clp I c 0 = I := by
  funext a k
  unfold clp
  rw [if_neg (by omega)]
theorem clp_s {c i : Nat} : up2 (clp I c i) c i (Int32.ofInt 0) = clp I c (i + 1) := by
  funext a k
  unfold up2 clp
  by_cases h : a = c ∧ k = i
  · rw [if_pos h, if_pos (by omega)]
  · rw [if_neg h]
    by_cases h2 : a = c ∧ k < i
    · rw [if_pos h2, if_pos (by omega)]
    · rw [if_neg h2, if_neg (by omega)]
end S46
theorem o_n100 : Int32.ofNat 100 = Int32.ofInt 100 := nr rfl
theorem c14L {d c a : Nat} {σ : St} {I : Nat → Nat → Int32} {L : Nat → Nat → Int64} {Q : Rs → St → Prop} (h : zh σ a = (3, 0)) (hr : zR σ a 0 = c + 1) (hc : zh σ c = (11, 100)) : ∀ m i : Nat, i + m = 100 → Wp d 14 2 [some (.ref a), some (.int (Int32.ofInt (i : Int)))] [] (sI σ (clp I c i) L) Q = Wp d 14 24 [some (.ref a), some (.int (Int32.ofInt 100))] [] (sI σ (clp I c 100) L) Q := by
  intro m
  induction m with
  | zero =>
    intro i hi
    obtain rfl : i = 100 := by omega
    rw [w14_2]
    simp only [w14_0, w14_1, w14_3, w14_4, w14_7, w14_8, w14_11, w14_12, w14_15, w14_16, w14_17, w14_18, w14_21, w14_25, w14_26, w14_29, w14_30, w14_31, w14_34, w14_35, w14_36, w14_39, w14_40, w14_41, w14_44, w14_45, w14_46, w14_49, w14_50, w14_51, w14_54, w14_55, w14_56, w14_59, kn_s, kn_n, zh_mk, zR_mk, zI_mk, zL_mk, zD_mk, wI_mk, wL_mk, wD_mk, zT_mk, zC_mk, kill_i, kill_r, kill_0, kill_n, kill_l, kill_q, zzk_r, zzk_0, zzk_q, zcat_r, zcat_i, zcat_0, zcat_q, cats_0, cats_i, cats_r, cats_l, cats_d, cats_f, cats_q, cats_n, rv_s, rv_0, Nat.reduceAdd, Nat.reduceLeDiff, Nat.reduceEqDiff, Nat.add_zero, Nat.reduceMul, Nat.reduceSub, ne_eq, not_false_eq_true, not_true_eq_false, and_self, and_true, true_and, or_self, or_true, true_or, or_false, false_or, if_true, if_false, reduceIte, reduceCtorEq, implies_true, ite_self, ite_not, sI_h, sI_R, h, hr, hc, o_n100, show (Int32.ofInt ((100 : Nat) : Int) < Int32.ofInt 100) = False by decide]
    rfl
  | succ m ih =>
    intro i hi
    rw [w14_2]
    simp only [w14_0, w14_1, w14_3, w14_4, w14_7, w14_8, w14_11, w14_12, w14_15, w14_16, w14_17, w14_18, w14_21, w14_25, w14_26, w14_29, w14_30, w14_31, w14_34, w14_35, w14_36, w14_39, w14_40, w14_41, w14_44, w14_45, w14_46, w14_49, w14_50, w14_51, w14_54, w14_55, w14_56, w14_59, kn_s, kn_n, zh_mk, zR_mk, zI_mk, zL_mk, zD_mk, wI_mk, wL_mk, wD_mk, zT_mk, zC_mk, kill_i, kill_r, kill_0, kill_n, kill_l, kill_q, zzk_r, zzk_0, zzk_q, zcat_r, zcat_i, zcat_0, zcat_q, cats_0, cats_i, cats_r, cats_l, cats_d, cats_f, cats_q, cats_n, rv_s, rv_0, Nat.reduceAdd, Nat.reduceLeDiff, Nat.reduceEqDiff, Nat.add_zero, Nat.reduceMul, Nat.reduceSub, ne_eq, not_false_eq_true, not_true_eq_false, and_self, and_true, true_and, or_self, or_true, true_or, or_false, false_or, if_true, if_false, reduceIte, reduceCtorEq, implies_true, ite_self, ite_not, sI_h, sI_R, h, hr, hc, o_n100, o_lt (a := (i : Int)) (b := 100) (by omega), show ((i : Int) < 100) = True by simp only [eq_iff_iff, iff_true]; omega, o_ixn (j := i) (n := 100) (by omega), o_tnn (j := i) (by omega), sI_wI, clp_s, o_add, cast_s]
    exact ih (i + 1) (by omega)
/-- the book, cleared -/
def ckI (a c : Nat) (I : Nat → Nat → Int32) : Nat → Nat → Int32 := up2 (up2 (up2 (up2 (clp I c 100) a 4 (Int32.ofInt 0)) a 5 (Int32.ofInt 0)) a 6 (Int32.ofInt 0)) a 7 (Int32.ofInt 0)
def ckL (a : Nat) (L : Nat → Nat → Int64) : Nat → Nat → Int64 := up2 (up2 (up2 L a 1 (Int64.ofInt 0)) a 2 (Int64.ofInt 0)) a 3 (Int64.ofInt 0)
theorem c14 {d c a : Nat} {σ : St} {I : Nat → Nat → Int32} {L : Nat → Nat → Int64} {Q : Rs → St → Prop} (h : zh σ a = (3, 0)) (hr : zR σ a 0 = c + 1) (hc : zh σ c = (11, 100)) : Wp d 14 0 [some (.ref a), none] [] (sI σ I L) Q = Q (.inl none) (sI σ (ckI a c I) (ckL a L)) := by
  simp only [w14_0, w14_1, kn_s, kn_n, zh_mk, zR_mk, zI_mk, zL_mk, zD_mk, wI_mk, wL_mk, wD_mk, zT_mk, zC_mk, kill_i, kill_r, kill_0, kill_n, kill_l, kill_q, zzk_r, zzk_0, zzk_q, zcat_r, zcat_i, zcat_0, zcat_q, cats_0, cats_i, cats_r, cats_l, cats_d, cats_f, cats_q, cats_n, rv_s, rv_0, Nat.reduceAdd, Nat.reduceLeDiff, Nat.reduceEqDiff, Nat.add_zero, Nat.reduceMul, Nat.reduceSub, ne_eq, not_false_eq_true, not_true_eq_false, and_self, and_true, true_and, or_self, or_true, true_or, or_false, false_or, if_true, if_false, reduceIte, reduceCtorEq, implies_true, ite_self, ite_not]
  have e : sI σ I L = sI σ (clp I c 0) L := by rw [clp_0]
  rw [e]
  refine (c14L h hr hc 100 0 rfl).trans ?_
  simp only [w14_0, w14_1, w14_3, w14_4, w14_7, w14_8, w14_11, w14_12, w14_15, w14_16, w14_17, w14_18, w14_21, w14_24, w14_25, w14_26, w14_29, w14_30, w14_31, w14_34, w14_35, w14_36, w14_39, w14_40, w14_41, w14_44, w14_45, w14_46, w14_49, w14_50, w14_51, w14_54, w14_55, w14_56, w14_59, kn_s, kn_n, zh_mk, zR_mk, zI_mk, zL_mk, zD_mk, wI_mk, wL_mk, wD_mk, zT_mk, zC_mk, kill_i, kill_r, kill_0, kill_n, kill_l, kill_q, zzk_r, zzk_0, zzk_q, zcat_r, zcat_i, zcat_0, zcat_q, cats_0, cats_i, cats_r, cats_l, cats_d, cats_f, cats_q, cats_n, rv_s, rv_0, Nat.reduceAdd, Nat.reduceLeDiff, Nat.reduceEqDiff, Nat.add_zero, Nat.reduceMul, Nat.reduceSub, ne_eq, not_false_eq_true, not_true_eq_false, and_self, and_true, true_and, or_self, or_true, true_or, or_false, false_or, if_true, if_false, reduceIte, reduceCtorEq, implies_true, ite_self, ite_not, sI_h, h, sI_wI, sI_wL]
  rfl
theorem c47g {d a : Nat} {σ : St} {I : Nat → Nat → Int32} {L : Nat → Nat → Int64} {Q : Rs → St → Prop} (h : zh σ a = (6, 0)) : Wp d 47 0 [some (.ref a)] [] (sI σ I L) Q = Q (.inl none) (sI σ (up2 (up2 I a 4 (Int32.ofInt 0)) a 5 (Int32.ofInt 0)) L) := by
  simp only [w47_0, w47_1, w47_2, w47_5, w47_6, w47_7, w47_10, kn_s, kn_n, zh_mk, zR_mk, zI_mk, zL_mk, zD_mk, wI_mk, wL_mk, wD_mk, zT_mk, zC_mk, kill_i, kill_r, kill_0, kill_n, kill_l, kill_q, zzk_r, zzk_0, zzk_q, zcat_r, zcat_i, zcat_0, zcat_q, cats_0, cats_i, cats_r, cats_l, cats_d, cats_f, cats_q, cats_n, rv_s, rv_0, Nat.reduceAdd, Nat.reduceLeDiff, Nat.reduceEqDiff, Nat.add_zero, Nat.reduceMul, Nat.reduceSub, ne_eq, not_false_eq_true, not_true_eq_false, and_self, and_true, true_and, or_self, or_true, true_or, or_false, false_or, if_true, if_false, reduceIte, reduceCtorEq, implies_true, ite_self, ite_not, sI_h, h, sI_wI]
theorem c11g {d a : Nat} {x y : Int32} {σ : St} {I : Nat → Nat → Int32} {L : Nat → Nat → Int64} {Q : Rs → St → Prop} (h : zh σ a = (2, 0)) : Wp d 11 0 [some (.ref a), some (.int x), some (.int y)] [] (sI σ I L) Q = Q (.inl none) (sI σ (up2 (up2 (up2 I a 0 x) a 1 y) a 2 (Int32.ofInt 0)) L) := by
  simp only [w11_0, w11_1, w11_2, w11_5, w11_6, w11_7, w11_10, w11_11, w11_12, w11_15, kn_s, kn_n, zh_mk, zR_mk, zI_mk, zL_mk, zD_mk, wI_mk, wL_mk, wD_mk, zT_mk, zC_mk, kill_i, kill_r, kill_0, kill_n, kill_l, kill_q, zzk_r, zzk_0, zzk_q, zcat_r, zcat_i, zcat_0, zcat_q, cats_0, cats_i, cats_r, cats_l, cats_d, cats_f, cats_q, cats_n, rv_s, rv_0, Nat.reduceAdd, Nat.reduceLeDiff, Nat.reduceEqDiff, Nat.add_zero, Nat.reduceMul, Nat.reduceSub, ne_eq, not_false_eq_true, not_true_eq_false, and_self, and_true, true_and, or_self, or_true, true_or, or_false, false_or, if_true, if_false, reduceIte, reduceCtorEq, implies_true, ite_self, ite_not, sI_h, h, sI_wI]
/-- a line, cleared: x cells, walls that steal l and r -/
def clI (b : Nat) (x l r : Int32) (I : Nat → Nat → Int32) : Nat → Nat → Int32 :=
  ckI (b + 11) (b + 12) (up2 (up2 (up2 (up2 (up2 (up2 (up2 (up2 (up2 (up2 (up2 (up2 I b 0 x) b 1 (Int32.ofInt 0)) b 3 (Int32.ofInt 0)) b 6 (Int32.ofInt 0)) (b + 4) 0 (Int32.ofInt (-1))) (b + 4) 1 l) (b + 4) 2 (Int32.ofInt 0)) (b + 5) 0 x) (b + 5) 1 r) (b + 5) 2 (Int32.ofInt 0)) (b + 6) 4 (Int32.ofInt 0)) (b + 6) 5 (Int32.ofInt 0))
theorem c24g {d b : Nat} {x l r : Int32} {σ : St} {I : Nat → Nat → Int32} {L : Nat → Nat → Int64} {Q : Rs → St → Prop} (h : zh σ b = (5, 0)) (h7 : rv (zR σ b 7) = .ref (b + 4)) (h8 : rv (zR σ b 8) = .ref (b + 5)) (h9 : rv (zR σ b 9) = .ref (b + 6)) (h10 : rv (zR σ b 10) = .ref (b + 11)) (k4 : zh σ (b + 4) = (2, 0)) (k5 : zh σ (b + 5) = (2, 0)) (k6 : zh σ (b + 6) = (6, 0)) (k11 : zh σ (b + 11) = (3, 0)) (hr : zR σ (b + 11) 0 = b + 12 + 1) (hc : zh σ (b + 12) = (11, 100)) :
    Wp (d + 1) 24 0 [some (.ref b), some (.int x), some (.int l), some (.int r)] [] (sI σ I L) Q = Q (.inl none) (sI σ (clI b x l r I) (ckL (b + 11) L)) := by
  simp only [w24_0, w24_1, w24_2, w24_5, w24_6, w24_7, w24_10, w24_11, w24_12, w24_15, w24_16, w24_17, w24_20, w24_21, w24_24, w24_25, w24_26, w24_29, w24_30, w24_33, w24_34, w24_35, w24_38, w24_39, w24_42, w24_45, w24_46, w24_49, w24_52, kn_s, kn_n, zh_mk, zR_mk, zI_mk, zL_mk, zD_mk, wI_mk, wL_mk, wD_mk, zT_mk, zC_mk, kill_i, kill_r, kill_0, kill_n, kill_l, kill_q, zzk_r, zzk_0, zzk_q, zcat_r, zcat_i, zcat_0, zcat_q, cats_0, cats_i, cats_r, cats_l, cats_d, cats_f, cats_q, cats_n, rv_s, rv_0, Nat.reduceAdd, Nat.reduceLeDiff, Nat.reduceEqDiff, Nat.add_zero, Nat.reduceMul, Nat.reduceSub, ne_eq, not_false_eq_true, not_true_eq_false, and_self, and_true, true_and, or_self, or_true, true_or, or_false, false_or, if_true, if_false, reduceIte, reduceCtorEq, implies_true, ite_self, ite_not, sI_h, sI_R, h, h7, h8, h9, h10, k4, k5, k6, k11, sI_wI, sI_wL, c11g k4, c11g k5, c47g k6, c14 k11 hr hc]
  rfl

