/-! THE PARSER of the class: tokens and parts of statements -/
def pC (P : PS) (J : Nat → Nat → Int32) : Nat → Nat → Int32 := fun a q => if a = 73 then (if q = 3 then Int32.ofInt (P.2.2.1 : Int) else if q = 4 then Int32.ofInt (P.1 : Int) else if q = 5 then Int32.ofInt (P.2.1 : Int) else if q = 6 then Int32.ofInt (P.2.2.2.1 : Int) else J a q) else J a q
def TC (f : Nat → Int) (n : Nat) (J : Nat → Nat → Int32) : Prop := n ≤ 400 ∧ J 73 2 = Int32.ofInt (n : Int) ∧ ∀ j, j < n → J 16 j = Int32.ofInt (f j) ∧ -128 ≤ f j ∧ f j < 128
def SW (J : Nat → Nat → Int32) : Prop := ∀ a, 8 ≤ a → a < 15 → ∀ j, J a j = (sby.getD (a - 8) []).getD j 0
def twT (f : Nat → Int) (n a : Nat) (P : PS) : PS := nxT f n (if iw f a P = true then P else flT 1 P)
def cvT (f : Nat → Int) (lo : Int) (P : PS) : Int := if P.2.2.1 = 2 then cnL f (P.2.1 - P.1) P.1 0 else lo
def chT (f : Nat → Int) (lo hi : Int) (P : PS) : PS := if P.2.2.1 = 2 then (if lo ≤ cnL f (P.2.1 - P.1) P.1 0 ∧ cnL f (P.2.1 - P.1) P.1 0 ≤ hi then P else flT 2 P) else flT 1 P
def syT (f : Nat → Int) (c : Int) (P : PS) : Bool := decide (P.2.2.1 = 3 ∧ f P.1 = c)
def smT (f : Nat → Int) (n : Nat) (P : PS) : PS := nxT f n (if syT f 59 P = true then P else flT 1 P)
section S78
variable {N : NX} {w : WX} {d t n : Nat} {f : Nat → Int} {I J : Nat → Nat → Int32} {L : Nat → Nat → Int64} {D : Nat → Nat → UInt64} {Q : Rs → St → Prop} {P : PS}
theorem pC_2 : pC P J 73 2 = J 73 2 := nr rfl
theorem pC_3 : pC P J 73 3 = Int32.ofInt (P.2.2.1 : Int) := nr rfl
theorem pC_4 : pC P J 73 4 = Int32.ofInt (P.1 : Int) := nr rfl
theorem pC_5 : pC P J 73 5 = Int32.ofInt (P.2.1 : Int) := nr rfl
theorem pC_6 : pC P J 73 6 = Int32.ofInt (P.2.2.2.1 : Int) := nr rfl
theorem pC_o {a q : Nat} (h : a ≠ 73) : pC P J a q = J a q := by
  unfold pC
  rw [if_neg h]
theorem pC_u3 {x s e k r : Nat} {v : Int} : up2 (pC (s, e, k, r, v) J) 73 3 (Int32.ofInt (x : Int)) = pC (s, e, x, r, v) J := by
  funext a q
  unfold up2 pC
  by_cases h : a = 73
  · subst h
    by_cases h3 : q = 3
    · simp [h3]
    · simp [h3]
  · simp [h]
theorem pC_u4 {x s e k r : Nat} {v : Int} : up2 (pC (s, e, k, r, v) J) 73 4 (Int32.ofInt (x : Int)) = pC (x, e, k, r, v) J := by
  funext a q
  unfold up2 pC
  by_cases h : a = 73
  · subst h
    by_cases h3 : q = 4
    · simp [h3]
    · simp [h3]
  · simp [h]
theorem pC_u5 {x s e k r : Nat} {v : Int} : up2 (pC (s, e, k, r, v) J) 73 5 (Int32.ofInt (x : Int)) = pC (s, x, k, r, v) J := by
  funext a q
  unfold up2 pC
  by_cases h : a = 73
  · subst h
    by_cases h3 : q = 5
    · simp [h3]
    · simp [h3]
  · simp [h]
theorem pC_u6 {x s e k r : Nat} {v : Int} : up2 (pC (s, e, k, r, v) J) 73 6 (Int32.ofInt (x : Int)) = pC (s, e, k, x, v) J := by
  funext a q
  unfold up2 pC
  by_cases h : a = 73
  · subst h
    by_cases h3 : q = 6
    · simp [h3]
    · simp [h3]
  · simp [h]
theorem TC_pC (h : TC f n J) : TC f n (pC P J) := ⟨h.1, h.2.1, fun j hj => by rw [pC_o (by omega)]; exact h.2.2 j hj⟩
theorem SW_pC (h : SW J) : SW (pC P J) := fun a h1 h2 j => by rw [pC_o (by omega)]; exact h a h1 h2 j
theorem k73 {N : NX} : KH N 73 = (8, 0) := nr rfl
theorem kr73_0 {w : WX} : rv (KR w 73 0) = .ref 16 := nr rfl
theorem kr73_1 {w : WX} : rv (KR w 73 1) = .ref 46 := nr rfl
theorem kh_s {N : NX} {a : Nat} (h : 1 ≤ a ∧ a < 8) : KH N a = (20, 0) := by
  unfold KH
  rw [if_neg (by omega), if_pos h.2]
theorem kh_sb {N : NX} {a : Nat} (h : 1 ≤ a ∧ a < 8) : KH N (a + 7) = (21, wdL a) := by
  unfold KH
  rw [if_neg (by omega), if_neg (by omega), if_pos (by omega)]
  rfl
theorem c65 (hT : TC f n I) {i : Nat} (hi : i ≤ n) : Wp d 65 0 [some (.ref 73), some (.int (Int32.ofInt (i : Int))), none] [] (mk N t w I L D) Q = Q (.inl (some (.int (Int32.ofInt (kd0 f n i : Int))))) (mk N t w I L D) := by
  have h4 := hT.1
  have g0 : ¬ ((i : Int) < 0) := by omega
  unfold kd0
  by_cases h : n ≤ i
  · have g1 : ¬ ((i : Int) < n) := by omega
    simp only [w65_0, w65_1, w65_4, w65_5, w65_6, w65_9, w65_12, w65_13, w65_14, w65_15, w65_18, w65_19, w65_20, w65_21, w65_22, w65_24, w65_27, w65_28, w65_30, w65_33, w65_34, w65_35, w65_36, w65_38, w65_41, w65_42, w65_44, w65_47, w65_48, w65_49, w65_50, w65_52, w65_55, w65_56, w65_58, w65_61, w65_62, w65_65, w65_66, kn_s, kn_n, zh_mk, zR_mk, zI_mk, zL_mk, zD_mk, wI_mk, wL_mk, wD_mk, zT_mk, zC_mk, kill_i, kill_r, kill_0, kill_n, kill_l, kill_q, zzk_r, zzk_0, zzk_q, zcat_r, zcat_i, zcat_0, zcat_q, cats_0, cats_i, cats_r, cats_l, cats_d, cats_f, cats_q, cats_n, rv_s, rv_0, Nat.reduceAdd, Nat.reduceLeDiff, Nat.reduceEqDiff, Nat.add_zero, Nat.reduceMul, Nat.reduceSub, ne_eq, not_false_eq_true, not_true_eq_false, and_self, and_true, true_and, or_self, or_true, true_or, or_false, false_or, if_true, if_false, reduceIte, reduceCtorEq, implies_true, ite_self, ite_not, k73, hT.2.1, o_lt (a := (i : Int)) (b := 0) (by omega), o_lt (a := (i : Int)) (b := (n : Int)) (by omega), g0, g1, eq_true h]
    rfl
  · have g1 : (i : Int) < n := by omega
    have hb := hT.2.2 i (by omega)
    by_cases h1 : f i = 32
    · simp only [w65_0, w65_1, w65_4, w65_5, w65_6, w65_9, w65_12, w65_13, w65_14, w65_15, w65_18, w65_19, w65_20, w65_21, w65_22, w65_24, w65_27, w65_28, w65_30, w65_33, w65_34, w65_35, w65_36, w65_38, w65_41, w65_42, w65_44, w65_47, w65_48, w65_49, w65_50, w65_52, w65_55, w65_56, w65_58, w65_61, w65_62, w65_65, w65_66, kn_s, kn_n, zh_mk, zR_mk, zI_mk, zL_mk, zD_mk, wI_mk, wL_mk, wD_mk, zT_mk, zC_mk, kill_i, kill_r, kill_0, kill_n, kill_l, kill_q, zzk_r, zzk_0, zzk_q, zcat_r, zcat_i, zcat_0, zcat_q, cats_0, cats_i, cats_r, cats_l, cats_d, cats_f, cats_q, cats_n, rv_s, rv_0, Nat.reduceAdd, Nat.reduceLeDiff, Nat.reduceEqDiff, Nat.add_zero, Nat.reduceMul, Nat.reduceSub, ne_eq, not_false_eq_true, not_true_eq_false, and_self, and_true, true_and, or_self, or_true, true_or, or_false, false_or, if_true, if_false, reduceIte, reduceCtorEq, implies_true, ite_self, ite_not, k73, k16, kr73_0, hT.2.1, hb.1, o_lt (a := (i : Int)) (b := 0) (by omega), o_lt (a := (i : Int)) (b := (n : Int)) (by omega), g0, g1, eq_false h, o_ixn (j := i) (n := 400) (by omega), o_tnn (j := i) (by omega), o_eq (a := f i) (b := 32) (by omega), eq_true h1]
      rfl
    · by_cases h2 : f i = 10
      · simp only [w65_0, w65_1, w65_4, w65_5, w65_6, w65_9, w65_12, w65_13, w65_14, w65_15, w65_18, w65_19, w65_20, w65_21, w65_22, w65_24, w65_27, w65_28, w65_30, w65_33, w65_34, w65_35, w65_36, w65_38, w65_41, w65_42, w65_44, w65_47, w65_48, w65_49, w65_50, w65_52, w65_55, w65_56, w65_58, w65_61, w65_62, w65_65, w65_66, kn_s, kn_n, zh_mk, zR_mk, zI_mk, zL_mk, zD_mk, wI_mk, wL_mk, wD_mk, zT_mk, zC_mk, kill_i, kill_r, kill_0, kill_n, kill_l, kill_q, zzk_r, zzk_0, zzk_q, zcat_r, zcat_i, zcat_0, zcat_q, cats_0, cats_i, cats_r, cats_l, cats_d, cats_f, cats_q, cats_n, rv_s, rv_0, Nat.reduceAdd, Nat.reduceLeDiff, Nat.reduceEqDiff, Nat.add_zero, Nat.reduceMul, Nat.reduceSub, ne_eq, not_false_eq_true, not_true_eq_false, and_self, and_true, true_and, or_self, or_true, true_or, or_false, false_or, if_true, if_false, reduceIte, reduceCtorEq, implies_true, ite_self, ite_not, k73, k16, kr73_0, hT.2.1, hb.1, o_lt (a := (i : Int)) (b := 0) (by omega), o_lt (a := (i : Int)) (b := (n : Int)) (by omega), g0, g1, eq_false h, o_ixn (j := i) (n := 400) (by omega), o_tnn (j := i) (by omega), o_eq (a := f i) (b := 32) (by omega), eq_false h1, o_eq (a := f i) (b := 10) (by omega), eq_true h2]
        rfl
      · by_cases h3 : 97 ≤ f i ∧ f i ≤ 122
        · have g3 : ¬ (f i < 97) := by omega
          have g4 : ¬ (122 < f i) := by omega
          simp only [w65_0, w65_1, w65_4, w65_5, w65_6, w65_9, w65_12, w65_13, w65_14, w65_15, w65_18, w65_19, w65_20, w65_21, w65_22, w65_24, w65_27, w65_28, w65_30, w65_33, w65_34, w65_35, w65_36, w65_38, w65_41, w65_42, w65_44, w65_47, w65_48, w65_49, w65_50, w65_52, w65_55, w65_56, w65_58, w65_61, w65_62, w65_65, w65_66, kn_s, kn_n, zh_mk, zR_mk, zI_mk, zL_mk, zD_mk, wI_mk, wL_mk, wD_mk, zT_mk, zC_mk, kill_i, kill_r, kill_0, kill_n, kill_l, kill_q, zzk_r, zzk_0, zzk_q, zcat_r, zcat_i, zcat_0, zcat_q, cats_0, cats_i, cats_r, cats_l, cats_d, cats_f, cats_q, cats_n, rv_s, rv_0, Nat.reduceAdd, Nat.reduceLeDiff, Nat.reduceEqDiff, Nat.add_zero, Nat.reduceMul, Nat.reduceSub, ne_eq, not_false_eq_true, not_true_eq_false, and_self, and_true, true_and, or_self, or_true, true_or, or_false, false_or, if_true, if_false, reduceIte, reduceCtorEq, implies_true, ite_self, ite_not, k73, k16, kr73_0, hT.2.1, hb.1, o_lt (a := (i : Int)) (b := 0) (by omega), o_lt (a := (i : Int)) (b := (n : Int)) (by omega), g0, g1, eq_false h, o_ixn (j := i) (n := 400) (by omega), o_tnn (j := i) (by omega), o_eq (a := f i) (b := 32) (by omega), eq_false h1, o_eq (a := f i) (b := 10) (by omega), eq_false h2, o_lt (a := f i) (b := 97) (by omega), g3, o_lt (a := 122) (b := f i) (by omega), g4, eq_true h3.1, eq_true h3.2]
          rfl
        · by_cases h5 : 48 ≤ f i ∧ f i ≤ 57
          · have g3 : f i < 97 := by omega
            have g5 : ¬ (f i < 48) := by omega
            have g6 : ¬ (57 < f i) := by omega
            simp only [w65_0, w65_1, w65_4, w65_5, w65_6, w65_9, w65_12, w65_13, w65_14, w65_15, w65_18, w65_19, w65_20, w65_21, w65_22, w65_24, w65_27, w65_28, w65_30, w65_33, w65_34, w65_35, w65_36, w65_38, w65_41, w65_42, w65_44, w65_47, w65_48, w65_49, w65_50, w65_52, w65_55, w65_56, w65_58, w65_61, w65_62, w65_65, w65_66, kn_s, kn_n, zh_mk, zR_mk, zI_mk, zL_mk, zD_mk, wI_mk, wL_mk, wD_mk, zT_mk, zC_mk, kill_i, kill_r, kill_0, kill_n, kill_l, kill_q, zzk_r, zzk_0, zzk_q, zcat_r, zcat_i, zcat_0, zcat_q, cats_0, cats_i, cats_r, cats_l, cats_d, cats_f, cats_q, cats_n, rv_s, rv_0, Nat.reduceAdd, Nat.reduceLeDiff, Nat.reduceEqDiff, Nat.add_zero, Nat.reduceMul, Nat.reduceSub, ne_eq, not_false_eq_true, not_true_eq_false, and_self, and_true, true_and, or_self, or_true, true_or, or_false, false_or, if_true, if_false, reduceIte, reduceCtorEq, implies_true, ite_self, ite_not, k73, k16, kr73_0, hT.2.1, hb.1, o_lt (a := (i : Int)) (b := 0) (by omega), o_lt (a := (i : Int)) (b := (n : Int)) (by omega), g0, g1, eq_false h, o_ixn (j := i) (n := 400) (by omega), o_tnn (j := i) (by omega), o_eq (a := f i) (b := 32) (by omega), eq_false h1, o_eq (a := f i) (b := 10) (by omega), eq_false h2, o_lt (a := f i) (b := 97) (by omega), g3, o_lt (a := f i) (b := 48) (by omega), g5, o_lt (a := 57) (b := f i) (by omega), g6, eq_false h3, eq_true h5.1, eq_true h5.2]
            rfl
          · have e3 : ∀ (A B : Rs → St → Prop) (_ : Unit), True := fun _ _ _ => trivial
            by_cases g3 : f i < 97
            · by_cases g5 : f i < 48
              · simp only [w65_0, w65_1, w65_4, w65_5, w65_6, w65_9, w65_12, w65_13, w65_14, w65_15, w65_18, w65_19, w65_20, w65_21, w65_22, w65_24, w65_27, w65_28, w65_30, w65_33, w65_34, w65_35, w65_36, w65_38, w65_41, w65_42, w65_44, w65_47, w65_48, w65_49, w65_50, w65_52, w65_55, w65_56, w65_58, w65_61, w65_62, w65_65, w65_66, kn_s, kn_n, zh_mk, zR_mk, zI_mk, zL_mk, zD_mk, wI_mk, wL_mk, wD_mk, zT_mk, zC_mk, kill_i, kill_r, kill_0, kill_n, kill_l, kill_q, zzk_r, zzk_0, zzk_q, zcat_r, zcat_i, zcat_0, zcat_q, cats_0, cats_i, cats_r, cats_l, cats_d, cats_f, cats_q, cats_n, rv_s, rv_0, Nat.reduceAdd, Nat.reduceLeDiff, Nat.reduceEqDiff, Nat.add_zero, Nat.reduceMul, Nat.reduceSub, ne_eq, not_false_eq_true, not_true_eq_false, and_self, and_true, true_and, or_self, or_true, true_or, or_false, false_or, if_true, if_false, reduceIte, reduceCtorEq, implies_true, ite_self, ite_not, k73, k16, kr73_0, hT.2.1, hb.1, o_lt (a := (i : Int)) (b := 0) (by omega), o_lt (a := (i : Int)) (b := (n : Int)) (by omega), g0, g1, eq_false h, o_ixn (j := i) (n := 400) (by omega), o_tnn (j := i) (by omega), o_eq (a := f i) (b := 32) (by omega), eq_false h1, o_eq (a := f i) (b := 10) (by omega), eq_false h2, o_lt (a := f i) (b := 97) (by omega), g3, o_lt (a := f i) (b := 48) (by omega), g5, eq_false h3, eq_false h5]
                rfl
              · have g6 : 57 < f i := by omega
                simp only [w65_0, w65_1, w65_4, w65_5, w65_6, w65_9, w65_12, w65_13, w65_14, w65_15, w65_18, w65_19, w65_20, w65_21, w65_22, w65_24, w65_27, w65_28, w65_30, w65_33, w65_34, w65_35, w65_36, w65_38, w65_41, w65_42, w65_44, w65_47, w65_48, w65_49, w65_50, w65_52, w65_55, w65_56, w65_58, w65_61, w65_62, w65_65, w65_66, kn_s, kn_n, zh_mk, zR_mk, zI_mk, zL_mk, zD_mk, wI_mk, wL_mk, wD_mk, zT_mk, zC_mk, kill_i, kill_r, kill_0, kill_n, kill_l, kill_q, zzk_r, zzk_0, zzk_q, zcat_r, zcat_i, zcat_0, zcat_q, cats_0, cats_i, cats_r, cats_l, cats_d, cats_f, cats_q, cats_n, rv_s, rv_0, Nat.reduceAdd, Nat.reduceLeDiff, Nat.reduceEqDiff, Nat.add_zero, Nat.reduceMul, Nat.reduceSub, ne_eq, not_false_eq_true, not_true_eq_false, and_self, and_true, true_and, or_self, or_true, true_or, or_false, false_or, if_true, if_false, reduceIte, reduceCtorEq, implies_true, ite_self, ite_not, k73, k16, kr73_0, hT.2.1, hb.1, o_lt (a := (i : Int)) (b := 0) (by omega), o_lt (a := (i : Int)) (b := (n : Int)) (by omega), g0, g1, eq_false h, o_ixn (j := i) (n := 400) (by omega), o_tnn (j := i) (by omega), o_eq (a := f i) (b := 32) (by omega), eq_false h1, o_eq (a := f i) (b := 10) (by omega), eq_false h2, o_lt (a := f i) (b := 97) (by omega), g3, o_lt (a := f i) (b := 48) (by omega), g5, o_lt (a := 57) (b := f i) (by omega), g6, eq_false h3, eq_false h5]
                rfl
            · have g4 : 122 < f i := by omega
              have g5 : ¬ (f i < 48) := by omega
              have g6 : 57 < f i := by omega
              simp only [w65_0, w65_1, w65_4, w65_5, w65_6, w65_9, w65_12, w65_13, w65_14, w65_15, w65_18, w65_19, w65_20, w65_21, w65_22, w65_24, w65_27, w65_28, w65_30, w65_33, w65_34, w65_35, w65_36, w65_38, w65_41, w65_42, w65_44, w65_47, w65_48, w65_49, w65_50, w65_52, w65_55, w65_56, w65_58, w65_61, w65_62, w65_65, w65_66, kn_s, kn_n, zh_mk, zR_mk, zI_mk, zL_mk, zD_mk, wI_mk, wL_mk, wD_mk, zT_mk, zC_mk, kill_i, kill_r, kill_0, kill_n, kill_l, kill_q, zzk_r, zzk_0, zzk_q, zcat_r, zcat_i, zcat_0, zcat_q, cats_0, cats_i, cats_r, cats_l, cats_d, cats_f, cats_q, cats_n, rv_s, rv_0, Nat.reduceAdd, Nat.reduceLeDiff, Nat.reduceEqDiff, Nat.add_zero, Nat.reduceMul, Nat.reduceSub, ne_eq, not_false_eq_true, not_true_eq_false, and_self, and_true, true_and, or_self, or_true, true_or, or_false, false_or, if_true, if_false, reduceIte, reduceCtorEq, implies_true, ite_self, ite_not, k73, k16, kr73_0, hT.2.1, hb.1, o_lt (a := (i : Int)) (b := 0) (by omega), o_lt (a := (i : Int)) (b := (n : Int)) (by omega), g0, g1, eq_false h, o_ixn (j := i) (n := 400) (by omega), o_tnn (j := i) (by omega), o_eq (a := f i) (b := 32) (by omega), eq_false h1, o_eq (a := f i) (b := 10) (by omega), eq_false h2, o_lt (a := f i) (b := 97) (by omega), g3, o_lt (a := 122) (b := f i) (by omega), g4, o_lt (a := f i) (b := 48) (by omega), g5, o_lt (a := 57) (b := f i) (by omega), g6, eq_false h3, eq_false h5]
              rfl
theorem c64_16 (hT : TC f n J) {e k : Nat} {v : Int} : ∀ r i : Nat, i + r = n → Wp (d + 1) 64 16 [some (.ref 73)] [] (mk N t w (pC (i, e, k, 0, v) J) L D) Q = Wp (d + 1) 64 52 [some (.ref 73)] [] (mk N t w (pC (exL f n 4 r i, e, k, 0, v) J) L D) Q := by
  have h4 := hT.1
  have e2 := hT.2.1
  intro r
  induction r with
  | zero =>
    intro i hi
    have g : ¬ ((i : Int) < n) := by omega
    rw [w64_16 zzk_r]
    simp only [w64_17, w64_20, w64_21, w64_24, w64_27, w64_28, w64_29, w64_32, w64_35, w64_36, w64_39, w64_40, w64_41, w64_44, w64_45, w64_46, w64_49, kn_s, kn_n, zh_mk, zR_mk, zI_mk, zL_mk, zD_mk, wI_mk, wL_mk, wD_mk, zT_mk, zC_mk, kill_i, kill_r, kill_0, kill_n, kill_l, kill_q, zzk_r, zzk_0, zzk_q, zcat_r, zcat_i, zcat_0, zcat_q, cats_0, cats_i, cats_r, cats_l, cats_d, cats_f, cats_q, cats_n, rv_s, rv_0, Nat.reduceAdd, Nat.reduceLeDiff, Nat.reduceEqDiff, Nat.add_zero, Nat.reduceMul, Nat.reduceSub, ne_eq, not_false_eq_true, not_true_eq_false, and_self, and_true, true_and, or_self, or_true, true_or, or_false, false_or, if_true, if_false, reduceIte, reduceCtorEq, implies_true, ite_self, ite_not, k73, pC_2, pC_4, e2, o_lt (a := (i : Int)) (b := (n : Int)) (by omega), g]
    rfl
  | succ r ih =>
    intro i hi
    have g : (i : Int) < n := by omega
    have hk := kd_le (f := f) (n := n) (i := i)
    rw [w64_16 zzk_r, exL_s]
    by_cases h : kd0 f n i = 4
    · have h' : (kd0 f n i : Int) = 4 := by omega
      simp only [w64_17, w64_20, w64_21, w64_24, w64_27, w64_28, w64_29, w64_32, w64_35, w64_36, w64_39, w64_40, w64_41, w64_44, w64_45, w64_46, w64_49, kn_s, kn_n, zh_mk, zR_mk, zI_mk, zL_mk, zD_mk, wI_mk, wL_mk, wD_mk, zT_mk, zC_mk, kill_i, kill_r, kill_0, kill_n, kill_l, kill_q, zzk_r, zzk_0, zzk_q, zcat_r, zcat_i, zcat_0, zcat_q, cats_0, cats_i, cats_r, cats_l, cats_d, cats_f, cats_q, cats_n, rv_s, rv_0, Nat.reduceAdd, Nat.reduceLeDiff, Nat.reduceEqDiff, Nat.add_zero, Nat.reduceMul, Nat.reduceSub, ne_eq, not_false_eq_true, not_true_eq_false, and_self, and_true, true_and, or_self, or_true, true_or, or_false, false_or, if_true, if_false, reduceIte, reduceCtorEq, implies_true, ite_self, ite_not, o_add, cast_s, k73, pC_2, pC_4, pC_u4, e2, o_lt (a := (i : Int)) (b := (n : Int)) (by omega), g, c65 (TC_pC hT) (show i ≤ n by omega), o_eq (a := (kd0 f n i : Int)) (b := 4) (by omega), eq_true h', eq_true h, ih (i + 1) (by omega)]
    · have h' : ¬ ((kd0 f n i : Int) = 4) := by omega
      simp only [w64_17, w64_20, w64_21, w64_24, w64_27, w64_28, w64_29, w64_32, w64_35, w64_36, w64_39, w64_40, w64_41, w64_44, w64_45, w64_46, w64_49, kn_s, kn_n, zh_mk, zR_mk, zI_mk, zL_mk, zD_mk, wI_mk, wL_mk, wD_mk, zT_mk, zC_mk, kill_i, kill_r, kill_0, kill_n, kill_l, kill_q, zzk_r, zzk_0, zzk_q, zcat_r, zcat_i, zcat_0, zcat_q, cats_0, cats_i, cats_r, cats_l, cats_d, cats_f, cats_q, cats_n, rv_s, rv_0, Nat.reduceAdd, Nat.reduceLeDiff, Nat.reduceEqDiff, Nat.add_zero, Nat.reduceMul, Nat.reduceSub, ne_eq, not_false_eq_true, not_true_eq_false, and_self, and_true, true_and, or_self, or_true, true_or, or_false, false_or, if_true, if_false, reduceIte, reduceCtorEq, implies_true, ite_self, ite_not, k73, pC_2, pC_4, e2, o_lt (a := (i : Int)) (b := (n : Int)) (by omega), g, c65 (TC_pC hT) (show i ≤ n by omega), o_eq (a := (kd0 f n i : Int)) (b := 4) (by omega), eq_false h', eq_false h]
theorem c64_81 (hT : TC f n J) {s k : Nat} {v : Int} (hk3 : k ≠ 3) (hk4 : k ≤ 4) : ∀ r e : Nat, e + r = n → Wp (d + 1) 64 81 [some (.ref 73)] [] (mk N t w (pC (s, e, k, 0, v) J) L D) Q = Q (.inl none) (mk N t w (pC (s, exL f n k r e, k, 0, v) J) L D) := by
  have h4 := hT.1
  have e2 := hT.2.1
  have g3 : ¬ ((k : Int) = 3) := by omega
  intro r
  induction r with
  | zero =>
    intro e hi
    have g : ¬ ((e : Int) < n) := by omega
    rw [w64_81 zzk_r]
    simp only [w64_82, w64_85, w64_86, w64_89, w64_92, w64_93, w64_96, w64_97, w64_100, w64_101, w64_102, w64_105, w64_108, w64_109, w64_112, w64_115, w64_116, w64_117, w64_120, w64_121, w64_122, w64_125, w64_128, kn_s, kn_n, zh_mk, zR_mk, zI_mk, zL_mk, zD_mk, wI_mk, wL_mk, wD_mk, zT_mk, zC_mk, kill_i, kill_r, kill_0, kill_n, kill_l, kill_q, zzk_r, zzk_0, zzk_q, zcat_r, zcat_i, zcat_0, zcat_q, cats_0, cats_i, cats_r, cats_l, cats_d, cats_f, cats_q, cats_n, rv_s, rv_0, Nat.reduceAdd, Nat.reduceLeDiff, Nat.reduceEqDiff, Nat.add_zero, Nat.reduceMul, Nat.reduceSub, ne_eq, not_false_eq_true, not_true_eq_false, and_self, and_true, true_and, or_self, or_true, true_or, or_false, false_or, if_true, if_false, reduceIte, reduceCtorEq, implies_true, ite_self, ite_not, k73, pC_2, pC_5, e2, o_lt (a := (e : Int)) (b := (n : Int)) (by omega), g]
    rfl
  | succ r ih =>
    intro e hi
    have g : (e : Int) < n := by omega
    have hk := kd_le (f := f) (n := n) (i := e)
    rw [w64_81 zzk_r, exL_s]
    by_cases h : kd0 f n e = k
    · have h' : (kd0 f n e : Int) = (k : Int) := by omega
      simp only [w64_82, w64_85, w64_86, w64_89, w64_92, w64_93, w64_96, w64_97, w64_100, w64_101, w64_102, w64_105, w64_108, w64_109, w64_112, w64_115, w64_116, w64_117, w64_120, w64_121, w64_122, w64_125, w64_128, kn_s, kn_n, zh_mk, zR_mk, zI_mk, zL_mk, zD_mk, wI_mk, wL_mk, wD_mk, zT_mk, zC_mk, kill_i, kill_r, kill_0, kill_n, kill_l, kill_q, zzk_r, zzk_0, zzk_q, zcat_r, zcat_i, zcat_0, zcat_q, cats_0, cats_i, cats_r, cats_l, cats_d, cats_f, cats_q, cats_n, rv_s, rv_0, Nat.reduceAdd, Nat.reduceLeDiff, Nat.reduceEqDiff, Nat.add_zero, Nat.reduceMul, Nat.reduceSub, ne_eq, not_false_eq_true, not_true_eq_false, and_self, and_true, true_and, or_self, or_true, true_or, or_false, false_or, if_true, if_false, reduceIte, reduceCtorEq, implies_true, ite_self, ite_not, o_add, cast_s, k73, pC_2, pC_3, pC_5, pC_u5, e2, o_lt (a := (e : Int)) (b := (n : Int)) (by omega), g, o_eq (a := (k : Int)) (b := 3) (by omega), g3, c65 (TC_pC hT) (show e ≤ n by omega), o_eq (a := (kd0 f n e : Int)) (b := (k : Int)) (by omega), eq_true h', eq_true h, ih (e + 1) (by omega)]
    · have h' : ¬ ((kd0 f n e : Int) = (k : Int)) := by omega
      simp only [w64_82, w64_85, w64_86, w64_89, w64_92, w64_93, w64_96, w64_97, w64_100, w64_101, w64_102, w64_105, w64_108, w64_109, w64_112, w64_115, w64_116, w64_117, w64_120, w64_121, w64_122, w64_125, w64_128, kn_s, kn_n, zh_mk, zR_mk, zI_mk, zL_mk, zD_mk, wI_mk, wL_mk, wD_mk, zT_mk, zC_mk, kill_i, kill_r, kill_0, kill_n, kill_l, kill_q, zzk_r, zzk_0, zzk_q, zcat_r, zcat_i, zcat_0, zcat_q, cats_0, cats_i, cats_r, cats_l, cats_d, cats_f, cats_q, cats_n, rv_s, rv_0, Nat.reduceAdd, Nat.reduceLeDiff, Nat.reduceEqDiff, Nat.add_zero, Nat.reduceMul, Nat.reduceSub, ne_eq, not_false_eq_true, not_true_eq_false, and_self, and_true, true_and, or_self, or_true, true_or, or_false, false_or, if_true, if_false, reduceIte, reduceCtorEq, implies_true, ite_self, ite_not, k73, pC_2, pC_3, pC_5, e2, o_lt (a := (e : Int)) (b := (n : Int)) (by omega), g, o_eq (a := (k : Int)) (b := 3) (by omega), g3, c65 (TC_pC hT) (show e ≤ n by omega), o_eq (a := (kd0 f n e : Int)) (b := (k : Int)) (by omega), eq_false h', eq_false h]
theorem c64 (hT : TC f n J) (he : P.2.1 ≤ n) (hr : P.2.2.2.1 ≤ 5) : Wp (d + 1) 64 0 [some (.ref 73)] [] (mk N t w (pC P J) L D) Q = Q (.inl none) (mk N t w (pC (nxT f n P) J) L D) := by
  obtain ⟨s, e, k, r, v⟩ := P
  have he : e ≤ n := he
  have hr : r ≤ 5 := hr
  have h4 := hT.1
  have e2 := hT.2.1
  unfold nxT
  by_cases h : r = 0
  · subst h
    have hs := tkS_b (f := f) (i := e) he
    have l1 := c64_16 (d := d) (N := N) (t := t) (w := w) (L := L) (D := D) (Q := Q) (e := e) (k := k) (v := v) hT (n - e) e (by omega)
    have hk := kd_le (f := f) (n := n) (i := tkS f n e)
    simp only [if_true]
    simp only [w64_0, w64_1, w64_4, w64_7, w64_8, w64_9, w64_10, w64_13, kn_s, kn_n, zh_mk, zR_mk, zI_mk, zL_mk, zD_mk, wI_mk, wL_mk, wD_mk, zT_mk, zC_mk, kill_i, kill_r, kill_0, kill_n, kill_l, kill_q, zzk_r, zzk_0, zzk_q, zcat_r, zcat_i, zcat_0, zcat_q, cats_0, cats_i, cats_r, cats_l, cats_d, cats_f, cats_q, cats_n, rv_s, rv_0, Nat.reduceAdd, Nat.reduceLeDiff, Nat.reduceEqDiff, Nat.add_zero, Nat.reduceMul, Nat.reduceSub, ne_eq, not_false_eq_true, not_true_eq_false, and_self, and_true, true_and, or_self, or_true, true_or, or_false, false_or, if_true, if_false, reduceIte, reduceCtorEq, implies_true, ite_self, ite_not, k73, pC_6, pC_5, pC_u4, show Int32.ofInt ((0 : Nat) : Int) = Int32.ofInt 0 from rfl]
    rw [l1]
    show Wp (d + 1) 64 52 _ _ (mk N t w (pC (tkS f n e, e, k, 0, v) J) L D) Q = Q (.inl none) (mk N t w (pC (tkS f n e, tkE f n (tkS f n e), kd0 f n (tkS f n e), 0, tkV f n (tkS f n e) v) J) L D)
    have fin : ∀ e' v', pC (tkS f n e, e', kd0 f n (tkS f n e), 0, v) J = pC (tkS f n e, e', kd0 f n (tkS f n e), 0, v') J := fun _ _ => rfl
    unfold tkE
    by_cases h0 : kd0 f n (tkS f n e) = 0
    · have hn : tkS f n e = n := by
        have := kd_0.1 h0
        omega
      have g1 : (n : Int) < (n : Int) + 1 := by omega
      have l2 := c64_81 (d := d) (N := N) (t := t) (w := w) (L := L) (D := D) (Q := Q) (s := tkS f n e) (k := 0) (v := v) hT (by omega) (by omega) 0 n (by omega)
      rw [hn] at h0 hs l2 ⊢
      simp only [h0, if_true]
      simp only [w64_52, w64_53, w64_54, w64_55, w64_58, w64_61, w64_64, w64_65, w64_66, w64_69, w64_70, w64_71, w64_72, w64_75, w64_78, kn_s, kn_n, zh_mk, zR_mk, zI_mk, zL_mk, zD_mk, wI_mk, wL_mk, wD_mk, zT_mk, zC_mk, kill_i, kill_r, kill_0, kill_n, kill_l, kill_q, zzk_r, zzk_0, zzk_q, zcat_r, zcat_i, zcat_0, zcat_q, cats_0, cats_i, cats_r, cats_l, cats_d, cats_f, cats_q, cats_n, rv_s, rv_0, Nat.reduceAdd, Nat.reduceLeDiff, Nat.reduceEqDiff, Nat.add_zero, Nat.reduceMul, Nat.reduceSub, ne_eq, not_false_eq_true, not_true_eq_false, and_self, and_true, true_and, or_self, or_true, true_or, or_false, false_or, if_true, if_false, reduceIte, reduceCtorEq, implies_true, ite_self, ite_not, o_add, k73, pC_2, pC_4, pC_u3, pC_u5, e2, c65 (TC_pC hT) (show n ≤ n by omega), h0, o_lt (a := (n : Int)) (b := (n : Int) + 1) (by omega), g1]
      rw [l2]
      rfl
    · have hn : tkS f n e < n := by
        have : ¬ (n ≤ tkS f n e) := fun q => h0 (kd_0.2 q)
        omega
      have g1 : ¬ ((n : Int) < (tkS f n e : Int) + 1) := by omega
      rw [if_neg h0]
      by_cases h3 : kd0 f n (tkS f n e) = 3
      · have h3' : (kd0 f n (tkS f n e) : Int) = 3 := by omega
        rw [if_pos h3]
        by_cases g5 : ((tkS f n e + 1 : Nat) : Int) < (n : Int)
        · simp only [w64_52, w64_53, w64_54, w64_55, w64_58, w64_61, w64_64, w64_65, w64_66, w64_69, w64_70, w64_71, w64_72, w64_75, w64_78, w64_81, w64_82, w64_85, w64_86, w64_89, w64_92, w64_93, w64_96, w64_97, w64_100, w64_101, w64_102, w64_105, w64_108, w64_109, w64_112, w64_115, w64_116, w64_117, w64_120, w64_121, w64_122, w64_125, w64_128, kn_s, kn_n, zh_mk, zR_mk, zI_mk, zL_mk, zD_mk, wI_mk, wL_mk, wD_mk, zT_mk, zC_mk, kill_i, kill_r, kill_0, kill_n, kill_l, kill_q, zzk_r, zzk_0, zzk_q, zcat_r, zcat_i, zcat_0, zcat_q, cats_0, cats_i, cats_r, cats_l, cats_d, cats_f, cats_q, cats_n, rv_s, rv_0, Nat.reduceAdd, Nat.reduceLeDiff, Nat.reduceEqDiff, Nat.add_zero, Nat.reduceMul, Nat.reduceSub, ne_eq, not_false_eq_true, not_true_eq_false, and_self, and_true, true_and, or_self, or_true, true_or, or_false, false_or, if_true, if_false, reduceIte, reduceCtorEq, implies_true, ite_self, ite_not, o_add, cast_s, k73, pC_2, pC_3, pC_4, pC_5, pC_u3, pC_u5, e2, c65 (TC_pC hT) (show tkS f n e ≤ n by omega), o_lt (a := (n : Int)) (b := ((tkS f n e + 1 : Nat) : Int)) (by omega), show ¬ ((n : Int) < ((tkS f n e + 1 : Nat) : Int)) by omega, o_lt (a := ((tkS f n e + 1 : Nat) : Int)) (b := (n : Int)) (by omega), eq_true g5, o_eq (a := (kd0 f n (tkS f n e) : Int)) (b := 3) (by omega), eq_true h3']
          rfl
        · simp only [w64_52, w64_53, w64_54, w64_55, w64_58, w64_61, w64_64, w64_65, w64_66, w64_69, w64_70, w64_71, w64_72, w64_75, w64_78, w64_81, w64_82, w64_85, w64_86, w64_89, w64_92, w64_93, w64_96, w64_97, w64_100, w64_101, w64_102, w64_105, w64_108, w64_109, w64_112, w64_115, w64_116, w64_117, w64_120, w64_121, w64_122, w64_125, w64_128, kn_s, kn_n, zh_mk, zR_mk, zI_mk, zL_mk, zD_mk, wI_mk, wL_mk, wD_mk, zT_mk, zC_mk, kill_i, kill_r, kill_0, kill_n, kill_l, kill_q, zzk_r, zzk_0, zzk_q, zcat_r, zcat_i, zcat_0, zcat_q, cats_0, cats_i, cats_r, cats_l, cats_d, cats_f, cats_q, cats_n, rv_s, rv_0, Nat.reduceAdd, Nat.reduceLeDiff, Nat.reduceEqDiff, Nat.add_zero, Nat.reduceMul, Nat.reduceSub, ne_eq, not_false_eq_true, not_true_eq_false, and_self, and_true, true_and, or_self, or_true, true_or, or_false, false_or, if_true, if_false, reduceIte, reduceCtorEq, implies_true, ite_self, ite_not, o_add, cast_s, k73, pC_2, pC_3, pC_4, pC_5, pC_u3, pC_u5, e2, c65 (TC_pC hT) (show tkS f n e ≤ n by omega), o_lt (a := (n : Int)) (b := ((tkS f n e + 1 : Nat) : Int)) (by omega), show ¬ ((n : Int) < ((tkS f n e + 1 : Nat) : Int)) by omega, o_lt (a := ((tkS f n e + 1 : Nat) : Int)) (b := (n : Int)) (by omega), eq_false g5]
          rfl
      · rw [if_neg h3]
        have l2 := c64_81 (d := d) (N := N) (t := t) (w := w) (L := L) (D := D) (Q := Q) (s := tkS f n e) (k := kd0 f n (tkS f n e)) (v := v) hT h3 hk (n - (tkS f n e + 1)) (tkS f n e + 1) (by omega)
        simp only [w64_52, w64_53, w64_54, w64_55, w64_58, w64_61, w64_64, w64_65, w64_66, w64_69, w64_70, w64_71, w64_72, w64_75, w64_78, kn_s, kn_n, zh_mk, zR_mk, zI_mk, zL_mk, zD_mk, wI_mk, wL_mk, wD_mk, zT_mk, zC_mk, kill_i, kill_r, kill_0, kill_n, kill_l, kill_q, zzk_r, zzk_0, zzk_q, zcat_r, zcat_i, zcat_0, zcat_q, cats_0, cats_i, cats_r, cats_l, cats_d, cats_f, cats_q, cats_n, rv_s, rv_0, Nat.reduceAdd, Nat.reduceLeDiff, Nat.reduceEqDiff, Nat.add_zero, Nat.reduceMul, Nat.reduceSub, ne_eq, not_false_eq_true, not_true_eq_false, and_self, and_true, true_and, or_self, or_true, true_or, or_false, false_or, if_true, if_false, reduceIte, reduceCtorEq, implies_true, ite_self, ite_not, o_add, cast_s, k73, pC_2, pC_4, pC_u3, pC_u5, e2, c65 (TC_pC hT) (show tkS f n e ≤ n by omega), o_lt (a := (n : Int)) (b := ((tkS f n e + 1 : Nat) : Int)) (by omega), show ¬ ((n : Int) < ((tkS f n e + 1 : Nat) : Int)) by omega]
        rw [l2]
        rfl
  · have h' : ¬ ((r : Int) = 0) := by omega
    rw [if_neg h]
    simp only [w64_0, w64_1, w64_4, w64_7, w64_8, w64_9, w64_10, w64_13, kn_s, kn_n, zh_mk, zR_mk, zI_mk, zL_mk, zD_mk, wI_mk, wL_mk, wD_mk, zT_mk, zC_mk, kill_i, kill_r, kill_0, kill_n, kill_l, kill_q, zzk_r, zzk_0, zzk_q, zcat_r, zcat_i, zcat_0, zcat_q, cats_0, cats_i, cats_r, cats_l, cats_d, cats_f, cats_q, cats_n, rv_s, rv_0, Nat.reduceAdd, Nat.reduceLeDiff, Nat.reduceEqDiff, Nat.add_zero, Nat.reduceMul, Nat.reduceSub, ne_eq, not_false_eq_true, not_true_eq_false, and_self, and_true, true_and, or_self, or_true, true_or, or_false, false_or, if_true, if_false, reduceIte, reduceCtorEq, implies_true, ite_self, ite_not, k73, pC_6, o_eq (a := (r : Int)) (b := 0) (by omega), eq_false h']
end S78
