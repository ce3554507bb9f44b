/-! THE TEXT, 6: toString -/
/-- a String that the law made -/
def STR (N : NX) (w : WX) (I : Nat → Nat → Int32) (S v : Nat) (T : List Int) : Prop :=
  KH N S = (22, 0) ∧ KH N v = (13, T.length) ∧ (294 ≤ S ∧ S < N.2.1) ∧ (294 ≤ v ∧ v < N.2.1) ∧ w S 0 = v + 1 ∧ I S 1 = Int32.ofInt 0 ∧ I v = tx T ∧ asc T ∧ T.length ≤ 300
section S9A
variable {N : NX} {w : WX} {d t B v cap p : Nat} {T : List Int} {I : Nat → Nat → Int32} {L : Nat → Nat → Int64} {D : Nat → Nat → UInt64} {Q : Rs → St → Prop}
theorem c186 {a b : Int} {σ : St} (h : 0 ≤ a ∧ a ≤ b ∧ b ≤ 1000) : Wp d 186 0 [some (.int (Int32.ofInt a)), some (.int (Int32.ofInt b))] [] σ Q = Q (.inl none) σ := by
  have g : ¬ (b < a) := by omega
  simp only [w186_0, w186_1, w186_2, w186_8, w186_12, w186_16, w186_26, w186_37, kn_s, kn_n, zh_mk, zR_mk, zI_mk, zL_mk, zD_mk, wI_mk, wL_mk, wD_mk, zT_mk, zC_mk, kill_i, kill_r, kill_0, kill_n, kill_l, kill_q, zzk_r, zzk_0, zzk_q, zcat_r, zcat_i, zcat_0, zcat_q, cats_0, cats_i, cats_r, cats_l, cats_d, cats_f, cats_q, cats_n, rv_s, rv_0, Nat.reduceAdd, Nat.reduceLeDiff, Nat.reduceEqDiff, Nat.add_zero, Nat.reduceMul, Nat.reduceSub, ne_eq, not_false_eq_true, not_true_eq_false, and_self, and_true, true_and, or_self, or_true, true_or, or_false, false_or, if_true, if_false, reduceIte, reduceCtorEq, implies_true, ite_self, ite_not, o_lt (a := b) (b := a) (by omega), g]
theorem c184 (hk : KH N v = (13, cap)) (hv : 294 ≤ v ∧ v < N.2.1) (ht : I v = tx T) (ha : asc T) (hl : T.length ≤ cap ∧ cap ≤ 700) (hZ : ZA N w I) (hN : N.2.1 < 90000)
    (K : ∀ I', I' N.2.1 = tx T → (∀ a, a ≠ N.2.1 → I' a = I a) → Q (.inl (some (.ref N.2.1))) (mk (nwN N (13, T.length) T.length) t w I' L D)) :
    Wp (d + 2) 184 0 [some (.ref v), some (.int (Int32.ofInt 0)), some (.int (Int32.ofInt (T.length : Int)))] [] (mk N t w I L D) Q := by
  have hN0 : 294 ≤ N.2.1 := by omega
  have hKB : N.2.1 < KB := by show N.2.1 < 100000; omega
  have hb : bts (I v) 0 cap = true := by rw [ht]; exact bts_tx ha 0 cap
  by_cases hc : T.length = cap
  · subst hc
    have g : (T.length : Int) = (T.length : Int) := rfl
    have k2 : KH (nwN N (13, T.length) T.length) N.2.1 = (13, T.length) := KH_new hN0
    simp only [w184_0, w184_1, w184_4, w184_5, w184_6, w184_6q, w184_7, w184_10, w184_11, w184_12, w184_13, w184_16, w184_17, w184_18, w184_21, w184_24, kn_s, kn_n, zh_mk, zR_mk, zI_mk, zL_mk, zD_mk, wI_mk, wL_mk, wD_mk, zT_mk, zC_mk, kill_i, kill_r, kill_0, kill_n, kill_l, kill_q, zzk_r, zzk_0, zzk_q, zcat_r, zcat_i, zcat_0, zcat_q, cats_0, cats_i, cats_r, cats_l, cats_d, cats_f, cats_q, cats_n, rv_s, rv_0, Nat.reduceAdd, Nat.reduceLeDiff, Nat.reduceEqDiff, Nat.add_zero, Nat.reduceMul, Nat.reduceSub, ne_eq, not_false_eq_true, not_true_eq_false, and_self, and_true, true_and, or_self, or_true, true_or, or_false, false_or, if_true, if_false, reduceIte, reduceCtorEq, implies_true, ite_self, ite_not, o_add, o_sub, o_mul, o_neg, q_add, q_sub, q_mul, q_neg, o_32, cast_s, i00, hk, o_ofN, zI_m1, hb, zn_mk, hKB, zCln_mk hN0, k2]
    refine K _ ?_ fun a h => ?_
    · funext j
      show (if N.2.1 = N.2.1 then I v j else _) = _
      rw [if_pos rfl, ht]
    · funext j
      exact if_neg h
  · have g : ¬ ((T.length : Int) = (cap : Int)) := by omega
    have k1 : KH (nwN N (13, T.length) T.length) v = (13, cap) := (KH_old (by omega)).trans hk
    have k2 : KH (nwN N (13, T.length) T.length) N.2.1 = (13, T.length) := KH_new hN0
    have z0 : (Int32.ofInt 0 ≤ Int32.ofInt (T.length : Int)) = True := eq_true ((o_le (by omega)).mpr (by omega))
    have hne : v ≠ N.2.1 := by omega
    have hbn : bts (I v) 0 T.length = true := by rw [ht]; exact bts_tx ha 0 _
    have g5 : (T.length : Int) < (cap : Int) := by omega
    have e0 : (T.length : Int) - 0 = (T.length : Int) := by omega
    have e1 : (cap : Int) - 0 = (cap : Int) := by omega
    simp only [w184_0, w184_1, w184_4, w184_5, w184_6, w184_6q, w184_7, w184_10, w184_11, w184_12, w184_13, w184_16, w184_17, w184_18, w184_21, w184_24, w185_0, w185_1, w185_2, w185_5, w185_6, w185_7, w185_8, w185_9, w185_10, w185_12, w185_14, w185_15, w185_16, w185_18, w185_19, w185_20, w185_20q, w185_21, w185_22, w185_23, w185_24, w185_27, w185_27q, w185_30, w185_32, kn_s, kn_n, zh_mk, zR_mk, zI_mk, zL_mk, zD_mk, wI_mk, wL_mk, wD_mk, zT_mk, zC_mk, kill_i, kill_r, kill_0, kill_n, kill_l, kill_q, zzk_r, zzk_0, zzk_q, zcat_r, zcat_i, zcat_0, zcat_q, cats_0, cats_i, cats_r, cats_l, cats_d, cats_f, cats_q, cats_n, rv_s, rv_0, Nat.reduceAdd, Nat.reduceLeDiff, Nat.reduceEqDiff, Nat.add_zero, Nat.reduceMul, Nat.reduceSub, ne_eq, not_false_eq_true, not_true_eq_false, and_self, and_true, true_and, or_self, or_true, true_or, or_false, false_or, if_true, if_false, reduceIte, reduceCtorEq, implies_true, ite_self, ite_not, o_add, o_sub, o_mul, o_neg, q_add, q_sub, q_mul, q_neg, o_32, cast_s, i00, hk, o_ofN, zI_m1, hbn, zn_mk, hKB, zNew_mk hN0, k1, k2, o_eq (a := (cap : Int)) (b := (T.length : Int)) (by omega), o_eq (a := (T.length : Int)) (b := (cap : Int)) (by omega), g, c186 (a := 0) (b := (T.length : Int)) (by omega), e0, e1, z0, z00, t00, o_tnn (j := T.length) (by omega), show T.length ≤ 4000 by omega, o_lt (a := (T.length : Int)) (b := (cap : Int)) (by omega), g5, Nat.zero_add, Nat.le_refl, hl.1, hne]
    refine K _ ?_ fun a h => ?_
    · funext j
      show (if N.2.1 = N.2.1 then va_cpy (I v) (I N.2.1) 0 0 T.length j else I N.2.1 j) = _
      rw [if_pos rfl]
      unfold va_cpy
      by_cases hj : 0 ≤ j ∧ j < 0 + T.length
      · rw [if_pos hj, ht, show 0 + (j - 0) = j by omega]
      · rw [if_neg hj, tx_big (by omega)]
        exact (hZ _ (Nat.le_refl _) j).1
    · funext j
      exact if_neg h
/-- k objects of s slots at most are made, nothing old is touched -/
def GN (k s : Nat) (N : NX) (w : WX) (I : Nat → Nat → Int32) (N' : NX) (w' : WX) (I' : Nat → Nat → Int32) : Prop :=
  N'.1 = N.1 ∧ N.2.1 ≤ N'.2.1 ∧ N'.2.1 ≤ N.2.1 + k ∧ N'.2.2.1 ≤ N.2.2.1 + s ∧ (∀ a, a < N.2.1 → KH N' a = KH N a) ∧ (∀ a, a < N.2.1 → I' a = I a ∧ w' a = w a) ∧ ZA N' w' I'
theorem c176 {σ : St} (h : zh σ B = (10, 0)) (h3 : zI σ B 3 = Int32.ofInt (p : Int)) : Wp d 176 0 [some (.ref B)] [] σ Q = Q (.inl (some (.int (Int32.ofInt (p : Int))))) σ := by
  simp only [w176_0, w176_1, w176_4, kn_s, kn_n, zh_mk, zR_mk, zI_mk, zL_mk, zD_mk, wI_mk, wL_mk, wD_mk, zT_mk, zC_mk, kill_i, kill_r, kill_0, kill_n, kill_l, kill_q, zzk_r, zzk_0, zzk_q, zcat_r, zcat_i, zcat_0, zcat_q, cats_0, cats_i, cats_r, cats_l, cats_d, cats_f, cats_q, cats_n, rv_s, rv_0, Nat.reduceAdd, Nat.reduceLeDiff, Nat.reduceEqDiff, Nat.add_zero, Nat.reduceMul, Nat.reduceSub, ne_eq, not_false_eq_true, not_true_eq_false, and_self, and_true, true_and, or_self, or_true, true_or, or_false, false_or, if_true, if_false, reduceIte, reduceCtorEq, implies_true, ite_self, ite_not, h, h3]
theorem c165 {σ : St} (h : zh σ B = (10, 0)) (h3 : zI σ B 3 = Int32.ofInt (p : Int)) : Wp (d + 1) 165 0 [some (.ref B)] [] σ Q = Q (.inl (some (.int (Int32.ofInt (p : Int))))) σ := by
  simp only [w165_0, w165_1, w165_4, kn_s, kn_n, zh_mk, zR_mk, zI_mk, zL_mk, zD_mk, wI_mk, wL_mk, wD_mk, zT_mk, zC_mk, kill_i, kill_r, kill_0, kill_n, kill_l, kill_q, zzk_r, zzk_0, zzk_q, zcat_r, zcat_i, zcat_0, zcat_q, cats_0, cats_i, cats_r, cats_l, cats_d, cats_f, cats_q, cats_n, rv_s, rv_0, Nat.reduceAdd, Nat.reduceLeDiff, Nat.reduceEqDiff, Nat.add_zero, Nat.reduceMul, Nat.reduceSub, ne_eq, not_false_eq_true, not_true_eq_false, and_self, and_true, true_and, or_self, or_true, true_or, or_false, false_or, if_true, if_false, reduceIte, reduceCtorEq, implies_true, ite_self, ite_not, h, c176 h h3]
theorem c175 (h : KH N B = (10, 0)) (hB : 294 ≤ B) (h0 : w B 0 = v + 1) : Wp d 175 0 [some (.ref B)] [] (mk N t w I L D) Q = Q (.inl (some (.ref v))) (mk N t w I L D) := by
  simp only [w175_0, w175_1, w175_4, kn_s, kn_n, zh_mk, zR_mk, zI_mk, zL_mk, zD_mk, wI_mk, wL_mk, wD_mk, zT_mk, zC_mk, kill_i, kill_r, kill_0, kill_n, kill_l, kill_q, zzk_r, zzk_0, zzk_q, zcat_r, zcat_i, zcat_0, zcat_q, cats_0, cats_i, cats_r, cats_l, cats_d, cats_f, cats_q, cats_n, rv_s, rv_0, Nat.reduceAdd, Nat.reduceLeDiff, Nat.reduceEqDiff, Nat.add_zero, Nat.reduceMul, Nat.reduceSub, ne_eq, not_false_eq_true, not_true_eq_false, and_self, and_true, true_and, or_self, or_true, true_or, or_false, false_or, if_true, if_false, reduceIte, reduceCtorEq, implies_true, ite_self, ite_not, h, kR hB, h0]
theorem c164 (hS : SB N w I B v cap T) (hZ : ZA N w I) (hN : N.2.1 < 80000)
    (K : ∀ N' w' I', STR N' w' I' N.2.1 (N.2.1 + 1) T → GN 2 1000 N w I N' w' I' → Q (.inl (some (.ref N.2.1))) (mk N' t w' I' L D)) : Wp (d + 5) 164 0 [some (.ref B)] [] (mk N t w I L D) Q := by
  obtain ⟨s1, s2, s3, s4, s5, s6, s7, s8, s9, s10, s11, s12, s13⟩ := hS
  have hN0 : 294 ≤ N.2.1 := by omega
  have hN1 : 294 ≤ (nwN N (22, 0) 4).2.1 := Nat.le_succ_of_le hN0
  have hKB : N.2.1 < KB := by show N.2.1 < 100000; omega
  have kS : KH (nwN N (22, 0) 4) N.2.1 = (22, 0) := KH_new hN0
  have kB : KH (nwN N (22, 0) 4) B = (10, 0) := (KH_old (by omega)).trans s1
  have kv : KH (nwN N (22, 0) 4) v = (13, cap) := (KH_old (by omega)).trans s2
  have g22 : (22 : Nat) ≠ 0 := by decide
  have ov : okv .byte (.int (Int32.ofInt 0)) = true := by decide
  have c75 := fun (d : Nat) (Q : Rs → St → Prop) => c175 (d := d) (Q := Q) (N := nwN N (22, 0) 4) (t := t) (I := I) (L := L) (D := D) kB s3.1 s6
  have c65 := fun (d : Nat) (Q : Rs → St → Prop) => c165 (d := d) (Q := Q) (σ := mk (nwN N (22, 0) 4) t w I L D) (p := T.length) kB s8
  have c74 := fun (d : Nat) (Q : Rs → St → Prop) => c174 (d := d) (Q := Q) (σ := mk (nwN N (22, 0) 4) t w I L D) kB s7
  simp only [w164_0, w164_3, w164_4, w164_5, w164_8, w164_8n, w178_0, w178_1, w178_2, w178_3, w178_6, w177_0, w177_1, w177_4, w177_5, w177_8, w177_9, w177_10, w177_13, w177_15, w177_16, w177_19, w177_22, w177_23, w177_24, w177_27, w177_28, w177_29, w177_30, w177_32, w177_35, w177_38, w177_41, w177_44, w177_47, w177_48, w177_51, w177_54, w177_55, w177_56, w177_57, w177_62, w177_65, w177_66, w177_67, w177_67k, w177_67q, w177_70, w177_75, w177_78, w177_79, w177_80, w177_81, w177_84, w177_85, w177_86, w177_87, w177_89, w177_90, w177_91, w177_94, w177_97, kn_s, kn_n, zh_mk, zR_mk, zI_mk, zL_mk, zD_mk, wI_mk, wL_mk, wD_mk, zT_mk, zC_mk, kill_i, kill_r, kill_0, kill_n, kill_l, kill_q, zzk_r, zzk_0, zzk_q, zcat_r, zcat_i, zcat_0, zcat_q, cats_0, cats_i, cats_r, cats_l, cats_d, cats_f, cats_q, cats_n, rv_s, rv_0, Nat.reduceAdd, Nat.reduceLeDiff, Nat.reduceEqDiff, Nat.add_zero, Nat.reduceMul, Nat.reduceSub, ne_eq, not_false_eq_true, not_true_eq_false, and_self, and_true, true_and, or_self, or_true, true_or, or_false, false_or, if_true, if_false, reduceIte, reduceCtorEq, implies_true, ite_self, ite_not, zn_mk, hKB, zNew_mk hN0, kS, kB, c75, c65, c74, i10, ov]
  have ev : (up2 I N.2.1 1 (Int32.ofInt 0)) v = tx T := by
    rw [← s9]
    funext j
    rw [u2_ne (by omega)]
  have hZ1 : ZA (nwN N (22, 0) 4) w (up2 I N.2.1 1 (Int32.ofInt 0)) := fun a h j => by
    have h' : N.2.1 + 1 ≤ a := h
    refine ⟨?_, (hZ a (by omega) j).2⟩
    rw [u2_ne (by omega)]
    exact (hZ a (by omega) j).1
  refine c184 kv ⟨s4.1, Nat.lt_succ_of_lt s4.2⟩ ev s12 ⟨s10, s11⟩ hZ1 (by show N.2.1 + 1 < 90000; omega) fun I' hI hI2 => ?_
  have hI : I' (N.2.1 + 1) = tx T := hI
  have hI2 : ∀ a, a ≠ N.2.1 + 1 → I' a = (up2 I N.2.1 1 (Int32.ofInt 0)) a := hI2
  have kS2 : KH (nwN (nwN N (22, 0) 4) (13, T.length) T.length) N.2.1 = (22, 0) := (KH_old (show N.2.1 ≠ N.2.1 + 1 by omega)).trans kS
  simp only [w164_0, w164_3, w164_4, w164_5, w164_8, w164_8n, w178_0, w178_1, w178_2, w178_3, w178_6, w177_0, w177_1, w177_4, w177_5, w177_8, w177_9, w177_10, w177_13, w177_15, w177_16, w177_19, w177_22, w177_23, w177_24, w177_27, w177_28, w177_29, w177_30, w177_32, w177_35, w177_38, w177_41, w177_44, w177_47, w177_48, w177_51, w177_54, w177_55, w177_56, w177_57, w177_62, w177_65, w177_66, w177_67, w177_67k, w177_67q, w177_70, w177_75, w177_78, w177_79, w177_80, w177_81, w177_84, w177_85, w177_86, w177_87, w177_89, w177_90, w177_91, w177_94, w177_97, kn_s, kn_n, zh_mk, zR_mk, zI_mk, zL_mk, zD_mk, wI_mk, wL_mk, wD_mk, zT_mk, zC_mk, kill_i, kill_r, kill_0, kill_n, kill_l, kill_q, zzk_r, zzk_0, zzk_q, zcat_r, zcat_i, zcat_0, zcat_q, cats_0, cats_i, cats_r, cats_l, cats_d, cats_f, cats_q, cats_n, rv_s, rv_0, Nat.reduceAdd, Nat.reduceLeDiff, Nat.reduceEqDiff, Nat.add_zero, Nat.reduceMul, Nat.reduceSub, ne_eq, not_false_eq_true, not_true_eq_false, and_self, and_true, true_and, or_self, or_true, true_or, or_false, false_or, if_true, if_false, reduceIte, reduceCtorEq, implies_true, ite_self, ite_not, kS2, wR_mk hN0, nwN_2]
  refine K _ _ _ ⟨kS2, KH_new hN1, ⟨hN0, ?_⟩, ⟨hN1, ?_⟩, up2_same, ?_, hI, s12, s13⟩ ⟨rfl, ?_, Nat.le_refl _, ?_, fun a h => ?_, fun a h => ⟨?_, ?_⟩, fun a h j => ⟨?_, ?_⟩⟩
  · show N.2.1 < N.2.1 + 1 + 1
    omega
  · show N.2.1 + 1 < N.2.1 + 1 + 1
    omega
  · rw [hI2 _ (by omega)]
    exact up2_same
  · show N.2.1 ≤ N.2.1 + 1 + 1
    omega
  · show N.2.2.1 + 4 + T.length ≤ N.2.2.1 + 1000
    omega
  · exact (KH_old (show a ≠ N.2.1 + 1 by omega)).trans (KH_old (by omega))
  · rw [hI2 _ (by omega)]
    funext j
    rw [u2_ne (by omega)]
  · funext j
    unfold up2
    rw [if_neg (by omega)]
  · have h' : N.2.1 + 1 + 1 ≤ a := h
    rw [hI2 _ (by omega), u2_ne (by omega)]
    exact (hZ a (by omega) j).1
  · have h' : N.2.1 + 1 + 1 ≤ a := h
    unfold up2
    rw [if_neg (by omega)]
    exact (hZ a (by omega) j).2
end S9A
