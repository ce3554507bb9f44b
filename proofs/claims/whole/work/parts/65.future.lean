/-! CONTRACTS: what will be, of the class over its trial line, of the reference with its row laid aside -/
def uF (I : Nat → Nat → Int32) (α : Nat → Int) : Un := (α, (I 294 4).toInt, (I 294 5).toInt, (I 294 6).toInt, (I 294 7).toInt, (I 294 8).toInt, (I 294 9).toInt, (I 294 10).toInt)
theorem uS_uF {I J : Nat → Nat → Int32} {α : Nat → Int} (h : ∀ k, 4 ≤ k → k ≤ 10 → J 294 k = I 294 k) : uS J (uF I α) = J := by
  funext a k
  unfold uS uF ms
  by_cases hk : a = 294 ∧ 4 ≤ k ∧ k ≤ 10
  · rw [if_pos hk]
    obtain ⟨rfl, h1, h2⟩ := hk
    rw [h k h1 h2]
    have : k = 4 ∨ k = 5 ∨ k = 6 ∨ k = 7 ∨ k = 8 ∨ k = 9 ∨ k = 10 := by omega
    rcases this with rfl | rfl | rfl | rfl | rfl | rfl | rfl <;> exact Int32.ofInt_toInt _
  · rw [if_neg hk]
theorem uS_ne {I : Nat → Nat → Int32} {u : Un} {a k : Nat} (h : a ≠ 294 ∨ k < 4 ∨ 10 < k) : uS I u a k = I a k := ms_ne h
theorem i3264 (x : Int32) : x.toInt64.toInt32 = x := by
  obtain ⟨z, rfl, hz⟩ := o_z x
  rw [o_64 hz, o_32]
section S65
variable {d N t w b e n m : Nat} {I J ℓ : Nat → Nat → Int32} {L μ : Nat → Nat → Int64} {D : Nat → Nat → UInt64} {Q : Rs → St → Prop} {o : Nat → Nat} {α : Nat → Int} {u : Un} {v : Int × Int × Int × Int × Int × Int × Int}
/-! the class -/
theorem c32t (he : LB e) (hb : LB b) (hd : apt e b) : Wp (d + 1) 32 0 [some (.ref e), some (.ref b), none] [] (mk N t w I L D) Q = Q (.inl none) (mk N t w (lay e (mg CP (gl b I) (gl e I)) I) (lay e (muC (gl b L) (gl e L)) L) D) := by
  have := c32 (d := d) (N := N) (t := t) (w := w) (I := I) (ℓ := gl e I) (L := L) (μ := gl e L) (D := D) (Q := Q) he hb hd
  rw [lay_gl, lay_gl] at this
  exact this
theorem c126 (he : LB e) (hb : LB b) (hd : apt e b) (h5 : rv (KR w 15 5) = .ref b) (h6 : rv (KR w 15 6) = .ref e) (hR : RL (gl b I) (gl b L) α n m o) (hG : GA α n m o) {z : Int} (hz : 0 ≤ z ∧ z ≤ 50) (hQ : ∀ (ℓ' : Nat → Nat → Int32) (μ' : Nat → Nat → Int64), RL ℓ' μ' (uK n m o (60 * z.toNat) (α, v)).1 n m o → Q (.inl none) (mk N t w (lay e ℓ' I) (lay e μ' L) D)) : Wp (d + 5) 126 0 [some (.ref 15), some (.int (Int32.ofInt z))] [] (mk N t w I L D) Q := by
  have hR' := RL_mg (ℓ := gl e I) (μ := gl e L) hR hG.1.1
  simp only [w126_0, w126_1, w126_2, w126_4, w126_7, w126_8, w126_11, w126_12, w126_15, w126_18, w126_19, w126_22, w126_23, w126_25, w126_26, w126_29, w126_30, kn_s, kn_n, zh_mk, zR_mk, zI_mk, zL_mk, zD_mk, wI_mk, wL_mk, wD_mk, zT_mk, zC_mk, kill_i, kill_r, kill_0, kill_n, kill_l, kill_q, zzk_r, zzk_0, zzk_q, zcat_r, zcat_i, zcat_0, cats_0, cats_i, cats_r, cats_l, cats_d, cats_f, rv_s, rv_0, Nat.reduceAdd, Nat.reduceLeDiff, Nat.add_zero, Nat.reduceMul, Nat.reduceSub, ne_eq, not_false_eq_true, not_true_eq_false, and_self, and_true, true_and, or_self, or_true, true_or, or_false, false_or, if_true, if_false, reduceIte, reduceCtorEq, implies_true, ite_self, ite_not, o_add, o_sub, o_mul, o_neg, q_add, q_sub, q_mul, q_neg, o_32, cast_s, k15, h5, h6, kh0 he, c104 (z := z) (l := 0) (h := 50) (by omega) (by omega) (by omega) hz, c32t he hb hd]
  rw [show z * 60 = ((60 * z.toNat : Nat) : Int) by omega]
  refine c33 he (by omega) (u := (α, v)) hR' hG (fun ℓ' μ' h => ?_)
  simp only [w126_29, w126_30, kn_s, kn_n, zh_mk, zR_mk, zI_mk, zL_mk, zD_mk, wI_mk, wL_mk, wD_mk, zT_mk, zC_mk, kill_i, kill_r, kill_0, kill_n, kill_l, kill_q, zzk_r, zzk_0, zzk_q, zcat_r, zcat_i, zcat_0, cats_0, cats_i, cats_r, cats_l, cats_d, cats_f, rv_s, rv_0, Nat.reduceAdd, Nat.reduceLeDiff, Nat.add_zero, Nat.reduceMul, Nat.reduceSub, ne_eq, not_false_eq_true, not_true_eq_false, and_self, and_true, true_and, or_self, or_true, true_or, or_false, false_or, if_true, if_false, reduceIte, reduceCtorEq, implies_true, ite_self, ite_not]
  exact hQ ℓ' μ' h
theorem c126_x {z : Int} (hz : -2147483648 ≤ z ∧ z < 2147483648) (hi : ¬ (0 ≤ z ∧ z ≤ 50)) : Wp (d + 5) 126 0 [some (.ref 15), some (.int (Int32.ofInt z))] [] (mk N t w I L D) Q = Q (.inr 1) (mk N (t + 1) w I L D) := by
  simp only [w126_0, w126_1, w126_2, w126_4, w126_7, w126_8, w126_11, w126_12, w126_15, w126_18, w126_19, w126_22, w126_23, w126_25, w126_26, w126_29, w126_30, kn_s, kn_n, zh_mk, zR_mk, zI_mk, zL_mk, zD_mk, wI_mk, wL_mk, wD_mk, zT_mk, zC_mk, kill_i, kill_r, kill_0, kill_n, kill_l, kill_q, zzk_r, zzk_0, zzk_q, zcat_r, zcat_i, zcat_0, cats_0, cats_i, cats_r, cats_l, cats_d, cats_f, rv_s, rv_0, Nat.reduceAdd, Nat.reduceLeDiff, Nat.add_zero, Nat.reduceMul, Nat.reduceSub, ne_eq, not_false_eq_true, not_true_eq_false, and_self, and_true, true_and, or_self, or_true, true_or, or_false, false_or, if_true, if_false, reduceIte, reduceCtorEq, implies_true, ite_self, ite_not, k15, c104_x (z := z) (l := 0) (h := 50) hz (by omega) (by omega) hi, kn_x mh126]
/-! the reference -/
theorem c232' {F : Nat → Int64} : Wp d 232 0 [some (.ref 294), none] [] (mk N t 295 I (sR L 295 F) D) Q = Q (.inl none) (mk N t 295 I (sR (sR L 297 (cpN 378 F (L 297))) 295 F) D) := by
  have := c232 (d := d) (N := N) (t := t) (I := I) (L := L) (D := D) (Q := Q) (F := F) (X := L 297)
  rw [sR_self] at this
  exact this
theorem c244' {F X : Nat → Int64} {x : Int32} : Wp (d + 1) 244 0 [some (.ref 294), some (.int x)] [] (mk N t 295 I (sR (sR L 297 X) 295 F) D) Q = Q (.inl (some (.int x))) (mk N t 295 I (sR (sR L 297 X) 295 (cpN 378 X F)) D) := by
  simp only [w244_0, w244_1, w244_2, w244_3, w244_6, w244_7, kn_s, kn_n, zh_mk, zR_mk, zI_mk, zL_mk, zD_mk, wI_mk, wL_mk, wD_mk, zT_mk, zC_mk, kill_i, kill_r, kill_0, kill_n, kill_l, kill_q, zzk_r, zzk_0, zzk_q, zcat_r, zcat_i, zcat_0, cats_0, cats_i, cats_r, cats_l, cats_d, cats_f, rv_s, rv_0, Nat.reduceAdd, Nat.reduceLeDiff, Nat.add_zero, Nat.reduceMul, Nat.reduceSub, ne_eq, not_false_eq_true, not_true_eq_false, and_self, and_true, true_and, or_self, or_true, true_or, or_false, false_or, if_true, if_false, reduceIte, reduceCtorEq, implies_true, ite_self, ite_not, kM, c245, i3264]
/-- the reference's memory behind an answer about the future -/
def XA (α : Nat → Int) (L : Nat → Nat → Int64) : Nat → Int64 := cpN 378 (r64 α) (L 297)
def LF (L : Nat → Nat → Int64) (α β : Nat → Int) : Nat → Nat → Int64 := sR (sR L 297 (XA α L)) 295 (r64 (cpN 378 α β))
theorem LF_e {β : Nat → Int} : sR (sR L 297 (cpN 378 (r64 α) (L 297))) 295 (cpN 378 (cpN 378 (r64 α) (L 297)) (r64 β)) = LF L α β := by
  unfold LF XA
  rw [cp_r64]
theorem c251' {k : Nat} (hk : k < 100000) (hG : GA u.1 n m o) (hJ : uS J u = J) : Wp (d + 27) 251 0 [some (.ref 294), some (.int (Int32.ofInt (k : Int))), none, none, none] [] (mk N t 295 J (sR L 295 (r64 u.1)) D) Q = Q (.inl (some (.int (Int32.ofInt ((uK n m o k u).1 12 - u.1 12))))) (mk N t 295 (uS J (uK n m o k u)) (sR L 295 (r64 (uK n m o k u).1)) D) := by
  have := c251 (d := d) (N := N) (t := t) (w := 295) (I := J) (L := L) (D := D) (Q := Q) (u := u) (n := n) (m := m) (o := o) (Or.inl rfl) hk hG
  rw [hJ] at this
  exact this
theorem c250 (hG : GA α n m o) (hJ : uS J (α, v) = J) {i k : Nat} {z : Int} (hz : 0 ≤ z ∧ z ≤ 50) (hi : i < n) (hk : k = 0 ∨ k = 1) : Wp (d + 28) 250 0 [some (.ref 294), some (.int (Int32.ofInt (i : Int))), some (.int (Int32.ofInt z)), some (.int (Int32.ofInt (k : Int))), none] [] (mk N t 295 J (sR L 295 (r64 α)) D) Q = Q (.inl (some (.int (Int32.ofInt ((uK n m o (60 * z.toNat) (α, v)).1 (B9 i k)))))) (mk N t 295 (uS J (uK n m o (60 * z.toNat) (α, v))) (LF L α (uK n m o (60 * z.toNat) (α, v)).1) D) := by
  have h10 := hG.1.1
  have e60 : 60 * z = ((60 * z.toNat : Nat) : Int) := by omega
  have c := fun (L : Nat → Nat → Int64) (Q : Rs → St → Prop) => c251' (d := d) (N := N) (t := t) (L := L) (D := D) (Q := Q) (k := 60 * z.toNat) (u := (α, v)) (n := n) (m := m) (o := o) (by omega) hG hJ
  rcases hk with rfl | rfl
  · have c2 := fun (L : Nat → Nat → Int64) (Q : Rs → St → Prop) => c177_0 (d := d + 27) (N := N) (t := t) (I := uS J (uK n m o (60 * z.toNat) (α, v))) (L := L) (D := D) (Q := Q) (α := (uK n m o (60 * z.toNat) (α, v)).1) (Or.inl rfl : RW 295) (show i < 10 by omega)
    simp only [w250_0, w250_1, w250_4, w250_5, w250_7, w250_8, w250_9, w250_12, w250_14, w250_15, w250_16, w250_17, w250_18, w250_21, w250_24, kn_s, kn_n, zh_mk, zR_mk, zI_mk, zL_mk, zD_mk, wI_mk, wL_mk, wD_mk, zT_mk, zC_mk, kill_i, kill_r, kill_0, kill_n, kill_l, kill_q, zzk_r, zzk_0, zzk_q, zcat_r, zcat_i, zcat_0, cats_0, cats_i, cats_r, cats_l, cats_d, cats_f, rv_s, rv_0, Nat.reduceAdd, Nat.reduceLeDiff, Nat.add_zero, Nat.reduceMul, Nat.reduceSub, ne_eq, not_false_eq_true, not_true_eq_false, and_self, and_true, true_and, or_self, or_true, true_or, or_false, false_or, if_true, if_false, reduceIte, reduceCtorEq, implies_true, ite_self, ite_not, o_add, o_sub, o_mul, o_neg, q_add, q_sub, q_mul, q_neg, o_32, cast_s, kM, c232', e60, c, show ((0 : Nat) : Int) = 0 from rfl, c2, c244', LF_e]
  · have c2 := fun (L : Nat → Nat → Int64) (Q : Rs → St → Prop) => c177_1 (d := d + 27) (N := N) (t := t) (I := uS J (uK n m o (60 * z.toNat) (α, v))) (L := L) (D := D) (Q := Q) (α := (uK n m o (60 * z.toNat) (α, v)).1) (Or.inl rfl : RW 295) (show i < 10 by omega)
    simp only [w250_0, w250_1, w250_4, w250_5, w250_7, w250_8, w250_9, w250_12, w250_14, w250_15, w250_16, w250_17, w250_18, w250_21, w250_24, kn_s, kn_n, zh_mk, zR_mk, zI_mk, zL_mk, zD_mk, wI_mk, wL_mk, wD_mk, zT_mk, zC_mk, kill_i, kill_r, kill_0, kill_n, kill_l, kill_q, zzk_r, zzk_0, zzk_q, zcat_r, zcat_i, zcat_0, cats_0, cats_i, cats_r, cats_l, cats_d, cats_f, rv_s, rv_0, Nat.reduceAdd, Nat.reduceLeDiff, Nat.add_zero, Nat.reduceMul, Nat.reduceSub, ne_eq, not_false_eq_true, not_true_eq_false, and_self, and_true, true_and, or_self, or_true, true_or, or_false, false_or, if_true, if_false, reduceIte, reduceCtorEq, implies_true, ite_self, ite_not, o_add, o_sub, o_mul, o_neg, q_add, q_sub, q_mul, q_neg, o_32, cast_s, kM, c232', e60, c, show ((1 : Nat) : Int) = 1 from rfl, c2, c244', LF_e]
theorem c254 (hG : GA α n m o) (hJ : uS J (α, v) = J) {k : Nat} {z : Int} (hz : 0 ≤ z ∧ z ≤ 50) (hk : k = 0 ∨ k = 1) : Wp (d + 28) 254 0 [some (.ref 294), some (.int (Int32.ofInt z)), some (.int (Int32.ofInt (k : Int))), none, none, none] [] (mk N t 295 J (sR L 295 (r64 α)) D) Q = Q (.inl (some (.int (Int32.ofInt ((uK n m o (60 * z.toNat) (α, v)).1 (12 + k) - α (12 + k)))))) (mk N t 295 (uS J (uK n m o (60 * z.toNat) (α, v))) (LF L α (uK n m o (60 * z.toNat) (α, v)).1) D) := by
  have e60 : 60 * z = ((60 * z.toNat : Nat) : Int) := by omega
  have c := fun (L : Nat → Nat → Int64) (Q : Rs → St → Prop) => c251' (d := d) (N := N) (t := t) (L := L) (D := D) (Q := Q) (k := 60 * z.toNat) (u := (α, v)) (n := n) (m := m) (o := o) (by omega) hG hJ
  rcases hk with rfl | rfl
  · simp only [w254_0, w254_1, w254_4, w254_5, w254_8, w254_10, w254_11, w254_12, w254_13, w254_14, w254_15, w254_17, w254_18, w254_19, w254_22, w254_24, w254_25, w254_26, w254_29, w254_31, w254_32, w254_33, w254_34, w254_35, w254_36, w254_37, w254_40, kn_s, kn_n, zh_mk, zR_mk, zI_mk, zL_mk, zD_mk, wI_mk, wL_mk, wD_mk, zT_mk, zC_mk, kill_i, kill_r, kill_0, kill_n, kill_l, kill_q, zzk_r, zzk_0, zzk_q, zcat_r, zcat_i, zcat_0, cats_0, cats_i, cats_r, cats_l, cats_d, cats_f, rv_s, rv_0, Nat.reduceAdd, Nat.reduceLeDiff, Nat.add_zero, Nat.reduceMul, Nat.reduceSub, ne_eq, not_false_eq_true, not_true_eq_false, and_self, and_true, true_and, or_self, or_true, true_or, or_false, false_or, if_true, if_false, reduceIte, reduceCtorEq, implies_true, ite_self, ite_not, o_add, o_sub, o_mul, o_neg, q_add, q_sub, q_mul, q_neg, o_32, cast_s, kM, kMr, kA295, sR_at, r64_at, c232', e60, c, show ((0 : Nat) : Int) = 0 from rfl, Int.reduceAdd, Nat.reduceAdd, ixc12, tnc12, c244', LF_e]
  · simp only [w254_0, w254_1, w254_4, w254_5, w254_8, w254_10, w254_11, w254_12, w254_13, w254_14, w254_15, w254_17, w254_18, w254_19, w254_22, w254_24, w254_25, w254_26, w254_29, w254_31, w254_32, w254_33, w254_34, w254_35, w254_36, w254_37, w254_40, kn_s, kn_n, zh_mk, zR_mk, zI_mk, zL_mk, zD_mk, wI_mk, wL_mk, wD_mk, zT_mk, zC_mk, kill_i, kill_r, kill_0, kill_n, kill_l, kill_q, zzk_r, zzk_0, zzk_q, zcat_r, zcat_i, zcat_0, cats_0, cats_i, cats_r, cats_l, cats_d, cats_f, rv_s, rv_0, Nat.reduceAdd, Nat.reduceLeDiff, Nat.add_zero, Nat.reduceMul, Nat.reduceSub, ne_eq, not_false_eq_true, not_true_eq_false, and_self, and_true, true_and, or_self, or_true, true_or, or_false, false_or, if_true, if_false, reduceIte, reduceCtorEq, implies_true, ite_self, ite_not, o_add, o_sub, o_mul, o_neg, q_add, q_sub, q_mul, q_neg, o_32, cast_s, kM, kMr, kA295, sR_at, r64_at, c232', e60, c, show ((1 : Nat) : Int) = 1 from rfl, Int.reduceAdd, Nat.reduceAdd, ixc13, tnc13, c244', LF_e]
theorem c256 (hG : GA α n m o) (hJ : uS (up2 J 294 0 (Int32.ofInt 0)) (α, v) = up2 J 294 0 (Int32.ofInt 0)) {z : Int} (hz : 0 ≤ z ∧ z ≤ 50) : Wp (d + 28) 256 0 [some (.ref 294), some (.int (Int32.ofInt z)), none] [] (mk N t 295 J (sR L 295 (r64 α)) D) Q = Q (.inl (some (.long (Int64.ofInt (enA (uK n m o (60 * z.toNat) (α, v)).1 n))))) (mk N t 295 (uS (up2 J 294 0 (Int32.ofInt 0)) (uK n m o (60 * z.toNat) (α, v))) (LF L α (uK n m o (60 * z.toNat) (α, v)).1) D) := by
  have e60 : 60 * z = ((60 * z.toNat : Nat) : Int) := by omega
  have c := fun (L : Nat → Nat → Int64) (Q : Rs → St → Prop) => c251' (d := d) (N := N) (t := t) (L := L) (D := D) (Q := Q) (k := 60 * z.toNat) (u := (α, v)) (n := n) (m := m) (o := o) (by omega) hG hJ
  have hG' := uK_G (k := 60 * z.toNat) (n := n) (m := m) (o := o) (u := (α, v)) hG
  simp only [w256_0, w256_1, w256_2, w256_5, w256_8, w256_11, w256_12, w256_13, w256_14, w256_17, w256_18, w256_20, w256_21, w256_22, w256_25, w256_26, w256_27, w256_28, w256_31, w256_34, kn_s, kn_n, zh_mk, zR_mk, zI_mk, zL_mk, zD_mk, wI_mk, wL_mk, wD_mk, zT_mk, zC_mk, kill_i, kill_r, kill_0, kill_n, kill_l, kill_q, zzk_r, zzk_0, zzk_q, zcat_r, zcat_i, zcat_0, cats_0, cats_i, cats_r, cats_l, cats_d, cats_f, rv_s, rv_0, Nat.reduceAdd, Nat.reduceLeDiff, Nat.add_zero, Nat.reduceMul, Nat.reduceSub, ne_eq, not_false_eq_true, not_true_eq_false, and_self, and_true, true_and, or_self, or_true, true_or, or_false, false_or, if_true, if_false, reduceIte, reduceCtorEq, implies_true, ite_self, ite_not, o_add, o_sub, o_mul, o_neg, q_add, q_sub, q_mul, q_neg, o_32, cast_s, kM, c249 (z := z) (by omega), c150, eq_true hz, thr, p_0, c232', e60, c, c216 (Or.inl rfl : RW 295) hG'.1, c245, LF_e]
/-- a wall that steals otherwise -/
def wsA (α : Nat → Int) (r : Bool) (z : Int) : Nat → Int := up1 α (if r then 9 else 8) z
theorem wsA_G (hG : GA α n m o) {r : Bool} {z : Int} (hz : 0 ≤ z ∧ z ≤ 100) : GA (wsA α r z) n m o := by
  have h10 := hG.1.1
  have m4 := hG.2.1.1
  have ne : ∀ k, k ≠ 8 → k ≠ 9 → wsA α r z k = α k := fun k h1 h2 => by
    unfold wsA
    cases r
    · exact up1_ne h1
    · exact up1_ne h2
  have nb : ∀ i k, wsA α r z (B9 i k) = α (B9 i k) := fun i k => ne _ (by unfold B9; omega) (by unfold B9; omega)
  have np : ∀ i k, wsA α r z (P3 i k) = α (P3 i k) := fun i k => ne _ (by unfold P3; omega) (by unfold P3; omega)
  obtain ⟨⟨a1, a2, a3, a4, a5⟩, ⟨b1, b2, b3⟩, ⟨c1, c2, c3⟩, d1, d2, d3, d4⟩ := hG
  refine ⟨⟨a1, by rw [ne _ (by omega) (by omega)]; exact a2, by rw [ne _ (by omega) (by omega)]; exact a3, by rw [ne _ (by omega) (by omega)]; exact a4, fun i hi => ?_⟩, ⟨b1, by rw [ne _ (by omega) (by omega)]; exact b2, fun p hp => ?_⟩, ⟨?_, ?_, by rw [ne _ (by omega) (by omega)]; exact c3⟩, d1, fun p q hpq hq => ?_, d3, fun i hi p hp => ?_⟩
  · rw [nb, nb, nb, nb, ne 0 (by omega) (by omega)]
    exact a5 i hi
  · rw [np, np, ne 0 (by omega) (by omega)]
    exact b3 p hp
  · unfold wsA
    cases r
    · simp only [Bool.false_eq_true, if_false, up1_eq']; exact hz
    · simp only [if_true]; rw [up1_ne (by omega)]; exact c1
  · unfold wsA
    cases r
    · simp only [Bool.false_eq_true, if_false]; rw [up1_ne (by omega)]; exact c2
    · simp only [if_true, up1_eq']; exact hz
  · rw [nb, nb]
    exact d2 p q hpq hq
  · rw [nb, np]
    exact d4 i hi p hp
theorem c258 (hG : GA α n m o) (hJ : uS (up2 J 294 0 (Int32.ofInt 0)) (α, v) = up2 J 294 0 (Int32.ofInt 0)) {r : Bool} {y z : Int} (hy : 0 ≤ y ∧ y ≤ 100) (hz : 0 ≤ z ∧ z ≤ 50) : Wp (d + 28) 258 0 [some (.ref 294), some (.int (Int32.ofInt (if r then 1 else 0))), some (.int (Int32.ofInt y)), some (.int (Int32.ofInt z)), none] [] (mk N t 295 J (sR L 295 (r64 α)) D) Q = Q (.inl (some (.long (Int64.ofInt (enA (uK n m o (60 * z.toNat) (wsA α r y, v)).1 n))))) (mk N t 295 (uS (up2 J 294 0 (Int32.ofInt 0)) (uK n m o (60 * z.toNat) (wsA α r y, v))) (LF L α (uK n m o (60 * z.toNat) (wsA α r y, v)).1) D) := by
  have e60 : 60 * z = ((60 * z.toNat : Nat) : Int) := by omega
  have hGw := wsA_G hG (r := r) hy
  have hG' := uK_G (k := 60 * z.toNat) (n := n) (m := m) (o := o) (u := (wsA α r y, v)) hGw
  have hJ' : uS (up2 J 294 0 (Int32.ofInt 0)) (wsA α r y, v) = up2 J 294 0 (Int32.ofInt 0) := hJ
  have c := fun (L : Nat → Nat → Int64) (Q : Rs → St → Prop) => c251' (d := d) (N := N) (t := t) (L := L) (D := D) (Q := Q) (k := 60 * z.toNat) (u := (wsA α r y, v)) (n := n) (m := m) (o := o) (by omega) hGw hJ'
  cases r
  · have ew : up1 α 8 y = wsA α false y := rfl
    simp only [Bool.false_eq_true, if_false, w258_0, w258_1, w258_2, w258_5, w258_8, w258_9, w258_12, w258_15, w258_16, w258_19, w258_20, w258_23, w258_26, w258_27, w258_28, w258_29, w258_32, w258_33, w258_36, w258_38, w258_39, w258_42, w258_43, w258_46, w258_47, w258_48, w258_49, w258_50, w258_51, w258_52, w258_54, w258_55, w258_56, w258_59, w258_61, w258_62, w258_63, w258_66, w258_69, kn_s, kn_n, zh_mk, zR_mk, zI_mk, zL_mk, zD_mk, wI_mk, wL_mk, wD_mk, zT_mk, zC_mk, kill_i, kill_r, kill_0, kill_n, kill_l, kill_q, zzk_r, zzk_0, zzk_q, zcat_r, zcat_i, zcat_0, cats_0, cats_i, cats_r, cats_l, cats_d, cats_f, rv_s, rv_0, Nat.reduceAdd, Nat.reduceLeDiff, Nat.add_zero, Nat.reduceMul, Nat.reduceSub, ne_eq, not_false_eq_true, not_true_eq_false, and_self, and_true, true_and, or_self, or_true, true_or, or_false, false_or, if_true, if_false, reduceIte, reduceCtorEq, implies_true, ite_self, ite_not, o_add, o_sub, o_mul, o_neg, q_add, q_sub, q_mul, q_neg, o_32, cast_s, kM, kMr, kA295, c226 (z := y) (by omega), c249 (z := z) (by omega), c150t, eq_true hy, eq_true hz, p_0, i00, i10, o_64 (z := y) (by omega), c232', Int.reduceAdd, ixc8, tnc8, up2_r64, ew, e60, c, c216 (Or.inl rfl : RW 295) hG'.1, c245, LF_e]
  · have ew : up1 α 9 y = wsA α true y := rfl
    simp only [if_true, w258_0, w258_1, w258_2, w258_5, w258_8, w258_9, w258_12, w258_15, w258_16, w258_19, w258_20, w258_23, w258_26, w258_27, w258_28, w258_29, w258_32, w258_33, w258_36, w258_38, w258_39, w258_42, w258_43, w258_46, w258_47, w258_48, w258_49, w258_50, w258_51, w258_52, w258_54, w258_55, w258_56, w258_59, w258_61, w258_62, w258_63, w258_66, w258_69, kn_s, kn_n, zh_mk, zR_mk, zI_mk, zL_mk, zD_mk, wI_mk, wL_mk, wD_mk, zT_mk, zC_mk, kill_i, kill_r, kill_0, kill_n, kill_l, kill_q, zzk_r, zzk_0, zzk_q, zcat_r, zcat_i, zcat_0, cats_0, cats_i, cats_r, cats_l, cats_d, cats_f, rv_s, rv_0, Nat.reduceAdd, Nat.reduceLeDiff, Nat.add_zero, Nat.reduceMul, Nat.reduceSub, ne_eq, not_false_eq_true, not_true_eq_false, and_self, and_true, true_and, or_self, or_true, true_or, or_false, false_or, if_true, if_false, reduceIte, reduceCtorEq, implies_true, ite_self, ite_not, o_add, o_sub, o_mul, o_neg, q_add, q_sub, q_mul, q_neg, o_32, cast_s, kM, kMr, kA295, c226 (z := y) (by omega), c249 (z := z) (by omega), c150t, eq_true hy, eq_true hz, p_0, i00, i10, o_64 (z := y) (by omega), c232', Int.reduceAdd, ixc9, tnc9, up2_r64, ew, e60, c, c216 (Or.inl rfl : RW 295) hG'.1, c245, LF_e]
/-! until all is calm -/
def clF (n m : Nat) (o : Nat → Nat) : Nat → Nat → Un → Int × Un
  | 0, _, u => (-1, u)
  | r + 1, k, u => if mvA u.1 n = 0 then ((k : Int), u) else clF n m o r (k + 1) (uK n m o 60 u)
theorem clF_s {r k : Nat} : clF n m o (r + 1) k u = if mvA u.1 n = 0 then ((k : Int), u) else clF n m o r (k + 1) (uK n m o 60 u) := nr rfl
theorem c257_11 {X : Nat → Int64} : ∀ (r k : Nat) (u : Un) (o2 : Option Value), k + r = 51 → GA u.1 n m o → Wp (d + 28) 257 11 [some (.ref 294), some (.int (Int32.ofInt (k : Int))), o2] [] (mk N t 295 (uS J u) (sR (sR L 297 X) 295 (r64 u.1)) D) Q = Q (.inl (some (.int (Int32.ofInt (clF n m o r k u).1)))) (mk N t 295 (uS J (clF n m o r k u).2) (sR (sR L 297 X) 295 (cpN 378 X (r64 (clF n m o r k u).2.1))) D) := by
  intro r
  induction r with
  | zero =>
    intro k u o2 hk hG
    have g : 50 < (k : Int) := by omega
    rw [w257_11]
    simp only [w257_0, w257_1, w257_2, w257_5, w257_6, w257_9, w257_10, w257_12, w257_14, w257_17, w257_18, w257_21, w257_22, w257_25, w257_28, w257_29, w257_30, w257_33, w257_34, w257_35, w257_37, w257_40, w257_41, w257_44, w257_47, w257_48, w257_49, w257_52, kn_s, kn_n, zh_mk, zR_mk, zI_mk, zL_mk, zD_mk, wI_mk, wL_mk, wD_mk, zT_mk, zC_mk, kill_i, kill_r, kill_0, kill_n, kill_l, kill_q, zzk_r, zzk_0, zzk_q, zcat_r, zcat_i, zcat_0, cats_0, cats_i, cats_r, cats_l, cats_d, cats_f, rv_s, rv_0, Nat.reduceAdd, Nat.reduceLeDiff, Nat.add_zero, Nat.reduceMul, Nat.reduceSub, ne_eq, not_false_eq_true, not_true_eq_false, and_self, and_true, true_and, or_self, or_true, true_or, or_false, false_or, if_true, if_false, reduceIte, reduceCtorEq, implies_true, ite_self, ite_not, kM, o_lt (a := 50) (b := (k : Int)) (by omega), g, c244', clF]
  | succ r ih =>
    intro k u o2 hk hG
    have hw : RW 295 := Or.inl rfl
    have g : ¬ (50 < (k : Int)) := by omega
    have hn := hG.1.2.1
    have h10 := hG.1.1
    have ms := mv_sl (α := u.1) n
    have mb := mvA_b (α := u.1) n
    have c := fun (L : Nat → Nat → Int64) (Q : Rs → St → Prop) => c251 (d := d) (N := N) (t := t) (w := 295) (I := J) (L := L) (D := D) (Q := Q) (u := u) (n := n) (m := m) (o := o) (k := 60) hw (by omega) hG
    rw [show ((60 : Nat) : Int) = 60 from rfl] at c
    rw [w257_11, clF_s]
    by_cases hx : mvA u.1 n = 0
    · have hy : slA u.1 n = (n : Int) := by omega
      simp only [w257_0, w257_1, w257_2, w257_5, w257_6, w257_9, w257_10, w257_12, w257_14, w257_17, w257_18, w257_21, w257_22, w257_25, w257_28, w257_29, w257_30, w257_33, w257_34, w257_35, w257_37, w257_40, w257_41, w257_44, w257_47, w257_48, w257_49, w257_52, kn_s, kn_n, zh_mk, zR_mk, zI_mk, zL_mk, zD_mk, wI_mk, wL_mk, wD_mk, zT_mk, zC_mk, kill_i, kill_r, kill_0, kill_n, kill_l, kill_q, zzk_r, zzk_0, zzk_q, zcat_r, zcat_i, zcat_0, cats_0, cats_i, cats_r, cats_l, cats_d, cats_f, rv_s, rv_0, Nat.reduceAdd, Nat.reduceLeDiff, Nat.add_zero, Nat.reduceMul, Nat.reduceSub, ne_eq, not_false_eq_true, not_true_eq_false, and_self, and_true, true_and, or_self, or_true, true_or, or_false, false_or, if_true, if_false, reduceIte, reduceCtorEq, implies_true, ite_self, ite_not, kM, o_lt (a := 50) (b := (k : Int)) (by omega), g, c193 hw hG.1, c176 hw, hn, o_eq (a := slA u.1 n) (b := (n : Int)) (by omega), eq_true hy, c244', eq_true hx]
    · have hy : ¬ (slA u.1 n = (n : Int)) := by omega
      simp only [w257_0, w257_1, w257_2, w257_5, w257_6, w257_9, w257_10, w257_12, w257_14, w257_17, w257_18, w257_21, w257_22, w257_25, w257_28, w257_29, w257_30, w257_33, w257_34, w257_35, w257_37, w257_40, w257_41, w257_44, w257_47, w257_48, w257_49, w257_52, kn_s, kn_n, zh_mk, zR_mk, zI_mk, zL_mk, zD_mk, wI_mk, wL_mk, wD_mk, zT_mk, zC_mk, kill_i, kill_r, kill_0, kill_n, kill_l, kill_q, zzk_r, zzk_0, zzk_q, zcat_r, zcat_i, zcat_0, cats_0, cats_i, cats_r, cats_l, cats_d, cats_f, rv_s, rv_0, Nat.reduceAdd, Nat.reduceLeDiff, Nat.add_zero, Nat.reduceMul, Nat.reduceSub, ne_eq, not_false_eq_true, not_true_eq_false, and_self, and_true, true_and, or_self, or_true, true_or, or_false, false_or, if_true, if_false, reduceIte, reduceCtorEq, implies_true, ite_self, ite_not, kM, o_lt (a := 50) (b := (k : Int)) (by omega), g, c193 hw hG.1, c176 hw, hn, o_eq (a := slA u.1 n) (b := (n : Int)) (by omega), eq_false hy, c, eq_false hx, o_add, cast_s, ih (k + 1) (uK n m o 60 u) _ (by omega) (uK_G hG)]
theorem c257 (hG : GA α n m o) (hJ : uS (up2 J 294 0 (Int32.ofInt 0)) (α, v) = up2 J 294 0 (Int32.ofInt 0)) : Wp (d + 28) 257 0 [some (.ref 294), none, none] [] (mk N t 295 J (sR L 295 (r64 α)) D) Q = Q (.inl (some (.int (Int32.ofInt (clF n m o 51 0 (α, v)).1)))) (mk N t 295 (uS (up2 J 294 0 (Int32.ofInt 0)) (clF n m o 51 0 (α, v)).2) (LF L α (clF n m o 51 0 (α, v)).2.1) D) := by
  have l := c257_11 (d := d) (N := N) (t := t) (J := up2 J 294 0 (Int32.ofInt 0)) (L := L) (D := D) (Q := Q) (X := cpN 378 (r64 α) (L 297)) 51 0 (α, v) none (by omega) hG
  rw [hJ, LF_e] at l
  simp only [w257_0 zzk_r, w257_1, w257_2, w257_5 zzk_r, w257_6, w257_9, w257_10, kn_s, kn_n, zh_mk, zR_mk, zI_mk, zL_mk, zD_mk, wI_mk, wL_mk, wD_mk, zT_mk, zC_mk, kill_i, kill_r, kill_0, kill_n, kill_l, kill_q, zzk_r, zzk_0, zzk_q, zcat_r, zcat_i, zcat_0, cats_0, cats_i, cats_r, cats_l, cats_d, cats_f, rv_s, rv_0, Nat.reduceAdd, Nat.reduceLeDiff, Nat.add_zero, Nat.reduceMul, Nat.reduceSub, ne_eq, not_false_eq_true, not_true_eq_false, and_self, and_true, true_and, or_self, or_true, true_or, or_false, false_or, if_true, if_false, reduceIte, reduceCtorEq, implies_true, ite_self, ite_not, kM, c232']
  exact l
theorem c92_13 (he : LB e) (h6 : rv (KR w 15 6) = .ref e) : ∀ (r k : Nat) (u : Un) (ℓ : Nat → Nat → Int32) (μ : Nat → Nat → Int64), k + r = 51 → RL ℓ μ u.1 n m o → GA u.1 n m o → (∀ (ℓ' : Nat → Nat → Int32) (μ' : Nat → Nat → Int64), Q (.inl (some (.int (Int32.ofInt (clF n m o r k u).1)))) (mk N t w (lay e ℓ' I) (lay e μ' L) D)) → Wp (d + 5) 92 13 [some (.ref 15), some (.int (Int32.ofInt (k : Int)))] [] (mk N t w (lay e ℓ I) (lay e μ L) D) Q := by
  intro r
  induction r with
  | zero =>
    intro k u ℓ μ hk hR hG hQ
    have g : 50 < (k : Int) := by omega
    rw [w92_13]
    simp only [w92_0, w92_1, w92_4, w92_5, w92_8, w92_11, w92_12, w92_14, w92_16, w92_19, w92_20, w92_23, w92_26, w92_29, w92_30, w92_31, w92_32, w92_35, w92_37, w92_40, w92_41, w92_44, w92_47, w92_48, kn_s, kn_n, zh_mk, zR_mk, zI_mk, zL_mk, zD_mk, wI_mk, wL_mk, wD_mk, zT_mk, zC_mk, kill_i, kill_r, kill_0, kill_n, kill_l, kill_q, zzk_r, zzk_0, zzk_q, zcat_r, zcat_i, zcat_0, cats_0, cats_i, cats_r, cats_l, cats_d, cats_f, rv_s, rv_0, Nat.reduceAdd, Nat.reduceLeDiff, Nat.add_zero, Nat.reduceMul, Nat.reduceSub, ne_eq, not_false_eq_true, not_true_eq_false, and_self, and_true, true_and, or_self, or_true, true_or, or_false, false_or, if_true, if_false, reduceIte, reduceCtorEq, implies_true, ite_self, ite_not, o_lt (a := 50) (b := (k : Int)) (by omega), g]
    exact hQ ℓ μ
  | succ r ih =>
    intro k u ℓ μ hk hR hG hQ
    have g : ¬ (50 < (k : Int)) := by omega
    have mb := mvA_b (α := u.1) n
    have h10 := hG.1.1
    rw [clF_s] at hQ
    rw [w92_13]
    by_cases hx : mvA u.1 n = 0
    · simp only [w92_0, w92_1, w92_4, w92_5, w92_8, w92_11, w92_12, w92_14, w92_16, w92_19, w92_20, w92_23, w92_26, w92_29, w92_30, w92_31, w92_32, w92_35, w92_37, w92_40, w92_41, w92_44, w92_47, w92_48, kn_s, kn_n, zh_mk, zR_mk, zI_mk, zL_mk, zD_mk, wI_mk, wL_mk, wD_mk, zT_mk, zC_mk, kill_i, kill_r, kill_0, kill_n, kill_l, kill_q, zzk_r, zzk_0, zzk_q, zcat_r, zcat_i, zcat_0, cats_0, cats_i, cats_r, cats_l, cats_d, cats_f, rv_s, rv_0, Nat.reduceAdd, Nat.reduceLeDiff, Nat.add_zero, Nat.reduceMul, Nat.reduceSub, ne_eq, not_false_eq_true, not_true_eq_false, and_self, and_true, true_and, or_self, or_true, true_or, or_false, false_or, if_true, if_false, reduceIte, reduceCtorEq, implies_true, ite_self, ite_not, k15, h6, kh0 he, o_lt (a := 50) (b := (k : Int)) (by omega), g, c39 he hR hG, o_eq (a := mvA u.1 n) (b := 0) (by omega), eq_true hx]
      rw [if_pos hx] at hQ
      exact hQ ℓ μ
    · simp only [w92_0, w92_1, w92_4, w92_5, w92_8, w92_11, w92_12, w92_14, w92_16, w92_19, w92_20, w92_23, w92_26, w92_29, w92_30, w92_31, w92_32, w92_35, w92_37, w92_40, w92_41, w92_44, w92_47, w92_48, kn_s, kn_n, zh_mk, zR_mk, zI_mk, zL_mk, zD_mk, wI_mk, wL_mk, wD_mk, zT_mk, zC_mk, kill_i, kill_r, kill_0, kill_n, kill_l, kill_q, zzk_r, zzk_0, zzk_q, zcat_r, zcat_i, zcat_0, cats_0, cats_i, cats_r, cats_l, cats_d, cats_f, rv_s, rv_0, Nat.reduceAdd, Nat.reduceLeDiff, Nat.add_zero, Nat.reduceMul, Nat.reduceSub, ne_eq, not_false_eq_true, not_true_eq_false, and_self, and_true, true_and, or_self, or_true, true_or, or_false, false_or, if_true, if_false, reduceIte, reduceCtorEq, implies_true, ite_self, ite_not, k15, h6, kh0 he, o_lt (a := 50) (b := (k : Int)) (by omega), g, c39 he hR hG, o_eq (a := mvA u.1 n) (b := 0) (by omega), eq_false hx]
      rw [if_neg hx] at hQ
      rw [show (60 : Int) = ((60 : Nat) : Int) from rfl]
      refine c33 he (by omega) (u := u) hR hG (fun ℓ' μ' h => ?_)
      simp only [w92_40, w92_41, w92_44, kn_s, kn_n, zh_mk, zR_mk, zI_mk, zL_mk, zD_mk, wI_mk, wL_mk, wD_mk, zT_mk, zC_mk, kill_i, kill_r, kill_0, kill_n, kill_l, kill_q, zzk_r, zzk_0, zzk_q, zcat_r, zcat_i, zcat_0, cats_0, cats_i, cats_r, cats_l, cats_d, cats_f, rv_s, rv_0, Nat.reduceAdd, Nat.reduceLeDiff, Nat.add_zero, Nat.reduceMul, Nat.reduceSub, ne_eq, not_false_eq_true, not_true_eq_false, and_self, and_true, true_and, or_self, or_true, true_or, or_false, false_or, if_true, if_false, reduceIte, reduceCtorEq, implies_true, ite_self, ite_not, o_add, cast_s]
      exact ih (k + 1) (uK n m o 60 u) ℓ' μ' (by omega) h (uK_G hG) hQ
theorem c92 (he : LB e) (hb : LB b) (hd : apt e b) (h5 : rv (KR w 15 5) = .ref b) (h6 : rv (KR w 15 6) = .ref e) (hR : RL (gl b I) (gl b L) α n m o) (hG : GA α n m o) (hQ : ∀ (ℓ' : Nat → Nat → Int32) (μ' : Nat → Nat → Int64), Q (.inl (some (.int (Int32.ofInt (clF n m o 51 0 (α, v)).1)))) (mk N t w (lay e ℓ' I) (lay e μ' L) D)) : Wp (d + 5) 92 0 [some (.ref 15), none] [] (mk N t w I L D) Q := by
  have l := c92_13 (d := d) (N := N) (t := t) (I := I) (L := L) (D := D) (Q := Q) he h6 51 0 (α, v) _ _ (by omega) (RL_mg (ℓ := gl e I) (μ := gl e L) hR hG.1.1) hG hQ
  simp only [w92_0 zzk_r, w92_1, w92_4 zzk_r, w92_5, w92_8, w92_11, w92_12, kn_s, kn_n, zh_mk, zR_mk, zI_mk, zL_mk, zD_mk, wI_mk, wL_mk, wD_mk, zT_mk, zC_mk, kill_i, kill_r, kill_0, kill_n, kill_l, kill_q, zzk_r, zzk_0, zzk_q, zcat_r, zcat_i, zcat_0, cats_0, cats_i, cats_r, cats_l, cats_d, cats_f, rv_s, rv_0, Nat.reduceAdd, Nat.reduceLeDiff, Nat.add_zero, Nat.reduceMul, Nat.reduceSub, ne_eq, not_false_eq_true, not_true_eq_false, and_self, and_true, true_and, or_self, or_true, true_or, or_false, false_or, if_true, if_false, reduceIte, reduceCtorEq, implies_true, ite_self, ite_not, k15, h5, h6, kh0 he, c32t he hb hd]
  exact l
/-! until the next hit -/
/-- whether a pulse had the hit that is looked for: of any balls (-1), or of one -/
def nhT (z : Int) (u : Un) : Prop := (z = -1 ∧ u.2.2.2.2.1 ≠ -1) ∨ (z ≠ -1 ∧ u.2.2.2.1.toNat.testBit z.toNat = true)
noncomputable def nhF (n m : Nat) (o : Nat → Nat) (z : Int) : Nat → Nat → Un → Int × Un
  | 0, _, u => (-1, u)
  | r + 1, k, u => @ite _ (nhT z (puU n m o u)) (Classical.propDecidable _) ((k : Int), puU n m o u) (nhF n m o z r (k + 1) (puU n m o u))
theorem nhF_y {z : Int} {r k : Nat} (h : nhT z (puU n m o u)) : nhF n m o z (r + 1) k u = ((k : Int), puU n m o u) := by
  show (@ite _ _ (Classical.propDecidable _) _ _) = _
  rw [if_pos h]
theorem nhF_n {z : Int} {r k : Nat} (h : ¬ nhT z (puU n m o u)) : nhF n m o z (r + 1) k u = nhF n m o z r (k + 1) (puU n m o u) := by
  show (@ite _ _ (Classical.propDecidable _) _ _) = _
  rw [if_neg h]
theorem puM_lt (hG : GA u.1 n m o) : ∃ M : Nat, (puU n m o u).2.2.2.1 = (M : Int) ∧ M < 1024 := ⟨_, rfl, (tu_G hG).2.2.1⟩
theorem puT_b (hG : GA u.1 n m o) : -1 ≤ (puU n m o u).2.2.2.2.1 ∧ (puU n m o u).2.2.2.2.1 < 10 := (tu_G hG).2.2.2
theorem c231_6 {X : Nat → Int64} {z : Int} (hz : -1 ≤ z ∧ z < 10) : ∀ (r k : Nat) (u : Un), k + r = 3001 → GA u.1 n m o → Wp (d + 27) 231 6 [some (.ref 294), some (.int (Int32.ofInt z)), some (.int (Int32.ofInt (k : Int)))] [] (mk N t 295 (uS J u) (sR (sR L 297 X) 295 (r64 u.1)) D) Q = Q (.inl (some (.int (Int32.ofInt (nhF n m o z r k u).1)))) (mk N t 295 (uS J (nhF n m o z r k u).2) (sR (sR L 297 X) 295 (cpN 378 X (r64 (nhF n m o z r k u).2.1))) D) := by
  intro r
  induction r with
  | zero =>
    intro k u hk hG
    have g : 3000 < (k : Int) := by omega
    rw [w231_6]
    simp only [w231_0, w231_1, w231_4, w231_5, w231_7, w231_10, w231_13, w231_14, w231_17, w231_18, w231_19, w231_22, w231_23, w231_26, w231_27, w231_30, w231_33, w231_34, w231_37, w231_38, w231_41, w231_44, w231_45, w231_46, w231_49, w231_50, w231_53, w231_56, w231_57, w231_58, w231_61, kn_s, kn_n, zh_mk, zR_mk, zI_mk, zL_mk, zD_mk, wI_mk, wL_mk, wD_mk, zT_mk, zC_mk, kill_i, kill_r, kill_0, kill_n, kill_l, kill_q, zzk_r, zzk_0, zzk_q, zcat_r, zcat_i, zcat_0, cats_0, cats_i, cats_r, cats_l, cats_d, cats_f, rv_s, rv_0, Nat.reduceAdd, Nat.reduceLeDiff, Nat.add_zero, Nat.reduceMul, Nat.reduceSub, ne_eq, not_false_eq_true, not_true_eq_false, and_self, and_true, true_and, or_self, or_true, true_or, or_false, false_or, if_true, if_false, reduceIte, reduceCtorEq, implies_true, ite_self, ite_not, kM, o_lt (a := 3000) (b := (k : Int)) (by omega), g, c244', nhF]
  | succ r ih =>
    intro k u hk hG
    have hw : RW 295 := Or.inl rfl
    have g : ¬ (3000 < (k : Int)) := by omega
    obtain ⟨M, eM, hM⟩ := puM_lt (n := n) (m := m) (o := o) hG
    have hT := puT_b (n := n) (m := m) (o := o) hG
    have c := fun (L : Nat → Nat → Int64) (Q : Rs → St → Prop) => c233 (d := d) (N := N) (t := t) (w := 295) (I := J) (L := L) (D := D) (Q := Q) (u := u) (n := n) (m := m) (o := o) hw hG
    have ih' := ih (k + 1) (puU n m o u) (by omega) (puU_G hG)
    have f7 : uS J (puU n m o u) 294 7 = Int32.ofInt (puU n m o u).2.2.2.2.1 := by unfold uS; rw [ms_at (by omega)]; rfl
    have f6 : uS J (puU n m o u) 294 6 = Int32.ofInt (M : Int) := by unfold uS; rw [ms_at (by omega), ← eM]; rfl
    rw [w231_6]
    by_cases hx : nhT z (puU n m o u)
    · rw [nhF_y hx]
      rcases hx with ⟨h1, h2⟩ | ⟨h1, h2⟩
      · simp only [w231_0, w231_1, w231_4, w231_5, w231_7, w231_10, w231_13, w231_14, w231_17, w231_18, w231_19, w231_22, w231_23, w231_26, w231_27, w231_30, w231_33, w231_34, w231_37, w231_38, w231_41, w231_44, w231_45, w231_46, w231_49, w231_50, w231_53, w231_56, w231_57, w231_58, w231_61, kn_s, kn_n, zh_mk, zR_mk, zI_mk, zL_mk, zD_mk, wI_mk, wL_mk, wD_mk, zT_mk, zC_mk, kill_i, kill_r, kill_0, kill_n, kill_l, kill_q, zzk_r, zzk_0, zzk_q, zcat_r, zcat_i, zcat_0, cats_0, cats_i, cats_r, cats_l, cats_d, cats_f, rv_s, rv_0, Nat.reduceAdd, Nat.reduceLeDiff, Nat.add_zero, Nat.reduceMul, Nat.reduceSub, ne_eq, not_false_eq_true, not_true_eq_false, and_self, and_true, true_and, or_self, or_true, true_or, or_false, false_or, if_true, if_false, reduceIte, reduceCtorEq, implies_true, ite_self, ite_not, kM, o_lt (a := 3000) (b := (k : Int)) (by omega), g, c, o_eq (a := z) (b := -1) (by omega), eq_true h1, f7, o_eq (a := (puU n m o u).2.2.2.2.1) (b := -1) (by omega), eq_false h2, c244']
      · rw [eM, Int.toNat_natCast] at h2
        have ez : Int32.ofInt z = Int32.ofInt ((z.toNat : Nat) : Int) := by rw [Int.toNat_of_nonneg (by omega)]
        have ch := fun (σ : St) (Q : Rs → St → Prop) => c205 (d := d + 26) (M := M) (i := z.toNat) (Q := Q) hM (show z.toNat < 10 by omega) (σ := σ)
        rw [← ez] at ch
        simp only [w231_0, w231_1, w231_4, w231_5, w231_7, w231_10, w231_13, w231_14, w231_17, w231_18, w231_19, w231_22, w231_23, w231_26, w231_27, w231_30, w231_33, w231_34, w231_37, w231_38, w231_41, w231_44, w231_45, w231_46, w231_49, w231_50, w231_53, w231_56, w231_57, w231_58, w231_61, kn_s, kn_n, zh_mk, zR_mk, zI_mk, zL_mk, zD_mk, wI_mk, wL_mk, wD_mk, zT_mk, zC_mk, kill_i, kill_r, kill_0, kill_n, kill_l, kill_q, zzk_r, zzk_0, zzk_q, zcat_r, zcat_i, zcat_0, cats_0, cats_i, cats_r, cats_l, cats_d, cats_f, rv_s, rv_0, Nat.reduceAdd, Nat.reduceLeDiff, Nat.add_zero, Nat.reduceMul, Nat.reduceSub, ne_eq, not_false_eq_true, not_true_eq_false, and_self, and_true, true_and, or_self, or_true, true_or, or_false, false_or, if_true, if_false, reduceIte, reduceCtorEq, implies_true, ite_self, ite_not, kM, o_lt (a := 3000) (b := (k : Int)) (by omega), g, c, o_eq (a := z) (b := -1) (by omega), eq_false h1, f6, ch, p_0, eq_true h2, c244']
    · rw [nhF_n hx]
      by_cases h1 : z = -1
      · have h2 : (puU n m o u).2.2.2.2.1 = -1 := Classical.byContradiction fun h => hx (Or.inl ⟨h1, h⟩)
        simp only [w231_0, w231_1, w231_4, w231_5, w231_7, w231_10, w231_13, w231_14, w231_17, w231_18, w231_19, w231_22, w231_23, w231_26, w231_27, w231_30, w231_33, w231_34, w231_37, w231_38, w231_41, w231_44, w231_45, w231_46, w231_49, w231_50, w231_53, w231_56, w231_57, w231_58, w231_61, kn_s, kn_n, zh_mk, zR_mk, zI_mk, zL_mk, zD_mk, wI_mk, wL_mk, wD_mk, zT_mk, zC_mk, kill_i, kill_r, kill_0, kill_n, kill_l, kill_q, zzk_r, zzk_0, zzk_q, zcat_r, zcat_i, zcat_0, cats_0, cats_i, cats_r, cats_l, cats_d, cats_f, rv_s, rv_0, Nat.reduceAdd, Nat.reduceLeDiff, Nat.add_zero, Nat.reduceMul, Nat.reduceSub, ne_eq, not_false_eq_true, not_true_eq_false, and_self, and_true, true_and, or_self, or_true, true_or, or_false, false_or, if_true, if_false, reduceIte, reduceCtorEq, implies_true, ite_self, ite_not, kM, o_lt (a := 3000) (b := (k : Int)) (by omega), g, c, o_eq (a := z) (b := -1) (by omega), eq_true h1, f7, o_eq (a := (puU n m o u).2.2.2.2.1) (b := -1) (by omega), eq_true h2, o_add, cast_s, ih']
      · have h2 : ¬ (M.testBit z.toNat = true) := fun h => hx (Or.inr ⟨h1, by rw [eM, Int.toNat_natCast]; exact h⟩)
        have ez : Int32.ofInt z = Int32.ofInt ((z.toNat : Nat) : Int) := by rw [Int.toNat_of_nonneg (by omega)]
        have ch := fun (σ : St) (Q : Rs → St → Prop) => c205 (d := d + 26) (M := M) (i := z.toNat) (Q := Q) hM (show z.toNat < 10 by omega) (σ := σ)
        rw [← ez] at ch
        simp only [w231_0, w231_1, w231_4, w231_5, w231_7, w231_10, w231_13, w231_14, w231_17, w231_18, w231_19, w231_22, w231_23, w231_26, w231_27, w231_30, w231_33, w231_34, w231_37, w231_38, w231_41, w231_44, w231_45, w231_46, w231_49, w231_50, w231_53, w231_56, w231_57, w231_58, w231_61, kn_s, kn_n, zh_mk, zR_mk, zI_mk, zL_mk, zD_mk, wI_mk, wL_mk, wD_mk, zT_mk, zC_mk, kill_i, kill_r, kill_0, kill_n, kill_l, kill_q, zzk_r, zzk_0, zzk_q, zcat_r, zcat_i, zcat_0, cats_0, cats_i, cats_r, cats_l, cats_d, cats_f, rv_s, rv_0, Nat.reduceAdd, Nat.reduceLeDiff, Nat.add_zero, Nat.reduceMul, Nat.reduceSub, ne_eq, not_false_eq_true, not_true_eq_false, and_self, and_true, true_and, or_self, or_true, true_or, or_false, false_or, if_true, if_false, reduceIte, reduceCtorEq, implies_true, ite_self, ite_not, kM, o_lt (a := 3000) (b := (k : Int)) (by omega), g, c, o_eq (a := z) (b := -1) (by omega), eq_false h1, f6, ch, p_0, eq_false h2, o_add, cast_s, ih']
theorem c231 (hG : GA α n m o) (hJ : uS J (α, v) = J) {z : Int} (hz : -1 ≤ z ∧ z < 10) : Wp (d + 27) 231 0 [some (.ref 294), some (.int (Int32.ofInt z)), none] [] (mk N t 295 J (sR L 295 (r64 α)) D) Q = Q (.inl (some (.int (Int32.ofInt (nhF n m o z 3000 1 (α, v)).1)))) (mk N t 295 (uS J (nhF n m o z 3000 1 (α, v)).2) (LF L α (nhF n m o z 3000 1 (α, v)).2.1) D) := by
  have l := c231_6 (d := d) (N := N) (t := t) (J := J) (L := L) (D := D) (Q := Q) (X := cpN 378 (r64 α) (L 297)) hz 3000 1 (α, v) (by omega) hG
  rw [hJ, LF_e] at l
  simp only [w231_0 zzk_r, w231_1, w231_4, w231_5, kn_s, kn_n, zh_mk, zR_mk, zI_mk, zL_mk, zD_mk, wI_mk, wL_mk, wD_mk, zT_mk, zC_mk, kill_i, kill_r, kill_0, kill_n, kill_l, kill_q, zzk_r, zzk_0, zzk_q, zcat_r, zcat_i, zcat_0, cats_0, cats_i, cats_r, cats_l, cats_d, cats_f, rv_s, rv_0, Nat.reduceAdd, Nat.reduceLeDiff, Nat.add_zero, Nat.reduceMul, Nat.reduceSub, ne_eq, not_false_eq_true, not_true_eq_false, and_self, and_true, true_and, or_self, or_true, true_or, or_false, false_or, if_true, if_false, reduceIte, reduceCtorEq, implies_true, ite_self, ite_not, kM, c232']
  exact l
/-- the class, by the count of hits -/
theorem c90_13 (he : LB e) (h6 : rv (KR w 15 6) = .ref e) : ∀ (r k : Nat) (u : Un) (ℓ : Nat → Nat → Int32) (μ : Nat → Nat → Int64), k + r = 3001 → RL ℓ μ u.1 n m o → GA u.1 n m o → (∀ (ℓ' : Nat → Nat → Int32) (μ' : Nat → Nat → Int64), RL ℓ' μ' (nhF n m o (-1) r k u).2.1 n m o → Q (.inl (some (.int (Int32.ofInt (nhF n m o (-1) r k u).1)))) (mk N t w (lay e ℓ' I) (lay e μ' L) D)) → Wp (d + 5) 90 13 [some (.ref 15), some (.int (Int32.ofInt (k : Int)))] [] (mk N t w (lay e ℓ I) (lay e μ L) D) Q := by
  intro r
  induction r with
  | zero =>
    intro k u ℓ μ hk hR hG hQ
    have g : 3000 < (k : Int) := by omega
    rw [w90_13]
    simp only [w90_0, w90_1, w90_4, w90_5, w90_8, w90_11, w90_12, w90_14, w90_17, w90_20, w90_21, w90_24, w90_25, w90_28, w90_31, w90_32, w90_33, w90_36, w90_39, w90_40, kn_s, kn_n, zh_mk, zR_mk, zI_mk, zL_mk, zD_mk, wI_mk, wL_mk, wD_mk, zT_mk, zC_mk, kill_i, kill_r, kill_0, kill_n, kill_l, kill_q, zzk_r, zzk_0, zzk_q, zcat_r, zcat_i, zcat_0, cats_0, cats_i, cats_r, cats_l, cats_d, cats_f, rv_s, rv_0, Nat.reduceAdd, Nat.reduceLeDiff, Nat.add_zero, Nat.reduceMul, Nat.reduceSub, ne_eq, not_false_eq_true, not_true_eq_false, and_self, and_true, true_and, or_self, or_true, true_or, or_false, false_or, if_true, if_false, reduceIte, reduceCtorEq, implies_true, ite_self, ite_not, o_lt (a := 3000) (b := (k : Int)) (by omega), g]
    exact hQ ℓ μ hR
  | succ r ih =>
    intro k u ℓ μ hk hR hG hQ
    have g : ¬ (3000 < (k : Int)) := by omega
    have hP := PT_u hG
    have e12 : (puU n m o u).1 12 = (tuT n m o u.1 u.2.1 u.2.2.1).1 12 := puU_ne (by omega)
    have hH := hP.2.1
    have hH1 := hH.1
    have hH2 := hH.2.1
    rw [← e12] at hH1 hH2
    rw [w90_13]
    simp only [w90_0, w90_1, w90_4, w90_5, w90_8, w90_11, w90_12, w90_14, w90_17, w90_20, w90_21, w90_24, w90_25, w90_28, w90_31, w90_32, w90_36, w90_39, w90_40, kn_s, kn_n, zh_mk, zR_mk, zI_mk, zL_mk, zD_mk, wI_mk, wL_mk, wD_mk, zT_mk, zC_mk, kill_i, kill_r, kill_0, kill_n, kill_l, kill_q, zzk_r, zzk_0, zzk_q, zcat_r, zcat_i, zcat_0, cats_0, cats_i, cats_r, cats_l, cats_d, cats_f, rv_s, rv_0, Nat.reduceAdd, Nat.reduceLeDiff, Nat.add_zero, Nat.reduceMul, Nat.reduceSub, ne_eq, not_false_eq_true, not_true_eq_false, and_self, and_true, true_and, or_self, or_true, true_or, or_false, false_or, if_true, if_false, reduceIte, reduceCtorEq, implies_true, ite_self, ite_not, k15, h6, kh0 he, o_lt (a := 3000) (b := (k : Int)) (by omega), g]
    rw [show (1 : Int) = ((1 : Nat) : Int) from rfl]
    refine c33 he (by omega) (u := u) hR hG (fun ℓ' μ' h => ?_)
    have h : RL ℓ' μ' (puU n m o u).1 n m o := h
    have eu : (uK n m o 1 u).1 12 = (puU n m o u).1 12 := rfl
    by_cases hx : nhT (-1) (puU n m o u)
    · rw [nhF_y hx] at hQ
      have ht : (puU n m o u).2.2.2.2.1 ≠ -1 := by
        rcases hx with h | h
        · exact h.2
        · exact absurd rfl h.1
      have hlt : 0 < (puU n m o u).1 12 - u.1 12 := by
        rcases hH1 with h | h
        · exact absurd h.1 ht
        · omega
      simp only [w90_28, w90_31, w90_32, kn_s, kn_n, zh_mk, zR_mk, zI_mk, zL_mk, zD_mk, wI_mk, wL_mk, wD_mk, zT_mk, zC_mk, kill_i, kill_r, kill_0, kill_n, kill_l, kill_q, zzk_r, zzk_0, zzk_q, zcat_r, zcat_i, zcat_0, cats_0, cats_i, cats_r, cats_l, cats_d, cats_f, rv_s, rv_0, Nat.reduceAdd, Nat.reduceLeDiff, Nat.add_zero, Nat.reduceMul, Nat.reduceSub, ne_eq, not_false_eq_true, not_true_eq_false, and_self, and_true, true_and, or_self, or_true, true_or, or_false, false_or, if_true, if_false, reduceIte, reduceCtorEq, implies_true, ite_self, ite_not, eu, o_lt (a := 0) (b := (puU n m o u).1 12 - u.1 12) (by omega), eq_true hlt]
      exact hQ ℓ' μ' h
    · rw [nhF_n hx] at hQ
      have ht : (puU n m o u).2.2.2.2.1 = -1 := Classical.byContradiction fun h => hx (Or.inl ⟨rfl, h⟩)
      have hlt : ¬ (0 < (puU n m o u).1 12 - u.1 12) := by
        rcases hH1 with h | h
        · omega
        · exact absurd ht h.1
      have hb2 : -100 < (puU n m o u).1 12 - u.1 12 := by rcases hH1 with h | h <;> omega
      simp only [w90_28, w90_33, w90_36, kn_s, kn_n, zh_mk, zR_mk, zI_mk, zL_mk, zD_mk, wI_mk, wL_mk, wD_mk, zT_mk, zC_mk, kill_i, kill_r, kill_0, kill_n, kill_l, kill_q, zzk_r, zzk_0, zzk_q, zcat_r, zcat_i, zcat_0, cats_0, cats_i, cats_r, cats_l, cats_d, cats_f, rv_s, rv_0, Nat.reduceAdd, Nat.reduceLeDiff, Nat.add_zero, Nat.reduceMul, Nat.reduceSub, ne_eq, not_false_eq_true, not_true_eq_false, and_self, and_true, true_and, or_self, or_true, true_or, or_false, false_or, if_true, if_false, reduceIte, reduceCtorEq, implies_true, ite_self, ite_not, eu, o_lt (a := 0) (b := (puU n m o u).1 12 - u.1 12) (by omega), eq_false hlt, o_add, cast_s]
      exact ih (k + 1) (puU n m o u) ℓ' μ' (by omega) h (puU_G hG) hQ
theorem c90 (he : LB e) (hb : LB b) (hd : apt e b) (h5 : rv (KR w 15 5) = .ref b) (h6 : rv (KR w 15 6) = .ref e) (hR : RL (gl b I) (gl b L) α n m o) (hG : GA α n m o) (hQ : ∀ (ℓ' : Nat → Nat → Int32) (μ' : Nat → Nat → Int64), RL ℓ' μ' (nhF n m o (-1) 3000 1 (α, v)).2.1 n m o → Q (.inl (some (.int (Int32.ofInt (nhF n m o (-1) 3000 1 (α, v)).1)))) (mk N t w (lay e ℓ' I) (lay e μ' L) D)) : Wp (d + 5) 90 0 [some (.ref 15), none] [] (mk N t w I L D) Q := by
  have l := c90_13 (d := d) (N := N) (t := t) (I := I) (L := L) (D := D) (Q := Q) he h6 3000 1 (α, v) _ _ (by omega) (RL_mg (ℓ := gl e I) (μ := gl e L) hR hG.1.1) hG hQ
  simp only [w90_0 zzk_r, w90_1, w90_4 zzk_r, w90_5, w90_8, w90_11, w90_12, kn_s, kn_n, zh_mk, zR_mk, zI_mk, zL_mk, zD_mk, wI_mk, wL_mk, wD_mk, zT_mk, zC_mk, kill_i, kill_r, kill_0, kill_n, kill_l, kill_q, zzk_r, zzk_0, zzk_q, zcat_r, zcat_i, zcat_0, cats_0, cats_i, cats_r, cats_l, cats_d, cats_f, rv_s, rv_0, Nat.reduceAdd, Nat.reduceLeDiff, Nat.add_zero, Nat.reduceMul, Nat.reduceSub, ne_eq, not_false_eq_true, not_true_eq_false, and_self, and_true, true_and, or_self, or_true, true_or, or_false, false_or, if_true, if_false, reduceIte, reduceCtorEq, implies_true, ite_self, ite_not, k15, h5, h6, kh0 he, c32t he hb hd]
  exact l
/-- where the search ends: nowhere, or behind a pulse from a row in order -/
theorem nhF_end {z : Int} : ∀ (r k : Nat) (u : Un), GA u.1 n m o → (0 ≤ u.1 3 ∧ LX u.1) → ((nhF n m o z r k u).1 = -1 ∨ ∃ u' : Un, GA u'.1 n m o ∧ 0 ≤ u'.1 3 ∧ u'.1 3 ≤ u.1 3 + r ∧ LX u'.1 ∧ nhT z (puU n m o u') ∧ (nhF n m o z r k u).2 = puU n m o u' ∧ 0 ≤ (nhF n m o z r k u).1 ∧ (nhF n m o z r k u).1 < k + r)
  | 0, k, u, _, _ => Or.inl rfl
  | r + 1, k, u, hG, hX => by
    by_cases h : nhT z (puU n m o u)
    · rw [nhF_y h]
      exact Or.inr ⟨u, hG, hX.1, by omega, hX.2, h, rfl, by show 0 ≤ (k : Int); omega, by show (k : Int) < k + ((r + 1 : Nat) : Int); omega⟩
    · rw [nhF_n h]
      have e3 := puU_3 hG
      rcases nhF_end (z := z) r (k + 1) (puU n m o u) (puU_G hG) ⟨by omega, puU_LX hG hX.1 hX.2⟩ with h1 | ⟨u', h1, h2, h3, h4, h5, h6, h7, h8⟩
      · exact Or.inl h1
      · exact Or.inr ⟨u', h1, h2, by omega, h4, h5, h6, h7, by omega⟩
end S65
