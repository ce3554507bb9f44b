/-! BITS: four bytes packed and unpacked; draws -/
theorem s8_c : ((Int32.ofInt 8 &&& 31).toBitVec.smod 32) = 8#32 := by decide
theorem ofI_nat {n : Nat} (h : n < 4294967296) : (Int32.ofInt (n : Int)).toBitVec.toNat = n := by
  rw [Int32.toBitVec_ofInt, BitVec.toNat_ofInt]
  omega
theorem i32_ext {a b : Int32} (h : a.toBitVec.toNat = b.toBitVec.toNat) : a = b := Int32.toBitVec_inj.mp (BitVec.eq_of_toNat_eq h)
theorem sh8 {n : Nat} (h : n < 8388608) : Int32.ofInt (n : Int) <<< (Int32.ofInt 8 &&& 31) = Int32.ofInt ((n * 256 : Nat) : Int) := by
  refine i32_ext ?_
  rw [Int32.toBitVec_shiftLeft, s8_c, ofI_nat (by omega), BitVec.shiftLeft_eq', BitVec.toNat_shiftLeft, ofI_nat (by omega), show (8#32).toNat = 8 by decide, Nat.shiftLeft_eq]
  omega
theorem or8 {n b : Nat} (hb : b < 256) (h : n < 8388608) : Int32.ofInt ((n * 256 : Nat) : Int) ||| Int32.ofInt (b : Int) = Int32.ofInt ((n * 256 + b : Nat) : Int) := by
  refine i32_ext ?_
  rw [Int32.toBitVec_or, BitVec.toNat_or, ofI_nat (by omega), ofI_nat (by omega), ofI_nat (by omega)]
  have := Nat.shiftLeft_add_eq_or_of_lt (i := 8) (b := b) (by omega) n
  rw [Nat.shiftLeft_eq] at this
  exact this.symm
theorem sr_n {n : Nat} (h : n < 2147483648) {s : Nat} {x : Int32} (hx : (x.toBitVec.smod 32).toNat = s) : Int32.ofInt (n : Int) >>> x = Int32.ofInt ((n / 2 ^ s : Nat) : Int) := by
  refine i32_ext ?_
  have hle : n / 2 ^ s ≤ n := Nat.div_le_self _ _
  have hm : (Int32.ofInt (n : Int)).toBitVec.msb = false := by
    rw [BitVec.msb_eq_false_iff_two_mul_lt, ofI_nat (by omega)]
    omega
  rw [Int32.toBitVec_shiftRight, BitVec.sshiftRight_eq', BitVec.sshiftRight_eq_of_msb_false hm, BitVec.toNat_ushiftRight, ofI_nat (by omega), ofI_nat (by omega), hx, Nat.shiftRight_eq_div_pow]
theorem dr_n (x : Int32) : ∃ a : Nat, a < 2147483648 ∧ x &&& Int32.ofInt 2147483647 = Int32.ofInt (a : Int) := by
  refine ⟨(x &&& Int32.ofInt 2147483647).toBitVec.toNat, ?_, ?_⟩
  · rw [Int32.toBitVec_and, BitVec.toNat_and]
    have : x.toBitVec.toNat &&& (Int32.ofInt 2147483647).toBitVec.toNat ≤ (Int32.ofInt 2147483647).toBitVec.toNat := Nat.and_le_right
    have h2 : (Int32.ofInt 2147483647).toBitVec.toNat = 2147483647 := by decide
    omega
  · refine i32_ext ?_
    rw [ofI_nat (BitVec.isLt _)]
theorem i8_n {n : Nat} (h : n % 256 < 128) : vp_nar .byte (Int32.ofInt (n : Int)).toInt8.toInt32 = Int32.ofInt ((n % 256 : Nat) : Int) := by
  have h1 : ∀ k : Nat, k < 128 → vp_nar .byte (Int8.ofInt ((k : Nat) : Int)).toInt32 = Int32.ofInt ((k : Nat) : Int) := by decide +kernel
  have h2 : Int8.ofInt (n : Int) = Int8.ofInt ((n % 256 : Nat) : Int) := by
    refine Int8.toBitVec_inj.mp (BitVec.eq_of_toNat_eq ?_)
    rw [Int8.toBitVec_ofInt, Int8.toBitVec_ofInt, BitVec.toNat_ofInt, BitVec.toNat_ofInt]
    omega
  rw [Int32.toInt8_ofInt, h2]
  exact h1 _ h
/-- four ASCII bytes packed, and each byte again -/
theorem pk4_n {a b c e : Nat} (ha : a < 128) (hb : b < 128) (hc : c < 128) (he : e < 128) : pk4 a b c e = Int32.ofInt ((((a * 256 + b) * 256 + c) * 256 + e : Nat) : Int) := by
  unfold pk4
  rw [show (Int32.ofInt 0 : Int32) = Int32.ofInt ((0 : Nat) : Int) from rfl, sh8 (by omega), or8 (by omega) (by omega), sh8 (by omega), or8 (by omega) (by omega), sh8 (by omega), or8 (by omega) (by omega), sh8 (by omega), or8 (by omega) (by omega)]
  rw [show 0 * 256 + a = a by omega]
theorem bt_n {n : Nat} (h : n < 2147483648) {s : Nat} (hx : ((Int32.ofInt (s : Int) &&& 31).toBitVec.smod 32).toNat = s) (hn : n / 2 ^ s % 256 < 128) : bt (Int32.ofInt (n : Int)) s = Int32.ofInt ((n / 2 ^ s % 256 : Nat) : Int) := by
  unfold bt
  rw [sr_n h hx]
  exact i8_n hn
theorem pk4_b {a b c e : Nat} (ha : a < 128) (hb : b < 128) (hc : c < 128) (he : e < 128) : bt (pk4 a b c e) 24 = Int32.ofInt (a : Int) ∧ bt (pk4 a b c e) 16 = Int32.ofInt (b : Int) ∧ bt (pk4 a b c e) 8 = Int32.ofInt (c : Int) ∧ bt (pk4 a b c e) 0 = Int32.ofInt (e : Int) := by
  rw [pk4_n ha hb hc he]
  have h := show (((a * 256 + b) * 256 + c) * 256 + e) < 2147483648 by omega
  have e1 : (((a * 256 + b) * 256 + c) * 256 + e) / 2 ^ 24 % 256 = a := by omega
  have e2 : (((a * 256 + b) * 256 + c) * 256 + e) / 2 ^ 16 % 256 = b := by omega
  have e3 : (((a * 256 + b) * 256 + c) * 256 + e) / 2 ^ 8 % 256 = c := by omega
  have e4 : (((a * 256 + b) * 256 + c) * 256 + e) / 2 ^ 0 % 256 = e := by omega
  refine ⟨?_, ?_, ?_, ?_⟩
  · have := bt_n h (s := 24) (by decide) (by omega)
    rw [e1] at this; exact this
  · have := bt_n h (s := 16) (by decide) (by omega)
    rw [e2] at this; exact this
  · have := bt_n h (s := 8) (by decide) (by omega)
    rw [e3] at this; exact this
  · have := bt_n h (s := 0) (by decide) (by omega)
    rw [e4] at this; exact this
/-! draws -/
/-- what the script gives for draw k among n -/
def drX (L : Nat) (xs : Nat → Int32) (k : Nat) : Nat := (if k < L then xs k &&& Int32.ofInt 2147483647 else Int32.ofInt 0 &&& Int32.ofInt 2147483647).toBitVec.toNat
def dr (L : Nat) (xs : Nat → Int32) (k n : Nat) : Nat := drX L xs k % n
theorem dr_lt {L k n : Nat} {xs : Nat → Int32} (h : 0 < n) : dr L xs k n < n := Nat.mod_lt _ h
theorem drX_e {L k : Nat} {xs : Nat → Int32} : drX L xs k < 2147483648 ∧ (if k < L then xs k else Int32.ofInt 0) &&& Int32.ofInt 2147483647 = Int32.ofInt (drX L xs k : Int) := by
  have e : drX L xs k = ((if k < L then xs k else Int32.ofInt 0) &&& Int32.ofInt 2147483647).toBitVec.toNat := by
    unfold drX
    by_cases h : k < L
    · rw [if_pos h, if_pos h]
    · rw [if_neg h, if_neg h]
  obtain ⟨a, h1, h2⟩ := dr_n (if k < L then xs k else Int32.ofInt 0)
  rw [e, h2, ofI_nat (by omega)]
  exact ⟨h1, rfl⟩
section S9C
variable {N : NX} {w : WX} {d t : Nat} {I : Nat → Nat → Int32} {L : Nat → Nat → Int64} {D : Nat → Nat → UInt64} {Q : Rs → St → Prop} {xs : Nat → Int32}
theorem k0 {N : NX} : KH N 0 = (19, N.1) := nr rfl
theorem c147 {k n : Nat} (hx : I 0 = xs) (hL : N.1 ≤ 260) (hk : k ≤ 1000) (hn : 0 < n ∧ n ≤ 1000000) : Wp d 147 0 [some (.ref 0), some (.int (Int32.ofInt (k : Int))), some (.int (Int32.ofInt (n : Int)))] [] (mk N t w I L D) Q = Q (.inl (some (.int (Int32.ofInt (dr N.1 xs k n : Int))))) (mk N t w I L D) := by
  have g0 : ¬ (Int32.ofInt (n : Int) = Int32.ofInt 0) := by rw [o_eq (by omega)]; omega
  have hd := drX_e (L := N.1) (k := k) (xs := xs)
  unfold dr
  rw [← hx] at hd ⊢
  by_cases h : k < N.1
  · rw [if_pos h] at hd
    simp only [w147_0, w147_1, w147_2, w147_2q, w147_3, w147_6, w147_7, w147_8, w147_9, w147_12, w147_13, w147_15, w147_16, w147_17, w147_18, kn_s, kn_n, zh_mk, zR_mk, zI_mk, zL_mk, zD_mk, wI_mk, wL_mk, wD_mk, zT_mk, zC_mk, kill_i, kill_r, kill_0, kill_n, kill_l, kill_q, zzk_r, zzk_0, zzk_q, zcat_r, zcat_i, zcat_0, zcat_q, cats_0, cats_i, cats_r, cats_l, cats_d, cats_f, cats_q, cats_n, rv_s, rv_0, Nat.reduceAdd, Nat.reduceLeDiff, Nat.reduceEqDiff, Nat.add_zero, Nat.reduceMul, Nat.reduceSub, ne_eq, not_false_eq_true, not_true_eq_false, and_self, and_true, true_and, or_self, or_true, true_or, or_false, false_or, if_true, if_false, reduceIte, reduceCtorEq, implies_true, ite_self, ite_not, k0, o_ofN, o_lt (a := (k : Int)) (b := (N.1 : Int)) (by omega), show (k : Int) < (N.1 : Int) by omega, o_ixn (j := k) (n := N.1) (by omega), o_tnn (j := k) (by omega), hd.2, g0, o_rem (x := drX N.1 (I 0) k) (y := n) hd.1 (by omega)]
  · rw [if_neg h] at hd
    simp only [w147_0, w147_1, w147_2, w147_2q, w147_3, w147_6, w147_7, w147_8, w147_9, w147_12, w147_13, w147_15, w147_16, w147_17, w147_18, kn_s, kn_n, zh_mk, zR_mk, zI_mk, zL_mk, zD_mk, wI_mk, wL_mk, wD_mk, zT_mk, zC_mk, kill_i, kill_r, kill_0, kill_n, kill_l, kill_q, zzk_r, zzk_0, zzk_q, zcat_r, zcat_i, zcat_0, zcat_q, cats_0, cats_i, cats_r, cats_l, cats_d, cats_f, cats_q, cats_n, rv_s, rv_0, Nat.reduceAdd, Nat.reduceLeDiff, Nat.reduceEqDiff, Nat.add_zero, Nat.reduceMul, Nat.reduceSub, ne_eq, not_false_eq_true, not_true_eq_false, and_self, and_true, true_and, or_self, or_true, true_or, or_false, false_or, if_true, if_false, reduceIte, reduceCtorEq, implies_true, ite_self, ite_not, k0, o_ofN, o_lt (a := (k : Int)) (b := (N.1 : Int)) (by omega), show ¬ ((k : Int) < (N.1 : Int)) by omega, hd.2, g0, o_rem (x := drX N.1 (I 0) k) (y := n) hd.1 (by omega)]
theorem c150 {k : Nat} {σ : St} (h : k ≤ 20) : Wp d 150 0 [some (.int (Int32.ofInt (k : Int)))] [] σ Q = Q (.inl (some (.int (Int32.ofInt (97 + (k : Int)))))) σ := by
  simp only [w150_0, w150_2, w150_3, w150_4, w150_5, kn_s, kn_n, zh_mk, zR_mk, zI_mk, zL_mk, zD_mk, wI_mk, wL_mk, wD_mk, zT_mk, zC_mk, kill_i, kill_r, kill_0, kill_n, kill_l, kill_q, zzk_r, zzk_0, zzk_q, zcat_r, zcat_i, zcat_0, zcat_q, cats_0, cats_i, cats_r, cats_l, cats_d, cats_f, cats_q, cats_n, rv_s, rv_0, Nat.reduceAdd, Nat.reduceLeDiff, Nat.reduceEqDiff, Nat.add_zero, Nat.reduceMul, Nat.reduceSub, ne_eq, not_false_eq_true, not_true_eq_false, and_self, and_true, true_and, or_self, or_true, true_or, or_false, false_or, if_true, if_false, reduceIte, reduceCtorEq, implies_true, ite_self, ite_not, o_add, o_sub, o_mul, o_neg, q_add, q_sub, q_mul, q_neg, o_32, cast_s, show (Int32.ofInt (97 + (k : Int))).toUInt32 % 65536 = (Int32.ofInt (97 + (k : Int))).toUInt32 from by have := ch_e (97 + k) (by omega); rw [show (((97 + k : Nat)) : Int) = 97 + (k : Int) by omega] at this; exact this, show (Int32.ofInt (97 + (k : Int))).toUInt32.toInt32 = Int32.ofInt (97 + (k : Int)) from rfl, ch_n (z := 97 + (k : Int)) (by omega)]
end S9C
