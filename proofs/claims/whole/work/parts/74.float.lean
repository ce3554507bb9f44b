/-! DOUBLES AND FLOATS: which quotients are no NaN -/
def FOK (f : FP.Core.Fmt) : Prop := 1 ≤ f.p ∧ f.qmin ≤ 1 - (f.p : Int) ∧ 0 ≤ f.qmax ∧ f.qmax - f.qmin + 3 ≤ (f.exps : Int) ∧ 2 * f.tails = 2 ^ f.p
theorem FOK.p1 {f : FP.Core.Fmt} (h : FOK f) : 1 ≤ f.p := h.1
theorem FOK.q1 {f : FP.Core.Fmt} (h : FOK f) : f.qmin ≤ 1 - (f.p : Int) := h.2.1
theorem FOK.q2 {f : FP.Core.Fmt} (h : FOK f) : 0 ≤ f.qmax := h.2.2.1
theorem FOK.q3 {f : FP.Core.Fmt} (h : FOK f) : f.qmax - f.qmin + 3 ≤ (f.exps : Int) := h.2.2.2.1
theorem FOK.t1 {f : FP.Core.Fmt} (h : FOK f) : 2 * f.tails = 2 ^ f.p := h.2.2.2.2
theorem fok64 : FOK FP.Core.b64 := ⟨by decide +kernel, by decide +kernel, by decide +kernel, by decide +kernel, by decide +kernel⟩
theorem fok32 : FOK FP.Core.b32 := ⟨by decide +kernel, by decide +kernel, by decide +kernel, by decide +kernel, by decide +kernel⟩
section S74
variable {f : FP.Core.Fmt}
theorem fp_tpos (h : FOK f) : 0 < f.tails := by
  have := h.t1
  have h2 : 0 < 2 ^ f.p := Nat.pow_pos (by omega)
  omega
theorem fp_mod {s : Bool} {e t : Nat} (he : e < f.exps) (ht : t < f.tails) : FP.Core.assemble f s e t % (f.exps * f.tails) = e * f.tails + t := by
  have hlt : e * f.tails + t < f.exps * f.tails := by
    have h1 : (e + 1) * f.tails ≤ f.exps * f.tails := Nat.mul_le_mul_right _ he
    rw [Nat.add_mul, Nat.one_mul] at h1
    omega
  unfold FP.Core.assemble
  rw [Nat.add_mul, Nat.mul_assoc, Nat.add_assoc, Nat.add_comm (s.toNat * _), Nat.add_mul_mod_self_right, Nat.mod_eq_of_lt hlt]
theorem fp_settle (h : FOK f) {s : Bool} {C : Nat} {q : Int} (hq : f.qmin ≤ q) : FP.Core.encode f (FP.Core.settle f s C q) % (f.exps * f.tails) ≤ (f.exps - 1) * f.tails := by
  have hT := fp_tpos h
  have h1 := h.t1
  have h3 := h.q3
  have hq12 := h.q1
  have hq2 := h.q2
  have b : ∀ (C : Nat) (q : Int), C < 2 ^ f.p → f.qmin ≤ q → FP.Core.encode f (FP.Core.bound f s C q) % (f.exps * f.tails) ≤ (f.exps - 1) * f.tails := by
    intro C q hC hq
    have bd : ∀ e t : Nat, e < f.exps - 1 → t < f.tails → e * f.tails + t ≤ (f.exps - 1) * f.tails := fun e t he ht => by
      have h4 : (e + 1) * f.tails ≤ (f.exps - 1) * f.tails := Nat.mul_le_mul_right _ he
      rw [Nat.add_mul, Nat.one_mul] at h4
      omega
    unfold FP.Core.bound
    by_cases g : q ≤ f.qmax
    · rw [if_pos g]
      show (if C < f.tails then FP.Core.assemble f s 0 C else FP.Core.assemble f s ((q - f.qmin).toNat + 1) (C - f.tails)) % _ ≤ _
      by_cases g2 : C < f.tails
      · rw [if_pos g2, fp_mod (by omega) g2]
        exact bd 0 C (by omega) g2
      · rw [if_neg g2, fp_mod (by omega) (by omega)]
        exact bd _ _ (by omega) (by omega)
    · rw [if_neg g]
      show FP.Core.assemble f s (f.exps - 1) 0 % _ ≤ _
      rw [fp_mod (by omega) hT]
      exact Nat.le_refl _
  unfold FP.Core.settle
  by_cases g : C < 2 ^ f.p
  · rw [if_pos g]; exact b C q g hq
  · rw [if_neg g]; exact b _ _ (by omega) (by omega)
theorem fp_rr (h : FOK f) {s : Bool} {num den : Nat} {e : Int} : FP.Core.encode f (FP.Core.roundRatio f s num den e) % (f.exps * f.tails) ≤ (f.exps - 1) * f.tails := by
  have hT := fp_tpos h
  have h3 := h.q3
  have hq12 := h.q1
  have hq2 := h.q2
  unfold FP.Core.roundRatio
  by_cases g : num = 0
  · rw [if_pos g]
    show (if 0 < f.tails then FP.Core.assemble f s 0 0 else _) % _ ≤ _
    rw [if_pos hT, fp_mod (by omega) hT]
    omega
  · rw [if_neg g]
    exact fp_settle h (Int.le_max_left _ _)
theorem fp_rat (h : FOK f) {s : Bool} {i : Nat} (h0 : 0 < i) (hi : i < 2 ^ f.p) : ∃ (c : Nat) (q : Int), FP.Core.roundRatio f s i 1 0 = .fin s c q ∧ f.tails ≤ c ∧ c < 2 * f.tails ∧ f.qmin ≤ q ∧ q ≤ f.qmax := by
  have h1 := h.t1
  have hp := h.p1
  have hq1 := h.q1
  have hq2 := h.q2
  have hl : i.log2 < f.p := (Nat.log2_lt (by omega)).2 hi
  have hle : 2 ^ i.log2 ≤ i := Nat.log2_self_le (by omega)
  have hlt : i < 2 ^ (i.log2 + 1) := Nat.lt_log2_self
  have hlead : FP.Core.leading i 1 = (i.log2 : Int) := by
    unfold FP.Core.leading
    have e1 : Nat.log2 1 = 0 := by decide
    rw [e1]
    have e2 : ((i.log2 : Int) - ((0 : Nat) : Int)).toNat = i.log2 := by omega
    have e3 : (-((i.log2 : Int) - ((0 : Nat) : Int))).toNat = 0 := by omega
    simp only [e2, e3, Nat.pow_zero, Nat.mul_one, Nat.one_mul]
    rw [if_pos hle]
    omega
  have hq : FP.Core.quantum f i 1 0 = (i.log2 : Int) - ((f.p : Int) - 1) := by
    unfold FP.Core.quantum
    rw [hlead]
    omega
  have e1 : ((i.log2 : Int) - ((f.p : Int) - 1) - 0).toNat = 0 := by omega
  have e2 : (0 - ((i.log2 : Int) - ((f.p : Int) - 1))).toNat = f.p - 1 - i.log2 := by omega
  have hc1 : f.tails ≤ i * 2 ^ (f.p - 1 - i.log2) := by
    show 2 ^ (f.p - 1) ≤ _
    calc 2 ^ (f.p - 1) = 2 ^ i.log2 * 2 ^ (f.p - 1 - i.log2) := by rw [← Nat.pow_add]; congr 1; omega
      _ ≤ _ := Nat.mul_le_mul_right _ hle
  have hc2 : i * 2 ^ (f.p - 1 - i.log2) < 2 ^ f.p := by
    calc i * 2 ^ (f.p - 1 - i.log2) < 2 ^ (i.log2 + 1) * 2 ^ (f.p - 1 - i.log2) := Nat.mul_lt_mul_of_pos_right hlt (Nat.pow_pos (by omega))
      _ = 2 ^ f.p := by rw [← Nat.pow_add]; congr 1; omega
  refine ⟨i * 2 ^ (f.p - 1 - i.log2), (i.log2 : Int) - ((f.p : Int) - 1), ?_, hc1, by omega, by omega, by omega⟩
  have hn : ∀ m : Nat, FP.Core.nearest m (1 * 2 ^ 0) = m := fun m => by
    unfold FP.Core.nearest
    rw [show 1 * 2 ^ 0 = 1 from rfl, Nat.mod_one, Nat.div_one, if_pos (by omega)]
  unfold FP.Core.roundRatio
  rw [if_neg (by omega), hq]
  unfold FP.Core.roundAt FP.Core.unitsNum FP.Core.unitsDen
  rw [e1, e2, hn]
  unfold FP.Core.settle FP.Core.bound
  rw [if_pos hc2, if_pos (by omega)]
theorem fp_dec (h : FOK f) {e t : Nat} (he : 1 ≤ e) (he2 : e < f.exps - 1) (ht : t < f.tails) : FP.Core.decode f (FP.Core.assemble f false e t) = .fin false (f.tails + t) (f.qmin + ((e : Int) - 1)) := by
  have hT := fp_tpos h
  have ea : FP.Core.assemble f false e t = e * f.tails + t := by
    unfold FP.Core.assemble
    rw [Bool.toNat_false, Nat.zero_mul, Nat.zero_add]
  have eT : FP.Core.fieldT f (e * f.tails + t) = t := by
    unfold FP.Core.fieldT
    rw [Nat.add_comm, Nat.add_mul_mod_self_right, Nat.mod_eq_of_lt ht]
  have eq : (e * f.tails + t) / f.tails = e := by
    rw [Nat.mul_comm, Nat.mul_add_div hT, Nat.div_eq_of_lt ht, Nat.add_zero]
  have eE : FP.Core.fieldE f (e * f.tails + t) = e := by
    unfold FP.Core.fieldE
    rw [eq, Nat.mod_eq_of_lt (by omega)]
  have eS : FP.Core.fieldS f (e * f.tails + t) = false := by
    unfold FP.Core.fieldS
    rw [eq, Nat.div_eq_of_lt (by omega)]
    rfl
  unfold FP.Core.decode
  rw [ea, eE, if_neg (by omega), if_neg (by omega), eT, eS]
/-- a whole number's encoding -/
theorem fp_int (h : FOK f) (hd : FP.Core.decode f 0 = .fin false 0 f.qmin) {i : Nat} (hi : i < 2 ^ f.p) : FP.Core.fromInt f (i : Int) < f.exps * f.tails ∧ ∃ (c : Nat) (q : Int), FP.Core.decode f (FP.Core.fromInt f (i : Int)) = .fin false c q ∧ (0 < i → 0 < c) := by
  have hT := fp_tpos h
  have h3 := h.q3
  have hq1 := h.q1
  have hq2 := h.q2
  have he : FP.Core.fromInt f (i : Int) = FP.Core.encode f (FP.Core.roundRatio f false i 1 0) := by
    unfold FP.Core.fromInt FP.Core.ofInt
    rw [show decide ((i : Int) < 0) = false from decide_eq_false (by omega), Int.natAbs_natCast]
    rfl
  rw [he]
  by_cases h0 : i = 0
  · subst h0
    have e0 : FP.Core.encode f (FP.Core.roundRatio f false 0 1 0) = 0 := by
      unfold FP.Core.roundRatio
      rw [if_pos rfl]
      show (if 0 < f.tails then FP.Core.assemble f false 0 0 else _) = 0
      rw [if_pos hT]
      unfold FP.Core.assemble
      rw [Bool.toNat_false, Nat.zero_mul, Nat.zero_add, Nat.zero_mul]
    rw [e0]
    exact ⟨Nat.mul_pos (by omega) hT, 0, f.qmin, hd, fun h => h⟩
  · obtain ⟨c, q, e1, e2, e3, e4, e5⟩ := fp_rat h (s := false) (show 0 < i by omega) hi
    have e6 : FP.Core.encode f (FP.Core.roundRatio f false i 1 0) = FP.Core.assemble f false ((q - f.qmin).toNat + 1) (c - f.tails) := by
      rw [e1]
      show (if c < f.tails then _ else _) = _
      rw [if_neg (by omega)]
    rw [e6]
    refine ⟨?_, _, _, fp_dec h (by omega) (by omega) (by omega), fun _ => by omega⟩
    have := fp_mod (f := f) (s := false) (e := (q - f.qmin).toNat + 1) (t := c - f.tails) (by omega) (by omega)
    have h9 : ((q - f.qmin).toNat + 1 + 1) * f.tails ≤ f.exps * f.tails := Nat.mul_le_mul_right _ (by omega)
    rw [Nat.add_mul _ 1, Nat.one_mul] at h9
    unfold FP.Core.assemble
    rw [Bool.toNat_false, Nat.zero_mul, Nat.zero_add]
    omega
/-- the quotient -/
theorem fp_div (h : FOK f) {x y : Nat} {c d : Nat} {q r : Int} (hx : FP.Core.decode f x = .fin false c q) (hy : FP.Core.decode f y = .fin false d r) (hd : 0 < d) : FP.Core.div f x y % (f.exps * f.tails) ≤ (f.exps - 1) * f.tails := by
  unfold FP.Core.div
  rw [hx, hy]
  show FP.Core.encode f (if d = 0 then _ else FP.Core.roundRatio f (false != false) c d (q - r)) % _ ≤ _
  rw [if_neg (by omega)]
  exact fp_rr h
end S74
theorem g64 {n : Nat} (h : n % 9223372036854775808 ≤ 9218868437227405312) : UInt64.ofNat n &&& 0x7fffffffffffffff ≤ 0x7ff0000000000000 := by
  rw [UInt64.le_iff_toNat_le, UInt64.toNat_and, UInt64.toNat_ofNat']
  show n % 2 ^ 64 &&& (2 ^ 63 - 1) ≤ 9218868437227405312
  rw [Nat.and_two_pow_sub_one_eq_mod]
  omega
theorem g32 {n : Nat} (h : n % 2147483648 ≤ 2139095040) : UInt32.ofNat n &&& 0x7fffffff ≤ 0x7f800000 := by
  rw [UInt32.le_iff_toNat_le, UInt32.toNat_and, UInt32.toNat_ofNat']
  show n % 2 ^ 32 &&& (2 ^ 31 - 1) ≤ 2139095040
  rw [Nat.and_two_pow_sub_one_eq_mod]
  omega
theorem fp_i64 {i : Nat} (hi : i < 2147483648) : ∃ (c : Nat) (q : Int), FP.Core.decode FP.Core.b64 (FP.i2d (Int32.ofInt (i : Int))).toNat = .fin false c q ∧ (0 < i → 0 < c) := by
  have h := fp_int fok64 (by decide +kernel) (show i < 2 ^ FP.Core.b64.p by show i < 2 ^ 53; omega)
  have e : (FP.i2d (Int32.ofInt (i : Int))).toNat = FP.Core.fromInt FP.Core.b64 (i : Int) := by
    show (UInt64.ofNat (FP.Core.fromInt FP.Core.b64 (Int32.ofInt (i : Int)).toInt)).toNat = _
    rw [o_ti (by omega), UInt64.toNat_ofNat', Nat.mod_eq_of_lt]
    have h1 := h.1
    have : FP.Core.b64.exps * FP.Core.b64.tails = 9223372036854775808 := by decide +kernel
    omega
  rw [e]
  exact h.2
theorem fp_i32 {i : Nat} (hi : i < 16777216) : ∃ (c : Nat) (q : Int), FP.Core.decode FP.Core.b32 (FP.i2f (Int32.ofInt (i : Int))).toNat = .fin false c q ∧ (0 < i → 0 < c) := by
  have h := fp_int fok32 (by decide +kernel) (show i < 2 ^ FP.Core.b32.p from hi)
  have e : (FP.i2f (Int32.ofInt (i : Int))).toNat = FP.Core.fromInt FP.Core.b32 (i : Int) := by
    show (UInt32.ofNat (FP.Core.fromInt FP.Core.b32 (Int32.ofInt (i : Int)).toInt)).toNat = _
    rw [o_ti (by omega), UInt32.toNat_ofNat', Nat.mod_eq_of_lt]
    have h1 := h.1
    have : FP.Core.b32.exps * FP.Core.b32.tails = 2147483648 := by decide +kernel
    omega
  rw [e]
  exact h.2
/-- whole numbers divided -/
theorem nn64 {a b : Int} (ha : 0 ≤ a ∧ a < 2147483648) (hb : 0 < b ∧ b < 2147483648) : FP.ddiv (FP.i2d (Int32.ofInt a)) (FP.i2d (Int32.ofInt b)) &&& 0x7fffffffffffffff ≤ 0x7ff0000000000000 := by
  obtain ⟨a, rfl⟩ : ∃ n : Nat, a = (n : Int) := ⟨a.toNat, by omega⟩
  obtain ⟨b, rfl⟩ : ∃ n : Nat, b = (n : Int) := ⟨b.toNat, by omega⟩
  obtain ⟨c, q, h1, -⟩ := fp_i64 (i := a) (by omega)
  obtain ⟨d, r, h2, h3⟩ := fp_i64 (i := b) (by omega)
  have := fp_div fok64 h1 h2 (h3 (by omega))
  have e1 : FP.Core.b64.exps * FP.Core.b64.tails = 9223372036854775808 := by decide +kernel
  have e2 : (FP.Core.b64.exps - 1) * FP.Core.b64.tails = 9218868437227405312 := by decide +kernel
  rw [e1, e2] at this
  exact g64 this
theorem nn32 {a b : Int} (ha : 0 ≤ a ∧ a < 16777216) (hb : 0 < b ∧ b < 16777216) : FP.fdiv (FP.i2f (Int32.ofInt a)) (FP.i2f (Int32.ofInt b)) &&& 0x7fffffff ≤ 0x7f800000 := by
  obtain ⟨a, rfl⟩ : ∃ n : Nat, a = (n : Int) := ⟨a.toNat, by omega⟩
  obtain ⟨b, rfl⟩ : ∃ n : Nat, b = (n : Int) := ⟨b.toNat, by omega⟩
  obtain ⟨c, q, h1, -⟩ := fp_i32 (i := a) (by omega)
  obtain ⟨d, r, h2, h3⟩ := fp_i32 (i := b) (by omega)
  have := fp_div fok32 h1 h2 (h3 (by omega))
  have e1 : FP.Core.b32.exps * FP.Core.b32.tails = 2147483648 := by decide +kernel
  have e2 : (FP.Core.b32.exps - 1) * FP.Core.b32.tails = 2139095040 := by decide +kernel
  rw [e1, e2] at this
  exact g32 this
theorem dn32 {x : UInt32} (h : x &&& 0x7fffffff ≤ 0x7f800000) : FP.Core.decode FP.Core.b32 x.toNat ≠ .nan := by
  rw [UInt32.le_iff_toNat_le, UInt32.toNat_and] at h
  have h : x.toNat &&& (2 ^ 31 - 1) ≤ 2139095040 := h
  rw [Nat.and_two_pow_sub_one_eq_mod] at h
  have eT : FP.Core.fieldT FP.Core.b32 x.toNat = x.toNat % 8388608 := rfl
  have eE : FP.Core.fieldE FP.Core.b32 x.toNat = x.toNat / 8388608 % 256 := rfl
  have e1 : FP.Core.b32.exps - 1 = 255 := by decide +kernel
  unfold FP.Core.decode
  rw [eE, eT, e1]
  by_cases g : x.toNat / 8388608 % 256 = 255
  · rw [if_pos g, if_pos (by omega)]
    intro q; cases q
  · rw [if_neg g]
    split <;> (intro q; cases q)
theorem dn64 {x : UInt64} (h : x &&& 0x7fffffffffffffff ≤ 0x7ff0000000000000) : FP.Core.decode FP.Core.b64 x.toNat ≠ .nan := by
  rw [UInt64.le_iff_toNat_le, UInt64.toNat_and] at h
  have h : x.toNat &&& (2 ^ 63 - 1) ≤ 9218868437227405312 := h
  rw [Nat.and_two_pow_sub_one_eq_mod] at h
  have eT : FP.Core.fieldT FP.Core.b64 x.toNat = x.toNat % 4503599627370496 := rfl
  have eE : FP.Core.fieldE FP.Core.b64 x.toNat = x.toNat / 4503599627370496 % 2048 := rfl
  have e1 : FP.Core.b64.exps - 1 = 2047 := by decide +kernel
  unfold FP.Core.decode
  rw [eE, eT, e1]
  by_cases g : x.toNat / 4503599627370496 % 2048 = 2047
  · rw [if_pos g, if_pos (by omega)]
    intro q; cases q
  · rw [if_neg g]
    split <;> (intro q; cases q)
theorem nnfd {x : UInt32} (h : x &&& 0x7fffffff ≤ 0x7f800000) : FP.f2d x &&& 0x7fffffffffffffff ≤ 0x7ff0000000000000 := by
  have hd := dn32 h
  have e0 : FP.f2d x = UInt64.ofNat (FP.Core.convert FP.Core.b32 FP.Core.b64 x.toNat) := by
    unfold FP.f2d
    rw [if_neg]
    · rfl
    · show ¬ (decide (FP.Core.decode FP.Core.b32 x.toNat = .nan) = true)
      rw [decide_eq_true_eq]
      exact hd
  rw [e0]
  apply g64
  have e1 : FP.Core.b64.exps * FP.Core.b64.tails = 9223372036854775808 := by decide +kernel
  have e2 : (FP.Core.b64.exps - 1) * FP.Core.b64.tails = 9218868437227405312 := by decide +kernel
  unfold FP.Core.convert
  rw [← e1, ← e2]
  cases hx : FP.Core.decode FP.Core.b32 x.toNat with
  | nan => exact absurd hx hd
  | inf s =>
    show FP.Core.assemble FP.Core.b64 s (FP.Core.b64.exps - 1) 0 % _ ≤ _
    rw [fp_mod (by decide +kernel) (by decide +kernel)]
    exact Nat.le_refl _
  | fin s c q => exact fp_rr fok64
theorem cmp_self {z : Int} : compare z z = Ordering.eq := by
  show (if z < z then Ordering.lt else if z = z then Ordering.eq else Ordering.gt) = _
  rw [if_neg (Int.lt_irrefl z), if_pos rfl]
theorem dcmp_eq {x : UInt64} (h : x &&& 0x7fffffffffffffff ≤ 0x7ff0000000000000) : Op.cmpValue (FP.dcmp x x) .l = Int32.ofInt 0 := by
  have hd := dn64 h
  have e : FP.dcmp x x = some .eq := by
    show FP.Core.order (FP.Core.decode FP.Core.b64 x.toNat) (FP.Core.decode FP.Core.b64 x.toNat) = some .eq
    cases hx : FP.Core.decode FP.Core.b64 x.toNat with
    | nan => exact absurd hx hd
    | inf s => show some (compare _ _) = _; rw [cmp_self]
    | fin s c q => show some (compare _ _) = _; rw [cmp_self]
  rw [e]
  rfl
