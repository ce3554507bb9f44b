/-! CONTRACTS of the reference: what is bounced at; hits -/
/-- where the hits of a pair are counted -/
def HH (a b : Nat) : Nat := 118 + 10 * a + b
/-- the row behind a bounce at what stands at c -/
def btA (α : Nat → Int) (m i : Nat) (c : Int) : Nat → Int :=
  if pAt α m c = -1 then (if c < 0 then boA (up1 α 10 (α 10 + 1)) i (α 8) else boA (up1 α 11 (α 11 + 1)) i (α 9))
  else boA (up1 α (P3 (pAt α m c).toNat 2) (α (P3 (pAt α m c).toNat 2) + 1)) i (α (P3 (pAt α m c).toNat 1))
section S26
variable {N : NX} {w : WX} {d t n m : Nat} {I : Nat → Nat → Int32} {L : Nat → Nat → Int64} {D : Nat → Nat → UInt64} {Q : Rs → St → Prop} {α : Nat → Int} {f : Nat → Int32}
/-- the parts of a hit: the other's weight by the common divisor -/
def gW (a b : Int) : Int := ((Nat.gcd a.toNat b.toNat : Nat) : Int)
def paA (a b : Int) : Int := b / gW a b
def paC (a b : Nat) : Bool := decide (1 ≤ Nat.gcd a b) && decide (Nat.gcd a b ≤ 20) && decide (1 ≤ b / Nat.gcd a b) && decide (b / Nat.gcd a b ≤ 20) && decide (1 ≤ a / Nat.gcd a b) && decide (a / Nat.gcd a b ≤ 20)
theorem paD : ∀ a, a < 20 → ∀ b, b < 20 → paC (a + 1) (b + 1) = true := by decide +kernel
theorem paN (a : Nat) (ha : a < 21) (b : Nat) (hb : b < 21) (h1 : 1 ≤ a) (h2 : 1 ≤ b) : 1 ≤ Nat.gcd a b ∧ Nat.gcd a b ≤ 20 ∧ 1 ≤ b / Nat.gcd a b ∧ b / Nat.gcd a b ≤ 20 ∧ 1 ≤ a / Nat.gcd a b ∧ a / Nat.gcd a b ≤ 20 := by
  have h := paD (a - 1) (by omega) (b - 1) (by omega)
  rw [Nat.sub_add_cancel h1, Nat.sub_add_cancel h2] at h
  simp only [paC, Bool.and_eq_true, decide_eq_true_eq] at h
  omega
theorem pa_b {a b : Int} (ha : 1 ≤ a ∧ a ≤ 20) (hb : 1 ≤ b ∧ b ≤ 20) : (1 ≤ gW a b ∧ gW a b ≤ 20) ∧ (1 ≤ paA a b ∧ paA a b ≤ 20) ∧ (1 ≤ paA b a ∧ paA b a ≤ 20) ∧ a / gW a b = paA b a := by
  obtain ⟨x, rfl⟩ : ∃ x : Nat, a = x := ⟨a.toNat, by omega⟩
  obtain ⟨y, rfl⟩ : ∃ y : Nat, b = y := ⟨b.toNat, by omega⟩
  have h := paN x (by omega) y (by omega) (by omega) (by omega)
  unfold paA gW
  rw [Int.toNat_natCast, Int.toNat_natCast, Nat.gcd_comm y x, ← Int.natCast_ediv, ← Int.natCast_ediv]
  omega
/-- the k of a hit: as long as a bound is passed it is less by 1 -/
def kD (sl sr pl pr : Int) : Nat → Int
  | 0 => 0
  | k + 1 => if sl - ((k + 1 : Nat) : Int) * pl < -60 ∨ 60 < sr + ((k + 1 : Nat) : Int) * pr then kD sl sr pl pr k else ((k + 1 : Nat) : Int)
theorem kD_s {sl sr pl pr : Int} {k : Nat} : kD sl sr pl pr (k + 1) = if sl - ((k + 1 : Nat) : Int) * pl < -60 ∨ 60 < sr + ((k + 1 : Nat) : Int) * pr then kD sl sr pl pr k else ((k + 1 : Nat) : Int) := nr rfl
theorem kD_ok {sl sr pl pr : Int} (hl : -60 ≤ sl ∧ sl ≤ 60) (hr : -60 ≤ sr ∧ sr ≤ 60) (h1 : 1 ≤ pl) (h2 : 1 ≤ pr) : ∀ k : Nat, 0 ≤ kD sl sr pl pr k ∧ kD sl sr pl pr k ≤ k ∧ (-60 ≤ sl - kD sl sr pl pr k * pl ∧ sl - kD sl sr pl pr k * pl ≤ 60) ∧ (-60 ≤ sr + kD sl sr pl pr k * pr ∧ sr + kD sl sr pl pr k * pr ≤ 60)
  | 0 => by
    show 0 ≤ (0 : Int) ∧ (0 : Int) ≤ ((0 : Nat) : Int) ∧ (-60 ≤ sl - 0 * pl ∧ sl - 0 * pl ≤ 60) ∧ (-60 ≤ sr + 0 * pr ∧ sr + 0 * pr ≤ 60)
    rw [Int.zero_mul, Int.zero_mul]
    omega
  | k + 1 => by
    rw [kD_s]
    by_cases h : sl - ((k + 1 : Nat) : Int) * pl < -60 ∨ 60 < sr + ((k + 1 : Nat) : Int) * pr
    · rw [if_pos h]
      have := kD_ok hl hr h1 h2 k
      omega
    · rw [if_neg h]
      have a1 : 0 ≤ ((k + 1 : Nat) : Int) * pl := Int.mul_nonneg (by omega) (by omega)
      have a2 : 0 ≤ ((k + 1 : Nat) : Int) * pr := Int.mul_nonneg (by omega) (by omega)
      omega
/-- from where it is counted down -/
def kS (sl sr pl pr : Int) : Nat := (if 1 < 2 * (sl - sr) / (pl + pr) then 2 * (sl - sr) / (pl + pr) else 1).toNat
def kA (sl sr wl wr : Int) : Int := kD sl sr (paA wl wr) (paA wr wl) (kS sl sr (paA wl wr) (paA wr wl))
theorem kS_b {sl sr pl pr : Int} (hl : -60 ≤ sl ∧ sl ≤ 60) (hr : -60 ≤ sr ∧ sr ≤ 60) (hlt : sr < sl) (h1 : 1 ≤ pl) (h2 : 1 ≤ pr) : 1 ≤ kS sl sr pl pr ∧ kS sl sr pl pr ≤ 240 ∧ 0 ≤ 2 * (sl - sr) / (pl + pr) ∧ 2 * (sl - sr) / (pl + pr) ≤ 240 := by
  have a1 : 0 ≤ 2 * (sl - sr) / (pl + pr) := Int.ediv_nonneg (by omega) (by omega)
  have a2 : 2 * (sl - sr) / (pl + pr) ≤ 2 * (sl - sr) := Int.ediv_le_self _ (by omega)
  unfold kS
  split <;> omega
theorem kA_b {sl sr wl wr : Int} (hl : -60 ≤ sl ∧ sl ≤ 60) (hr : -60 ≤ sr ∧ sr ≤ 60) (hlt : sr < sl) (ha : 1 ≤ wl ∧ wl ≤ 20) (hb : 1 ≤ wr ∧ wr ≤ 20) : (0 ≤ kA sl sr wl wr ∧ kA sl sr wl wr ≤ 120) ∧ (-60 ≤ sl - kA sl sr wl wr * paA wl wr ∧ sl - kA sl sr wl wr * paA wl wr ≤ 60) ∧ (-60 ≤ sr + kA sl sr wl wr * paA wr wl ∧ sr + kA sl sr wl wr * paA wr wl ≤ 60) := by
  have hp := pa_b ha hb
  have h := kD_ok hl hr hp.2.1.1 hp.2.2.1.1 (kS sl sr (paA wl wr) (paA wr wl))
  have h5 : kA sl sr wl wr ≤ kA sl sr wl wr * paA wl wr := by
    have := Int.mul_le_mul_of_nonneg_left hp.2.1.1 h.1
    rw [Int.mul_one] at this
    exact this
  unfold kA at h5 ⊢
  omega
end S26
