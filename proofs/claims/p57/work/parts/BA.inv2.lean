/-! WHAT THE LAW HOLDS: the push through a pulse -/
theorem sumN_at {f g : Nat → Int} {i : Nat} : ∀ n, i < n → (∀ j, j < n → j ≠ i → f j = g j) → sumN f n = sumN g n + (f i - g i)
  | 0, h, _ => absurd h (Nat.not_lt_zero i)
  | n + 1, h, e => by
    rw [sumN_s, sumN_s]
    by_cases hi : i = n
    · subst hi
      rw [sumN_cg i (fun j hj => e j (by omega) (by omega))]
      omega
    · rw [sumN_at n (by omega) (fun j hj hji => e j (by omega) hji), e n (by omega) (by omega)]
      omega
theorem sumN_at2 {f g : Nat → Int} {l r n : Nat} (hl : l < n) (hr : r < n) (hlr : l ≠ r) (e : ∀ j, j < n → j ≠ l → j ≠ r → f j = g j) : sumN f n = sumN g n + (f l - g l) + (f r - g r) := by
  have h1 := sumN_at (f := fun j => if j = r then f r else g j) (g := g) n hr (fun j hj hjr => if_neg hjr)
  have h2 := sumN_at (f := f) (g := fun j => if j = r then f r else g j) n hl (fun j hj hjl => by
    by_cases hjr : j = r
    · rw [hjr, if_pos rfl]
    · rw [if_neg hjr]
      exact e j hj hjl hjr)
  rw [h2, h1, if_pos rfl, if_neg hlr]
  omega
theorem pa_e {a b : Int} (ha : 1 ≤ a ∧ a ≤ 20) (hb : 1 ≤ b ∧ b ≤ 20) : a * paA a b = b * paA b a := by
  obtain ⟨x, rfl⟩ : ∃ x : Nat, a = (x : Int) := ⟨a.toNat, by omega⟩
  obtain ⟨y, rfl⟩ : ∃ y : Nat, b = (y : Int) := ⟨b.toNat, by omega⟩
  have key : ∀ x, x < 21 → ∀ y, y < 21 → x * (y / Nat.gcd x y) = y * (x / Nat.gcd y x) := by decide +kernel
  have h := key x (by omega) y (by omega)
  unfold paA gW
  rw [Int.toNat_natCast, Int.toNat_natCast]
  have h' : ((x * (y / Nat.gcd x y) : Nat) : Int) = ((y * (x / Nat.gcd y x) : Nat) : Int) := by rw [h]
  rw [Int.natCast_mul, Int.natCast_mul, Int.natCast_ediv, Int.natCast_ediv] at h'
  exact h'
section SBA
variable {n m i l r b o' : Nat} {α β : Nat → Int} {first : Int} {o : Nat → Nat}
theorem B9_in {i j p q : Nat} (hp : p < 9) (hq : q < 9) (h : i ≠ j ∨ p ≠ q) : B9 i p ≠ B9 j q := by
  unfold B9
  omega
/-- the push when one speed is another -/
theorem push_at (hi : i < n) {v : Int} : pushA (up1 α (B9 i 1) v) n = pushA α n + α (B9 i 2) * (v - α (B9 i 1)) := by
  unfold pushA
  rw [sumN_at (g := fun i => α (B9 i 2) * α (B9 i 1)) n hi (fun j hj hji => by
    rw [up1_ne (B9_in (by omega) (by omega) (by omega)), up1_ne (B9_in (by omega) (by omega) (by omega))])]
  rw [up1_ne (B9_in (by omega) (by omega) (by omega)), up1_eq', Int.mul_sub]
/-- the log changes no push -/
theorem PU_lg (h : PU first α n) (hn : n ≤ 10) {x y z : Int} : PU first (lgA α x y z) n := by
  have e : ∀ k, k < 118 → k ≠ 4 → lgA α x y z k = α k := fun k hk h4 => by
    unfold lgA
    rw [up1_ne (by omega), up1_ne (by omega), up1_ne (by omega), up1_ne (by omega), up1_ne (by omega)]
    unfold shK
    rw [if_neg (by omega)]
  exact PU_cg h (fun j hj => ⟨e _ (by unfold B9; omega) (by unfold B9; omega), e _ (by unfold B9; omega) (by unfold B9; omega)⟩) (e 7 (by omega) (by omega)) (e 5 (by omega) (by omega))
/-- a key that no push speaks of -/
theorem PU_up (h : PU first α n) {k : Nat} {v : Int} (hk : k ≠ 5 ∧ k ≠ 7 ∧ ∀ j, j < n → k ≠ B9 j 1 ∧ k ≠ B9 j 2) : PU first (up1 α k v) n :=
  PU_cg h (fun j hj => ⟨up1_ne (fun e => (hk.2.2 j hj).1 e.symm), up1_ne (fun e => (hk.2.2 j hj).2 e.symm)⟩) (up1_ne (fun e => hk.2.1 e.symm)) (up1_ne (fun e => hk.1 e.symm))
theorem PU_bo (h : PU first α n) (hn : n ≤ 10) (hi : i < n) {st : Int} : PU first (boA α i st) n := by
  unfold boA
  refine PU_lg ?_ hn
  generalize bsA (α (B9 i 1)) st = v
  unfold PU at h ⊢
  have e : pushA (up1 (up1 (up1 (up1 α (B9 i 1) v) (B9 i 6) (α (B9 i 6) + 1)) 13 (α 13 + 1)) 5 (α 5 + α (B9 i 2) * (α (B9 i 1) - v))) n = pushA (up1 α (B9 i 1) v) n := pushA_cg fun j hj => ⟨by rw [up1_ne (by unfold B9; omega), up1_ne (by unfold B9; omega), up1_ne (B9_in (by omega) (by omega) (by omega))], by rw [up1_ne (by unfold B9; omega), up1_ne (by unfold B9; omega), up1_ne (B9_in (by omega) (by omega) (by omega))]⟩
  rw [e, push_at hi, up1_eq', up1_ne (by omega), up1_ne (by omega), up1_ne (by unfold B9; omega), up1_ne (by unfold B9; omega), h, Int.mul_sub, Int.mul_sub]
  omega
theorem PU_bt (h : PU first α n) (hn : n ≤ 10) (hi : i < n) {c : Int} (hm : m ≤ 4) : PU first (btA α m i c) n := by
  unfold btA
  split
  · split
    · exact PU_bo (PU_up h ⟨by omega, by omega, fun j hj => by unfold B9; omega⟩) hn hi
    · exact PU_bo (PU_up h ⟨by omega, by omega, fun j hj => by unfold B9; omega⟩) hn hi
  · rename_i hp
    have hr := pFind_rng (f := fun p => α (P3 p 0)) (c := c) m 0
    have hb : (pAt α m c).toNat < 4 := by
      have : pAt α m c < (0 : Nat) + m + (if m = 0 then 1 else 0) := hr.2
      by_cases h0 : m = 0
      · exfalso
        apply hp
        rw [h0]
        rfl
      · rw [if_neg h0] at this
        omega
    exact PU_bo (PU_up h ⟨by unfold P3; omega, by unfold P3; omega, fun j hj => by unfold P3 B9; omega⟩) hn hi
theorem PU_mv (h : PU first α n) (hn : n ≤ 10) {c : Int} : PU first (mvR α i c) n := by
  unfold mvR
  refine PU_up (PU_up (PU_up h ⟨by unfold B9; omega, by unfold B9; omega, fun j hj => ⟨B9_in (by omega) (by omega) (by omega), B9_in (by omega) (by omega) (by omega)⟩⟩) ⟨by unfold B9; omega, by unfold B9; omega, fun j hj => ⟨B9_in (by omega) (by omega) (by omega), B9_in (by omega) (by omega) (by omega)⟩⟩) ⟨by omega, by omega, fun j hj => by unfold B9; omega⟩
theorem PU_wt (h : PU first α n) : PU first (wtR α b) n := by
  unfold wtR
  refine PU_up (PU_up h ⟨by unfold B9; omega, by unfold B9; omega, fun j hj => ⟨B9_in (by omega) (by omega) (by omega), B9_in (by omega) (by omega) (by omega)⟩⟩) ⟨by omega, by omega, fun j hj => by unfold B9; omega⟩
theorem PU_sp (h : PU first α n) (hG : GA α n m o) (hl : l < n) (hr : r < n) (hlr : l ≠ r) : PU first (spR α l r) n := by
  have wl := (hG.1.2.2.2.2 l hl).2.2.1
  have wr := (hG.1.2.2.2.2 r hr).2.2.1
  have hp := pa_e wl wr
  unfold spR
  refine PU_up ?_ ⟨by omega, by omega, fun j hj => by unfold B9; omega⟩
  unfold PU at h ⊢
  rw [push_at hr, push_at hl, up1_ne (by unfold B9; omega), up1_ne (by unfold B9; omega), up1_ne (by unfold B9; omega), up1_ne (by unfold B9; omega), up1_ne (by unfold B9; omega), up1_ne (by unfold B9; omega), h]
  unfold hpl
  generalize hkA α l r = k
  have q1 : α (B9 l 2) * (α (B9 l 1) - k * paA (α (B9 l 2)) (α (B9 r 2)) - α (B9 l 1)) = - (k * (α (B9 l 2) * paA (α (B9 l 2)) (α (B9 r 2)))) := by
    rw [show α (B9 l 1) - k * paA (α (B9 l 2)) (α (B9 r 2)) - α (B9 l 1) = -(k * paA (α (B9 l 2)) (α (B9 r 2))) by omega, Int.mul_neg, Int.mul_left_comm]
  have q2 : α (B9 r 2) * (α (B9 r 1) + k * paA (α (B9 r 2)) (α (B9 l 2)) - α (B9 r 1)) = k * (α (B9 r 2) * paA (α (B9 r 2)) (α (B9 l 2))) := by
    rw [show α (B9 r 1) + k * paA (α (B9 r 2)) (α (B9 l 2)) - α (B9 r 1) = k * paA (α (B9 r 2)) (α (B9 l 2)) by omega, Int.mul_left_comm]
  rw [q1, q2, hp]
  omega
end SBA
