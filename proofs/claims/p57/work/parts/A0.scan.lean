/-! THE BUILT TEXT, READ: tokens of lists of signs -/
def fT (T : List Int) : Nat → Int := fun j => T.getD j 0
def kcc (c : Int) : Nat := if c = 32 ∨ c = 10 then 4 else if 97 ≤ c ∧ c ≤ 122 then 1 else if 48 ≤ c ∧ c ≤ 57 then 2 else 3
def kh (R : List Int) : Nat := match R with
  | [] => 0
  | c :: _ => kcc c
theorem kcc_ne {c : Int} : kcc c ≠ 0 := by
  unfold kcc
  split
  · omega
  · split
    · omega
    · split <;> omega
/-- signs of the kind k ahead -/
def pl (k : Nat) : List Int → Nat
  | [] => 0
  | c :: R => if kcc c = k then pl k R + 1 else 0
theorem pl_le {k : Nat} : ∀ R : List Int, pl k R ≤ R.length
  | [] => Nat.le_refl _
  | c :: R => by
    unfold pl
    have := pl_le (k := k) R
    split
    · rw [List.length_cons]; omega
    · omega
theorem drop_len {T R : List Int} {p : Nat} (h : T.drop p = R) (hp : p ≤ T.length) : T.length = p + R.length := by
  rw [← h, List.length_drop]
  omega
theorem drop_f {T R : List Int} {p j : Nat} (h : T.drop p = R) : fT T (p + j) = R.getD j 0 := by
  unfold fT
  rw [← h, List.getD_eq_getElem?_getD, List.getD_eq_getElem?_getD, List.getElem?_drop]
theorem drop_s {T R : List Int} {c : Int} {p : Nat} (h : T.drop p = c :: R) : T.drop (p + 1) = R := by
  have : (T.drop p).drop 1 = R := by rw [h]; rfl
  rw [List.drop_drop] at this
  exact this
theorem drop_m {T A R : List Int} {p : Nat} (h : T.drop p = A ++ R) : T.drop (p + A.length) = R := by
  have : (T.drop p).drop A.length = R := by rw [h, List.drop_append_of_le_length (Nat.le_refl _), List.drop_length, List.nil_append]
  rw [List.drop_drop] at this
  exact this
theorem kd_h {T R : List Int} {p : Nat} (h : T.drop p = R) (hp : p ≤ T.length) : kd0 (fT T) T.length p = kh R := by
  have hl := drop_len h hp
  unfold kd0
  match R, h, hl with
  | [], h, hl =>
    rw [List.length_nil] at hl
    rw [if_pos (by omega)]
    rfl
  | c :: R, h, hl =>
    rw [List.length_cons] at hl
    have e : fT T p = c := by have := drop_f (j := 0) h; rw [Nat.add_zero] at this; exact this
    rw [if_neg (by omega), e]
    rfl
theorem exL_p {T : List Int} {k : Nat} (hk : k ≠ 0) : ∀ (R : List Int) (p : Nat), T.drop p = R → p ≤ T.length → exL (fT T) T.length k (T.length - p) p = p + pl k R
  | [], p, h, hp => by
    have hl := drop_len h hp
    rw [List.length_nil] at hl
    rw [show T.length - p = 0 by omega]
    rfl
  | c :: R, p, h, hp => by
    have hl := drop_len h hp
    rw [List.length_cons] at hl
    rw [show T.length - p = (T.length - (p + 1)) + 1 by omega, exL_s, kd_h h hp]
    unfold pl
    by_cases hc : kcc c = k
    · rw [if_pos hc, if_pos (show kh (c :: R) = k from hc), exL_p hk R (p + 1) (drop_s h) (by omega)]
      omega
    · rw [if_neg hc, if_neg (show ¬ (kh (c :: R) = k) from hc)]
      rfl
/-- the length of the token ahead -/
def tl (R : List Int) : Nat := if kh R = 0 then 0 else if kh R = 3 then 1 else pl (kh R) R
/-- behind the spaces -/
def sk (R : List Int) : List Int := R.drop (pl 4 R)
theorem tl_le (R : List Int) : tl R ≤ R.length := by
  unfold tl
  split
  · omega
  · split
    · match R with
      | [] => contradiction
      | c :: R => rw [List.length_cons]; omega
    · exact pl_le R
theorem tkS_p {T R : List Int} {p : Nat} (h : T.drop p = R) (hp : p ≤ T.length) : tkS (fT T) T.length p = p + pl 4 R := exL_p (by omega) R p h hp
theorem tkE_p {T R : List Int} {p : Nat} (h : T.drop p = R) (hp : p ≤ T.length) : tkE (fT T) T.length p = p + tl R := by
  unfold tkE tl
  rw [kd_h h hp]
  by_cases h0 : kh R = 0
  · rw [if_pos h0, if_pos h0, Nat.add_zero]
  · rw [if_neg h0, if_neg h0]
    by_cases h3 : kh R = 3
    · rw [if_pos h3, if_pos h3]
    · rw [if_neg h3, if_neg h3]
      match R, h, h0 with
      | [], h, h0 => exact absurd rfl h0
      | c :: R, h, h0 =>
        have hl := drop_len h hp
        rw [List.length_cons] at hl
        rw [exL_p h0 R (p + 1) (drop_s h) (by omega)]
        show p + 1 + pl (kcc c) R = p + (if kcc c = kcc c then pl (kcc c) R + 1 else 0)
        rw [if_pos rfl]
        omega
/-- the parser's state stands at the token that begins R -/
def CU (T : List Int) (P : PS) (R : List Int) : Prop := T.drop P.1 = R ∧ P.1 ≤ T.length ∧ P.2.2.1 = kh R ∧ P.2.1 = P.1 + tl R ∧ P.2.2.2.1 = 0
theorem CU_tok {T R : List Int} {p : Nat} {v : Int} (h : T.drop p = R) (hp : p ≤ T.length) : CU T (tok (fT T) T.length p v) (sk R) := by
  have hl := drop_len h hp
  have h1 := pl_le (k := 4) R
  have h2 : T.drop (p + pl 4 R) = sk R := by
    unfold sk
    rw [← h, List.drop_drop]
  have e : (tok (fT T) T.length p v).1 = p + pl 4 R := tkS_p h hp
  refine ⟨by rw [e]; exact h2, by rw [e]; omega, ?_, ?_, rfl⟩
  · show kd0 (fT T) T.length (tkS (fT T) T.length p) = _
    rw [tkS_p h hp]
    exact kd_h h2 (by omega)
  · rw [e]
    show tkE (fT T) T.length (tkS (fT T) T.length p) = _
    rw [tkS_p h hp]
    exact tkE_p h2 (by omega)
theorem CU_nx {T R : List Int} {P : PS} (h : CU T P R) : CU T (nxT (fT T) T.length P) (sk (R.drop (tl R))) := by
  obtain ⟨h1, h2, h3, h4, h5⟩ := h
  have hl := drop_len h1 h2
  have h6 := tl_le R
  unfold nxT
  rw [if_pos h5, h4]
  refine CU_tok ?_ (by omega)
  rw [← h1, List.drop_drop]
/-! lists of one kind -/
theorem pl_app {k : Nat} {R : List Int} (hR : kh R ≠ k) : ∀ A : List Int, (∀ c ∈ A, kcc c = k) → pl k (A ++ R) = A.length
  | [], _ => by
    show pl k R = 0
    match R, hR with
    | [], _ => rfl
    | c :: R, hR => exact if_neg hR
  | c :: A, h => by
    show (if kcc c = k then pl k (A ++ R) + 1 else 0) = _
    rw [if_pos (h c List.mem_cons_self), pl_app hR A (fun c hc => h c (List.mem_cons_of_mem _ hc)), List.length_cons]
theorem tl_app {k : Nat} (hk : k = 1 ∨ k = 2) {A R : List Int} (hA : A ≠ []) (h : ∀ c ∈ A, kcc c = k) (hR : kh R ≠ k) : kh (A ++ R) = k ∧ tl (A ++ R) = A.length := by
  have e : kh (A ++ R) = k := by
    match A, hA, h with
    | c :: A, _, h => exact h c List.mem_cons_self
  refine ⟨e, ?_⟩
  unfold tl
  rw [e, if_neg (by omega), if_neg (by omega)]
  exact pl_app hR A h
theorem drop_app {A R : List Int} : (A ++ R).drop A.length = R := by
  rw [List.drop_append_of_le_length (Nat.le_refl _), List.drop_length, List.nil_append]
theorem sk_0 {R : List Int} (h : kh R ≠ 4) : sk R = R := by
  unfold sk
  rw [show pl 4 R = 0 from pl_app (A := []) h (fun c hc => absurd hc List.not_mem_nil)]
  rfl
theorem sk_1 {R : List Int} (h : kh R ≠ 4) : sk (32 :: R) = R := by
  unfold sk
  rw [show pl 4 (32 :: R) = 1 from pl_app (A := [32]) h (fun c hc => by rw [List.mem_singleton.mp hc]; decide)]
  rfl
