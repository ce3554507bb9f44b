/-! THE BUILT TEXT, READ: words, numbers, signs -/
def wlt (a : Nat) : List Int := [[98, 111, 120], [115, 116, 101, 97, 108], [112, 111, 115, 116], [98, 97, 108, 108], [97, 116], [115, 112, 101, 101, 100], [119, 101, 105, 103, 104, 116]].getD (a - 1) []
theorem wl_l : ∀ a, a < 8 → 1 ≤ a → wdL a = (wlt a).length ∧ wlt a ≠ [] ∧ (∀ c ∈ wlt a, kcc c = 1) ∧ ∀ j, j < wdL a → wdC a j = (wlt a).getD j 0 := by decide +kernel
def wne (a b : Nat) : Bool := wdL a != (wlt b).length || !((List.range (wdL a)).all fun j => wdC a j == (wlt b).getD j 0)
theorem wl_nb : ∀ a, a < 8 → 1 ≤ a → ∀ b, b < 8 → 1 ≤ b → a ≠ b → wne a b = true := by decide +kernel
theorem wl_ne (a : Nat) (ha : a < 8) (ha1 : 1 ≤ a) (b : Nat) (hb : b < 8) (hb1 : 1 ≤ b) (hab : a ≠ b) : wdL a ≠ (wlt b).length ∨ ¬ ∀ j, j < wdL a → wdC a j = (wlt b).getD j 0 := by
  have h := wl_nb a ha ha1 b hb hb1 hab
  unfold wne at h
  rw [Bool.or_eq_true] at h
  rcases h with h | h
  · exact Or.inl (bne_iff_ne.mp h)
  · refine Or.inr fun q => ?_
    rw [Bool.not_eq_true', ← Bool.not_eq_true, List.all_eq_true] at h
    exact h fun j hj => beq_iff_eq.mpr (q j (List.mem_range.mp hj))
theorem app_get {A R : List Int} {j : Nat} (h : j < A.length) : (A ++ R).getD j 0 = A.getD j 0 := by
  rw [List.getD_eq_getElem?_getD, List.getD_eq_getElem?_getD, List.getElem?_append_left h]
section SA1
variable {T R : List Int} {P : PS}
theorem CU_f {j : Nat} (h : CU T P R) : fT T (P.1 + j) = R.getD j 0 := drop_f h.1
/-- the token's letters are w -/
theorem iw_l {w : List Int} {a : Nat} (hw : w ≠ [] ∧ ∀ c ∈ w, kcc c = 1) (h : CU T P (w ++ R)) (hR : kh R ≠ 1) : (iw (fT T) a P = true) ↔ (w.length = wdL a ∧ ∀ j, j < wdL a → w.getD j 0 = wdC a j) := by
  obtain ⟨e1, e2⟩ := tl_app (Or.inl rfl) hw.1 hw.2 hR
  have e3 : P.2.1 - P.1 = w.length := by rw [h.2.2.2.1, e2]; omega
  unfold iw
  rw [decide_eq_true_eq, h.2.2.1, e1, e3]
  refine ⟨fun q => ⟨q.2.1, fun j hj => ?_⟩, fun q => ⟨rfl, q.1, fun j hj => ?_⟩⟩
  · rw [← q.2.2 j hj, CU_f h, app_get (by omega)]
  · rw [← q.2 j hj, CU_f h, app_get (by omega)]
theorem iw_y {a : Nat} (ha : 1 ≤ a ∧ a < 8) (h : CU T P (wlt a ++ R)) (hR : kh R ≠ 1) : iw (fT T) a P = true := by
  obtain ⟨e1, e2, e3, e4⟩ := wl_l a ha.2 ha.1
  exact (iw_l ⟨e2, e3⟩ h hR).2 ⟨e1.symm, fun j hj => (e4 j hj).symm⟩
theorem iw_n {a b : Nat} (ha : 1 ≤ a ∧ a < 8) (hb : 1 ≤ b ∧ b < 8) (hab : a ≠ b) (h : CU T P (wlt b ++ R)) (hR : kh R ≠ 1) : ¬ (iw (fT T) a P = true) := by
  obtain ⟨e1, e2, e3, e4⟩ := wl_l b hb.2 hb.1
  rw [iw_l ⟨e2, e3⟩ h hR]
  intro q
  rcases wl_ne a ha.2 ha.1 b hb.2 hb.1 hab with h1 | h1
  · exact h1 q.1.symm
  · exact h1 fun j hj => (q.2 j hj).symm
theorem iw_k {a : Nat} (h : CU T P R) (hR : kh R ≠ 1) : ¬ (iw (fT T) a P = true) := by
  unfold iw
  rw [decide_eq_true_eq, h.2.2.1]
  exact fun q => hR q.1
theorem tw_y {a : Nat} (ha : 1 ≤ a ∧ a < 8) (h : CU T P (wlt a ++ R)) (hR : kh R ≠ 1) : CU T (twT (fT T) T.length a P) (sk R) := by
  obtain ⟨e1, e2, e3, e4⟩ := wl_l a ha.2 ha.1
  unfold twT
  rw [if_pos (iw_y ha h hR)]
  have := CU_nx h
  rw [(tl_app (Or.inl rfl) e2 e3 hR).2, drop_app] at this
  exact this
theorem sm_y (h : CU T P (59 :: R)) : CU T (smT (fT T) T.length P) (sk R) := by
  have hf : fT T P.1 = 59 := by have := CU_f (j := 0) h; rw [Nat.add_zero] at this; exact this
  unfold smT
  rw [if_pos (show syT (fT T) 59 P = true from by unfold syT; rw [decide_eq_true_eq]; exact ⟨h.2.2.1, hf⟩)]
  have := CU_nx h
  rw [show tl (59 :: R) = 1 from rfl] at this
  exact this
/-! numbers -/
theorem decP_k {n : Int} (h : 0 ≤ n ∧ n ≤ 199) : decP n ≠ [] ∧ ∀ c ∈ decP n, kcc c = 2 := by
  refine ⟨?_, fun c hc => ?_⟩
  · unfold decP
    (repeat' split) <;> exact List.cons_ne_nil _ _
  · have hb : 48 ≤ c ∧ c ≤ 57 := by
      unfold decP at hc
      (repeat' split at hc) <;> simp only [List.mem_cons, List.not_mem_nil, or_false] at hc <;> omega
    unfold kcc
    rw [if_neg (by omega), if_neg (by omega), if_pos (by omega)]
theorem dec_p {n : Int} (h : 0 ≤ n) : dec n = decP n := by
  unfold dec
  rw [if_neg (by omega)]
theorem cn_dec {n : Int} {s : Nat} {f : Nat → Int} (h : 0 ≤ n ∧ n ≤ 199) (hf : ∀ j, j < (decP n).length → f (s + j) = (decP n).getD j 0) : cnL f (decP n).length s 0 = n := by
  by_cases h1 : n < 10
  · have e : decP n = [48 + n] := by unfold decP; rw [if_pos h1]
    rw [e] at hf ⊢
    have f0 : f s = 48 + n := hf 0 Nat.zero_lt_one
    show cnL f (0 + 1) s 0 = n
    rw [cnL_s, if_pos (by omega), f0]
    show 0 * 10 + (48 + n) - 48 = n
    omega
  · by_cases h2 : n < 100
    · have e : decP n = [48 + n / 10, 48 + n % 10] := by unfold decP; rw [if_neg h1, if_pos h2]
      rw [e] at hf ⊢
      have f0 : f s = 48 + n / 10 := hf 0 (by decide : 0 < 2)
      have f1 : f (s + 1) = 48 + n % 10 := hf 1 (by decide : 1 < 2)
      show cnL f (0 + 1 + 1) s 0 = n
      rw [cnL_s, if_pos (by omega), cnL_s, f0, if_pos (by omega), f1]
      show (0 * 10 + (48 + n / 10) - 48) * 10 + (48 + n % 10) - 48 = n
      omega
    · have e : decP n = [49, 48 + (n - 100) / 10, 48 + (n - 100) % 10] := by unfold decP; rw [if_neg h1, if_neg h2]
      rw [e] at hf ⊢
      have f0 : f s = 49 := hf 0 (by decide : 0 < 3)
      have f1 : f (s + 1) = 48 + (n - 100) / 10 := hf 1 (by decide : 1 < 3)
      have f2 : f (s + 1 + 1) = 48 + (n - 100) % 10 := hf 2 (by decide : 2 < 3)
      show cnL f (0 + 1 + 1 + 1) s 0 = n
      rw [cnL_s, if_pos (by omega), cnL_s, f0, if_pos (by omega), cnL_s, f1, if_pos (by omega), f2]
      show ((0 * 10 + 49 - 48) * 10 + (48 + (n - 100) / 10) - 48) * 10 + (48 + (n - 100) % 10) - 48 = n
      omega
theorem cv_y {n lo : Int} (hn : 0 ≤ n ∧ n ≤ 199) (h : CU T P (decP n ++ R)) (hR : kh R ≠ 2) : cvT (fT T) lo P = n ∧ P.2.2.1 = 2 := by
  obtain ⟨k1, k2⟩ := decP_k hn
  obtain ⟨e1, e2⟩ := tl_app (Or.inr rfl) k1 k2 hR
  have e3 : P.2.1 - P.1 = (decP n).length := by rw [h.2.2.2.1, e2]; omega
  have e4 : P.2.2.1 = 2 := h.2.2.1.trans e1
  refine ⟨?_, e4⟩
  unfold cvT
  rw [if_pos e4, e3]
  exact cn_dec hn fun j hj => by rw [CU_f h, app_get hj]
theorem ch_y {n lo hi : Int} (hn : 0 ≤ n ∧ n ≤ 199) (hl : lo ≤ n ∧ n ≤ hi) (h : CU T P (decP n ++ R)) (hR : kh R ≠ 2) : chT (fT T) lo hi P = P := by
  obtain ⟨e1, e2⟩ := cv_y (lo := lo) hn h hR
  unfold cvT at e1
  rw [if_pos e2] at e1
  unfold chT
  rw [if_pos e2, e1, if_pos hl]
theorem nx_d {n : Int} (hn : 0 ≤ n ∧ n ≤ 199) (h : CU T P (decP n ++ R)) (hR : kh R ≠ 2) : CU T (nxT (fT T) T.length P) (sk R) := by
  obtain ⟨k1, k2⟩ := decP_k hn
  have := CU_nx h
  rw [(tl_app (Or.inr rfl) k1 k2 hR).2, drop_app] at this
  exact this
theorem nu_y {n lo hi : Int} (hn : 0 ≤ n ∧ n ≤ 199) (hl : lo ≤ n ∧ n ≤ hi) (h : CU T P (decP n ++ R)) (hR : kh R ≠ 2) : CU T (nxT (fT T) T.length (chT (fT T) lo hi P)) (sk R) := by
  rw [ch_y hn hl h hR]
  exact nx_d hn h hR
/-- a speed -/
theorem ts_y {n : Int} (hn : -60 ≤ n ∧ n ≤ 60) (h : CU T P (dec n ++ R)) (hR : kh R ≠ 2) : CU T (tsT (fT T) T.length P) (sk R) ∧ tsV (fT T) T.length P = n := by
  unfold tsT tsV tsP
  by_cases h0 : n < 0
  · have e : dec n ++ R = 45 :: (decP (-n) ++ R) := by unfold dec; rw [if_pos h0]; rfl
    rw [e] at h
    have hf : fT T P.1 = 45 := by have := CU_f (j := 0) h; rw [Nat.add_zero] at this; exact this
    have hs : syT (fT T) 45 P = true := by unfold syT; rw [decide_eq_true_eq]; exact ⟨h.2.2.1, hf⟩
    rw [if_pos hs, if_pos hs]
    have h2 := CU_nx h
    rw [show tl (45 :: (decP (-n) ++ R)) = 1 from rfl, show (45 :: (decP (-n) ++ R)).drop 1 = decP (-n) ++ R from rfl, sk_0 (by rw [(tl_app (Or.inr rfl) (decP_k (n := -n) (by omega)).1 (decP_k (n := -n) (by omega)).2 hR).1]; omega)] at h2
    exact ⟨nu_y (n := -n) (by omega) (by omega) h2 hR, by rw [(cv_y (n := -n) (by omega) h2 hR).1]; omega⟩
  · rw [dec_p (by omega)] at h
    have hs : ¬ (syT (fT T) 45 P = true) := by
      unfold syT
      rw [decide_eq_true_eq, h.2.2.1, (tl_app (Or.inr rfl) (decP_k (n := n) (by omega)).1 (decP_k (n := n) (by omega)).2 hR).1]
      exact fun q => absurd q.1 (by decide)
    rw [if_neg hs, if_neg hs]
    exact ⟨nu_y (n := n) (by omega) (by omega) h hR, (cv_y (n := n) (by omega) h hR).1⟩
/-! names: b and a letter -/
theorem nm_y {k : Nat} (hk : k < 6) (h : CU T P ([98, 97 + (k : Int)] ++ R)) (hR : kh R ≠ 1) : pkN (fT T) P.1 P.2.1 = 55 + (k : Int) ∧ ¬ (kwT (fT T) P = true) ∧ CU T (nxT (fT T) T.length P) (sk R) := by
  have hw : ([98, 97 + (k : Int)] : List Int) ≠ [] ∧ ∀ c ∈ ([98, 97 + (k : Int)] : List Int), kcc c = 1 := by
    refine ⟨List.cons_ne_nil _ _, fun c hc => ?_⟩
    have hb : 97 ≤ c ∧ c ≤ 122 := by
      simp only [List.mem_cons, List.not_mem_nil, or_false] at hc
      omega
    unfold kcc
    rw [if_neg (by omega), if_pos hb]
  obtain ⟨e1, e2⟩ := tl_app (Or.inl rfl) hw.1 hw.2 hR
  have e3 : P.2.1 - P.1 = 1 + 1 := by rw [h.2.2.2.1, e2]; show P.1 + 2 - P.1 = 2; omega
  have f0 : fT T P.1 = 98 := by have := CU_f (j := 0) h; rw [Nat.add_zero] at this; exact this
  have f1 : fT T (P.1 + 1) = 97 + (k : Int) := CU_f (j := 1) h
  refine ⟨?_, ?_, ?_⟩
  · unfold pkN
    rw [if_neg (by omega), e3, pkL_s, f0, if_neg (by omega), pkL_s, f1, if_neg (by omega)]
    show (0 * 27 + 98 - 97 + 1) * 27 + (97 + (k : Int)) - 97 + 1 = 55 + (k : Int)
    omega
  · have no : ∀ a, 1 ≤ a ∧ a < 8 → ¬ (iw (fT T) a P = true) := fun a ha q => by
      have q1 := (iw_l hw h hR).1 q
      have h2 : wdL a = 2 := q1.1.symm
      have h3 : wdC a 0 = 98 := (q1.2 0 (by omega)).symm
      have : ∀ a, a < 8 → 1 ≤ a → wdL a = 2 → wdC a 0 ≠ 98 := by decide +kernel
      exact this a ha.2 ha.1 h2 h3
    unfold kwT
    simp only [Bool.or_eq_true, no 1 (by omega), no 2 (by omega), no 3 (by omega), no 4 (by omega), no 5 (by omega), no 6 (by omega), no 7 (by omega), or_self, not_false_eq_true, Bool.false_eq_true]
  · have := CU_nx h
    rw [e2, drop_app] at this
    exact this
end SA1
