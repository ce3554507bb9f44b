/-! WHAT THE LAW HOLDS: counts through bounces and hits -/
section SBC
variable {n m i l r b u : Nat} {α β : Nat → Int} {first q : Int} {o : Nat → Nat}
theorem CM_bo (h : CM q α n m) (hn : n ≤ 10) (hm : m ≤ 4) (hi : i < n) {K : Nat} (hK : K = 10 ∨ K = 11 ∨ ∃ p, p < m ∧ K = P3 p 2) {st : Int} : CM (q + 1) (boA (up1 α K (α K + 1)) i st) n m := by
  obtain ⟨h1, h2, h3, h4, h5, h6, h7, h8, h9, h10, h11⟩ := h
  have hKr : (10 ≤ K ∧ K ≤ 11) ∨ (16 ≤ K ∧ K < 28) := by
    rcases hK with h | h | ⟨p, hp, h⟩
    · omega
    · omega
    · unfold P3 at h; omega
  have e : ∀ k, k < 218 → k ≠ 4 → k ≠ 5 → k ≠ 13 → k ≠ B9 i 1 → k ≠ B9 i 6 → k ≠ K → boA (up1 α K (α K + 1)) i st k = α k := fun k g1 g2 g3 g4 g5 g6 g7 => by
    unfold boA
    rw [lg_e ⟨g1, g2⟩, up1_ne g3, up1_ne g4, up1_ne g6, up1_ne g5, up1_ne g7]
  have eH : ∀ a c, a < 10 → c < 10 → boA (up1 α K (α K + 1)) i st (HH a c) = α (HH a c) := fun a c ha hc => e _ (by unfold HH; omega) (by unfold HH; omega) (by unfold HH; omega) (by unfold HH; omega) (by unfold HH B9; omega) (by unfold HH B9; omega) (by unfold HH; omega)
  have eB : ∀ a p, a < n → 4 ≤ p → p ≤ 7 → (a ≠ i ∨ p ≠ 6) → boA (up1 α K (α K + 1)) i st (B9 a p) = α (B9 a p) := fun a p ha hp hp2 hne => e _ (by unfold B9; omega) (by unfold B9; omega) (by unfold B9; omega) (by unfold B9; omega) (B9_in (by omega) (by omega) (by omega)) (B9_in (by omega) (by omega) hne) (by unfold B9; omega)
  have eK : ∀ k, k = 3 ∨ k = 12 ∨ k = 14 ∨ k = 15 → boA (up1 α K (α K + 1)) i st k = α k := fun k hk => e k (by omega) (by omega) (by omega) (by omega) (by unfold B9; omega) (by unfold B9; omega) (by omega)
  have e13 : boA (up1 α K (α K + 1)) i st 13 = α 13 + 1 := by
    unfold boA
    rw [lg_e ⟨by omega, by omega⟩, up1_ne (by omega), up1_eq', up1_ne (by omega)]
  have e4 : boA (up1 α K (α K + 1)) i st 4 = if α 4 + 1 < 40 then α 4 + 1 else 40 := by
    unfold boA
    rw [lg_4, up1_ne (by omega), up1_ne (by omega), up1_ne (by unfold B9; omega), up1_ne (by unfold B9; omega), up1_ne (by omega)]
  have e6 : boA (up1 α K (α K + 1)) i st (B9 i 6) = α (B9 i 6) + 1 := by
    unfold boA
    rw [lg_e ⟨by unfold B9; omega, by unfold B9; omega⟩, up1_ne (by unfold B9; omega), up1_ne (by unfold B9; omega), up1_eq', up1_ne (by unfold B9; omega)]
  have eKK : boA (up1 α K (α K + 1)) i st K = α K + 1 := by
    unfold boA
    rw [lg_e ⟨by omega, by omega⟩, up1_ne (by omega), up1_ne (by omega), up1_ne (by unfold B9; omega), up1_ne (by unfold B9; omega), up1_eq']
  have eP : ∀ p, p < m → P3 p 2 ≠ K → boA (up1 α K (α K + 1)) i st (P3 p 2) = α (P3 p 2) := fun p hp hne => e _ (by unfold P3; omega) (by unfold P3; omega) (by unfold P3; omega) (by unfold P3; omega) (by unfold P3 B9; omega) (by unfold P3 B9; omega) hne
  have eT : ∀ k, k = 10 ∨ k = 11 → k ≠ K → boA (up1 α K (α K + 1)) i st k = α k := fun k hk hne => e k (by omega) (by omega) (by omega) (by omega) (by unfold B9; omega) (by unfold B9; omega) hne
  have eS : ∀ p, 4 ≤ p → p ≤ 7 → p ≠ 6 → sumN (fun a => boA (up1 α K (α K + 1)) i st (B9 a p)) n = sumN (fun a => α (B9 a p)) n := fun p hp hp2 hne => sumN_cg n fun a ha => eB a p ha hp hp2 (Or.inr hne)
  refine ⟨fun a c ha hc => by rw [eH a c ha hc, eH c a hc ha]; exact h1 a c ha hc, fun a ha => by rw [eH a a ha ha]; exact h2 a ha, fun a c ha hc hnc => by rw [eH a c ha hc]; exact h3 a c ha hc hnc, fun a ha => ?_, ?_, ?_, ?_, ?_, ?_, ?_, ?_⟩
  · rw [eB a 5 ha (by omega) (by omega) (by omega), ← h4 a ha]
    exact sumN_cg n fun c hc => eH a c (by omega) (by omega)
  · rw [eK 12 (by omega), eS 5 (by omega) (by omega) (by omega)]; exact h5
  · rw [e13, sumN_at (g := fun a => α (B9 a 6)) n hi (fun a ha hne => eB a 6 ha (by omega) (by omega) (Or.inl hne)), e6, h6]
    omega
  · rw [e13]
    rcases hK with rfl | rfl | ⟨p, hp, rfl⟩
    · rw [eKK, eT 11 (by omega) (by omega), sumN_cg m fun p hp => eP p hp (by unfold P3; omega)]
      omega
    · rw [eKK, eT 10 (by omega) (by omega), sumN_cg m fun p hp => eP p hp (by unfold P3; omega)]
      omega
    · rw [eT 10 (by omega) (by unfold P3; omega), eT 11 (by omega) (by unfold P3; omega), sumN_at (g := fun p => α (P3 p 2)) m hp (fun a ha hne => eP a ha (by unfold P3; omega)), eKK]
      omega
  · rw [eK 14 (by omega), eS 7 (by omega) (by omega) (by omega)]; exact h8
  · rw [eK 15 (by omega), eS 4 (by omega) (by omega) (by omega)]; exact h9
  · rw [e4, e13, eK 12 (by omega), h10]
    by_cases g1 : α 12 + α 13 < 40
    · rw [if_pos g1]
      by_cases g2 : α 12 + α 13 + 1 < 40
      · rw [if_pos g2, if_pos (by omega)]
        omega
      · rw [if_neg g2, if_neg (by omega)]
    · rw [if_neg g1, if_neg (by omega), if_neg (by omega)]
  · rw [e13, eK 12 (by omega), eK 3 (by omega)]
    omega
theorem CM_bt (h : CM q α n m) (hn : n ≤ 10) (hm : m ≤ 4) (hi : i < n) {c : Int} : CM (q + 1) (btA α m i c) n m := by
  unfold btA
  split
  · split
    · exact CM_bo h hn hm hi (Or.inl rfl)
    · exact CM_bo h hn hm hi (Or.inr (Or.inl rfl))
  · rename_i hp
    rcases pFind_spec (f := fun p => α (P3 p 0)) (c := c) m 0 with ⟨h1, -⟩ | ⟨j, h1, -, h3, -⟩
    · exact absurd h1 hp
    · have e : (pAt α m c).toNat = j := by
        have : pAt α m c = (j : Int) := h1
        omega
      rw [e]
      exact CM_bo h hn hm hi (Or.inr (Or.inr ⟨j, by omega, rfl⟩))
theorem HH_in {a c a' c' : Nat} (hc : c < 10) (hc' : c' < 10) (h : a ≠ a' ∨ c ≠ c') : HH a c ≠ HH a' c' := by
  unfold HH
  omega
/-- the counts of a hit of b and u -/
theorem CM_cn (h : CM q α n m) (hn : n ≤ 10) (hm : m ≤ 4) (hb : b < n) (hu : u < n) (hbu : b ≠ u) {x y z : Int} : CM (q + 1) (lgA (cnR α b u) x y z) n m := by
  obtain ⟨h1, h2, h3, h4, h5, h6, h7, h8, h9, h10, h11⟩ := h
  have e : ∀ k, k < 218 → k ≠ 4 → k ≠ 12 → k ≠ B9 b 5 → k ≠ B9 u 5 → k ≠ HH b u → k ≠ HH u b → lgA (cnR α b u) x y z k = α k := fun k g1 g2 g3 g4 g5 g6 g7 => by
    unfold cnR
    rw [lg_e ⟨g1, g2⟩, up1_ne g3, up1_ne g7, up1_ne g6, up1_ne g5, up1_ne g4]
  have eH : ∀ a c, a < 10 → c < 10 → ¬ (a = b ∧ c = u) → ¬ (a = u ∧ c = b) → lgA (cnR α b u) x y z (HH a c) = α (HH a c) := fun a c ha hc g1 g2 => e _ (by unfold HH; omega) (by unfold HH; omega) (by unfold HH; omega) (by unfold HH B9; omega) (by unfold HH B9; omega) (HH_in hc (by omega) (by omega)) (HH_in hc (by omega) (by omega))
  have eHb : lgA (cnR α b u) x y z (HH b u) = α (HH b u) + 1 := by
    unfold cnR
    rw [lg_e ⟨by unfold HH; omega, by unfold HH; omega⟩, up1_ne (by unfold HH; omega), up1_ne (HH_in (by omega) (by omega) (by omega)), up1_eq']
  have eHu : lgA (cnR α b u) x y z (HH u b) = α (HH u b) + 1 := by
    unfold cnR
    rw [lg_e ⟨by unfold HH; omega, by unfold HH; omega⟩, up1_ne (by unfold HH; omega), up1_eq']
  have eB : ∀ a p, a < n → 4 ≤ p → p ≤ 7 → ((a ≠ b ∧ a ≠ u) ∨ p ≠ 5) → lgA (cnR α b u) x y z (B9 a p) = α (B9 a p) := fun a p ha hp hp2 hne => e _ (by unfold B9; omega) (by unfold B9; omega) (by unfold B9; omega) (B9_in (by omega) (by omega) (by omega)) (B9_in (by omega) (by omega) (by omega)) (by unfold HH B9; omega) (by unfold HH B9; omega)
  have eBb : lgA (cnR α b u) x y z (B9 b 5) = α (B9 b 5) + 1 := by
    unfold cnR
    rw [lg_e ⟨by unfold B9; omega, by unfold B9; omega⟩, up1_ne (by unfold B9; omega), up1_ne (by unfold HH B9; omega), up1_ne (by unfold HH B9; omega), up1_ne (B9_in (by omega) (by omega) (by omega)), up1_eq']
  have eBu : lgA (cnR α b u) x y z (B9 u 5) = α (B9 u 5) + 1 := by
    unfold cnR
    rw [lg_e ⟨by unfold B9; omega, by unfold B9; omega⟩, up1_ne (by unfold B9; omega), up1_ne (by unfold HH B9; omega), up1_ne (by unfold HH B9; omega), up1_eq']
  have eK : ∀ k, k = 3 ∨ k = 10 ∨ k = 11 ∨ k = 13 ∨ k = 14 ∨ k = 15 → lgA (cnR α b u) x y z k = α k := fun k hk => e k (by omega) (by omega) (by omega) (by unfold B9; omega) (by unfold B9; omega) (by unfold HH; omega) (by unfold HH; omega)
  have e12 : lgA (cnR α b u) x y z 12 = α 12 + 1 := by
    unfold cnR
    rw [lg_e ⟨by omega, by omega⟩, up1_eq']
  have e4 : lgA (cnR α b u) x y z 4 = if α 4 + 1 < 40 then α 4 + 1 else 40 := by
    unfold cnR
    rw [lg_4, up1_ne (by omega), up1_ne (by unfold HH; omega), up1_ne (by unfold HH; omega), up1_ne (by unfold B9; omega), up1_ne (by unfold B9; omega)]
  have eP : ∀ p, p < m → lgA (cnR α b u) x y z (P3 p 2) = α (P3 p 2) := fun p hp => e _ (by unfold P3; omega) (by unfold P3; omega) (by unfold P3; omega) (by unfold P3 B9; omega) (by unfold P3 B9; omega) (by unfold P3 HH; omega) (by unfold P3 HH; omega)
  have eS : ∀ p, 4 ≤ p → p ≤ 7 → p ≠ 5 → sumN (fun a => lgA (cnR α b u) x y z (B9 a p)) n = sumN (fun a => α (B9 a p)) n := fun p hp hp2 hne => sumN_cg n fun a ha => eB a p ha hp hp2 (Or.inr hne)
  have hbs := h1 b u (by omega) (by omega)
  refine ⟨fun a c ha hc => ?_, fun a ha => by rw [eH a a ha ha (by omega) (by omega)]; exact h2 a ha, fun a c ha hc hnc => by rw [eH a c ha hc (by omega) (by omega)]; exact h3 a c ha hc hnc, fun a ha => ?_, ?_, ?_, ?_, ?_, ?_, ?_, ?_⟩
  · by_cases g1 : a = b ∧ c = u
    · rw [g1.1, g1.2, eHb, eHu, hbs]
    · by_cases g2 : a = u ∧ c = b
      · rw [g2.1, g2.2, eHb, eHu, hbs]
      · rw [eH a c ha hc g1 g2, eH c a hc ha (by omega) (by omega)]
        exact h1 a c ha hc
  · by_cases g1 : a = b
    · rw [g1, eBb, sumN_at (g := fun c => α (HH b c)) n hu (fun c hc hne => eH b c (by omega) (by omega) (by omega) (by omega)), eHb, h4 b hb]
      omega
    · by_cases g2 : a = u
      · rw [g2, eBu, sumN_at (g := fun c => α (HH u c)) n hb (fun c hc hne => eH u c (by omega) (by omega) (by omega) (by omega)), eHu, h4 u hu]
        omega
      · rw [eB a 5 ha (by omega) (by omega) (by omega), ← h4 a ha]
        exact sumN_cg n fun c hc => eH a c (by omega) (by omega) (by omega) (by omega)
  · rw [e12, sumN_at2 (g := fun a => α (B9 a 5)) hb hu hbu (fun a ha g1 g2 => eB a 5 ha (by omega) (by omega) (Or.inl ⟨g1, g2⟩)), eBb, eBu, h5]
    omega
  · rw [eK 13 (by omega), eS 6 (by omega) (by omega) (by omega)]; exact h6
  · rw [eK 13 (by omega), eK 10 (by omega), eK 11 (by omega), sumN_cg m fun p hp => eP p hp]; exact h7
  · rw [eK 14 (by omega), eS 7 (by omega) (by omega) (by omega)]; exact h8
  · rw [eK 15 (by omega), eS 4 (by omega) (by omega) (by omega)]; exact h9
  · rw [e4, e12, eK 13 (by omega), h10]
    by_cases g1 : α 12 + α 13 < 40
    · rw [if_pos g1]
      by_cases g2 : α 12 + α 13 + 1 < 40
      · rw [if_pos g2, if_pos (by omega)]
        omega
      · rw [if_neg g2, if_neg (by omega)]
    · rw [if_neg g1, if_neg (by omega), if_neg (by omega)]
  · rw [e12, eK 13 (by omega), eK 3 (by omega)]
    omega
theorem CK_6 : ¬ CK 6 := by
  rintro (h | h | h | h | ⟨p, h1, h2⟩ | ⟨i, q, h1, h2, h3, h4⟩)
  · omega
  · omega
  · omega
  · omega
  · unfold P3 at h2; omega
  · unfold B9 at h4; omega
theorem CM_sp (h : CM q α n m) (hn : n ≤ 10) (hm : m ≤ 4) (hl : l < n) (hr : r < n) : CM q (spR α l r) n m := by
  refine CM_cg h hn hm fun k hk => ?_
  unfold spR
  rw [CK_up 6 CK_6 k hk, CK_up _ (CK_B (by omega) (by omega)) k hk, CK_up _ (CK_B (by omega) (by omega)) k hk]
theorem CM_hi (h : CM q α n m) (hn : n ≤ 10) (hm : m ≤ 4) (hl : l < n) (hr : r < n) (hb : b < n) (hu : u < n) (hbu : b ≠ u) : CM (q + 1) (hiR α l r b u) n m := CM_cn (CM_sp h hn hm hl hr) hn hm hb hu hbu
theorem PU_hi (h : PU first α n) (hG : GA α n m o) (hl : l < n) (hr : r < n) (hlr : l ≠ r) (hb : b < n) (hu : u < n) : PU first (hiR α l r b u) n := by
  have h10 := hG.1.1
  unfold hiR cnR
  refine PU_lg (PU_up (PU_up (PU_up (PU_up (PU_up (PU_sp h hG hl hr hlr) ?_) ?_) ?_) ?_) ?_) h10
  · exact ⟨by unfold B9; omega, by unfold B9; omega, fun j hj => ⟨B9_in (by omega) (by omega) (by omega), B9_in (by omega) (by omega) (by omega)⟩⟩
  · exact ⟨by unfold B9; omega, by unfold B9; omega, fun j hj => ⟨B9_in (by omega) (by omega) (by omega), B9_in (by omega) (by omega) (by omega)⟩⟩
  · exact ⟨by unfold HH; omega, by unfold HH; omega, fun j hj => ⟨by unfold HH B9; omega, by unfold HH B9; omega⟩⟩
  · exact ⟨by unfold HH; omega, by unfold HH; omega, fun j hj => ⟨by unfold HH B9; omega, by unfold HH B9; omega⟩⟩
  · exact ⟨by omega, by omega, fun j hj => ⟨by unfold B9; omega, by unfold B9; omega⟩⟩
end SBC
