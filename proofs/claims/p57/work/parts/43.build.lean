/-! THE CONSTRUCTORS: the memory as it is built. Made by wip/p57/gen/mk43.py: bs: n objects stand, q slots, the first t of the references (in WL's order) are written -/
def WL : List (Nat × Nat) := [(15, 0), (17, 0), (15, 2), (19, 2), (19, 4), (19, 5), (19, 7), (19, 8), (25, 0), (25, 1), (25, 2), (25, 3), (19, 9), (30, 0), (19, 10), (20, 0), (20, 1), (20, 2), (20, 3), (20, 4), (20, 5), (20, 6), (20, 7), (20, 8), (20, 9), (22, 0), (22, 1), (22, 2), (22, 3), (15, 5), (46, 2), (46, 4), (46, 5), (46, 7), (46, 8), (52, 0), (52, 1), (52, 2), (52, 3), (46, 9), (57, 0), (46, 10), (47, 0), (47, 1), (47, 2), (47, 3), (47, 4), (47, 5), (47, 6), (47, 7), (47, 8), (47, 9), (49, 0), (49, 1), (49, 2), (49, 3), (15, 6), (73, 0), (73, 1), (15, 7), (74, 0), (76, 2), (76, 4), (76, 5), (76, 7), (76, 8), (82, 0), (82, 1), (82, 2), (82, 3), (76, 9), (87, 0), (76, 10), (77, 0), (77, 1), (77, 2), (77, 3), (77, 4), (77, 5), (77, 6), (77, 7), (77, 8), (77, 9), (79, 0), (79, 1), (79, 2), (79, 3), (75, 0), (103, 2), (103, 4), (103, 5), (103, 7), (103, 8), (109, 0), (109, 1), (109, 2), (109, 3), (103, 9), (114, 0), (103, 10), (104, 0), (104, 1), (104, 2), (104, 3), (104, 4), (104, 5), (104, 6), (104, 7), (104, 8), (104, 9), (106, 0), (106, 1), (106, 2), (106, 3), (75, 1), (130, 2), (130, 4), (130, 5), (130, 7), (130, 8), (136, 0), (136, 1), (136, 2), (136, 3), (130, 9), (141, 0), (130, 10), (131, 0), (131, 1), (131, 2), (131, 3), (131, 4), (131, 5), (131, 6), (131, 7), (131, 8), (131, 9), (133, 0), (133, 1), (133, 2), (133, 3), (75, 2), (157, 2), (157, 4), (157, 5), (157, 7), (157, 8), (163, 0), (163, 1), (163, 2), (163, 3), (157, 9), (168, 0), (157, 10), (158, 0), (158, 1), (158, 2), (158, 3), (158, 4), (158, 5), (158, 6), (158, 7), (158, 8), (158, 9), (160, 0), (160, 1), (160, 2), (160, 3), (75, 3), (184, 2), (184, 4), (184, 5), (184, 7), (184, 8), (190, 0), (190, 1), (190, 2), (190, 3), (184, 9), (195, 0), (184, 10), (185, 0), (185, 1), (185, 2), (185, 3), (185, 4), (185, 5), (185, 6), (185, 7), (185, 8), (185, 9), (187, 0), (187, 1), (187, 2), (187, 3), (75, 4), (211, 2), (211, 4), (211, 5), (211, 7), (211, 8), (217, 0), (217, 1), (217, 2), (217, 3), (211, 9), (222, 0), (211, 10), (212, 0), (212, 1), (212, 2), (212, 3), (212, 4), (212, 5), (212, 6), (212, 7), (212, 8), (212, 9), (214, 0), (214, 1), (214, 2), (214, 3), (75, 5), (15, 8), (15, 9), (15, 10), (240, 2), (240, 4), (240, 5), (240, 7), (240, 8), (246, 0), (246, 1), (246, 2), (246, 3), (240, 9), (251, 0), (240, 10), (241, 0), (241, 1), (241, 2), (241, 3), (241, 4), (241, 5), (241, 6), (241, 7), (241, 8), (241, 9), (243, 0), (243, 1), (243, 2), (243, 3), (238, 0), (267, 2), (267, 4), (267, 5), (267, 7), (267, 8), (273, 0), (273, 1), (273, 2), (273, 3), (267, 9), (278, 0), (267, 10), (268, 0), (268, 1), (268, 2), (268, 3), (268, 4), (268, 5), (268, 6), (268, 7), (268, 8), (268, 9), (270, 0), (270, 1), (270, 2), (270, 3), (238, 1)]
def tm (a k : Nat) : Nat := WL.idxOf (a, k)
def RTm (t a k : Nat) : Nat := if tm a k < t then KR0 a k else 0
def N0 (N : Nat) : NX := (N, 294, 5059, fun _ => (0, 0))
def KT (N n a : Nat) : Nat × Nat := if a < n then KH (N0 N) a else (0, 0)
def bs (N n q t : Nat) (I : Nat → Nat → Int32) (L : Nat → Nat → Int64) (D : Nat → Nat → UInt64) : St := ((n, q, 0), KT N n, RTm t, I, L, D)
theorem gd_big {α : Type} {l : List α} {i : Nat} {d : α} (h : l.length ≤ i) : l.getD i d = d := by
  rw [List.getD_eq_getElem?_getD, List.getElem?_eq_none h]
  rfl
set_option maxRecDepth 100000 in
theorem tm_at : ∀ t, t < 280 → tm (WL.getD t (0, 0)).1 (WL.getD t (0, 0)).2 = t := by decide +kernel
set_option maxRecDepth 100000 in
theorem tm_in : ∀ i, i < 279 → ∀ k, k < (KRl.getD i []).length → (KRl.getD i []).getD k 0 = 0 ∨ tm (i + 15) k < 280 := by decide +kernel
theorem WL_len : WL.length = 280 := by decide +kernel
theorem bs_R {N n q t a k v : Nat} {I : Nat → Nat → Int32} {L : Nat → Nat → Int64} {D : Nat → Nat → UInt64} (ht : t < 280) (hw : WL.getD t (0, 0) = (a, k)) (hv : KR0 a k = v) : wR (bs N n q t I L D) a k v = bs N n q (t + 1) I L D := by
  unfold wR bs
  refine Prod.ext rfl (Prod.ext rfl (Prod.ext ?_ rfl))
  show up2 (RTm t) a k v = RTm (t + 1)
  have h1 := tm_at t ht
  rw [hw] at h1
  funext b j
  unfold up2 RTm
  by_cases h : b = a ∧ j = k
  · obtain ⟨rfl, rfl⟩ := h
    rw [if_pos ⟨rfl, rfl⟩, if_pos (by rw [show tm b j = t from h1]; omega), hv]
  · rw [if_neg h]
    have h2 : tm b j ≠ t := fun e => by
      have hl : WL.idxOf (b, j) < WL.length := by rw [WL_len]; show tm b j < _; omega
      have h3 := List.getElem_idxOf hl
      have h4 : WL.getD t (0, 0) = (b, j) := by
        rw [← e, List.getD_eq_getElem?_getD, show WL[tm b j]? = some (b, j) from (List.getElem?_eq_getElem hl).trans (congrArg some h3)]
        rfl
      rw [hw] at h4
      cases h4
      exact h ⟨rfl, rfl⟩
    by_cases h3 : tm b j < t
    · rw [if_pos h3, if_pos (by omega)]
    · rw [if_neg h3, if_neg (by omega)]
theorem bs_N {N n q t s : Nat} {kd : Nat × Nat} {I : Nat → Nat → Int32} {L : Nat → Nat → Int64} {D : Nat → Nat → UInt64} (h : KH (N0 N) n = kd) : zNew (bs N n q t I L D) kd s = bs N (n + 1) (q + s) t I L D := by
  unfold zNew bs
  refine Prod.ext rfl (Prod.ext ?_ rfl)
  show up1 (KT N n) n kd = KT N (n + 1)
  funext b
  unfold up1 KT
  by_cases hb : b = n
  · subst hb
    rw [if_pos rfl, if_pos (by omega), h]
  · rw [if_neg hb]
    by_cases h3 : b < n
    · rw [if_pos h3, if_pos (by omega)]
    · rw [if_neg h3, if_neg (by omega)]
theorem bs_end {N : Nat} {I : Nat → Nat → Int32} {L : Nat → Nat → Int64} {D : Nat → Nat → UInt64} : bs N 294 5059 280 I L D = mk (N0 N) 0 (fun _ _ => 0) I L D := by
  unfold bs mk
  refine Prod.ext rfl (Prod.ext ?_ (Prod.ext ?_ rfl))
  · show KT N 294 = KH (N0 N)
    funext a
    unfold KT
    by_cases h : a < 294
    · rw [if_pos h]
    · rw [if_neg h]
      unfold KH N0
      dsimp only
      rw [if_neg (by omega), if_neg (by omega), if_neg (by omega), if_neg h]
  · show RTm 280 = KR (fun _ _ => 0)
    funext a k
    unfold RTm KR
    by_cases hs : a < 294
    · rw [if_pos hs]
      by_cases h : tm a k < 280
      · rw [if_pos h]
      · rw [if_neg h]
        unfold KR0
        by_cases ha : a < 15
        · rw [if_pos ha]
        · rw [if_neg ha]
          by_cases hi : a - 15 < 279
          · by_cases hk : k < (KRl.getD (a - 15) []).length
            · rcases tm_in (a - 15) hi k hk with h1 | h1
              · exact h1.symm
              · rw [show a - 15 + 15 = a by omega] at h1
                exact absurd h1 h
            · rw [gd_big (by omega)]
          · rw [gd_big (l := KRl) (by rw [show KRl.length = 279 by decide +kernel]; omega)]
            rfl
    · rw [if_neg hs]
      by_cases h : tm a k < 280
      · rw [if_pos h]
        unfold KR0
        rw [if_neg (by omega), gd_big (l := KRl) (by rw [show KRl.length = 279 by decide +kernel]; omega)]
        rfl
      · rw [if_neg h]
theorem bs_zn {N n q t : Nat} {I : Nat → Nat → Int32} {L : Nat → Nat → Int64} {D : Nat → Nat → UInt64} : zn (bs N n q t I L D) = n := nr rfl
theorem bs_zh {N n q t a : Nat} {I : Nat → Nat → Int32} {L : Nat → Nat → Int64} {D : Nat → Nat → UInt64} : zh (bs N n q t I L D) a = KT N n a := nr rfl
theorem bs_zR {N n q t a k : Nat} {I : Nat → Nat → Int32} {L : Nat → Nat → Int64} {D : Nat → Nat → UInt64} : zR (bs N n q t I L D) a k = RTm t a k := nr rfl
theorem bs_wI {N n q t a k : Nat} {v : Int32} {I : Nat → Nat → Int32} {L : Nat → Nat → Int64} {D : Nat → Nat → UInt64} : wI (bs N n q t I L D) a k v = bs N n q t (up2 I a k v) L D := nr rfl
theorem bs_wL {N n q t a k : Nat} {v : Int64} {I : Nat → Nat → Int32} {L : Nat → Nat → Int64} {D : Nat → Nat → UInt64} : wL (bs N n q t I L D) a k v = bs N n q t I (up2 L a k v) D := nr rfl
theorem el16 : elC 16 = 0 := nr rfl
theorem el17 : elC 17 = 1 := nr rfl
theorem el18 : elC 18 = 4 := nr rfl
theorem bl1 : (Int32.ofInt 0 ≤ Int32.ofInt 1) = True := by decide
theorem bl2 : (Int32.ofInt 0 ≤ Int32.ofInt 2) = True := by decide
theorem bl4 : (Int32.ofInt 0 ≤ Int32.ofInt 4) = True := by decide
theorem bl6 : (Int32.ofInt 0 ≤ Int32.ofInt 6) = True := by decide
theorem bl10 : (Int32.ofInt 0 ≤ Int32.ofInt 10) = True := by decide
theorem bl40 : (Int32.ofInt 0 ≤ Int32.ofInt 40) = True := by decide
theorem bl100 : (Int32.ofInt 0 ≤ Int32.ofInt 100) = True := by decide
theorem bl256 : (Int32.ofInt 0 ≤ Int32.ofInt 256) = True := by decide
theorem bl300 : (Int32.ofInt 0 ≤ Int32.ofInt 300) = True := by decide
theorem bl378 : (Int32.ofInt 0 ≤ Int32.ofInt 378) = True := by decide
theorem bl400 : (Int32.ofInt 0 ≤ Int32.ofInt 400) = True := by decide
theorem bl756 : (Int32.ofInt 0 ≤ Int32.ofInt 756) = True := by decide
theorem bl2268 : (Int32.ofInt 0 ≤ Int32.ofInt 2268) = True := by decide
theorem bt0 : (Int32.ofInt 0).toNatClampNeg = 0 := by decide
theorem bt1 : (Int32.ofInt 1).toNatClampNeg = 1 := by decide
theorem bt2 : (Int32.ofInt 2).toNatClampNeg = 2 := by decide
theorem bt3 : (Int32.ofInt 3).toNatClampNeg = 3 := by decide
theorem bt4 : (Int32.ofInt 4).toNatClampNeg = 4 := by decide
theorem bt5 : (Int32.ofInt 5).toNatClampNeg = 5 := by decide
theorem bt6 : (Int32.ofInt 6).toNatClampNeg = 6 := by decide
theorem bt7 : (Int32.ofInt 7).toNatClampNeg = 7 := by decide
theorem bt8 : (Int32.ofInt 8).toNatClampNeg = 8 := by decide
theorem bt9 : (Int32.ofInt 9).toNatClampNeg = 9 := by decide
theorem bt10 : (Int32.ofInt 10).toNatClampNeg = 10 := by decide
theorem bt40 : (Int32.ofInt 40).toNatClampNeg = 40 := by decide
theorem bt100 : (Int32.ofInt 100).toNatClampNeg = 100 := by decide
theorem bt256 : (Int32.ofInt 256).toNatClampNeg = 256 := by decide
theorem bt300 : (Int32.ofInt 300).toNatClampNeg = 300 := by decide
theorem bt378 : (Int32.ofInt 378).toNatClampNeg = 378 := by decide
theorem bt400 : (Int32.ofInt 400).toNatClampNeg = 400 := by decide
theorem bt756 : (Int32.ofInt 756).toNatClampNeg = 756 := by decide
theorem bt2268 : (Int32.ofInt 2268).toNatClampNeg = 2268 := by decide
theorem bx10_0 : inx (Int32.ofInt 0) 10 = true := by decide
theorem bv10_0 : (Int32.ofInt 0 < Int32.ofInt 10) = True := by decide
theorem bx10_1 : inx (Int32.ofInt 1) 10 = true := by decide
theorem bv10_1 : (Int32.ofInt 1 < Int32.ofInt 10) = True := by decide
theorem bx10_2 : inx (Int32.ofInt 2) 10 = true := by decide
theorem bv10_2 : (Int32.ofInt 2 < Int32.ofInt 10) = True := by decide
theorem bx10_3 : inx (Int32.ofInt 3) 10 = true := by decide
theorem bv10_3 : (Int32.ofInt 3 < Int32.ofInt 10) = True := by decide
theorem bx10_4 : inx (Int32.ofInt 4) 10 = true := by decide
theorem bv10_4 : (Int32.ofInt 4 < Int32.ofInt 10) = True := by decide
theorem bx10_5 : inx (Int32.ofInt 5) 10 = true := by decide
theorem bv10_5 : (Int32.ofInt 5 < Int32.ofInt 10) = True := by decide
theorem bx10_6 : inx (Int32.ofInt 6) 10 = true := by decide
theorem bv10_6 : (Int32.ofInt 6 < Int32.ofInt 10) = True := by decide
theorem bx10_7 : inx (Int32.ofInt 7) 10 = true := by decide
theorem bv10_7 : (Int32.ofInt 7 < Int32.ofInt 10) = True := by decide
theorem bx10_8 : inx (Int32.ofInt 8) 10 = true := by decide
theorem bv10_8 : (Int32.ofInt 8 < Int32.ofInt 10) = True := by decide
theorem bx10_9 : inx (Int32.ofInt 9) 10 = true := by decide
theorem bv10_9 : (Int32.ofInt 9 < Int32.ofInt 10) = True := by decide
theorem bv10_10 : (Int32.ofInt 10 < Int32.ofInt 10) = False := by decide
theorem bx4_0 : inx (Int32.ofInt 0) 4 = true := by decide
theorem bv4_0 : (Int32.ofInt 0 < Int32.ofInt 4) = True := by decide
theorem bx4_1 : inx (Int32.ofInt 1) 4 = true := by decide
theorem bv4_1 : (Int32.ofInt 1 < Int32.ofInt 4) = True := by decide
theorem bx4_2 : inx (Int32.ofInt 2) 4 = true := by decide
theorem bv4_2 : (Int32.ofInt 2 < Int32.ofInt 4) = True := by decide
theorem bx4_3 : inx (Int32.ofInt 3) 4 = true := by decide
theorem bv4_3 : (Int32.ofInt 3 < Int32.ofInt 4) = True := by decide
theorem bv4_4 : (Int32.ofInt 4 < Int32.ofInt 4) = False := by decide
theorem bx6_0 : inx (Int32.ofInt 0) 6 = true := by decide
theorem bv6_0 : (Int32.ofInt 0 < Int32.ofInt 6) = True := by decide
theorem bx6_1 : inx (Int32.ofInt 1) 6 = true := by decide
theorem bv6_1 : (Int32.ofInt 1 < Int32.ofInt 6) = True := by decide
theorem bx6_2 : inx (Int32.ofInt 2) 6 = true := by decide
theorem bv6_2 : (Int32.ofInt 2 < Int32.ofInt 6) = True := by decide
theorem bx6_3 : inx (Int32.ofInt 3) 6 = true := by decide
theorem bv6_3 : (Int32.ofInt 3 < Int32.ofInt 6) = True := by decide
theorem bx6_4 : inx (Int32.ofInt 4) 6 = true := by decide
theorem bv6_4 : (Int32.ofInt 4 < Int32.ofInt 6) = True := by decide
theorem bx6_5 : inx (Int32.ofInt 5) 6 = true := by decide
theorem bv6_5 : (Int32.ofInt 5 < Int32.ofInt 6) = True := by decide
theorem bv6_6 : (Int32.ofInt 6 < Int32.ofInt 6) = False := by decide
theorem bx2_0 : inx (Int32.ofInt 0) 2 = true := by decide
theorem bv2_0 : (Int32.ofInt 0 < Int32.ofInt 2) = True := by decide
theorem bx2_1 : inx (Int32.ofInt 1) 2 = true := by decide
theorem bv2_1 : (Int32.ofInt 1 < Int32.ofInt 2) = True := by decide
theorem bv2_2 : (Int32.ofInt 2 < Int32.ofInt 2) = False := by decide
theorem ba0 : Int32.ofInt 0 + Int32.ofInt 1 = Int32.ofInt 1 := by decide
theorem ba1 : Int32.ofInt 1 + Int32.ofInt 1 = Int32.ofInt 2 := by decide
theorem ba2 : Int32.ofInt 2 + Int32.ofInt 1 = Int32.ofInt 3 := by decide
theorem ba3 : Int32.ofInt 3 + Int32.ofInt 1 = Int32.ofInt 4 := by decide
theorem ba4 : Int32.ofInt 4 + Int32.ofInt 1 = Int32.ofInt 5 := by decide
theorem ba5 : Int32.ofInt 5 + Int32.ofInt 1 = Int32.ofInt 6 := by decide
theorem ba6 : Int32.ofInt 6 + Int32.ofInt 1 = Int32.ofInt 7 := by decide
theorem ba7 : Int32.ofInt 7 + Int32.ofInt 1 = Int32.ofInt 8 := by decide
theorem ba8 : Int32.ofInt 8 + Int32.ofInt 1 = Int32.ofInt 9 := by decide
theorem ba9 : Int32.ofInt 9 + Int32.ofInt 1 = Int32.ofInt 10 := by decide
theorem kt15 {N n : Nat} (h : 15 < n) : KT N n 15 = (9, 0) := (if_pos h).trans rfl
theorem bn15 {N q t s : Nat} {I : Nat → Nat → Int32} {L : Nat → Nat → Int64} {D : Nat → Nat → UInt64} : zNew (bs N 15 q t I L D) (9, 0) s = bs N 16 (q + s) t I L D := bs_N rfl
theorem kt16 {N n : Nat} (h : 16 < n) : KT N n 16 = (13, 400) := (if_pos h).trans rfl
theorem bn16 {N q t s : Nat} {I : Nat → Nat → Int32} {L : Nat → Nat → Int64} {D : Nat → Nat → UInt64} : zNew (bs N 16 q t I L D) (13, 400) s = bs N 17 (q + s) t I L D := bs_N rfl
theorem kt17 {N n : Nat} (h : 17 < n) : KT N n 17 = (7, 0) := (if_pos h).trans rfl
theorem bn17 {N q t s : Nat} {I : Nat → Nat → Int32} {L : Nat → Nat → Int64} {D : Nat → Nat → UInt64} : zNew (bs N 17 q t I L D) (7, 0) s = bs N 18 (q + s) t I L D := bs_N rfl
theorem kt18 {N n : Nat} (h : 18 < n) : KT N n 18 = (13, 256) := (if_pos h).trans rfl
theorem bn18 {N q t s : Nat} {I : Nat → Nat → Int32} {L : Nat → Nat → Int64} {D : Nat → Nat → UInt64} : zNew (bs N 18 q t I L D) (13, 256) s = bs N 19 (q + s) t I L D := bs_N rfl
theorem kt19 {N n : Nat} (h : 19 < n) : KT N n 19 = (5, 0) := (if_pos h).trans rfl
theorem bn19 {N q t s : Nat} {I : Nat → Nat → Int32} {L : Nat → Nat → Int64} {D : Nat → Nat → UInt64} : zNew (bs N 19 q t I L D) (5, 0) s = bs N 20 (q + s) t I L D := bs_N rfl
theorem kt20 {N n : Nat} (h : 20 < n) : KT N n 20 = (16, 10) := (if_pos h).trans rfl
theorem bn20 {N q t s : Nat} {I : Nat → Nat → Int32} {L : Nat → Nat → Int64} {D : Nat → Nat → UInt64} : zNew (bs N 20 q t I L D) (16, 10) s = bs N 21 (q + s) t I L D := bs_N rfl
theorem kt21 {N n : Nat} (h : 21 < n) : KT N n 21 = (11, 10) := (if_pos h).trans rfl
theorem bn21 {N q t s : Nat} {I : Nat → Nat → Int32} {L : Nat → Nat → Int64} {D : Nat → Nat → UInt64} : zNew (bs N 21 q t I L D) (11, 10) s = bs N 22 (q + s) t I L D := bs_N rfl
theorem kt22 {N n : Nat} (h : 22 < n) : KT N n 22 = (17, 4) := (if_pos h).trans rfl
theorem bn22 {N q t s : Nat} {I : Nat → Nat → Int32} {L : Nat → Nat → Int64} {D : Nat → Nat → UInt64} : zNew (bs N 22 q t I L D) (17, 4) s = bs N 23 (q + s) t I L D := bs_N rfl
theorem kt23 {N n : Nat} (h : 23 < n) : KT N n 23 = (2, 0) := (if_pos h).trans rfl
theorem bn23 {N q t s : Nat} {I : Nat → Nat → Int32} {L : Nat → Nat → Int64} {D : Nat → Nat → UInt64} : zNew (bs N 23 q t I L D) (2, 0) s = bs N 24 (q + s) t I L D := bs_N rfl
theorem kt24 {N n : Nat} (h : 24 < n) : KT N n 24 = (2, 0) := (if_pos h).trans rfl
theorem bn24 {N q t s : Nat} {I : Nat → Nat → Int32} {L : Nat → Nat → Int64} {D : Nat → Nat → UInt64} : zNew (bs N 24 q t I L D) (2, 0) s = bs N 25 (q + s) t I L D := bs_N rfl
theorem kt25 {N n : Nat} (h : 25 < n) : KT N n 25 = (6, 0) := (if_pos h).trans rfl
theorem bn25 {N q t s : Nat} {I : Nat → Nat → Int32} {L : Nat → Nat → Int64} {D : Nat → Nat → UInt64} : zNew (bs N 25 q t I L D) (6, 0) s = bs N 26 (q + s) t I L D := bs_N rfl
theorem kt26 {N n : Nat} (h : 26 < n) : KT N n 26 = (11, 40) := (if_pos h).trans rfl
theorem bn26 {N q t s : Nat} {I : Nat → Nat → Int32} {L : Nat → Nat → Int64} {D : Nat → Nat → UInt64} : zNew (bs N 26 q t I L D) (11, 40) s = bs N 27 (q + s) t I L D := bs_N rfl
theorem kt27 {N n : Nat} (h : 27 < n) : KT N n 27 = (11, 40) := (if_pos h).trans rfl
theorem bn27 {N q t s : Nat} {I : Nat → Nat → Int32} {L : Nat → Nat → Int64} {D : Nat → Nat → UInt64} : zNew (bs N 27 q t I L D) (11, 40) s = bs N 28 (q + s) t I L D := bs_N rfl
theorem kt28 {N n : Nat} (h : 28 < n) : KT N n 28 = (11, 40) := (if_pos h).trans rfl
theorem bn28 {N q t s : Nat} {I : Nat → Nat → Int32} {L : Nat → Nat → Int64} {D : Nat → Nat → UInt64} : zNew (bs N 28 q t I L D) (11, 40) s = bs N 29 (q + s) t I L D := bs_N rfl
theorem kt29 {N n : Nat} (h : 29 < n) : KT N n 29 = (11, 40) := (if_pos h).trans rfl
theorem bn29 {N q t s : Nat} {I : Nat → Nat → Int32} {L : Nat → Nat → Int64} {D : Nat → Nat → UInt64} : zNew (bs N 29 q t I L D) (11, 40) s = bs N 30 (q + s) t I L D := bs_N rfl
theorem kt30 {N n : Nat} (h : 30 < n) : KT N n 30 = (3, 0) := (if_pos h).trans rfl
theorem bn30 {N q t s : Nat} {I : Nat → Nat → Int32} {L : Nat → Nat → Int64} {D : Nat → Nat → UInt64} : zNew (bs N 30 q t I L D) (3, 0) s = bs N 31 (q + s) t I L D := bs_N rfl
theorem kt31 {N n : Nat} (h : 31 < n) : KT N n 31 = (11, 100) := (if_pos h).trans rfl
theorem bn31 {N q t s : Nat} {I : Nat → Nat → Int32} {L : Nat → Nat → Int64} {D : Nat → Nat → UInt64} : zNew (bs N 31 q t I L D) (11, 100) s = bs N 32 (q + s) t I L D := bs_N rfl
theorem kt32 {N n : Nat} (h : 32 < n) : KT N n 32 = (1, 0) := (if_pos h).trans rfl
theorem bn32 {N q t s : Nat} {I : Nat → Nat → Int32} {L : Nat → Nat → Int64} {D : Nat → Nat → UInt64} : zNew (bs N 32 q t I L D) (1, 0) s = bs N 33 (q + s) t I L D := bs_N rfl
theorem kt33 {N n : Nat} (h : 33 < n) : KT N n 33 = (1, 0) := (if_pos h).trans rfl
theorem bn33 {N q t s : Nat} {I : Nat → Nat → Int32} {L : Nat → Nat → Int64} {D : Nat → Nat → UInt64} : zNew (bs N 33 q t I L D) (1, 0) s = bs N 34 (q + s) t I L D := bs_N rfl
theorem kt34 {N n : Nat} (h : 34 < n) : KT N n 34 = (1, 0) := (if_pos h).trans rfl
theorem bn34 {N q t s : Nat} {I : Nat → Nat → Int32} {L : Nat → Nat → Int64} {D : Nat → Nat → UInt64} : zNew (bs N 34 q t I L D) (1, 0) s = bs N 35 (q + s) t I L D := bs_N rfl
theorem kt35 {N n : Nat} (h : 35 < n) : KT N n 35 = (1, 0) := (if_pos h).trans rfl
theorem bn35 {N q t s : Nat} {I : Nat → Nat → Int32} {L : Nat → Nat → Int64} {D : Nat → Nat → UInt64} : zNew (bs N 35 q t I L D) (1, 0) s = bs N 36 (q + s) t I L D := bs_N rfl
theorem kt36 {N n : Nat} (h : 36 < n) : KT N n 36 = (1, 0) := (if_pos h).trans rfl
theorem bn36 {N q t s : Nat} {I : Nat → Nat → Int32} {L : Nat → Nat → Int64} {D : Nat → Nat → UInt64} : zNew (bs N 36 q t I L D) (1, 0) s = bs N 37 (q + s) t I L D := bs_N rfl
theorem kt37 {N n : Nat} (h : 37 < n) : KT N n 37 = (1, 0) := (if_pos h).trans rfl
theorem bn37 {N q t s : Nat} {I : Nat → Nat → Int32} {L : Nat → Nat → Int64} {D : Nat → Nat → UInt64} : zNew (bs N 37 q t I L D) (1, 0) s = bs N 38 (q + s) t I L D := bs_N rfl
theorem kt38 {N n : Nat} (h : 38 < n) : KT N n 38 = (1, 0) := (if_pos h).trans rfl
theorem bn38 {N q t s : Nat} {I : Nat → Nat → Int32} {L : Nat → Nat → Int64} {D : Nat → Nat → UInt64} : zNew (bs N 38 q t I L D) (1, 0) s = bs N 39 (q + s) t I L D := bs_N rfl
theorem kt39 {N n : Nat} (h : 39 < n) : KT N n 39 = (1, 0) := (if_pos h).trans rfl
theorem bn39 {N q t s : Nat} {I : Nat → Nat → Int32} {L : Nat → Nat → Int64} {D : Nat → Nat → UInt64} : zNew (bs N 39 q t I L D) (1, 0) s = bs N 40 (q + s) t I L D := bs_N rfl
theorem kt40 {N n : Nat} (h : 40 < n) : KT N n 40 = (1, 0) := (if_pos h).trans rfl
theorem bn40 {N q t s : Nat} {I : Nat → Nat → Int32} {L : Nat → Nat → Int64} {D : Nat → Nat → UInt64} : zNew (bs N 40 q t I L D) (1, 0) s = bs N 41 (q + s) t I L D := bs_N rfl
theorem kt41 {N n : Nat} (h : 41 < n) : KT N n 41 = (1, 0) := (if_pos h).trans rfl
theorem bn41 {N q t s : Nat} {I : Nat → Nat → Int32} {L : Nat → Nat → Int64} {D : Nat → Nat → UInt64} : zNew (bs N 41 q t I L D) (1, 0) s = bs N 42 (q + s) t I L D := bs_N rfl
theorem kt42 {N n : Nat} (h : 42 < n) : KT N n 42 = (2, 0) := (if_pos h).trans rfl
theorem bn42 {N q t s : Nat} {I : Nat → Nat → Int32} {L : Nat → Nat → Int64} {D : Nat → Nat → UInt64} : zNew (bs N 42 q t I L D) (2, 0) s = bs N 43 (q + s) t I L D := bs_N rfl
theorem kt43 {N n : Nat} (h : 43 < n) : KT N n 43 = (2, 0) := (if_pos h).trans rfl
theorem bn43 {N q t s : Nat} {I : Nat → Nat → Int32} {L : Nat → Nat → Int64} {D : Nat → Nat → UInt64} : zNew (bs N 43 q t I L D) (2, 0) s = bs N 44 (q + s) t I L D := bs_N rfl
theorem kt44 {N n : Nat} (h : 44 < n) : KT N n 44 = (2, 0) := (if_pos h).trans rfl
theorem bn44 {N q t s : Nat} {I : Nat → Nat → Int32} {L : Nat → Nat → Int64} {D : Nat → Nat → UInt64} : zNew (bs N 44 q t I L D) (2, 0) s = bs N 45 (q + s) t I L D := bs_N rfl
theorem kt45 {N n : Nat} (h : 45 < n) : KT N n 45 = (2, 0) := (if_pos h).trans rfl
theorem bn45 {N q t s : Nat} {I : Nat → Nat → Int32} {L : Nat → Nat → Int64} {D : Nat → Nat → UInt64} : zNew (bs N 45 q t I L D) (2, 0) s = bs N 46 (q + s) t I L D := bs_N rfl
theorem kt46 {N n : Nat} (h : 46 < n) : KT N n 46 = (5, 0) := (if_pos h).trans rfl
theorem bn46 {N q t s : Nat} {I : Nat → Nat → Int32} {L : Nat → Nat → Int64} {D : Nat → Nat → UInt64} : zNew (bs N 46 q t I L D) (5, 0) s = bs N 47 (q + s) t I L D := bs_N rfl
theorem kt47 {N n : Nat} (h : 47 < n) : KT N n 47 = (16, 10) := (if_pos h).trans rfl
theorem bn47 {N q t s : Nat} {I : Nat → Nat → Int32} {L : Nat → Nat → Int64} {D : Nat → Nat → UInt64} : zNew (bs N 47 q t I L D) (16, 10) s = bs N 48 (q + s) t I L D := bs_N rfl
theorem kt48 {N n : Nat} (h : 48 < n) : KT N n 48 = (11, 10) := (if_pos h).trans rfl
theorem bn48 {N q t s : Nat} {I : Nat → Nat → Int32} {L : Nat → Nat → Int64} {D : Nat → Nat → UInt64} : zNew (bs N 48 q t I L D) (11, 10) s = bs N 49 (q + s) t I L D := bs_N rfl
theorem kt49 {N n : Nat} (h : 49 < n) : KT N n 49 = (17, 4) := (if_pos h).trans rfl
theorem bn49 {N q t s : Nat} {I : Nat → Nat → Int32} {L : Nat → Nat → Int64} {D : Nat → Nat → UInt64} : zNew (bs N 49 q t I L D) (17, 4) s = bs N 50 (q + s) t I L D := bs_N rfl
theorem kt50 {N n : Nat} (h : 50 < n) : KT N n 50 = (2, 0) := (if_pos h).trans rfl
theorem bn50 {N q t s : Nat} {I : Nat → Nat → Int32} {L : Nat → Nat → Int64} {D : Nat → Nat → UInt64} : zNew (bs N 50 q t I L D) (2, 0) s = bs N 51 (q + s) t I L D := bs_N rfl
theorem kt51 {N n : Nat} (h : 51 < n) : KT N n 51 = (2, 0) := (if_pos h).trans rfl
theorem bn51 {N q t s : Nat} {I : Nat → Nat → Int32} {L : Nat → Nat → Int64} {D : Nat → Nat → UInt64} : zNew (bs N 51 q t I L D) (2, 0) s = bs N 52 (q + s) t I L D := bs_N rfl
theorem kt52 {N n : Nat} (h : 52 < n) : KT N n 52 = (6, 0) := (if_pos h).trans rfl
theorem bn52 {N q t s : Nat} {I : Nat → Nat → Int32} {L : Nat → Nat → Int64} {D : Nat → Nat → UInt64} : zNew (bs N 52 q t I L D) (6, 0) s = bs N 53 (q + s) t I L D := bs_N rfl
theorem kt53 {N n : Nat} (h : 53 < n) : KT N n 53 = (11, 40) := (if_pos h).trans rfl
theorem bn53 {N q t s : Nat} {I : Nat → Nat → Int32} {L : Nat → Nat → Int64} {D : Nat → Nat → UInt64} : zNew (bs N 53 q t I L D) (11, 40) s = bs N 54 (q + s) t I L D := bs_N rfl
theorem kt54 {N n : Nat} (h : 54 < n) : KT N n 54 = (11, 40) := (if_pos h).trans rfl
theorem bn54 {N q t s : Nat} {I : Nat → Nat → Int32} {L : Nat → Nat → Int64} {D : Nat → Nat → UInt64} : zNew (bs N 54 q t I L D) (11, 40) s = bs N 55 (q + s) t I L D := bs_N rfl
theorem kt55 {N n : Nat} (h : 55 < n) : KT N n 55 = (11, 40) := (if_pos h).trans rfl
theorem bn55 {N q t s : Nat} {I : Nat → Nat → Int32} {L : Nat → Nat → Int64} {D : Nat → Nat → UInt64} : zNew (bs N 55 q t I L D) (11, 40) s = bs N 56 (q + s) t I L D := bs_N rfl
theorem kt56 {N n : Nat} (h : 56 < n) : KT N n 56 = (11, 40) := (if_pos h).trans rfl
theorem bn56 {N q t s : Nat} {I : Nat → Nat → Int32} {L : Nat → Nat → Int64} {D : Nat → Nat → UInt64} : zNew (bs N 56 q t I L D) (11, 40) s = bs N 57 (q + s) t I L D := bs_N rfl
theorem kt57 {N n : Nat} (h : 57 < n) : KT N n 57 = (3, 0) := (if_pos h).trans rfl
theorem bn57 {N q t s : Nat} {I : Nat → Nat → Int32} {L : Nat → Nat → Int64} {D : Nat → Nat → UInt64} : zNew (bs N 57 q t I L D) (3, 0) s = bs N 58 (q + s) t I L D := bs_N rfl
theorem kt58 {N n : Nat} (h : 58 < n) : KT N n 58 = (11, 100) := (if_pos h).trans rfl
theorem bn58 {N q t s : Nat} {I : Nat → Nat → Int32} {L : Nat → Nat → Int64} {D : Nat → Nat → UInt64} : zNew (bs N 58 q t I L D) (11, 100) s = bs N 59 (q + s) t I L D := bs_N rfl
theorem kt59 {N n : Nat} (h : 59 < n) : KT N n 59 = (1, 0) := (if_pos h).trans rfl
theorem bn59 {N q t s : Nat} {I : Nat → Nat → Int32} {L : Nat → Nat → Int64} {D : Nat → Nat → UInt64} : zNew (bs N 59 q t I L D) (1, 0) s = bs N 60 (q + s) t I L D := bs_N rfl
theorem kt60 {N n : Nat} (h : 60 < n) : KT N n 60 = (1, 0) := (if_pos h).trans rfl
theorem bn60 {N q t s : Nat} {I : Nat → Nat → Int32} {L : Nat → Nat → Int64} {D : Nat → Nat → UInt64} : zNew (bs N 60 q t I L D) (1, 0) s = bs N 61 (q + s) t I L D := bs_N rfl
theorem kt61 {N n : Nat} (h : 61 < n) : KT N n 61 = (1, 0) := (if_pos h).trans rfl
theorem bn61 {N q t s : Nat} {I : Nat → Nat → Int32} {L : Nat → Nat → Int64} {D : Nat → Nat → UInt64} : zNew (bs N 61 q t I L D) (1, 0) s = bs N 62 (q + s) t I L D := bs_N rfl
theorem kt62 {N n : Nat} (h : 62 < n) : KT N n 62 = (1, 0) := (if_pos h).trans rfl
theorem bn62 {N q t s : Nat} {I : Nat → Nat → Int32} {L : Nat → Nat → Int64} {D : Nat → Nat → UInt64} : zNew (bs N 62 q t I L D) (1, 0) s = bs N 63 (q + s) t I L D := bs_N rfl
theorem kt63 {N n : Nat} (h : 63 < n) : KT N n 63 = (1, 0) := (if_pos h).trans rfl
theorem bn63 {N q t s : Nat} {I : Nat → Nat → Int32} {L : Nat → Nat → Int64} {D : Nat → Nat → UInt64} : zNew (bs N 63 q t I L D) (1, 0) s = bs N 64 (q + s) t I L D := bs_N rfl
theorem kt64 {N n : Nat} (h : 64 < n) : KT N n 64 = (1, 0) := (if_pos h).trans rfl
theorem bn64 {N q t s : Nat} {I : Nat → Nat → Int32} {L : Nat → Nat → Int64} {D : Nat → Nat → UInt64} : zNew (bs N 64 q t I L D) (1, 0) s = bs N 65 (q + s) t I L D := bs_N rfl
theorem kt65 {N n : Nat} (h : 65 < n) : KT N n 65 = (1, 0) := (if_pos h).trans rfl
theorem bn65 {N q t s : Nat} {I : Nat → Nat → Int32} {L : Nat → Nat → Int64} {D : Nat → Nat → UInt64} : zNew (bs N 65 q t I L D) (1, 0) s = bs N 66 (q + s) t I L D := bs_N rfl
theorem kt66 {N n : Nat} (h : 66 < n) : KT N n 66 = (1, 0) := (if_pos h).trans rfl
theorem bn66 {N q t s : Nat} {I : Nat → Nat → Int32} {L : Nat → Nat → Int64} {D : Nat → Nat → UInt64} : zNew (bs N 66 q t I L D) (1, 0) s = bs N 67 (q + s) t I L D := bs_N rfl
theorem kt67 {N n : Nat} (h : 67 < n) : KT N n 67 = (1, 0) := (if_pos h).trans rfl
theorem bn67 {N q t s : Nat} {I : Nat → Nat → Int32} {L : Nat → Nat → Int64} {D : Nat → Nat → UInt64} : zNew (bs N 67 q t I L D) (1, 0) s = bs N 68 (q + s) t I L D := bs_N rfl
theorem kt68 {N n : Nat} (h : 68 < n) : KT N n 68 = (1, 0) := (if_pos h).trans rfl
theorem bn68 {N q t s : Nat} {I : Nat → Nat → Int32} {L : Nat → Nat → Int64} {D : Nat → Nat → UInt64} : zNew (bs N 68 q t I L D) (1, 0) s = bs N 69 (q + s) t I L D := bs_N rfl
theorem kt69 {N n : Nat} (h : 69 < n) : KT N n 69 = (2, 0) := (if_pos h).trans rfl
theorem bn69 {N q t s : Nat} {I : Nat → Nat → Int32} {L : Nat → Nat → Int64} {D : Nat → Nat → UInt64} : zNew (bs N 69 q t I L D) (2, 0) s = bs N 70 (q + s) t I L D := bs_N rfl
theorem kt70 {N n : Nat} (h : 70 < n) : KT N n 70 = (2, 0) := (if_pos h).trans rfl
theorem bn70 {N q t s : Nat} {I : Nat → Nat → Int32} {L : Nat → Nat → Int64} {D : Nat → Nat → UInt64} : zNew (bs N 70 q t I L D) (2, 0) s = bs N 71 (q + s) t I L D := bs_N rfl
theorem kt71 {N n : Nat} (h : 71 < n) : KT N n 71 = (2, 0) := (if_pos h).trans rfl
theorem bn71 {N q t s : Nat} {I : Nat → Nat → Int32} {L : Nat → Nat → Int64} {D : Nat → Nat → UInt64} : zNew (bs N 71 q t I L D) (2, 0) s = bs N 72 (q + s) t I L D := bs_N rfl
theorem kt72 {N n : Nat} (h : 72 < n) : KT N n 72 = (2, 0) := (if_pos h).trans rfl
theorem bn72 {N q t s : Nat} {I : Nat → Nat → Int32} {L : Nat → Nat → Int64} {D : Nat → Nat → UInt64} : zNew (bs N 72 q t I L D) (2, 0) s = bs N 73 (q + s) t I L D := bs_N rfl
theorem kt73 {N n : Nat} (h : 73 < n) : KT N n 73 = (8, 0) := (if_pos h).trans rfl
theorem bn73 {N q t s : Nat} {I : Nat → Nat → Int32} {L : Nat → Nat → Int64} {D : Nat → Nat → UInt64} : zNew (bs N 73 q t I L D) (8, 0) s = bs N 74 (q + s) t I L D := bs_N rfl
theorem kt74 {N n : Nat} (h : 74 < n) : KT N n 74 = (4, 0) := (if_pos h).trans rfl
theorem bn74 {N q t s : Nat} {I : Nat → Nat → Int32} {L : Nat → Nat → Int64} {D : Nat → Nat → UInt64} : zNew (bs N 74 q t I L D) (4, 0) s = bs N 75 (q + s) t I L D := bs_N rfl
theorem kt75 {N n : Nat} (h : 75 < n) : KT N n 75 = (18, 6) := (if_pos h).trans rfl
theorem bn75 {N q t s : Nat} {I : Nat → Nat → Int32} {L : Nat → Nat → Int64} {D : Nat → Nat → UInt64} : zNew (bs N 75 q t I L D) (18, 6) s = bs N 76 (q + s) t I L D := bs_N rfl
theorem kt76 {N n : Nat} (h : 76 < n) : KT N n 76 = (5, 0) := (if_pos h).trans rfl
theorem bn76 {N q t s : Nat} {I : Nat → Nat → Int32} {L : Nat → Nat → Int64} {D : Nat → Nat → UInt64} : zNew (bs N 76 q t I L D) (5, 0) s = bs N 77 (q + s) t I L D := bs_N rfl
theorem kt77 {N n : Nat} (h : 77 < n) : KT N n 77 = (16, 10) := (if_pos h).trans rfl
theorem bn77 {N q t s : Nat} {I : Nat → Nat → Int32} {L : Nat → Nat → Int64} {D : Nat → Nat → UInt64} : zNew (bs N 77 q t I L D) (16, 10) s = bs N 78 (q + s) t I L D := bs_N rfl
theorem kt78 {N n : Nat} (h : 78 < n) : KT N n 78 = (11, 10) := (if_pos h).trans rfl
theorem bn78 {N q t s : Nat} {I : Nat → Nat → Int32} {L : Nat → Nat → Int64} {D : Nat → Nat → UInt64} : zNew (bs N 78 q t I L D) (11, 10) s = bs N 79 (q + s) t I L D := bs_N rfl
theorem kt79 {N n : Nat} (h : 79 < n) : KT N n 79 = (17, 4) := (if_pos h).trans rfl
theorem bn79 {N q t s : Nat} {I : Nat → Nat → Int32} {L : Nat → Nat → Int64} {D : Nat → Nat → UInt64} : zNew (bs N 79 q t I L D) (17, 4) s = bs N 80 (q + s) t I L D := bs_N rfl
theorem kt80 {N n : Nat} (h : 80 < n) : KT N n 80 = (2, 0) := (if_pos h).trans rfl
theorem bn80 {N q t s : Nat} {I : Nat → Nat → Int32} {L : Nat → Nat → Int64} {D : Nat → Nat → UInt64} : zNew (bs N 80 q t I L D) (2, 0) s = bs N 81 (q + s) t I L D := bs_N rfl
theorem kt81 {N n : Nat} (h : 81 < n) : KT N n 81 = (2, 0) := (if_pos h).trans rfl
theorem bn81 {N q t s : Nat} {I : Nat → Nat → Int32} {L : Nat → Nat → Int64} {D : Nat → Nat → UInt64} : zNew (bs N 81 q t I L D) (2, 0) s = bs N 82 (q + s) t I L D := bs_N rfl
theorem kt82 {N n : Nat} (h : 82 < n) : KT N n 82 = (6, 0) := (if_pos h).trans rfl
theorem bn82 {N q t s : Nat} {I : Nat → Nat → Int32} {L : Nat → Nat → Int64} {D : Nat → Nat → UInt64} : zNew (bs N 82 q t I L D) (6, 0) s = bs N 83 (q + s) t I L D := bs_N rfl
theorem kt83 {N n : Nat} (h : 83 < n) : KT N n 83 = (11, 40) := (if_pos h).trans rfl
theorem bn83 {N q t s : Nat} {I : Nat → Nat → Int32} {L : Nat → Nat → Int64} {D : Nat → Nat → UInt64} : zNew (bs N 83 q t I L D) (11, 40) s = bs N 84 (q + s) t I L D := bs_N rfl
theorem kt84 {N n : Nat} (h : 84 < n) : KT N n 84 = (11, 40) := (if_pos h).trans rfl
theorem bn84 {N q t s : Nat} {I : Nat → Nat → Int32} {L : Nat → Nat → Int64} {D : Nat → Nat → UInt64} : zNew (bs N 84 q t I L D) (11, 40) s = bs N 85 (q + s) t I L D := bs_N rfl
theorem kt85 {N n : Nat} (h : 85 < n) : KT N n 85 = (11, 40) := (if_pos h).trans rfl
theorem bn85 {N q t s : Nat} {I : Nat → Nat → Int32} {L : Nat → Nat → Int64} {D : Nat → Nat → UInt64} : zNew (bs N 85 q t I L D) (11, 40) s = bs N 86 (q + s) t I L D := bs_N rfl
theorem kt86 {N n : Nat} (h : 86 < n) : KT N n 86 = (11, 40) := (if_pos h).trans rfl
theorem bn86 {N q t s : Nat} {I : Nat → Nat → Int32} {L : Nat → Nat → Int64} {D : Nat → Nat → UInt64} : zNew (bs N 86 q t I L D) (11, 40) s = bs N 87 (q + s) t I L D := bs_N rfl
theorem kt87 {N n : Nat} (h : 87 < n) : KT N n 87 = (3, 0) := (if_pos h).trans rfl
theorem bn87 {N q t s : Nat} {I : Nat → Nat → Int32} {L : Nat → Nat → Int64} {D : Nat → Nat → UInt64} : zNew (bs N 87 q t I L D) (3, 0) s = bs N 88 (q + s) t I L D := bs_N rfl
theorem kt88 {N n : Nat} (h : 88 < n) : KT N n 88 = (11, 100) := (if_pos h).trans rfl
theorem bn88 {N q t s : Nat} {I : Nat → Nat → Int32} {L : Nat → Nat → Int64} {D : Nat → Nat → UInt64} : zNew (bs N 88 q t I L D) (11, 100) s = bs N 89 (q + s) t I L D := bs_N rfl
theorem kt89 {N n : Nat} (h : 89 < n) : KT N n 89 = (1, 0) := (if_pos h).trans rfl
theorem bn89 {N q t s : Nat} {I : Nat → Nat → Int32} {L : Nat → Nat → Int64} {D : Nat → Nat → UInt64} : zNew (bs N 89 q t I L D) (1, 0) s = bs N 90 (q + s) t I L D := bs_N rfl
theorem kt90 {N n : Nat} (h : 90 < n) : KT N n 90 = (1, 0) := (if_pos h).trans rfl
theorem bn90 {N q t s : Nat} {I : Nat → Nat → Int32} {L : Nat → Nat → Int64} {D : Nat → Nat → UInt64} : zNew (bs N 90 q t I L D) (1, 0) s = bs N 91 (q + s) t I L D := bs_N rfl
theorem kt91 {N n : Nat} (h : 91 < n) : KT N n 91 = (1, 0) := (if_pos h).trans rfl
theorem bn91 {N q t s : Nat} {I : Nat → Nat → Int32} {L : Nat → Nat → Int64} {D : Nat → Nat → UInt64} : zNew (bs N 91 q t I L D) (1, 0) s = bs N 92 (q + s) t I L D := bs_N rfl
theorem kt92 {N n : Nat} (h : 92 < n) : KT N n 92 = (1, 0) := (if_pos h).trans rfl
theorem bn92 {N q t s : Nat} {I : Nat → Nat → Int32} {L : Nat → Nat → Int64} {D : Nat → Nat → UInt64} : zNew (bs N 92 q t I L D) (1, 0) s = bs N 93 (q + s) t I L D := bs_N rfl
theorem kt93 {N n : Nat} (h : 93 < n) : KT N n 93 = (1, 0) := (if_pos h).trans rfl
theorem bn93 {N q t s : Nat} {I : Nat → Nat → Int32} {L : Nat → Nat → Int64} {D : Nat → Nat → UInt64} : zNew (bs N 93 q t I L D) (1, 0) s = bs N 94 (q + s) t I L D := bs_N rfl
theorem kt94 {N n : Nat} (h : 94 < n) : KT N n 94 = (1, 0) := (if_pos h).trans rfl
theorem bn94 {N q t s : Nat} {I : Nat → Nat → Int32} {L : Nat → Nat → Int64} {D : Nat → Nat → UInt64} : zNew (bs N 94 q t I L D) (1, 0) s = bs N 95 (q + s) t I L D := bs_N rfl
theorem kt95 {N n : Nat} (h : 95 < n) : KT N n 95 = (1, 0) := (if_pos h).trans rfl
theorem bn95 {N q t s : Nat} {I : Nat → Nat → Int32} {L : Nat → Nat → Int64} {D : Nat → Nat → UInt64} : zNew (bs N 95 q t I L D) (1, 0) s = bs N 96 (q + s) t I L D := bs_N rfl
theorem kt96 {N n : Nat} (h : 96 < n) : KT N n 96 = (1, 0) := (if_pos h).trans rfl
theorem bn96 {N q t s : Nat} {I : Nat → Nat → Int32} {L : Nat → Nat → Int64} {D : Nat → Nat → UInt64} : zNew (bs N 96 q t I L D) (1, 0) s = bs N 97 (q + s) t I L D := bs_N rfl
theorem kt97 {N n : Nat} (h : 97 < n) : KT N n 97 = (1, 0) := (if_pos h).trans rfl
theorem bn97 {N q t s : Nat} {I : Nat → Nat → Int32} {L : Nat → Nat → Int64} {D : Nat → Nat → UInt64} : zNew (bs N 97 q t I L D) (1, 0) s = bs N 98 (q + s) t I L D := bs_N rfl
theorem kt98 {N n : Nat} (h : 98 < n) : KT N n 98 = (1, 0) := (if_pos h).trans rfl
theorem bn98 {N q t s : Nat} {I : Nat → Nat → Int32} {L : Nat → Nat → Int64} {D : Nat → Nat → UInt64} : zNew (bs N 98 q t I L D) (1, 0) s = bs N 99 (q + s) t I L D := bs_N rfl
theorem kt99 {N n : Nat} (h : 99 < n) : KT N n 99 = (2, 0) := (if_pos h).trans rfl
theorem bn99 {N q t s : Nat} {I : Nat → Nat → Int32} {L : Nat → Nat → Int64} {D : Nat → Nat → UInt64} : zNew (bs N 99 q t I L D) (2, 0) s = bs N 100 (q + s) t I L D := bs_N rfl
theorem kt100 {N n : Nat} (h : 100 < n) : KT N n 100 = (2, 0) := (if_pos h).trans rfl
theorem bn100 {N q t s : Nat} {I : Nat → Nat → Int32} {L : Nat → Nat → Int64} {D : Nat → Nat → UInt64} : zNew (bs N 100 q t I L D) (2, 0) s = bs N 101 (q + s) t I L D := bs_N rfl
theorem kt101 {N n : Nat} (h : 101 < n) : KT N n 101 = (2, 0) := (if_pos h).trans rfl
theorem bn101 {N q t s : Nat} {I : Nat → Nat → Int32} {L : Nat → Nat → Int64} {D : Nat → Nat → UInt64} : zNew (bs N 101 q t I L D) (2, 0) s = bs N 102 (q + s) t I L D := bs_N rfl
theorem kt102 {N n : Nat} (h : 102 < n) : KT N n 102 = (2, 0) := (if_pos h).trans rfl
theorem bn102 {N q t s : Nat} {I : Nat → Nat → Int32} {L : Nat → Nat → Int64} {D : Nat → Nat → UInt64} : zNew (bs N 102 q t I L D) (2, 0) s = bs N 103 (q + s) t I L D := bs_N rfl
theorem kt103 {N n : Nat} (h : 103 < n) : KT N n 103 = (5, 0) := (if_pos h).trans rfl
theorem bn103 {N q t s : Nat} {I : Nat → Nat → Int32} {L : Nat → Nat → Int64} {D : Nat → Nat → UInt64} : zNew (bs N 103 q t I L D) (5, 0) s = bs N 104 (q + s) t I L D := bs_N rfl
theorem kt104 {N n : Nat} (h : 104 < n) : KT N n 104 = (16, 10) := (if_pos h).trans rfl
theorem bn104 {N q t s : Nat} {I : Nat → Nat → Int32} {L : Nat → Nat → Int64} {D : Nat → Nat → UInt64} : zNew (bs N 104 q t I L D) (16, 10) s = bs N 105 (q + s) t I L D := bs_N rfl
theorem kt105 {N n : Nat} (h : 105 < n) : KT N n 105 = (11, 10) := (if_pos h).trans rfl
theorem bn105 {N q t s : Nat} {I : Nat → Nat → Int32} {L : Nat → Nat → Int64} {D : Nat → Nat → UInt64} : zNew (bs N 105 q t I L D) (11, 10) s = bs N 106 (q + s) t I L D := bs_N rfl
theorem kt106 {N n : Nat} (h : 106 < n) : KT N n 106 = (17, 4) := (if_pos h).trans rfl
theorem bn106 {N q t s : Nat} {I : Nat → Nat → Int32} {L : Nat → Nat → Int64} {D : Nat → Nat → UInt64} : zNew (bs N 106 q t I L D) (17, 4) s = bs N 107 (q + s) t I L D := bs_N rfl
theorem kt107 {N n : Nat} (h : 107 < n) : KT N n 107 = (2, 0) := (if_pos h).trans rfl
theorem bn107 {N q t s : Nat} {I : Nat → Nat → Int32} {L : Nat → Nat → Int64} {D : Nat → Nat → UInt64} : zNew (bs N 107 q t I L D) (2, 0) s = bs N 108 (q + s) t I L D := bs_N rfl
theorem kt108 {N n : Nat} (h : 108 < n) : KT N n 108 = (2, 0) := (if_pos h).trans rfl
theorem bn108 {N q t s : Nat} {I : Nat → Nat → Int32} {L : Nat → Nat → Int64} {D : Nat → Nat → UInt64} : zNew (bs N 108 q t I L D) (2, 0) s = bs N 109 (q + s) t I L D := bs_N rfl
theorem kt109 {N n : Nat} (h : 109 < n) : KT N n 109 = (6, 0) := (if_pos h).trans rfl
theorem bn109 {N q t s : Nat} {I : Nat → Nat → Int32} {L : Nat → Nat → Int64} {D : Nat → Nat → UInt64} : zNew (bs N 109 q t I L D) (6, 0) s = bs N 110 (q + s) t I L D := bs_N rfl
theorem kt110 {N n : Nat} (h : 110 < n) : KT N n 110 = (11, 40) := (if_pos h).trans rfl
theorem bn110 {N q t s : Nat} {I : Nat → Nat → Int32} {L : Nat → Nat → Int64} {D : Nat → Nat → UInt64} : zNew (bs N 110 q t I L D) (11, 40) s = bs N 111 (q + s) t I L D := bs_N rfl
theorem kt111 {N n : Nat} (h : 111 < n) : KT N n 111 = (11, 40) := (if_pos h).trans rfl
theorem bn111 {N q t s : Nat} {I : Nat → Nat → Int32} {L : Nat → Nat → Int64} {D : Nat → Nat → UInt64} : zNew (bs N 111 q t I L D) (11, 40) s = bs N 112 (q + s) t I L D := bs_N rfl
theorem kt112 {N n : Nat} (h : 112 < n) : KT N n 112 = (11, 40) := (if_pos h).trans rfl
theorem bn112 {N q t s : Nat} {I : Nat → Nat → Int32} {L : Nat → Nat → Int64} {D : Nat → Nat → UInt64} : zNew (bs N 112 q t I L D) (11, 40) s = bs N 113 (q + s) t I L D := bs_N rfl
theorem kt113 {N n : Nat} (h : 113 < n) : KT N n 113 = (11, 40) := (if_pos h).trans rfl
theorem bn113 {N q t s : Nat} {I : Nat → Nat → Int32} {L : Nat → Nat → Int64} {D : Nat → Nat → UInt64} : zNew (bs N 113 q t I L D) (11, 40) s = bs N 114 (q + s) t I L D := bs_N rfl
theorem kt114 {N n : Nat} (h : 114 < n) : KT N n 114 = (3, 0) := (if_pos h).trans rfl
theorem bn114 {N q t s : Nat} {I : Nat → Nat → Int32} {L : Nat → Nat → Int64} {D : Nat → Nat → UInt64} : zNew (bs N 114 q t I L D) (3, 0) s = bs N 115 (q + s) t I L D := bs_N rfl
theorem kt115 {N n : Nat} (h : 115 < n) : KT N n 115 = (11, 100) := (if_pos h).trans rfl
theorem bn115 {N q t s : Nat} {I : Nat → Nat → Int32} {L : Nat → Nat → Int64} {D : Nat → Nat → UInt64} : zNew (bs N 115 q t I L D) (11, 100) s = bs N 116 (q + s) t I L D := bs_N rfl
theorem kt116 {N n : Nat} (h : 116 < n) : KT N n 116 = (1, 0) := (if_pos h).trans rfl
theorem bn116 {N q t s : Nat} {I : Nat → Nat → Int32} {L : Nat → Nat → Int64} {D : Nat → Nat → UInt64} : zNew (bs N 116 q t I L D) (1, 0) s = bs N 117 (q + s) t I L D := bs_N rfl
theorem kt117 {N n : Nat} (h : 117 < n) : KT N n 117 = (1, 0) := (if_pos h).trans rfl
theorem bn117 {N q t s : Nat} {I : Nat → Nat → Int32} {L : Nat → Nat → Int64} {D : Nat → Nat → UInt64} : zNew (bs N 117 q t I L D) (1, 0) s = bs N 118 (q + s) t I L D := bs_N rfl
theorem kt118 {N n : Nat} (h : 118 < n) : KT N n 118 = (1, 0) := (if_pos h).trans rfl
theorem bn118 {N q t s : Nat} {I : Nat → Nat → Int32} {L : Nat → Nat → Int64} {D : Nat → Nat → UInt64} : zNew (bs N 118 q t I L D) (1, 0) s = bs N 119 (q + s) t I L D := bs_N rfl
theorem kt119 {N n : Nat} (h : 119 < n) : KT N n 119 = (1, 0) := (if_pos h).trans rfl
theorem bn119 {N q t s : Nat} {I : Nat → Nat → Int32} {L : Nat → Nat → Int64} {D : Nat → Nat → UInt64} : zNew (bs N 119 q t I L D) (1, 0) s = bs N 120 (q + s) t I L D := bs_N rfl
theorem kt120 {N n : Nat} (h : 120 < n) : KT N n 120 = (1, 0) := (if_pos h).trans rfl
theorem bn120 {N q t s : Nat} {I : Nat → Nat → Int32} {L : Nat → Nat → Int64} {D : Nat → Nat → UInt64} : zNew (bs N 120 q t I L D) (1, 0) s = bs N 121 (q + s) t I L D := bs_N rfl
theorem kt121 {N n : Nat} (h : 121 < n) : KT N n 121 = (1, 0) := (if_pos h).trans rfl
theorem bn121 {N q t s : Nat} {I : Nat → Nat → Int32} {L : Nat → Nat → Int64} {D : Nat → Nat → UInt64} : zNew (bs N 121 q t I L D) (1, 0) s = bs N 122 (q + s) t I L D := bs_N rfl
theorem kt122 {N n : Nat} (h : 122 < n) : KT N n 122 = (1, 0) := (if_pos h).trans rfl
theorem bn122 {N q t s : Nat} {I : Nat → Nat → Int32} {L : Nat → Nat → Int64} {D : Nat → Nat → UInt64} : zNew (bs N 122 q t I L D) (1, 0) s = bs N 123 (q + s) t I L D := bs_N rfl
theorem kt123 {N n : Nat} (h : 123 < n) : KT N n 123 = (1, 0) := (if_pos h).trans rfl
theorem bn123 {N q t s : Nat} {I : Nat → Nat → Int32} {L : Nat → Nat → Int64} {D : Nat → Nat → UInt64} : zNew (bs N 123 q t I L D) (1, 0) s = bs N 124 (q + s) t I L D := bs_N rfl
theorem kt124 {N n : Nat} (h : 124 < n) : KT N n 124 = (1, 0) := (if_pos h).trans rfl
theorem bn124 {N q t s : Nat} {I : Nat → Nat → Int32} {L : Nat → Nat → Int64} {D : Nat → Nat → UInt64} : zNew (bs N 124 q t I L D) (1, 0) s = bs N 125 (q + s) t I L D := bs_N rfl
theorem kt125 {N n : Nat} (h : 125 < n) : KT N n 125 = (1, 0) := (if_pos h).trans rfl
theorem bn125 {N q t s : Nat} {I : Nat → Nat → Int32} {L : Nat → Nat → Int64} {D : Nat → Nat → UInt64} : zNew (bs N 125 q t I L D) (1, 0) s = bs N 126 (q + s) t I L D := bs_N rfl
theorem kt126 {N n : Nat} (h : 126 < n) : KT N n 126 = (2, 0) := (if_pos h).trans rfl
theorem bn126 {N q t s : Nat} {I : Nat → Nat → Int32} {L : Nat → Nat → Int64} {D : Nat → Nat → UInt64} : zNew (bs N 126 q t I L D) (2, 0) s = bs N 127 (q + s) t I L D := bs_N rfl
theorem kt127 {N n : Nat} (h : 127 < n) : KT N n 127 = (2, 0) := (if_pos h).trans rfl
theorem bn127 {N q t s : Nat} {I : Nat → Nat → Int32} {L : Nat → Nat → Int64} {D : Nat → Nat → UInt64} : zNew (bs N 127 q t I L D) (2, 0) s = bs N 128 (q + s) t I L D := bs_N rfl
theorem kt128 {N n : Nat} (h : 128 < n) : KT N n 128 = (2, 0) := (if_pos h).trans rfl
theorem bn128 {N q t s : Nat} {I : Nat → Nat → Int32} {L : Nat → Nat → Int64} {D : Nat → Nat → UInt64} : zNew (bs N 128 q t I L D) (2, 0) s = bs N 129 (q + s) t I L D := bs_N rfl
theorem kt129 {N n : Nat} (h : 129 < n) : KT N n 129 = (2, 0) := (if_pos h).trans rfl
theorem bn129 {N q t s : Nat} {I : Nat → Nat → Int32} {L : Nat → Nat → Int64} {D : Nat → Nat → UInt64} : zNew (bs N 129 q t I L D) (2, 0) s = bs N 130 (q + s) t I L D := bs_N rfl
theorem kt130 {N n : Nat} (h : 130 < n) : KT N n 130 = (5, 0) := (if_pos h).trans rfl
theorem bn130 {N q t s : Nat} {I : Nat → Nat → Int32} {L : Nat → Nat → Int64} {D : Nat → Nat → UInt64} : zNew (bs N 130 q t I L D) (5, 0) s = bs N 131 (q + s) t I L D := bs_N rfl
theorem kt131 {N n : Nat} (h : 131 < n) : KT N n 131 = (16, 10) := (if_pos h).trans rfl
theorem bn131 {N q t s : Nat} {I : Nat → Nat → Int32} {L : Nat → Nat → Int64} {D : Nat → Nat → UInt64} : zNew (bs N 131 q t I L D) (16, 10) s = bs N 132 (q + s) t I L D := bs_N rfl
theorem kt132 {N n : Nat} (h : 132 < n) : KT N n 132 = (11, 10) := (if_pos h).trans rfl
theorem bn132 {N q t s : Nat} {I : Nat → Nat → Int32} {L : Nat → Nat → Int64} {D : Nat → Nat → UInt64} : zNew (bs N 132 q t I L D) (11, 10) s = bs N 133 (q + s) t I L D := bs_N rfl
theorem kt133 {N n : Nat} (h : 133 < n) : KT N n 133 = (17, 4) := (if_pos h).trans rfl
theorem bn133 {N q t s : Nat} {I : Nat → Nat → Int32} {L : Nat → Nat → Int64} {D : Nat → Nat → UInt64} : zNew (bs N 133 q t I L D) (17, 4) s = bs N 134 (q + s) t I L D := bs_N rfl
theorem kt134 {N n : Nat} (h : 134 < n) : KT N n 134 = (2, 0) := (if_pos h).trans rfl
theorem bn134 {N q t s : Nat} {I : Nat → Nat → Int32} {L : Nat → Nat → Int64} {D : Nat → Nat → UInt64} : zNew (bs N 134 q t I L D) (2, 0) s = bs N 135 (q + s) t I L D := bs_N rfl
theorem kt135 {N n : Nat} (h : 135 < n) : KT N n 135 = (2, 0) := (if_pos h).trans rfl
theorem bn135 {N q t s : Nat} {I : Nat → Nat → Int32} {L : Nat → Nat → Int64} {D : Nat → Nat → UInt64} : zNew (bs N 135 q t I L D) (2, 0) s = bs N 136 (q + s) t I L D := bs_N rfl
theorem kt136 {N n : Nat} (h : 136 < n) : KT N n 136 = (6, 0) := (if_pos h).trans rfl
theorem bn136 {N q t s : Nat} {I : Nat → Nat → Int32} {L : Nat → Nat → Int64} {D : Nat → Nat → UInt64} : zNew (bs N 136 q t I L D) (6, 0) s = bs N 137 (q + s) t I L D := bs_N rfl
theorem kt137 {N n : Nat} (h : 137 < n) : KT N n 137 = (11, 40) := (if_pos h).trans rfl
theorem bn137 {N q t s : Nat} {I : Nat → Nat → Int32} {L : Nat → Nat → Int64} {D : Nat → Nat → UInt64} : zNew (bs N 137 q t I L D) (11, 40) s = bs N 138 (q + s) t I L D := bs_N rfl
theorem kt138 {N n : Nat} (h : 138 < n) : KT N n 138 = (11, 40) := (if_pos h).trans rfl
theorem bn138 {N q t s : Nat} {I : Nat → Nat → Int32} {L : Nat → Nat → Int64} {D : Nat → Nat → UInt64} : zNew (bs N 138 q t I L D) (11, 40) s = bs N 139 (q + s) t I L D := bs_N rfl
theorem kt139 {N n : Nat} (h : 139 < n) : KT N n 139 = (11, 40) := (if_pos h).trans rfl
theorem bn139 {N q t s : Nat} {I : Nat → Nat → Int32} {L : Nat → Nat → Int64} {D : Nat → Nat → UInt64} : zNew (bs N 139 q t I L D) (11, 40) s = bs N 140 (q + s) t I L D := bs_N rfl
theorem kt140 {N n : Nat} (h : 140 < n) : KT N n 140 = (11, 40) := (if_pos h).trans rfl
theorem bn140 {N q t s : Nat} {I : Nat → Nat → Int32} {L : Nat → Nat → Int64} {D : Nat → Nat → UInt64} : zNew (bs N 140 q t I L D) (11, 40) s = bs N 141 (q + s) t I L D := bs_N rfl
theorem kt141 {N n : Nat} (h : 141 < n) : KT N n 141 = (3, 0) := (if_pos h).trans rfl
theorem bn141 {N q t s : Nat} {I : Nat → Nat → Int32} {L : Nat → Nat → Int64} {D : Nat → Nat → UInt64} : zNew (bs N 141 q t I L D) (3, 0) s = bs N 142 (q + s) t I L D := bs_N rfl
theorem kt142 {N n : Nat} (h : 142 < n) : KT N n 142 = (11, 100) := (if_pos h).trans rfl
theorem bn142 {N q t s : Nat} {I : Nat → Nat → Int32} {L : Nat → Nat → Int64} {D : Nat → Nat → UInt64} : zNew (bs N 142 q t I L D) (11, 100) s = bs N 143 (q + s) t I L D := bs_N rfl
theorem kt143 {N n : Nat} (h : 143 < n) : KT N n 143 = (1, 0) := (if_pos h).trans rfl
theorem bn143 {N q t s : Nat} {I : Nat → Nat → Int32} {L : Nat → Nat → Int64} {D : Nat → Nat → UInt64} : zNew (bs N 143 q t I L D) (1, 0) s = bs N 144 (q + s) t I L D := bs_N rfl
theorem kt144 {N n : Nat} (h : 144 < n) : KT N n 144 = (1, 0) := (if_pos h).trans rfl
theorem bn144 {N q t s : Nat} {I : Nat → Nat → Int32} {L : Nat → Nat → Int64} {D : Nat → Nat → UInt64} : zNew (bs N 144 q t I L D) (1, 0) s = bs N 145 (q + s) t I L D := bs_N rfl
theorem kt145 {N n : Nat} (h : 145 < n) : KT N n 145 = (1, 0) := (if_pos h).trans rfl
theorem bn145 {N q t s : Nat} {I : Nat → Nat → Int32} {L : Nat → Nat → Int64} {D : Nat → Nat → UInt64} : zNew (bs N 145 q t I L D) (1, 0) s = bs N 146 (q + s) t I L D := bs_N rfl
theorem kt146 {N n : Nat} (h : 146 < n) : KT N n 146 = (1, 0) := (if_pos h).trans rfl
theorem bn146 {N q t s : Nat} {I : Nat → Nat → Int32} {L : Nat → Nat → Int64} {D : Nat → Nat → UInt64} : zNew (bs N 146 q t I L D) (1, 0) s = bs N 147 (q + s) t I L D := bs_N rfl
theorem kt147 {N n : Nat} (h : 147 < n) : KT N n 147 = (1, 0) := (if_pos h).trans rfl
theorem bn147 {N q t s : Nat} {I : Nat → Nat → Int32} {L : Nat → Nat → Int64} {D : Nat → Nat → UInt64} : zNew (bs N 147 q t I L D) (1, 0) s = bs N 148 (q + s) t I L D := bs_N rfl
theorem kt148 {N n : Nat} (h : 148 < n) : KT N n 148 = (1, 0) := (if_pos h).trans rfl
theorem bn148 {N q t s : Nat} {I : Nat → Nat → Int32} {L : Nat → Nat → Int64} {D : Nat → Nat → UInt64} : zNew (bs N 148 q t I L D) (1, 0) s = bs N 149 (q + s) t I L D := bs_N rfl
theorem kt149 {N n : Nat} (h : 149 < n) : KT N n 149 = (1, 0) := (if_pos h).trans rfl
theorem bn149 {N q t s : Nat} {I : Nat → Nat → Int32} {L : Nat → Nat → Int64} {D : Nat → Nat → UInt64} : zNew (bs N 149 q t I L D) (1, 0) s = bs N 150 (q + s) t I L D := bs_N rfl
theorem kt150 {N n : Nat} (h : 150 < n) : KT N n 150 = (1, 0) := (if_pos h).trans rfl
theorem bn150 {N q t s : Nat} {I : Nat → Nat → Int32} {L : Nat → Nat → Int64} {D : Nat → Nat → UInt64} : zNew (bs N 150 q t I L D) (1, 0) s = bs N 151 (q + s) t I L D := bs_N rfl
theorem kt151 {N n : Nat} (h : 151 < n) : KT N n 151 = (1, 0) := (if_pos h).trans rfl
theorem bn151 {N q t s : Nat} {I : Nat → Nat → Int32} {L : Nat → Nat → Int64} {D : Nat → Nat → UInt64} : zNew (bs N 151 q t I L D) (1, 0) s = bs N 152 (q + s) t I L D := bs_N rfl
theorem kt152 {N n : Nat} (h : 152 < n) : KT N n 152 = (1, 0) := (if_pos h).trans rfl
theorem bn152 {N q t s : Nat} {I : Nat → Nat → Int32} {L : Nat → Nat → Int64} {D : Nat → Nat → UInt64} : zNew (bs N 152 q t I L D) (1, 0) s = bs N 153 (q + s) t I L D := bs_N rfl
theorem kt153 {N n : Nat} (h : 153 < n) : KT N n 153 = (2, 0) := (if_pos h).trans rfl
theorem bn153 {N q t s : Nat} {I : Nat → Nat → Int32} {L : Nat → Nat → Int64} {D : Nat → Nat → UInt64} : zNew (bs N 153 q t I L D) (2, 0) s = bs N 154 (q + s) t I L D := bs_N rfl
theorem kt154 {N n : Nat} (h : 154 < n) : KT N n 154 = (2, 0) := (if_pos h).trans rfl
theorem bn154 {N q t s : Nat} {I : Nat → Nat → Int32} {L : Nat → Nat → Int64} {D : Nat → Nat → UInt64} : zNew (bs N 154 q t I L D) (2, 0) s = bs N 155 (q + s) t I L D := bs_N rfl
theorem kt155 {N n : Nat} (h : 155 < n) : KT N n 155 = (2, 0) := (if_pos h).trans rfl
theorem bn155 {N q t s : Nat} {I : Nat → Nat → Int32} {L : Nat → Nat → Int64} {D : Nat → Nat → UInt64} : zNew (bs N 155 q t I L D) (2, 0) s = bs N 156 (q + s) t I L D := bs_N rfl
theorem kt156 {N n : Nat} (h : 156 < n) : KT N n 156 = (2, 0) := (if_pos h).trans rfl
theorem bn156 {N q t s : Nat} {I : Nat → Nat → Int32} {L : Nat → Nat → Int64} {D : Nat → Nat → UInt64} : zNew (bs N 156 q t I L D) (2, 0) s = bs N 157 (q + s) t I L D := bs_N rfl
theorem kt157 {N n : Nat} (h : 157 < n) : KT N n 157 = (5, 0) := (if_pos h).trans rfl
theorem bn157 {N q t s : Nat} {I : Nat → Nat → Int32} {L : Nat → Nat → Int64} {D : Nat → Nat → UInt64} : zNew (bs N 157 q t I L D) (5, 0) s = bs N 158 (q + s) t I L D := bs_N rfl
theorem kt158 {N n : Nat} (h : 158 < n) : KT N n 158 = (16, 10) := (if_pos h).trans rfl
theorem bn158 {N q t s : Nat} {I : Nat → Nat → Int32} {L : Nat → Nat → Int64} {D : Nat → Nat → UInt64} : zNew (bs N 158 q t I L D) (16, 10) s = bs N 159 (q + s) t I L D := bs_N rfl
theorem kt159 {N n : Nat} (h : 159 < n) : KT N n 159 = (11, 10) := (if_pos h).trans rfl
theorem bn159 {N q t s : Nat} {I : Nat → Nat → Int32} {L : Nat → Nat → Int64} {D : Nat → Nat → UInt64} : zNew (bs N 159 q t I L D) (11, 10) s = bs N 160 (q + s) t I L D := bs_N rfl
theorem kt160 {N n : Nat} (h : 160 < n) : KT N n 160 = (17, 4) := (if_pos h).trans rfl
theorem bn160 {N q t s : Nat} {I : Nat → Nat → Int32} {L : Nat → Nat → Int64} {D : Nat → Nat → UInt64} : zNew (bs N 160 q t I L D) (17, 4) s = bs N 161 (q + s) t I L D := bs_N rfl
theorem kt161 {N n : Nat} (h : 161 < n) : KT N n 161 = (2, 0) := (if_pos h).trans rfl
theorem bn161 {N q t s : Nat} {I : Nat → Nat → Int32} {L : Nat → Nat → Int64} {D : Nat → Nat → UInt64} : zNew (bs N 161 q t I L D) (2, 0) s = bs N 162 (q + s) t I L D := bs_N rfl
theorem kt162 {N n : Nat} (h : 162 < n) : KT N n 162 = (2, 0) := (if_pos h).trans rfl
theorem bn162 {N q t s : Nat} {I : Nat → Nat → Int32} {L : Nat → Nat → Int64} {D : Nat → Nat → UInt64} : zNew (bs N 162 q t I L D) (2, 0) s = bs N 163 (q + s) t I L D := bs_N rfl
theorem kt163 {N n : Nat} (h : 163 < n) : KT N n 163 = (6, 0) := (if_pos h).trans rfl
theorem bn163 {N q t s : Nat} {I : Nat → Nat → Int32} {L : Nat → Nat → Int64} {D : Nat → Nat → UInt64} : zNew (bs N 163 q t I L D) (6, 0) s = bs N 164 (q + s) t I L D := bs_N rfl
theorem kt164 {N n : Nat} (h : 164 < n) : KT N n 164 = (11, 40) := (if_pos h).trans rfl
theorem bn164 {N q t s : Nat} {I : Nat → Nat → Int32} {L : Nat → Nat → Int64} {D : Nat → Nat → UInt64} : zNew (bs N 164 q t I L D) (11, 40) s = bs N 165 (q + s) t I L D := bs_N rfl
theorem kt165 {N n : Nat} (h : 165 < n) : KT N n 165 = (11, 40) := (if_pos h).trans rfl
theorem bn165 {N q t s : Nat} {I : Nat → Nat → Int32} {L : Nat → Nat → Int64} {D : Nat → Nat → UInt64} : zNew (bs N 165 q t I L D) (11, 40) s = bs N 166 (q + s) t I L D := bs_N rfl
theorem kt166 {N n : Nat} (h : 166 < n) : KT N n 166 = (11, 40) := (if_pos h).trans rfl
theorem bn166 {N q t s : Nat} {I : Nat → Nat → Int32} {L : Nat → Nat → Int64} {D : Nat → Nat → UInt64} : zNew (bs N 166 q t I L D) (11, 40) s = bs N 167 (q + s) t I L D := bs_N rfl
theorem kt167 {N n : Nat} (h : 167 < n) : KT N n 167 = (11, 40) := (if_pos h).trans rfl
theorem bn167 {N q t s : Nat} {I : Nat → Nat → Int32} {L : Nat → Nat → Int64} {D : Nat → Nat → UInt64} : zNew (bs N 167 q t I L D) (11, 40) s = bs N 168 (q + s) t I L D := bs_N rfl
theorem kt168 {N n : Nat} (h : 168 < n) : KT N n 168 = (3, 0) := (if_pos h).trans rfl
theorem bn168 {N q t s : Nat} {I : Nat → Nat → Int32} {L : Nat → Nat → Int64} {D : Nat → Nat → UInt64} : zNew (bs N 168 q t I L D) (3, 0) s = bs N 169 (q + s) t I L D := bs_N rfl
theorem kt169 {N n : Nat} (h : 169 < n) : KT N n 169 = (11, 100) := (if_pos h).trans rfl
theorem bn169 {N q t s : Nat} {I : Nat → Nat → Int32} {L : Nat → Nat → Int64} {D : Nat → Nat → UInt64} : zNew (bs N 169 q t I L D) (11, 100) s = bs N 170 (q + s) t I L D := bs_N rfl
theorem kt170 {N n : Nat} (h : 170 < n) : KT N n 170 = (1, 0) := (if_pos h).trans rfl
theorem bn170 {N q t s : Nat} {I : Nat → Nat → Int32} {L : Nat → Nat → Int64} {D : Nat → Nat → UInt64} : zNew (bs N 170 q t I L D) (1, 0) s = bs N 171 (q + s) t I L D := bs_N rfl
theorem kt171 {N n : Nat} (h : 171 < n) : KT N n 171 = (1, 0) := (if_pos h).trans rfl
theorem bn171 {N q t s : Nat} {I : Nat → Nat → Int32} {L : Nat → Nat → Int64} {D : Nat → Nat → UInt64} : zNew (bs N 171 q t I L D) (1, 0) s = bs N 172 (q + s) t I L D := bs_N rfl
theorem kt172 {N n : Nat} (h : 172 < n) : KT N n 172 = (1, 0) := (if_pos h).trans rfl
theorem bn172 {N q t s : Nat} {I : Nat → Nat → Int32} {L : Nat → Nat → Int64} {D : Nat → Nat → UInt64} : zNew (bs N 172 q t I L D) (1, 0) s = bs N 173 (q + s) t I L D := bs_N rfl
theorem kt173 {N n : Nat} (h : 173 < n) : KT N n 173 = (1, 0) := (if_pos h).trans rfl
theorem bn173 {N q t s : Nat} {I : Nat → Nat → Int32} {L : Nat → Nat → Int64} {D : Nat → Nat → UInt64} : zNew (bs N 173 q t I L D) (1, 0) s = bs N 174 (q + s) t I L D := bs_N rfl
theorem kt174 {N n : Nat} (h : 174 < n) : KT N n 174 = (1, 0) := (if_pos h).trans rfl
theorem bn174 {N q t s : Nat} {I : Nat → Nat → Int32} {L : Nat → Nat → Int64} {D : Nat → Nat → UInt64} : zNew (bs N 174 q t I L D) (1, 0) s = bs N 175 (q + s) t I L D := bs_N rfl
theorem kt175 {N n : Nat} (h : 175 < n) : KT N n 175 = (1, 0) := (if_pos h).trans rfl
theorem bn175 {N q t s : Nat} {I : Nat → Nat → Int32} {L : Nat → Nat → Int64} {D : Nat → Nat → UInt64} : zNew (bs N 175 q t I L D) (1, 0) s = bs N 176 (q + s) t I L D := bs_N rfl
theorem kt176 {N n : Nat} (h : 176 < n) : KT N n 176 = (1, 0) := (if_pos h).trans rfl
theorem bn176 {N q t s : Nat} {I : Nat → Nat → Int32} {L : Nat → Nat → Int64} {D : Nat → Nat → UInt64} : zNew (bs N 176 q t I L D) (1, 0) s = bs N 177 (q + s) t I L D := bs_N rfl
theorem kt177 {N n : Nat} (h : 177 < n) : KT N n 177 = (1, 0) := (if_pos h).trans rfl
theorem bn177 {N q t s : Nat} {I : Nat → Nat → Int32} {L : Nat → Nat → Int64} {D : Nat → Nat → UInt64} : zNew (bs N 177 q t I L D) (1, 0) s = bs N 178 (q + s) t I L D := bs_N rfl
theorem kt178 {N n : Nat} (h : 178 < n) : KT N n 178 = (1, 0) := (if_pos h).trans rfl
theorem bn178 {N q t s : Nat} {I : Nat → Nat → Int32} {L : Nat → Nat → Int64} {D : Nat → Nat → UInt64} : zNew (bs N 178 q t I L D) (1, 0) s = bs N 179 (q + s) t I L D := bs_N rfl
theorem kt179 {N n : Nat} (h : 179 < n) : KT N n 179 = (1, 0) := (if_pos h).trans rfl
theorem bn179 {N q t s : Nat} {I : Nat → Nat → Int32} {L : Nat → Nat → Int64} {D : Nat → Nat → UInt64} : zNew (bs N 179 q t I L D) (1, 0) s = bs N 180 (q + s) t I L D := bs_N rfl
theorem kt180 {N n : Nat} (h : 180 < n) : KT N n 180 = (2, 0) := (if_pos h).trans rfl
theorem bn180 {N q t s : Nat} {I : Nat → Nat → Int32} {L : Nat → Nat → Int64} {D : Nat → Nat → UInt64} : zNew (bs N 180 q t I L D) (2, 0) s = bs N 181 (q + s) t I L D := bs_N rfl
theorem kt181 {N n : Nat} (h : 181 < n) : KT N n 181 = (2, 0) := (if_pos h).trans rfl
theorem bn181 {N q t s : Nat} {I : Nat → Nat → Int32} {L : Nat → Nat → Int64} {D : Nat → Nat → UInt64} : zNew (bs N 181 q t I L D) (2, 0) s = bs N 182 (q + s) t I L D := bs_N rfl
theorem kt182 {N n : Nat} (h : 182 < n) : KT N n 182 = (2, 0) := (if_pos h).trans rfl
theorem bn182 {N q t s : Nat} {I : Nat → Nat → Int32} {L : Nat → Nat → Int64} {D : Nat → Nat → UInt64} : zNew (bs N 182 q t I L D) (2, 0) s = bs N 183 (q + s) t I L D := bs_N rfl
theorem kt183 {N n : Nat} (h : 183 < n) : KT N n 183 = (2, 0) := (if_pos h).trans rfl
theorem bn183 {N q t s : Nat} {I : Nat → Nat → Int32} {L : Nat → Nat → Int64} {D : Nat → Nat → UInt64} : zNew (bs N 183 q t I L D) (2, 0) s = bs N 184 (q + s) t I L D := bs_N rfl
theorem kt184 {N n : Nat} (h : 184 < n) : KT N n 184 = (5, 0) := (if_pos h).trans rfl
theorem bn184 {N q t s : Nat} {I : Nat → Nat → Int32} {L : Nat → Nat → Int64} {D : Nat → Nat → UInt64} : zNew (bs N 184 q t I L D) (5, 0) s = bs N 185 (q + s) t I L D := bs_N rfl
theorem kt185 {N n : Nat} (h : 185 < n) : KT N n 185 = (16, 10) := (if_pos h).trans rfl
theorem bn185 {N q t s : Nat} {I : Nat → Nat → Int32} {L : Nat → Nat → Int64} {D : Nat → Nat → UInt64} : zNew (bs N 185 q t I L D) (16, 10) s = bs N 186 (q + s) t I L D := bs_N rfl
theorem kt186 {N n : Nat} (h : 186 < n) : KT N n 186 = (11, 10) := (if_pos h).trans rfl
theorem bn186 {N q t s : Nat} {I : Nat → Nat → Int32} {L : Nat → Nat → Int64} {D : Nat → Nat → UInt64} : zNew (bs N 186 q t I L D) (11, 10) s = bs N 187 (q + s) t I L D := bs_N rfl
theorem kt187 {N n : Nat} (h : 187 < n) : KT N n 187 = (17, 4) := (if_pos h).trans rfl
theorem bn187 {N q t s : Nat} {I : Nat → Nat → Int32} {L : Nat → Nat → Int64} {D : Nat → Nat → UInt64} : zNew (bs N 187 q t I L D) (17, 4) s = bs N 188 (q + s) t I L D := bs_N rfl
theorem kt188 {N n : Nat} (h : 188 < n) : KT N n 188 = (2, 0) := (if_pos h).trans rfl
theorem bn188 {N q t s : Nat} {I : Nat → Nat → Int32} {L : Nat → Nat → Int64} {D : Nat → Nat → UInt64} : zNew (bs N 188 q t I L D) (2, 0) s = bs N 189 (q + s) t I L D := bs_N rfl
theorem kt189 {N n : Nat} (h : 189 < n) : KT N n 189 = (2, 0) := (if_pos h).trans rfl
theorem bn189 {N q t s : Nat} {I : Nat → Nat → Int32} {L : Nat → Nat → Int64} {D : Nat → Nat → UInt64} : zNew (bs N 189 q t I L D) (2, 0) s = bs N 190 (q + s) t I L D := bs_N rfl
theorem kt190 {N n : Nat} (h : 190 < n) : KT N n 190 = (6, 0) := (if_pos h).trans rfl
theorem bn190 {N q t s : Nat} {I : Nat → Nat → Int32} {L : Nat → Nat → Int64} {D : Nat → Nat → UInt64} : zNew (bs N 190 q t I L D) (6, 0) s = bs N 191 (q + s) t I L D := bs_N rfl
theorem kt191 {N n : Nat} (h : 191 < n) : KT N n 191 = (11, 40) := (if_pos h).trans rfl
theorem bn191 {N q t s : Nat} {I : Nat → Nat → Int32} {L : Nat → Nat → Int64} {D : Nat → Nat → UInt64} : zNew (bs N 191 q t I L D) (11, 40) s = bs N 192 (q + s) t I L D := bs_N rfl
theorem kt192 {N n : Nat} (h : 192 < n) : KT N n 192 = (11, 40) := (if_pos h).trans rfl
theorem bn192 {N q t s : Nat} {I : Nat → Nat → Int32} {L : Nat → Nat → Int64} {D : Nat → Nat → UInt64} : zNew (bs N 192 q t I L D) (11, 40) s = bs N 193 (q + s) t I L D := bs_N rfl
theorem kt193 {N n : Nat} (h : 193 < n) : KT N n 193 = (11, 40) := (if_pos h).trans rfl
theorem bn193 {N q t s : Nat} {I : Nat → Nat → Int32} {L : Nat → Nat → Int64} {D : Nat → Nat → UInt64} : zNew (bs N 193 q t I L D) (11, 40) s = bs N 194 (q + s) t I L D := bs_N rfl
theorem kt194 {N n : Nat} (h : 194 < n) : KT N n 194 = (11, 40) := (if_pos h).trans rfl
theorem bn194 {N q t s : Nat} {I : Nat → Nat → Int32} {L : Nat → Nat → Int64} {D : Nat → Nat → UInt64} : zNew (bs N 194 q t I L D) (11, 40) s = bs N 195 (q + s) t I L D := bs_N rfl
theorem kt195 {N n : Nat} (h : 195 < n) : KT N n 195 = (3, 0) := (if_pos h).trans rfl
theorem bn195 {N q t s : Nat} {I : Nat → Nat → Int32} {L : Nat → Nat → Int64} {D : Nat → Nat → UInt64} : zNew (bs N 195 q t I L D) (3, 0) s = bs N 196 (q + s) t I L D := bs_N rfl
theorem kt196 {N n : Nat} (h : 196 < n) : KT N n 196 = (11, 100) := (if_pos h).trans rfl
theorem bn196 {N q t s : Nat} {I : Nat → Nat → Int32} {L : Nat → Nat → Int64} {D : Nat → Nat → UInt64} : zNew (bs N 196 q t I L D) (11, 100) s = bs N 197 (q + s) t I L D := bs_N rfl
theorem kt197 {N n : Nat} (h : 197 < n) : KT N n 197 = (1, 0) := (if_pos h).trans rfl
theorem bn197 {N q t s : Nat} {I : Nat → Nat → Int32} {L : Nat → Nat → Int64} {D : Nat → Nat → UInt64} : zNew (bs N 197 q t I L D) (1, 0) s = bs N 198 (q + s) t I L D := bs_N rfl
theorem kt198 {N n : Nat} (h : 198 < n) : KT N n 198 = (1, 0) := (if_pos h).trans rfl
theorem bn198 {N q t s : Nat} {I : Nat → Nat → Int32} {L : Nat → Nat → Int64} {D : Nat → Nat → UInt64} : zNew (bs N 198 q t I L D) (1, 0) s = bs N 199 (q + s) t I L D := bs_N rfl
theorem kt199 {N n : Nat} (h : 199 < n) : KT N n 199 = (1, 0) := (if_pos h).trans rfl
theorem bn199 {N q t s : Nat} {I : Nat → Nat → Int32} {L : Nat → Nat → Int64} {D : Nat → Nat → UInt64} : zNew (bs N 199 q t I L D) (1, 0) s = bs N 200 (q + s) t I L D := bs_N rfl
theorem kt200 {N n : Nat} (h : 200 < n) : KT N n 200 = (1, 0) := (if_pos h).trans rfl
theorem bn200 {N q t s : Nat} {I : Nat → Nat → Int32} {L : Nat → Nat → Int64} {D : Nat → Nat → UInt64} : zNew (bs N 200 q t I L D) (1, 0) s = bs N 201 (q + s) t I L D := bs_N rfl
theorem kt201 {N n : Nat} (h : 201 < n) : KT N n 201 = (1, 0) := (if_pos h).trans rfl
theorem bn201 {N q t s : Nat} {I : Nat → Nat → Int32} {L : Nat → Nat → Int64} {D : Nat → Nat → UInt64} : zNew (bs N 201 q t I L D) (1, 0) s = bs N 202 (q + s) t I L D := bs_N rfl
theorem kt202 {N n : Nat} (h : 202 < n) : KT N n 202 = (1, 0) := (if_pos h).trans rfl
theorem bn202 {N q t s : Nat} {I : Nat → Nat → Int32} {L : Nat → Nat → Int64} {D : Nat → Nat → UInt64} : zNew (bs N 202 q t I L D) (1, 0) s = bs N 203 (q + s) t I L D := bs_N rfl
theorem kt203 {N n : Nat} (h : 203 < n) : KT N n 203 = (1, 0) := (if_pos h).trans rfl
theorem bn203 {N q t s : Nat} {I : Nat → Nat → Int32} {L : Nat → Nat → Int64} {D : Nat → Nat → UInt64} : zNew (bs N 203 q t I L D) (1, 0) s = bs N 204 (q + s) t I L D := bs_N rfl
theorem kt204 {N n : Nat} (h : 204 < n) : KT N n 204 = (1, 0) := (if_pos h).trans rfl
theorem bn204 {N q t s : Nat} {I : Nat → Nat → Int32} {L : Nat → Nat → Int64} {D : Nat → Nat → UInt64} : zNew (bs N 204 q t I L D) (1, 0) s = bs N 205 (q + s) t I L D := bs_N rfl
theorem kt205 {N n : Nat} (h : 205 < n) : KT N n 205 = (1, 0) := (if_pos h).trans rfl
theorem bn205 {N q t s : Nat} {I : Nat → Nat → Int32} {L : Nat → Nat → Int64} {D : Nat → Nat → UInt64} : zNew (bs N 205 q t I L D) (1, 0) s = bs N 206 (q + s) t I L D := bs_N rfl
theorem kt206 {N n : Nat} (h : 206 < n) : KT N n 206 = (1, 0) := (if_pos h).trans rfl
theorem bn206 {N q t s : Nat} {I : Nat → Nat → Int32} {L : Nat → Nat → Int64} {D : Nat → Nat → UInt64} : zNew (bs N 206 q t I L D) (1, 0) s = bs N 207 (q + s) t I L D := bs_N rfl
theorem kt207 {N n : Nat} (h : 207 < n) : KT N n 207 = (2, 0) := (if_pos h).trans rfl
theorem bn207 {N q t s : Nat} {I : Nat → Nat → Int32} {L : Nat → Nat → Int64} {D : Nat → Nat → UInt64} : zNew (bs N 207 q t I L D) (2, 0) s = bs N 208 (q + s) t I L D := bs_N rfl
theorem kt208 {N n : Nat} (h : 208 < n) : KT N n 208 = (2, 0) := (if_pos h).trans rfl
theorem bn208 {N q t s : Nat} {I : Nat → Nat → Int32} {L : Nat → Nat → Int64} {D : Nat → Nat → UInt64} : zNew (bs N 208 q t I L D) (2, 0) s = bs N 209 (q + s) t I L D := bs_N rfl
theorem kt209 {N n : Nat} (h : 209 < n) : KT N n 209 = (2, 0) := (if_pos h).trans rfl
theorem bn209 {N q t s : Nat} {I : Nat → Nat → Int32} {L : Nat → Nat → Int64} {D : Nat → Nat → UInt64} : zNew (bs N 209 q t I L D) (2, 0) s = bs N 210 (q + s) t I L D := bs_N rfl
theorem kt210 {N n : Nat} (h : 210 < n) : KT N n 210 = (2, 0) := (if_pos h).trans rfl
theorem bn210 {N q t s : Nat} {I : Nat → Nat → Int32} {L : Nat → Nat → Int64} {D : Nat → Nat → UInt64} : zNew (bs N 210 q t I L D) (2, 0) s = bs N 211 (q + s) t I L D := bs_N rfl
theorem kt211 {N n : Nat} (h : 211 < n) : KT N n 211 = (5, 0) := (if_pos h).trans rfl
theorem bn211 {N q t s : Nat} {I : Nat → Nat → Int32} {L : Nat → Nat → Int64} {D : Nat → Nat → UInt64} : zNew (bs N 211 q t I L D) (5, 0) s = bs N 212 (q + s) t I L D := bs_N rfl
theorem kt212 {N n : Nat} (h : 212 < n) : KT N n 212 = (16, 10) := (if_pos h).trans rfl
theorem bn212 {N q t s : Nat} {I : Nat → Nat → Int32} {L : Nat → Nat → Int64} {D : Nat → Nat → UInt64} : zNew (bs N 212 q t I L D) (16, 10) s = bs N 213 (q + s) t I L D := bs_N rfl
theorem kt213 {N n : Nat} (h : 213 < n) : KT N n 213 = (11, 10) := (if_pos h).trans rfl
theorem bn213 {N q t s : Nat} {I : Nat → Nat → Int32} {L : Nat → Nat → Int64} {D : Nat → Nat → UInt64} : zNew (bs N 213 q t I L D) (11, 10) s = bs N 214 (q + s) t I L D := bs_N rfl
theorem kt214 {N n : Nat} (h : 214 < n) : KT N n 214 = (17, 4) := (if_pos h).trans rfl
theorem bn214 {N q t s : Nat} {I : Nat → Nat → Int32} {L : Nat → Nat → Int64} {D : Nat → Nat → UInt64} : zNew (bs N 214 q t I L D) (17, 4) s = bs N 215 (q + s) t I L D := bs_N rfl
theorem kt215 {N n : Nat} (h : 215 < n) : KT N n 215 = (2, 0) := (if_pos h).trans rfl
theorem bn215 {N q t s : Nat} {I : Nat → Nat → Int32} {L : Nat → Nat → Int64} {D : Nat → Nat → UInt64} : zNew (bs N 215 q t I L D) (2, 0) s = bs N 216 (q + s) t I L D := bs_N rfl
theorem kt216 {N n : Nat} (h : 216 < n) : KT N n 216 = (2, 0) := (if_pos h).trans rfl
theorem bn216 {N q t s : Nat} {I : Nat → Nat → Int32} {L : Nat → Nat → Int64} {D : Nat → Nat → UInt64} : zNew (bs N 216 q t I L D) (2, 0) s = bs N 217 (q + s) t I L D := bs_N rfl
theorem kt217 {N n : Nat} (h : 217 < n) : KT N n 217 = (6, 0) := (if_pos h).trans rfl
theorem bn217 {N q t s : Nat} {I : Nat → Nat → Int32} {L : Nat → Nat → Int64} {D : Nat → Nat → UInt64} : zNew (bs N 217 q t I L D) (6, 0) s = bs N 218 (q + s) t I L D := bs_N rfl
theorem kt218 {N n : Nat} (h : 218 < n) : KT N n 218 = (11, 40) := (if_pos h).trans rfl
theorem bn218 {N q t s : Nat} {I : Nat → Nat → Int32} {L : Nat → Nat → Int64} {D : Nat → Nat → UInt64} : zNew (bs N 218 q t I L D) (11, 40) s = bs N 219 (q + s) t I L D := bs_N rfl
theorem kt219 {N n : Nat} (h : 219 < n) : KT N n 219 = (11, 40) := (if_pos h).trans rfl
theorem bn219 {N q t s : Nat} {I : Nat → Nat → Int32} {L : Nat → Nat → Int64} {D : Nat → Nat → UInt64} : zNew (bs N 219 q t I L D) (11, 40) s = bs N 220 (q + s) t I L D := bs_N rfl
theorem kt220 {N n : Nat} (h : 220 < n) : KT N n 220 = (11, 40) := (if_pos h).trans rfl
theorem bn220 {N q t s : Nat} {I : Nat → Nat → Int32} {L : Nat → Nat → Int64} {D : Nat → Nat → UInt64} : zNew (bs N 220 q t I L D) (11, 40) s = bs N 221 (q + s) t I L D := bs_N rfl
theorem kt221 {N n : Nat} (h : 221 < n) : KT N n 221 = (11, 40) := (if_pos h).trans rfl
theorem bn221 {N q t s : Nat} {I : Nat → Nat → Int32} {L : Nat → Nat → Int64} {D : Nat → Nat → UInt64} : zNew (bs N 221 q t I L D) (11, 40) s = bs N 222 (q + s) t I L D := bs_N rfl
theorem kt222 {N n : Nat} (h : 222 < n) : KT N n 222 = (3, 0) := (if_pos h).trans rfl
theorem bn222 {N q t s : Nat} {I : Nat → Nat → Int32} {L : Nat → Nat → Int64} {D : Nat → Nat → UInt64} : zNew (bs N 222 q t I L D) (3, 0) s = bs N 223 (q + s) t I L D := bs_N rfl
theorem kt223 {N n : Nat} (h : 223 < n) : KT N n 223 = (11, 100) := (if_pos h).trans rfl
theorem bn223 {N q t s : Nat} {I : Nat → Nat → Int32} {L : Nat → Nat → Int64} {D : Nat → Nat → UInt64} : zNew (bs N 223 q t I L D) (11, 100) s = bs N 224 (q + s) t I L D := bs_N rfl
theorem kt224 {N n : Nat} (h : 224 < n) : KT N n 224 = (1, 0) := (if_pos h).trans rfl
theorem bn224 {N q t s : Nat} {I : Nat → Nat → Int32} {L : Nat → Nat → Int64} {D : Nat → Nat → UInt64} : zNew (bs N 224 q t I L D) (1, 0) s = bs N 225 (q + s) t I L D := bs_N rfl
theorem kt225 {N n : Nat} (h : 225 < n) : KT N n 225 = (1, 0) := (if_pos h).trans rfl
theorem bn225 {N q t s : Nat} {I : Nat → Nat → Int32} {L : Nat → Nat → Int64} {D : Nat → Nat → UInt64} : zNew (bs N 225 q t I L D) (1, 0) s = bs N 226 (q + s) t I L D := bs_N rfl
theorem kt226 {N n : Nat} (h : 226 < n) : KT N n 226 = (1, 0) := (if_pos h).trans rfl
theorem bn226 {N q t s : Nat} {I : Nat → Nat → Int32} {L : Nat → Nat → Int64} {D : Nat → Nat → UInt64} : zNew (bs N 226 q t I L D) (1, 0) s = bs N 227 (q + s) t I L D := bs_N rfl
theorem kt227 {N n : Nat} (h : 227 < n) : KT N n 227 = (1, 0) := (if_pos h).trans rfl
theorem bn227 {N q t s : Nat} {I : Nat → Nat → Int32} {L : Nat → Nat → Int64} {D : Nat → Nat → UInt64} : zNew (bs N 227 q t I L D) (1, 0) s = bs N 228 (q + s) t I L D := bs_N rfl
theorem kt228 {N n : Nat} (h : 228 < n) : KT N n 228 = (1, 0) := (if_pos h).trans rfl
theorem bn228 {N q t s : Nat} {I : Nat → Nat → Int32} {L : Nat → Nat → Int64} {D : Nat → Nat → UInt64} : zNew (bs N 228 q t I L D) (1, 0) s = bs N 229 (q + s) t I L D := bs_N rfl
theorem kt229 {N n : Nat} (h : 229 < n) : KT N n 229 = (1, 0) := (if_pos h).trans rfl
theorem bn229 {N q t s : Nat} {I : Nat → Nat → Int32} {L : Nat → Nat → Int64} {D : Nat → Nat → UInt64} : zNew (bs N 229 q t I L D) (1, 0) s = bs N 230 (q + s) t I L D := bs_N rfl
theorem kt230 {N n : Nat} (h : 230 < n) : KT N n 230 = (1, 0) := (if_pos h).trans rfl
theorem bn230 {N q t s : Nat} {I : Nat → Nat → Int32} {L : Nat → Nat → Int64} {D : Nat → Nat → UInt64} : zNew (bs N 230 q t I L D) (1, 0) s = bs N 231 (q + s) t I L D := bs_N rfl
theorem kt231 {N n : Nat} (h : 231 < n) : KT N n 231 = (1, 0) := (if_pos h).trans rfl
theorem bn231 {N q t s : Nat} {I : Nat → Nat → Int32} {L : Nat → Nat → Int64} {D : Nat → Nat → UInt64} : zNew (bs N 231 q t I L D) (1, 0) s = bs N 232 (q + s) t I L D := bs_N rfl
theorem kt232 {N n : Nat} (h : 232 < n) : KT N n 232 = (1, 0) := (if_pos h).trans rfl
theorem bn232 {N q t s : Nat} {I : Nat → Nat → Int32} {L : Nat → Nat → Int64} {D : Nat → Nat → UInt64} : zNew (bs N 232 q t I L D) (1, 0) s = bs N 233 (q + s) t I L D := bs_N rfl
theorem kt233 {N n : Nat} (h : 233 < n) : KT N n 233 = (1, 0) := (if_pos h).trans rfl
theorem bn233 {N q t s : Nat} {I : Nat → Nat → Int32} {L : Nat → Nat → Int64} {D : Nat → Nat → UInt64} : zNew (bs N 233 q t I L D) (1, 0) s = bs N 234 (q + s) t I L D := bs_N rfl
theorem kt234 {N n : Nat} (h : 234 < n) : KT N n 234 = (2, 0) := (if_pos h).trans rfl
theorem bn234 {N q t s : Nat} {I : Nat → Nat → Int32} {L : Nat → Nat → Int64} {D : Nat → Nat → UInt64} : zNew (bs N 234 q t I L D) (2, 0) s = bs N 235 (q + s) t I L D := bs_N rfl
theorem kt235 {N n : Nat} (h : 235 < n) : KT N n 235 = (2, 0) := (if_pos h).trans rfl
theorem bn235 {N q t s : Nat} {I : Nat → Nat → Int32} {L : Nat → Nat → Int64} {D : Nat → Nat → UInt64} : zNew (bs N 235 q t I L D) (2, 0) s = bs N 236 (q + s) t I L D := bs_N rfl
theorem kt236 {N n : Nat} (h : 236 < n) : KT N n 236 = (2, 0) := (if_pos h).trans rfl
theorem bn236 {N q t s : Nat} {I : Nat → Nat → Int32} {L : Nat → Nat → Int64} {D : Nat → Nat → UInt64} : zNew (bs N 236 q t I L D) (2, 0) s = bs N 237 (q + s) t I L D := bs_N rfl
theorem kt237 {N n : Nat} (h : 237 < n) : KT N n 237 = (2, 0) := (if_pos h).trans rfl
theorem bn237 {N q t s : Nat} {I : Nat → Nat → Int32} {L : Nat → Nat → Int64} {D : Nat → Nat → UInt64} : zNew (bs N 237 q t I L D) (2, 0) s = bs N 238 (q + s) t I L D := bs_N rfl
theorem kt238 {N n : Nat} (h : 238 < n) : KT N n 238 = (18, 2) := (if_pos h).trans rfl
theorem bn238 {N q t s : Nat} {I : Nat → Nat → Int32} {L : Nat → Nat → Int64} {D : Nat → Nat → UInt64} : zNew (bs N 238 q t I L D) (18, 2) s = bs N 239 (q + s) t I L D := bs_N rfl
theorem kt239 {N n : Nat} (h : 239 < n) : KT N n 239 = (14, 2) := (if_pos h).trans rfl
theorem bn239 {N q t s : Nat} {I : Nat → Nat → Int32} {L : Nat → Nat → Int64} {D : Nat → Nat → UInt64} : zNew (bs N 239 q t I L D) (14, 2) s = bs N 240 (q + s) t I L D := bs_N rfl
theorem kt240 {N n : Nat} (h : 240 < n) : KT N n 240 = (5, 0) := (if_pos h).trans rfl
theorem bn240 {N q t s : Nat} {I : Nat → Nat → Int32} {L : Nat → Nat → Int64} {D : Nat → Nat → UInt64} : zNew (bs N 240 q t I L D) (5, 0) s = bs N 241 (q + s) t I L D := bs_N rfl
theorem kt241 {N n : Nat} (h : 241 < n) : KT N n 241 = (16, 10) := (if_pos h).trans rfl
theorem bn241 {N q t s : Nat} {I : Nat → Nat → Int32} {L : Nat → Nat → Int64} {D : Nat → Nat → UInt64} : zNew (bs N 241 q t I L D) (16, 10) s = bs N 242 (q + s) t I L D := bs_N rfl
theorem kt242 {N n : Nat} (h : 242 < n) : KT N n 242 = (11, 10) := (if_pos h).trans rfl
theorem bn242 {N q t s : Nat} {I : Nat → Nat → Int32} {L : Nat → Nat → Int64} {D : Nat → Nat → UInt64} : zNew (bs N 242 q t I L D) (11, 10) s = bs N 243 (q + s) t I L D := bs_N rfl
theorem kt243 {N n : Nat} (h : 243 < n) : KT N n 243 = (17, 4) := (if_pos h).trans rfl
theorem bn243 {N q t s : Nat} {I : Nat → Nat → Int32} {L : Nat → Nat → Int64} {D : Nat → Nat → UInt64} : zNew (bs N 243 q t I L D) (17, 4) s = bs N 244 (q + s) t I L D := bs_N rfl
theorem kt244 {N n : Nat} (h : 244 < n) : KT N n 244 = (2, 0) := (if_pos h).trans rfl
theorem bn244 {N q t s : Nat} {I : Nat → Nat → Int32} {L : Nat → Nat → Int64} {D : Nat → Nat → UInt64} : zNew (bs N 244 q t I L D) (2, 0) s = bs N 245 (q + s) t I L D := bs_N rfl
theorem kt245 {N n : Nat} (h : 245 < n) : KT N n 245 = (2, 0) := (if_pos h).trans rfl
theorem bn245 {N q t s : Nat} {I : Nat → Nat → Int32} {L : Nat → Nat → Int64} {D : Nat → Nat → UInt64} : zNew (bs N 245 q t I L D) (2, 0) s = bs N 246 (q + s) t I L D := bs_N rfl
theorem kt246 {N n : Nat} (h : 246 < n) : KT N n 246 = (6, 0) := (if_pos h).trans rfl
theorem bn246 {N q t s : Nat} {I : Nat → Nat → Int32} {L : Nat → Nat → Int64} {D : Nat → Nat → UInt64} : zNew (bs N 246 q t I L D) (6, 0) s = bs N 247 (q + s) t I L D := bs_N rfl
theorem kt247 {N n : Nat} (h : 247 < n) : KT N n 247 = (11, 40) := (if_pos h).trans rfl
theorem bn247 {N q t s : Nat} {I : Nat → Nat → Int32} {L : Nat → Nat → Int64} {D : Nat → Nat → UInt64} : zNew (bs N 247 q t I L D) (11, 40) s = bs N 248 (q + s) t I L D := bs_N rfl
theorem kt248 {N n : Nat} (h : 248 < n) : KT N n 248 = (11, 40) := (if_pos h).trans rfl
theorem bn248 {N q t s : Nat} {I : Nat → Nat → Int32} {L : Nat → Nat → Int64} {D : Nat → Nat → UInt64} : zNew (bs N 248 q t I L D) (11, 40) s = bs N 249 (q + s) t I L D := bs_N rfl
theorem kt249 {N n : Nat} (h : 249 < n) : KT N n 249 = (11, 40) := (if_pos h).trans rfl
theorem bn249 {N q t s : Nat} {I : Nat → Nat → Int32} {L : Nat → Nat → Int64} {D : Nat → Nat → UInt64} : zNew (bs N 249 q t I L D) (11, 40) s = bs N 250 (q + s) t I L D := bs_N rfl
theorem kt250 {N n : Nat} (h : 250 < n) : KT N n 250 = (11, 40) := (if_pos h).trans rfl
theorem bn250 {N q t s : Nat} {I : Nat → Nat → Int32} {L : Nat → Nat → Int64} {D : Nat → Nat → UInt64} : zNew (bs N 250 q t I L D) (11, 40) s = bs N 251 (q + s) t I L D := bs_N rfl
theorem kt251 {N n : Nat} (h : 251 < n) : KT N n 251 = (3, 0) := (if_pos h).trans rfl
theorem bn251 {N q t s : Nat} {I : Nat → Nat → Int32} {L : Nat → Nat → Int64} {D : Nat → Nat → UInt64} : zNew (bs N 251 q t I L D) (3, 0) s = bs N 252 (q + s) t I L D := bs_N rfl
theorem kt252 {N n : Nat} (h : 252 < n) : KT N n 252 = (11, 100) := (if_pos h).trans rfl
theorem bn252 {N q t s : Nat} {I : Nat → Nat → Int32} {L : Nat → Nat → Int64} {D : Nat → Nat → UInt64} : zNew (bs N 252 q t I L D) (11, 100) s = bs N 253 (q + s) t I L D := bs_N rfl
theorem kt253 {N n : Nat} (h : 253 < n) : KT N n 253 = (1, 0) := (if_pos h).trans rfl
theorem bn253 {N q t s : Nat} {I : Nat → Nat → Int32} {L : Nat → Nat → Int64} {D : Nat → Nat → UInt64} : zNew (bs N 253 q t I L D) (1, 0) s = bs N 254 (q + s) t I L D := bs_N rfl
theorem kt254 {N n : Nat} (h : 254 < n) : KT N n 254 = (1, 0) := (if_pos h).trans rfl
theorem bn254 {N q t s : Nat} {I : Nat → Nat → Int32} {L : Nat → Nat → Int64} {D : Nat → Nat → UInt64} : zNew (bs N 254 q t I L D) (1, 0) s = bs N 255 (q + s) t I L D := bs_N rfl
theorem kt255 {N n : Nat} (h : 255 < n) : KT N n 255 = (1, 0) := (if_pos h).trans rfl
theorem bn255 {N q t s : Nat} {I : Nat → Nat → Int32} {L : Nat → Nat → Int64} {D : Nat → Nat → UInt64} : zNew (bs N 255 q t I L D) (1, 0) s = bs N 256 (q + s) t I L D := bs_N rfl
theorem kt256 {N n : Nat} (h : 256 < n) : KT N n 256 = (1, 0) := (if_pos h).trans rfl
theorem bn256 {N q t s : Nat} {I : Nat → Nat → Int32} {L : Nat → Nat → Int64} {D : Nat → Nat → UInt64} : zNew (bs N 256 q t I L D) (1, 0) s = bs N 257 (q + s) t I L D := bs_N rfl
theorem kt257 {N n : Nat} (h : 257 < n) : KT N n 257 = (1, 0) := (if_pos h).trans rfl
theorem bn257 {N q t s : Nat} {I : Nat → Nat → Int32} {L : Nat → Nat → Int64} {D : Nat → Nat → UInt64} : zNew (bs N 257 q t I L D) (1, 0) s = bs N 258 (q + s) t I L D := bs_N rfl
theorem kt258 {N n : Nat} (h : 258 < n) : KT N n 258 = (1, 0) := (if_pos h).trans rfl
theorem bn258 {N q t s : Nat} {I : Nat → Nat → Int32} {L : Nat → Nat → Int64} {D : Nat → Nat → UInt64} : zNew (bs N 258 q t I L D) (1, 0) s = bs N 259 (q + s) t I L D := bs_N rfl
theorem kt259 {N n : Nat} (h : 259 < n) : KT N n 259 = (1, 0) := (if_pos h).trans rfl
theorem bn259 {N q t s : Nat} {I : Nat → Nat → Int32} {L : Nat → Nat → Int64} {D : Nat → Nat → UInt64} : zNew (bs N 259 q t I L D) (1, 0) s = bs N 260 (q + s) t I L D := bs_N rfl
theorem kt260 {N n : Nat} (h : 260 < n) : KT N n 260 = (1, 0) := (if_pos h).trans rfl
theorem bn260 {N q t s : Nat} {I : Nat → Nat → Int32} {L : Nat → Nat → Int64} {D : Nat → Nat → UInt64} : zNew (bs N 260 q t I L D) (1, 0) s = bs N 261 (q + s) t I L D := bs_N rfl
theorem kt261 {N n : Nat} (h : 261 < n) : KT N n 261 = (1, 0) := (if_pos h).trans rfl
theorem bn261 {N q t s : Nat} {I : Nat → Nat → Int32} {L : Nat → Nat → Int64} {D : Nat → Nat → UInt64} : zNew (bs N 261 q t I L D) (1, 0) s = bs N 262 (q + s) t I L D := bs_N rfl
theorem kt262 {N n : Nat} (h : 262 < n) : KT N n 262 = (1, 0) := (if_pos h).trans rfl
theorem bn262 {N q t s : Nat} {I : Nat → Nat → Int32} {L : Nat → Nat → Int64} {D : Nat → Nat → UInt64} : zNew (bs N 262 q t I L D) (1, 0) s = bs N 263 (q + s) t I L D := bs_N rfl
theorem kt263 {N n : Nat} (h : 263 < n) : KT N n 263 = (2, 0) := (if_pos h).trans rfl
theorem bn263 {N q t s : Nat} {I : Nat → Nat → Int32} {L : Nat → Nat → Int64} {D : Nat → Nat → UInt64} : zNew (bs N 263 q t I L D) (2, 0) s = bs N 264 (q + s) t I L D := bs_N rfl
theorem kt264 {N n : Nat} (h : 264 < n) : KT N n 264 = (2, 0) := (if_pos h).trans rfl
theorem bn264 {N q t s : Nat} {I : Nat → Nat → Int32} {L : Nat → Nat → Int64} {D : Nat → Nat → UInt64} : zNew (bs N 264 q t I L D) (2, 0) s = bs N 265 (q + s) t I L D := bs_N rfl
theorem kt265 {N n : Nat} (h : 265 < n) : KT N n 265 = (2, 0) := (if_pos h).trans rfl
theorem bn265 {N q t s : Nat} {I : Nat → Nat → Int32} {L : Nat → Nat → Int64} {D : Nat → Nat → UInt64} : zNew (bs N 265 q t I L D) (2, 0) s = bs N 266 (q + s) t I L D := bs_N rfl
theorem kt266 {N n : Nat} (h : 266 < n) : KT N n 266 = (2, 0) := (if_pos h).trans rfl
theorem bn266 {N q t s : Nat} {I : Nat → Nat → Int32} {L : Nat → Nat → Int64} {D : Nat → Nat → UInt64} : zNew (bs N 266 q t I L D) (2, 0) s = bs N 267 (q + s) t I L D := bs_N rfl
theorem kt267 {N n : Nat} (h : 267 < n) : KT N n 267 = (5, 0) := (if_pos h).trans rfl
theorem bn267 {N q t s : Nat} {I : Nat → Nat → Int32} {L : Nat → Nat → Int64} {D : Nat → Nat → UInt64} : zNew (bs N 267 q t I L D) (5, 0) s = bs N 268 (q + s) t I L D := bs_N rfl
theorem kt268 {N n : Nat} (h : 268 < n) : KT N n 268 = (16, 10) := (if_pos h).trans rfl
theorem bn268 {N q t s : Nat} {I : Nat → Nat → Int32} {L : Nat → Nat → Int64} {D : Nat → Nat → UInt64} : zNew (bs N 268 q t I L D) (16, 10) s = bs N 269 (q + s) t I L D := bs_N rfl
theorem kt269 {N n : Nat} (h : 269 < n) : KT N n 269 = (11, 10) := (if_pos h).trans rfl
theorem bn269 {N q t s : Nat} {I : Nat → Nat → Int32} {L : Nat → Nat → Int64} {D : Nat → Nat → UInt64} : zNew (bs N 269 q t I L D) (11, 10) s = bs N 270 (q + s) t I L D := bs_N rfl
theorem kt270 {N n : Nat} (h : 270 < n) : KT N n 270 = (17, 4) := (if_pos h).trans rfl
theorem bn270 {N q t s : Nat} {I : Nat → Nat → Int32} {L : Nat → Nat → Int64} {D : Nat → Nat → UInt64} : zNew (bs N 270 q t I L D) (17, 4) s = bs N 271 (q + s) t I L D := bs_N rfl
theorem kt271 {N n : Nat} (h : 271 < n) : KT N n 271 = (2, 0) := (if_pos h).trans rfl
theorem bn271 {N q t s : Nat} {I : Nat → Nat → Int32} {L : Nat → Nat → Int64} {D : Nat → Nat → UInt64} : zNew (bs N 271 q t I L D) (2, 0) s = bs N 272 (q + s) t I L D := bs_N rfl
theorem kt272 {N n : Nat} (h : 272 < n) : KT N n 272 = (2, 0) := (if_pos h).trans rfl
theorem bn272 {N q t s : Nat} {I : Nat → Nat → Int32} {L : Nat → Nat → Int64} {D : Nat → Nat → UInt64} : zNew (bs N 272 q t I L D) (2, 0) s = bs N 273 (q + s) t I L D := bs_N rfl
theorem kt273 {N n : Nat} (h : 273 < n) : KT N n 273 = (6, 0) := (if_pos h).trans rfl
theorem bn273 {N q t s : Nat} {I : Nat → Nat → Int32} {L : Nat → Nat → Int64} {D : Nat → Nat → UInt64} : zNew (bs N 273 q t I L D) (6, 0) s = bs N 274 (q + s) t I L D := bs_N rfl
theorem kt274 {N n : Nat} (h : 274 < n) : KT N n 274 = (11, 40) := (if_pos h).trans rfl
theorem bn274 {N q t s : Nat} {I : Nat → Nat → Int32} {L : Nat → Nat → Int64} {D : Nat → Nat → UInt64} : zNew (bs N 274 q t I L D) (11, 40) s = bs N 275 (q + s) t I L D := bs_N rfl
theorem kt275 {N n : Nat} (h : 275 < n) : KT N n 275 = (11, 40) := (if_pos h).trans rfl
theorem bn275 {N q t s : Nat} {I : Nat → Nat → Int32} {L : Nat → Nat → Int64} {D : Nat → Nat → UInt64} : zNew (bs N 275 q t I L D) (11, 40) s = bs N 276 (q + s) t I L D := bs_N rfl
theorem kt276 {N n : Nat} (h : 276 < n) : KT N n 276 = (11, 40) := (if_pos h).trans rfl
theorem bn276 {N q t s : Nat} {I : Nat → Nat → Int32} {L : Nat → Nat → Int64} {D : Nat → Nat → UInt64} : zNew (bs N 276 q t I L D) (11, 40) s = bs N 277 (q + s) t I L D := bs_N rfl
theorem kt277 {N n : Nat} (h : 277 < n) : KT N n 277 = (11, 40) := (if_pos h).trans rfl
theorem bn277 {N q t s : Nat} {I : Nat → Nat → Int32} {L : Nat → Nat → Int64} {D : Nat → Nat → UInt64} : zNew (bs N 277 q t I L D) (11, 40) s = bs N 278 (q + s) t I L D := bs_N rfl
theorem kt278 {N n : Nat} (h : 278 < n) : KT N n 278 = (3, 0) := (if_pos h).trans rfl
theorem bn278 {N q t s : Nat} {I : Nat → Nat → Int32} {L : Nat → Nat → Int64} {D : Nat → Nat → UInt64} : zNew (bs N 278 q t I L D) (3, 0) s = bs N 279 (q + s) t I L D := bs_N rfl
theorem kt279 {N n : Nat} (h : 279 < n) : KT N n 279 = (11, 100) := (if_pos h).trans rfl
theorem bn279 {N q t s : Nat} {I : Nat → Nat → Int32} {L : Nat → Nat → Int64} {D : Nat → Nat → UInt64} : zNew (bs N 279 q t I L D) (11, 100) s = bs N 280 (q + s) t I L D := bs_N rfl
theorem kt280 {N n : Nat} (h : 280 < n) : KT N n 280 = (1, 0) := (if_pos h).trans rfl
theorem bn280 {N q t s : Nat} {I : Nat → Nat → Int32} {L : Nat → Nat → Int64} {D : Nat → Nat → UInt64} : zNew (bs N 280 q t I L D) (1, 0) s = bs N 281 (q + s) t I L D := bs_N rfl
theorem kt281 {N n : Nat} (h : 281 < n) : KT N n 281 = (1, 0) := (if_pos h).trans rfl
theorem bn281 {N q t s : Nat} {I : Nat → Nat → Int32} {L : Nat → Nat → Int64} {D : Nat → Nat → UInt64} : zNew (bs N 281 q t I L D) (1, 0) s = bs N 282 (q + s) t I L D := bs_N rfl
theorem kt282 {N n : Nat} (h : 282 < n) : KT N n 282 = (1, 0) := (if_pos h).trans rfl
theorem bn282 {N q t s : Nat} {I : Nat → Nat → Int32} {L : Nat → Nat → Int64} {D : Nat → Nat → UInt64} : zNew (bs N 282 q t I L D) (1, 0) s = bs N 283 (q + s) t I L D := bs_N rfl
theorem kt283 {N n : Nat} (h : 283 < n) : KT N n 283 = (1, 0) := (if_pos h).trans rfl
theorem bn283 {N q t s : Nat} {I : Nat → Nat → Int32} {L : Nat → Nat → Int64} {D : Nat → Nat → UInt64} : zNew (bs N 283 q t I L D) (1, 0) s = bs N 284 (q + s) t I L D := bs_N rfl
theorem kt284 {N n : Nat} (h : 284 < n) : KT N n 284 = (1, 0) := (if_pos h).trans rfl
theorem bn284 {N q t s : Nat} {I : Nat → Nat → Int32} {L : Nat → Nat → Int64} {D : Nat → Nat → UInt64} : zNew (bs N 284 q t I L D) (1, 0) s = bs N 285 (q + s) t I L D := bs_N rfl
theorem kt285 {N n : Nat} (h : 285 < n) : KT N n 285 = (1, 0) := (if_pos h).trans rfl
theorem bn285 {N q t s : Nat} {I : Nat → Nat → Int32} {L : Nat → Nat → Int64} {D : Nat → Nat → UInt64} : zNew (bs N 285 q t I L D) (1, 0) s = bs N 286 (q + s) t I L D := bs_N rfl
theorem kt286 {N n : Nat} (h : 286 < n) : KT N n 286 = (1, 0) := (if_pos h).trans rfl
theorem bn286 {N q t s : Nat} {I : Nat → Nat → Int32} {L : Nat → Nat → Int64} {D : Nat → Nat → UInt64} : zNew (bs N 286 q t I L D) (1, 0) s = bs N 287 (q + s) t I L D := bs_N rfl
theorem kt287 {N n : Nat} (h : 287 < n) : KT N n 287 = (1, 0) := (if_pos h).trans rfl
theorem bn287 {N q t s : Nat} {I : Nat → Nat → Int32} {L : Nat → Nat → Int64} {D : Nat → Nat → UInt64} : zNew (bs N 287 q t I L D) (1, 0) s = bs N 288 (q + s) t I L D := bs_N rfl
theorem kt288 {N n : Nat} (h : 288 < n) : KT N n 288 = (1, 0) := (if_pos h).trans rfl
theorem bn288 {N q t s : Nat} {I : Nat → Nat → Int32} {L : Nat → Nat → Int64} {D : Nat → Nat → UInt64} : zNew (bs N 288 q t I L D) (1, 0) s = bs N 289 (q + s) t I L D := bs_N rfl
theorem kt289 {N n : Nat} (h : 289 < n) : KT N n 289 = (1, 0) := (if_pos h).trans rfl
theorem bn289 {N q t s : Nat} {I : Nat → Nat → Int32} {L : Nat → Nat → Int64} {D : Nat → Nat → UInt64} : zNew (bs N 289 q t I L D) (1, 0) s = bs N 290 (q + s) t I L D := bs_N rfl
theorem kt290 {N n : Nat} (h : 290 < n) : KT N n 290 = (2, 0) := (if_pos h).trans rfl
theorem bn290 {N q t s : Nat} {I : Nat → Nat → Int32} {L : Nat → Nat → Int64} {D : Nat → Nat → UInt64} : zNew (bs N 290 q t I L D) (2, 0) s = bs N 291 (q + s) t I L D := bs_N rfl
theorem kt291 {N n : Nat} (h : 291 < n) : KT N n 291 = (2, 0) := (if_pos h).trans rfl
theorem bn291 {N q t s : Nat} {I : Nat → Nat → Int32} {L : Nat → Nat → Int64} {D : Nat → Nat → UInt64} : zNew (bs N 291 q t I L D) (2, 0) s = bs N 292 (q + s) t I L D := bs_N rfl
theorem kt292 {N n : Nat} (h : 292 < n) : KT N n 292 = (2, 0) := (if_pos h).trans rfl
theorem bn292 {N q t s : Nat} {I : Nat → Nat → Int32} {L : Nat → Nat → Int64} {D : Nat → Nat → UInt64} : zNew (bs N 292 q t I L D) (2, 0) s = bs N 293 (q + s) t I L D := bs_N rfl
theorem kt293 {N n : Nat} (h : 293 < n) : KT N n 293 = (2, 0) := (if_pos h).trans rfl
theorem bn293 {N q t s : Nat} {I : Nat → Nat → Int32} {L : Nat → Nat → Int64} {D : Nat → Nat → UInt64} : zNew (bs N 293 q t I L D) (2, 0) s = bs N 294 (q + s) t I L D := bs_N rfl
theorem wr15_0 {N n q : Nat} {I : Nat → Nat → Int32} {L : Nat → Nat → Int64} {D : Nat → Nat → UInt64} : wR (bs N n q 0 I L D) 15 0 17 = bs N n q 1 I L D := bs_R (by decide) rfl rfl
theorem rt15_0 {t : Nat} (h : 0 < t) : rv (RTm t 15 0) = .ref 16 := by
  have e : tm 15 0 = 0 := tm_at 0 (by decide)
  unfold RTm
  rw [e, if_pos h]
  rfl
theorem wr17_0 {N n q : Nat} {I : Nat → Nat → Int32} {L : Nat → Nat → Int64} {D : Nat → Nat → UInt64} : wR (bs N n q 1 I L D) 17 0 19 = bs N n q 2 I L D := bs_R (by decide) rfl rfl
theorem wr15_2 {N n q : Nat} {I : Nat → Nat → Int32} {L : Nat → Nat → Int64} {D : Nat → Nat → UInt64} : wR (bs N n q 2 I L D) 15 2 18 = bs N n q 3 I L D := bs_R (by decide) rfl rfl
theorem wr19_2 {N n q : Nat} {I : Nat → Nat → Int32} {L : Nat → Nat → Int64} {D : Nat → Nat → UInt64} : wR (bs N n q 3 I L D) 19 2 21 = bs N n q 4 I L D := bs_R (by decide) rfl rfl
theorem rt19_2 {t : Nat} (h : 3 < t) : rv (RTm t 19 2) = .ref 20 := by
  have e : tm 19 2 = 3 := tm_at 3 (by decide)
  unfold RTm
  rw [e, if_pos h]
  rfl
theorem wr19_4 {N n q : Nat} {I : Nat → Nat → Int32} {L : Nat → Nat → Int64} {D : Nat → Nat → UInt64} : wR (bs N n q 4 I L D) 19 4 22 = bs N n q 5 I L D := bs_R (by decide) rfl rfl
theorem wr19_5 {N n q : Nat} {I : Nat → Nat → Int32} {L : Nat → Nat → Int64} {D : Nat → Nat → UInt64} : wR (bs N n q 5 I L D) 19 5 23 = bs N n q 6 I L D := bs_R (by decide) rfl rfl
theorem rt19_5 {t : Nat} (h : 5 < t) : rv (RTm t 19 5) = .ref 22 := by
  have e : tm 19 5 = 5 := tm_at 5 (by decide)
  unfold RTm
  rw [e, if_pos h]
  rfl
theorem wr19_7 {N n q : Nat} {I : Nat → Nat → Int32} {L : Nat → Nat → Int64} {D : Nat → Nat → UInt64} : wR (bs N n q 6 I L D) 19 7 24 = bs N n q 7 I L D := bs_R (by decide) rfl rfl
theorem wr19_8 {N n q : Nat} {I : Nat → Nat → Int32} {L : Nat → Nat → Int64} {D : Nat → Nat → UInt64} : wR (bs N n q 7 I L D) 19 8 25 = bs N n q 8 I L D := bs_R (by decide) rfl rfl
theorem wr25_0 {N n q : Nat} {I : Nat → Nat → Int32} {L : Nat → Nat → Int64} {D : Nat → Nat → UInt64} : wR (bs N n q 8 I L D) 25 0 27 = bs N n q 9 I L D := bs_R (by decide) rfl rfl
theorem wr25_1 {N n q : Nat} {I : Nat → Nat → Int32} {L : Nat → Nat → Int64} {D : Nat → Nat → UInt64} : wR (bs N n q 9 I L D) 25 1 28 = bs N n q 10 I L D := bs_R (by decide) rfl rfl
theorem wr25_2 {N n q : Nat} {I : Nat → Nat → Int32} {L : Nat → Nat → Int64} {D : Nat → Nat → UInt64} : wR (bs N n q 10 I L D) 25 2 29 = bs N n q 11 I L D := bs_R (by decide) rfl rfl
theorem wr25_3 {N n q : Nat} {I : Nat → Nat → Int32} {L : Nat → Nat → Int64} {D : Nat → Nat → UInt64} : wR (bs N n q 11 I L D) 25 3 30 = bs N n q 12 I L D := bs_R (by decide) rfl rfl
theorem wr19_9 {N n q : Nat} {I : Nat → Nat → Int32} {L : Nat → Nat → Int64} {D : Nat → Nat → UInt64} : wR (bs N n q 12 I L D) 19 9 26 = bs N n q 13 I L D := bs_R (by decide) rfl rfl
theorem wr30_0 {N n q : Nat} {I : Nat → Nat → Int32} {L : Nat → Nat → Int64} {D : Nat → Nat → UInt64} : wR (bs N n q 13 I L D) 30 0 32 = bs N n q 14 I L D := bs_R (by decide) rfl rfl
theorem wr19_10 {N n q : Nat} {I : Nat → Nat → Int32} {L : Nat → Nat → Int64} {D : Nat → Nat → UInt64} : wR (bs N n q 14 I L D) 19 10 31 = bs N n q 15 I L D := bs_R (by decide) rfl rfl
theorem wr20_0 {N n q : Nat} {I : Nat → Nat → Int32} {L : Nat → Nat → Int64} {D : Nat → Nat → UInt64} : wR (bs N n q 15 I L D) 20 0 33 = bs N n q 16 I L D := bs_R (by decide) rfl rfl
theorem wr20_1 {N n q : Nat} {I : Nat → Nat → Int32} {L : Nat → Nat → Int64} {D : Nat → Nat → UInt64} : wR (bs N n q 16 I L D) 20 1 34 = bs N n q 17 I L D := bs_R (by decide) rfl rfl
theorem wr20_2 {N n q : Nat} {I : Nat → Nat → Int32} {L : Nat → Nat → Int64} {D : Nat → Nat → UInt64} : wR (bs N n q 17 I L D) 20 2 35 = bs N n q 18 I L D := bs_R (by decide) rfl rfl
theorem wr20_3 {N n q : Nat} {I : Nat → Nat → Int32} {L : Nat → Nat → Int64} {D : Nat → Nat → UInt64} : wR (bs N n q 18 I L D) 20 3 36 = bs N n q 19 I L D := bs_R (by decide) rfl rfl
theorem wr20_4 {N n q : Nat} {I : Nat → Nat → Int32} {L : Nat → Nat → Int64} {D : Nat → Nat → UInt64} : wR (bs N n q 19 I L D) 20 4 37 = bs N n q 20 I L D := bs_R (by decide) rfl rfl
theorem wr20_5 {N n q : Nat} {I : Nat → Nat → Int32} {L : Nat → Nat → Int64} {D : Nat → Nat → UInt64} : wR (bs N n q 20 I L D) 20 5 38 = bs N n q 21 I L D := bs_R (by decide) rfl rfl
theorem wr20_6 {N n q : Nat} {I : Nat → Nat → Int32} {L : Nat → Nat → Int64} {D : Nat → Nat → UInt64} : wR (bs N n q 21 I L D) 20 6 39 = bs N n q 22 I L D := bs_R (by decide) rfl rfl
theorem wr20_7 {N n q : Nat} {I : Nat → Nat → Int32} {L : Nat → Nat → Int64} {D : Nat → Nat → UInt64} : wR (bs N n q 22 I L D) 20 7 40 = bs N n q 23 I L D := bs_R (by decide) rfl rfl
theorem wr20_8 {N n q : Nat} {I : Nat → Nat → Int32} {L : Nat → Nat → Int64} {D : Nat → Nat → UInt64} : wR (bs N n q 23 I L D) 20 8 41 = bs N n q 24 I L D := bs_R (by decide) rfl rfl
theorem wr20_9 {N n q : Nat} {I : Nat → Nat → Int32} {L : Nat → Nat → Int64} {D : Nat → Nat → UInt64} : wR (bs N n q 24 I L D) 20 9 42 = bs N n q 25 I L D := bs_R (by decide) rfl rfl
theorem wr22_0 {N n q : Nat} {I : Nat → Nat → Int32} {L : Nat → Nat → Int64} {D : Nat → Nat → UInt64} : wR (bs N n q 25 I L D) 22 0 43 = bs N n q 26 I L D := bs_R (by decide) rfl rfl
theorem wr22_1 {N n q : Nat} {I : Nat → Nat → Int32} {L : Nat → Nat → Int64} {D : Nat → Nat → UInt64} : wR (bs N n q 26 I L D) 22 1 44 = bs N n q 27 I L D := bs_R (by decide) rfl rfl
theorem wr22_2 {N n q : Nat} {I : Nat → Nat → Int32} {L : Nat → Nat → Int64} {D : Nat → Nat → UInt64} : wR (bs N n q 27 I L D) 22 2 45 = bs N n q 28 I L D := bs_R (by decide) rfl rfl
theorem wr22_3 {N n q : Nat} {I : Nat → Nat → Int32} {L : Nat → Nat → Int64} {D : Nat → Nat → UInt64} : wR (bs N n q 28 I L D) 22 3 46 = bs N n q 29 I L D := bs_R (by decide) rfl rfl
theorem wr15_5 {N n q : Nat} {I : Nat → Nat → Int32} {L : Nat → Nat → Int64} {D : Nat → Nat → UInt64} : wR (bs N n q 29 I L D) 15 5 20 = bs N n q 30 I L D := bs_R (by decide) rfl rfl
theorem wr46_2 {N n q : Nat} {I : Nat → Nat → Int32} {L : Nat → Nat → Int64} {D : Nat → Nat → UInt64} : wR (bs N n q 30 I L D) 46 2 48 = bs N n q 31 I L D := bs_R (by decide) rfl rfl
theorem rt46_2 {t : Nat} (h : 30 < t) : rv (RTm t 46 2) = .ref 47 := by
  have e : tm 46 2 = 30 := tm_at 30 (by decide)
  unfold RTm
  rw [e, if_pos h]
  rfl
theorem wr46_4 {N n q : Nat} {I : Nat → Nat → Int32} {L : Nat → Nat → Int64} {D : Nat → Nat → UInt64} : wR (bs N n q 31 I L D) 46 4 49 = bs N n q 32 I L D := bs_R (by decide) rfl rfl
theorem wr46_5 {N n q : Nat} {I : Nat → Nat → Int32} {L : Nat → Nat → Int64} {D : Nat → Nat → UInt64} : wR (bs N n q 32 I L D) 46 5 50 = bs N n q 33 I L D := bs_R (by decide) rfl rfl
theorem rt46_5 {t : Nat} (h : 32 < t) : rv (RTm t 46 5) = .ref 49 := by
  have e : tm 46 5 = 32 := tm_at 32 (by decide)
  unfold RTm
  rw [e, if_pos h]
  rfl
theorem wr46_7 {N n q : Nat} {I : Nat → Nat → Int32} {L : Nat → Nat → Int64} {D : Nat → Nat → UInt64} : wR (bs N n q 33 I L D) 46 7 51 = bs N n q 34 I L D := bs_R (by decide) rfl rfl
theorem wr46_8 {N n q : Nat} {I : Nat → Nat → Int32} {L : Nat → Nat → Int64} {D : Nat → Nat → UInt64} : wR (bs N n q 34 I L D) 46 8 52 = bs N n q 35 I L D := bs_R (by decide) rfl rfl
theorem wr52_0 {N n q : Nat} {I : Nat → Nat → Int32} {L : Nat → Nat → Int64} {D : Nat → Nat → UInt64} : wR (bs N n q 35 I L D) 52 0 54 = bs N n q 36 I L D := bs_R (by decide) rfl rfl
theorem wr52_1 {N n q : Nat} {I : Nat → Nat → Int32} {L : Nat → Nat → Int64} {D : Nat → Nat → UInt64} : wR (bs N n q 36 I L D) 52 1 55 = bs N n q 37 I L D := bs_R (by decide) rfl rfl
theorem wr52_2 {N n q : Nat} {I : Nat → Nat → Int32} {L : Nat → Nat → Int64} {D : Nat → Nat → UInt64} : wR (bs N n q 37 I L D) 52 2 56 = bs N n q 38 I L D := bs_R (by decide) rfl rfl
theorem wr52_3 {N n q : Nat} {I : Nat → Nat → Int32} {L : Nat → Nat → Int64} {D : Nat → Nat → UInt64} : wR (bs N n q 38 I L D) 52 3 57 = bs N n q 39 I L D := bs_R (by decide) rfl rfl
theorem wr46_9 {N n q : Nat} {I : Nat → Nat → Int32} {L : Nat → Nat → Int64} {D : Nat → Nat → UInt64} : wR (bs N n q 39 I L D) 46 9 53 = bs N n q 40 I L D := bs_R (by decide) rfl rfl
theorem wr57_0 {N n q : Nat} {I : Nat → Nat → Int32} {L : Nat → Nat → Int64} {D : Nat → Nat → UInt64} : wR (bs N n q 40 I L D) 57 0 59 = bs N n q 41 I L D := bs_R (by decide) rfl rfl
theorem wr46_10 {N n q : Nat} {I : Nat → Nat → Int32} {L : Nat → Nat → Int64} {D : Nat → Nat → UInt64} : wR (bs N n q 41 I L D) 46 10 58 = bs N n q 42 I L D := bs_R (by decide) rfl rfl
theorem wr47_0 {N n q : Nat} {I : Nat → Nat → Int32} {L : Nat → Nat → Int64} {D : Nat → Nat → UInt64} : wR (bs N n q 42 I L D) 47 0 60 = bs N n q 43 I L D := bs_R (by decide) rfl rfl
theorem wr47_1 {N n q : Nat} {I : Nat → Nat → Int32} {L : Nat → Nat → Int64} {D : Nat → Nat → UInt64} : wR (bs N n q 43 I L D) 47 1 61 = bs N n q 44 I L D := bs_R (by decide) rfl rfl
theorem wr47_2 {N n q : Nat} {I : Nat → Nat → Int32} {L : Nat → Nat → Int64} {D : Nat → Nat → UInt64} : wR (bs N n q 44 I L D) 47 2 62 = bs N n q 45 I L D := bs_R (by decide) rfl rfl
theorem wr47_3 {N n q : Nat} {I : Nat → Nat → Int32} {L : Nat → Nat → Int64} {D : Nat → Nat → UInt64} : wR (bs N n q 45 I L D) 47 3 63 = bs N n q 46 I L D := bs_R (by decide) rfl rfl
theorem wr47_4 {N n q : Nat} {I : Nat → Nat → Int32} {L : Nat → Nat → Int64} {D : Nat → Nat → UInt64} : wR (bs N n q 46 I L D) 47 4 64 = bs N n q 47 I L D := bs_R (by decide) rfl rfl
theorem wr47_5 {N n q : Nat} {I : Nat → Nat → Int32} {L : Nat → Nat → Int64} {D : Nat → Nat → UInt64} : wR (bs N n q 47 I L D) 47 5 65 = bs N n q 48 I L D := bs_R (by decide) rfl rfl
theorem wr47_6 {N n q : Nat} {I : Nat → Nat → Int32} {L : Nat → Nat → Int64} {D : Nat → Nat → UInt64} : wR (bs N n q 48 I L D) 47 6 66 = bs N n q 49 I L D := bs_R (by decide) rfl rfl
theorem wr47_7 {N n q : Nat} {I : Nat → Nat → Int32} {L : Nat → Nat → Int64} {D : Nat → Nat → UInt64} : wR (bs N n q 49 I L D) 47 7 67 = bs N n q 50 I L D := bs_R (by decide) rfl rfl
theorem wr47_8 {N n q : Nat} {I : Nat → Nat → Int32} {L : Nat → Nat → Int64} {D : Nat → Nat → UInt64} : wR (bs N n q 50 I L D) 47 8 68 = bs N n q 51 I L D := bs_R (by decide) rfl rfl
theorem wr47_9 {N n q : Nat} {I : Nat → Nat → Int32} {L : Nat → Nat → Int64} {D : Nat → Nat → UInt64} : wR (bs N n q 51 I L D) 47 9 69 = bs N n q 52 I L D := bs_R (by decide) rfl rfl
theorem wr49_0 {N n q : Nat} {I : Nat → Nat → Int32} {L : Nat → Nat → Int64} {D : Nat → Nat → UInt64} : wR (bs N n q 52 I L D) 49 0 70 = bs N n q 53 I L D := bs_R (by decide) rfl rfl
theorem wr49_1 {N n q : Nat} {I : Nat → Nat → Int32} {L : Nat → Nat → Int64} {D : Nat → Nat → UInt64} : wR (bs N n q 53 I L D) 49 1 71 = bs N n q 54 I L D := bs_R (by decide) rfl rfl
theorem wr49_2 {N n q : Nat} {I : Nat → Nat → Int32} {L : Nat → Nat → Int64} {D : Nat → Nat → UInt64} : wR (bs N n q 54 I L D) 49 2 72 = bs N n q 55 I L D := bs_R (by decide) rfl rfl
theorem wr49_3 {N n q : Nat} {I : Nat → Nat → Int32} {L : Nat → Nat → Int64} {D : Nat → Nat → UInt64} : wR (bs N n q 55 I L D) 49 3 73 = bs N n q 56 I L D := bs_R (by decide) rfl rfl
theorem wr15_6 {N n q : Nat} {I : Nat → Nat → Int32} {L : Nat → Nat → Int64} {D : Nat → Nat → UInt64} : wR (bs N n q 56 I L D) 15 6 47 = bs N n q 57 I L D := bs_R (by decide) rfl rfl
theorem rt15_6 {t : Nat} (h : 56 < t) : rv (RTm t 15 6) = .ref 46 := by
  have e : tm 15 6 = 56 := tm_at 56 (by decide)
  unfold RTm
  rw [e, if_pos h]
  rfl
theorem wr73_0 {N n q : Nat} {I : Nat → Nat → Int32} {L : Nat → Nat → Int64} {D : Nat → Nat → UInt64} : wR (bs N n q 57 I L D) 73 0 17 = bs N n q 58 I L D := bs_R (by decide) rfl rfl
theorem wr73_1 {N n q : Nat} {I : Nat → Nat → Int32} {L : Nat → Nat → Int64} {D : Nat → Nat → UInt64} : wR (bs N n q 58 I L D) 73 1 47 = bs N n q 59 I L D := bs_R (by decide) rfl rfl
theorem wr15_7 {N n q : Nat} {I : Nat → Nat → Int32} {L : Nat → Nat → Int64} {D : Nat → Nat → UInt64} : wR (bs N n q 59 I L D) 15 7 74 = bs N n q 60 I L D := bs_R (by decide) rfl rfl
theorem wr74_0 {N n q : Nat} {I : Nat → Nat → Int32} {L : Nat → Nat → Int64} {D : Nat → Nat → UInt64} : wR (bs N n q 60 I L D) 74 0 76 = bs N n q 61 I L D := bs_R (by decide) rfl rfl
theorem rt74_0 {t : Nat} (h : 60 < t) : rv (RTm t 74 0) = .ref 75 := by
  have e : tm 74 0 = 60 := tm_at 60 (by decide)
  unfold RTm
  rw [e, if_pos h]
  rfl
theorem wr76_2 {N n q : Nat} {I : Nat → Nat → Int32} {L : Nat → Nat → Int64} {D : Nat → Nat → UInt64} : wR (bs N n q 61 I L D) 76 2 78 = bs N n q 62 I L D := bs_R (by decide) rfl rfl
theorem rt76_2 {t : Nat} (h : 61 < t) : rv (RTm t 76 2) = .ref 77 := by
  have e : tm 76 2 = 61 := tm_at 61 (by decide)
  unfold RTm
  rw [e, if_pos h]
  rfl
theorem wr76_4 {N n q : Nat} {I : Nat → Nat → Int32} {L : Nat → Nat → Int64} {D : Nat → Nat → UInt64} : wR (bs N n q 62 I L D) 76 4 79 = bs N n q 63 I L D := bs_R (by decide) rfl rfl
theorem wr76_5 {N n q : Nat} {I : Nat → Nat → Int32} {L : Nat → Nat → Int64} {D : Nat → Nat → UInt64} : wR (bs N n q 63 I L D) 76 5 80 = bs N n q 64 I L D := bs_R (by decide) rfl rfl
theorem rt76_5 {t : Nat} (h : 63 < t) : rv (RTm t 76 5) = .ref 79 := by
  have e : tm 76 5 = 63 := tm_at 63 (by decide)
  unfold RTm
  rw [e, if_pos h]
  rfl
theorem wr76_7 {N n q : Nat} {I : Nat → Nat → Int32} {L : Nat → Nat → Int64} {D : Nat → Nat → UInt64} : wR (bs N n q 64 I L D) 76 7 81 = bs N n q 65 I L D := bs_R (by decide) rfl rfl
theorem wr76_8 {N n q : Nat} {I : Nat → Nat → Int32} {L : Nat → Nat → Int64} {D : Nat → Nat → UInt64} : wR (bs N n q 65 I L D) 76 8 82 = bs N n q 66 I L D := bs_R (by decide) rfl rfl
theorem wr82_0 {N n q : Nat} {I : Nat → Nat → Int32} {L : Nat → Nat → Int64} {D : Nat → Nat → UInt64} : wR (bs N n q 66 I L D) 82 0 84 = bs N n q 67 I L D := bs_R (by decide) rfl rfl
theorem wr82_1 {N n q : Nat} {I : Nat → Nat → Int32} {L : Nat → Nat → Int64} {D : Nat → Nat → UInt64} : wR (bs N n q 67 I L D) 82 1 85 = bs N n q 68 I L D := bs_R (by decide) rfl rfl
theorem wr82_2 {N n q : Nat} {I : Nat → Nat → Int32} {L : Nat → Nat → Int64} {D : Nat → Nat → UInt64} : wR (bs N n q 68 I L D) 82 2 86 = bs N n q 69 I L D := bs_R (by decide) rfl rfl
theorem wr82_3 {N n q : Nat} {I : Nat → Nat → Int32} {L : Nat → Nat → Int64} {D : Nat → Nat → UInt64} : wR (bs N n q 69 I L D) 82 3 87 = bs N n q 70 I L D := bs_R (by decide) rfl rfl
theorem wr76_9 {N n q : Nat} {I : Nat → Nat → Int32} {L : Nat → Nat → Int64} {D : Nat → Nat → UInt64} : wR (bs N n q 70 I L D) 76 9 83 = bs N n q 71 I L D := bs_R (by decide) rfl rfl
theorem wr87_0 {N n q : Nat} {I : Nat → Nat → Int32} {L : Nat → Nat → Int64} {D : Nat → Nat → UInt64} : wR (bs N n q 71 I L D) 87 0 89 = bs N n q 72 I L D := bs_R (by decide) rfl rfl
theorem wr76_10 {N n q : Nat} {I : Nat → Nat → Int32} {L : Nat → Nat → Int64} {D : Nat → Nat → UInt64} : wR (bs N n q 72 I L D) 76 10 88 = bs N n q 73 I L D := bs_R (by decide) rfl rfl
theorem wr77_0 {N n q : Nat} {I : Nat → Nat → Int32} {L : Nat → Nat → Int64} {D : Nat → Nat → UInt64} : wR (bs N n q 73 I L D) 77 0 90 = bs N n q 74 I L D := bs_R (by decide) rfl rfl
theorem wr77_1 {N n q : Nat} {I : Nat → Nat → Int32} {L : Nat → Nat → Int64} {D : Nat → Nat → UInt64} : wR (bs N n q 74 I L D) 77 1 91 = bs N n q 75 I L D := bs_R (by decide) rfl rfl
theorem wr77_2 {N n q : Nat} {I : Nat → Nat → Int32} {L : Nat → Nat → Int64} {D : Nat → Nat → UInt64} : wR (bs N n q 75 I L D) 77 2 92 = bs N n q 76 I L D := bs_R (by decide) rfl rfl
theorem wr77_3 {N n q : Nat} {I : Nat → Nat → Int32} {L : Nat → Nat → Int64} {D : Nat → Nat → UInt64} : wR (bs N n q 76 I L D) 77 3 93 = bs N n q 77 I L D := bs_R (by decide) rfl rfl
theorem wr77_4 {N n q : Nat} {I : Nat → Nat → Int32} {L : Nat → Nat → Int64} {D : Nat → Nat → UInt64} : wR (bs N n q 77 I L D) 77 4 94 = bs N n q 78 I L D := bs_R (by decide) rfl rfl
theorem wr77_5 {N n q : Nat} {I : Nat → Nat → Int32} {L : Nat → Nat → Int64} {D : Nat → Nat → UInt64} : wR (bs N n q 78 I L D) 77 5 95 = bs N n q 79 I L D := bs_R (by decide) rfl rfl
theorem wr77_6 {N n q : Nat} {I : Nat → Nat → Int32} {L : Nat → Nat → Int64} {D : Nat → Nat → UInt64} : wR (bs N n q 79 I L D) 77 6 96 = bs N n q 80 I L D := bs_R (by decide) rfl rfl
theorem wr77_7 {N n q : Nat} {I : Nat → Nat → Int32} {L : Nat → Nat → Int64} {D : Nat → Nat → UInt64} : wR (bs N n q 80 I L D) 77 7 97 = bs N n q 81 I L D := bs_R (by decide) rfl rfl
theorem wr77_8 {N n q : Nat} {I : Nat → Nat → Int32} {L : Nat → Nat → Int64} {D : Nat → Nat → UInt64} : wR (bs N n q 81 I L D) 77 8 98 = bs N n q 82 I L D := bs_R (by decide) rfl rfl
theorem wr77_9 {N n q : Nat} {I : Nat → Nat → Int32} {L : Nat → Nat → Int64} {D : Nat → Nat → UInt64} : wR (bs N n q 82 I L D) 77 9 99 = bs N n q 83 I L D := bs_R (by decide) rfl rfl
theorem wr79_0 {N n q : Nat} {I : Nat → Nat → Int32} {L : Nat → Nat → Int64} {D : Nat → Nat → UInt64} : wR (bs N n q 83 I L D) 79 0 100 = bs N n q 84 I L D := bs_R (by decide) rfl rfl
theorem wr79_1 {N n q : Nat} {I : Nat → Nat → Int32} {L : Nat → Nat → Int64} {D : Nat → Nat → UInt64} : wR (bs N n q 84 I L D) 79 1 101 = bs N n q 85 I L D := bs_R (by decide) rfl rfl
theorem wr79_2 {N n q : Nat} {I : Nat → Nat → Int32} {L : Nat → Nat → Int64} {D : Nat → Nat → UInt64} : wR (bs N n q 85 I L D) 79 2 102 = bs N n q 86 I L D := bs_R (by decide) rfl rfl
theorem wr79_3 {N n q : Nat} {I : Nat → Nat → Int32} {L : Nat → Nat → Int64} {D : Nat → Nat → UInt64} : wR (bs N n q 86 I L D) 79 3 103 = bs N n q 87 I L D := bs_R (by decide) rfl rfl
theorem wr75_0 {N n q : Nat} {I : Nat → Nat → Int32} {L : Nat → Nat → Int64} {D : Nat → Nat → UInt64} : wR (bs N n q 87 I L D) 75 0 77 = bs N n q 88 I L D := bs_R (by decide) rfl rfl
theorem wr103_2 {N n q : Nat} {I : Nat → Nat → Int32} {L : Nat → Nat → Int64} {D : Nat → Nat → UInt64} : wR (bs N n q 88 I L D) 103 2 105 = bs N n q 89 I L D := bs_R (by decide) rfl rfl
theorem rt103_2 {t : Nat} (h : 88 < t) : rv (RTm t 103 2) = .ref 104 := by
  have e : tm 103 2 = 88 := tm_at 88 (by decide)
  unfold RTm
  rw [e, if_pos h]
  rfl
theorem wr103_4 {N n q : Nat} {I : Nat → Nat → Int32} {L : Nat → Nat → Int64} {D : Nat → Nat → UInt64} : wR (bs N n q 89 I L D) 103 4 106 = bs N n q 90 I L D := bs_R (by decide) rfl rfl
theorem wr103_5 {N n q : Nat} {I : Nat → Nat → Int32} {L : Nat → Nat → Int64} {D : Nat → Nat → UInt64} : wR (bs N n q 90 I L D) 103 5 107 = bs N n q 91 I L D := bs_R (by decide) rfl rfl
theorem rt103_5 {t : Nat} (h : 90 < t) : rv (RTm t 103 5) = .ref 106 := by
  have e : tm 103 5 = 90 := tm_at 90 (by decide)
  unfold RTm
  rw [e, if_pos h]
  rfl
theorem wr103_7 {N n q : Nat} {I : Nat → Nat → Int32} {L : Nat → Nat → Int64} {D : Nat → Nat → UInt64} : wR (bs N n q 91 I L D) 103 7 108 = bs N n q 92 I L D := bs_R (by decide) rfl rfl
theorem wr103_8 {N n q : Nat} {I : Nat → Nat → Int32} {L : Nat → Nat → Int64} {D : Nat → Nat → UInt64} : wR (bs N n q 92 I L D) 103 8 109 = bs N n q 93 I L D := bs_R (by decide) rfl rfl
theorem wr109_0 {N n q : Nat} {I : Nat → Nat → Int32} {L : Nat → Nat → Int64} {D : Nat → Nat → UInt64} : wR (bs N n q 93 I L D) 109 0 111 = bs N n q 94 I L D := bs_R (by decide) rfl rfl
theorem wr109_1 {N n q : Nat} {I : Nat → Nat → Int32} {L : Nat → Nat → Int64} {D : Nat → Nat → UInt64} : wR (bs N n q 94 I L D) 109 1 112 = bs N n q 95 I L D := bs_R (by decide) rfl rfl
theorem wr109_2 {N n q : Nat} {I : Nat → Nat → Int32} {L : Nat → Nat → Int64} {D : Nat → Nat → UInt64} : wR (bs N n q 95 I L D) 109 2 113 = bs N n q 96 I L D := bs_R (by decide) rfl rfl
theorem wr109_3 {N n q : Nat} {I : Nat → Nat → Int32} {L : Nat → Nat → Int64} {D : Nat → Nat → UInt64} : wR (bs N n q 96 I L D) 109 3 114 = bs N n q 97 I L D := bs_R (by decide) rfl rfl
theorem wr103_9 {N n q : Nat} {I : Nat → Nat → Int32} {L : Nat → Nat → Int64} {D : Nat → Nat → UInt64} : wR (bs N n q 97 I L D) 103 9 110 = bs N n q 98 I L D := bs_R (by decide) rfl rfl
theorem wr114_0 {N n q : Nat} {I : Nat → Nat → Int32} {L : Nat → Nat → Int64} {D : Nat → Nat → UInt64} : wR (bs N n q 98 I L D) 114 0 116 = bs N n q 99 I L D := bs_R (by decide) rfl rfl
theorem wr103_10 {N n q : Nat} {I : Nat → Nat → Int32} {L : Nat → Nat → Int64} {D : Nat → Nat → UInt64} : wR (bs N n q 99 I L D) 103 10 115 = bs N n q 100 I L D := bs_R (by decide) rfl rfl
theorem wr104_0 {N n q : Nat} {I : Nat → Nat → Int32} {L : Nat → Nat → Int64} {D : Nat → Nat → UInt64} : wR (bs N n q 100 I L D) 104 0 117 = bs N n q 101 I L D := bs_R (by decide) rfl rfl
theorem wr104_1 {N n q : Nat} {I : Nat → Nat → Int32} {L : Nat → Nat → Int64} {D : Nat → Nat → UInt64} : wR (bs N n q 101 I L D) 104 1 118 = bs N n q 102 I L D := bs_R (by decide) rfl rfl
theorem wr104_2 {N n q : Nat} {I : Nat → Nat → Int32} {L : Nat → Nat → Int64} {D : Nat → Nat → UInt64} : wR (bs N n q 102 I L D) 104 2 119 = bs N n q 103 I L D := bs_R (by decide) rfl rfl
theorem wr104_3 {N n q : Nat} {I : Nat → Nat → Int32} {L : Nat → Nat → Int64} {D : Nat → Nat → UInt64} : wR (bs N n q 103 I L D) 104 3 120 = bs N n q 104 I L D := bs_R (by decide) rfl rfl
theorem wr104_4 {N n q : Nat} {I : Nat → Nat → Int32} {L : Nat → Nat → Int64} {D : Nat → Nat → UInt64} : wR (bs N n q 104 I L D) 104 4 121 = bs N n q 105 I L D := bs_R (by decide) rfl rfl
theorem wr104_5 {N n q : Nat} {I : Nat → Nat → Int32} {L : Nat → Nat → Int64} {D : Nat → Nat → UInt64} : wR (bs N n q 105 I L D) 104 5 122 = bs N n q 106 I L D := bs_R (by decide) rfl rfl
theorem wr104_6 {N n q : Nat} {I : Nat → Nat → Int32} {L : Nat → Nat → Int64} {D : Nat → Nat → UInt64} : wR (bs N n q 106 I L D) 104 6 123 = bs N n q 107 I L D := bs_R (by decide) rfl rfl
theorem wr104_7 {N n q : Nat} {I : Nat → Nat → Int32} {L : Nat → Nat → Int64} {D : Nat → Nat → UInt64} : wR (bs N n q 107 I L D) 104 7 124 = bs N n q 108 I L D := bs_R (by decide) rfl rfl
theorem wr104_8 {N n q : Nat} {I : Nat → Nat → Int32} {L : Nat → Nat → Int64} {D : Nat → Nat → UInt64} : wR (bs N n q 108 I L D) 104 8 125 = bs N n q 109 I L D := bs_R (by decide) rfl rfl
theorem wr104_9 {N n q : Nat} {I : Nat → Nat → Int32} {L : Nat → Nat → Int64} {D : Nat → Nat → UInt64} : wR (bs N n q 109 I L D) 104 9 126 = bs N n q 110 I L D := bs_R (by decide) rfl rfl
theorem wr106_0 {N n q : Nat} {I : Nat → Nat → Int32} {L : Nat → Nat → Int64} {D : Nat → Nat → UInt64} : wR (bs N n q 110 I L D) 106 0 127 = bs N n q 111 I L D := bs_R (by decide) rfl rfl
theorem wr106_1 {N n q : Nat} {I : Nat → Nat → Int32} {L : Nat → Nat → Int64} {D : Nat → Nat → UInt64} : wR (bs N n q 111 I L D) 106 1 128 = bs N n q 112 I L D := bs_R (by decide) rfl rfl
theorem wr106_2 {N n q : Nat} {I : Nat → Nat → Int32} {L : Nat → Nat → Int64} {D : Nat → Nat → UInt64} : wR (bs N n q 112 I L D) 106 2 129 = bs N n q 113 I L D := bs_R (by decide) rfl rfl
theorem wr106_3 {N n q : Nat} {I : Nat → Nat → Int32} {L : Nat → Nat → Int64} {D : Nat → Nat → UInt64} : wR (bs N n q 113 I L D) 106 3 130 = bs N n q 114 I L D := bs_R (by decide) rfl rfl
theorem wr75_1 {N n q : Nat} {I : Nat → Nat → Int32} {L : Nat → Nat → Int64} {D : Nat → Nat → UInt64} : wR (bs N n q 114 I L D) 75 1 104 = bs N n q 115 I L D := bs_R (by decide) rfl rfl
theorem wr130_2 {N n q : Nat} {I : Nat → Nat → Int32} {L : Nat → Nat → Int64} {D : Nat → Nat → UInt64} : wR (bs N n q 115 I L D) 130 2 132 = bs N n q 116 I L D := bs_R (by decide) rfl rfl
theorem rt130_2 {t : Nat} (h : 115 < t) : rv (RTm t 130 2) = .ref 131 := by
  have e : tm 130 2 = 115 := tm_at 115 (by decide)
  unfold RTm
  rw [e, if_pos h]
  rfl
theorem wr130_4 {N n q : Nat} {I : Nat → Nat → Int32} {L : Nat → Nat → Int64} {D : Nat → Nat → UInt64} : wR (bs N n q 116 I L D) 130 4 133 = bs N n q 117 I L D := bs_R (by decide) rfl rfl
theorem wr130_5 {N n q : Nat} {I : Nat → Nat → Int32} {L : Nat → Nat → Int64} {D : Nat → Nat → UInt64} : wR (bs N n q 117 I L D) 130 5 134 = bs N n q 118 I L D := bs_R (by decide) rfl rfl
theorem rt130_5 {t : Nat} (h : 117 < t) : rv (RTm t 130 5) = .ref 133 := by
  have e : tm 130 5 = 117 := tm_at 117 (by decide)
  unfold RTm
  rw [e, if_pos h]
  rfl
theorem wr130_7 {N n q : Nat} {I : Nat → Nat → Int32} {L : Nat → Nat → Int64} {D : Nat → Nat → UInt64} : wR (bs N n q 118 I L D) 130 7 135 = bs N n q 119 I L D := bs_R (by decide) rfl rfl
theorem wr130_8 {N n q : Nat} {I : Nat → Nat → Int32} {L : Nat → Nat → Int64} {D : Nat → Nat → UInt64} : wR (bs N n q 119 I L D) 130 8 136 = bs N n q 120 I L D := bs_R (by decide) rfl rfl
theorem wr136_0 {N n q : Nat} {I : Nat → Nat → Int32} {L : Nat → Nat → Int64} {D : Nat → Nat → UInt64} : wR (bs N n q 120 I L D) 136 0 138 = bs N n q 121 I L D := bs_R (by decide) rfl rfl
theorem wr136_1 {N n q : Nat} {I : Nat → Nat → Int32} {L : Nat → Nat → Int64} {D : Nat → Nat → UInt64} : wR (bs N n q 121 I L D) 136 1 139 = bs N n q 122 I L D := bs_R (by decide) rfl rfl
theorem wr136_2 {N n q : Nat} {I : Nat → Nat → Int32} {L : Nat → Nat → Int64} {D : Nat → Nat → UInt64} : wR (bs N n q 122 I L D) 136 2 140 = bs N n q 123 I L D := bs_R (by decide) rfl rfl
theorem wr136_3 {N n q : Nat} {I : Nat → Nat → Int32} {L : Nat → Nat → Int64} {D : Nat → Nat → UInt64} : wR (bs N n q 123 I L D) 136 3 141 = bs N n q 124 I L D := bs_R (by decide) rfl rfl
theorem wr130_9 {N n q : Nat} {I : Nat → Nat → Int32} {L : Nat → Nat → Int64} {D : Nat → Nat → UInt64} : wR (bs N n q 124 I L D) 130 9 137 = bs N n q 125 I L D := bs_R (by decide) rfl rfl
theorem wr141_0 {N n q : Nat} {I : Nat → Nat → Int32} {L : Nat → Nat → Int64} {D : Nat → Nat → UInt64} : wR (bs N n q 125 I L D) 141 0 143 = bs N n q 126 I L D := bs_R (by decide) rfl rfl
theorem wr130_10 {N n q : Nat} {I : Nat → Nat → Int32} {L : Nat → Nat → Int64} {D : Nat → Nat → UInt64} : wR (bs N n q 126 I L D) 130 10 142 = bs N n q 127 I L D := bs_R (by decide) rfl rfl
theorem wr131_0 {N n q : Nat} {I : Nat → Nat → Int32} {L : Nat → Nat → Int64} {D : Nat → Nat → UInt64} : wR (bs N n q 127 I L D) 131 0 144 = bs N n q 128 I L D := bs_R (by decide) rfl rfl
theorem wr131_1 {N n q : Nat} {I : Nat → Nat → Int32} {L : Nat → Nat → Int64} {D : Nat → Nat → UInt64} : wR (bs N n q 128 I L D) 131 1 145 = bs N n q 129 I L D := bs_R (by decide) rfl rfl
theorem wr131_2 {N n q : Nat} {I : Nat → Nat → Int32} {L : Nat → Nat → Int64} {D : Nat → Nat → UInt64} : wR (bs N n q 129 I L D) 131 2 146 = bs N n q 130 I L D := bs_R (by decide) rfl rfl
theorem wr131_3 {N n q : Nat} {I : Nat → Nat → Int32} {L : Nat → Nat → Int64} {D : Nat → Nat → UInt64} : wR (bs N n q 130 I L D) 131 3 147 = bs N n q 131 I L D := bs_R (by decide) rfl rfl
theorem wr131_4 {N n q : Nat} {I : Nat → Nat → Int32} {L : Nat → Nat → Int64} {D : Nat → Nat → UInt64} : wR (bs N n q 131 I L D) 131 4 148 = bs N n q 132 I L D := bs_R (by decide) rfl rfl
theorem wr131_5 {N n q : Nat} {I : Nat → Nat → Int32} {L : Nat → Nat → Int64} {D : Nat → Nat → UInt64} : wR (bs N n q 132 I L D) 131 5 149 = bs N n q 133 I L D := bs_R (by decide) rfl rfl
theorem wr131_6 {N n q : Nat} {I : Nat → Nat → Int32} {L : Nat → Nat → Int64} {D : Nat → Nat → UInt64} : wR (bs N n q 133 I L D) 131 6 150 = bs N n q 134 I L D := bs_R (by decide) rfl rfl
theorem wr131_7 {N n q : Nat} {I : Nat → Nat → Int32} {L : Nat → Nat → Int64} {D : Nat → Nat → UInt64} : wR (bs N n q 134 I L D) 131 7 151 = bs N n q 135 I L D := bs_R (by decide) rfl rfl
theorem wr131_8 {N n q : Nat} {I : Nat → Nat → Int32} {L : Nat → Nat → Int64} {D : Nat → Nat → UInt64} : wR (bs N n q 135 I L D) 131 8 152 = bs N n q 136 I L D := bs_R (by decide) rfl rfl
theorem wr131_9 {N n q : Nat} {I : Nat → Nat → Int32} {L : Nat → Nat → Int64} {D : Nat → Nat → UInt64} : wR (bs N n q 136 I L D) 131 9 153 = bs N n q 137 I L D := bs_R (by decide) rfl rfl
theorem wr133_0 {N n q : Nat} {I : Nat → Nat → Int32} {L : Nat → Nat → Int64} {D : Nat → Nat → UInt64} : wR (bs N n q 137 I L D) 133 0 154 = bs N n q 138 I L D := bs_R (by decide) rfl rfl
theorem wr133_1 {N n q : Nat} {I : Nat → Nat → Int32} {L : Nat → Nat → Int64} {D : Nat → Nat → UInt64} : wR (bs N n q 138 I L D) 133 1 155 = bs N n q 139 I L D := bs_R (by decide) rfl rfl
theorem wr133_2 {N n q : Nat} {I : Nat → Nat → Int32} {L : Nat → Nat → Int64} {D : Nat → Nat → UInt64} : wR (bs N n q 139 I L D) 133 2 156 = bs N n q 140 I L D := bs_R (by decide) rfl rfl
theorem wr133_3 {N n q : Nat} {I : Nat → Nat → Int32} {L : Nat → Nat → Int64} {D : Nat → Nat → UInt64} : wR (bs N n q 140 I L D) 133 3 157 = bs N n q 141 I L D := bs_R (by decide) rfl rfl
theorem wr75_2 {N n q : Nat} {I : Nat → Nat → Int32} {L : Nat → Nat → Int64} {D : Nat → Nat → UInt64} : wR (bs N n q 141 I L D) 75 2 131 = bs N n q 142 I L D := bs_R (by decide) rfl rfl
theorem wr157_2 {N n q : Nat} {I : Nat → Nat → Int32} {L : Nat → Nat → Int64} {D : Nat → Nat → UInt64} : wR (bs N n q 142 I L D) 157 2 159 = bs N n q 143 I L D := bs_R (by decide) rfl rfl
theorem rt157_2 {t : Nat} (h : 142 < t) : rv (RTm t 157 2) = .ref 158 := by
  have e : tm 157 2 = 142 := tm_at 142 (by decide)
  unfold RTm
  rw [e, if_pos h]
  rfl
theorem wr157_4 {N n q : Nat} {I : Nat → Nat → Int32} {L : Nat → Nat → Int64} {D : Nat → Nat → UInt64} : wR (bs N n q 143 I L D) 157 4 160 = bs N n q 144 I L D := bs_R (by decide) rfl rfl
theorem wr157_5 {N n q : Nat} {I : Nat → Nat → Int32} {L : Nat → Nat → Int64} {D : Nat → Nat → UInt64} : wR (bs N n q 144 I L D) 157 5 161 = bs N n q 145 I L D := bs_R (by decide) rfl rfl
theorem rt157_5 {t : Nat} (h : 144 < t) : rv (RTm t 157 5) = .ref 160 := by
  have e : tm 157 5 = 144 := tm_at 144 (by decide)
  unfold RTm
  rw [e, if_pos h]
  rfl
theorem wr157_7 {N n q : Nat} {I : Nat → Nat → Int32} {L : Nat → Nat → Int64} {D : Nat → Nat → UInt64} : wR (bs N n q 145 I L D) 157 7 162 = bs N n q 146 I L D := bs_R (by decide) rfl rfl
theorem wr157_8 {N n q : Nat} {I : Nat → Nat → Int32} {L : Nat → Nat → Int64} {D : Nat → Nat → UInt64} : wR (bs N n q 146 I L D) 157 8 163 = bs N n q 147 I L D := bs_R (by decide) rfl rfl
theorem wr163_0 {N n q : Nat} {I : Nat → Nat → Int32} {L : Nat → Nat → Int64} {D : Nat → Nat → UInt64} : wR (bs N n q 147 I L D) 163 0 165 = bs N n q 148 I L D := bs_R (by decide) rfl rfl
theorem wr163_1 {N n q : Nat} {I : Nat → Nat → Int32} {L : Nat → Nat → Int64} {D : Nat → Nat → UInt64} : wR (bs N n q 148 I L D) 163 1 166 = bs N n q 149 I L D := bs_R (by decide) rfl rfl
theorem wr163_2 {N n q : Nat} {I : Nat → Nat → Int32} {L : Nat → Nat → Int64} {D : Nat → Nat → UInt64} : wR (bs N n q 149 I L D) 163 2 167 = bs N n q 150 I L D := bs_R (by decide) rfl rfl
theorem wr163_3 {N n q : Nat} {I : Nat → Nat → Int32} {L : Nat → Nat → Int64} {D : Nat → Nat → UInt64} : wR (bs N n q 150 I L D) 163 3 168 = bs N n q 151 I L D := bs_R (by decide) rfl rfl
theorem wr157_9 {N n q : Nat} {I : Nat → Nat → Int32} {L : Nat → Nat → Int64} {D : Nat → Nat → UInt64} : wR (bs N n q 151 I L D) 157 9 164 = bs N n q 152 I L D := bs_R (by decide) rfl rfl
theorem wr168_0 {N n q : Nat} {I : Nat → Nat → Int32} {L : Nat → Nat → Int64} {D : Nat → Nat → UInt64} : wR (bs N n q 152 I L D) 168 0 170 = bs N n q 153 I L D := bs_R (by decide) rfl rfl
theorem wr157_10 {N n q : Nat} {I : Nat → Nat → Int32} {L : Nat → Nat → Int64} {D : Nat → Nat → UInt64} : wR (bs N n q 153 I L D) 157 10 169 = bs N n q 154 I L D := bs_R (by decide) rfl rfl
theorem wr158_0 {N n q : Nat} {I : Nat → Nat → Int32} {L : Nat → Nat → Int64} {D : Nat → Nat → UInt64} : wR (bs N n q 154 I L D) 158 0 171 = bs N n q 155 I L D := bs_R (by decide) rfl rfl
theorem wr158_1 {N n q : Nat} {I : Nat → Nat → Int32} {L : Nat → Nat → Int64} {D : Nat → Nat → UInt64} : wR (bs N n q 155 I L D) 158 1 172 = bs N n q 156 I L D := bs_R (by decide) rfl rfl
theorem wr158_2 {N n q : Nat} {I : Nat → Nat → Int32} {L : Nat → Nat → Int64} {D : Nat → Nat → UInt64} : wR (bs N n q 156 I L D) 158 2 173 = bs N n q 157 I L D := bs_R (by decide) rfl rfl
theorem wr158_3 {N n q : Nat} {I : Nat → Nat → Int32} {L : Nat → Nat → Int64} {D : Nat → Nat → UInt64} : wR (bs N n q 157 I L D) 158 3 174 = bs N n q 158 I L D := bs_R (by decide) rfl rfl
theorem wr158_4 {N n q : Nat} {I : Nat → Nat → Int32} {L : Nat → Nat → Int64} {D : Nat → Nat → UInt64} : wR (bs N n q 158 I L D) 158 4 175 = bs N n q 159 I L D := bs_R (by decide) rfl rfl
theorem wr158_5 {N n q : Nat} {I : Nat → Nat → Int32} {L : Nat → Nat → Int64} {D : Nat → Nat → UInt64} : wR (bs N n q 159 I L D) 158 5 176 = bs N n q 160 I L D := bs_R (by decide) rfl rfl
theorem wr158_6 {N n q : Nat} {I : Nat → Nat → Int32} {L : Nat → Nat → Int64} {D : Nat → Nat → UInt64} : wR (bs N n q 160 I L D) 158 6 177 = bs N n q 161 I L D := bs_R (by decide) rfl rfl
theorem wr158_7 {N n q : Nat} {I : Nat → Nat → Int32} {L : Nat → Nat → Int64} {D : Nat → Nat → UInt64} : wR (bs N n q 161 I L D) 158 7 178 = bs N n q 162 I L D := bs_R (by decide) rfl rfl
theorem wr158_8 {N n q : Nat} {I : Nat → Nat → Int32} {L : Nat → Nat → Int64} {D : Nat → Nat → UInt64} : wR (bs N n q 162 I L D) 158 8 179 = bs N n q 163 I L D := bs_R (by decide) rfl rfl
theorem wr158_9 {N n q : Nat} {I : Nat → Nat → Int32} {L : Nat → Nat → Int64} {D : Nat → Nat → UInt64} : wR (bs N n q 163 I L D) 158 9 180 = bs N n q 164 I L D := bs_R (by decide) rfl rfl
theorem wr160_0 {N n q : Nat} {I : Nat → Nat → Int32} {L : Nat → Nat → Int64} {D : Nat → Nat → UInt64} : wR (bs N n q 164 I L D) 160 0 181 = bs N n q 165 I L D := bs_R (by decide) rfl rfl
theorem wr160_1 {N n q : Nat} {I : Nat → Nat → Int32} {L : Nat → Nat → Int64} {D : Nat → Nat → UInt64} : wR (bs N n q 165 I L D) 160 1 182 = bs N n q 166 I L D := bs_R (by decide) rfl rfl
theorem wr160_2 {N n q : Nat} {I : Nat → Nat → Int32} {L : Nat → Nat → Int64} {D : Nat → Nat → UInt64} : wR (bs N n q 166 I L D) 160 2 183 = bs N n q 167 I L D := bs_R (by decide) rfl rfl
theorem wr160_3 {N n q : Nat} {I : Nat → Nat → Int32} {L : Nat → Nat → Int64} {D : Nat → Nat → UInt64} : wR (bs N n q 167 I L D) 160 3 184 = bs N n q 168 I L D := bs_R (by decide) rfl rfl
theorem wr75_3 {N n q : Nat} {I : Nat → Nat → Int32} {L : Nat → Nat → Int64} {D : Nat → Nat → UInt64} : wR (bs N n q 168 I L D) 75 3 158 = bs N n q 169 I L D := bs_R (by decide) rfl rfl
theorem wr184_2 {N n q : Nat} {I : Nat → Nat → Int32} {L : Nat → Nat → Int64} {D : Nat → Nat → UInt64} : wR (bs N n q 169 I L D) 184 2 186 = bs N n q 170 I L D := bs_R (by decide) rfl rfl
theorem rt184_2 {t : Nat} (h : 169 < t) : rv (RTm t 184 2) = .ref 185 := by
  have e : tm 184 2 = 169 := tm_at 169 (by decide)
  unfold RTm
  rw [e, if_pos h]
  rfl
theorem wr184_4 {N n q : Nat} {I : Nat → Nat → Int32} {L : Nat → Nat → Int64} {D : Nat → Nat → UInt64} : wR (bs N n q 170 I L D) 184 4 187 = bs N n q 171 I L D := bs_R (by decide) rfl rfl
theorem wr184_5 {N n q : Nat} {I : Nat → Nat → Int32} {L : Nat → Nat → Int64} {D : Nat → Nat → UInt64} : wR (bs N n q 171 I L D) 184 5 188 = bs N n q 172 I L D := bs_R (by decide) rfl rfl
theorem rt184_5 {t : Nat} (h : 171 < t) : rv (RTm t 184 5) = .ref 187 := by
  have e : tm 184 5 = 171 := tm_at 171 (by decide)
  unfold RTm
  rw [e, if_pos h]
  rfl
theorem wr184_7 {N n q : Nat} {I : Nat → Nat → Int32} {L : Nat → Nat → Int64} {D : Nat → Nat → UInt64} : wR (bs N n q 172 I L D) 184 7 189 = bs N n q 173 I L D := bs_R (by decide) rfl rfl
theorem wr184_8 {N n q : Nat} {I : Nat → Nat → Int32} {L : Nat → Nat → Int64} {D : Nat → Nat → UInt64} : wR (bs N n q 173 I L D) 184 8 190 = bs N n q 174 I L D := bs_R (by decide) rfl rfl
theorem wr190_0 {N n q : Nat} {I : Nat → Nat → Int32} {L : Nat → Nat → Int64} {D : Nat → Nat → UInt64} : wR (bs N n q 174 I L D) 190 0 192 = bs N n q 175 I L D := bs_R (by decide) rfl rfl
theorem wr190_1 {N n q : Nat} {I : Nat → Nat → Int32} {L : Nat → Nat → Int64} {D : Nat → Nat → UInt64} : wR (bs N n q 175 I L D) 190 1 193 = bs N n q 176 I L D := bs_R (by decide) rfl rfl
theorem wr190_2 {N n q : Nat} {I : Nat → Nat → Int32} {L : Nat → Nat → Int64} {D : Nat → Nat → UInt64} : wR (bs N n q 176 I L D) 190 2 194 = bs N n q 177 I L D := bs_R (by decide) rfl rfl
theorem wr190_3 {N n q : Nat} {I : Nat → Nat → Int32} {L : Nat → Nat → Int64} {D : Nat → Nat → UInt64} : wR (bs N n q 177 I L D) 190 3 195 = bs N n q 178 I L D := bs_R (by decide) rfl rfl
theorem wr184_9 {N n q : Nat} {I : Nat → Nat → Int32} {L : Nat → Nat → Int64} {D : Nat → Nat → UInt64} : wR (bs N n q 178 I L D) 184 9 191 = bs N n q 179 I L D := bs_R (by decide) rfl rfl
theorem wr195_0 {N n q : Nat} {I : Nat → Nat → Int32} {L : Nat → Nat → Int64} {D : Nat → Nat → UInt64} : wR (bs N n q 179 I L D) 195 0 197 = bs N n q 180 I L D := bs_R (by decide) rfl rfl
theorem wr184_10 {N n q : Nat} {I : Nat → Nat → Int32} {L : Nat → Nat → Int64} {D : Nat → Nat → UInt64} : wR (bs N n q 180 I L D) 184 10 196 = bs N n q 181 I L D := bs_R (by decide) rfl rfl
theorem wr185_0 {N n q : Nat} {I : Nat → Nat → Int32} {L : Nat → Nat → Int64} {D : Nat → Nat → UInt64} : wR (bs N n q 181 I L D) 185 0 198 = bs N n q 182 I L D := bs_R (by decide) rfl rfl
theorem wr185_1 {N n q : Nat} {I : Nat → Nat → Int32} {L : Nat → Nat → Int64} {D : Nat → Nat → UInt64} : wR (bs N n q 182 I L D) 185 1 199 = bs N n q 183 I L D := bs_R (by decide) rfl rfl
theorem wr185_2 {N n q : Nat} {I : Nat → Nat → Int32} {L : Nat → Nat → Int64} {D : Nat → Nat → UInt64} : wR (bs N n q 183 I L D) 185 2 200 = bs N n q 184 I L D := bs_R (by decide) rfl rfl
theorem wr185_3 {N n q : Nat} {I : Nat → Nat → Int32} {L : Nat → Nat → Int64} {D : Nat → Nat → UInt64} : wR (bs N n q 184 I L D) 185 3 201 = bs N n q 185 I L D := bs_R (by decide) rfl rfl
theorem wr185_4 {N n q : Nat} {I : Nat → Nat → Int32} {L : Nat → Nat → Int64} {D : Nat → Nat → UInt64} : wR (bs N n q 185 I L D) 185 4 202 = bs N n q 186 I L D := bs_R (by decide) rfl rfl
theorem wr185_5 {N n q : Nat} {I : Nat → Nat → Int32} {L : Nat → Nat → Int64} {D : Nat → Nat → UInt64} : wR (bs N n q 186 I L D) 185 5 203 = bs N n q 187 I L D := bs_R (by decide) rfl rfl
theorem wr185_6 {N n q : Nat} {I : Nat → Nat → Int32} {L : Nat → Nat → Int64} {D : Nat → Nat → UInt64} : wR (bs N n q 187 I L D) 185 6 204 = bs N n q 188 I L D := bs_R (by decide) rfl rfl
theorem wr185_7 {N n q : Nat} {I : Nat → Nat → Int32} {L : Nat → Nat → Int64} {D : Nat → Nat → UInt64} : wR (bs N n q 188 I L D) 185 7 205 = bs N n q 189 I L D := bs_R (by decide) rfl rfl
theorem wr185_8 {N n q : Nat} {I : Nat → Nat → Int32} {L : Nat → Nat → Int64} {D : Nat → Nat → UInt64} : wR (bs N n q 189 I L D) 185 8 206 = bs N n q 190 I L D := bs_R (by decide) rfl rfl
theorem wr185_9 {N n q : Nat} {I : Nat → Nat → Int32} {L : Nat → Nat → Int64} {D : Nat → Nat → UInt64} : wR (bs N n q 190 I L D) 185 9 207 = bs N n q 191 I L D := bs_R (by decide) rfl rfl
theorem wr187_0 {N n q : Nat} {I : Nat → Nat → Int32} {L : Nat → Nat → Int64} {D : Nat → Nat → UInt64} : wR (bs N n q 191 I L D) 187 0 208 = bs N n q 192 I L D := bs_R (by decide) rfl rfl
theorem wr187_1 {N n q : Nat} {I : Nat → Nat → Int32} {L : Nat → Nat → Int64} {D : Nat → Nat → UInt64} : wR (bs N n q 192 I L D) 187 1 209 = bs N n q 193 I L D := bs_R (by decide) rfl rfl
theorem wr187_2 {N n q : Nat} {I : Nat → Nat → Int32} {L : Nat → Nat → Int64} {D : Nat → Nat → UInt64} : wR (bs N n q 193 I L D) 187 2 210 = bs N n q 194 I L D := bs_R (by decide) rfl rfl
theorem wr187_3 {N n q : Nat} {I : Nat → Nat → Int32} {L : Nat → Nat → Int64} {D : Nat → Nat → UInt64} : wR (bs N n q 194 I L D) 187 3 211 = bs N n q 195 I L D := bs_R (by decide) rfl rfl
theorem wr75_4 {N n q : Nat} {I : Nat → Nat → Int32} {L : Nat → Nat → Int64} {D : Nat → Nat → UInt64} : wR (bs N n q 195 I L D) 75 4 185 = bs N n q 196 I L D := bs_R (by decide) rfl rfl
theorem wr211_2 {N n q : Nat} {I : Nat → Nat → Int32} {L : Nat → Nat → Int64} {D : Nat → Nat → UInt64} : wR (bs N n q 196 I L D) 211 2 213 = bs N n q 197 I L D := bs_R (by decide) rfl rfl
theorem rt211_2 {t : Nat} (h : 196 < t) : rv (RTm t 211 2) = .ref 212 := by
  have e : tm 211 2 = 196 := tm_at 196 (by decide)
  unfold RTm
  rw [e, if_pos h]
  rfl
theorem wr211_4 {N n q : Nat} {I : Nat → Nat → Int32} {L : Nat → Nat → Int64} {D : Nat → Nat → UInt64} : wR (bs N n q 197 I L D) 211 4 214 = bs N n q 198 I L D := bs_R (by decide) rfl rfl
theorem wr211_5 {N n q : Nat} {I : Nat → Nat → Int32} {L : Nat → Nat → Int64} {D : Nat → Nat → UInt64} : wR (bs N n q 198 I L D) 211 5 215 = bs N n q 199 I L D := bs_R (by decide) rfl rfl
theorem rt211_5 {t : Nat} (h : 198 < t) : rv (RTm t 211 5) = .ref 214 := by
  have e : tm 211 5 = 198 := tm_at 198 (by decide)
  unfold RTm
  rw [e, if_pos h]
  rfl
theorem wr211_7 {N n q : Nat} {I : Nat → Nat → Int32} {L : Nat → Nat → Int64} {D : Nat → Nat → UInt64} : wR (bs N n q 199 I L D) 211 7 216 = bs N n q 200 I L D := bs_R (by decide) rfl rfl
theorem wr211_8 {N n q : Nat} {I : Nat → Nat → Int32} {L : Nat → Nat → Int64} {D : Nat → Nat → UInt64} : wR (bs N n q 200 I L D) 211 8 217 = bs N n q 201 I L D := bs_R (by decide) rfl rfl
theorem wr217_0 {N n q : Nat} {I : Nat → Nat → Int32} {L : Nat → Nat → Int64} {D : Nat → Nat → UInt64} : wR (bs N n q 201 I L D) 217 0 219 = bs N n q 202 I L D := bs_R (by decide) rfl rfl
theorem wr217_1 {N n q : Nat} {I : Nat → Nat → Int32} {L : Nat → Nat → Int64} {D : Nat → Nat → UInt64} : wR (bs N n q 202 I L D) 217 1 220 = bs N n q 203 I L D := bs_R (by decide) rfl rfl
theorem wr217_2 {N n q : Nat} {I : Nat → Nat → Int32} {L : Nat → Nat → Int64} {D : Nat → Nat → UInt64} : wR (bs N n q 203 I L D) 217 2 221 = bs N n q 204 I L D := bs_R (by decide) rfl rfl
theorem wr217_3 {N n q : Nat} {I : Nat → Nat → Int32} {L : Nat → Nat → Int64} {D : Nat → Nat → UInt64} : wR (bs N n q 204 I L D) 217 3 222 = bs N n q 205 I L D := bs_R (by decide) rfl rfl
theorem wr211_9 {N n q : Nat} {I : Nat → Nat → Int32} {L : Nat → Nat → Int64} {D : Nat → Nat → UInt64} : wR (bs N n q 205 I L D) 211 9 218 = bs N n q 206 I L D := bs_R (by decide) rfl rfl
theorem wr222_0 {N n q : Nat} {I : Nat → Nat → Int32} {L : Nat → Nat → Int64} {D : Nat → Nat → UInt64} : wR (bs N n q 206 I L D) 222 0 224 = bs N n q 207 I L D := bs_R (by decide) rfl rfl
theorem wr211_10 {N n q : Nat} {I : Nat → Nat → Int32} {L : Nat → Nat → Int64} {D : Nat → Nat → UInt64} : wR (bs N n q 207 I L D) 211 10 223 = bs N n q 208 I L D := bs_R (by decide) rfl rfl
theorem wr212_0 {N n q : Nat} {I : Nat → Nat → Int32} {L : Nat → Nat → Int64} {D : Nat → Nat → UInt64} : wR (bs N n q 208 I L D) 212 0 225 = bs N n q 209 I L D := bs_R (by decide) rfl rfl
theorem wr212_1 {N n q : Nat} {I : Nat → Nat → Int32} {L : Nat → Nat → Int64} {D : Nat → Nat → UInt64} : wR (bs N n q 209 I L D) 212 1 226 = bs N n q 210 I L D := bs_R (by decide) rfl rfl
theorem wr212_2 {N n q : Nat} {I : Nat → Nat → Int32} {L : Nat → Nat → Int64} {D : Nat → Nat → UInt64} : wR (bs N n q 210 I L D) 212 2 227 = bs N n q 211 I L D := bs_R (by decide) rfl rfl
theorem wr212_3 {N n q : Nat} {I : Nat → Nat → Int32} {L : Nat → Nat → Int64} {D : Nat → Nat → UInt64} : wR (bs N n q 211 I L D) 212 3 228 = bs N n q 212 I L D := bs_R (by decide) rfl rfl
theorem wr212_4 {N n q : Nat} {I : Nat → Nat → Int32} {L : Nat → Nat → Int64} {D : Nat → Nat → UInt64} : wR (bs N n q 212 I L D) 212 4 229 = bs N n q 213 I L D := bs_R (by decide) rfl rfl
theorem wr212_5 {N n q : Nat} {I : Nat → Nat → Int32} {L : Nat → Nat → Int64} {D : Nat → Nat → UInt64} : wR (bs N n q 213 I L D) 212 5 230 = bs N n q 214 I L D := bs_R (by decide) rfl rfl
theorem wr212_6 {N n q : Nat} {I : Nat → Nat → Int32} {L : Nat → Nat → Int64} {D : Nat → Nat → UInt64} : wR (bs N n q 214 I L D) 212 6 231 = bs N n q 215 I L D := bs_R (by decide) rfl rfl
theorem wr212_7 {N n q : Nat} {I : Nat → Nat → Int32} {L : Nat → Nat → Int64} {D : Nat → Nat → UInt64} : wR (bs N n q 215 I L D) 212 7 232 = bs N n q 216 I L D := bs_R (by decide) rfl rfl
theorem wr212_8 {N n q : Nat} {I : Nat → Nat → Int32} {L : Nat → Nat → Int64} {D : Nat → Nat → UInt64} : wR (bs N n q 216 I L D) 212 8 233 = bs N n q 217 I L D := bs_R (by decide) rfl rfl
theorem wr212_9 {N n q : Nat} {I : Nat → Nat → Int32} {L : Nat → Nat → Int64} {D : Nat → Nat → UInt64} : wR (bs N n q 217 I L D) 212 9 234 = bs N n q 218 I L D := bs_R (by decide) rfl rfl
theorem wr214_0 {N n q : Nat} {I : Nat → Nat → Int32} {L : Nat → Nat → Int64} {D : Nat → Nat → UInt64} : wR (bs N n q 218 I L D) 214 0 235 = bs N n q 219 I L D := bs_R (by decide) rfl rfl
theorem wr214_1 {N n q : Nat} {I : Nat → Nat → Int32} {L : Nat → Nat → Int64} {D : Nat → Nat → UInt64} : wR (bs N n q 219 I L D) 214 1 236 = bs N n q 220 I L D := bs_R (by decide) rfl rfl
theorem wr214_2 {N n q : Nat} {I : Nat → Nat → Int32} {L : Nat → Nat → Int64} {D : Nat → Nat → UInt64} : wR (bs N n q 220 I L D) 214 2 237 = bs N n q 221 I L D := bs_R (by decide) rfl rfl
theorem wr214_3 {N n q : Nat} {I : Nat → Nat → Int32} {L : Nat → Nat → Int64} {D : Nat → Nat → UInt64} : wR (bs N n q 221 I L D) 214 3 238 = bs N n q 222 I L D := bs_R (by decide) rfl rfl
theorem wr75_5 {N n q : Nat} {I : Nat → Nat → Int32} {L : Nat → Nat → Int64} {D : Nat → Nat → UInt64} : wR (bs N n q 222 I L D) 75 5 212 = bs N n q 223 I L D := bs_R (by decide) rfl rfl
theorem wr15_8 {N n q : Nat} {I : Nat → Nat → Int32} {L : Nat → Nat → Int64} {D : Nat → Nat → UInt64} : wR (bs N n q 223 I L D) 15 8 75 = bs N n q 224 I L D := bs_R (by decide) rfl rfl
theorem wr15_9 {N n q : Nat} {I : Nat → Nat → Int32} {L : Nat → Nat → Int64} {D : Nat → Nat → UInt64} : wR (bs N n q 224 I L D) 15 9 239 = bs N n q 225 I L D := bs_R (by decide) rfl rfl
theorem rt15_9 {t : Nat} (h : 224 < t) : rv (RTm t 15 9) = .ref 238 := by
  have e : tm 15 9 = 224 := tm_at 224 (by decide)
  unfold RTm
  rw [e, if_pos h]
  rfl
theorem wr15_10 {N n q : Nat} {I : Nat → Nat → Int32} {L : Nat → Nat → Int64} {D : Nat → Nat → UInt64} : wR (bs N n q 225 I L D) 15 10 240 = bs N n q 226 I L D := bs_R (by decide) rfl rfl
theorem wr240_2 {N n q : Nat} {I : Nat → Nat → Int32} {L : Nat → Nat → Int64} {D : Nat → Nat → UInt64} : wR (bs N n q 226 I L D) 240 2 242 = bs N n q 227 I L D := bs_R (by decide) rfl rfl
theorem rt240_2 {t : Nat} (h : 226 < t) : rv (RTm t 240 2) = .ref 241 := by
  have e : tm 240 2 = 226 := tm_at 226 (by decide)
  unfold RTm
  rw [e, if_pos h]
  rfl
theorem wr240_4 {N n q : Nat} {I : Nat → Nat → Int32} {L : Nat → Nat → Int64} {D : Nat → Nat → UInt64} : wR (bs N n q 227 I L D) 240 4 243 = bs N n q 228 I L D := bs_R (by decide) rfl rfl
theorem wr240_5 {N n q : Nat} {I : Nat → Nat → Int32} {L : Nat → Nat → Int64} {D : Nat → Nat → UInt64} : wR (bs N n q 228 I L D) 240 5 244 = bs N n q 229 I L D := bs_R (by decide) rfl rfl
theorem rt240_5 {t : Nat} (h : 228 < t) : rv (RTm t 240 5) = .ref 243 := by
  have e : tm 240 5 = 228 := tm_at 228 (by decide)
  unfold RTm
  rw [e, if_pos h]
  rfl
theorem wr240_7 {N n q : Nat} {I : Nat → Nat → Int32} {L : Nat → Nat → Int64} {D : Nat → Nat → UInt64} : wR (bs N n q 229 I L D) 240 7 245 = bs N n q 230 I L D := bs_R (by decide) rfl rfl
theorem wr240_8 {N n q : Nat} {I : Nat → Nat → Int32} {L : Nat → Nat → Int64} {D : Nat → Nat → UInt64} : wR (bs N n q 230 I L D) 240 8 246 = bs N n q 231 I L D := bs_R (by decide) rfl rfl
theorem wr246_0 {N n q : Nat} {I : Nat → Nat → Int32} {L : Nat → Nat → Int64} {D : Nat → Nat → UInt64} : wR (bs N n q 231 I L D) 246 0 248 = bs N n q 232 I L D := bs_R (by decide) rfl rfl
theorem wr246_1 {N n q : Nat} {I : Nat → Nat → Int32} {L : Nat → Nat → Int64} {D : Nat → Nat → UInt64} : wR (bs N n q 232 I L D) 246 1 249 = bs N n q 233 I L D := bs_R (by decide) rfl rfl
theorem wr246_2 {N n q : Nat} {I : Nat → Nat → Int32} {L : Nat → Nat → Int64} {D : Nat → Nat → UInt64} : wR (bs N n q 233 I L D) 246 2 250 = bs N n q 234 I L D := bs_R (by decide) rfl rfl
theorem wr246_3 {N n q : Nat} {I : Nat → Nat → Int32} {L : Nat → Nat → Int64} {D : Nat → Nat → UInt64} : wR (bs N n q 234 I L D) 246 3 251 = bs N n q 235 I L D := bs_R (by decide) rfl rfl
theorem wr240_9 {N n q : Nat} {I : Nat → Nat → Int32} {L : Nat → Nat → Int64} {D : Nat → Nat → UInt64} : wR (bs N n q 235 I L D) 240 9 247 = bs N n q 236 I L D := bs_R (by decide) rfl rfl
theorem wr251_0 {N n q : Nat} {I : Nat → Nat → Int32} {L : Nat → Nat → Int64} {D : Nat → Nat → UInt64} : wR (bs N n q 236 I L D) 251 0 253 = bs N n q 237 I L D := bs_R (by decide) rfl rfl
theorem wr240_10 {N n q : Nat} {I : Nat → Nat → Int32} {L : Nat → Nat → Int64} {D : Nat → Nat → UInt64} : wR (bs N n q 237 I L D) 240 10 252 = bs N n q 238 I L D := bs_R (by decide) rfl rfl
theorem wr241_0 {N n q : Nat} {I : Nat → Nat → Int32} {L : Nat → Nat → Int64} {D : Nat → Nat → UInt64} : wR (bs N n q 238 I L D) 241 0 254 = bs N n q 239 I L D := bs_R (by decide) rfl rfl
theorem wr241_1 {N n q : Nat} {I : Nat → Nat → Int32} {L : Nat → Nat → Int64} {D : Nat → Nat → UInt64} : wR (bs N n q 239 I L D) 241 1 255 = bs N n q 240 I L D := bs_R (by decide) rfl rfl
theorem wr241_2 {N n q : Nat} {I : Nat → Nat → Int32} {L : Nat → Nat → Int64} {D : Nat → Nat → UInt64} : wR (bs N n q 240 I L D) 241 2 256 = bs N n q 241 I L D := bs_R (by decide) rfl rfl
theorem wr241_3 {N n q : Nat} {I : Nat → Nat → Int32} {L : Nat → Nat → Int64} {D : Nat → Nat → UInt64} : wR (bs N n q 241 I L D) 241 3 257 = bs N n q 242 I L D := bs_R (by decide) rfl rfl
theorem wr241_4 {N n q : Nat} {I : Nat → Nat → Int32} {L : Nat → Nat → Int64} {D : Nat → Nat → UInt64} : wR (bs N n q 242 I L D) 241 4 258 = bs N n q 243 I L D := bs_R (by decide) rfl rfl
theorem wr241_5 {N n q : Nat} {I : Nat → Nat → Int32} {L : Nat → Nat → Int64} {D : Nat → Nat → UInt64} : wR (bs N n q 243 I L D) 241 5 259 = bs N n q 244 I L D := bs_R (by decide) rfl rfl
theorem wr241_6 {N n q : Nat} {I : Nat → Nat → Int32} {L : Nat → Nat → Int64} {D : Nat → Nat → UInt64} : wR (bs N n q 244 I L D) 241 6 260 = bs N n q 245 I L D := bs_R (by decide) rfl rfl
theorem wr241_7 {N n q : Nat} {I : Nat → Nat → Int32} {L : Nat → Nat → Int64} {D : Nat → Nat → UInt64} : wR (bs N n q 245 I L D) 241 7 261 = bs N n q 246 I L D := bs_R (by decide) rfl rfl
theorem wr241_8 {N n q : Nat} {I : Nat → Nat → Int32} {L : Nat → Nat → Int64} {D : Nat → Nat → UInt64} : wR (bs N n q 246 I L D) 241 8 262 = bs N n q 247 I L D := bs_R (by decide) rfl rfl
theorem wr241_9 {N n q : Nat} {I : Nat → Nat → Int32} {L : Nat → Nat → Int64} {D : Nat → Nat → UInt64} : wR (bs N n q 247 I L D) 241 9 263 = bs N n q 248 I L D := bs_R (by decide) rfl rfl
theorem wr243_0 {N n q : Nat} {I : Nat → Nat → Int32} {L : Nat → Nat → Int64} {D : Nat → Nat → UInt64} : wR (bs N n q 248 I L D) 243 0 264 = bs N n q 249 I L D := bs_R (by decide) rfl rfl
theorem wr243_1 {N n q : Nat} {I : Nat → Nat → Int32} {L : Nat → Nat → Int64} {D : Nat → Nat → UInt64} : wR (bs N n q 249 I L D) 243 1 265 = bs N n q 250 I L D := bs_R (by decide) rfl rfl
theorem wr243_2 {N n q : Nat} {I : Nat → Nat → Int32} {L : Nat → Nat → Int64} {D : Nat → Nat → UInt64} : wR (bs N n q 250 I L D) 243 2 266 = bs N n q 251 I L D := bs_R (by decide) rfl rfl
theorem wr243_3 {N n q : Nat} {I : Nat → Nat → Int32} {L : Nat → Nat → Int64} {D : Nat → Nat → UInt64} : wR (bs N n q 251 I L D) 243 3 267 = bs N n q 252 I L D := bs_R (by decide) rfl rfl
theorem wr238_0 {N n q : Nat} {I : Nat → Nat → Int32} {L : Nat → Nat → Int64} {D : Nat → Nat → UInt64} : wR (bs N n q 252 I L D) 238 0 241 = bs N n q 253 I L D := bs_R (by decide) rfl rfl
theorem wr267_2 {N n q : Nat} {I : Nat → Nat → Int32} {L : Nat → Nat → Int64} {D : Nat → Nat → UInt64} : wR (bs N n q 253 I L D) 267 2 269 = bs N n q 254 I L D := bs_R (by decide) rfl rfl
theorem rt267_2 {t : Nat} (h : 253 < t) : rv (RTm t 267 2) = .ref 268 := by
  have e : tm 267 2 = 253 := tm_at 253 (by decide)
  unfold RTm
  rw [e, if_pos h]
  rfl
theorem wr267_4 {N n q : Nat} {I : Nat → Nat → Int32} {L : Nat → Nat → Int64} {D : Nat → Nat → UInt64} : wR (bs N n q 254 I L D) 267 4 270 = bs N n q 255 I L D := bs_R (by decide) rfl rfl
theorem wr267_5 {N n q : Nat} {I : Nat → Nat → Int32} {L : Nat → Nat → Int64} {D : Nat → Nat → UInt64} : wR (bs N n q 255 I L D) 267 5 271 = bs N n q 256 I L D := bs_R (by decide) rfl rfl
theorem rt267_5 {t : Nat} (h : 255 < t) : rv (RTm t 267 5) = .ref 270 := by
  have e : tm 267 5 = 255 := tm_at 255 (by decide)
  unfold RTm
  rw [e, if_pos h]
  rfl
theorem wr267_7 {N n q : Nat} {I : Nat → Nat → Int32} {L : Nat → Nat → Int64} {D : Nat → Nat → UInt64} : wR (bs N n q 256 I L D) 267 7 272 = bs N n q 257 I L D := bs_R (by decide) rfl rfl
theorem wr267_8 {N n q : Nat} {I : Nat → Nat → Int32} {L : Nat → Nat → Int64} {D : Nat → Nat → UInt64} : wR (bs N n q 257 I L D) 267 8 273 = bs N n q 258 I L D := bs_R (by decide) rfl rfl
theorem wr273_0 {N n q : Nat} {I : Nat → Nat → Int32} {L : Nat → Nat → Int64} {D : Nat → Nat → UInt64} : wR (bs N n q 258 I L D) 273 0 275 = bs N n q 259 I L D := bs_R (by decide) rfl rfl
theorem wr273_1 {N n q : Nat} {I : Nat → Nat → Int32} {L : Nat → Nat → Int64} {D : Nat → Nat → UInt64} : wR (bs N n q 259 I L D) 273 1 276 = bs N n q 260 I L D := bs_R (by decide) rfl rfl
theorem wr273_2 {N n q : Nat} {I : Nat → Nat → Int32} {L : Nat → Nat → Int64} {D : Nat → Nat → UInt64} : wR (bs N n q 260 I L D) 273 2 277 = bs N n q 261 I L D := bs_R (by decide) rfl rfl
theorem wr273_3 {N n q : Nat} {I : Nat → Nat → Int32} {L : Nat → Nat → Int64} {D : Nat → Nat → UInt64} : wR (bs N n q 261 I L D) 273 3 278 = bs N n q 262 I L D := bs_R (by decide) rfl rfl
theorem wr267_9 {N n q : Nat} {I : Nat → Nat → Int32} {L : Nat → Nat → Int64} {D : Nat → Nat → UInt64} : wR (bs N n q 262 I L D) 267 9 274 = bs N n q 263 I L D := bs_R (by decide) rfl rfl
theorem wr278_0 {N n q : Nat} {I : Nat → Nat → Int32} {L : Nat → Nat → Int64} {D : Nat → Nat → UInt64} : wR (bs N n q 263 I L D) 278 0 280 = bs N n q 264 I L D := bs_R (by decide) rfl rfl
theorem wr267_10 {N n q : Nat} {I : Nat → Nat → Int32} {L : Nat → Nat → Int64} {D : Nat → Nat → UInt64} : wR (bs N n q 264 I L D) 267 10 279 = bs N n q 265 I L D := bs_R (by decide) rfl rfl
theorem wr268_0 {N n q : Nat} {I : Nat → Nat → Int32} {L : Nat → Nat → Int64} {D : Nat → Nat → UInt64} : wR (bs N n q 265 I L D) 268 0 281 = bs N n q 266 I L D := bs_R (by decide) rfl rfl
theorem wr268_1 {N n q : Nat} {I : Nat → Nat → Int32} {L : Nat → Nat → Int64} {D : Nat → Nat → UInt64} : wR (bs N n q 266 I L D) 268 1 282 = bs N n q 267 I L D := bs_R (by decide) rfl rfl
theorem wr268_2 {N n q : Nat} {I : Nat → Nat → Int32} {L : Nat → Nat → Int64} {D : Nat → Nat → UInt64} : wR (bs N n q 267 I L D) 268 2 283 = bs N n q 268 I L D := bs_R (by decide) rfl rfl
theorem wr268_3 {N n q : Nat} {I : Nat → Nat → Int32} {L : Nat → Nat → Int64} {D : Nat → Nat → UInt64} : wR (bs N n q 268 I L D) 268 3 284 = bs N n q 269 I L D := bs_R (by decide) rfl rfl
theorem wr268_4 {N n q : Nat} {I : Nat → Nat → Int32} {L : Nat → Nat → Int64} {D : Nat → Nat → UInt64} : wR (bs N n q 269 I L D) 268 4 285 = bs N n q 270 I L D := bs_R (by decide) rfl rfl
theorem wr268_5 {N n q : Nat} {I : Nat → Nat → Int32} {L : Nat → Nat → Int64} {D : Nat → Nat → UInt64} : wR (bs N n q 270 I L D) 268 5 286 = bs N n q 271 I L D := bs_R (by decide) rfl rfl
theorem wr268_6 {N n q : Nat} {I : Nat → Nat → Int32} {L : Nat → Nat → Int64} {D : Nat → Nat → UInt64} : wR (bs N n q 271 I L D) 268 6 287 = bs N n q 272 I L D := bs_R (by decide) rfl rfl
theorem wr268_7 {N n q : Nat} {I : Nat → Nat → Int32} {L : Nat → Nat → Int64} {D : Nat → Nat → UInt64} : wR (bs N n q 272 I L D) 268 7 288 = bs N n q 273 I L D := bs_R (by decide) rfl rfl
theorem wr268_8 {N n q : Nat} {I : Nat → Nat → Int32} {L : Nat → Nat → Int64} {D : Nat → Nat → UInt64} : wR (bs N n q 273 I L D) 268 8 289 = bs N n q 274 I L D := bs_R (by decide) rfl rfl
theorem wr268_9 {N n q : Nat} {I : Nat → Nat → Int32} {L : Nat → Nat → Int64} {D : Nat → Nat → UInt64} : wR (bs N n q 274 I L D) 268 9 290 = bs N n q 275 I L D := bs_R (by decide) rfl rfl
theorem wr270_0 {N n q : Nat} {I : Nat → Nat → Int32} {L : Nat → Nat → Int64} {D : Nat → Nat → UInt64} : wR (bs N n q 275 I L D) 270 0 291 = bs N n q 276 I L D := bs_R (by decide) rfl rfl
theorem wr270_1 {N n q : Nat} {I : Nat → Nat → Int32} {L : Nat → Nat → Int64} {D : Nat → Nat → UInt64} : wR (bs N n q 276 I L D) 270 1 292 = bs N n q 277 I L D := bs_R (by decide) rfl rfl
theorem wr270_2 {N n q : Nat} {I : Nat → Nat → Int32} {L : Nat → Nat → Int64} {D : Nat → Nat → UInt64} : wR (bs N n q 277 I L D) 270 2 293 = bs N n q 278 I L D := bs_R (by decide) rfl rfl
theorem wr270_3 {N n q : Nat} {I : Nat → Nat → Int32} {L : Nat → Nat → Int64} {D : Nat → Nat → UInt64} : wR (bs N n q 278 I L D) 270 3 294 = bs N n q 279 I L D := bs_R (by decide) rfl rfl
theorem wr238_1 {N n q : Nat} {I : Nat → Nat → Int32} {L : Nat → Nat → Int64} {D : Nat → Nat → UInt64} : wR (bs N n q 279 I L D) 238 1 268 = bs N n q 280 I L D := bs_R (by decide) rfl rfl
