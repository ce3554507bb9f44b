/-! THE BUILT TEXT, READ: statements -/
theorem kh_w {a : Nat} {R : List Int} (ha : 1 ≤ a ∧ a < 8) (hR : kh R ≠ 1) : kh (wlt a ++ R) = 1 := by
  obtain ⟨e1, e2, e3, e4⟩ := wl_l a ha.2 ha.1
  exact (tl_app (Or.inl rfl) e2 e3 hR).1
theorem kh_wd {a : Nat} {R : List Int} (ha : 1 ≤ a ∧ a < 8) : kh (wlt a ++ R) = 1 := by
  obtain ⟨e1, e2, e3, e4⟩ := wl_l a ha.2 ha.1
  match h : wlt a, e2, e3 with
  | c :: A, _, e3 => exact e3 c List.mem_cons_self
theorem kh_d {n : Int} {R : List Int} (hn : 0 ≤ n ∧ n ≤ 199) : kh (decP n ++ R) = 2 := by
  obtain ⟨k1, k2⟩ := decP_k hn
  match h : decP n, k1, k2 with
  | c :: A, _, k2 => exact k2 c List.mem_cons_self
theorem kh_ds {n : Int} {R : List Int} (hn : -60 ≤ n ∧ n ≤ 60) : kh (dec n ++ R) ≠ 4 := by
  by_cases h0 : n < 0
  · have e : dec n ++ R = 45 :: (decP (-n) ++ R) := by unfold dec; rw [if_pos h0]; rfl
    rw [e]
    show kcc 45 ≠ 4
    decide
  · rw [dec_p (by omega), kh_d (by omega)]
    decide
theorem kh_32 {R : List Int} : kh (32 :: R) = 4 := rfl
theorem kh_59 {R : List Int} : kh (59 :: R) = 3 := rfl
section SA2
variable {T R : List Int} {S : SS} {P : PS}
/-- a box without steals -/
theorem bx_0 {p1 b1 b2 b3 b4 pE : PS} {l r v0 x : Int} (hx : 10 ≤ x ∧ x ≤ 199) (hT : T = wlt 1 ++ (32 :: (decP x ++ (59 :: R)))) (hR4 : kh R ≠ 4) (h : bxR (fT T) T.length (tok (fT T) T.length 0 v0) p1 b1 b2 b3 b4 pE l r) : cvT (fT T) 10 p1 = x ∧ l = 0 ∧ r = 0 ∧ CU T pE R := by
  have n1 : 0 ≤ x ∧ x ≤ 199 := by omega
  have n2 : 10 ≤ x ∧ x ≤ 200 := by omega
  obtain ⟨q1, q2, -, -, e4, e5, e6, e7⟩ := h
  have c0 : CU T (tok (fT T) T.length 0 v0) T := by
    have := CU_tok (T := T) (R := T) (p := 0) (v := v0) rfl (Nat.zero_le _)
    rw [sk_0 (by rw [hT, kh_wd (by decide)]; decide)] at this
    exact this
  have h1 : CU T (tok (fT T) T.length 0 v0) (wlt 1 ++ (32 :: (decP x ++ (59 :: R)))) := by rw [← hT]; exact c0
  have c1 : CU T p1 (decP x ++ (59 :: R)) := by
    have := tw_y (by decide) h1 (by rw [kh_32]; decide)
    rw [sk_1 (by rw [kh_d n1]; decide)] at this
    rw [q1]
    exact this
  have c2 : CU T b1 (59 :: R) := by
    have := nu_y (n := x) (lo := 10) (hi := 200) n1 n2 c1 (by rw [kh_59]; decide)
    rw [sk_0 (by rw [kh_59]; decide)] at this
    rw [q2]
    exact this
  have n2 := iw_k (a := 2) c2 (by rw [kh_59]; decide)
  rw [if_neg n2] at e4 e5 e6
  refine ⟨(cv_y n1 c1 (by rw [kh_59]; decide)).1, e5, e6, ?_⟩
  rw [← e4] at c2
  have := sm_y c2
  rw [sk_0 hR4] at this
  rw [e7]
  exact this
/-- a box with steals -/
theorem bx_1 {p1 b1 b2 b3 b4 pE : PS} {l r v0 x y z : Int} (hx : 10 ≤ x ∧ x ≤ 199) (hy : 0 ≤ y ∧ y ≤ 100) (hz : 0 ≤ z ∧ z ≤ 100) (hT : T = wlt 1 ++ (32 :: (decP x ++ (32 :: (wlt 2 ++ (32 :: (decP y ++ (32 :: (decP z ++ (59 :: R)))))))))) (hR4 : kh R ≠ 4) (h : bxR (fT T) T.length (tok (fT T) T.length 0 v0) p1 b1 b2 b3 b4 pE l r) : cvT (fT T) 10 p1 = x ∧ l = y ∧ r = z ∧ CU T pE R := by
  have n1 : 0 ≤ x ∧ x ≤ 199 := by omega
  have n2 : 10 ≤ x ∧ x ≤ 200 := by omega
  have n3 : 0 ≤ y ∧ y ≤ 199 := by omega
  have n4 : 0 ≤ z ∧ z ≤ 199 := by omega
  obtain ⟨q1, q2, q3, q4, e4, e5, e6, e7⟩ := h
  have c0 : CU T (tok (fT T) T.length 0 v0) T := by
    have := CU_tok (T := T) (R := T) (p := 0) (v := v0) rfl (Nat.zero_le _)
    rw [sk_0 (by rw [hT, kh_wd (by decide)]; decide)] at this
    exact this
  have h1 : CU T (tok (fT T) T.length 0 v0) (wlt 1 ++ (32 :: (decP x ++ (32 :: (wlt 2 ++ (32 :: (decP y ++ (32 :: (decP z ++ (59 :: R)))))))))) := by rw [← hT]; exact c0
  have c1 : CU T p1 (decP x ++ (32 :: (wlt 2 ++ (32 :: (decP y ++ (32 :: (decP z ++ (59 :: R)))))))) := by
    have := tw_y (by decide) h1 (by rw [kh_32]; decide)
    rw [sk_1 (by rw [kh_d n1]; decide)] at this
    rw [q1]
    exact this
  have c2 : CU T b1 (wlt 2 ++ (32 :: (decP y ++ (32 :: (decP z ++ (59 :: R)))))) := by
    have := nu_y (n := x) (lo := 10) (hi := 200) n1 n2 c1 (by rw [kh_32]; decide)
    rw [sk_1 (by rw [kh_wd (by decide)]; decide)] at this
    rw [q2]
    exact this
  have y2 := iw_y (a := 2) (by decide) c2 (by rw [kh_32]; decide)
  rw [if_pos y2] at e4 e5 e6
  have c3 : CU T b2 (decP y ++ (32 :: (decP z ++ (59 :: R)))) := by
    have := tw_y (by decide) c2 (by rw [kh_32]; decide)
    rw [sk_1 (by rw [kh_d n3]; decide)] at this
    rw [q3]
    exact this
  have c4 : CU T b3 (decP z ++ (59 :: R)) := by
    have := nu_y (n := y) (lo := 0) (hi := 100) n3 hy c3 (by rw [kh_32]; decide)
    rw [sk_1 (by rw [kh_d n4]; decide)] at this
    rw [q4]
    exact this
  have c5 : CU T b4 (59 :: R) := by
    have := nu_y (n := z) (lo := 0) (hi := 100) n4 hz c4 (by rw [kh_59]; decide)
    rw [sk_0 (by rw [kh_59]; decide)] at this
    rw [e4]
    exact this
  refine ⟨(cv_y n1 c1 (by rw [kh_32]; decide)).1, e5.trans (cv_y n3 c3 (by rw [kh_32]; decide)).1, e6.trans (cv_y n4 c4 (by rw [kh_59]; decide)).1, ?_⟩
  have := sm_y c5
  rw [sk_0 hR4] at this
  rw [e7]
  exact this
/-- a cell -/
theorem tc_y {α : Nat → Int} {bn bm : Nat} {c : Int} (hc : 0 ≤ c ∧ c ≤ α 0 - 1 ∧ α 0 ≤ 200) (hF : isF α bn bm c) (h : CU T P (decP c ++ R)) (hR : kh R ≠ 2) : CU T (tcT (fT T) T.length α bn bm P) (sk R) ∧ cvT (fT T) 0 P = c := by
  have e := (cv_y (lo := 0) (by omega) h hR).1
  refine ⟨?_, e⟩
  unfold tcT
  rw [e, if_pos hF]
  exact nu_y (by omega) (by omega) h hR
/-- a post's statement -/
theorem po_y {c s : Int} (hm : S.2.2.2 < 4) (hc : 0 ≤ c ∧ c ≤ S.2.1 0 - 1 ∧ S.2.1 0 ≤ 200) (hF : isF S.2.1 S.2.2.1 S.2.2.2 c) (hs : 0 ≤ s ∧ s ≤ 100) (hR4 : kh R ≠ 4) (h : CU T S.1 (wlt 3 ++ (32 :: (decP c ++ (32 :: (wlt 2 ++ (32 :: (decP s ++ (59 :: R))))))))) :
    ∃ P', CU T P' R ∧ stS (fT T) T.length S = (P', poA S.2.1 S.2.2.2 c s, S.2.2.1, S.2.2.2 + 1) := by
  have c1 : CU T (po1F (fT T) T.length S) (decP c ++ (32 :: (wlt 2 ++ (32 :: (decP s ++ (59 :: R)))))) := by
    unfold po1F
    rw [if_neg (by omega)]
    have := tw_y (by omega) h (by rw [kh_32]; decide)
    rw [sk_1 (by rw [kh_d (by omega)]; decide)] at this
    exact this
  obtain ⟨c2, v2⟩ := tc_y hc hF c1 (by rw [kh_32]; decide)
  rw [sk_1 (by rw [kh_wd (by omega)]; decide)] at c2
  have c3 := tw_y (by omega) c2 (by rw [kh_32]; decide)
  rw [sk_1 (by rw [kh_d (by omega)]; decide)] at c3
  have v3 := (cv_y (lo := 0) (by omega) c3 (by rw [kh_59]; decide)).1
  have c4 := nu_y (n := s) (lo := 0) (hi := 100) (by omega) (by omega) c3 (by rw [kh_59]; decide)
  rw [sk_0 (by rw [kh_59]; decide)] at c4
  have c5 : CU T (poEF (fT T) T.length S) R := by
    have := sm_y c4
    rw [sk_0 hR4] at this
    exact this
  refine ⟨poEF (fT T) T.length S, c5, ?_⟩
  unfold stS
  rw [if_pos (iw_y (by omega) h (by rw [kh_32]; decide))]
  unfold poS
  rw [if_pos c5.2.2.2.2, v2, show cvT (fT T) 0 (po3F (fT T) T.length S) = s from v3]
/-- a ball's statement -/
theorem ba_y {c v g : Int} {k : Nat} (hk : k < 6) (hn : S.2.2.1 < 10) (hnm : nmF S.2.1 S.2.2.1 (55 + (k : Int)) = -1) (hc : 0 ≤ c ∧ c ≤ S.2.1 0 - 1 ∧ S.2.1 0 ≤ 200) (hF : isF S.2.1 S.2.2.1 S.2.2.2 c) (hv : -60 ≤ v ∧ v ≤ 60) (hg : 1 ≤ g ∧ g ≤ 20) (hR4 : kh R ≠ 4)
    (h : CU T S.1 (wlt 4 ++ (32 :: ([98, 97 + (k : Int)] ++ (32 :: (wlt 5 ++ (32 :: (decP c ++ (32 :: (wlt 6 ++ (32 :: (dec v ++ (32 :: (wlt 7 ++ (32 :: (decP g ++ (59 :: R))))))))))))))))) :
    ∃ P', CU T P' R ∧ stS (fT T) T.length S = (P', bdA S.2.1 S.2.2.1 c v g (55 + (k : Int)), S.2.2.1 + 1, S.2.2.2) := by
  have kn : ∀ Z : List Int, kh ([98, 97 + (k : Int)] ++ Z) ≠ 4 := fun Z => by
    show kcc 98 ≠ 4
    decide
  have c1 : CU T (bq1 (fT T) T.length S) ([98, 97 + (k : Int)] ++ (32 :: (wlt 5 ++ (32 :: (decP c ++ (32 :: (wlt 6 ++ (32 :: (dec v ++ (32 :: (wlt 7 ++ (32 :: (decP g ++ (59 :: R)))))))))))))) := by
    unfold bq1
    rw [if_neg (by omega)]
    have := tw_y (by omega) h (by rw [kh_32]; decide)
    rw [sk_1 (kn _)] at this
    exact this
  obtain ⟨m1, m2, c2⟩ := nm_y hk c1 (by rw [kh_32]; decide)
  rw [sk_1 (by rw [kh_wd (by omega)]; decide)] at c2
  have c2' : CU T (bqn (fT T) T.length S) (wlt 5 ++ (32 :: (decP c ++ (32 :: (wlt 6 ++ (32 :: (dec v ++ (32 :: (wlt 7 ++ (32 :: (decP g ++ (59 :: R)))))))))))) := by
    unfold bqn nmT nm2 nm1
    rw [m1, if_pos hnm, if_neg (fun q => q.elim (fun q => by omega) m2)]
    exact c2
  have c3 := tw_y (by omega) c2' (by rw [kh_32]; decide)
  rw [sk_1 (by rw [kh_d (by omega)]; decide)] at c3
  obtain ⟨c4, v4⟩ := tc_y hc hF c3 (by rw [kh_32]; decide)
  rw [sk_1 (by rw [kh_wd (by omega)]; decide)] at c4
  have c5 := tw_y (by omega) c4 (by rw [kh_32]; decide)
  rw [sk_1 (kh_ds hv)] at c5
  obtain ⟨c6, v6⟩ := ts_y hv c5 (by rw [kh_32]; decide)
  rw [sk_1 (by rw [kh_wd (by omega)]; decide)] at c6
  have c7 := tw_y (by omega) c6 (by rw [kh_32]; decide)
  rw [sk_1 (by rw [kh_d (by omega)]; decide)] at c7
  have v7 := (cv_y (lo := 1) (by omega) c7 (by rw [kh_59]; decide)).1
  have c8 := nu_y (n := g) (lo := 1) (hi := 20) (by omega) (by omega) c7 (by rw [kh_59]; decide)
  rw [sk_0 (by rw [kh_59]; decide)] at c8
  have c9 : CU T (bqE (fT T) T.length S) R := by
    have := sm_y c8
    rw [sk_0 hR4] at this
    exact this
  refine ⟨bqE (fT T) T.length S, c9, ?_⟩
  unfold stS
  rw [if_neg (iw_n (a := 3) (b := 4) (by omega) (by omega) (by omega) h (by rw [kh_32]; decide)), if_pos (iw_y (by omega) h (by rw [kh_32]; decide))]
  unfold baS
  rw [if_pos c9.2.2.2.2, m1, show cvT (fT T) 0 (bq2 (fT T) T.length S) = c from v4, show tsV (fT T) T.length (bq3 (fT T) T.length S) = v from v6, show cvT (fT T) 1 (bq4 (fT T) T.length S) = g from v7]
end SA2
