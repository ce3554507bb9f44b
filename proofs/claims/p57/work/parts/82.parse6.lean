/-! THE PARSER of the class: the box, the statements in turn -/
def bxA (x l r : Int) : Nat → Int := fun k => if k = 0 then x else if k = 8 then l else if k = 9 then r else 0
def bxR (f : Nat → Int) (n : Nat) (P p1 b1 b2 b3 b4 pE : PS) (l r : Int) : Prop := p1 = twT f n 1 P ∧ b1 = nxT f n (chT f 10 200 p1) ∧ b2 = twT f n 2 b1 ∧ b3 = nxT f n (chT f 0 100 b2) ∧ b4 = (if iw f 2 b1 = true then nxT f n (chT f 0 100 b3) else b1) ∧ l = (if iw f 2 b1 = true then cvT f 0 b2 else 0) ∧ r = (if iw f 2 b1 = true then cvT f 0 b3 else 0) ∧ pE = smT f n b4
/-- a draft: nothing has happened on it -/
def DR (α : Nat → Int) (bn bm : Nat) : Prop := α 3 = 0 ∧ α 4 = 0 ∧ (∀ k, bm ≤ k → k < 4 → α (P3 k 2) = 0) ∧ ∀ i, i < bn → 0 ≤ α (B9 i 8) ∧ α (B9 i 8) < 2147483648
abbrev SS := PS × (Nat → Int) × Nat × Nat
def po1F (f : Nat → Int) (n : Nat) (S : SS) : PS := twT f n 3 (if 4 ≤ S.2.2.2 then flT 5 S.1 else S.1)
def potF (f : Nat → Int) (n : Nat) (S : SS) : PS := tcT f n S.2.1 S.2.2.1 S.2.2.2 (po1F f n S)
def po3F (f : Nat → Int) (n : Nat) (S : SS) : PS := twT f n 2 (potF f n S)
def poxF (f : Nat → Int) (n : Nat) (S : SS) : PS := nxT f n (chT f 0 100 (po3F f n S))
def poEF (f : Nat → Int) (n : Nat) (S : SS) : PS := smT f n (poxF f n S)
def poS (f : Nat → Int) (n : Nat) (S : SS) : SS := if (poEF f n S).2.2.2.1 = 0 then (poEF f n S, poA S.2.1 S.2.2.2 (cvT f 0 (po1F f n S)) (cvT f 0 (po3F f n S)), S.2.2.1, S.2.2.2 + 1) else (poEF f n S, S.2.1, S.2.2.1, S.2.2.2)
def bq1 (f : Nat → Int) (n : Nat) (S : SS) : PS := twT f n 4 (if 10 ≤ S.2.2.1 then flT 5 S.1 else S.1)
def bqn (f : Nat → Int) (n : Nat) (S : SS) : PS := nmT f n S.2.1 S.2.2.1 (bq1 f n S)
def bq2 (f : Nat → Int) (n : Nat) (S : SS) : PS := twT f n 5 (bqn f n S)
def bqt (f : Nat → Int) (n : Nat) (S : SS) : PS := tcT f n S.2.1 S.2.2.1 S.2.2.2 (bq2 f n S)
def bq3 (f : Nat → Int) (n : Nat) (S : SS) : PS := twT f n 6 (bqt f n S)
def bqs (f : Nat → Int) (n : Nat) (S : SS) : PS := tsT f n (bq3 f n S)
def bq4 (f : Nat → Int) (n : Nat) (S : SS) : PS := twT f n 7 (bqs f n S)
def bqx (f : Nat → Int) (n : Nat) (S : SS) : PS := nxT f n (chT f 1 20 (bq4 f n S))
def bqE (f : Nat → Int) (n : Nat) (S : SS) : PS := smT f n (bqx f n S)
def baS (f : Nat → Int) (n : Nat) (S : SS) : SS := if (bqE f n S).2.2.2.1 = 0 then (bqE f n S, bdA S.2.1 S.2.2.1 (cvT f 0 (bq2 f n S)) (tsV f n (bq3 f n S)) (cvT f 1 (bq4 f n S)) (pkN f (bq1 f n S).1 (bq1 f n S).2.1), S.2.2.1 + 1, S.2.2.2) else (bqE f n S, S.2.1, S.2.2.1, S.2.2.2)
def stS (f : Nat → Int) (n : Nat) (S : SS) : SS := if iw f 3 S.1 = true then poS f n S else if iw f 4 S.1 = true then baS f n S else (flT 1 S.1, S.2)
def lpS (f : Nat → Int) (n : Nat) : Nat → SS → SS
  | 0, S => S
  | r + 1, S => if S.1.2.2.2.1 = 0 ∧ S.1.2.2.1 ≠ 0 then lpS f n r (stS f n S) else S
def lgS (f : Nat → Int) (n : Nat) : Nat → SS → Prop
  | 0, S => ∃ o, GA S.2.1 S.2.2.1 S.2.2.2 o
  | r + 1, S => (∃ o, GA S.2.1 S.2.2.1 S.2.2.2 o) ∧ (S.1.2.2.2.1 = 0 ∧ S.1.2.2.1 ≠ 0 → lgS f n r (stS f n S))
section S82a
variable {n bn bm : Nat} {f : Nat → Int} {P : PS} {α : Nat → Int} {S : SS}
theorem lpS_s {r : Nat} : lpS f n (r + 1) S = if S.1.2.2.2.1 = 0 ∧ S.1.2.2.1 ≠ 0 then lpS f n r (stS f n S) else S := nr rfl
theorem lpS_x {r : Nat} (h : ¬ (S.1.2.2.2.1 = 0 ∧ S.1.2.2.1 ≠ 0)) : lpS f n r S = S := by
  cases r with
  | zero => rfl
  | succ r => rw [lpS_s, if_neg h]
theorem poS_R : poR f n S.2.1 S.2.2.1 S.2.2.2 S.1 (po1F f n S) (potF f n S) (po3F f n S) (poxF f n S) (poEF f n S) := ⟨nr rfl, nr rfl, nr rfl, nr rfl, nr rfl⟩
theorem baS_R : baR f n S.2.1 S.2.2.1 S.2.2.2 S.1 (bq1 f n S) (bqn f n S) (bq2 f n S) (bqt f n S) (bq3 f n S) (bqs f n S) (bq4 f n S) (bqx f n S) (bqE f n S) := ⟨nr rfl, nr rfl, nr rfl, nr rfl, nr rfl, nr rfl, nr rfl, nr rfl, nr rfl⟩
theorem DR_po (h : DR α bn bm) (hm : bm < 4) {c s : Int} : DR (poA α bm c s) bn (bm + 1) := by
  obtain ⟨h1, h2, h3, h4⟩ := h
  refine ⟨by rw [poA_ne (by unfold P3; omega)]; exact h1, by rw [poA_ne (by unfold P3; omega)]; exact h2, fun k h5 h6 => ?_, fun i hi => ?_⟩
  · rw [poA_ne (by unfold P3; omega)]; exact h3 k (by omega) h6
  · rw [poA_ne (by unfold P3 B9; omega)]; exact h4 i hi
theorem DR_ba (h : DR α bn bm) (hn : bn < 10) (hm : bm ≤ 4) {c s g nm : Int} (hnm : 0 ≤ nm ∧ nm < 2147483648) : DR (bdA α bn c s g nm) (bn + 1) bm := by
  obtain ⟨h1, h2, h3, h4⟩ := h
  refine ⟨by rw [bdA_ne (by omega)]; exact h1, by rw [bdA_ne (by omega)]; exact h2, fun k h5 h6 => ?_, fun i hi => ?_⟩
  · rw [bdA_ne (by unfold P3; omega)]; exact h3 k h5 h6
  · by_cases e : i = bn
    · rw [e, bdA_at (by omega)]
      exact hnm
    · rw [bdA_ne (by unfold B9; omega)]; exact h4 i (by omega)
theorem bxR_W {p1 b1 b2 b3 b4 pE : PS} {l r : Int} (h : bxR f n P p1 b1 b2 b3 b4 pE l r) (hW : WF f n P) : WF f n p1 ∧ WF f n b1 ∧ WF f n b2 ∧ WF f n b3 ∧ WF f n b4 ∧ WF f n pE := by
  obtain ⟨e1, e2, e3, e4, e5, -, -, e8⟩ := h
  have w1 : WF f n p1 := by rw [e1]; exact WF_twT hW
  have w2 : WF f n b1 := by rw [e2]; exact WF_nx (WF_ch w1)
  have w3 : WF f n b2 := by rw [e3]; exact WF_twT w2
  have w4 : WF f n b3 := by rw [e4]; exact WF_nx (WF_ch w3)
  have w5 : WF f n b4 := by
    rw [e5]
    split
    · exact WF_nx (WF_ch w4)
    · exact w2
  exact ⟨w1, w2, w3, w4, w5, by rw [e8]; exact WF_sm w5⟩
theorem bx_ok {p1 b1 b2 b3 b4 pE : PS} {l r : Int} (h : bxR f n P p1 b1 b2 b3 b4 pE l r) (hW : WF f n P) (h0 : pE.2.2.2.1 = 0) : P.2.2.2.1 = 0 ∧ (10 ≤ cvT f 10 p1 ∧ cvT f 10 p1 ≤ 200) ∧ (0 ≤ l ∧ l ≤ 100) ∧ (0 ≤ r ∧ r ≤ 100) := by
  obtain ⟨w1, w2, w3, w4, w5, w6⟩ := bxR_W h hW
  obtain ⟨e1, e2, e3, e4, e5, e6, e7, e8⟩ := h
  obtain ⟨a1, -⟩ := sm_st w5 e8 h0
  by_cases q : iw f 2 b1 = true
  · rw [if_pos q] at e5 e6 e7
    obtain ⟨c1, -, c3, -⟩ := ch_st w4 e5 a1
    obtain ⟨d1, -, d3, -⟩ := ch_st w3 e4 c1
    obtain ⟨f1, -⟩ := tw_st w2 e3 d1
    obtain ⟨g1, -, g3, -⟩ := ch_st w1 e2 f1
    obtain ⟨i1, -⟩ := tw_st hW e1 g1
    exact ⟨i1, g3, by omega, by omega⟩
  · rw [if_neg q] at e5 e6 e7
    rw [e5] at a1
    obtain ⟨g1, -, g3, -⟩ := ch_st w1 e2 a1
    obtain ⟨i1, -⟩ := tw_st hW e1 g1
    exact ⟨i1, g3, by omega, by omega⟩
end S82a
section S82b
variable {N : NX} {w : WX} {d t b n bn bm : Nat} {f : Nat → Int} {I J ℓ : Nat → Nat → Int32} {L μ : Nat → Nat → Int64} {D : Nat → Nat → UInt64} {Q : Rs → St → Prop} {P : PS} {α : Nat → Int} {o : Nat → Nat} {S : SS}
theorem kRK (hb : LB b) : KR w (b + 11) 0 = b + 12 + 1 := by
  have h := krK (w := w) hb
  generalize KR w (b + 11) 0 = x at h ⊢
  unfold rv at h
  cases x with
  | zero => cases h
  | succ x => cases h; rfl
theorem c24t (hb : LB b) {x l r : Int32} : Wp (d + 1) 24 0 [some (.ref b), some (.int x), some (.int l), some (.int r)] [] (mk N t w I L D) Q = Q (.inl none) (mk N t w (clI b x l r I) (ckL (b + 11) L) D) :=
  c24g (σ := mk N t w I L D) (I := I) (L := L) (b := b) (by rw [zh_mk]; exact kh0 hb) (by rw [zR_mk]; exact kr7 hb) (by rw [zR_mk]; exact kr8 hb) (by rw [zR_mk]; exact kr9 hb) (by rw [zR_mk]; exact kr10 hb) (by rw [zh_mk]; exact kh4 hb) (by rw [zh_mk]; exact kh5 hb) (by rw [zh_mk]; exact kh6 hb) (by rw [zh_mk]; exact kh11 hb) (by rw [zR_mk]; exact kRK hb) (by rw [zh_mk]; exact kh12 hb)
theorem clI_o {x l r : Int32} {a q : Nat} (h : a < b ∨ b + 27 ≤ a) : clI b x l r I a q = I a q := by
  unfold clI ckI clp
  rw [u2_ne (by omega), u2_ne (by omega), u2_ne (by omega), u2_ne (by omega), if_neg (by omega), u2_ne (by omega), u2_ne (by omega), u2_ne (by omega), u2_ne (by omega), u2_ne (by omega), u2_ne (by omega), u2_ne (by omega), u2_ne (by omega), u2_ne (by omega), u2_ne (by omega), u2_ne (by omega), u2_ne (by omega)]
theorem clI_lay {x l r : Int32} : lay b (gl b (clI b x l r I)) I = clI b x l r I := by
  funext a q
  by_cases h : b ≤ a ∧ a < b + 27
  · unfold lay gl
    rw [if_pos h, show b + (a - b) = a by omega]
  · rw [lay_out (by omega), clI_o (by omega)]
theorem RL_cl {x l r : Int} : RL (gl b (clI b (Int32.ofInt x) (Int32.ofInt l) (Int32.ofInt r) I)) (gl b (ckL (b + 11) L)) (bxA x l r) 0 0 o := by
  have up : ∀ (I : Nat → Nat → Int32) a q a' q' v, ¬ (a' = a ∧ q' = q) → up2 I (b + a) q v (b + a') q' = I (b + a') q' := fun I a q a' q' v h => u2_ne (by omega)
  have upb : ∀ (I : Nat → Nat → Int32) q a' q' v, ¬ (a' = 0 ∧ q' = q) → up2 I b q v (b + a') q' = I (b + a') q' := fun I q a' q' v h => u2_ne (by omega)
  have upL : ∀ (I : Nat → Nat → Int64) a q q' v, q' ≠ q → up2 I (b + a) q v (b + a) q' = I (b + a) q' := fun I a q q' v h => u2_ne (by omega)
  refine ⟨fun k hk => ?_, ⟨?_, ?_⟩, ⟨?_, ?_, ?_⟩, fun p hp => by omega, 0, by omega, ?_, ?_, fun k h1 h2 => ?_⟩
  · have hk : k = 0 ∨ k = 3 ∨ k = 8 ∨ k = 9 ∨ k = 10 ∨ k = 11 ∨ k = 12 ∨ k = 13 ∨ k = 14 ∨ k = 15 ∨ (118 ≤ k ∧ k < 218) := by unfold kd at hk; omega
    rcases hk with rfl | rfl | rfl | rfl | rfl | rfl | rfl | rfl | rfl | rfl | hk
    · show clI b _ _ _ I (b + 0) 0 = _
      unfold clI ckI clp
      rw [up _ _ _ _ _ _ (by omega), up _ _ _ _ _ _ (by omega), up _ _ _ _ _ _ (by omega), up _ _ _ _ _ _ (by omega), if_neg (by omega), up _ _ _ _ _ _ (by omega), up _ _ _ _ _ _ (by omega), up _ _ _ _ _ _ (by omega), up _ _ _ _ _ _ (by omega), up _ _ _ _ _ _ (by omega), up _ _ _ _ _ _ (by omega), up _ _ _ _ _ _ (by omega), up _ _ _ _ _ _ (by omega), upb _ _ _ _ _ (by omega), upb _ _ _ _ _ (by omega), upb _ _ _ _ _ (by omega)]
      exact u2_same
    · show clI b _ _ _ I (b + 0) 1 = _
      unfold clI ckI clp
      rw [up _ _ _ _ _ _ (by omega), up _ _ _ _ _ _ (by omega), up _ _ _ _ _ _ (by omega), up _ _ _ _ _ _ (by omega), if_neg (by omega), up _ _ _ _ _ _ (by omega), up _ _ _ _ _ _ (by omega), up _ _ _ _ _ _ (by omega), up _ _ _ _ _ _ (by omega), up _ _ _ _ _ _ (by omega), up _ _ _ _ _ _ (by omega), up _ _ _ _ _ _ (by omega), up _ _ _ _ _ _ (by omega), upb _ _ _ _ _ (by omega), upb _ _ _ _ _ (by omega)]
      exact u2_same
    · show clI b _ _ _ I (b + 4) 1 = _
      unfold clI ckI clp
      rw [up _ _ _ _ _ _ (by omega), up _ _ _ _ _ _ (by omega), up _ _ _ _ _ _ (by omega), up _ _ _ _ _ _ (by omega), if_neg (by omega), up _ _ _ _ _ _ (by omega), up _ _ _ _ _ _ (by omega), up _ _ _ _ _ _ (by omega), up _ _ _ _ _ _ (by omega), up _ _ _ _ _ _ (by omega), up _ _ _ _ _ _ (by omega)]
      exact u2_same
    · show clI b _ _ _ I (b + 5) 1 = _
      unfold clI ckI clp
      rw [up _ _ _ _ _ _ (by omega), up _ _ _ _ _ _ (by omega), up _ _ _ _ _ _ (by omega), up _ _ _ _ _ _ (by omega), if_neg (by omega), up _ _ _ _ _ _ (by omega), up _ _ _ _ _ _ (by omega), up _ _ _ _ _ _ (by omega)]
      exact u2_same
    · show clI b _ _ _ I (b + 4) 2 = _
      unfold clI ckI clp
      rw [up _ _ _ _ _ _ (by omega), up _ _ _ _ _ _ (by omega), up _ _ _ _ _ _ (by omega), up _ _ _ _ _ _ (by omega), if_neg (by omega), up _ _ _ _ _ _ (by omega), up _ _ _ _ _ _ (by omega), up _ _ _ _ _ _ (by omega), up _ _ _ _ _ _ (by omega), up _ _ _ _ _ _ (by omega)]
      exact u2_same
    · show clI b _ _ _ I (b + 5) 2 = _
      unfold clI ckI clp
      rw [up _ _ _ _ _ _ (by omega), up _ _ _ _ _ _ (by omega), up _ _ _ _ _ _ (by omega), up _ _ _ _ _ _ (by omega), if_neg (by omega), up _ _ _ _ _ _ (by omega), up _ _ _ _ _ _ (by omega)]
      exact u2_same
    · show clI b _ _ _ I (b + 11) 4 = _
      unfold clI ckI
      rw [up _ _ _ _ _ _ (by omega), up _ _ _ _ _ _ (by omega), up _ _ _ _ _ _ (by omega)]
      exact u2_same
    · show clI b _ _ _ I (b + 11) 5 = _
      unfold clI ckI
      rw [up _ _ _ _ _ _ (by omega), up _ _ _ _ _ _ (by omega)]
      exact u2_same
    · show clI b _ _ _ I (b + 11) 6 = _
      unfold clI ckI
      rw [up _ _ _ _ _ _ (by omega)]
      exact u2_same
    · show clI b _ _ _ I (b + 11) 7 = _
      unfold clI ckI
      exact u2_same
    · have e1 : mo k = 12 := by unfold mo; rw [if_neg (by omega), if_neg (by omega), if_neg (by omega), if_neg (by omega), if_neg (by omega), if_neg (by omega)]
      have e2 : mq k = k - 118 := by unfold mq; rw [if_neg (by omega), if_neg (by omega), if_neg (by omega), if_neg (by omega), if_neg (by omega), if_neg (by omega), if_neg (by omega)]
      rw [e1, e2]
      have e3 : bxA x l r k = 0 := by unfold bxA; rw [if_neg (by omega), if_neg (by omega), if_neg (by omega)]
      rw [e3]
      show clI b _ _ _ I (b + 12) (k - 118) = _
      unfold clI ckI clp
      rw [up _ _ _ _ _ _ (by omega), up _ _ _ _ _ _ (by omega), up _ _ _ _ _ _ (by omega), up _ _ _ _ _ _ (by omega), if_pos (by omega)]
  · show clI b _ _ _ I (b + 0) 3 = _
    unfold clI ckI clp
    rw [up _ _ _ _ _ _ (by omega), up _ _ _ _ _ _ (by omega), up _ _ _ _ _ _ (by omega), up _ _ _ _ _ _ (by omega), if_neg (by omega), up _ _ _ _ _ _ (by omega), up _ _ _ _ _ _ (by omega), up _ _ _ _ _ _ (by omega), up _ _ _ _ _ _ (by omega), up _ _ _ _ _ _ (by omega), up _ _ _ _ _ _ (by omega), up _ _ _ _ _ _ (by omega), up _ _ _ _ _ _ (by omega), upb _ _ _ _ _ (by omega)]
    exact u2_same
  · show clI b _ _ _ I (b + 0) 6 = _
    unfold clI ckI clp
    rw [up _ _ _ _ _ _ (by omega), up _ _ _ _ _ _ (by omega), up _ _ _ _ _ _ (by omega), up _ _ _ _ _ _ (by omega), if_neg (by omega), up _ _ _ _ _ _ (by omega), up _ _ _ _ _ _ (by omega), up _ _ _ _ _ _ (by omega), up _ _ _ _ _ _ (by omega), up _ _ _ _ _ _ (by omega), up _ _ _ _ _ _ (by omega), up _ _ _ _ _ _ (by omega), up _ _ _ _ _ _ (by omega)]
    exact u2_same
  · show ckL (b + 11) L (b + 11) 1 = _
    unfold ckL
    rw [upL _ _ _ _ _ (by omega), upL _ _ _ _ _ (by omega)]
    exact u2_same
  · show ckL (b + 11) L (b + 11) 2 = _
    unfold ckL
    rw [upL _ _ _ _ _ (by omega)]
    exact u2_same
  · show ckL (b + 11) L (b + 11) 3 = _
    unfold ckL
    exact u2_same
  · show clI b _ _ _ I (b + 6) 4 = _
    unfold clI ckI clp
    rw [up _ _ _ _ _ _ (by omega), up _ _ _ _ _ _ (by omega), up _ _ _ _ _ _ (by omega), up _ _ _ _ _ _ (by omega), if_neg (by omega), up _ _ _ _ _ _ (by omega)]
    exact u2_same
  · show clI b _ _ _ I (b + 6) 5 = _
    unfold clI ckI clp
    rw [up _ _ _ _ _ _ (by omega), up _ _ _ _ _ _ (by omega), up _ _ _ _ _ _ (by omega), up _ _ _ _ _ _ (by omega), if_neg (by omega)]
    exact u2_same
  · have : bxA x l r 4 = 0 := rfl
    rw [this] at h1
    omega
theorem GA_bx {x l r : Int} (hx : 10 ≤ x ∧ x ≤ 200) (hl : 0 ≤ l ∧ l ≤ 100) (hr : 0 ≤ r ∧ r ≤ 100) : GA (bxA x l r) 0 0 o :=
  ⟨⟨by omega, rfl, hx.1, hx.2, fun i hi => by omega⟩, ⟨by omega, rfl, fun p hp => by omega⟩, ⟨hl, hr, ⟨Int.le_refl 0, by show (0 : Int) ≤ 40; omega⟩⟩, fun p hp => by omega, fun p q h1 h2 => by omega, fun i hi => by omega, fun i hi => by omega⟩
theorem DR_bx {x l r : Int} : DR (bxA x l r) 0 0 := by
  refine ⟨rfl, rfl, fun k h1 h2 => ?_, fun i hi => by omega⟩
  unfold bxA P3
  rw [if_neg (by omega), if_neg (by omega), if_neg (by omega)]
theorem c66 {p1 b1 b2 b3 b4 pE : PS} {l r : Int} (hP : bxR f n P p1 b1 b2 b3 b4 pE l r) (hT : TC f n J) (hS : SW J) (hW : WF f n P)
    (h1 : pE.2.2.2.1 ≠ 0 → Q (.inl none) (mk N t w (pC pE J) L D))
    (h2 : pE.2.2.2.1 = 0 → ∀ ℓ', (∀ o, RL ℓ' (gl 46 (ckL 57 L)) (bxA (cvT f 10 p1) l r) 0 0 o) → Q (.inl none) (mk N t w (pC pE (lay 46 ℓ' J)) (ckL 57 L) D)) : Wp (d + 6) 66 0 [some (.ref 73), none, none, none] [] (mk N t w (pC P J) L D) Q := by
  obtain ⟨w1, w2, w3, w4, w5, w6⟩ := bxR_W hP hW
  obtain ⟨e1, e2, e3, e4, e5, e6, e7, e8⟩ := hP
  have er := WF_e w6
  have l1 := fun Q => c67 (d := d) (N := N) (t := t) (w := w) (L := L) (D := D) (Q := Q) (a := 1) hT hS hW (by omega)
  have l2 := fun Q => c70 (d := d + 3) (N := N) (t := t) (w := w) (L := L) (D := D) (Q := Q) (lo := 10) (hi := 200) hT w1 (by omega) (by omega)
  have l3 := fun Q => c68 (d := d + 1) (N := N) (t := t) (w := w) (L := L) (D := D) (Q := Q) (a := 2) hT hS w2 (by omega)
  have l4 := fun Q => c67 (d := d) (N := N) (t := t) (w := w) (L := L) (D := D) (Q := Q) (a := 2) hT hS w2 (by omega)
  have l5 := fun Q => c70 (d := d + 3) (N := N) (t := t) (w := w) (L := L) (D := D) (Q := Q) (lo := 0) (hi := 100) hT w3 (by omega) (by omega)
  have l6 := fun Q => c70 (d := d + 3) (N := N) (t := t) (w := w) (L := L) (D := D) (Q := Q) (lo := 0) (hi := 100) hT w4 (by omega) (by omega)
  have l7 := fun Q => c72 (d := d + 3) (N := N) (t := t) (w := w) (L := L) (D := D) (Q := Q) hT w5
  simp only [← e1] at l1
  simp only [← e2] at l2
  simp only [← e3] at l4
  simp only [← e4] at l5
  simp only [← e8] at l7
  have fin : Wp (d + 6) 66 55 [some (.ref 73), some (.int (Int32.ofInt (cvT f 10 p1))), some (.int (Int32.ofInt l)), some (.int (Int32.ofInt r))] [] (mk N t w (pC pE J) L D) Q := by
    by_cases hE : pE.2.2.2.1 = 0
    · have hE' : (pE.2.2.2.1 : Int) = 0 := by omega
      have hq := h2 hE (gl 46 (clI 46 (Int32.ofInt (cvT f 10 p1)) (Int32.ofInt l) (Int32.ofInt r) (pC pE J))) (fun o => RL_cl)
      rw [← pC_lay, clI_lay] at hq
      have l8 := fun (x y z : Int32) Q => c24t (d := d + 4) (N := N) (t := t) (w := w) (I := pC pE J) (L := L) (D := D) (Q := Q) (x := x) (l := y) (r := z) LB_tr
      simp only [w66_55, w66_56, w66_59, w66_62, w66_63, w66_66, w66_67, w66_68, w66_69, w66_72, kn_s, kn_n, zh_mk, zR_mk, zI_mk, zL_mk, zD_mk, wI_mk, wL_mk, wD_mk, zT_mk, zC_mk, kill_i, kill_r, kill_0, kill_n, kill_l, kill_q, zzk_r, zzk_0, zzk_q, zcat_r, zcat_i, zcat_0, zcat_q, cats_0, cats_i, cats_r, cats_l, cats_d, cats_f, cats_q, cats_n, rv_s, rv_0, Nat.reduceAdd, Nat.reduceLeDiff, Nat.reduceEqDiff, Nat.add_zero, Nat.reduceMul, Nat.reduceSub, ne_eq, not_false_eq_true, not_true_eq_false, and_self, and_true, true_and, or_self, or_true, true_or, or_false, false_or, if_true, if_false, reduceIte, reduceCtorEq, implies_true, ite_self, ite_not, lay_in, lay_0, up2_lay, up2_lay0, kh0, kh1, kh2, kh3, kh4, kh5, kh6, kh7, kh8, kh9, kh10, kh11, kh12, khB, khP, kr2, kr4, kr5, kr7, kr8, kr9, kr10, krB, krP, krG0, krG1, krG2, krG3, krK, Nat.reduceLT, o_add, o_sub, o_mul, o_neg, q_add, q_sub, q_mul, q_neg, o_32, cast_s, Int.toNat_natCast, LB_tr, k73, kr73_1, pC_6, o_eq (a := (pE.2.2.2.1 : Int)) (b := 0) (by omega), eq_true hE', l8]
      exact hq
    · have hE' : ¬ ((pE.2.2.2.1 : Int) = 0) := by omega
      simp only [w66_55, w66_56, w66_59, w66_62, w66_63, w66_66, w66_67, w66_68, w66_69, w66_72, kn_s, kn_n, zh_mk, zR_mk, zI_mk, zL_mk, zD_mk, wI_mk, wL_mk, wD_mk, zT_mk, zC_mk, kill_i, kill_r, kill_0, kill_n, kill_l, kill_q, zzk_r, zzk_0, zzk_q, zcat_r, zcat_i, zcat_0, zcat_q, cats_0, cats_i, cats_r, cats_l, cats_d, cats_f, cats_q, cats_n, rv_s, rv_0, Nat.reduceAdd, Nat.reduceLeDiff, Nat.reduceEqDiff, Nat.add_zero, Nat.reduceMul, Nat.reduceSub, ne_eq, not_false_eq_true, not_true_eq_false, and_self, and_true, true_and, or_self, or_true, true_or, or_false, false_or, if_true, if_false, reduceIte, reduceCtorEq, implies_true, ite_self, ite_not, lay_in, lay_0, up2_lay, up2_lay0, kh0, kh1, kh2, kh3, kh4, kh5, kh6, kh7, kh8, kh9, kh10, kh11, kh12, khB, khP, kr2, kr4, kr5, kr7, kr8, kr9, kr10, krB, krP, krG0, krG1, krG2, krG3, krK, Nat.reduceLT, o_add, o_sub, o_mul, o_neg, q_add, q_sub, q_mul, q_neg, o_32, cast_s, Int.toNat_natCast, LB_tr, k73, kr73_1, pC_6, o_eq (a := (pE.2.2.2.1 : Int)) (b := 0) (by omega), eq_false hE']
      exact h1 hE
  by_cases q : iw f 2 b1 = true
  · rw [if_pos q] at e5 e6 e7
    simp only [← e5] at l6
    subst e6 e7
    simp only [w66_0, w66_1, w66_3, w66_6, w66_7, w66_9, w66_12, w66_15, w66_16, w66_17, w66_18, w66_19, w66_20, w66_21, w66_23, w66_26, w66_29, w66_30, w66_32, w66_35, w66_36, w66_37, w66_39, w66_42, w66_43, w66_44, w66_45, w66_47, w66_50, w66_51, w66_52, kn_s, kn_n, zh_mk, zR_mk, zI_mk, zL_mk, zD_mk, wI_mk, wL_mk, wD_mk, zT_mk, zC_mk, kill_i, kill_r, kill_0, kill_n, kill_l, kill_q, zzk_r, zzk_0, zzk_q, zcat_r, zcat_i, zcat_0, zcat_q, cats_0, cats_i, cats_r, cats_l, cats_d, cats_f, cats_q, cats_n, rv_s, rv_0, Nat.reduceAdd, Nat.reduceLeDiff, Nat.reduceEqDiff, Nat.add_zero, Nat.reduceMul, Nat.reduceSub, ne_eq, not_false_eq_true, not_true_eq_false, and_self, and_true, true_and, or_self, or_true, true_or, or_false, false_or, if_true, if_false, reduceIte, reduceCtorEq, implies_true, ite_self, ite_not, k73, l1, l2, l3, l4, l5, l6, l7, pI, eq_true q, i10]
    exact fin
  · rw [if_neg q] at e5 e6 e7
    subst e5
    subst e6 e7
    simp only [w66_0, w66_1, w66_3, w66_6, w66_7, w66_9, w66_12, w66_15, w66_16, w66_17, w66_18, w66_19, w66_20, w66_21, w66_23, w66_26, w66_29, w66_30, w66_32, w66_35, w66_36, w66_37, w66_39, w66_42, w66_43, w66_44, w66_45, w66_47, w66_50, w66_51, w66_52, kn_s, kn_n, zh_mk, zR_mk, zI_mk, zL_mk, zD_mk, wI_mk, wL_mk, wD_mk, zT_mk, zC_mk, kill_i, kill_r, kill_0, kill_n, kill_l, kill_q, zzk_r, zzk_0, zzk_q, zcat_r, zcat_i, zcat_0, zcat_q, cats_0, cats_i, cats_r, cats_l, cats_d, cats_f, cats_q, cats_n, rv_s, rv_0, Nat.reduceAdd, Nat.reduceLeDiff, Nat.reduceEqDiff, Nat.add_zero, Nat.reduceMul, Nat.reduceSub, ne_eq, not_false_eq_true, not_true_eq_false, and_self, and_true, true_and, or_self, or_true, true_or, or_false, false_or, if_true, if_false, reduceIte, reduceCtorEq, implies_true, ite_self, ite_not, k73, l1, l2, l3, l7, pI, eq_false q, i00]
    exact fin
end S82b
