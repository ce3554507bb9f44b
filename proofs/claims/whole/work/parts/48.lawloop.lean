/-! THE LAW'S LOOP, over any invariant G that each call keeps -/
def lLo (i : Int) (u6 u7 u8 u9 : Option Value) : Lo := [some (.ref 0), some (.ref 15), some (.ref 294), some (.ref 303), some (.ref 304), some (.int (Int32.ofInt i)), u6, u7, u8, u9]
/-- one call of the script keeps G -/
def LawStep (N : Nat) (xs : Nat → Int32) (d : Nat) (G : Nat → St → Prop) : Prop := ∀ (c : Nat) (σ : St) (u6 u7 u8 u9 : Option Value) (Q : Rs → St → Prop), G c σ → 6 * c + 6 ≤ N →
  (∀ (σ' : St) (v6 v7 v8 v9 : Option Value), G (c + 1) σ' → Wp d 334 3079 (lLo (6 * (c : Int)) v6 v7 v8 v9) [] σ' Q) → Wp d 334 45 (lLo (6 * (c : Int)) u6 u7 u8 u9) [.int (xs (6 * c) &&& Int32.ofInt 63)] σ Q
theorem law_loop {N d : Nat} {xs : Nat → Int32} {G : Nat → St → Prop} (hN : N ≤ 3072) (hG : ∀ c σ, G c σ → zh σ 0 = (19, N) ∧ ∀ j, zI σ 0 j = xs j) (hS : LawStep N xs d G) {Q : Rs → St → Prop} (hQ : ∀ c σ, G c σ → 6 * c ≤ N → Q (.inl (some (.int (Int32.ofInt 1)))) σ) :
    ∀ (m c : Nat) (σ : St) (u6 u7 u8 u9 : Option Value), N ≤ 6 * c + m → 6 * c ≤ N → G c σ → Wp d 334 28 (lLo (6 * (c : Int)) u6 u7 u8 u9) [] σ Q := by
  intro m
  induction m using Nat.strongRecOn with
  | ind m ih =>
    intro c σ u6 u7 u8 u9 h1 h2 hg
    obtain ⟨g1, g2⟩ := hG c σ hg
    unfold lLo
    rw [w334_28]
    have e1 : (Int32.ofNat N - Int32.ofInt 6 < Int32.ofInt (6 * (c : Int))) = ((N : Int) - 6 < 6 * (c : Int)) := by
      rw [show Int32.ofNat N = Int32.ofInt (N : Int) from rfl, o_sub, o_lt (by omega)]
    by_cases he : (N : Int) - 6 < 6 * (c : Int)
    · simp only [w334_30, w334_31, w334_32, w334_34, w334_35, kn_s, kn_n, zh_mk, zR_mk, zI_mk, zL_mk, zD_mk, wI_mk, wL_mk, wD_mk, zT_mk, zC_mk, kill_i, kill_r, kill_0, kill_n, kill_l, kill_q, zzk_r, zzk_0, zzk_q, zcat_r, zcat_i, zcat_0, cats_0, cats_i, cats_r, cats_l, cats_d, cats_f, rv_s, rv_0, Nat.reduceAdd, Nat.reduceLeDiff, Nat.add_zero, Nat.reduceMul, Nat.reduceSub, ne_eq, not_false_eq_true, not_true_eq_false, and_self, and_true, true_and, or_self, or_true, true_or, or_false, false_or, if_true, if_false, reduceIte, reduceCtorEq, implies_true, ite_self, ite_not, g1, e1, he, Nat.reduceLeDiff, w334_3085, w334_3086, show narrow .boolean (.int (Int32.ofInt 1)) = .int (Int32.ofInt 1) by decide]
      exact hQ c σ hg h2
    · simp only [w334_30, w334_31, w334_32, w334_34, w334_35, kn_s, kn_n, zh_mk, zR_mk, zI_mk, zL_mk, zD_mk, wI_mk, wL_mk, wD_mk, zT_mk, zC_mk, kill_i, kill_r, kill_0, kill_n, kill_l, kill_q, zzk_r, zzk_0, zzk_q, zcat_r, zcat_i, zcat_0, cats_0, cats_i, cats_r, cats_l, cats_d, cats_f, rv_s, rv_0, Nat.reduceAdd, Nat.reduceLeDiff, Nat.add_zero, Nat.reduceMul, Nat.reduceSub, ne_eq, not_false_eq_true, not_true_eq_false, and_self, and_true, true_and, or_self, or_true, true_or, or_false, false_or, if_true, if_false, reduceIte, reduceCtorEq, implies_true, ite_self, ite_not, g1, e1, he, Nat.reduceLeDiff, w334_38, w334_39]
      rw [w334_41 (Or.inr (by rw [g1])) (by rw [g1]; exact o_ix (by show 0 ≤ 6 * (c : Int) ∧ 6 * (c : Int) < (N : Int) ∧ _; omega))]
      rw [w334_42, w334_44, g2, show (Int32.ofInt (6 * (c : Int))).toNatClampNeg = 6 * c from o_tnn (j := 6 * c) (by omega)]
      refine hS c σ u6 u7 u8 u9 Q hg (by omega) fun σ' v6 v7 v8 v9 hg' => ?_
      unfold lLo
      rw [w334_3079, w334_3082, o_add]
      have := ih (m - 6) (by omega) (c + 1) σ' v6 v7 v8 v9 (by omega) (by omega) hg'
      unfold lLo at this
      rw [show 6 * (c : Int) + 6 = 6 * ((c + 1 : Nat) : Int) by omega]
      exact this
/-- all that is left, by an invariant -/
theorem lawRun_of (G : Nat → (Nat → Int32) → Nat → St → Prop) (h0 : ∀ N xs, N ≤ 3072 → G N xs 0 (mk N 0 295 (iZ N xs) lZ (fun _ _ => 0))) (hG : ∀ N xs c σ, G N xs c σ → zh σ 0 = (19, N) ∧ ∀ j, zI σ 0 j = xs j) (hS : ∀ N xs, N ≤ 3072 → LawStep N xs 2040 (G N xs)) (hB : ∀ N xs c σ, N ≤ 3072 → G N xs c σ → 6 * c ≤ N → cu σ ≤ 601039 ∧ su σ ≤ 7293034) : LawRun := by
  intro N xs hN
  have e := law_0 (d := 2010) (N := N) (xs := xs) (Q := fun r σ => r = .inl (some (.int 1)) ∧ cu σ ≤ 601039 ∧ su σ ≤ 7293034)
  refine (show _ = _ from e).mpr ?_
  exact law_loop hN (hG N xs) (hS N xs hN) (fun c σ hg hc => ⟨rfl, hB N xs c σ hN hg hc⟩) N 0 _ _ _ _ _ (by omega) (by omega) (h0 N xs hN)
