/-! CONTRACTS of the class's line: bounces, the size of a trade -/
def RT (ℓ : Nat → Nat → Int32) (μ : Nat → Nat → Int64) (x : Tn) (n m : Nat) (o : Nat → Nat) (ds : Nat → Int) : Prop :=
  RL ℓ μ x.1 n m o ∧ ∀ i, i < n → ℓ (i + 13) 9 = Int32.ofInt (ds i) ∧ ℓ (i + 13) 10 = pI (x.2.2.2.1.testBit i = true)
theorem zabs_bs {s st : Int} (hs : -60 ≤ s ∧ s ≤ 60) (ht : 0 ≤ st ∧ st ≤ 100) : zabs s - zabs (bsA s st) = stA s st := by
  have h := stA_b hs ht
  unfold bsA
  unfold zabs at h ⊢
  split <;> split <;> split <;> omega
section S33
variable {N : NX} {w : WX} {d t a a2 b n m : Nat} {I ℓ : Nat → Nat → Int32} {L μ : Nat → Nat → Int64} {D : Nat → Nat → UInt64} {Q : Rs → St → Prop} {x : Tn} {o : Nat → Nat} {ds : Nat → Int} {α : Nat → Int}
theorem boA_comm {kb i : Nat} {st v : Int} (h : kb ≠ B9 i 1 ∧ kb ≠ B9 i 6 ∧ kb ≠ B9 i 2 ∧ kb ≠ 5 ∧ kb ≠ 13) (hv : v = α (B9 i 2) * (α (B9 i 1) - bsA (α (B9 i 1)) st)) :
    lgA (up1 (up1 (up1 (up1 (up1 α (B9 i 1) (bsA (α (B9 i 1)) st)) (B9 i 6) (α (B9 i 6) + 1)) kb (α kb + 1)) 13 (α 13 + 1)) 5 (α 5 + v)) i (-1) (stA (α (B9 i 1)) st) = boA (up1 α kb (α kb + 1)) i st := by
  unfold boA
  rw [up1_ne (j := B9 i 1) (k := kb) (by omega), up1_ne (j := B9 i 6) (k := kb) (by omega), up1_ne (j := B9 i 2) (k := kb) (by omega), up1_ne (j := 5) (k := kb) (by omega), up1_ne (j := 13) (k := kb) (by omega)]
  rw [up1_comm (a := B9 i 6) (b := kb) (by omega), up1_comm (a := B9 i 1) (b := kb) (by omega), hv]
theorem c36 (hb : LB b) (hR : RT ℓ μ x n m o ds) (hG : XG x n m o) {i : Nat} (hi : i < n) {ob kb : Nat} {st : Int} (ho : ob = 4 ∨ ob = 5 ∨ (23 ≤ ob ∧ ob < 27)) (hk : mo kb = ob ∧ mq kb = 2 ∧ kd n m kb ∧ kb < 28 ∧ kb ≠ 5 ∧ kb ≠ 13) (hst : ℓ ob 1 = Int32.ofInt st) (ht : 0 ≤ st ∧ st ≤ 100)
    (hQ : ∀ (ℓ' : Nat → Nat → Int32) (μ' : Nat → Nat → Int64), RT ℓ' μ' (boA (up1 x.1 kb (x.1 kb + 1)) i st, x.2) n m o ds → Q (.inl none) (mk N t w (lay b ℓ' I) (lay b μ' L) D)) :
    Wp (d + 2) 36 0 [some (.ref b), some (.int (Int32.ofInt (i : Int))), some (.ref (b + ob)), none, none, none] [] (mk N t w (lay b ℓ I) (lay b μ L) D) Q := by
  obtain ⟨α, p, r, M, z1, z2⟩ := x
  obtain ⟨hG, -, -⟩ := hG
  have hG : GA α n m o := hG
  have hRL : RL ℓ μ α n m o := hR.1
  have h10 : n ≤ 10 := hG.1.1
  have hi10 : i < 10 := by omega
  have gi := hG.1.2.2.2.2 i hi
  have h4 := hG.2.2.1.2.2
  have s1 := stA_b gi.2.1 ht
  have s2 := bsA_b gi.2.1 ht
  have s3 := push_b gi.2.2.1 gi.2.1
  have s4 := push_b gi.2.2.1 s2
  have hK : KH N (b + ob) = (2, 0) := by
    rcases ho with rfl | rfl | ho
    · exact kh4 hb
    · exact kh5 hb
    · have := khP (N := N) (i := ob - 23) hb (by omega)
      rwa [show ob - 23 + 23 = ob by omega] at this
  have r2 : ℓ (i + 13) 2 = Int32.ofInt (α (B9 i 1)) := RL_B hRL hi h10 (by omega)
  have r3 : ℓ (i + 13) 3 = Int32.ofInt (α (B9 i 2)) := RL_B hRL hi h10 (by omega)
  have r7 : ℓ (i + 13) 7 = Int32.ofInt (α (B9 i 6)) := RL_B hRL hi h10 (by omega)
  have rb : ℓ ob 2 = Int32.ofInt (α kb) := by
    have := hRL.1 kb hk.2.2.1
    rwa [hk.1, hk.2.1] at this
  have r01 : ℓ 0 1 = Int32.ofInt (α 3) := hRL.1 3 (by unfold kd; omega)
  have r15 : ℓ 11 5 = Int32.ofInt (α 13) := hRL.1 13 (by unfold kd; omega)
  have rg := hRL.2.2.1.1
  obtain ⟨nx, g1, g2, g3, -⟩ := hRL.2.2.2.2
  have n1 : (i + 13 = ob) = False := by simp only [eq_iff_iff, iff_false]; omega
  have n2 : (ob = i + 13) = False := by simp only [eq_iff_iff, iff_false]; omega
  have n3 : (ob = 11) = False := by simp only [eq_iff_iff, iff_false]; omega
  have n4 : (11 = ob) = False := by simp only [eq_iff_iff, iff_false]; omega
  have n5 : (0 = ob) = False := by simp only [eq_iff_iff, iff_false]; omega
  have n6 : (11 = i + 13) = False := by simp only [eq_iff_iff, iff_false]; omega
  have n7 : (0 = i + 13) = False := by simp only [eq_iff_iff, iff_false]; omega
  have e64 : α (B9 i 2) * α (B9 i 1) - α (B9 i 2) * bsA (α (B9 i 1)) st = α (B9 i 2) * (α (B9 i 1) - bsA (α (B9 i 1)) st) := (Int.mul_sub _ _ _).symm
  simp only [w36_0, w36_1, w36_4, w36_5, w36_6, w36_7, w36_8, w36_11, w36_13, w36_14, w36_17, w36_19, w36_20, w36_21, w36_22, w36_25, w36_28, w36_31, w36_32, w36_33, w36_36, w36_37, w36_38, w36_41, w36_42, w36_43, w36_46, w36_47, w36_48, w36_51, w36_52, w36_55, w36_56, w36_59, w36_60, w36_61, w36_64, w36_65, w36_68, w36_69, w36_72, w36_74, w36_75, w36_78, w36_79, w36_80, w36_81, w36_84, w36_85, w36_88, w36_89, w36_92, w36_93, w36_94, w36_96, w36_97, w36_100, w36_101, w36_104, kn_s, kn_n, zh_mk, zR_mk, zI_mk, zL_mk, zD_mk, wI_mk, wL_mk, wD_mk, zT_mk, zC_mk, kill_i, kill_r, kill_0, kill_n, kill_l, kill_q, zzk_r, zzk_0, zzk_q, zcat_r, zcat_i, zcat_0, zcat_q, cats_0, cats_i, cats_r, cats_l, cats_d, cats_f, cats_q, cats_n, rv_s, rv_0, Nat.reduceAdd, Nat.reduceLeDiff, Nat.reduceEqDiff, Nat.add_zero, Nat.reduceMul, Nat.reduceSub, ne_eq, not_false_eq_true, not_true_eq_false, and_self, and_true, true_and, or_self, or_true, true_or, or_false, false_or, if_true, if_false, reduceIte, reduceCtorEq, implies_true, ite_self, ite_not, lay_in, lay_0, up2_lay, up2_lay0, kh0, kh1, kh2, kh3, kh4, kh5, kh6, kh7, kh8, kh9, kh10, kh11, kh12, khB, khP, kr2, kr4, kr5, kr7, kr8, kr9, kr10, krB, krP, krG0, krG1, krG2, krG3, krK, Nat.reduceLT, o_add, o_sub, o_mul, o_neg, q_add, q_sub, q_mul, q_neg, o_32, cast_s, Int.toNat_natCast, up2_at, Nat.reduceEqDiff, and_false, false_and, hb, hi10, hK, c3, c5, c6, r2, r3, r7, rb, r01, r15, rg, hst, n1, n2, n3, n4, n5, n6, n7, show i + 13 < 27 by omega, show ob < 27 by omega, o_ixn (j := i) (n := 10) (by omega), o_tnn (j := i) (by omega), pbs_o gi.2.1 ht, pabs_o (s := α (B9 i 1)) (by omega), pabs_o (s := bsA (α (B9 i 1)) st) (by omega), o_64 (z := α (B9 i 2) * α (B9 i 1) - α (B9 i 2) * bsA (α (B9 i 1)) st) (by omega), zabs_bs gi.2.1 ht]
  rw [c49 hb g1 (by rw [u2_ne (by omega), u2_ne (by omega), u2_ne (by omega), u2_ne (by omega)]; exact g2) (by rw [u2_ne (by omega), u2_ne (by omega), u2_ne (by omega), u2_ne (by omega)]; exact g3) h4]
  simp only [w36_0, w36_1, w36_4, w36_5, w36_6, w36_7, w36_8, w36_11, w36_13, w36_14, w36_17, w36_19, w36_20, w36_21, w36_22, w36_25, w36_28, w36_31, w36_32, w36_33, w36_36, w36_37, w36_38, w36_41, w36_42, w36_43, w36_46, w36_47, w36_48, w36_51, w36_52, w36_55, w36_56, w36_59, w36_60, w36_61, w36_64, w36_65, w36_68, w36_69, w36_72, w36_74, w36_75, w36_78, w36_79, w36_80, w36_81, w36_84, w36_85, w36_88, w36_89, w36_92, w36_93, w36_94, w36_96, w36_97, w36_100, w36_101, w36_104, kn_s, kn_n, zh_mk, zR_mk, zI_mk, zL_mk, zD_mk, wI_mk, wL_mk, wD_mk, zT_mk, zC_mk, kill_i, kill_r, kill_0, kill_n, kill_l, kill_q, zzk_r, zzk_0, zzk_q, zcat_r, zcat_i, zcat_0, zcat_q, cats_0, cats_i, cats_r, cats_l, cats_d, cats_f, cats_q, cats_n, rv_s, rv_0, Nat.reduceAdd, Nat.reduceLeDiff, Nat.reduceEqDiff, Nat.add_zero, Nat.reduceMul, Nat.reduceSub, ne_eq, not_false_eq_true, not_true_eq_false, and_self, and_true, true_and, or_self, or_true, true_or, or_false, false_or, if_true, if_false, reduceIte, reduceCtorEq, implies_true, ite_self, ite_not, lay_in, lay_0, up2_lay, up2_lay0, kh0, kh1, kh2, kh3, kh4, kh5, kh6, kh7, kh8, kh9, kh10, kh11, kh12, khB, khP, kr2, kr4, kr5, kr7, kr8, kr9, kr10, krB, krP, krG0, krG1, krG2, krG3, krK, Nat.reduceLT, o_add, o_sub, o_mul, o_neg, q_add, q_sub, q_mul, q_neg, o_32, cast_s, Int.toNat_natCast]
  refine hQ _ _ ⟨?_, fun j hj => ?_⟩
  · have q1 := RL_i (key := B9 i 1) (v := bsA (α (B9 i 1)) st) hRL (by unfold kd B9; omega)
    rw [mo_B hi10 (by omega), mq_B hi10 (by omega)] at q1
    have q2 := RL_i (key := B9 i 6) (v := α (B9 i 6) + 1) q1 (by unfold kd B9; omega)
    rw [mo_B hi10 (by omega), mq_B hi10 (by omega)] at q2
    have q3 := RL_i (key := kb) (v := α kb + 1) q2 hk.2.2.1
    rw [hk.1, hk.2.1] at q3
    have q4 := RL_5 (v := α 5 + (α (B9 i 2) * α (B9 i 1) - α (B9 i 2) * bsA (α (B9 i 1)) st)) (RL_i (key := 13) (v := α 13 + 1) q3 (by unfold kd; omega))
    have b4 : ∀ (β : Nat → Int), up1 (up1 (up1 (up1 (up1 β (B9 i 1) (bsA (α (B9 i 1)) st)) (B9 i 6) (α (B9 i 6) + 1)) kb (α kb + 1)) 13 (α 13 + 1)) 5 (α 5 + (α (B9 i 2) * α (B9 i 1) - α (B9 i 2) * bsA (α (B9 i 1)) st)) 4 = β 4 ∧ up1 (up1 (up1 (up1 (up1 β (B9 i 1) (bsA (α (B9 i 1)) st)) (B9 i 6) (α (B9 i 6) + 1)) kb (α kb + 1)) 13 (α 13 + 1)) 5 (α 5 + (α (B9 i 2) * α (B9 i 1) - α (B9 i 2) * bsA (α (B9 i 1)) st)) 3 = β 3 := by
      intro β
      have hk4 : kb ≠ 4 ∧ kb ≠ 3 := by
        have h1 := hk.1
        have h2 := hk.2.2.1
        constructor
        · rintro rfl; unfold kd at h2; omega
        · rintro rfl; exact absurd h1 (by show (0 : Nat) ≠ ob; omega)
      constructor
      · rw [up1_ne (by omega), up1_ne (by omega), up1_ne (by omega), up1_ne (by unfold B9; omega), up1_ne (by unfold B9; omega)]
      · rw [up1_ne (by omega), up1_ne (by omega), up1_ne (by omega), up1_ne (by unfold B9; omega), up1_ne (by unfold B9; omega)]
    have q5 := RL_g (nx := nx) (b := (i : Int)) (c := -1) (z := stA (α (B9 i 1)) st) q4 g1 (by rw [u2_ne (by show (6 : Nat) ≠ mo 13 ∨ _; exact Or.inl (by decide)), u2_ne (by omega), u2_ne (by omega), u2_ne (by omega)]; exact g2) (by rw [(b4 α).1]; exact h4)
    rw [(b4 α).1, (b4 α).2] at q5
    rw [boA_comm ⟨by unfold B9; omega, by unfold B9; omega, by unfold B9; omega, hk.2.2.2.2.1, hk.2.2.2.2.2⟩ e64] at q5
    exact q5
  · have hd := hR.2 j hj
    have hj10 : j < 10 := by omega
    show lgM _ _ _ _ _ _ _ (j + 13) 9 = _ ∧ lgM _ _ _ _ _ _ _ (j + 13) 10 = _
    unfold lgM
    refine ⟨?_, ?_⟩
    · rw [u2_ne (by omega), u2_ne (by omega), u2_ne (by omega), u2_ne (by omega), u2_ne (by omega), u2_ne (by omega), u2_ne (by omega), u2_ne (by omega), u2_ne (by omega), u2_ne (by omega)]
      exact hd.1
    · rw [u2_ne (by omega), u2_ne (by omega), u2_ne (by omega), u2_ne (by omega), u2_ne (by omega), u2_ne (by omega), u2_ne (by omega), u2_ne (by omega), u2_ne (by omega), u2_ne (by omega)]
      exact hd.2
end S33
