/-! SOUNDNESS: calls, and the induction -/
theorem gIn {ws : List Cond} (h : ∀ w ∈ ws, w ∈ ALLW) : GoodIn ALLW ws := fun w hw => ⟨h w hw, good_of_word (ALLW_good _ (h w hw))⟩
/-- how a call begins, in the interpreter -/
theorem zcall_inv {kd y : Nat} {st : List Value} {σ : St} {y' : Nat} {as st' : List Value} (h : zcall kd y st σ = some (.inr (.inr (y', as, st')))) (hk3 : kd ≤ 3) :
    y' = y ∧ mKd y = kd ∧ as = (st.take (mAr y + (if kd = 0 then 0 else 1))).reverse ∧ st' = st.drop (mAr y + (if kd = 0 then 0 else 1)) ∧ mAr y + (if kd = 0 then 0 else 1) ≤ st.length ∧ cats st' ≤ 8 ∧ (entA as).length ≤ mMx y ∧
    (kd = 1 → ∃ v as', as = v :: as' ∧ rcv σ y v = true) ∧ (kd = 2 → ∃ a as', as = .ref a :: as' ∧ (zh σ a).1 ≠ 0) ∧ (kd = 3 → ∃ a as', as = .ref a :: as' ∧ zh σ a = (10, 0)) := by
  have hkd : kd = 0 ∨ kd = 1 ∨ kd = 2 ∨ kd = 3 := by omega
  unfold zcall at h
  by_cases hq : mKd y = kd ∧ mAr y + (if kd = 0 then 0 else 1) ≤ st.length ∧ cats (st.drop (mAr y + (if kd = 0 then 0 else 1))) ≤ 8 ∧ (entA (st.take (mAr y + (if kd = 0 then 0 else 1))).reverse).length ≤ mMx y
  · rw [if_pos hq] at h
    obtain ⟨q1, q2, q3, q4⟩ := hq
    generalize hA : (st.take (mAr y + (if kd = 0 then 0 else 1))).reverse = A at h q4 ⊢
    rcases hkd with rfl | rfl | rfl | rfl
    · cases h
      exact ⟨rfl, q1, rfl, rfl, q2, q3, q4, (fun z => by cases z), (fun z => by cases z), (fun z => by cases z)⟩
    · cases A with
      | nil => cases h
      | cons v as2 =>
        by_cases hr : rcv σ y v = true
        · simp only [if_true, if_pos hr] at h
          cases h
          exact ⟨rfl, q1, rfl, rfl, q2, q3, q4, fun _ => ⟨v, as2, rfl, hr⟩, (fun z => by cases z), (fun z => by cases z)⟩
        · simp only [if_true, if_neg hr] at h
          cases h
    · cases A with
      | nil => cases h
      | cons v as2 =>
        have h21 : ¬ (2 = 1) := by omega
        have h23 : ¬ (2 = 3) := by omega
        simp only [h21, h23, if_false] at h
        cases v with
        | ref a =>
          by_cases hr : (zh σ a).1 ≠ 0
          · simp only [if_pos hr] at h
            cases h
            exact ⟨rfl, q1, rfl, rfl, q2, q3, q4, (fun z => by cases z), fun _ => ⟨_, as2, rfl, hr⟩, (fun z => by cases z)⟩
          · simp only [if_neg hr] at h
            cases h
        | _ => cases h
    · cases A with
      | nil => cases h
      | cons v as2 =>
        have h21 : ¬ (3 = 1) := by omega
        simp only [h21, if_false, if_true] at h
        cases v with
        | ref a =>
          by_cases hr : zh σ a = (10, 0)
          · simp only [if_pos hr] at h
            cases h
            exact ⟨rfl, q1, rfl, rfl, q2, q3, q4, (fun z => by cases z), (fun z => by cases z), fun _ => ⟨_, as2, rfl, hr⟩⟩
          · simp only [if_neg hr] at h
            cases h
        | _ => cases h
  · rw [if_neg hq] at h
    cases h
theorem stp_call {mi pc : Nat} {lo : Lo} {st : List Value} {σ : St} {y : Nat} {as st' : List Value} (h : stp mi pc lo st σ = some (.inr (.inr (y, as, st')))) :
    ∃ idx b, (decode (mCd mi) pc = .ok (.invokestatic idx, 3) ∧ lkq (mOw mi) idx = some (1, y, b) ∧ zcall 0 y st σ = some (.inr (.inr (y, as, st')))) ∨
      (decode (mCd mi) pc = .ok (.invokevirtual idx, 3) ∧ lkq (mOw mi) idx = some (1, y, b) ∧ zcall 1 y st σ = some (.inr (.inr (y, as, st')))) ∨
      (decode (mCd mi) pc = .ok (.invokespecial idx, 3) ∧ (lkq (mOw mi) idx = some (1, y, b) ∨ lkq (mOw mi) idx = some (2, y, b)) ∧ zcall 2 y st σ = some (.inr (.inr (y, as, st')))) ∨
      (decode (mCd mi) pc = .ok (.invokevirtual idx, 3) ∧ lkq (mOw mi) idx = some (21, y, b) ∧ zcall 3 y st σ = some (.inr (.inr (y, as, st')))) ∨
      (decode (mCd mi) pc = .ok (.invokespecial idx, 3) ∧ lkq (mOw mi) idx = some (22, y, b) ∧ zcall 3 y st σ = some (.inr (.inr (y, as, st')))) := by
  have nld : ∀ k i pc', zld k i pc' lo st σ ≠ some (.inr (.inr (y, as, st'))) := by
    intro k i pc' h
    unfold zld nx at h
    (repeat' split at h) <;> cases h
  have nst : ∀ k i pc', zst k i pc' lo st σ ≠ some (.inr (.inr (y, as, st'))) := by
    intro k i pc' h
    unfold zst nx at h
    (repeat' split at h) <;> cases h
  have nst2 : ∀ k i pc', zst2 k i pc' lo st σ ≠ some (.inr (.inr (y, as, st'))) := by
    intro k i pc' h
    unfold zst2 nx at h
    (repeat' split at h) <;> cases h
  have ntg : ∀ off st2, tgo pc off lo st2 σ ≠ some (.inr (.inr (y, as, st'))) := by
    intro off st2 h
    unfold tgo nx at h
    (repeat' split at h) <;> cases h
  have ntb : ∀ off b st2, tbr pc off b lo st2 σ ≠ some (.inr (.inr (y, as, st'))) := by
    intro off b st2 h
    unfold tbr nx at h
    (repeat' split at h) <;> cases h
  have ntt : ∀ E, zthrow mi pc E st σ ≠ some (.inr (.inr (y, as, st'))) := by
    intro E h
    unfold zthrow at h
    (repeat' split at h) <;> cases h
  unfold stp at h
  split at h
  · rename_i i len hd
    split at h
    · exfalso
      simp only [zins] at h
      (repeat' split at h) <;> first | exact (ntg _ _ h).elim | cases h
    · split at h
      · rename_i hl
        subst hl
        cases i
        case invokestatic idx _ =>
          simp only [zins] at h
          split at h
          · rename_i y2 b heq
            obtain ⟨rfl, -⟩ := zcall_inv h (by omega)
            exact ⟨idx, b, Or.inl ⟨hd, heq, h⟩⟩
          all_goals (exfalso; (repeat' split at h) <;> cases h)
        case invokevirtual idx _ =>
          simp only [zins] at h
          split at h
          · rename_i y2 b heq
            obtain ⟨rfl, -⟩ := zcall_inv h (by omega)
            exact ⟨idx, b, Or.inr (Or.inl ⟨hd, heq, h⟩)⟩
          · rename_i y2 b heq
            obtain ⟨rfl, -⟩ := zcall_inv h (by omega)
            exact ⟨idx, b, Or.inr (Or.inr (Or.inr (Or.inl ⟨hd, heq, h⟩)))⟩
          · exfalso; (repeat' split at h) <;> cases h
          · cases h
        case invokespecial idx _ =>
          simp only [zins] at h
          split at h
          · rename_i y2 b heq
            obtain ⟨rfl, -⟩ := zcall_inv h (by omega)
            exact ⟨idx, b, Or.inr (Or.inr (Or.inl ⟨hd, Or.inl heq, h⟩))⟩
          · rename_i y2 b heq
            obtain ⟨rfl, -⟩ := zcall_inv h (by omega)
            exact ⟨idx, b, Or.inr (Or.inr (Or.inl ⟨hd, Or.inr heq, h⟩))⟩
          · rename_i y2 b heq
            obtain ⟨rfl, -⟩ := zcall_inv h (by omega)
            exact ⟨idx, b, Or.inr (Or.inr (Or.inr (Or.inr ⟨hd, heq, h⟩)))⟩
          all_goals (exfalso; (repeat' split at h) <;> cases h)
        all_goals (exfalso; simp only [zins, reduceCtorEq] at h)
        all_goals (first | (cases h; done) | exact nld _ _ _ h | exact nst _ _ _ h | exact nst2 _ _ _ h | exact ntg _ _ h | ((repeat' split at h) <;> first | (cases h; done) | exact ntg _ _ h | exact ntb _ _ _ h | exact ntt _ h))
      · cases h
  · cases h
section S14
variable {l : Launch} {dC : Nat → ClassId} {dI : Nat → Nat → Nat} {cid : Nat → ClassId} {base L : Nat} {xs : Nat → Int32}
variable {p : Program} {e : Env} {R : Room} {s : State} {m : MethodId} {args : Array Value} {below : List Frame} {meth : Method} {c : Code} {H : Heap} {locs : List Loc} {cells slots : Nat} {Q : State → Prop}
variable {mi pc : Nat} {ad : Nat → Nat} {lo : Lo} {ls : Array Slot} {st cst : List Value} {σ : St}
theorem pcs_blind (cargs : List Value) : FrameBlind (va_Pc cargs (PcS dC dI cid base L xs ad σ)) := fun a U g mk h => ⟨h.1, KU.warm (s := U) (U := U.calling g mk a) (State.WarmedH.refl U) h.2.1, HF.moved (u := U) (U := U.calling g mk a) (Vm.Alike.refl U.vm) (Nat.le_refl _) (fun _ _ _ => rfl) h.2.2.1, h.2.2.2⟩
theorem pcs_at (cargs : List Value) (X : Sx p l s m args meth c R H locs mi dC dI cid base L xs ad lo ls σ) : ∀ U : State, U.heap = H → s.WarmedH U.vm → va_Pc cargs (PcS dC dI cid base L xs ad σ) cargs.toArray U := fun U hU hW => ⟨rfl, KU.warm hW X.2.1, by rw [hU]; exact HF.moved hW.alike X.2.2.2.2.1.1 X.2.2.2.2.1.2.1 X.2.2.1, by rw [hU]; exact X.2.2.2.1⟩
set_option maxHeartbeats 1000000 in
/-- behind a call: the rest of the run -/
theorem call_go {n d y : Nat} (IH : SND l dC dI cid base L xs n) {as st' cargs crest : List Value} {r r1 : Rs} {σ1 σ' : St} (X : Sx p l s m args meth c R H locs mi dC dI cid base L xs ad lo ls σ) (hmi : mLn mi ∈ mTa ∨ mHn mi = [])
    (hrest : vrs (zn σ) ad st' crest) (hfr : d + 1 + 1 ≤ R.frames) (hlo : 32 * (d + 1) + 30 ≤ R.locals) (hc : cells + (cu σ' - cu σ) ≤ R.cells) (hsl : slots + (su σ' - su σ) ≤ R.slots)
    (g1 : zn σ ≤ zn σ1 ∧ cu σ ≤ cu σ1 ∧ su σ ≤ su σ1) (hx4 : ∀ x, r1 = .inr x → x < 4)
    (h : (match r1 with
      | .inl v => run n (d + 1) mi (pc + 3) lo (v.toList ++ st') σ1
      | .inr E => match hnd (mOw mi) (mHn mi) pc E with
        | some h => run n (d + 1) mi h lo [.retAddr 0] σ1
        | none => some (.inr E, σ1)) = some (r, σ'))
    (hE : EndK p l e R s m args below meth c cells slots Q mi dC dI cid base L xs ad σ r σ')
    (hrun : vx_Run p l e R s m args below meth c H locs cells slots (cu σ1 - cu σ) (su σ1 - su σ) (F0 m pc ls cst) crest (QcS dC dI cid base L xs ad σ r1 σ1 cargs.toArray) (XcS dC dI cid base L xs ad σ r1 σ1) (AA base)) :
    W p l e R s m args below meth c H locs cells slots Q (F0 m pc ls cst) := by
  have h15 := X.2.2.2.1.2.2.1
  intro T hT Xs
  -- what goes on, from a state behind the call
  have go : ∀ (pc' : Nat) (st2 cst2 : List Value) (H1 : Heap) (locs1 : List Loc) (ad' : Nat → Nat), run n (d + 1) mi pc' lo st2 σ1 = some (r, σ') → Wd dC dI cid base L xs ad' σ1 H1 → (∀ k, k < zn σ ∨ KB ≤ k → ad' k = ad k) → va_S (AA base) s.heap H1 locs1 → vrs (zn σ1) ad' st2 cst2 → W p l e R s m args below meth c H1 locs1 (cells + (cu σ1 - cu σ)) (slots + (su σ1 - su σ)) Q (F0 m pc' ls cst2) := by
    intro pc' st2 cst2 H1 locs1 ad' hr hW hext hS hvs
    have g2 := run_grows _ _ _ _ _ _ _ _ _ hr
    refine IH (d + 1) mi pc' lo st2 σ1 r σ' hr hmi p e R s m args below meth c H1 locs1 _ _ Q ad' ls cst2 ⟨X.1, KU.adr (fun k hk => hext k (by omega)) X.2.1, HF.adr (fun k hk => hext k (by omega)) X.2.2.1, hW, hS, X.2.2.2.2.2.1.mono hext g1.1, X.2.2.2.2.2.2⟩ hvs hfr hlo (by omega) (by omega) ⟨?_, ?_⟩
    · intro pc2 lo2 st3 cst3 H' locs' ls' ad2 σ2 e1 e0 e2 e3 e4 e5 e6 e7 e8 e9
      have := hE.1 pc2 lo2 st3 cst3 H' locs' ls' ad2 σ2 e1 e0 e2 (fun k hk => (e3 k (by omega)).trans (hext k hk)) e4 e5 e6 (by omega) (by omega) (by omega)
      rw [show cells + (cu σ1 - cu σ) + (cu σ2 - cu σ1) = cells + (cu σ2 - cu σ) by omega, show slots + (su σ1 - su σ) + (su σ2 - su σ1) = slots + (su σ2 - su σ) by omega]
      exact this
    · intro x pc2 rest q ce H' locs' ls' ad2 e1 e2 e3 e4 e5 e6 e7 e8 e9
      have := hE.2 x pc2 rest q ce H' locs' ls' ad2 e1 e2 e3 e4 (fun k hk => (e5 k (by omega)).trans (hext k hk)) e6 e7 e8 e9
      rw [show cells + (cu σ1 - cu σ) + (cu σ' - cu σ1) = cells + (cu σ' - cu σ) by omega, show slots + (su σ1 - su σ) + (su σ' - su σ1) = slots + (su σ' - su σ) by omega]
      exact this
  rcases hrun T hT Xs with ⟨v, st₀, t, T', Lc, h0, X', hL, e1, e2, hq, hgo⟩ | ⟨q, st₀, t, T', Lc, E, ce, h0, X', hL, e1, e2, hx, hce, hcv, hcl, hst⟩
  · obtain ⟨v1, cv, ad', hr1, hv1, hvr, hext, hWd, hF⟩ := hq
    cases hv1
    subst hr1
    obtain ⟨k1, k2, k3⟩ := vx_keep (A0 := AA base) h0 e1 X.2.2.2.2.1 (fun _ _ h => h) (fun _ h => h) hL hF
    have hvs : vrs (zn σ1) ad' (v1.toList ++ st') (v.toList ++ crest) := by
      have h2 := vrs_mono hext g1.1 hrest
      match v1, v, hvr with
      | none, none, _ => exact h2
      | some a, some b, hvr => exact ⟨hvr, h2⟩
    obtain ⟨t2, a1, b1⟩ := go (pc + 3) _ _ T'.heap (locs ++ Lc) ad' h (by rw [e1]; exact hWd) hext k3 hvs T' rfl X'
    exact ⟨t2, hgo t2 a1, b1⟩
  · obtain ⟨x, ad', hr1, hx, rfl, hext, hWd, hF⟩ := hx
    subst hr1
    obtain ⟨k1, k2, k3⟩ := vx_keep (A0 := AA base) h0 e1 X.2.2.2.2.1 (fun _ _ h => h) (fun _ h => h) hL hF
    have hWd' : Wd dC dI cid base L xs ad' σ1 T'.heap := by rw [e1]; exact hWd
    have hce' : T'.heap[q]? = some ce := by rw [e1]; exact hce
    dsimp only at h
    match hh : hnd (mOw mi) (mHn mi) pc x with
    | none =>
      rw [hh] at h
      cases h
      obtain ⟨t2, a1, b1⟩ := hE.2 x pc crest q ce T'.heap (locs ++ Lc) ls ad' rfl hx hh hWd' hext k3 hce' hcv hcl T' rfl X'
      exact ⟨t2, hst.trans a1, b1⟩
    | some hp =>
      rw [hh] at h
      obtain ⟨pre, z, suf, f1, f2, f3, rfl, f5⟩ := hnd_some hh
      have hk := go z.2.2.1 [.retAddr 0] [.ref q] T'.heap (locs ++ Lc) ad' h hWd' hext k3 ⟨Or.inr ⟨q, rfl⟩, trivial⟩
      have hz0 : z.2.2.2 ≠ 0 := by
        rcases hmi with hmi | hmi
        · exact (mT_hnd _ hmi z (by show z ∈ mHn mi; rw [f1]; simp)).1
        · rw [hmi] at f1
          simp at f1
      have hts : ∀ w ∈ ALLW, w.before args s = true := X.1.2.2.2.2.2.2.2.1
      have hcast : (Cond.castable (zX x) (zX x)).before args s = true := va_Nw.use rfl (X.2.1.2.1 _ (cast_in x hx))
      have hcw : vx_W p l e R s m args below meth c T'.heap (locs ++ Lc) (cells + (cu σ1 - cu σ)) (slots + (su σ1 - su σ)) Q (F0 m pc ls crest) q :=
        vx_catch X.1.2.2.2.2.1 (Jvm.tableOf pre) ⟨z.1, z.2.1, z.2.2.1, z.2.2.2⟩ (Jvm.tableOf suf) (by rw [X.1.2.2.2.2.2.2.1, f1]; simp [Jvm.tableOf]) (pass_ok X.2.1.2.2.2.1 hts hmi hx (fun z hz => by rw [f1]; exact List.mem_append_left _ hz) f5) (by rw [covs_covers]; exact f2) hz0 (hts _ ((lkq_ok f3).1 _ (by simp [lWs]))) hcast hce' hcv hcl hk
      obtain ⟨t2, a1, b1⟩ := hcw T' rfl X'
      exact ⟨t2, hst.trans a1, b1⟩
end S14
