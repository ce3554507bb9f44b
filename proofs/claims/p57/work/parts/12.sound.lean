/-! SOUNDNESS of the interpreter -/
theorem hnd_some {own : Nat} : ∀ {hs : List (Nat × Nat × Nat × Nat)} {pc E h : Nat}, hnd own hs pc E = some h → ∃ pre q suf, hs = pre ++ q :: suf ∧ covs q pc = true ∧ lkq own q.2.2.2 = some (6, E, 0) ∧ h = q.2.2.1 ∧ ∀ z ∈ pre, covs z pc = false ∨ lkq own z.2.2.2 ≠ some (6, E, 0)
  | [], _, _, _, h => by cases h
  | q :: hs, pc, E, h0, h => by
    unfold hnd at h
    by_cases hq : covs q pc = true ∧ lkq own q.2.2.2 = some (6, E, 0)
    · rw [if_pos hq] at h
      cases h
      exact ⟨[], q, hs, rfl, hq.1, hq.2, rfl, fun z hz => by cases hz⟩
    · rw [if_neg hq] at h
      obtain ⟨pre, q', suf, e1, e2, e3, e4, e5⟩ := hnd_some h
      refine ⟨q :: pre, q', suf, by rw [e1]; rfl, e2, e3, e4, fun z hz => ?_⟩
      rcases List.mem_cons.mp hz with rfl | hz
      · cases hc : covs z pc with
        | false => exact Or.inl rfl
        | true => exact Or.inr fun g => hq ⟨hc, g⟩
      · exact e5 z hz
theorem hnd_none {own : Nat} : ∀ {hs : List (Nat × Nat × Nat × Nat)} {pc E : Nat}, hnd own hs pc E = none → ∀ z ∈ hs, covs z pc = false ∨ lkq own z.2.2.2 ≠ some (6, E, 0)
  | [], _, _, _ => fun z hz => by cases hz
  | q :: hs, pc, E, h => by
    unfold hnd at h
    by_cases hq : covs q pc = true ∧ lkq own q.2.2.2 = some (6, E, 0)
    · rw [if_pos hq] at h
      cases h
    · rw [if_neg hq] at h
      intro z hz
      rcases List.mem_cons.mp hz with rfl | hz
      · cases hc : covs z pc with
        | false => exact Or.inl rfl
        | true => exact Or.inr fun g => hq ⟨hc, g⟩
      · exact hnd_none h z hz
theorem covs_covers (q : Nat × Nat × Nat × Nat) (pc : Nat) : covers ⟨q.1, q.2.1, q.2.2.1, q.2.2.2⟩ pc = covs q pc := by
  first | rfl | simp [covers, covs]
/-- an exception's row that does not take it -/
theorem pass_ok {s : State} {args : Array Value} {mi x pc : Nat} (hNC : ∀ q ∈ NCP, va_Nc q.1 q.2 s) (hts : ∀ w ∈ ALLW, w.before args s = true) (hmi : mLn mi ∈ mTa ∨ mHn mi = []) (hx : x < 4) {pre : List (Nat × Nat × Nat × Nat)} (hp : ∀ z ∈ pre, z ∈ mHn mi) (h : ∀ z ∈ pre, covs z pc = false ∨ lkq (mOw mi) z.2.2.2 ≠ some (6, x, 0)) :
    ∀ z ∈ Jvm.tableOf pre, covers z pc = false ∨ (z.catchType ≠ 0 ∧ ∃ nm : String, (Cond.classLink (zC (mOw mi)) z.catchType nm).before args s = true ∧ va_Nc (zX x) nm s) := by
  intro z hz
  obtain ⟨q, hq, rfl⟩ := List.mem_map.mp hz
  rcases h q hq with h1 | h1
  · exact Or.inl (by rw [covs_covers]; exact h1)
  · rcases hmi with hmi | hmi
    · obtain ⟨g1, g3⟩ := mT_hnd _ hmi q (hp q hq)
      refine Or.inr ⟨g1, zX 0, hts _ ((lkq_ok (own := mOw mi) g3).1 _ (by simp [lWs])), ?_⟩
      rcases NCP_in x hx with h2 | h2
      · subst h2; exact absurd g3 h1
      · exact hNC _ h2
    · have := hp q hq
      rw [hmi] at this
      cases this
/-- how a method's code ends, in the interpreter -/
theorem stp_done {mi pc : Nat} {lo : Lo} {st : List Value} {σ σ' : St} {r : Rs} (h : stp mi pc lo st σ = some (.inr (.inl (r, σ')))) :
    (σ' = σ ∧ ((∃ x ty, decode (mCd mi) pc = .ok (.ireturn, 1) ∧ st = [.int x] ∧ mRt mi = some ty ∧ narrow ty (.int x) = .int x ∧ r = .inl (some (.int x))) ∨
      (∃ x, decode (mCd mi) pc = .ok (.lreturn, 1) ∧ st = [.long x] ∧ mRt mi = some .long ∧ r = .inl (some (.long x))) ∨
      (∃ v ty, decode (mCd mi) pc = .ok (.areturn, 1) ∧ st = [v] ∧ (v = .null ∨ ∃ a, v = .ref a) ∧ mRt mi = some ty ∧ ((∃ nm, ty = .object nm) ∨ ∃ t, ty = .array t) ∧ r = .inl (some v)) ∨
      (decode (mCd mi) pc = .ok (.return_, 1) ∧ st = [] ∧ mRt mi = none ∧ r = .inl none))) ∨
    (σ' = zThrow σ ∧ ∃ ik ic E b, r = .inr E ∧ decode (mCd mi) pc = .ok (.new ik, 3) ∧ lkq (mOw mi) ik = some (6, E, b) ∧ decode (mCd mi) (pc + 3) = .ok (.dup, 1) ∧ decode (mCd mi) (pc + 4) = .ok (.invokespecial ic, 3) ∧ decode (mCd mi) (pc + 7) = .ok (.athrow, 1) ∧ mOw mi = 8 ∧ lkq 8 ic = some (4, E, 0) ∧ mHn mi = [] ∧ cats st ≤ 8) := by
  have nld : ∀ k i pc', zld k i pc' lo st σ ≠ some (.inr (.inl (r, σ'))) := by
    intro k i pc' h
    unfold zld nx at h
    (repeat' split at h) <;> cases h
  have nst : ∀ k i pc', zst k i pc' lo st σ ≠ some (.inr (.inl (r, σ'))) := by
    intro k i pc' h
    unfold zst nx at h
    (repeat' split at h) <;> cases h
  have nst2 : ∀ k i pc', zst2 k i pc' lo st σ ≠ some (.inr (.inl (r, σ'))) := by
    intro k i pc' h
    unfold zst2 nx at h
    (repeat' split at h) <;> cases h
  have ntg : ∀ off st', tgo pc off lo st' σ ≠ some (.inr (.inl (r, σ'))) := by
    intro off st' h
    unfold tgo nx at h
    (repeat' split at h) <;> cases h
  have ntb : ∀ off b st', tbr pc off b lo st' σ ≠ some (.inr (.inl (r, σ'))) := by
    intro off b st' h
    unfold tbr nx at h
    (repeat' split at h) <;> cases h
  have nzc : ∀ kd y, zcall kd y st σ ≠ some (.inr (.inl (r, σ'))) := by
    intro kd y h
    unfold zcall at h
    (repeat' split at h) <;> cases h
  unfold stp at h
  split at h
  · rename_i i len hd
    split at h
    · exfalso
      simp only [zins] at h
      (repeat' split at h) <;> first | exact (ntg _ _ h).elim | cases h
    · split at h
      · rename_i hl
        subst hl
        cases i
        case ireturn =>
          simp only [zins] at h
          split at h
          · rename_i x ty hty
            split at h
            · rename_i hq
              cases h
              exact Or.inl ⟨rfl, Or.inl ⟨x, ty, hd, rfl, hty, by rcases hq with hq | hq <;> exact hq.1, rfl⟩⟩
            · cases h
          · cases h
        case lreturn =>
          simp only [zins] at h
          split at h
          · rename_i x hty
            cases h
            exact Or.inl ⟨rfl, Or.inr (Or.inl ⟨x, hd, rfl, hty, rfl⟩)⟩
          · cases h
        case areturn =>
          simp only [zins] at h
          split at h
          · rename_i a nm hty
            cases h
            exact Or.inl ⟨rfl, Or.inr (Or.inr (Or.inl ⟨_, _, hd, rfl, Or.inr ⟨a, rfl⟩, hty, Or.inl ⟨nm, rfl⟩, rfl⟩))⟩
          · rename_i a nm hty
            cases h
            exact Or.inl ⟨rfl, Or.inr (Or.inr (Or.inl ⟨_, _, hd, rfl, Or.inr ⟨a, rfl⟩, hty, Or.inr ⟨nm, rfl⟩, rfl⟩))⟩
          · rename_i nm hty
            cases h
            exact Or.inl ⟨rfl, Or.inr (Or.inr (Or.inl ⟨_, _, hd, rfl, Or.inl rfl, hty, Or.inl ⟨nm, rfl⟩, rfl⟩))⟩
          · cases h
        case return_ =>
          simp only [zins] at h
          split at h
          · rename_i hty
            cases h
            exact Or.inl ⟨rfl, Or.inr (Or.inr (Or.inr ⟨hd, rfl, hty, rfl⟩))⟩
          · cases h
        case new ik =>
          simp only [zins] at h
          split at h
          · split at h <;> cases h
          · rename_i E b heq
            unfold zthrow at h
            split at h
            · rename_i ic h3 h4 h7
              split at h
              · rename_i hq
                cases h
                exact Or.inr ⟨rfl, _, ic, E, b, rfl, hd, heq, h3, h4, h7, hq.1, hq.2.1, hq.2.2.1, hq.2.2.2⟩
              · cases h
            · cases h
          · cases h
        all_goals (exfalso; simp only [zins, reduceCtorEq] at h)
        all_goals (first | (cases h; done) | exact nld _ _ _ h | exact nst _ _ _ h | exact nst2 _ _ _ h | exact ntg _ _ h | ((repeat' split at h) <;> first | (cases h; done) | exact ntg _ _ h | exact ntb _ _ _ h | exact nzc _ _ h))
      · cases h
  · cases h
