/-! THE CLAIM OUT OF ONE WALK OF THE LAW'S BODY. Your part is whole_start (and what it stands on); all else here is the same for every law, but numbers. -/
def R_law : String := "LineBallsLaw"
def lw_P (b : Addr) (xs : List Int32) (args : Array Value) (s : State) : Prop := args = #[.ref b] ∧ s.IntsAt b xs ∧ xs.length ≤ 260 ∧ (Jvm.Cond.and given_1 narrow_1).before args s = true
def lw_Q (_ : Array Value) (s : State) (o : Outcome) (t : State) : Prop := o = .returned (some (.int 1)) ∧ Framed s o t [] 600086 7301442
def lw_Z (below : List Frame) (a : Array Value) (s : State) : State → Prop := fun t => ∃ o, t.status = .running ∧ Ended t below o ∧ lw_Q a s o t
/-- the law's own end, with 1 on the stack, nothing written that was there before, its room as the claim has it -/
theorem lw_ret {p : Program} {l : Launch} {e : Env} {s : State} {m : MethodId} {below : List Frame} {meth : Method} {c : Code} {b : Nat} (hx : p.tables.exec = Jvm.exec) (hb : c.code = code) (hr : meth.sig.returnType = ret) (hlocks : meth.locks = false) {pc : Nat} {H : Heap} {ls : Array Slot} (hdg : decode code pc = .ok (.ireturn, 1)) : W p l e room_1 s m #[Value.ref b] below meth c H [] 600086 7301442 (lw_Z below #[Value.ref b] s) (F0 m pc ls [.int 1]) := by
  intro T hT X
  obtain ⟨fs, hret, hrun, hended, hW, hframe⟩ := X.leave (v := some (.int 1)) (hlocks := hlocks) (fun h => by rw [hr] at h; cases h)
  have hmeth' : T.vm.method? m = some meth := X.method'
  refine ⟨T.setFrames fs, ?_, .returned (some (.int 1)), hrun, hended, rfl, ⟨_, rfl⟩, hW, hframe⟩
  jvm_step X.here [X.here.top, hx, hb, hdg, hmeth', hr, ret, narrow_b1]
  (try refine ⟨rfl, ?_⟩); (try refine ⟨rfl, ?_⟩)
  first | (intro acts; rw [hret _ acts rfl rfl rfl]) | rw [hret _ _ rfl rfl rfl]
  exact Steps.refl _
/-- what holds at the law's entry: the machine, the code, the tables' words (any of lw_tbl by 'hts w (by decide +kernel)'), the script of L ints xs at the cell b, what the Statement gives of the start (any of its parts by flat_of_before) -/
def lw_At (p : Program) (s : State) (m : MethodId) (meth : Method) (c : Code) (b L : Nat) (xs : Nat → Int32) : Prop :=
  p.tables.exec = Jvm.exec ∧ c.code = code ∧ meth.sig.returnType = ret ∧ c.maxLocals = 12 ∧ s.vm.findClass R_law = some m.cls ∧ (∀ w ∈ lw_tbl, w.before #[Value.ref b] s = true) ∧ va_X b L xs s s.heap ∧ b < s.heap.size ∧ meth.locks = false ∧ (Jvm.Cond.and given_1 narrow_1).before #[Value.ref b] s = true ∧ c.exceptionTable.isEmpty = true
theorem law_195 : mCd 195 = code ∧ mRt 195 = ret ∧ mMx 195 = 12 ∧ zC (mOw 195) = R_law ∧ mHn 195 = [] ∧ mKd 195 ≠ 2 := ⟨rfl, rfl, rfl, rfl, rfl, by decide⟩
theorem start_of {p : Program} {e : Env} {s : State} {m : MethodId} {below : List Frame} {meth : Method} {c : Code} (l : Launch) (hst : l.stackTraces = false) {b L : Nat} {xs : Nat → Int32} (C0 : lw_At p s m meth c b L xs)
    (hrun : ∃ n σ', run n 15 195 0 (ent 195 [.ref 0]) [] (z0 L xs) = some (.inl (some (.int 1)), σ') ∧ cu σ' ≤ 600101 ∧ su σ' ≤ 7301442) :
    W p l e room_1 s m #[Value.ref b] below meth c s.heap [] 0 0 (lw_Z below #[Value.ref b] s) (entryFrame m ([Value.ref b] : List Value).toArray 12) := by
  obtain ⟨hx, hb, hr, hml, hown, hts, hX, hbl, hlocks, hgv, hexc⟩ := C0
  obtain ⟨n, σ', hrun, hcu, hsu⟩ := hrun
  obtain ⟨q1, q2, q3, q4, q5, q6⟩ := law_195
  obtain ⟨dC, dI, cid, hK, hBc⟩ := ku_K hts
  obtain ⟨ad, had, hHF, hR, hR2⟩ := hf_ex hts hgv hX hbl
  have hKU := ku_ex hts hgv hK hR hR2 hBc
  have hexc2 : c.exceptionTable.toList = Jvm.tableOf (mHn 195) := by
    rw [q5]
    have : c.exceptionTable = #[] := Array.isEmpty_iff.mp hexc
    rw [this]
    rfl
  have hCx : Cx p l s m #[Value.ref b] meth c 195 := ⟨hx, hb.trans q1.symm, hr.trans q2.symm, hml.trans q3.symm, by rw [q4]; exact hown, hlocks, hexc2, fun w hw => hts2 hts w (ALLW_lw w hw), fun h => absurd h q6, hst⟩
  have hWd : Wd dC dI cid s.heap.size L xs ad (z0 L xs) s.heap := by
    refine ⟨fun k q hq => ?_, ⟨fun i j p q hp => ?_, fun k q hq => ?_⟩, z0_wf L xs⟩
    · cases hq
    · cases hp
    · cases hq
  have hv : vrs (zn (z0 L xs)) ad [Value.ref 0] [Value.ref b] := ⟨⟨(show 0 < 15 by decide), by rw [had]⟩, trivial⟩
  have e3 : entryFrame m ([Value.ref b] : List Value).toArray 12 = entryFrame m ([Value.ref b] : List Value).toArray (mMx 195) := rfl
  rw [e3, lg_entry_eq]
  refine snd_all l dC dI cid s.heap.size L xs n 15 195 0 (ent 195 [.ref 0]) [] (z0 L xs) _ σ' hrun (Or.inr q5) p e room_1 s m #[Value.ref b] below meth c s.heap [] 0 0 _ ad _ [] ⟨hCx, hKU, hHF, hWd, va_S.rf, LR_entry hv (by decide), by decide, by decide⟩ trivial (by decide) (by decide) ?_ ?_ ⟨?_, ?_⟩
  · show 0 + (cu σ' - 15) ≤ 600086
    omega
  · show 0 + (su σ' - 0) ≤ 7301442
    omega
  · intro pc' lo' st' cst' H' locs' ls' ad' σ2 hs he0 hWd2 hext hS hL hvs hn hc1 hs1
    have h1 : su σ2 ≤ su σ' ∧ cu σ2 ≤ cu σ' := by
      rcases stp_done hs with ⟨rfl, -⟩ | ⟨-, ik, ic, E, b0, h, -⟩
      · exact ⟨Nat.le_refl _, Nat.le_refl _⟩
      · cases h
    have hc15 : cu (z0 L xs) = 15 := rfl
    have hs0 : su (z0 L xs) = 0 := rfl
    refine va_forget (fun q hq => hS.2.2 q hq) ?_
    refine W.widen (k := 600086) (n := 7301442) (by omega) (by omega) ?_
    rcases stp_done hs with ⟨-, hr2⟩ | ⟨-, ik, ic, E, b0, h, -⟩
    · rcases hr2 with ⟨x, ty, dd, rfl, hty, hnar, h⟩ | ⟨x, dd, rfl, hty, h⟩ | ⟨v, nm, dd, rfl, hv1, hty, hk, h⟩ | ⟨dd, rfl, hty, h⟩
      · cases h
        obtain ⟨cs, rfl, h2⟩ := vrs_int hvs
        rw [vrs_nil h2]
        exact lw_ret hx hb hr hlocks dd
      · cases h
      · cases h; rcases hv1 with h | ⟨a, h⟩ <;> cases h
      · cases h
    · cases h
  · intro x pc2 rest q ce H' locs' ls' ad' e1
    cases e1

/-- all that is left: the law's own run, on every script -/
def LawRun : Prop := ∀ (L : Nat) (xs : Nat → Int32), L ≤ 260 → Wp 15 195 0 (ent 195 [.ref 0]) [] (z0 L xs) (fun r σ => r = .inl (some (.int 1)) ∧ cu σ ≤ 600101 ∧ su σ ≤ 7301442)
theorem whole_start (HR : LawRun) {p : Program} {e : Env} {s : State} {m : MethodId} {below : List Frame} {meth : Method} {c : Code} (l : Launch) (hflags : l.flags = flags0) {b L : Nat} {xs : Nat → Int32} (hL : L ≤ 260) (C0 : lw_At p s m meth c b L xs) :
    W p l e room_1 s m #[Value.ref b] below meth c s.heap [] 0 0 (lw_Z below #[Value.ref b] s) (entryFrame m ([Value.ref b] : List Value).toArray 12) := by
  obtain ⟨n, r, σ', h1, rfl, h2, h3⟩ := HR L xs hL
  have hst : l.stackTraces = false := by
    unfold Launch.stackTraces
    rw [hflags]
    decide
  exact start_of l hst C0 ⟨n, σ', h1, h2, h3⟩
