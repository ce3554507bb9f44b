/-! THE CLAIM OUT OF ONE WALK OF THE LAW'S BODY. Your part is whole_start (and what it stands on); all else here is the same for every law, but numbers. -/
def R_law : String := "LineBallsLaw"
def lw_P (b : Addr) (xs : List Int32) (args : Array Value) (s : State) : Prop := args = #[.ref b] ∧ s.IntsAt b xs ∧ xs.length ≤ 3072 ∧ (Jvm.Cond.and given_1 narrow_1).before args s = true
/-- what a walk over the start with the record d0 says of its end, said of the start itself -/
theorem lw_closed {s t : State} {o : Outcome} {d0 : Drawn} {L : List Loc} {k n : Nat} (hd0 : s.drawn.sameBut d0 lw_cs) (hv : ∃ v, o = .returned v) (hW : (s.setDrawn d0).WarmedH t.vm) (hs : (s.setDrawn d0).sameButNew ({ t with vm := s.vm } : State) L k n) : State.butDraws s t lw_cs (fun t1 => Framed s o t1 L k n) := by
  have h2 : t.drawn = d0 := congrArg State.drawn hs.1
  refine ⟨⟨hv, hW, State.sameButNew.setDrawn hs s.drawn⟩, ?_, by decide⟩
  rw [h2]
  exact hd0
def lw_Q (_ : Array Value) (s : State) (o : Outcome) (t : State) : Prop := o = .returned (some (.int 1)) ∧ State.butDraws s t lw_cs (fun t1 => Framed s o t1 [] 601024 7293034)
def lw_Z (below : List Frame) (a : Array Value) (s : State) : State → Prop := fun t => ∃ o, t.status = .running ∧ Ended t below o ∧ lw_Q a s o t
/-- the law's own end, with 1 on the stack, nothing written that was there before, its room as the claim has it; d0: the record of draws at this point (at the entry s.drawn: begin with 'refine W.base ?_' and 'have hd0 := Drawn.sameBut.refl s.drawn lw_cs') -/
theorem lw_ret {p : Program} {l : Launch} {e : Env} {s : State} {m : MethodId} {below : List Frame} {meth : Method} {c : Code} {b : Nat} {d0 : Drawn} (hd0 : s.drawn.sameBut d0 lw_cs) (hx : p.tables.exec = Jvm.exec) (hb : c.code = code) (hr : meth.sig.returnType = ret) (hlocks : meth.locks = false) {pc : Nat} {H : Heap} {ls : Array Slot} (hdg : decode code pc = .ok (.ireturn, 1)) : W p l e room_1 (s.setDrawn d0) m #[Value.ref b] below meth c H [] 601024 7293034 (lw_Z below #[Value.ref b] s) (F0 m pc ls [.int 1]) := by
  intro T hT X
  obtain ⟨fs, hret, hrun, hended, hW, hframe⟩ := X.leave (v := some (.int 1)) (hlocks := hlocks) (fun h => by rw [hr] at h; cases h)
  have hmeth' : T.vm.method? m = some meth := X.method'
  refine ⟨T.setFrames fs, ?_, .returned (some (.int 1)), hrun, hended, rfl, lw_closed hd0 ⟨_, rfl⟩ hW hframe⟩
  jvm_step X.here [X.here.top, hx, hb, hdg, hmeth', hr, ret, narrow_b1]
  (try refine ⟨rfl, ?_⟩); (try refine ⟨rfl, ?_⟩)
  first | (intro acts; rw [hret _ acts rfl rfl rfl]) | rw [hret _ _ rfl rfl rfl]
  exact Steps.refl _
/-- what holds at the law's entry: the machine, the code, the tables' words (any of lw_tbl by 'hts w (by decide +kernel)'), the script of L ints xs at the cell b, what the Statement gives of the start (any of its parts by flat_of_before) -/
def lw_At (p : Program) (s : State) (m : MethodId) (meth : Method) (c : Code) (b L : Nat) (xs : Nat → Int32) : Prop :=
  p.tables.exec = Jvm.exec ∧ c.code = code ∧ meth.sig.returnType = ret ∧ c.maxLocals = 10 ∧ s.vm.findClass R_law = some m.cls ∧ (∀ w ∈ lw_tbl, w.before #[Value.ref b] s = true) ∧ va_X b L xs s s.heap ∧ b < s.heap.size ∧ meth.locks = false ∧ (Jvm.Cond.and given_1 narrow_1).before #[Value.ref b] s = true ∧ c.exceptionTable.isEmpty = true

theorem law_334 : mCd 334 = code ∧ mRt 334 = ret ∧ mMx 334 = 10 ∧ zC (mOw 334) = R_law ∧ mHn 334 = [] ∧ mKd 334 ≠ 2 := ⟨rfl, rfl, rfl, rfl, rfl, by decide⟩
theorem start_of {p : Program} {e : Env} {s : State} {m : MethodId} {below : List Frame} {meth : Method} {c : Code} (l : Launch) (hst : l.stackTraces = false) {b L : Nat} {xs : Nat → Int32} (C0 : lw_At p s m meth c b L xs)
    (hrun : ∃ n σ', run n 2040 334 0 (ent 334 [.ref 0]) [] (z0 L xs) = some (.inl (some (.int 1)), σ') ∧ cu σ' ≤ 601039 ∧ su σ' ≤ 7293034) :
    W p l e room_1 s m #[Value.ref b] below meth c s.heap [] 0 0 (lw_Z below #[Value.ref b] s) (entryFrame m ([Value.ref b] : List Value).toArray 10) := by
  obtain ⟨hx, hb, hr, hml, hown, hts, hX, hbl, hlocks, hgv, hexc⟩ := C0
  obtain ⟨n, σ', hrun, hcu, hsu⟩ := hrun
  obtain ⟨q1, q2, q3, q4, q5, q6⟩ := law_334
  obtain ⟨dC, dI, cid, hK⟩ := ku_K hts
  obtain ⟨ad, had, hHF, hR⟩ := hf_ex hts hgv hX hbl
  have hKU := ku_ex hts hgv hK hR
  have hexc2 : c.exceptionTable.toList = Jvm.tableOf (mHn 334) := by
    rw [q5]
    have : c.exceptionTable = #[] := Array.isEmpty_iff.mp hexc
    rw [this]
    rfl
  have hCx : Cx p l s m #[Value.ref b] meth c 334 := ⟨hx, hb.trans q1.symm, hr.trans q2.symm, hml.trans q3.symm, by rw [q4]; exact hown, hlocks, hexc2, fun w hw => hts w (ALLW_lw w hw), fun h => absurd h q6, hst⟩
  have hWd : Wd dC dI cid s.heap.size L xs ad (z0 L xs) s.heap := by
    refine ⟨fun k q hq => ?_, ⟨fun i j p q hp => ?_, fun k q hq => ?_⟩, z0_wf L xs⟩
    · cases hq
    · cases hp
    · cases hq
  have hv : vrs (zn (z0 L xs)) ad [Value.ref 0] [Value.ref b] := ⟨⟨(show 0 < 15 by decide), by rw [had]⟩, trivial⟩
  have e3 : entryFrame m ([Value.ref b] : List Value).toArray 10 = entryFrame m ([Value.ref b] : List Value).toArray (mMx 334) := rfl
  rw [e3, lg_entry_eq]
  refine snd_all l dC dI cid s.heap.size L xs n 2040 334 0 (ent 334 [.ref 0]) [] (z0 L xs) _ σ' hrun (Or.inr q5) p e room_1 s m #[Value.ref b] below meth c s.heap [] 0 0 _ ad _ [] ⟨hCx, hKU, hHF, hWd, va_S.rf, LR_entry hv (by decide), by decide, by decide⟩ trivial (by decide) (by decide) ?_ ?_ ⟨?_, ?_⟩
  · show 0 + (cu σ' - 15) ≤ 601024
    omega
  · show 0 + (su σ' - 0) ≤ 7293034
    omega
  · intro pc' lo' st' cst' H' locs' ls' ad' σ2 hs hWd2 hext hS hL hvs hn hc1 hs1
    have h1 : su σ2 ≤ su σ' ∧ cu σ2 ≤ cu σ' := by
      rcases stp_done hs with ⟨rfl, -⟩ | ⟨-, ik, ic, E, b0, h, -⟩
      · exact ⟨Nat.le_refl _, Nat.le_refl _⟩
      · cases h
    have hc15 : cu (z0 L xs) = 15 := rfl
    have hs0 : su (z0 L xs) = 0 := rfl
    refine va_forget (fun q hq => hS.2.2 q hq) ?_
    refine W.widen (k := 601024) (n := 7293034) (by omega) (by omega) ?_
    rcases stp_done hs with ⟨-, hr2⟩ | ⟨-, ik, ic, E, b0, h, -⟩
    · rcases hr2 with ⟨x, ty, dd, rfl, hty, hnar, h⟩ | ⟨x, dd, rfl, hty, h⟩ | ⟨x, dd, rfl, hty, h⟩ | ⟨x, dd, rfl, hty, h⟩ | ⟨v, nm, dd, rfl, hv1, hty, h⟩ | ⟨dd, rfl, hty, h⟩
      · cases h
        obtain ⟨cs, rfl, h2⟩ := vrs_int hvs
        rw [vrs_nil h2]
        exact lw_ret (d0 := s.drawn) (Drawn.sameBut.refl s.drawn lw_cs) hx hb hr hlocks dd
      · cases h
      · cases h
      · cases h
      · cases h; rcases hv1 with h | ⟨a, h⟩ <;> cases h
      · cases h
    · cases h
  · intro x pc2 rest q ce H' locs' ls' ad' e1
    cases e1
