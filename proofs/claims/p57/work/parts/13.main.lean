/-! SOUNDNESS, whole: what the interpreter answers the machine answers -/
def rmd (d mc ms : Nat) : Room := { frames := d + 1, cells := mc, slots := ms, locals := 32 * d + 30 }
def vrO (n : Nat) (ad : Nat → Nat) (v c : Option Value) : Prop := match v, c with
  | none, none => True
  | some a, some b => vr n ad a b
  | _, _ => False
def PcS (dC : Nat → ClassId) (dI : Nat → Nat → Nat) (cid : Nat → ClassId) (base L : Nat) (xs : Nat → Int32) (ad : Nat → Nat) (σ : St) : State → Prop := fun U => KU dC dI cid ad U ∧ HF base L xs ad U U.heap ∧ Wd dC dI cid base L xs ad σ U.heap
def QcS (dC : Nat → ClassId) (dI : Nat → Nat → Nat) (cid : Nat → ClassId) (base L : Nat) (xs : Nat → Int32) (ad : Nat → Nat) (σ : St) (r : Rs) (σ' : St) : Array Value → State → Outcome → State → Prop := fun _ st o t =>
  ∃ (v cv : Option Value) (ad' : Nat → Nat), r = .inl v ∧ o = .returned cv ∧ vrO (zn σ') ad' v cv ∧ (∀ k, k < zn σ ∨ KB ≤ k → ad' k = ad k) ∧ Wd dC dI cid base L xs ad' σ' t.heap ∧ va_F (AA base) st t
def XcS (dC : Nat → ClassId) (dI : Nat → Nat → Nat) (cid : Nat → ClassId) (base L : Nat) (xs : Nat → Int32) (ad : Nat → Nat) (σ : St) (r : Rs) (σ' : St) : String → State → State → Prop := fun E st t =>
  ∃ (x : Nat) (ad' : Nat → Nat), r = .inr x ∧ x < 4 ∧ E = zX x ∧ (∀ k, k < zn σ ∨ KB ≤ k → ad' k = ad k) ∧ Wd dC dI cid base L xs ad' σ' t.heap ∧ va_F (AA base) st t
/-- what is asked at the ends of a run -/
def EndK (p : Program) (l : Launch) (e : Env) (R : Room) (s : State) (m : MethodId) (args : Array Value) (below : List Frame) (meth : Method) (c : Code) (cells slots : Nat) (Q : State → Prop) (mi : Nat) (dC : Nat → ClassId) (dI : Nat → Nat → Nat) (cid : Nat → ClassId) (base L : Nat) (xs : Nat → Int32) (ad : Nat → Nat) (σ : St) (r : Rs) (σ' : St) : Prop :=
  (∀ (pc' : Nat) (lo' : Lo) (st' cst' : List Value) (H' : Heap) (locs' : List Loc) (ls' : Array Slot) (ad' : Nat → Nat) (σ2 : St), stp mi pc' lo' st' σ2 = some (.inr (.inl (r, σ'))) → ((∃ x, r = .inr x) → 5 + 1 ≤ R.frames ∧ 32 * 5 + 30 ≤ R.locals) → Wd dC dI cid base L xs ad' σ2 H' → (∀ k, k < zn σ ∨ KB ≤ k → ad' k = ad k) → va_S (AA base) s.heap H' locs' → LR (zn σ2) ad' lo' ls' (mMx mi) → vrs (zn σ2) ad' st' cst' →
    zn σ ≤ zn σ2 → cu σ ≤ cu σ2 → su σ ≤ su σ2 → W p l e R s m args below meth c H' locs' (cells + (cu σ2 - cu σ)) (slots + (su σ2 - su σ)) Q (F0 m pc' ls' cst')) ∧
  (∀ (x pc' : Nat) (rest : List Value) (q : Addr) (ce : Cell) (H' : Heap) (locs' : List Loc) (ls' : Array Slot) (ad' : Nat → Nat), r = .inr x → x < 4 → hnd (mOw mi) (mHn mi) pc' x = none → Wd dC dI cid base L xs ad' σ' H' → (∀ k, k < zn σ ∨ KB ≤ k → ad' k = ad k) → va_S (AA base) s.heap H' locs' → H'[q]? = some ce → ce.vm = .none → s.vm.findClass (zX x) = some ce.cls →
    vx_W p l e R s m args below meth c H' locs' (cells + (cu σ' - cu σ)) (slots + (su σ' - su σ)) Q (F0 m pc' ls' rest) q)
def SND (l : Launch) (dC : Nat → ClassId) (dI : Nat → Nat → Nat) (cid : Nat → ClassId) (base L : Nat) (xs : Nat → Int32) (n : Nat) : Prop :=
  ∀ (d mi pc : Nat) (lo : Lo) (st : List Value) (σ : St) (r : Rs) (σ' : St), run n d mi pc lo st σ = some (r, σ') → (mLn mi ∈ mTa ∨ mHn mi = []) →
  ∀ (p : Program) (e : Env) (R : Room) (s : State) (m : MethodId) (args : Array Value) (below : List Frame) (meth : Method) (c : Code) (H : Heap) (locs : List Loc) (cells slots : Nat) (Q : State → Prop) (ad : Nat → Nat) (ls : Array Slot) (cst : List Value),
    Sx p l s m args meth c R H locs mi dC dI cid base L xs ad lo ls σ → vrs (zn σ) ad st cst → d + 1 ≤ R.frames → 32 * d + 30 ≤ R.locals → cells + (cu σ' - cu σ) ≤ R.cells → slots + (su σ' - su σ) ≤ R.slots →
    EndK p l e R s m args below meth c cells slots Q mi dC dI cid base L xs ad σ r σ' → W p l e R s m args below meth c H locs cells slots Q (F0 m pc ls cst)
theorem done_eq {d : Nat} {q : Rs × St} {r : Rs} {σ' : St} (h : (match q.1 with
      | .inl _ => some q
      | .inr _ => if 5 ≤ d then some q else none) = some (r, σ')) : q = (r, σ') := by
  split at h
  · exact Option.some.inj h
  · split at h
    · exact Option.some.inj h
    · cases h
theorem done_d {d : Nat} {q : Rs × St} {r : Rs} {σ' : St} (h : (match q.1 with
      | .inl _ => some q
      | .inr _ => if 5 ≤ d then some q else none) = some (r, σ')) : (∃ x, r = .inr x) → 5 ≤ d := by
  have e := done_eq h
  subst e
  rintro ⟨x, rfl⟩
  by_cases h5 : 5 ≤ d
  · exact h5
  · simp only [h5, if_false] at h
    cases h
theorem run_grows : ∀ (n d mi pc : Nat) (lo : Lo) (st : List Value) (σ : St) (r : Rs) (σ' : St), run n d mi pc lo st σ = some (r, σ') → zn σ ≤ zn σ' ∧ cu σ ≤ cu σ' ∧ su σ ≤ su σ' := by
  intro n
  induction n with
  | zero => intro d mi pc lo st σ r σ' h; simp [run] at h
  | succ n ih =>
    intro d mi pc lo st σ r σ' h
    rw [run] at h
    match hs : stp mi pc lo st σ with
    | none => rw [hs] at h; cases h
    | some (.inl (pc', lo', st', σ1)) =>
      rw [hs] at h
      have h1 := stp_grows hs
      have h2 := ih _ _ _ _ _ _ _ _ h
      omega
    | some (.inr (.inl q)) =>
      rw [hs] at h
      have h := done_eq h
      subst h
      rcases stp_done hs with ⟨h1, -⟩ | ⟨h1, -⟩
      · rw [h1]; exact ⟨Nat.le_refl _, Nat.le_refl _, Nat.le_refl _⟩
      · rw [h1]
        exact ⟨Nat.le_refl _, by show zn σ + zt σ ≤ zn σ + (zt σ + 1); omega, by show zs σ + 6 * zt σ ≤ zs σ + 6 * (zt σ + 1); omega⟩
    | some (.inr (.inr (y, as, st'))) =>
      rw [hs] at h
      match d, h with
      | 0, h => cases h
      | d' + 1, h =>
        dsimp only at h
        match hc : run n d' y 0 (ent y as) [] σ with
        | none => rw [hc] at h; cases h
        | some (.inl v, σ1) =>
          rw [hc] at h
          have h1 := ih _ _ _ _ _ _ _ _ hc
          have h2 := ih _ _ _ _ _ _ _ _ h
          omega
        | some (.inr E, σ1) =>
          rw [hc] at h
          dsimp only at h
          have h1 := ih _ _ _ _ _ _ _ _ hc
          match hh : hnd (mOw mi) (mHn mi) pc E with
          | none => rw [hh] at h; cases h; exact h1
          | some q =>
            rw [hh] at h
            have h2 := ih _ _ _ _ _ _ _ _ h
            omega
theorem run_x4 : ∀ (n d mi pc : Nat) (lo : Lo) (st : List Value) (σ : St) (x : Nat) (σ' : St), run n d mi pc lo st σ = some (.inr x, σ') → x < 4 := by
  intro n
  induction n with
  | zero => intro d mi pc lo st σ x σ' h; simp [run] at h
  | succ n ih =>
    intro d mi pc lo st σ x σ' h
    rw [run] at h
    match hs : stp mi pc lo st σ with
    | none => rw [hs] at h; cases h
    | some (.inl (pc', lo', st', σ1)) => rw [hs] at h; exact ih _ _ _ _ _ _ _ _ h
    | some (.inr (.inl q)) =>
      rw [hs] at h
      have h := done_eq h
      subst h
      rcases stp_done hs with ⟨-, h1⟩ | ⟨-, ik, ic, E, b, h1, -, h2, -⟩
      · rcases h1 with ⟨_, _, -, -, -, -, h⟩ | ⟨_, -, -, -, h⟩ | ⟨_, _, -, -, -, -, -, h⟩ | ⟨-, -, -, h⟩ <;> cases h
      · cases h1
        simpa [lSg] using (lkq_ok h2).2
    | some (.inr (.inr (y, as, st'))) =>
      rw [hs] at h
      match d, h with
      | 0, h => cases h
      | d' + 1, h =>
        dsimp only at h
        match hc : run n d' y 0 (ent y as) [] σ with
        | none => rw [hc] at h; cases h
        | some (.inl v, σ1) => rw [hc] at h; exact ih _ _ _ _ _ _ _ _ h
        | some (.inr E, σ1) =>
          rw [hc] at h
          dsimp only at h
          match hh : hnd (mOw mi) (mHn mi) pc E with
          | none => rw [hh] at h; cases h; exact ih _ _ _ _ _ _ _ _ hc
          | some q => rw [hh] at h; exact ih _ _ _ _ _ _ _ _ h
section S13
variable {l : Launch} {dC : Nat → ClassId} {dI : Nat → Nat → Nat} {cid : Nat → ClassId} {base L : Nat} {xs : Nat → Int32}
theorem Wd.kept {ad : Nat → Nat} {σ : St} {H H1 : Heap} (h : Wd dC dI cid base L xs ad σ H) (hk : ∀ q : Nat, q < H.size → H1[q]? = H[q]?) : Wd dC dI cid base L xs ad σ H1 :=
  ⟨h.1.kept fun k q hq => hk q.1 (h.1 k q hq).lt, h.2.1, h.2.2⟩
theorem Wd.thr {ad : Nat → Nat} {σ : St} {H : Heap} (h : Wd dC dI cid base L xs ad σ H) : Wd dC dI cid base L xs ad (zThrow σ) H := h
set_option maxHeartbeats 2000000 in
/-- a method's contract, out of the body's soundness -/
theorem met_of_snd {n : Nat} (IH : SND l dC dI cid base L xs n) (hst : l.stackTraces = false) {d y : Nat} (hy : y < 195) {as cargs : List Value} {σ σ' : St} {r : Rs} (h : run n d y 0 (ent y as) [] σ = some (r, σ')) (hent : (entA as).length ≤ mMx y) {ad : Nat → Nat} (hv : vrs (zn σ) ad as cargs) :
    vx_Met l (mLn y).1 (mWd (mLn y) :: ALLW) (rmd d (cu σ' - cu σ) (su σ' - su σ)) (va_Pc cargs (PcS dC dI cid base L xs ad σ)) (QcS dC dI cid base L xs ad σ r σ') (XcS dC dI cid base L xs ad σ r σ') (cu σ' - cu σ) (su σ' - su σ) (AA base) := by
  obtain ⟨hW, hsg⟩ := mLn_ok hy
  simp only [mSg, Bool.and_eq_true, decide_eq_true_eq] at hsg
  obtain ⟨⟨⟨⟨⟨⟨g1, g2⟩, g3⟩, g4⟩, g5⟩, g6⟩, g7⟩ := hsg
  have hgr := run_grows _ _ _ _ _ _ _ _ _ h
  have body : ∀ (p : Program) (e : Env) (s : State) (m : MethodId) (args : Array Value) (below : List Frame) (meth : Method) (c : Code) (s₁ : State), BodyLoose p l (mLn y).1 (headSpec (mWd (mLn y) :: ALLW) (rmd d (cu σ' - cu σ) (su σ' - su σ))) (mCd y) (mMx y) (mRt y) e s m args below meth c s₁ → c.maxLocals = mMx y → c.exceptionTable.toList = Jvm.tableOf (mHn y) → va_Pc cargs (PcS dC dI cid base L xs ad σ) args s →
      W p l e (headSpec (mWd (mLn y) :: ALLW) (rmd d (cu σ' - cu σ) (su σ' - su σ))).room s m args below meth c s.heap [] 0 0 (vx_MQ below (QcS dC dI cid base L xs ad σ r σ') (XcS dC dI cid base L xs ad σ r σ') args s (cu σ' - cu σ) (su σ' - su σ) (AA base)) (entryFrame m args (mMx y)) := by
    intro p e s m args below meth c s₁ B hml htb hP
    obtain ⟨rfl, hKU, hHF, hWd⟩ := hP
    have hts := atoms_spec (ws := mWd (mLn y) :: ALLW) B.pre
    have hts2 : ∀ w ∈ ALLW, w.before cargs.toArray s = true := fun w hw => hts w (List.mem_cons_of_mem _ hw)
    have hown : s.vm.findClass (zC (mOw y)) = some m.cls := by
      have := findClass_of_methodNamed B.named
      rw [g5] at this
      exact this
    have hlocks := B.notSynchronized
    have hCx : Cx p l s m cargs.toArray meth c y := ⟨B.exec, B.bytes, B.returns, hml, hown, hlocks, htb, hts2, fun hk => by rw [(name_of_methodNamed B.named B.method).1]; exact g6 hk, hst⟩
    rw [lg_entry_eq]
    refine IH d y 0 (ent y as) [] σ r σ' h (Or.inl (mLn_in hy)) p e _ s m cargs.toArray below meth c s.heap [] 0 0 _ ad _ [] ⟨hCx, hKU, hHF, hWd, va_S.rf, LR_entry hv hent, ?_, ?_⟩ trivial ?_ ?_ ?_ ?_ ⟨?_, ?_⟩
    · show 1 ≤ d + 1; omega
    · show 30 ≤ 32 * d + 30; omega
    · exact Nat.le_refl _
    · exact Nat.le_refl _
    · show 0 + _ ≤ cu σ' - cu σ; omega
    · show 0 + _ ≤ su σ' - su σ; omega
    · intro pc' lo' st' cst' H' locs' ls' ad' σ2 hs h5 hWd2 hext hS hL hvs hn hc1 hs1
      rw [Nat.zero_add, Nat.zero_add]
      rcases stp_done hs with ⟨rfl, hr⟩ | ⟨rfl, ik, ic, E, b, rfl, d0, hl1, d3, d4, d7, ho, hl2, hhn, hcat⟩
      · refine vx_ret ?_
        have fin : ∀ (v cv : Option Value), r = .inl v → vrO (zn σ') ad' v cv → ∀ t : State, t.heap = H' → s.WarmedH t.vm → QcS dC dI cid base L xs ad σ r σ' cargs.toArray s (.returned cv) t := fun v cv h1 h2 t ht _ => ⟨v, cv, ad', h1, rfl, h2, hext, by rw [ht]; exact hWd2, hS.F ht⟩
        rcases hr with ⟨x, ty, dd, rfl, hty, hnar, rfl⟩ | ⟨x, dd, rfl, hty, rfl⟩ | ⟨v, ty, dd, rfl, hv1, hty, hta, rfl⟩ | ⟨dd, rfl, hty, rfl⟩
        · obtain ⟨cs, rfl, h2⟩ := vrs_int hvs
          rw [vrs_nil h2]
          exact W.zret B.exec B.bytes (B.returns.trans hty) hnar (fin _ _ rfl rfl) hS.2.2 dd hlocks
        · obtain ⟨cs, rfl, h2⟩ := vrs_long hvs
          rw [vrs_nil h2]
          exact W.lret B.exec B.bytes (B.returns.trans hty) (fin _ _ rfl rfl) hS.2.2 dd hlocks
        · obtain ⟨cv, cs, rfl, h1, h2⟩ := vrs_cons hvs
          rw [vrs_nil h2]
          refine W.aret B.exec B.bytes (B.returns.trans hty) hta ?_ (fin _ _ rfl h1) hS.2.2 dd hlocks
          rcases hv1 with rfl | ⟨a, rfl⟩
          · exact Or.inl h1
          · exact Or.inr ⟨_, h1.2⟩
        · rw [vrs_nil hvs]
          exact W.vret B.exec B.bytes (B.returns.trans hty) (fin _ _ rfl trivial) hS.2.2 dd hlocks
      · obtain ⟨hE, hic⟩ := lk8_x _ (lkq_mem hl2) rfl
        have hE : E < 4 := hE
        have hic : ic = xIc E := hic
        subst hic
        have hzc : zC (mOw y) = "LineBalls" := by rw [ho]; rfl
        have hcl := (lkq_ok hl1).1 (.classLink (zC (mOw y)) ik (zX E)) (by simp [lWs])
        have in1 : ∀ w ∈ tables_1, w ∈ lw_tb2 := fun w hw => List.mem_append_right _ (List.mem_append_right _ hw)
        have hini : Cond.initialized (zX E) ∈ ALLW := ALLW_in (in1 _ (x_ini E hE)) rfl
        have hng : ∀ w ∈ NGW, w.before cargs.toArray s = true := fun w hw => by
          have hz := hKU.2.1 w hw
          have hon := NGW_ok w hw
          match w, hon, hz with
          | .methodLinkNest _ _ _ _, _, hz => exact va_Nw.use rfl hz
          | .castable _ _, _, hz => exact va_Nw.use rfl hz
          | .declares _, _, hz => exact va_Nw.use rfl hz
          | .arrayOver (.object _), _, hz => exact va_AO.use hz
        refine vx_throw0 B.exec B.bytes hst (own := zC (mOw y)) (cls := zX E) (names := xNm) (A := AA base) hown (x_fit E hE) x_fits (hts2 _ hcl) (hts2 _ hini) ?_ ?_ hHF.2.2.2.2.2.2.1 hHF.2.2.2.2.2.2.2.1 hS (by rw [hL.size, hml]) d0 d3 d4 d7 ?_ ?_ ?_ ?_ ?_ hlocks ?_ hS.2.2 ?_ ?_
        · rw [hzc]
          exact vx_hat (fun w hw => hts2 _ (ALLW_in (in1 _ (x_good E hE w hw)) (List.mem_filter.mp hw).2)) (x_ng E hE) hng
        · intro w hw
          rcases List.mem_cons.mp hw with rfl | hw
          · rfl
          · rcases List.mem_cons.mp hw with rfl | hw
            · rfl
            · rw [hzc] at hw
              exact x_ot E hE w hw
        · rw [htb, hhn]
          intro x hx
          cases hx
        · have h6 : 5 + 1 ≤ d + 1 ∧ 32 * 5 + 30 ≤ 32 * d + 30 := h5 ⟨_, rfl⟩
          show 2 + 3 < d + 1; omega
        · have h6 : 5 + 1 ≤ d + 1 ∧ 32 * 5 + 30 ≤ 32 * d + 30 := h5 ⟨_, rfl⟩
          show cats cst' + (13 * (2 + 1) + 42) ≤ 32 * d + 30
          rw [vrs_cats hvs]; omega
        · show cu σ2 - cu σ + 1 ≤ cu (zThrow σ2) - cu σ
          show cu σ2 - cu σ + 1 ≤ zn σ2 + (zt σ2 + 1) - cu σ
          have : cu σ2 = zn σ2 + zt σ2 := rfl
          omega
        · show su σ2 - su σ + 6 ≤ su (zThrow σ2) - su σ
          show su σ2 - su σ + 6 ≤ zs σ2 + 6 * (zt σ2 + 1) - su σ
          have : su σ2 = zs σ2 + 6 * zt σ2 := rfl
          omega
        · intro t hal hz hk
          refine ⟨E, ad', rfl, hE, rfl, hext, (hWd2.kept hk).thr, Nat.le_trans hS.1 hz, fun q h1 h2 => ?_⟩
          rw [hk q (Nat.lt_of_lt_of_le h1 hS.1)]
          exact hS.2.1 q h1 h2
        · show cu σ2 - cu σ + 1 ≤ zn σ2 + (zt σ2 + 1) - cu σ
          have : cu σ2 = zn σ2 + zt σ2 := rfl
          omega
        · show su σ2 - su σ + 6 ≤ zs σ2 + 6 * (zt σ2 + 1) - su σ
          have : su σ2 = zs σ2 + 6 * zt σ2 := rfl
          omega
    · intro x pc' rest q ce H' locs' ls' ad' hr hx hh hWd2 hext hS hce hcv hcl
      rw [Nat.zero_add, Nat.zero_add]
      refine vx_outP (E := zX x) hown hlocks ?_ hce hcv hcl (fun t ht _ => ⟨x, ad', hr, hx, rfl, hext, by rw [ht]; exact hWd2, hS.F ht⟩) hS.2.2 (Nat.le_refl _) (Nat.le_refl _)
      rw [htb]
      exact pass_ok hKU.2.2.2.1 hts2 (Or.inl (mLn_in hy)) hx (fun z hz => hz) (hnd_none hh)
  cases hh : mHn y with
  | nil =>
    have hw : mWd (mLn y) :: ALLW = Cond.code (mLn y).1 (mCd y) (mMx y) (mRt y) :: ALLW := by
      unfold mWd
      rw [show (mLn y).2.2.2.2.2.2.2 = [] from hh]
      rfl
    refine vx_ofW (cc := mCd y) (maxL := mMx y) (ret := mRt y) g2 hw (fun p e s m args below meth c s₁ B hml ht hP => body p e s m args below meth c s₁ B hml ?_ hP)
    rw [hh]
    cases hc : c.exceptionTable.toList with
    | nil => rfl
    | cons a b => exact (ht a (by rw [hc]; exact List.mem_cons_self)).elim
  | cons q qs =>
    have hw : mWd (mLn y) :: ALLW = Cond.codeWith (mLn y).1 (mCd y) (mMx y) (mRt y) (q :: qs) :: ALLW := by
      unfold mWd
      rw [show (mLn y).2.2.2.2.2.2.2 = q :: qs from hh]
      rfl
    refine vx_ofWH (cc := mCd y) (maxL := mMx y) (ret := mRt y) (hh := q :: qs) g2 hw (fun p e s m args below meth c s₁ B hml hP => body p e s m args below meth c s₁ B hml ?_ hP)
    rw [hh]
    exact vx_table (x := (mLn y).1) B (atoms_spec (ws := mWd (mLn y) :: ALLW) B.pre _ (by rw [hw]; exact List.mem_cons_self))
end S13
