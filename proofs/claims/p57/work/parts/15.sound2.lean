/-! SOUNDNESS: each call's run; the induction on the fuel -/
section S15
variable {l : Launch} {dC : Nat → ClassId} {dI : Nat → Nat → Nat} {cid : Nat → ClassId} {base L : Nat} {xs : Nat → Int32}
variable {p : Program} {e : Env} {R : Room} {s : State} {m : MethodId} {args : Array Value} {below : List Frame} {meth : Method} {c : Code} {H : Heap} {locs : List Loc} {cells slots : Nat} {Q : State → Prop}
variable {mi pc : Nat} {ad : Nat → Nat} {lo : Lo} {ls : Array Slot} {st cst : List Value} {σ : St}
theorem cst_split (k : Nat) (cst : List Value) : cst = ((cst.take k).reverse).reverse ++ cst.drop k := by
  rw [List.reverse_reverse, List.take_append_drop]
theorem cst_splitR {k : Nat} {cst cs : List Value} {v : Value} (h : (cst.take k).reverse = v :: cs) : cst = cs.reverse ++ v :: cst.drop k := by
  have h1 := congrArg List.reverse h
  rw [List.reverse_reverse, List.reverse_cons] at h1
  calc cst = cst.take k ++ cst.drop k := (List.take_append_drop k cst).symm
    _ = _ := by rw [h1, List.append_assoc]; rfl
theorem sx_fix (X : Sx p l s m args meth c R H locs mi dC dI cid base L xs ad lo ls σ) : CallFix p m c (mCd mi) (mMx mi) s args ALLW (zC (mOw mi)) :=
  ⟨X.1.1, X.1.2.1, X.1.2.2.2.1, X.1.2.2.2.2.1, X.1.2.2.2.2.2.2.2.1⟩
theorem ws_in {y : Nat} (h : ∀ w ∈ mWs (mLn y), w ∈ ALLW) : ∀ w ∈ mWd (mLn y) :: ALLW, w ∈ ALLW := by
  intro w hw
  rcases List.mem_cons.mp hw with rfl | hw
  · exact h _ (by unfold mWs; exact List.mem_cons_self)
  · exact hw
theorem mT_no : ∀ y, y < 195 → (mLn y).2.2.2.2.2.1 = 3 → (mLn y).1.name ≠ "<init>" := by decide +kernel
theorem call_static {n d y idx b : Nat} (IH : SND l dC dI cid base L xs n) {as st' : List Value} {r1 : Rs} {σ1 : St}
    (X : Sx p l s m args meth c R H locs mi dC dI cid base L xs ad lo ls σ) (hs : vrs (zn σ) ad st cst)
    (hd : decode (mCd mi) pc = .ok (.invokestatic idx, 3)) (hl : lkq (mOw mi) idx = some (1, y, b)) (hz : zcall 0 y st σ = some (.inr (.inr (y, as, st')))) (hr : run n d y 0 (ent y as) [] σ = some (r1, σ1))
    (hfr : d + 1 + 1 ≤ R.frames) (hlo : 32 * (d + 1) + 30 ≤ R.locals) (hc : cells + (cu σ1 - cu σ) ≤ R.cells) (hsl : slots + (su σ1 - su σ) ≤ R.slots) :
    ∃ crest cargs, vrs (zn σ) ad st' crest ∧ vx_Run p l e R s m args below meth c H locs cells slots (cu σ1 - cu σ) (su σ1 - su σ) (F0 m pc ls cst) crest (QcS dC dI cid base L xs ad σ r1 σ1 cargs) (XcS dC dI cid base L xs ad σ r1 σ1) (AA base) := by
  obtain ⟨-, hk, rfl, rfl, hlen, hcat, hent, -, -, -⟩ := zcall_inv hz (by omega)
  have hy : y < 195 := by simpa [lSg] using (lkq_ok hl).2
  obtain ⟨hWy, hsg⟩ := mLn_ok hy
  have hv := vrs_rev (vrs_take (mAr y + (if 0 = 0 then 0 else 1)) hs)
  have hM := met_of_snd IH X.1.2.2.2.2.2.2.2.2.2 hy hr hent hv
  simp only [mSg, Bool.and_eq_true, decide_eq_true_eq] at hsg
  obtain ⟨⟨⟨⟨⟨⟨g1, g2⟩, g3⟩, g4⟩, g5⟩, g6⟩, g7⟩ := hsg
  have hts : ∀ w ∈ ALLW, w.before args s = true := X.1.2.2.2.2.2.2.2.1
  have hkk : (mLn y).2.2.2.2.2.1 = 0 := hk
  have hini : Cond.initialized (mLn y).1.cls ∈ ALLW := hWy _ (by unfold mWs; simp)
  have hstat : Cond.static (mLn y).1 ∈ ALLW := hWy _ (by unfold mWs; rw [hkk]; simp)
  have hlink : Cond.methodLink (zC (mOw mi)) idx (mLn y).1 ∈ ALLW := (lkq_ok hl).1 _ (by simp [lWs])
  have hG : GoodIn ALLW (mWd (mLn y) :: ALLW) := gIn (ws_in hWy)
  have hm7 : mMx y ≤ 13 := g7
  have hR : (rmd d (cu σ1 - cu σ) (su σ1 - su σ)).frames + 1 ≤ R.frames ∧ 8 + (mMx y + 11) + (rmd d (cu σ1 - cu σ) (su σ1 - su σ)).locals ≤ R.locals := by
    refine ⟨?_, ?_⟩
    · show d + 1 + 1 ≤ R.frames; omega
    · show 8 + (mMx y + 11) + (32 * d + 30) ≤ R.locals; omega
  have hcl : cst.length = st.length := vrs_len hs
  have hn : ((cst.take (mAr y + (if 0 = 0 then 0 else 1))).reverse).length = mAr y := by
    rw [List.length_reverse, List.length_take]
    simp only [if_true] at hlen ⊢
    omega
  have hrest := vrs_drop (mAr y + (if 0 = 0 then 0 else 1)) hs
  have hWr : 2 * (F0 m pc ls cst).monitorRoom + ((cst.drop (mAr y + (if 0 = 0 then 0 else 1))).map fun v => v.category).sum ≤ 8 := by
    have : (F0 m pc ls cst).monitorRoom = 0 := rfl
    rw [this]
    have h2 := vrs_cats hrest
    unfold cats at h2 hcat
    omega
  refine ⟨_, ((cst.take (mAr y + (if 0 = 0 then 0 else 1))).reverse).toArray, hrest, ?_⟩
  cases hh : mHn y with
  | nil =>
    have hw : mWd (mLn y) :: ALLW = Cond.code (mLn y).1 (mCd y) (mMx y) (mRt y) :: ALLW := by
      unfold mWd
      rw [show (mLn y).2.2.2.2.2.2.2 = [] from hh]
      rfl
    exact vx_runS (sx_fix X) hM ⟨callB_of (mAr y) hts hG hw rfl rfl (hts _ hini) (hts _ hlink) ⟨g3, g4, g1⟩ hR, hts _ hstat⟩ ⟨pcs_blind _, pcs_at _ X⟩ rfl hn X.2.2.2.2.2.1.size (cst_split _ _) hWr hd ⟨hc, hsl⟩
  | cons q qs =>
    have hw : mWd (mLn y) :: ALLW = Cond.codeWith (mLn y).1 (mCd y) (mMx y) (mRt y) (q :: qs) :: ALLW := by
      unfold mWd
      rw [show (mLn y).2.2.2.2.2.2.2 = q :: qs from hh]
      rfl
    have hT : GoodIn ALLW (va_wsS (zC (mOw mi)) idx (mLn y).1 (mWd (mLn y) :: ALLW)) := gIn (by
      intro w hw2
      unfold va_wsS at hw2
      rcases List.mem_append.mp hw2 with hw2 | hw2
      · simp only [List.mem_cons, List.not_mem_nil, or_false] at hw2
        rcases hw2 with rfl | rfl | rfl
        · exact hlink
        · exact hstat
        · exact hini
      · exact ws_in hWy w hw2)
    exact vx_runSX (sx_fix X) hM (vx_cwSW (mAr y) hts hT hw rfl rfl ⟨g3, g4, g1⟩ hR) ⟨pcs_blind _, pcs_at _ X⟩ rfl hn X.2.2.2.2.2.1.size (cst_split _ _) hWr hd ⟨hc, hsl⟩
theorem call_virt {n d y idx b : Nat} (IH : SND l dC dI cid base L xs n) {as st' : List Value} {r1 : Rs} {σ1 : St}
    (X : Sx p l s m args meth c R H locs mi dC dI cid base L xs ad lo ls σ) (hs : vrs (zn σ) ad st cst)
    (hd : decode (mCd mi) pc = .ok (.invokevirtual idx, 3)) (hl : lkq (mOw mi) idx = some (1, y, b)) (hz : zcall 1 y st σ = some (.inr (.inr (y, as, st')))) (hr : run n d y 0 (ent y as) [] σ = some (r1, σ1))
    (hfr : d + 1 + 1 ≤ R.frames) (hlo : 32 * (d + 1) + 30 ≤ R.locals) (hc : cells + (cu σ1 - cu σ) ≤ R.cells) (hsl : slots + (su σ1 - su σ) ≤ R.slots) :
    ∃ crest cargs, vrs (zn σ) ad st' crest ∧ vx_Run p l e R s m args below meth c H locs cells slots (cu σ1 - cu σ) (su σ1 - su σ) (F0 m pc ls cst) crest (QcS dC dI cid base L xs ad σ r1 σ1 cargs) (XcS dC dI cid base L xs ad σ r1 σ1) (AA base) := by
  obtain ⟨-, hk, has, hst', hlen, hcat, hent, hrc, -, -⟩ := zcall_inv hz (by omega)
  obtain ⟨v, as', has', hrcv⟩ := hrc rfl
  have hy : y < 195 := by simpa [lSg] using (lkq_ok hl).2
  obtain ⟨hWy, hsg⟩ := mLn_ok hy
  have hv := vrs_rev (vrs_take (mAr y + (if 1 = 0 then 0 else 1)) hs)
  rw [← has] at hv
  have hM := met_of_snd IH X.1.2.2.2.2.2.2.2.2.2 hy hr hent hv
  simp only [mSg, Bool.and_eq_true, decide_eq_true_eq] at hsg
  obtain ⟨⟨⟨⟨⟨⟨g1, g2⟩, g3⟩, g4⟩, g5⟩, g6⟩, g7⟩ := hsg
  have hts : ∀ w ∈ ALLW, w.before args s = true := X.1.2.2.2.2.2.2.2.1
  have hkk : (mLn y).2.2.2.2.2.1 = 1 := hk
  have hini : Cond.initialized (mLn y).1.cls ∈ ALLW := hWy _ (by unfold mWs; simp)
  have hinst : Cond.instanceMethod (mLn y).1 ∈ ALLW := hWy _ (by unfold mWs; rw [hkk]; simp)
  have hsel : Cond.selects (mLn y).1.cls (mLn y).1 (mLn y).1 ∈ ALLW := hWy _ (by unfold mWs; rw [hkk]; simp)
  have hlink : Cond.methodLink (zC (mOw mi)) idx (mLn y).1 ∈ ALLW := (lkq_ok hl).1 _ (by simp [lWs])
  have hG : GoodIn ALLW (mWd (mLn y) :: ALLW) := gIn (ws_in hWy)
  have hm7 : mMx y ≤ 13 := g7
  have hR : (rmd d (cu σ1 - cu σ) (su σ1 - su σ)).frames + 1 ≤ R.frames ∧ 8 + (mMx y + 11) + (rmd d (cu σ1 - cu σ) (su σ1 - su σ)).locals ≤ R.locals := by
    refine ⟨?_, ?_⟩
    · show d + 1 + 1 ≤ R.frames; omega
    · show 8 + (mMx y + 11) + (32 * d + 30) ≤ R.locals; omega
  have hcl : cst.length = st.length := vrs_len hs
  have hrest := vrs_drop (mAr y + (if 1 = 0 then 0 else 1)) hs
  rw [← hst'] at hrest
  have hWr : 2 * (F0 m pc ls cst).monitorRoom + ((cst.drop (mAr y + (if 1 = 0 then 0 else 1))).map fun v => v.category).sum ≤ 8 := by
    have : (F0 m pc ls cst).monitorRoom = 0 := rfl
    rw [this]
    have h2 := vrs_cats hrest
    unfold cats at h2 hcat
    omega
  have hh : mHn y = [] := mT_virt _ (mLn_in hy) (Or.inl hkk)
  have hw : mWd (mLn y) :: ALLW = Cond.code (mLn y).1 (mCd y) (mMx y) (mRt y) :: ALLW := by
    unfold mWd
    rw [show (mLn y).2.2.2.2.2.2.2 = [] from hh]
    rfl
  match v, hrcv with
  | .ref a, hrcv =>
    rw [has'] at hv
    obtain ⟨hlt, cs, hcs, hvs⟩ := vrs_ref hv
    have hsp := cst_splitR hcs
    have hn : cs.length = mAr y := by
      have := congrArg List.length hcs
      rw [List.length_reverse, List.length_take, List.length_cons] at this
      simp only [Nat.one_ne_zero, if_false] at hlen this
      omega
    have hcell : ∃ cellB : Cell, H[ad a]? = some cellB ∧ cellB.vm.isStatics = false ∧ s.vm.findClass (mLn y).1.cls = some cellB.cls := by
      rw [g5]
      show ∃ cellB : Cell, H[ad a]? = some cellB ∧ cellB.vm.isStatics = false ∧ s.vm.findClass (zC (mOw y)) = some cellB.cls
      unfold rcv at hrcv
      by_cases h10 : mOw y < 10
      · simp only [h10, if_true, decide_eq_true_eq] at hrcv
        have hkd : (zh σ a).1 = kdc (mOw y) := by
          rw [hrcv]
          show mOw y + 1 = kdc (mOw y)
          unfold kdc
          rw [if_neg (by omega)]
        have hkb := kdc_b (ci := mOw y) (by omega)
        obtain ⟨h15, -⟩ := X.2.2.2.1.2.2.own (a := a) (by omega) (by omega)
        exact va_recv X.2.1.1 X.2.2.2.1.1 (vwCl_at (mOw y) (by omega)) ((wl_at h15 hlt).trans (by rw [cel_o hkd (by omega)]))
      · simp only [h10, if_false, decide_eq_true_eq] at hrcv
        obtain ⟨h11, h20⟩ := hrcv
        rw [h11]
        rcases h20 with h22 | h20
        · have hkd : (zh σ a).1 = kdc 10 := by rw [h22]; rfl
          obtain ⟨h15, -⟩ := X.2.2.2.1.2.2.own (a := a) (by rw [h22]; decide) (by rw [h22]; decide)
          exact va_recv X.2.1.1 X.2.2.2.1.1 (vwCl_at 10 (by omega)) ((wl_at h15 hlt).trans (by rw [cel_o hkd (by omega)]))
        · obtain ⟨i, hi, rfl⟩ := X.2.2.2.1.2.2.k20 h20
          exact vk_recv (adK := fun i => ad (1 + i)) (i := i) X.2.2.1.2.2.2.1 hi X.2.2.2.2.1
    refine ⟨cst.drop (mAr y + (if 1 = 0 then 0 else 1)), (Value.ref (ad a) :: cs).toArray, hrest, ?_⟩
    rw [hcs] at hM
    exact vx_runV (sx_fix X) hM ⟨callB_of (mAr y) hts hG hw rfl rfl (hts _ hini) (hts _ hlink) ⟨g3, g4, g1⟩ hR, hts _ hinst, hts _ hsel⟩ ⟨pcs_blind _, hcell, pcs_at _ X⟩ rfl hn X.2.2.2.2.2.1.size hsp hWr hd ⟨hc, hsl⟩
  | .retAddr q, hrcv =>
    rw [has'] at hv
    obtain ⟨c9, cs, hcs, hc9, hvs⟩ := vrs_cons hv
    have hsp := cst_splitR hcs
    have hn : cs.length = mAr y := by
      have := congrArg List.length hcs
      rw [List.length_reverse, List.length_take, List.length_cons] at this
      simp only [Nat.one_ne_zero, if_false] at hlen this
      omega
    simp only [rcv, decide_eq_true_eq] at hrcv
    obtain ⟨h11, q1, q9⟩ := hrcv
    obtain ⟨i, rfl⟩ : ∃ i, q = i + 1 := ⟨q - 1, by omega⟩
    have hc9 : c9 = .ref (ad (KB + i)) := hc9
    subst hc9
    have hcell : ∃ cellB : Cell, H[ad (KB + i)]? = some cellB ∧ cellB.vm.isStatics = false ∧ s.vm.findClass (mLn y).1.cls = some cellB.cls := by
      rw [g5]
      show ∃ cellB : Cell, H[ad (KB + i)]? = some cellB ∧ cellB.vm.isStatics = false ∧ s.vm.findClass (zC (mOw y)) = some cellB.cls
      rw [h11]
      exact vk_recv (adK := fun i => ad (KB + i)) (i := i) X.2.2.1.2.2.2.2.2.2.2.2.1 (by omega) X.2.2.2.2.1
    refine ⟨cst.drop (mAr y + (if 1 = 0 then 0 else 1)), (Value.ref (ad (KB + i)) :: cs).toArray, hrest, ?_⟩
    rw [hcs] at hM
    exact vx_runV (sx_fix X) hM ⟨callB_of (mAr y) hts hG hw rfl rfl (hts _ hini) (hts _ hlink) ⟨g3, g4, g1⟩ hR, hts _ hinst, hts _ hsel⟩ ⟨pcs_blind _, hcell, pcs_at _ X⟩ rfl hn X.2.2.2.2.2.1.size hsp hWr hd ⟨hc, hsl⟩
/-- a method of StringBuilder's class above, or by its name -/
theorem call_up {n d y idx b : Nat} (IH : SND l dC dI cid base L xs n) {as st' : List Value} {r1 : Rs} {σ1 : St}
    (X : Sx p l s m args meth c R H locs mi dC dI cid base L xs ad lo ls σ) (hs : vrs (zn σ) ad st cst)
    (hd : (decode (mCd mi) pc = .ok (.invokevirtual idx, 3) ∧ lkq (mOw mi) idx = some (21, y, b)) ∨ (decode (mCd mi) pc = .ok (.invokespecial idx, 3) ∧ lkq (mOw mi) idx = some (22, y, b))) (hz : zcall 3 y st σ = some (.inr (.inr (y, as, st')))) (hr : run n d y 0 (ent y as) [] σ = some (r1, σ1))
    (hfr : d + 1 + 1 ≤ R.frames) (hlo : 32 * (d + 1) + 30 ≤ R.locals) (hc : cells + (cu σ1 - cu σ) ≤ R.cells) (hsl : slots + (su σ1 - su σ) ≤ R.slots) :
    ∃ crest cargs, vrs (zn σ) ad st' crest ∧ vx_Run p l e R s m args below meth c H locs cells slots (cu σ1 - cu σ) (su σ1 - su σ) (F0 m pc ls cst) crest (QcS dC dI cid base L xs ad σ r1 σ1 cargs) (XcS dC dI cid base L xs ad σ r1 σ1) (AA base) := by
  obtain ⟨-, hk, has, hst', hlen, hcat, hent, -, -, hrc⟩ := zcall_inv hz (by omega)
  obtain ⟨a, as', has', hrcv⟩ := hrc rfl
  have hy : y < 195 := by
    rcases hd with ⟨-, hl⟩ | ⟨-, hl⟩
    · have := (lkq_ok hl).2
      simp only [lSg, Bool.and_eq_true, decide_eq_true_eq] at this
      exact this.1.1.1.1.1
    · have := (lkq_ok hl).2
      simp only [lSg, Bool.and_eq_true, decide_eq_true_eq] at this
      exact this.1
  obtain ⟨hWy, hsg⟩ := mLn_ok hy
  have hv := vrs_rev (vrs_take (mAr y + (if 3 = 0 then 0 else 1)) hs)
  rw [← has] at hv
  have hM := met_of_snd IH X.1.2.2.2.2.2.2.2.2.2 hy hr hent hv
  simp only [mSg, Bool.and_eq_true, decide_eq_true_eq] at hsg
  obtain ⟨⟨⟨⟨⟨⟨g1, g2⟩, g3⟩, g4⟩, g5⟩, g6⟩, g7⟩ := hsg
  have hts : ∀ w ∈ ALLW, w.before args s = true := X.1.2.2.2.2.2.2.2.1
  have hkk : (mLn y).2.2.2.2.2.1 = 3 := hk
  have hini : Cond.initialized (mLn y).1.cls ∈ ALLW := hWy _ (by unfold mWs; simp)
  have hinst : Cond.instanceMethod (mLn y).1 ∈ ALLW := hWy _ (by unfold mWs; rw [hkk]; simp)
  have hG : GoodIn ALLW (mWd (mLn y) :: ALLW) := gIn (ws_in hWy)
  have hm7 : mMx y ≤ 13 := g7
  have hR : (rmd d (cu σ1 - cu σ) (su σ1 - su σ)).frames + 1 ≤ R.frames ∧ 8 + (mMx y + 11) + (rmd d (cu σ1 - cu σ) (su σ1 - su σ)).locals ≤ R.locals := by
    refine ⟨?_, ?_⟩
    · show d + 1 + 1 ≤ R.frames; omega
    · show 8 + (mMx y + 11) + (32 * d + 30) ≤ R.locals; omega
  have hcl : cst.length = st.length := vrs_len hs
  have hrest := vrs_drop (mAr y + (if 3 = 0 then 0 else 1)) hs
  rw [← hst'] at hrest
  have hWr : 2 * (F0 m pc ls cst).monitorRoom + ((cst.drop (mAr y + (if 3 = 0 then 0 else 1))).map fun v => v.category).sum ≤ 8 := by
    have : (F0 m pc ls cst).monitorRoom = 0 := rfl
    rw [this]
    have h2 := vrs_cats hrest
    unfold cats at h2 hcat
    omega
  have hhn := mT_virt _ (mLn_in hy) (Or.inr hkk)
  have hw : mWd (mLn y) :: ALLW = Cond.code (mLn y).1 (mCd y) (mMx y) (mRt y) :: ALLW := by
    unfold mWd
    rw [hhn]
    rfl
  rw [has'] at hv
  obtain ⟨hlt, cs, hcs, hvs⟩ := vrs_ref hv
  have hsp := cst_splitR hcs
  have hn : cs.length = mAr y := by
    have := congrArg List.length hcs
    rw [List.length_reverse, List.length_take, List.length_cons] at this
    have h20 : ¬ (3 = 0) := by omega
    simp only [h20, if_false] at hlen this
    omega
  have hkd : (zh σ a).1 = kdc 9 := by rw [hrcv]; rfl
  obtain ⟨h15, -⟩ := X.2.2.2.1.2.2.own (a := a) (by rw [hrcv]; decide) (by rw [hrcv]; decide)
  have hcell := va_recv X.2.1.1 X.2.2.2.1.1 (vwCl_at 9 (by omega)) ((wl_at h15 hlt).trans (by rw [cel_o hkd (by omega)]))
  refine ⟨cst.drop (mAr y + (if 3 = 0 then 0 else 1)), (Value.ref (ad a) :: cs).toArray, hrest, ?_⟩
  rw [hcs] at hM
  rcases hd with ⟨hd, hl⟩ | ⟨hd, hl⟩
  · obtain ⟨hwl, hsl2⟩ := lkq_ok hl
    simp only [lSg, Bool.and_eq_true, decide_eq_true_eq] at hsl2
    obtain ⟨⟨⟨⟨⟨z1, z2⟩, z3⟩, z4⟩, z5⟩, z6⟩ := hsl2
    obtain ⟨hWx, hsgx⟩ := mLn_ok z2
    simp only [mSg, Bool.and_eq_true, decide_eq_true_eq] at hsgx
    obtain ⟨⟨⟨⟨⟨⟨x1, x2⟩, x3⟩, x4⟩, x5⟩, x6⟩, x7⟩ := hsgx
    have hcx : Cond.code (mLn b).1 (mCd b) (mMx b) (mRt b) ∈ ALLW := by
      have h1 : mWd (mLn b) ∈ ALLW := hWx _ (by unfold mWs; exact List.mem_cons_self)
      unfold mWd at h1
      rw [z6] at h1
      exact h1
    have hT : GoodIn ALLW (va_wsO (zC (mOw mi)) idx "java/lang/StringBuilder" (mLn b).1.cls (mLn b).1 (mLn y).1 (mWd (mLn y) :: ALLW)) := gIn (by
      intro w hw2
      unfold va_wsO at hw2
      rcases List.mem_append.mp hw2 with hw2 | hw2
      · simp only [List.mem_cons, List.not_mem_nil, or_false] at hw2
        rcases hw2 with rfl | rfl | rfl | rfl | rfl | rfl
        · exact hwl _ (by simp [lWs])
        · exact hwl _ (by simp [lWs])
        · exact hwl _ (by simp [lWs])
        · exact hwl _ (by simp [lWs])
        · exact hinst
        · exact hini
      · exact ws_in hWy w hw2)
    exact vx_runU (sx_fix X) hM (va_cwO (mAr y) hts hT hw rfl rfl hcx ⟨x3, x4, by rw [x1, z5]; rfl⟩ hR) ⟨pcs_blind _, hcell, pcs_at _ X⟩ rfl hn X.2.2.2.2.2.1.size hsp hWr hd ⟨hc, hsl⟩
  · obtain ⟨hwl, -⟩ := lkq_ok hl
    have hT : GoodIn ALLW (va_wsSU (zC (mOw mi)) idx (mLn y).1 (mWd (mLn y) :: ALLW)) := gIn (by
      intro w hw2
      unfold va_wsSU at hw2
      rcases List.mem_append.mp hw2 with hw2 | hw2
      · simp only [List.mem_cons, List.not_mem_nil, or_false] at hw2
        rcases hw2 with rfl | rfl | rfl | rfl | rfl
        · exact hwl _ (by simp [lWs])
        · exact hwl _ (by simp [lWs])
        · exact hwl _ (by simp [lWs])
        · exact hinst
        · exact hini
      · exact ws_in hWy w hw2)
    obtain ⟨-, hat⟩ := X.2.1.1.1 9 _ (vwCl_at 9 (by omega))
    exact vx_runSU (C := zC 9) hat (sx_fix X) hM (va_cwSU (mAr y) hts hT hw rfl rfl ⟨mT_no y hy hkk, g1⟩ hR) ⟨pcs_blind _, hcell, pcs_at _ X⟩ rfl hn X.2.2.2.2.2.1.size hsp hWr hd ⟨hc, hsl⟩
theorem call_spec {n d y idx b : Nat} (IH : SND l dC dI cid base L xs n) {as st' : List Value} {r1 : Rs} {σ1 : St}
    (X : Sx p l s m args meth c R H locs mi dC dI cid base L xs ad lo ls σ) (hs : vrs (zn σ) ad st cst)
    (hd : decode (mCd mi) pc = .ok (.invokespecial idx, 3)) (hl : lkq (mOw mi) idx = some (1, y, b) ∨ lkq (mOw mi) idx = some (2, y, b)) (hz : zcall 2 y st σ = some (.inr (.inr (y, as, st')))) (hr : run n d y 0 (ent y as) [] σ = some (r1, σ1))
    (hfr : d + 1 + 1 ≤ R.frames) (hlo : 32 * (d + 1) + 30 ≤ R.locals) (hc : cells + (cu σ1 - cu σ) ≤ R.cells) (hsl : slots + (su σ1 - su σ) ≤ R.slots) :
    ∃ crest cargs, vrs (zn σ) ad st' crest ∧ vx_Run p l e R s m args below meth c H locs cells slots (cu σ1 - cu σ) (su σ1 - su σ) (F0 m pc ls cst) crest (QcS dC dI cid base L xs ad σ r1 σ1 cargs) (XcS dC dI cid base L xs ad σ r1 σ1) (AA base) := by
  obtain ⟨-, hk, has, hst', hlen, hcat, hent, -, hrc, -⟩ := zcall_inv hz (by omega)
  obtain ⟨a, as', has', hrcv⟩ := hrc rfl
  have hy : y < 195 := by
    rcases hl with hl | hl
    · simpa [lSg] using (lkq_ok hl).2
    · simpa [lSg] using (lkq_ok hl).2
  obtain ⟨hWy, hsg⟩ := mLn_ok hy
  have hv := vrs_rev (vrs_take (mAr y + (if 2 = 0 then 0 else 1)) hs)
  rw [← has] at hv
  have hM := met_of_snd IH X.1.2.2.2.2.2.2.2.2.2 hy hr hent hv
  simp only [mSg, Bool.and_eq_true, decide_eq_true_eq] at hsg
  obtain ⟨⟨⟨⟨⟨⟨g1, g2⟩, g3⟩, g4⟩, g5⟩, g6⟩, g7⟩ := hsg
  have hts : ∀ w ∈ ALLW, w.before args s = true := X.1.2.2.2.2.2.2.2.1
  have hkk : (mLn y).2.2.2.2.2.1 = 2 := hk
  have hini : Cond.initialized (mLn y).1.cls ∈ ALLW := hWy _ (by unfold mWs; simp)
  have hinst : Cond.instanceMethod (mLn y).1 ∈ ALLW := hWy _ (by unfold mWs; rw [hkk]; simp)
  have hG : GoodIn ALLW (mWd (mLn y) :: ALLW) := gIn (ws_in hWy)
  have hm7 : mMx y ≤ 13 := g7
  have hR : (rmd d (cu σ1 - cu σ) (su σ1 - su σ)).frames + 1 ≤ R.frames ∧ 8 + (mMx y + 11) + (rmd d (cu σ1 - cu σ) (su σ1 - su σ)).locals ≤ R.locals := by
    refine ⟨?_, ?_⟩
    · show d + 1 + 1 ≤ R.frames; omega
    · show 8 + (mMx y + 11) + (32 * d + 30) ≤ R.locals; omega
  have hcl : cst.length = st.length := vrs_len hs
  have hrest := vrs_drop (mAr y + (if 2 = 0 then 0 else 1)) hs
  rw [← hst'] at hrest
  have hWr : 2 * (F0 m pc ls cst).monitorRoom + ((cst.drop (mAr y + (if 2 = 0 then 0 else 1))).map fun v => v.category).sum ≤ 8 := by
    have : (F0 m pc ls cst).monitorRoom = 0 := rfl
    rw [this]
    have h2 := vrs_cats hrest
    unfold cats at h2 hcat
    omega
  obtain ⟨hret, hhn⟩ := mT_init _ (mLn_in hy) hkk
  have hh : mHn y = [] := hhn
  have hrt : mRt y = none := hret
  have hw : mWd (mLn y) :: ALLW = Cond.code (mLn y).1 (mCd y) (mMx y) none :: ALLW := by
    unfold mWd
    rw [hhn, hret]
    rfl
  rw [has'] at hv
  obtain ⟨hlt, cs, hcs, hvs⟩ := vrs_ref hv
  have hsp := cst_splitR hcs
  have hn : cs.length = mAr y := by
    have := congrArg List.length hcs
    rw [List.length_reverse, List.length_take, List.length_cons] at this
    have h20 : ¬ (2 = 0) := by omega
    simp only [h20, if_false] at hlen this
    omega
  refine ⟨cst.drop (mAr y + (if 2 = 0 then 0 else 1)), (Value.ref (ad a) :: cs).toArray, hrest, ?_⟩
  rw [hcs] at hM
  rcases hl with hl | hl
  · have hlink : Cond.methodLink (zC (mOw mi)) idx (mLn y).1 ∈ ALLW := (lkq_ok hl).1 _ (by simp [lWs])
    exact vx_runI (sx_fix X) hM (cwI (mAr y) hts hG hw rfl rfl (hts _ hini) (hts _ hlink) (hts _ hinst) (g6 hkk) ⟨g3, g4, g1⟩ hR) ⟨pcs_blind _, pcs_at _ X⟩ rfl hn X.2.2.2.2.2.1.size hsp hWr hd ⟨hc, hsl⟩
  · have hmem := lkq_mem hl
    have hown : mOw mi < 18 := by
      refine Nat.not_le.mp fun hge => ?_
      obtain ⟨z, hz⟩ := Nat.exists_eq_add_of_le hge
      rw [show mOw mi = z + 18 by omega] at hmem
      cases hmem
    have hng := X.2.1.2.1 _ (lk_nest (mOw mi) hown _ hmem rfl)
    exact vx_runIN (sx_fix X) hM ⟨va_cnB (mAr y) hts hG hw rfl rfl hng (hts _ hini) ⟨g3, g4, g1⟩ hR, g6 hkk, hts _ hinst⟩ ⟨pcs_blind _, pcs_at _ X⟩ rfl hn X.2.2.2.2.2.1.size hsp hWr hd ⟨hc, hsl⟩
set_option maxHeartbeats 1000000 in
theorem snd_all (l : Launch) (dC : Nat → ClassId) (dI : Nat → Nat → Nat) (cid : Nat → ClassId) (base L : Nat) (xs : Nat → Int32) : ∀ n, SND l dC dI cid base L xs n := by
  intro n
  induction n with
  | zero => intro d mi pc lo st σ r σ' h; simp [run] at h
  | succ n IH =>
    intro d mi pc lo st σ r σ' h hmi p e R s m args below meth c H locs cells slots Q ad ls cst X hs hfr hlo hc hsl hE
    have h15 := X.2.2.2.1.2.2.1
    rw [run] at h
    match hstp : stp mi pc lo st σ with
    | none => rw [hstp] at h; cases h
    | some (.inl (pc', lo', st', σ1)) =>
      rw [hstp] at h
      have g1 := stp_grows hstp
      have g2 := run_grows _ _ _ _ _ _ _ _ _ h
      refine step_sound X hstp hs ?_ (by omega) (by omega)
      intro H1 locs1 ls1 ad1 cst1 hW hext hS hL hvs
      refine IH d mi pc' lo' st' σ1 r σ' h hmi p e R s m args below meth c H1 locs1 _ _ Q ad1 ls1 cst1 ⟨X.1, KU.adr (fun k hk => hext k (by omega)) X.2.1, HF.adr (fun k hk => hext k (by omega)) X.2.2.1, hW, hS, hL, X.2.2.2.2.2.2⟩ hvs hfr hlo (by omega) (by omega) ⟨?_, ?_⟩
      · intro pc2 lo2 st3 cst3 H' locs' ls' ad2 σ2 e1 e0 e2 e3 e4 e5 e6 e7 e8 e9
        have := hE.1 pc2 lo2 st3 cst3 H' locs' ls' ad2 σ2 e1 e0 e2 (fun k hk => (e3 k (by omega)).trans (hext k hk)) e4 e5 e6 (by omega) (by omega) (by omega)
        rw [show cells + (cu σ1 - cu σ) + (cu σ2 - cu σ1) = cells + (cu σ2 - cu σ) by omega, show slots + (su σ1 - su σ) + (su σ2 - su σ1) = slots + (su σ2 - su σ) by omega]
        exact this
      · intro x pc2 rest q ce H' locs' ls' ad2 e1 e2 e3 e4 e5 e6 e7 e8 e9
        have := hE.2 x pc2 rest q ce H' locs' ls' ad2 e1 e2 e3 e4 (fun k hk => (e5 k (by omega)).trans (hext k hk)) e6 e7 e8 e9
        rw [show cells + (cu σ1 - cu σ) + (cu σ' - cu σ1) = cells + (cu σ' - cu σ) by omega, show slots + (su σ1 - su σ) + (su σ' - su σ1) = slots + (su σ' - su σ) by omega]
        exact this
    | some (.inr (.inl q)) =>
      rw [hstp] at h
      have h5 := done_d h
      have h := done_eq h
      subst h
      have := hE.1 pc lo st cst H locs ls ad σ hstp (fun hx => by have := h5 hx; omega) X.2.2.2.1 (fun _ _ => rfl) X.2.2.2.2.1 X.2.2.2.2.2.1 hs (Nat.le_refl _) (Nat.le_refl _) (Nat.le_refl _)
      rw [Nat.sub_self, Nat.sub_self, Nat.add_zero, Nat.add_zero] at this
      exact this
    | some (.inr (.inr (y, as, st'))) =>
      rw [hstp] at h
      match d, h, hfr, hlo with
      | 0, h, _, _ => cases h
      | d + 1, h, hfr, hlo =>
        dsimp only at h
        obtain ⟨idx, b, hcase⟩ := stp_call hstp
        match hcr : run n d y 0 (ent y as) [] σ with
        | none => rw [hcr] at h; cases h
        | some (.inl v, σ1) =>
          rw [hcr] at h
          dsimp only at h
          have g1 := run_grows _ _ _ _ _ _ _ _ _ hcr
          have g2 := run_grows _ _ _ _ _ _ _ _ _ h
          have key : ∃ crest cargs, vrs (zn σ) ad st' crest ∧ vx_Run p l e R s m args below meth c H locs cells slots (cu σ1 - cu σ) (su σ1 - su σ) (F0 m pc ls cst) crest (QcS dC dI cid base L xs ad σ (.inl v) σ1 cargs) (XcS dC dI cid base L xs ad σ (.inl v) σ1) (AA base) := by
            rcases hcase with ⟨hd, hl, hz⟩ | ⟨hd, hl, hz⟩ | ⟨hd, hl, hz⟩ | ⟨hd, hl, hz⟩ | ⟨hd, hl, hz⟩
            · exact call_static IH X hs hd hl hz hcr hfr hlo (by omega) (by omega)
            · exact call_virt IH X hs hd hl hz hcr hfr hlo (by omega) (by omega)
            · exact call_spec IH X hs hd hl hz hcr hfr hlo (by omega) (by omega)
            · exact call_up IH X hs (Or.inl ⟨hd, hl⟩) hz hcr hfr hlo (by omega) (by omega)
            · exact call_up IH X hs (Or.inr ⟨hd, hl⟩) hz hcr hfr hlo (by omega) (by omega)
          obtain ⟨crest, cargs, hrest, hrun⟩ := key
          obtain ⟨cl, rfl⟩ : ∃ cl : List Value, cargs = cl.toArray := ⟨cargs.toList, by simp⟩
          exact call_go (y := y) (as := as) (r1 := .inl v) IH X hmi hrest hfr hlo hc hsl g1 (fun x hx => by cases hx) h hE hrun
        | some (.inr E, σ1) =>
          rw [hcr] at h
          dsimp only at h
          have g1 := run_grows _ _ _ _ _ _ _ _ _ hcr
          have g2 : cu σ1 ≤ cu σ' ∧ su σ1 ≤ su σ' := by
            match hq : hnd (mOw mi) (mHn mi) pc E with
            | none => rw [hq] at h; cases h; exact ⟨Nat.le_refl _, Nat.le_refl _⟩
            | some q =>
              rw [hq] at h
              exact (run_grows _ _ _ _ _ _ _ _ _ h).2
          have hx4 : ∀ x, (Sum.inr E : Rs) = .inr x → x < 4 := fun x hx => by
            cases hx
            exact run_x4 _ _ _ _ _ _ _ _ _ hcr
          have key : ∃ crest cargs, vrs (zn σ) ad st' crest ∧ vx_Run p l e R s m args below meth c H locs cells slots (cu σ1 - cu σ) (su σ1 - su σ) (F0 m pc ls cst) crest (QcS dC dI cid base L xs ad σ (.inr E) σ1 cargs) (XcS dC dI cid base L xs ad σ (.inr E) σ1) (AA base) := by
            rcases hcase with ⟨hd, hl, hz⟩ | ⟨hd, hl, hz⟩ | ⟨hd, hl, hz⟩ | ⟨hd, hl, hz⟩ | ⟨hd, hl, hz⟩
            · exact call_static IH X hs hd hl hz hcr hfr hlo (by omega) (by omega)
            · exact call_virt IH X hs hd hl hz hcr hfr hlo (by omega) (by omega)
            · exact call_spec IH X hs hd hl hz hcr hfr hlo (by omega) (by omega)
            · exact call_up IH X hs (Or.inl ⟨hd, hl⟩) hz hcr hfr hlo (by omega) (by omega)
            · exact call_up IH X hs (Or.inr ⟨hd, hl⟩) hz hcr hfr hlo (by omega) (by omega)
          obtain ⟨crest, cargs, hrest, hrun⟩ := key
          obtain ⟨cl, rfl⟩ : ∃ cl : List Value, cargs = cl.toArray := ⟨cargs.toList, by simp⟩
          exact call_go (y := y) (as := as) (r1 := .inr E) IH X hmi hrest hfr hlo hc hsl g1 hx4 h hE hrun
end S15
