/-! SOUNDNESS, an instruction at a time: locals and stack -/
def cu (σ : St) : Nat := zn σ + zt σ
def su (σ : St) : Nat := zs σ + 6 * zt σ
def Cx (p : Program) (l : Launch) (s : State) (m : MethodId) (args : Array Value) (meth : Method) (c : Code) (mi : Nat) : Prop :=
  p.tables.exec = Jvm.exec ∧ c.code = mCd mi ∧ meth.sig.returnType = mRt mi ∧ c.maxLocals = mMx mi ∧ s.vm.findClass (zC (mOw mi)) = some m.cls ∧ meth.locks = false ∧ c.exceptionTable.toList = Jvm.tableOf (mHn mi) ∧ (∀ w ∈ ALLW, w.before args s = true) ∧ (mKd mi = 2 → meth.name = "<init>") ∧ l.stackTraces = false
def Wd (dC : Nat → ClassId) (dI : Nat → Nat → Nat) (cid : Nat → ClassId) (base L : Nat) (xs : Nat → Int32) (ad : Nat → Nat) (σ : St) (H : Heap) : Prop :=
  va_P (dC, dI) vwCl (wl cid ad σ) H ∧ va_D (AA base) (wl cid ad σ) ∧ wf L xs σ
def Sx (p : Program) (l : Launch) (s : State) (m : MethodId) (args : Array Value) (meth : Method) (c : Code) (R : Room) (H : Heap) (locs : List Loc) (mi : Nat) (dC : Nat → ClassId) (dI : Nat → Nat → Nat) (cid : Nat → ClassId) (base L : Nat) (xs : Nat → Int32) (ad : Nat → Nat) (lo : Lo) (ls : Array Slot) (σ : St) : Prop :=
  Cx p l s m args meth c mi ∧ KU dC dI cid ad s ∧ HF base L xs ad s s.heap ∧ Wd dC dI cid base L xs ad σ H ∧ va_S (AA base) s.heap H locs ∧ LR (zn σ) ad lo ls (mMx mi) ∧ 1 ≤ R.frames ∧ 30 ≤ R.locals
/-- what holds behind a step: its continuation -/
def Kn (p : Program) (l : Launch) (e : Env) (R : Room) (s : State) (m : MethodId) (args : Array Value) (below : List Frame) (meth : Method) (c : Code) (cells slots : Nat) (Q : State → Prop) (mi : Nat) (dC : Nat → ClassId) (dI : Nat → Nat → Nat) (cid : Nat → ClassId) (base L : Nat) (xs : Nat → Int32) (ad : Nat → Nat) (σ : St) (pc' : Nat) (lo' : Lo) (st' : List Value) (σ1 : St) : Prop :=
  ∀ (H1 : Heap) (locs1 : List Loc) (ls1 : Array Slot) (ad1 : Nat → Nat) (cst1 : List Value), Wd dC dI cid base L xs ad1 σ1 H1 → (∀ k, k < zn σ ∨ KB ≤ k → ad1 k = ad k) → va_S (AA base) s.heap H1 locs1 → LR (zn σ1) ad1 lo' ls1 (mMx mi) → vrs (zn σ1) ad1 st' cst1 →
    W p l e R s m args below meth c H1 locs1 (cells + (cu σ1 - cu σ)) (slots + (su σ1 - su σ)) Q (F0 m pc' ls1 cst1)
section S8
variable {p : Program} {l : Launch} {e : Env} {R : Room} {s : State} {m : MethodId} {args : Array Value} {below : List Frame} {meth : Method} {c : Code} {H : Heap} {locs : List Loc} {cells slots : Nat} {Q : State → Prop}
variable {mi pc : Nat} {dC : Nat → ClassId} {dI : Nat → Nat → Nat} {cid : Nat → ClassId} {base L : Nat} {xs : Nat → Int32} {ad : Nat → Nat} {lo lo1 : Lo} {ls : Array Slot} {st st1 cst : List Value} {σ σ1 : St} {pc1 : Nat}
theorem Kn.id {pc' : Nat} {lo' : Lo} {st' cst1 : List Value} {ls1 : Array Slot} (kn : Kn p l e R s m args below meth c cells slots Q mi dC dI cid base L xs ad σ (pc') (lo') (st') (σ)) (X : Sx p l s m args meth c R H locs mi dC dI cid base L xs ad lo ls σ) (hl : LR (zn σ) ad lo' ls1 (mMx mi)) (hs : vrs (zn σ) ad st' cst1) : W p l e R s m args below meth c H locs cells slots Q (F0 m pc' ls1 cst1) := by
  have h := kn H locs ls1 ad cst1 X.2.2.2.1 (fun _ _ => rfl) X.2.2.2.2.1 hl hs
  rw [Nat.sub_self, Nat.sub_self, Nat.add_zero, Nat.add_zero] at h
  exact h
theorem zld_inv {k i pc' : Nat} (h : zld k i pc' lo st σ = some (.inl (pc1, lo1, st1, σ1))) : ∃ v, lo[i]? = some (some v) ∧ zk v = k ∧ pc1 = pc' ∧ lo1 = lo ∧ st1 = v :: st ∧ σ1 = σ := by
  unfold zld at h
  split at h
  · rename_i v hv
    split at h
    · rename_i hk
      cases h
      exact ⟨v, hv, hk, rfl, rfl, rfl, rfl⟩
    · cases h
  · cases h
theorem zst_inv {k i pc' : Nat} (h : zst k i pc' lo st σ = some (.inl (pc1, lo1, st1, σ1))) : ∃ v, st = v :: st1 ∧ zk v = k ∧ i < lo.length ∧ pc1 = pc' ∧ lo1 = lset1 lo i v ∧ σ1 = σ := by
  unfold zst at h
  split at h
  · rename_i v st2
    split at h
    · rename_i hk
      cases h
      exact ⟨v, rfl, hk.1, hk.2, rfl, rfl, rfl⟩
    · cases h
  · cases h
theorem zst2_inv {k i pc' : Nat} (h : zst2 k i pc' lo st σ = some (.inl (pc1, lo1, st1, σ1))) : ∃ v, st = v :: st1 ∧ zk v = k ∧ i + 1 < lo.length ∧ pc1 = pc' ∧ lo1 = lset2 lo i v ∧ σ1 = σ := by
  unfold zst2 at h
  split at h
  · rename_i v st2
    split at h
    · rename_i hk
      cases h
      exact ⟨v, rfl, hk.1, hk.2, rfl, rfl, rfl⟩
    · cases h
  · cases h
theorem zk_0 {v : Value} (h : zk v = 0) : ∃ x, v = .int x := by cases v <;> simp [zk] at h; exact ⟨_, rfl⟩
theorem zk_1 {v : Value} (h : zk v = 1) : ∃ x, v = .long x := by cases v <;> simp [zk] at h; exact ⟨_, rfl⟩
theorem zk_2 {v : Value} (h : zk v = 2) : ∃ x, v = .float x := by cases v <;> simp [zk] at h; exact ⟨_, rfl⟩
theorem zk_3 {v : Value} (h : zk v = 3) : ∃ x, v = .double x := by cases v <;> simp [zk] at h; exact ⟨_, rfl⟩
theorem vr_4 {n : Nat} {ad : Nat → Nat} {v cv : Value} (h : zk v = 4) (hv : vr n ad v cv) : cv = .null ∨ ∃ q, cv = .ref q := by
  cases v with
  | null => exact Or.inl hv
  | ref k => exact Or.inr ⟨_, hv.2⟩
  | retAddr k =>
    cases k with
    | zero => exact hv
    | succ k => exact Or.inr ⟨_, hv⟩
  | _ => simp [zk] at h
theorem tgo_inv {off : Int} (h : tgo pc off lo st σ = some (.inl (pc1, lo1, st1, σ1))) : (pc : Int) + off = (pc1 : Int) ∧ lo1 = lo ∧ st1 = st ∧ σ1 = σ := by
  unfold tgo at h
  split at h
  · rename_i hk
    cases h
    exact ⟨by omega, rfl, rfl, rfl⟩
  · cases h

theorem s_aload {k : Nat} (X : Sx p l s m args meth c R H locs mi dC dI cid base L xs ad lo ls σ) (hd : decode (mCd mi) pc = .ok (.aload k, 2)) (h : zins mi pc lo st σ (.aload k) = some (.inl (pc1, lo1, st1, σ1))) (hs : vrs (zn σ) ad st cst) (kn : Kn p l e R s m args below meth c cells slots Q mi dC dI cid base L xs ad σ (pc1) (lo1) (st1) (σ1)) : W p l e R s m args below meth c H locs cells slots Q (F0 m pc ls cst) := by
  obtain ⟨v, hv, hk, rfl, rfl, rfl, rfl⟩ := zld_inv h
  obtain ⟨cv, h1, h2⟩ := X.2.2.2.2.2.1.at hv
  rcases vr_4 hk h2 with rfl | ⟨q, rfl⟩
  · exact lv_aloadN X.1.1 X.1.2.1 hd h1 (kn.id X X.2.2.2.2.2.1 ⟨h2, hs⟩)
  · exact lv_aload X.1.1 X.1.2.1 hd h1 (kn.id X X.2.2.2.2.2.1 ⟨h2, hs⟩)

theorem s_aload_n {k : Fin 4} (X : Sx p l s m args meth c R H locs mi dC dI cid base L xs ad lo ls σ) (hd : decode (mCd mi) pc = .ok (.aload_n k, 1)) (h : zins mi pc lo st σ (.aload_n k) = some (.inl (pc1, lo1, st1, σ1))) (hs : vrs (zn σ) ad st cst) (kn : Kn p l e R s m args below meth c cells slots Q mi dC dI cid base L xs ad σ (pc1) (lo1) (st1) (σ1)) : W p l e R s m args below meth c H locs cells slots Q (F0 m pc ls cst) := by
  obtain ⟨v, hv, hk, rfl, rfl, rfl, rfl⟩ := zld_inv h
  obtain ⟨cv, h1, h2⟩ := X.2.2.2.2.2.1.at hv
  rcases vr_4 hk h2 with rfl | ⟨q, rfl⟩
  · exact lv_aload_nN X.1.1 X.1.2.1 hd rfl h1 (kn.id X X.2.2.2.2.2.1 ⟨h2, hs⟩)
  · exact lv_aload_n X.1.1 X.1.2.1 hd rfl h1 (kn.id X X.2.2.2.2.2.1 ⟨h2, hs⟩)

theorem s_iload {k : Nat} (X : Sx p l s m args meth c R H locs mi dC dI cid base L xs ad lo ls σ) (hd : decode (mCd mi) pc = .ok (.iload k, 2)) (h : zins mi pc lo st σ (.iload k) = some (.inl (pc1, lo1, st1, σ1))) (hs : vrs (zn σ) ad st cst) (kn : Kn p l e R s m args below meth c cells slots Q mi dC dI cid base L xs ad σ (pc1) (lo1) (st1) (σ1)) : W p l e R s m args below meth c H locs cells slots Q (F0 m pc ls cst) := by
  obtain ⟨v, hv, hk, rfl, rfl, rfl, rfl⟩ := zld_inv h
  obtain ⟨x, rfl⟩ := zk_0 hk
  obtain ⟨cv, h1, h2⟩ := X.2.2.2.2.2.1.at hv
  rw [show cv = _ from h2] at h1
  exact lv_iload X.1.1 X.1.2.1 hd h1 (kn.id X X.2.2.2.2.2.1 ⟨rfl, hs⟩)

theorem s_iload_n {k : Fin 4} (X : Sx p l s m args meth c R H locs mi dC dI cid base L xs ad lo ls σ) (hd : decode (mCd mi) pc = .ok (.iload_n k, 1)) (h : zins mi pc lo st σ (.iload_n k) = some (.inl (pc1, lo1, st1, σ1))) (hs : vrs (zn σ) ad st cst) (kn : Kn p l e R s m args below meth c cells slots Q mi dC dI cid base L xs ad σ (pc1) (lo1) (st1) (σ1)) : W p l e R s m args below meth c H locs cells slots Q (F0 m pc ls cst) := by
  obtain ⟨v, hv, hk, rfl, rfl, rfl, rfl⟩ := zld_inv h
  obtain ⟨x, rfl⟩ := zk_0 hk
  obtain ⟨cv, h1, h2⟩ := X.2.2.2.2.2.1.at hv
  rw [show cv = _ from h2] at h1
  exact lv_iload_n X.1.1 X.1.2.1 hd rfl h1 (kn.id X X.2.2.2.2.2.1 ⟨rfl, hs⟩)

theorem s_lload {k : Nat} (X : Sx p l s m args meth c R H locs mi dC dI cid base L xs ad lo ls σ) (hd : decode (mCd mi) pc = .ok (.lload k, 2)) (h : zins mi pc lo st σ (.lload k) = some (.inl (pc1, lo1, st1, σ1))) (hs : vrs (zn σ) ad st cst) (kn : Kn p l e R s m args below meth c cells slots Q mi dC dI cid base L xs ad σ (pc1) (lo1) (st1) (σ1)) : W p l e R s m args below meth c H locs cells slots Q (F0 m pc ls cst) := by
  obtain ⟨v, hv, hk, rfl, rfl, rfl, rfl⟩ := zld_inv h
  obtain ⟨x, rfl⟩ := zk_1 hk
  obtain ⟨cv, h1, h2⟩ := X.2.2.2.2.2.1.at hv
  rw [show cv = _ from h2] at h1
  exact lv_lload X.1.1 X.1.2.1 hd h1 (kn.id X X.2.2.2.2.2.1 ⟨rfl, hs⟩)

theorem s_lload_n {k : Fin 4} (X : Sx p l s m args meth c R H locs mi dC dI cid base L xs ad lo ls σ) (hd : decode (mCd mi) pc = .ok (.lload_n k, 1)) (h : zins mi pc lo st σ (.lload_n k) = some (.inl (pc1, lo1, st1, σ1))) (hs : vrs (zn σ) ad st cst) (kn : Kn p l e R s m args below meth c cells slots Q mi dC dI cid base L xs ad σ (pc1) (lo1) (st1) (σ1)) : W p l e R s m args below meth c H locs cells slots Q (F0 m pc ls cst) := by
  obtain ⟨v, hv, hk, rfl, rfl, rfl, rfl⟩ := zld_inv h
  obtain ⟨x, rfl⟩ := zk_1 hk
  obtain ⟨cv, h1, h2⟩ := X.2.2.2.2.2.1.at hv
  rw [show cv = _ from h2] at h1
  exact lv_lload_n X.1.1 X.1.2.1 hd rfl h1 (kn.id X X.2.2.2.2.2.1 ⟨rfl, hs⟩)

theorem s_astore {k : Nat} (X : Sx p l s m args meth c R H locs mi dC dI cid base L xs ad lo ls σ) (hd : decode (mCd mi) pc = .ok (.astore k, 2)) (h : zins mi pc lo st σ (.astore k) = some (.inl (pc1, lo1, st1, σ1))) (hs : vrs (zn σ) ad st cst) (kn : Kn p l e R s m args below meth c cells slots Q mi dC dI cid base L xs ad σ (pc1) (lo1) (st1) (σ1)) : W p l e R s m args below meth c H locs cells slots Q (F0 m pc ls cst) := by
  obtain ⟨v, rfl, hk, hi, rfl, rfl, rfl⟩ := zst_inv h
  obtain ⟨hlen, lv, hh, hc⟩ := X.2.2.2.2.2.1
  obtain ⟨cv, cst1, rfl, h2, hs1⟩ := vrs_cons hs
  rcases vr_4 hk h2 with rfl | ⟨q, rfl⟩
  · exact lv_astoreN X.1.1 X.1.2.1 hd hh (by rw [← hlen]; exact hi) rfl (fun ls1 h1 => kn.id X ⟨by rw [lset1_len]; exact hlen, _, h1, lcs_set1 hc h2⟩ hs1)
  · exact lv_astore X.1.1 X.1.2.1 hd hh (by rw [← hlen]; exact hi) rfl (fun ls1 h1 => kn.id X ⟨by rw [lset1_len]; exact hlen, _, h1, lcs_set1 hc h2⟩ hs1)

theorem s_astore_n {k : Fin 4} (X : Sx p l s m args meth c R H locs mi dC dI cid base L xs ad lo ls σ) (hd : decode (mCd mi) pc = .ok (.astore_n k, 1)) (h : zins mi pc lo st σ (.astore_n k) = some (.inl (pc1, lo1, st1, σ1))) (hs : vrs (zn σ) ad st cst) (kn : Kn p l e R s m args below meth c cells slots Q mi dC dI cid base L xs ad σ (pc1) (lo1) (st1) (σ1)) : W p l e R s m args below meth c H locs cells slots Q (F0 m pc ls cst) := by
  obtain ⟨v, rfl, hk, hi, rfl, rfl, rfl⟩ := zst_inv h
  obtain ⟨hlen, lv, hh, hc⟩ := X.2.2.2.2.2.1
  obtain ⟨cv, cst1, rfl, h2, hs1⟩ := vrs_cons hs
  rcases vr_4 hk h2 with rfl | ⟨q, rfl⟩
  · exact lv_astore_nN X.1.1 X.1.2.1 hd rfl hh (by rw [← hlen]; exact hi) rfl (fun ls1 h1 => kn.id X ⟨by rw [lset1_len]; exact hlen, _, h1, lcs_set1 hc h2⟩ hs1)
  · exact lv_astore_n X.1.1 X.1.2.1 hd rfl hh (by rw [← hlen]; exact hi) rfl (fun ls1 h1 => kn.id X ⟨by rw [lset1_len]; exact hlen, _, h1, lcs_set1 hc h2⟩ hs1)

theorem s_istore {k : Nat} (X : Sx p l s m args meth c R H locs mi dC dI cid base L xs ad lo ls σ) (hd : decode (mCd mi) pc = .ok (.istore k, 2)) (h : zins mi pc lo st σ (.istore k) = some (.inl (pc1, lo1, st1, σ1))) (hs : vrs (zn σ) ad st cst) (kn : Kn p l e R s m args below meth c cells slots Q mi dC dI cid base L xs ad σ (pc1) (lo1) (st1) (σ1)) : W p l e R s m args below meth c H locs cells slots Q (F0 m pc ls cst) := by
  obtain ⟨v, rfl, hk, hi, rfl, rfl, rfl⟩ := zst_inv h
  obtain ⟨hlen, lv, hh, hc⟩ := X.2.2.2.2.2.1
  obtain ⟨x, rfl⟩ := zk_0 hk
  obtain ⟨cst1, rfl, hs1⟩ := vrs_int hs
  exact lv_istore X.1.1 X.1.2.1 hd hh (by rw [← hlen]; exact hi) rfl (fun ls1 h1 => kn.id X ⟨by rw [lset1_len]; exact hlen, _, h1, lcs_set1 hc rfl⟩ hs1)

theorem s_istore_n {k : Fin 4} (X : Sx p l s m args meth c R H locs mi dC dI cid base L xs ad lo ls σ) (hd : decode (mCd mi) pc = .ok (.istore_n k, 1)) (h : zins mi pc lo st σ (.istore_n k) = some (.inl (pc1, lo1, st1, σ1))) (hs : vrs (zn σ) ad st cst) (kn : Kn p l e R s m args below meth c cells slots Q mi dC dI cid base L xs ad σ (pc1) (lo1) (st1) (σ1)) : W p l e R s m args below meth c H locs cells slots Q (F0 m pc ls cst) := by
  obtain ⟨v, rfl, hk, hi, rfl, rfl, rfl⟩ := zst_inv h
  obtain ⟨hlen, lv, hh, hc⟩ := X.2.2.2.2.2.1
  obtain ⟨x, rfl⟩ := zk_0 hk
  obtain ⟨cst1, rfl, hs1⟩ := vrs_int hs
  exact lv_istore_n X.1.1 X.1.2.1 hd rfl hh (by rw [← hlen]; exact hi) rfl (fun ls1 h1 => kn.id X ⟨by rw [lset1_len]; exact hlen, _, h1, lcs_set1 hc rfl⟩ hs1)

theorem s_lstore {k : Nat} (X : Sx p l s m args meth c R H locs mi dC dI cid base L xs ad lo ls σ) (hd : decode (mCd mi) pc = .ok (.lstore k, 2)) (h : zins mi pc lo st σ (.lstore k) = some (.inl (pc1, lo1, st1, σ1))) (hs : vrs (zn σ) ad st cst) (kn : Kn p l e R s m args below meth c cells slots Q mi dC dI cid base L xs ad σ (pc1) (lo1) (st1) (σ1)) : W p l e R s m args below meth c H locs cells slots Q (F0 m pc ls cst) := by
  obtain ⟨v, rfl, hk, hi, rfl, rfl, rfl⟩ := zst2_inv h
  obtain ⟨hlen, lv, hh, hc⟩ := X.2.2.2.2.2.1
  obtain ⟨x, rfl⟩ := zk_1 hk
  obtain ⟨cst1, rfl, hs1⟩ := vrs_long hs
  exact lv_lstore X.1.1 X.1.2.1 hd hh (by rw [← hlen]; exact hi) rfl (fun ls1 h1 => kn.id X ⟨by rw [lset2_len]; exact hlen, _, h1, lcs_set2 hc rfl⟩ hs1)

theorem s_lstore_n {k : Fin 4} (X : Sx p l s m args meth c R H locs mi dC dI cid base L xs ad lo ls σ) (hd : decode (mCd mi) pc = .ok (.lstore_n k, 1)) (h : zins mi pc lo st σ (.lstore_n k) = some (.inl (pc1, lo1, st1, σ1))) (hs : vrs (zn σ) ad st cst) (kn : Kn p l e R s m args below meth c cells slots Q mi dC dI cid base L xs ad σ (pc1) (lo1) (st1) (σ1)) : W p l e R s m args below meth c H locs cells slots Q (F0 m pc ls cst) := by
  obtain ⟨v, rfl, hk, hi, rfl, rfl, rfl⟩ := zst2_inv h
  obtain ⟨hlen, lv, hh, hc⟩ := X.2.2.2.2.2.1
  obtain ⟨x, rfl⟩ := zk_1 hk
  obtain ⟨cst1, rfl, hs1⟩ := vrs_long hs
  exact lv_lstore_n X.1.1 X.1.2.1 hd rfl hh (by rw [← hlen]; exact hi) rfl (fun ls1 h1 => kn.id X ⟨by rw [lset2_len]; exact hlen, _, h1, lcs_set2 hc rfl⟩ hs1)

theorem s_iinc {k : Nat} {n : Int} (X : Sx p l s m args meth c R H locs mi dC dI cid base L xs ad lo ls σ) (hd : decode (mCd mi) pc = .ok (.iinc k n, 3)) (h : zins mi pc lo st σ (.iinc k n) = some (.inl (pc1, lo1, st1, σ1))) (hs : vrs (zn σ) ad st cst) (kn : Kn p l e R s m args below meth c cells slots Q mi dC dI cid base L xs ad σ (pc1) (lo1) (st1) (σ1)) : W p l e R s m args below meth c H locs cells slots Q (F0 m pc ls cst) := by
  simp only [zins] at h
  split at h
  · rename_i x hv
    cases h
    obtain ⟨hlen, lv, hh, hc⟩ := X.2.2.2.2.2.1
    obtain ⟨cv, h1, h2⟩ := hc _ _ hv
    obtain ⟨i, hi⟩ := List.getElem?_of_mem h1
    rw [show cv = _ from h2] at hi
    exact lv_iinc X.1.1 X.1.2.1 hd hh hi rfl (by rw [← hlen]; exact (List.getElem?_eq_some_iff.mp hv).1) rfl (fun ls1 h1 => kn.id X ⟨by rw [lset1_len]; exact hlen, _, h1, lcs_set1 hc rfl⟩ hs)
  · cases h

theorem s_iconst {n : Int} (X : Sx p l s m args meth c R H locs mi dC dI cid base L xs ad lo ls σ) (hd : decode (mCd mi) pc = .ok (.iconst n, 1)) (h : zins mi pc lo st σ (.iconst n) = some (.inl (pc1, lo1, st1, σ1))) (hs : vrs (zn σ) ad st cst) (kn : Kn p l e R s m args below meth c cells slots Q mi dC dI cid base L xs ad σ (pc1) (lo1) (st1) (σ1)) : W p l e R s m args below meth c H locs cells slots Q (F0 m pc ls cst) := by
  simp only [zins] at h
  cases h
  exact lv_iconst X.1.1 X.1.2.1 hd rfl (kn.id X X.2.2.2.2.2.1 ⟨rfl, hs⟩)

theorem s_lconst {n : Fin 2} (X : Sx p l s m args meth c R H locs mi dC dI cid base L xs ad lo ls σ) (hd : decode (mCd mi) pc = .ok (.lconst n, 1)) (h : zins mi pc lo st σ (.lconst n) = some (.inl (pc1, lo1, st1, σ1))) (hs : vrs (zn σ) ad st cst) (kn : Kn p l e R s m args below meth c cells slots Q mi dC dI cid base L xs ad σ (pc1) (lo1) (st1) (σ1)) : W p l e R s m args below meth c H locs cells slots Q (F0 m pc ls cst) := by
  simp only [zins] at h
  cases h
  exact lv_lconst X.1.1 X.1.2.1 hd rfl (kn.id X X.2.2.2.2.2.1 ⟨rfl, hs⟩)

theorem s_bipush {n : Int} (X : Sx p l s m args meth c R H locs mi dC dI cid base L xs ad lo ls σ) (hd : decode (mCd mi) pc = .ok (.bipush n, 2)) (h : zins mi pc lo st σ (.bipush n) = some (.inl (pc1, lo1, st1, σ1))) (hs : vrs (zn σ) ad st cst) (kn : Kn p l e R s m args below meth c cells slots Q mi dC dI cid base L xs ad σ (pc1) (lo1) (st1) (σ1)) : W p l e R s m args below meth c H locs cells slots Q (F0 m pc ls cst) := by
  simp only [zins] at h
  cases h
  exact lv_bipush X.1.1 X.1.2.1 hd rfl (kn.id X X.2.2.2.2.2.1 ⟨rfl, hs⟩)

theorem s_sipush {n : Int} (X : Sx p l s m args meth c R H locs mi dC dI cid base L xs ad lo ls σ) (hd : decode (mCd mi) pc = .ok (.sipush n, 3)) (h : zins mi pc lo st σ (.sipush n) = some (.inl (pc1, lo1, st1, σ1))) (hs : vrs (zn σ) ad st cst) (kn : Kn p l e R s m args below meth c cells slots Q mi dC dI cid base L xs ad σ (pc1) (lo1) (st1) (σ1)) : W p l e R s m args below meth c H locs cells slots Q (F0 m pc ls cst) := by
  simp only [zins] at h
  cases h
  exact lv_sipush X.1.1 X.1.2.1 hd rfl (kn.id X X.2.2.2.2.2.1 ⟨rfl, hs⟩)

theorem s_aconst_null (X : Sx p l s m args meth c R H locs mi dC dI cid base L xs ad lo ls σ) (hd : decode (mCd mi) pc = .ok (.aconst_null, 1)) (h : zins mi pc lo st σ (.aconst_null) = some (.inl (pc1, lo1, st1, σ1))) (hs : vrs (zn σ) ad st cst) (kn : Kn p l e R s m args below meth c cells slots Q mi dC dI cid base L xs ad σ (pc1) (lo1) (st1) (σ1)) : W p l e R s m args below meth c H locs cells slots Q (F0 m pc ls cst) := by
  simp only [zins] at h
  cases h
  exact lv_null X.1.1 X.1.2.1 hd (kn.id X X.2.2.2.2.2.1 ⟨rfl, hs⟩)

theorem s_iadd (X : Sx p l s m args meth c R H locs mi dC dI cid base L xs ad lo ls σ) (hd : decode (mCd mi) pc = .ok (.iadd, 1)) (h : zins mi pc lo st σ (.iadd) = some (.inl (pc1, lo1, st1, σ1))) (hs : vrs (zn σ) ad st cst) (kn : Kn p l e R s m args below meth c cells slots Q mi dC dI cid base L xs ad σ (pc1) (lo1) (st1) (σ1)) : W p l e R s m args below meth c H locs cells slots Q (F0 m pc ls cst) := by
  simp only [zins] at h
  split at h
  · cases h
    obtain ⟨cs0, rfl, hs1⟩ := vrs_int hs
    obtain ⟨cs1, rfl, hs2⟩ := vrs_int hs1
    exact lv_iadd X.1.1 X.1.2.1 hd (kn.id X X.2.2.2.2.2.1 ⟨rfl, hs2⟩)
  · cases h

theorem s_isub (X : Sx p l s m args meth c R H locs mi dC dI cid base L xs ad lo ls σ) (hd : decode (mCd mi) pc = .ok (.isub, 1)) (h : zins mi pc lo st σ (.isub) = some (.inl (pc1, lo1, st1, σ1))) (hs : vrs (zn σ) ad st cst) (kn : Kn p l e R s m args below meth c cells slots Q mi dC dI cid base L xs ad σ (pc1) (lo1) (st1) (σ1)) : W p l e R s m args below meth c H locs cells slots Q (F0 m pc ls cst) := by
  simp only [zins] at h
  split at h
  · cases h
    obtain ⟨cs0, rfl, hs1⟩ := vrs_int hs
    obtain ⟨cs1, rfl, hs2⟩ := vrs_int hs1
    exact lv_isub X.1.1 X.1.2.1 hd (kn.id X X.2.2.2.2.2.1 ⟨rfl, hs2⟩)
  · cases h

theorem s_imul (X : Sx p l s m args meth c R H locs mi dC dI cid base L xs ad lo ls σ) (hd : decode (mCd mi) pc = .ok (.imul, 1)) (h : zins mi pc lo st σ (.imul) = some (.inl (pc1, lo1, st1, σ1))) (hs : vrs (zn σ) ad st cst) (kn : Kn p l e R s m args below meth c cells slots Q mi dC dI cid base L xs ad σ (pc1) (lo1) (st1) (σ1)) : W p l e R s m args below meth c H locs cells slots Q (F0 m pc ls cst) := by
  simp only [zins] at h
  split at h
  · cases h
    obtain ⟨cs0, rfl, hs1⟩ := vrs_int hs
    obtain ⟨cs1, rfl, hs2⟩ := vrs_int hs1
    exact lv_imul X.1.1 X.1.2.1 hd (kn.id X X.2.2.2.2.2.1 ⟨rfl, hs2⟩)
  · cases h

theorem s_iand (X : Sx p l s m args meth c R H locs mi dC dI cid base L xs ad lo ls σ) (hd : decode (mCd mi) pc = .ok (.iand, 1)) (h : zins mi pc lo st σ (.iand) = some (.inl (pc1, lo1, st1, σ1))) (hs : vrs (zn σ) ad st cst) (kn : Kn p l e R s m args below meth c cells slots Q mi dC dI cid base L xs ad σ (pc1) (lo1) (st1) (σ1)) : W p l e R s m args below meth c H locs cells slots Q (F0 m pc ls cst) := by
  simp only [zins] at h
  split at h
  · cases h
    obtain ⟨cs0, rfl, hs1⟩ := vrs_int hs
    obtain ⟨cs1, rfl, hs2⟩ := vrs_int hs1
    exact lv_iand X.1.1 X.1.2.1 hd (kn.id X X.2.2.2.2.2.1 ⟨rfl, hs2⟩)
  · cases h

theorem s_ior (X : Sx p l s m args meth c R H locs mi dC dI cid base L xs ad lo ls σ) (hd : decode (mCd mi) pc = .ok (.ior, 1)) (h : zins mi pc lo st σ (.ior) = some (.inl (pc1, lo1, st1, σ1))) (hs : vrs (zn σ) ad st cst) (kn : Kn p l e R s m args below meth c cells slots Q mi dC dI cid base L xs ad σ (pc1) (lo1) (st1) (σ1)) : W p l e R s m args below meth c H locs cells slots Q (F0 m pc ls cst) := by
  simp only [zins] at h
  split at h
  · cases h
    obtain ⟨cs0, rfl, hs1⟩ := vrs_int hs
    obtain ⟨cs1, rfl, hs2⟩ := vrs_int hs1
    exact lv_ior X.1.1 X.1.2.1 hd (kn.id X X.2.2.2.2.2.1 ⟨rfl, hs2⟩)
  · cases h

theorem s_ixor (X : Sx p l s m args meth c R H locs mi dC dI cid base L xs ad lo ls σ) (hd : decode (mCd mi) pc = .ok (.ixor, 1)) (h : zins mi pc lo st σ (.ixor) = some (.inl (pc1, lo1, st1, σ1))) (hs : vrs (zn σ) ad st cst) (kn : Kn p l e R s m args below meth c cells slots Q mi dC dI cid base L xs ad σ (pc1) (lo1) (st1) (σ1)) : W p l e R s m args below meth c H locs cells slots Q (F0 m pc ls cst) := by
  simp only [zins] at h
  split at h
  · cases h
    obtain ⟨cs0, rfl, hs1⟩ := vrs_int hs
    obtain ⟨cs1, rfl, hs2⟩ := vrs_int hs1
    exact lv_ixor X.1.1 X.1.2.1 hd (kn.id X X.2.2.2.2.2.1 ⟨rfl, hs2⟩)
  · cases h

theorem s_ishl (X : Sx p l s m args meth c R H locs mi dC dI cid base L xs ad lo ls σ) (hd : decode (mCd mi) pc = .ok (.ishl, 1)) (h : zins mi pc lo st σ (.ishl) = some (.inl (pc1, lo1, st1, σ1))) (hs : vrs (zn σ) ad st cst) (kn : Kn p l e R s m args below meth c cells slots Q mi dC dI cid base L xs ad σ (pc1) (lo1) (st1) (σ1)) : W p l e R s m args below meth c H locs cells slots Q (F0 m pc ls cst) := by
  simp only [zins] at h
  split at h
  · cases h
    obtain ⟨cs0, rfl, hs1⟩ := vrs_int hs
    obtain ⟨cs1, rfl, hs2⟩ := vrs_int hs1
    exact lv_ishl X.1.1 X.1.2.1 hd (kn.id X X.2.2.2.2.2.1 ⟨rfl, hs2⟩)
  · cases h

theorem s_ishr (X : Sx p l s m args meth c R H locs mi dC dI cid base L xs ad lo ls σ) (hd : decode (mCd mi) pc = .ok (.ishr, 1)) (h : zins mi pc lo st σ (.ishr) = some (.inl (pc1, lo1, st1, σ1))) (hs : vrs (zn σ) ad st cst) (kn : Kn p l e R s m args below meth c cells slots Q mi dC dI cid base L xs ad σ (pc1) (lo1) (st1) (σ1)) : W p l e R s m args below meth c H locs cells slots Q (F0 m pc ls cst) := by
  simp only [zins] at h
  split at h
  · cases h
    obtain ⟨cs0, rfl, hs1⟩ := vrs_int hs
    obtain ⟨cs1, rfl, hs2⟩ := vrs_int hs1
    exact lv_ishr X.1.1 X.1.2.1 hd (kn.id X X.2.2.2.2.2.1 ⟨rfl, hs2⟩)
  · cases h

theorem s_ladd (X : Sx p l s m args meth c R H locs mi dC dI cid base L xs ad lo ls σ) (hd : decode (mCd mi) pc = .ok (.ladd, 1)) (h : zins mi pc lo st σ (.ladd) = some (.inl (pc1, lo1, st1, σ1))) (hs : vrs (zn σ) ad st cst) (kn : Kn p l e R s m args below meth c cells slots Q mi dC dI cid base L xs ad σ (pc1) (lo1) (st1) (σ1)) : W p l e R s m args below meth c H locs cells slots Q (F0 m pc ls cst) := by
  simp only [zins] at h
  split at h
  · cases h
    obtain ⟨cs0, rfl, hs1⟩ := vrs_long hs
    obtain ⟨cs1, rfl, hs2⟩ := vrs_long hs1
    exact lv_ladd X.1.1 X.1.2.1 hd (kn.id X X.2.2.2.2.2.1 ⟨rfl, hs2⟩)
  · cases h

theorem s_lsub (X : Sx p l s m args meth c R H locs mi dC dI cid base L xs ad lo ls σ) (hd : decode (mCd mi) pc = .ok (.lsub, 1)) (h : zins mi pc lo st σ (.lsub) = some (.inl (pc1, lo1, st1, σ1))) (hs : vrs (zn σ) ad st cst) (kn : Kn p l e R s m args below meth c cells slots Q mi dC dI cid base L xs ad σ (pc1) (lo1) (st1) (σ1)) : W p l e R s m args below meth c H locs cells slots Q (F0 m pc ls cst) := by
  simp only [zins] at h
  split at h
  · cases h
    obtain ⟨cs0, rfl, hs1⟩ := vrs_long hs
    obtain ⟨cs1, rfl, hs2⟩ := vrs_long hs1
    exact lv_lsub X.1.1 X.1.2.1 hd (kn.id X X.2.2.2.2.2.1 ⟨rfl, hs2⟩)
  · cases h

theorem s_lcmp (X : Sx p l s m args meth c R H locs mi dC dI cid base L xs ad lo ls σ) (hd : decode (mCd mi) pc = .ok (.lcmp, 1)) (h : zins mi pc lo st σ (.lcmp) = some (.inl (pc1, lo1, st1, σ1))) (hs : vrs (zn σ) ad st cst) (kn : Kn p l e R s m args below meth c cells slots Q mi dC dI cid base L xs ad σ (pc1) (lo1) (st1) (σ1)) : W p l e R s m args below meth c H locs cells slots Q (F0 m pc ls cst) := by
  simp only [zins] at h
  split at h
  · cases h
    obtain ⟨cs0, rfl, hs1⟩ := vrs_long hs
    obtain ⟨cs1, rfl, hs2⟩ := vrs_long hs1
    exact W.lcmp X.1.1 X.1.2.1 hd (kn.id X X.2.2.2.2.2.1 ⟨rfl, hs2⟩)
  · cases h

theorem s_ineg (X : Sx p l s m args meth c R H locs mi dC dI cid base L xs ad lo ls σ) (hd : decode (mCd mi) pc = .ok (.ineg, 1)) (h : zins mi pc lo st σ (.ineg) = some (.inl (pc1, lo1, st1, σ1))) (hs : vrs (zn σ) ad st cst) (kn : Kn p l e R s m args below meth c cells slots Q mi dC dI cid base L xs ad σ (pc1) (lo1) (st1) (σ1)) : W p l e R s m args below meth c H locs cells slots Q (F0 m pc ls cst) := by
  simp only [zins] at h
  split at h
  · cases h
    obtain ⟨cs0, rfl, hs1⟩ := vrs_int hs
    exact lv_ineg X.1.1 X.1.2.1 hd (kn.id X X.2.2.2.2.2.1 ⟨rfl, hs1⟩)
  · cases h

theorem s_i2l (X : Sx p l s m args meth c R H locs mi dC dI cid base L xs ad lo ls σ) (hd : decode (mCd mi) pc = .ok (.i2l, 1)) (h : zins mi pc lo st σ (.i2l) = some (.inl (pc1, lo1, st1, σ1))) (hs : vrs (zn σ) ad st cst) (kn : Kn p l e R s m args below meth c cells slots Q mi dC dI cid base L xs ad σ (pc1) (lo1) (st1) (σ1)) : W p l e R s m args below meth c H locs cells slots Q (F0 m pc ls cst) := by
  simp only [zins] at h
  split at h
  · cases h
    obtain ⟨cs0, rfl, hs1⟩ := vrs_int hs
    exact lv_i2l X.1.1 X.1.2.1 hd rfl (kn.id X X.2.2.2.2.2.1 ⟨rfl, hs1⟩)
  · cases h

theorem s_i2b (X : Sx p l s m args meth c R H locs mi dC dI cid base L xs ad lo ls σ) (hd : decode (mCd mi) pc = .ok (.i2b, 1)) (h : zins mi pc lo st σ (.i2b) = some (.inl (pc1, lo1, st1, σ1))) (hs : vrs (zn σ) ad st cst) (kn : Kn p l e R s m args below meth c cells slots Q mi dC dI cid base L xs ad σ (pc1) (lo1) (st1) (σ1)) : W p l e R s m args below meth c H locs cells slots Q (F0 m pc ls cst) := by
  simp only [zins] at h
  split at h
  · cases h
    obtain ⟨cs0, rfl, hs1⟩ := vrs_int hs
    exact lv_i2b X.1.1 X.1.2.1 hd rfl (kn.id X X.2.2.2.2.2.1 ⟨rfl, hs1⟩)
  · cases h

theorem s_i2c (X : Sx p l s m args meth c R H locs mi dC dI cid base L xs ad lo ls σ) (hd : decode (mCd mi) pc = .ok (.i2c, 1)) (h : zins mi pc lo st σ (.i2c) = some (.inl (pc1, lo1, st1, σ1))) (hs : vrs (zn σ) ad st cst) (kn : Kn p l e R s m args below meth c cells slots Q mi dC dI cid base L xs ad σ (pc1) (lo1) (st1) (σ1)) : W p l e R s m args below meth c H locs cells slots Q (F0 m pc ls cst) := by
  simp only [zins] at h
  split at h
  · cases h
    obtain ⟨cs0, rfl, hs1⟩ := vrs_int hs
    exact lv_i2c X.1.1 X.1.2.1 hd rfl (kn.id X X.2.2.2.2.2.1 ⟨rfl, hs1⟩)
  · cases h

theorem s_idiv (X : Sx p l s m args meth c R H locs mi dC dI cid base L xs ad lo ls σ) (hd : decode (mCd mi) pc = .ok (.idiv, 1)) (h : zins mi pc lo st σ (.idiv) = some (.inl (pc1, lo1, st1, σ1))) (hs : vrs (zn σ) ad st cst) (kn : Kn p l e R s m args below meth c cells slots Q mi dC dI cid base L xs ad σ (pc1) (lo1) (st1) (σ1)) : W p l e R s m args below meth c H locs cells slots Q (F0 m pc ls cst) := by
  simp only [zins] at h
  split at h
  · split at h
    · cases h
    · rename_i hq
      cases h
      obtain ⟨cs0, rfl, hs1⟩ := vrs_int hs
      obtain ⟨cs1, rfl, hs2⟩ := vrs_int hs1
      exact lv_idiv X.1.1 X.1.2.1 hd hq (kn.id X X.2.2.2.2.2.1 ⟨rfl, hs2⟩)
  · cases h

theorem s_irem (X : Sx p l s m args meth c R H locs mi dC dI cid base L xs ad lo ls σ) (hd : decode (mCd mi) pc = .ok (.irem, 1)) (h : zins mi pc lo st σ (.irem) = some (.inl (pc1, lo1, st1, σ1))) (hs : vrs (zn σ) ad st cst) (kn : Kn p l e R s m args below meth c cells slots Q mi dC dI cid base L xs ad σ (pc1) (lo1) (st1) (σ1)) : W p l e R s m args below meth c H locs cells slots Q (F0 m pc ls cst) := by
  simp only [zins] at h
  split at h
  · split at h
    · cases h
    · rename_i hq
      cases h
      obtain ⟨cs0, rfl, hs1⟩ := vrs_int hs
      obtain ⟨cs1, rfl, hs2⟩ := vrs_int hs1
      exact lv_irem X.1.1 X.1.2.1 hd hq (kn.id X X.2.2.2.2.2.1 ⟨rfl, hs2⟩)
  · cases h

theorem s_dup (X : Sx p l s m args meth c R H locs mi dC dI cid base L xs ad lo ls σ) (hd : decode (mCd mi) pc = .ok (.dup, 1)) (h : zins mi pc lo st σ (.dup) = some (.inl (pc1, lo1, st1, σ1))) (hs : vrs (zn σ) ad st cst) (kn : Kn p l e R s m args below meth c cells slots Q mi dC dI cid base L xs ad σ (pc1) (lo1) (st1) (σ1)) : W p l e R s m args below meth c H locs cells slots Q (F0 m pc ls cst) := by
  simp only [zins] at h
  split at h
  · split at h
    · rename_i hq
      cases h
      obtain ⟨cv, cs, rfl, h1, hs1⟩ := vrs_cons hs
      exact lv_dup X.1.1 X.1.2.1 hd (by rw [vr_cat h1]; exact hq) (kn.id X X.2.2.2.2.2.1 ⟨h1, h1, hs1⟩)
    · cases h
  · cases h

theorem s_dup_x1 (X : Sx p l s m args meth c R H locs mi dC dI cid base L xs ad lo ls σ) (hd : decode (mCd mi) pc = .ok (.dup_x1, 1)) (h : zins mi pc lo st σ (.dup_x1) = some (.inl (pc1, lo1, st1, σ1))) (hs : vrs (zn σ) ad st cst) (kn : Kn p l e R s m args below meth c cells slots Q mi dC dI cid base L xs ad σ (pc1) (lo1) (st1) (σ1)) : W p l e R s m args below meth c H locs cells slots Q (F0 m pc ls cst) := by
  simp only [zins] at h
  split at h
  · split at h
    · rename_i hq
      cases h
      obtain ⟨cv, cs, rfl, h1, hs1⟩ := vrs_cons hs
      obtain ⟨cw, cs2, rfl, h2, hs2⟩ := vrs_cons hs1
      exact lv_dup_x1 X.1.1 X.1.2.1 hd (by rw [vr_cat h1]; exact hq.1) (by rw [vr_cat h2]; exact hq.2) (kn.id X X.2.2.2.2.2.1 ⟨h1, h2, h1, hs2⟩)
    · cases h
  · cases h

theorem s_pop (X : Sx p l s m args meth c R H locs mi dC dI cid base L xs ad lo ls σ) (hd : decode (mCd mi) pc = .ok (.pop, 1)) (h : zins mi pc lo st σ (.pop) = some (.inl (pc1, lo1, st1, σ1))) (hs : vrs (zn σ) ad st cst) (kn : Kn p l e R s m args below meth c cells slots Q mi dC dI cid base L xs ad σ (pc1) (lo1) (st1) (σ1)) : W p l e R s m args below meth c H locs cells slots Q (F0 m pc ls cst) := by
  simp only [zins] at h
  split at h
  · split at h
    · rename_i hq
      cases h
      obtain ⟨cv, cs, rfl, h1, hs1⟩ := vrs_cons hs
      exact lv_pop X.1.1 X.1.2.1 hd (by rw [vr_cat h1]; exact hq) (kn.id X X.2.2.2.2.2.1 hs1)
    · cases h
  · cases h

theorem s_dup2 (X : Sx p l s m args meth c R H locs mi dC dI cid base L xs ad lo ls σ) (hd : decode (mCd mi) pc = .ok (.dup2, 1)) (h : zins mi pc lo st σ (.dup2) = some (.inl (pc1, lo1, st1, σ1))) (hs : vrs (zn σ) ad st cst) (kn : Kn p l e R s m args below meth c cells slots Q mi dC dI cid base L xs ad σ (pc1) (lo1) (st1) (σ1)) : W p l e R s m args below meth c H locs cells slots Q (F0 m pc ls cst) := by
  simp only [zins] at h
  split at h
  · split at h
    · rename_i hq
      cases h
      obtain ⟨cv, cs, rfl, h1, hs1⟩ := vrs_cons hs
      obtain ⟨cw, cs2, rfl, h2, hs2⟩ := vrs_cons hs1
      exact lv_dup2_11 X.1.1 X.1.2.1 hd (by rw [vr_cat h1]; exact hq.1) (by rw [vr_cat h2]; exact hq.2) (kn.id X X.2.2.2.2.2.1 ⟨h1, h2, h1, h2, hs2⟩)
    · cases h
  · cases h

theorem s_goto {off : Int} (X : Sx p l s m args meth c R H locs mi dC dI cid base L xs ad lo ls σ) (hd : decode (mCd mi) pc = .ok (.goto off, 3)) (h : zins mi pc lo st σ (.goto off) = some (.inl (pc1, lo1, st1, σ1))) (hs : vrs (zn σ) ad st cst) (kn : Kn p l e R s m args below meth c cells slots Q mi dC dI cid base L xs ad σ (pc1) (lo1) (st1) (σ1)) : W p l e R s m args below meth c H locs cells slots Q (F0 m pc ls cst) := by
  simp only [zins] at h
  obtain ⟨h1, rfl, rfl, rfl⟩ := tgo_inv h
  exact lv_goto X.1.1 X.1.2.1 hd h1 (kn.id X X.2.2.2.2.2.1 hs)

theorem tbr_inv {off : Int} {b : Bool} (h : tbr pc off b lo st σ = some (.inl (pc1, lo1, st1, σ1))) : ∃ tgt : Nat, (pc : Int) + off = (tgt : Int) ∧ (b = true → pc1 = tgt) ∧ (b = false → pc1 = pc + 3) ∧ lo1 = lo ∧ st1 = st ∧ σ1 = σ := by
  unfold tbr at h
  split at h
  · rename_i hk
    cases h
    exact ⟨((pc : Int) + off).toNat, by omega, fun q => if_pos q, fun q => if_neg (by rw [q]; decide), rfl, rfl, rfl⟩
  · cases h

theorem s_ifCond {q : ClassFile.Cond} {off : Int} (X : Sx p l s m args meth c R H locs mi dC dI cid base L xs ad lo ls σ) (hd : decode (mCd mi) pc = .ok (.ifCond q off, 3)) (h : zins mi pc lo st σ (.ifCond q off) = some (.inl (pc1, lo1, st1, σ1))) (hs : vrs (zn σ) ad st cst) (kn : Kn p l e R s m args below meth c cells slots Q mi dC dI cid base L xs ad σ (pc1) (lo1) (st1) (σ1)) : W p l e R s m args below meth c H locs cells slots Q (F0 m pc ls cst) := by
  simp only [zins] at h
  split at h
  · obtain ⟨tgt, ht, h1, h2, rfl, rfl, rfl⟩ := tbr_inv h
    obtain ⟨cs0, rfl, hs1⟩ := vrs_int hs
    cases q
    · exact lv_if_eq X.1.1 X.1.2.1 hd ht (fun hc => by have h3 := h1 (decide_eq_true hc); subst h3; exact kn.id X X.2.2.2.2.2.1 hs1) (fun hc => by have h3 := h2 (decide_eq_false hc); subst h3; exact kn.id X X.2.2.2.2.2.1 hs1)
    · exact lv_if_ne X.1.1 X.1.2.1 hd ht (fun hc => by have h3 := h1 (decide_eq_true hc); subst h3; exact kn.id X X.2.2.2.2.2.1 hs1) (fun hc => by have h3 := h2 (decide_eq_false (not_not_intro hc)); subst h3; exact kn.id X X.2.2.2.2.2.1 hs1)
    · exact lv_if_lt X.1.1 X.1.2.1 hd ht (fun hc => by have h3 := h1 (decide_eq_true hc); subst h3; exact kn.id X X.2.2.2.2.2.1 hs1) (fun hc => by have h3 := h2 (decide_eq_false hc); subst h3; exact kn.id X X.2.2.2.2.2.1 hs1)
    · exact lv_if_ge X.1.1 X.1.2.1 hd ht (fun hc => by have h3 := h1 (decide_eq_true hc); subst h3; exact kn.id X X.2.2.2.2.2.1 hs1) (fun hc => by have h3 := h2 (decide_eq_false hc); subst h3; exact kn.id X X.2.2.2.2.2.1 hs1)
    · exact lv_if_gt X.1.1 X.1.2.1 hd ht (fun hc => by have h3 := h1 (decide_eq_true hc); subst h3; exact kn.id X X.2.2.2.2.2.1 hs1) (fun hc => by have h3 := h2 (decide_eq_false hc); subst h3; exact kn.id X X.2.2.2.2.2.1 hs1)
    · exact lv_if_le X.1.1 X.1.2.1 hd ht (fun hc => by have h3 := h1 (decide_eq_true hc); subst h3; exact kn.id X X.2.2.2.2.2.1 hs1) (fun hc => by have h3 := h2 (decide_eq_false hc); subst h3; exact kn.id X X.2.2.2.2.2.1 hs1)
  · cases h

theorem s_if_icmp {q : ClassFile.Cond} {off : Int} (X : Sx p l s m args meth c R H locs mi dC dI cid base L xs ad lo ls σ) (hd : decode (mCd mi) pc = .ok (.if_icmp q off, 3)) (h : zins mi pc lo st σ (.if_icmp q off) = some (.inl (pc1, lo1, st1, σ1))) (hs : vrs (zn σ) ad st cst) (kn : Kn p l e R s m args below meth c cells slots Q mi dC dI cid base L xs ad σ (pc1) (lo1) (st1) (σ1)) : W p l e R s m args below meth c H locs cells slots Q (F0 m pc ls cst) := by
  simp only [zins] at h
  split at h
  · obtain ⟨tgt, ht, h1, h2, rfl, rfl, rfl⟩ := tbr_inv h
    obtain ⟨cs0, rfl, hs1⟩ := vrs_int hs
    obtain ⟨cs1, rfl, hs2⟩ := vrs_int hs1
    cases q
    · exact lv_icmp_eq X.1.1 X.1.2.1 hd ht (fun hc => by have h3 := h1 (decide_eq_true hc); subst h3; exact kn.id X X.2.2.2.2.2.1 hs2) (fun hc => by have h3 := h2 (decide_eq_false hc); subst h3; exact kn.id X X.2.2.2.2.2.1 hs2)
    · exact lv_icmp_ne X.1.1 X.1.2.1 hd ht (fun hc => by have h3 := h1 (decide_eq_true hc); subst h3; exact kn.id X X.2.2.2.2.2.1 hs2) (fun hc => by have h3 := h2 (decide_eq_false (not_not_intro hc)); subst h3; exact kn.id X X.2.2.2.2.2.1 hs2)
    · exact lv_icmp_lt X.1.1 X.1.2.1 hd ht (fun hc => by have h3 := h1 (decide_eq_true hc); subst h3; exact kn.id X X.2.2.2.2.2.1 hs2) (fun hc => by have h3 := h2 (decide_eq_false hc); subst h3; exact kn.id X X.2.2.2.2.2.1 hs2)
    · exact lv_icmp_ge X.1.1 X.1.2.1 hd ht (fun hc => by have h3 := h1 (decide_eq_true hc); subst h3; exact kn.id X X.2.2.2.2.2.1 hs2) (fun hc => by have h3 := h2 (decide_eq_false hc); subst h3; exact kn.id X X.2.2.2.2.2.1 hs2)
    · exact lv_icmp_gt X.1.1 X.1.2.1 hd ht (fun hc => by have h3 := h1 (decide_eq_true hc); subst h3; exact kn.id X X.2.2.2.2.2.1 hs2) (fun hc => by have h3 := h2 (decide_eq_false hc); subst h3; exact kn.id X X.2.2.2.2.2.1 hs2)
    · exact lv_icmp_le X.1.1 X.1.2.1 hd ht (fun hc => by have h3 := h1 (decide_eq_true hc); subst h3; exact kn.id X X.2.2.2.2.2.1 hs2) (fun hc => by have h3 := h2 (decide_eq_false hc); subst h3; exact kn.id X X.2.2.2.2.2.1 hs2)
  · cases h

theorem s_ifnull {off : Int} (X : Sx p l s m args meth c R H locs mi dC dI cid base L xs ad lo ls σ) (hd : decode (mCd mi) pc = .ok (.ifnull off, 3)) (h : zins mi pc lo st σ (.ifnull off) = some (.inl (pc1, lo1, st1, σ1))) (hs : vrs (zn σ) ad st cst) (kn : Kn p l e R s m args below meth c cells slots Q mi dC dI cid base L xs ad σ (pc1) (lo1) (st1) (σ1)) : W p l e R s m args below meth c H locs cells slots Q (F0 m pc ls cst) := by
  simp only [zins] at h
  split at h
  · obtain ⟨h1, rfl, rfl, rfl⟩ := tgo_inv h
    obtain ⟨cs, rfl, hs1⟩ := vrs_null hs
    exact lv_ifnullN X.1.1 X.1.2.1 hd h1 (kn.id X X.2.2.2.2.2.1 hs1)
  · cases h
    obtain ⟨-, cs, rfl, hs1⟩ := vrs_ref hs
    exact lv_ifnull X.1.1 X.1.2.1 hd (kn.id X X.2.2.2.2.2.1 hs1)
  · cases h
    obtain ⟨c, cs, rfl, hc, hs1⟩ := vrs_cons hs
    rw [show c = _ from hc]
    exact lv_ifnull X.1.1 X.1.2.1 hd (kn.id X X.2.2.2.2.2.1 hs1)
  · cases h

theorem s_ifnonnull {off : Int} (X : Sx p l s m args meth c R H locs mi dC dI cid base L xs ad lo ls σ) (hd : decode (mCd mi) pc = .ok (.ifnonnull off, 3)) (h : zins mi pc lo st σ (.ifnonnull off) = some (.inl (pc1, lo1, st1, σ1))) (hs : vrs (zn σ) ad st cst) (kn : Kn p l e R s m args below meth c cells slots Q mi dC dI cid base L xs ad σ (pc1) (lo1) (st1) (σ1)) : W p l e R s m args below meth c H locs cells slots Q (F0 m pc ls cst) := by
  simp only [zins] at h
  split at h
  · obtain ⟨h1, rfl, rfl, rfl⟩ := tgo_inv h
    obtain ⟨-, cs, rfl, hs1⟩ := vrs_ref hs
    exact lv_ifnonnull X.1.1 X.1.2.1 hd h1 (kn.id X X.2.2.2.2.2.1 hs1)
  · obtain ⟨h1, rfl, rfl, rfl⟩ := tgo_inv h
    obtain ⟨c, cs, rfl, hc, hs1⟩ := vrs_cons hs
    rw [show c = _ from hc]
    exact lv_ifnonnull X.1.1 X.1.2.1 hd h1 (kn.id X X.2.2.2.2.2.1 hs1)
  · cases h
    obtain ⟨cs, rfl, hs1⟩ := vrs_null hs
    exact lv_ifnonnullN X.1.1 X.1.2.1 hd (kn.id X X.2.2.2.2.2.1 hs1)
  · cases h

theorem s_tableswitch {dflt low hi : Int} {offs : Array Int} {ln : Nat} (X : Sx p l s m args meth c R H locs mi dC dI cid base L xs ad lo ls σ) (hd : decode (mCd mi) pc = .ok (.tableswitch dflt low hi offs, ln)) (h : zins mi pc lo st σ (.tableswitch dflt low hi offs) = some (.inl (pc1, lo1, st1, σ1))) (hs : vrs (zn σ) ad st cst) (kn : Kn p l e R s m args below meth c cells slots Q mi dC dI cid base L xs ad σ (pc1) (lo1) (st1) (σ1)) : W p l e R s m args below meth c H locs cells slots Q (F0 m pc ls cst) := by
  simp only [zins] at h
  split at h
  · split at h
    · rename_i hq
      obtain ⟨h1, rfl, rfl, rfl⟩ := tgo_inv h
      obtain ⟨cs, rfl, hs1⟩ := vrs_int hs
      exact lv_tableOut X.1.1 X.1.2.1 hd hq h1 (kn.id X X.2.2.2.2.2.1 hs1)
    · rename_i hq
      split at h
      · rename_i off ho
        obtain ⟨h1, rfl, rfl, rfl⟩ := tgo_inv h
        obtain ⟨cs, rfl, hs1⟩ := vrs_int hs
        exact lv_tableIn X.1.1 X.1.2.1 hd (fun z => hq (Or.inl z)) (fun z => hq (Or.inr z)) ho h1 (kn.id X X.2.2.2.2.2.1 hs1)
      · cases h
  · cases h

end S8
