/-! SOUNDNESS, an instruction at a time: the heap -/
theorem vwCl_at : ∀ ci, ci < 10 → vwCl[ci]? = some (zC ci, zT ci, zN ci)
  | 0, _ => rfl
  | 1, _ => rfl
  | 2, _ => rfl
  | 3, _ => rfl
  | 4, _ => rfl
  | 5, _ => rfl
  | 6, _ => rfl
  | 7, _ => rfl
  | 8, _ => rfl
  | 9, _ => rfl
  | n + 10, h => absurd h (by omega)
theorem zin : ∀ ci, ci < 10 → ∀ w ∈ u_ws (zC ci) (zT ci) (zN ci), w ∈ ALLW
  | 0, _ => inX0
  | 1, _ => inX1
  | 2, _ => inX2
  | 3, _ => inX3
  | 4, _ => inX4
  | 5, _ => inX5
  | 6, _ => inX6
  | 7, _ => inX7
  | 8, _ => inX8
  | 9, _ => inX9
  | n + 10, h => absurd h (by omega)
theorem zTY_ok : ∀ ci, ci < 10 → ∀ k, k < zN ci → parseFieldDescriptor (zT ci k).2.2.1 = some (zTY ci k)
  | 0, _ => tyX0_ok
  | 1, _ => tyX1_ok
  | 2, _ => tyX2_ok
  | 3, _ => tyX3_ok
  | 4, _ => tyX4_ok
  | 5, _ => tyX5_ok
  | 6, _ => tyX6_ok
  | 7, _ => tyX7_ok
  | 8, _ => tyX8_ok
  | 9, _ => tyX9_ok
  | n + 10, h => absurd h (by omega)
theorem zT_nm : ∀ ci, ci < 10 → ∀ a, a < zN ci → ∀ b, b < zN ci → a ≠ b → (zT ci a).2.1 ≠ (zT ci b).2.1
  | 0, _ => nmX0
  | 1, _ => nmX1
  | 2, _ => nmX2
  | 3, _ => nmX3
  | 4, _ => nmX4
  | 5, _ => nmX5
  | 6, _ => nmX6
  | 7, _ => nmX7
  | 8, _ => nmX8
  | 9, _ => nmX9
  | n + 10, h => absurd h (by omega)
theorem zT_own : ∀ ci, ci < 10 → ∀ k, k < zN ci → (zT ci k).1 = zC ci := by decide +kernel
theorem zTY_def : ∀ ci, ci < 10 → ∀ k, k < zN ci → defaultValue (zTY ci k) = (match fso (zTY ci k) with | 0 => .int 0 | 1 => .long 0 | _ => .null) := by decide +kernel
theorem zinst : ∀ w ∈ [(Cond.instantiable "LineBalls$Ball" 11), (Cond.instantiable "LineBalls$Barrier" 3), (Cond.instantiable "LineBalls$Book" 8), (Cond.instantiable "LineBalls$History" 3), (Cond.instantiable "LineBalls$Line" 11), (Cond.instantiable "LineBalls$Log" 6), (Cond.instantiable "LineBalls$Output" 2), (Cond.instantiable "LineBalls$Parser" 7), (Cond.instantiable "LineBalls" 11), (Cond.instantiable "LineBallsModel" 27), (Cond.initialized "LineBalls$Ball"), (Cond.initialized "LineBalls$Barrier"), (Cond.initialized "LineBalls$Book"), (Cond.initialized "LineBalls$History"), (Cond.initialized "LineBalls$Line"), (Cond.initialized "LineBalls$Log"), (Cond.initialized "LineBalls$Output"), (Cond.initialized "LineBalls$Parser"), (Cond.initialized "LineBalls"), (Cond.initialized "LineBallsModel")], w ∈ ALLW := chkW_ok _ [(1, 151), (1, 58), (1, 107), (2, 61), (1, 49), (1, 81), (1, 33), (2, 33), (1, 25), (6, 10), (1, 7), (1, 4), (1, 6), (1, 9), (1, 3), (1, 5), (1, 2), (1, 8), (1, 1), (1, 10)] (by decide +kernel)
theorem zins1 : ∀ ci, ci < 10 → Cond.instantiable (zC ci) (zN ci) ∈ ALLW
  | 0, _ => zinst _ (List.mem_of_getElem? (i := 0) rfl)
  | 1, _ => zinst _ (List.mem_of_getElem? (i := 1) rfl)
  | 2, _ => zinst _ (List.mem_of_getElem? (i := 2) rfl)
  | 3, _ => zinst _ (List.mem_of_getElem? (i := 3) rfl)
  | 4, _ => zinst _ (List.mem_of_getElem? (i := 4) rfl)
  | 5, _ => zinst _ (List.mem_of_getElem? (i := 5) rfl)
  | 6, _ => zinst _ (List.mem_of_getElem? (i := 6) rfl)
  | 7, _ => zinst _ (List.mem_of_getElem? (i := 7) rfl)
  | 8, _ => zinst _ (List.mem_of_getElem? (i := 8) rfl)
  | 9, _ => zinst _ (List.mem_of_getElem? (i := 9) rfl)
  | n + 10, h => absurd h (by omega)
theorem zini1 : ∀ ci, ci < 10 → Cond.initialized (zC ci) ∈ ALLW
  | 0, _ => zinst _ (List.mem_of_getElem? (i := 10) rfl)
  | 1, _ => zinst _ (List.mem_of_getElem? (i := 11) rfl)
  | 2, _ => zinst _ (List.mem_of_getElem? (i := 12) rfl)
  | 3, _ => zinst _ (List.mem_of_getElem? (i := 13) rfl)
  | 4, _ => zinst _ (List.mem_of_getElem? (i := 14) rfl)
  | 5, _ => zinst _ (List.mem_of_getElem? (i := 15) rfl)
  | 6, _ => zinst _ (List.mem_of_getElem? (i := 16) rfl)
  | 7, _ => zinst _ (List.mem_of_getElem? (i := 17) rfl)
  | 8, _ => zinst _ (List.mem_of_getElem? (i := 18) rfl)
  | 9, _ => zinst _ (List.mem_of_getElem? (i := 19) rfl)
  | n + 10, h => absurd h (by omega)
theorem zarr : ∀ w ∈ [(Cond.arrayClass .int), (Cond.arrayClass .long), (Cond.arrayClass .byte), (Cond.arrayClass .boolean), (Cond.arrayClass .double)], w ∈ ALLW := chkW_ok _ [(1, 79), (6, 98), (1, 47), (2, 114), (8, 203)] (by decide +kernel)
theorem zjdk : ∀ w ∈ [(Cond.native arraycopyName), (Cond.static arraycopyName), (Cond.initialized "java/lang/System"), (Cond.initialized "java/lang/Math"), (Cond.static Lib.Math.min.name), (Cond.static Lib.Math.max.name), (Cond.static Lib.Math.abs.name), (Cond.static nmFloorMod), (Cond.static Lib.MathLoose.min_long.x), (Cond.code Lib.Math.min.name Lib.Math.min.code 2 (some .int)), (Cond.code Lib.Math.max.name Lib.Math.max.code 2 (some .int)), (Cond.code Lib.Math.abs.name Lib.Math.abs.code 1 (some .int)), (Cond.code nmFloorMod prog_19_method_50_code 3 (some .int)), (Cond.code Lib.MathLoose.min_long.x Lib.MathLoose.min_long.code 4 (some .long)), (Cond.instanceMethod Lib.objectInit), (Cond.code Lib.objectInit ⟨#[0xb1]⟩ 1 none)], w ∈ ALLW := chkW_ok _ [(3, 68), (3, 67), (1, 21), (1, 16), (2, 124), (3, 156), (7, 164), (3, 179), (8, 11), (2, 125), (3, 157), (7, 165), (3, 180), (8, 12), (1, 30), (1, 31)] (by decide +kernel)

theorem lkq_mem {own idx : Nat} {x : Nat × Nat × Nat} (h : lkq own idx = some x) : (idx, x) ∈ lk own := by
  unfold lkq at h
  cases hf : (lk own).find? (fun e => e.1 == idx) with
  | none => rw [hf] at h; cases h
  | some q =>
    rw [hf] at h
    have hx : q.2 = x := Option.some.inj h
    have h1 : q.1 = idx := by simpa using List.find?_some hf
    have h2 := List.mem_of_find?_eq_some hf
    rw [← hx, ← h1]
    exact h2
theorem lkq_own {own idx : Nat} {x : Nat × Nat × Nat} (h : lkq own idx = some x) : own < 14 := by
  have := lkq_mem h
  match own, this with
  | n + 14, h => cases h
  | 0, _ | 1, _ | 2, _ | 3, _ | 4, _ | 5, _ | 6, _ | 7, _ | 8, _ | 9, _ | 10, _ | 11, _ | 12, _ | 13, _ => omega
theorem lk_str : ∀ own, own < 14 → ∀ x ∈ lk own, x.2.1 = 7 → ∃ q ∈ strK, q.1 = own ∧ q.2.1 = x.1 ∧ q.2.2.2 = x.2.2.1 := by decide +kernel
theorem fl_at {ad : Nat → Nat} {σ : St} {ci a k : Nat} (hk : k < zN ci) : ((List.range (zN ci)).map (fun j => fvl ad σ ci j a))[k]? = some (fvl ad σ ci k a) := by
  rw [List.getElem?_map, List.getElem?_range hk]
  rfl
theorem inx_in {i : Int32} {n : Nat} (h : inx i n = true) : vp_in i n := by
  unfold inx at h
  simp only [Bool.and_eq_true, decide_eq_true_eq] at h
  intro z
  rcases z with z | z
  · rw [Int32.lt_iff_toInt_lt] at z
    have := h.1
    rw [Int32.le_iff_toInt_le] at this
    omega
  · omega
/-- one object's contents changed -/
def Kp (σ : St) (a : Nat) (σ1 : St) : Prop := σ1.1 = σ.1 ∧ zh σ1 = zh σ ∧ (∀ b, b ≠ a → zI σ1 b = zI σ b ∧ zL σ1 b = zL σ b ∧ zD σ1 b = zD σ b ∧ zR σ1 b = zR σ b) ∧ ∀ j, zR σ1 a j ≤ zn σ
theorem up2_ne {α : Type} {f : Nat → Nat → α} {a k : Nat} {v : α} {b : Nat} (h : b ≠ a) : up2 f a k v b = f b := by
  funext j
  simp [up2, h]
theorem up2_eq {α : Type} {f : Nat → Nat → α} {a k : Nat} {v : α} : up2 f a k v a = fun j => if j = k then v else f a j := by
  funext j
  simp [up2]
theorem Kp.I {L : Nat} {xs : Nat → Int32} {σ : St} (h : wf L xs σ) (a k : Nat) (v : Int32) : Kp σ a (wI σ a k v) := ⟨rfl, rfl, fun _ hb => ⟨up2_ne hb, rfl, rfl, rfl⟩, fun j => h.2.2.2.2.2 a j⟩
theorem Kp.L {L : Nat} {xs : Nat → Int32} {σ : St} (h : wf L xs σ) (a k : Nat) (v : Int64) : Kp σ a (wL σ a k v) := ⟨rfl, rfl, fun _ hb => ⟨rfl, up2_ne hb, rfl, rfl⟩, fun j => h.2.2.2.2.2 a j⟩
theorem Kp.D {L : Nat} {xs : Nat → Int32} {σ : St} (h : wf L xs σ) (a k : Nat) (v : UInt64) : Kp σ a (wD σ a k v) := ⟨rfl, rfl, fun _ hb => ⟨rfl, rfl, up2_ne hb, rfl⟩, fun j => h.2.2.2.2.2 a j⟩
theorem Kp.R {L : Nat} {xs : Nat → Int32} {σ : St} (h : wf L xs σ) (a k v : Nat) (hv : v ≤ zn σ) : Kp σ a (wR σ a k v) := ⟨rfl, rfl, fun _ hb => ⟨rfl, rfl, rfl, up2_ne hb⟩, fun j => by
  show up2 (zR σ) a k v a j ≤ zn σ
  rw [up2_eq]
  dsimp only
  split
  · exact hv
  · exact h.2.2.2.2.2 a j⟩
theorem Kp.n {σ σ1 : St} {a : Nat} (h : Kp σ a σ1) : zn σ1 = zn σ := congrArg (fun q => q.1) h.1
theorem Kp.cu {σ σ1 : St} {a : Nat} (h : Kp σ a σ1) : cu σ1 = cu σ := congrArg (fun (q : Nat × Nat × Nat) => q.1 + q.2.2) h.1
theorem Kp.su {σ σ1 : St} {a : Nat} (h : Kp σ a σ1) : su σ1 = su σ := congrArg (fun (q : Nat × Nat × Nat) => q.2.1 + 6 * q.2.2) h.1
theorem Kp.cel {cid : Nat → ClassId} {ad : Nat → Nat} {σ σ1 : St} {a : Nat} (h : Kp σ a σ1) (b : Nat) (hb : b ≠ a) : cel cid ad σ1 b = cel cid ad σ b := by
  obtain ⟨h1, h2, h3, h4⟩ := h.2.2.1 b hb
  unfold Jvm.Pilot.@@N@@.cel fvl
  rw [h.2.1, h1, h2, h3, h4]
theorem Kp.wf {L : Nat} {xs : Nat → Int32} {σ σ1 : St} {a : Nat} (h : Kp σ a σ1) (hw : wf L xs σ) (h15 : 15 ≤ a) (ha : a < zn σ) : wf L xs σ1 := by
  obtain ⟨g1, g2, ⟨g3, g3'⟩, g4, g5, g6⟩ := hw
  refine ⟨by rw [h.n]; exact g1, fun b hb => ?_, ⟨by rw [h.2.1]; exact g3, fun j => by rw [(h.2.2.1 0 (by omega)).1]; exact g3' j⟩, fun i hi => ⟨by rw [h.2.1]; exact (g4 i hi).1, by rw [h.2.1]; exact (g4 i hi).2.1, fun j => by rw [(h.2.2.1 (8 + i) (by omega)).1]; exact (g4 i hi).2.2 j⟩, fun b hb => by rw [h.2.1]; exact g5 b hb, fun b j => ?_⟩
  · rw [h.n] at hb
    obtain ⟨q1, q2, q3, q4⟩ := h.2.2.1 b (by omega)
    rw [h.2.1, q1, q2, q3, q4]
    exact g2 b hb
  · rw [h.n]
    by_cases hb : b = a
    · subst hb; exact h.2.2.2 j
    · rw [(h.2.2.1 b hb).2.2.2]; exact g6 b j
theorem wf.k15 {L : Nat} {xs : Nat → Int32} {σ : St} (h : wf L xs σ) {a : Nat} (h0 : 18 < (zh σ a).1) : a < 15 := by
  rcases Nat.lt_or_ge a 15 with q | q
  · exact q
  · exact absurd (h.2.2.2.2.1 a q) (by omega)
theorem wf.k19 {L : Nat} {xs : Nat → Int32} {σ : St} (h : wf L xs σ) {a : Nat} (h0 : (zh σ a).1 = 19) : a = 0 := by
  have h1 := h.k15 (a := a) (by omega)
  rcases Nat.eq_zero_or_pos a with q | q
  · exact q
  · obtain ⟨-, -, -, g4, -⟩ := h
    rcases Nat.lt_or_ge a 8 with q2 | q2
    · have := (g4 (a - 1) (by omega)).1
      rw [show 1 + (a - 1) = a by omega] at this
      rw [this] at h0
      omega
    · have := (g4 (a - 8) (by omega)).2.1
      rw [show 8 + (a - 8) = a by omega] at this
      rw [this] at h0
      omega
theorem wf.k20 {L : Nat} {xs : Nat → Int32} {σ : St} (h : wf L xs σ) {a : Nat} (h0 : (zh σ a).1 = 20) : ∃ i, i < 7 ∧ a = 1 + i := by
  have h1 := h.k15 (a := a) (by omega)
  obtain ⟨-, -, ⟨g3, -⟩, g4, -⟩ := h
  rcases Nat.lt_or_ge a 8 with q2 | q2
  · rcases Nat.eq_zero_or_pos a with q | q
    · subst q
      rw [g3] at h0
      omega
    · exact ⟨a - 1, by omega, by omega⟩
  · have := (g4 (a - 8) (by omega)).2.1
    rw [show 8 + (a - 8) = a by omega] at this
    rw [this] at h0
    omega
theorem wf.k21 {L : Nat} {xs : Nat → Int32} {σ : St} (h : wf L xs σ) {a : Nat} (h0 : (zh σ a).1 = 21) : ∃ i, i < 7 ∧ a = 8 + i := by
  have h1 := h.k15 (a := a) (by omega)
  obtain ⟨-, -, ⟨g3, -⟩, g4, -⟩ := h
  rcases Nat.lt_or_ge a 8 with q2 | q2
  · rcases Nat.eq_zero_or_pos a with q | q
    · subst q
      rw [g3] at h0
      omega
    · have := (g4 (a - 1) (by omega)).1
      rw [show 1 + (a - 1) = a by omega] at this
      rw [this] at h0
      omega
  · exact ⟨a - 8, by omega, by omega⟩
theorem rf_ext {n : Nat} {ad ad' : Nat → Nat} (h : ∀ k, k < n → ad' k = ad k) {q : Nat} (hq : q ≤ n) : rf ad' q = rf ad q := by
  match q, hq with
  | 0, _ => rfl
  | j + 1, hq => show some (ad' j) = some (ad j); rw [h j hq]
theorem cel_ext {cid : Nat → ClassId} {L : Nat} {xs : Nat → Int32} {ad ad' : Nat → Nat} {σ : St} (hw : wf L xs σ) (h : ∀ k, k < zn σ → ad' k = ad k) (a : Nat) : cel cid ad' σ a = cel cid ad σ a := by
  unfold cel fvl
  simp only [rf_ext h (hw.2.2.2.2.2 a _)]
theorem wf.new {L : Nat} {xs : Nat → Int32} {σ : St} (h : wf L xs σ) {kd : Nat × Nat} (n : Nat) (hk : kd.1 ≤ 18) : wf L xs (zNew σ kd n) := by
  obtain ⟨g1, g2, ⟨g3, g3'⟩, g4, g5, g6⟩ := h
  have hz : ∀ b, b ≠ zn σ → zh (zNew σ kd n) b = zh σ b := fun b hb => if_neg hb
  refine ⟨Nat.le_succ_of_le g1, fun b hb => ?_, ⟨by rw [hz 0 (by omega)]; exact g3, g3'⟩, fun i hi => ⟨by rw [hz _ (by omega)]; exact (g4 i hi).1, by rw [hz _ (by omega)]; exact (g4 i hi).2.1, (g4 i hi).2.2⟩, fun b hb => ?_, fun b j => Nat.le_succ_of_le (g6 b j)⟩
  · have hb' : zn σ + 1 ≤ b := hb
    rw [hz b (by omega)]
    exact g2 b (by omega)
  · by_cases q : b = zn σ
    · subst q
      show (up1 (zh σ) (zn σ) kd (zn σ)).1 ≤ 18
      simp [up1, hk]
    · rw [hz b q]; exact g5 b hb
theorem wl_new {cid : Nat → ClassId} {L : Nat} {xs : Nat → Int32} {ad : Nat → Nat} {σ : St} (h : wf L xs σ) (kd : Nat × Nat) (n q : Nat) : wl cid (up1 ad (zn σ) q) (zNew σ kd n) = wl cid ad σ ++ [(q, cel cid (up1 ad (zn σ) q) (zNew σ kd n) (zn σ))] := by
  have h15 := h.1
  unfold wl
  rw [show zn (zNew σ kd n) - 15 = (zn σ - 15) + 1 from by show zn σ + 1 - 15 = _; omega, List.range_succ, List.map_append]
  congr 1
  · apply List.map_congr_left
    intro j hj
    rw [List.mem_range] at hj
    have h1 : ∀ k, k < zn σ → up1 ad (zn σ) q k = ad k := fun k hk => if_neg (by omega)
    rw [h1 _ (by omega), ← cel_ext h h1]
    congr 1
    unfold cel fvl
    rw [show zh (zNew σ kd n) (j + 15) = zh σ (j + 15) from if_neg (by omega)]
    rfl
  · simp only [List.map_cons, List.map_nil]
    rw [show zn σ - 15 + 15 = zn σ by omega]
    congr 2
    exact if_pos rfl
section S9
variable {p : Program} {l : Launch} {e : Env} {R : Room} {s : State} {m : MethodId} {args : Array Value} {below : List Frame} {meth : Method} {c : Code} {H : Heap} {locs : List Loc} {cells slots : Nat} {Q : State → Prop}
variable {mi pc : Nat} {dC : Nat → ClassId} {dI : Nat → Nat → Nat} {cid : Nat → ClassId} {base L : Nat} {xs : Nat → Int32} {ad : Nat → Nat} {lo lo1 : Lo} {ls : Array Slot} {st st1 cst : List Value} {σ σ1 : St} {pc1 : Nat}
/-- behind a write: the object a holds what σ1 says -/
theorem Kn.set {pc' a : Nat} {st' cst1 : List Value} {e1 : va_E} {H1 : Heap} {locs1 : List Loc} (kn : Kn p l e R s m args below meth c cells slots Q mi dC dI cid base L xs ad σ (pc') (lo) (st') (σ1)) (X : Sx p l s m args meth c R H locs mi dC dI cid base L xs ad lo ls σ) (h : Kp σ a σ1) (h15 : 15 ≤ a) (ha : a < zn σ) (he : cel cid ad σ1 a = e1)
    (hP : va_P (dC, dI) vwCl ((wl cid ad σ).set (a - 15) (ad a, e1)) H1) (hD : va_D (AA base) ((wl cid ad σ).set (a - 15) (ad a, e1))) (hS : va_S (AA base) s.heap H1 locs1) (hs : vrs (zn σ) ad st' cst1) :
    W p l e R s m args below meth c H1 locs1 cells slots Q (F0 m pc' ls cst1) := by
  subst he
  rw [wl_set h15 h.n h.cel] at hP hD
  have hk := kn H1 locs1 ls ad cst1 ⟨hP, hD, h.wf X.2.2.2.1.2.2 h15 ha⟩ (fun _ _ => rfl) hS (by rw [h.n]; exact X.2.2.2.2.2.1) (by rw [h.n]; exact hs)
  rw [h.cu, h.su, Nat.sub_self, Nat.sub_self, Nat.add_zero, Nat.add_zero] at hk
  exact hk
/-- behind a new object -/
theorem Kn.new {pc' q n : Nat} {kd : Nat × Nat} {st' cst1 : List Value} {H1 : Heap} (kn : Kn p l e R s m args below meth c cells slots Q mi dC dI cid base L xs ad σ (pc') (lo) (.ref (zn σ) :: st') (zNew σ kd n)) (X : Sx p l s m args meth c R H locs mi dC dI cid base L xs ad lo ls σ) (hk : kd.1 ≤ 18) {e1 : va_E} (he : cel cid (up1 ad (zn σ) q) (zNew σ kd n) (zn σ) = e1)
    (hP : va_P (dC, dI) vwCl (wl cid ad σ ++ [(q, e1)]) H1) (hD : va_D (AA base) (wl cid ad σ ++ [(q, e1)])) (hS : va_S (AA base) s.heap H1 locs) (hs : vrs (zn σ) ad st' cst1) :
    W p l e R s m args below meth c H1 locs (cells + 1) (slots + n) Q (F0 m pc' ls (.ref q :: cst1)) := by
  subst he
  have hw := X.2.2.2.1.2.2
  rw [← wl_new hw] at hP hD
  have h1 : ∀ k, k < zn σ → up1 ad (zn σ) q k = ad k := fun k hk => if_neg (by omega)
  have hk := kn H1 locs ls (up1 ad (zn σ) q) (.ref q :: cst1) ⟨hP, hD, hw.new n hk⟩ h1 hS (X.2.2.2.2.2.1.mono h1 (Nat.le_succ _)) ⟨⟨Nat.lt_succ_self _, by rw [show up1 ad (zn σ) q (zn σ) = q from if_pos rfl]⟩, vrs_mono h1 (Nat.le_succ _) hs⟩
  rw [show cells + (cu (zNew σ kd n) - cu σ) = cells + 1 from by show cells + (zn σ + 1 + zt σ - (zn σ + zt σ)) = cells + 1; omega, show slots + (su (zNew σ kd n) - su σ) = slots + n from by show slots + (zs σ + n + 6 * zt σ - (zs σ + 6 * zt σ)) = slots + n; omega] at hk
  exact hk

theorem s_getfield {idx : Nat} (X : Sx p l s m args meth c R H locs mi dC dI cid base L xs ad lo ls σ) (hd : decode (mCd mi) pc = .ok (.getfield idx, 3)) (h : zins mi pc lo st σ (.getfield idx) = some (.inl (pc1, lo1, st1, σ1))) (hs : vrs (zn σ) ad st cst) (kn : Kn p l e R s m args below meth c cells slots Q mi dC dI cid base L xs ad σ (pc1) (lo1) (st1) (σ1)) : W p l e R s m args below meth c H locs cells slots Q (F0 m pc ls cst) := by
  simp only [zins] at h
  split at h
  · rename_i a st2
    obtain ⟨hlt, cs, rfl, hs1⟩ := vrs_ref hs
    split at h
    · rename_i ci k heq
      split at h
      · rename_i hq
        cases h
        obtain ⟨hw, hg⟩ := lkq_ok heq
        have hg : ci < 10 ∧ k < zN ci := by simpa [lSg] using hg
        have hkd : (zh σ a).1 = ci + 1 := by rw [hq]
        obtain ⟨h15, -⟩ := X.2.2.2.1.2.2.own (a := a) (by omega) (by omega)
        exact va_get X.1.1 X.1.2.1 (own := zC (mOw mi)) (ref := zC ci) X.1.2.2.2.2.2.2.2.1 (zin ci hg.1) X.1.2.2.2.2.1 X.2.1.1 X.2.2.2.1.1 (a - 15) ((wl_at h15 hlt).trans (by rw [cel_o hkd hg.1])) (vwCl_at ci hg.1) k hg.2 (X.1.2.2.2.2.2.2.2.1 _ (hw _ (by simp [lWs]))) (by rw [zT_own ci hg.1 k hg.2]; exact fun x h => h) (fl_at hg.2) hd (kn.id X X.2.2.2.2.2.1 ⟨gvl_vr X.2.2.2.1.2.2 ci k a, hs1⟩)
      · cases h
    · rename_i x1 x2 heq
      split at h
      · rename_i hq
        cases h
        obtain ⟨hw, -⟩ := lkq_ok heq
        obtain ⟨i, hi, rfl⟩ := X.2.2.2.1.2.2.k20 hq
        have h3 := (X.2.2.1.2.2.2.1.1 i hi).2.2.1
        refine vk_getf X.1.1 X.1.2.1 h3 X.2.2.2.2.1 X.1.2.2.2.2.1 (X.1.2.2.2.2.2.2.2.1 _ (hw _ (by simp [lWs]))) (fun x h => h) hd (kn.id X X.2.2.2.2.2.1 ⟨⟨?_, ?_⟩, hs1⟩)
        · show 1 + i + 7 < zn σ; have := X.2.2.2.1.2.2.1; omega
        · show Value.ref (ad (8 + i)) = Value.ref (ad (1 + i + 7)); rw [show 1 + i + 7 = 8 + i by omega]
      · cases h
    · rename_i x1 x2 heq
      split at h
      · rename_i hq
        cases h
        obtain ⟨hw, -⟩ := lkq_ok heq
        obtain ⟨i, hi, rfl⟩ := X.2.2.2.1.2.2.k20 hq
        exact vk_getf X.1.1 X.1.2.1 (X.2.2.1.2.2.2.1.1 i hi).2.1 X.2.2.2.2.1 X.1.2.2.2.2.1 (X.1.2.2.2.2.2.2.2.1 _ (hw _ (by simp [lWs]))) (fun x h => h) hd (kn.id X X.2.2.2.2.2.1 ⟨rfl, hs1⟩)
      · cases h
    · cases h
  · cases h

theorem fl_set {ad : Nat → Nat} {σ σ1 : St} {ci a k : Nat} {v : Value} (hk : k < zN ci) (hv : fvl ad σ1 ci k a = v) (ho : ∀ j, j ≠ k → fvl ad σ1 ci j a = fvl ad σ ci j a) : (List.range (zN ci)).map (fun j => fvl ad σ1 ci j a) = ((List.range (zN ci)).map (fun j => fvl ad σ ci j a)).set k v := by
  apply List.ext_getElem?
  intro i
  by_cases hi : i = k
  · subst hi
    rw [fl_at hk, List.getElem?_set_self (by simpa using hk), hv]
  · rw [List.getElem?_set_ne (Ne.symm hi), List.getElem?_map, List.getElem?_map]
    by_cases hl : i < zN ci
    · rw [List.getElem?_range hl]
      simp only [Option.map_some]
      rw [ho i hi]
    · rw [List.getElem?_eq_none (by simpa using hl)]
      rfl
/-- a field's new value, beside the cells -/
theorem pvl_ok {L : Nat} {xs : Nat → Int32} {ad : Nat → Nat} {σ σ1 : St} {ci k a : Nat} {v cv : Value} (hw : wf L xs σ) (h : pvl σ ci k a v = some σ1) (hv : vr (zn σ) ad v cv) : Kp σ a σ1 ∧ fvl ad σ1 ci k a = cv ∧ (∀ j, j ≠ k → fvl ad σ1 ci j a = fvl ad σ ci j a) ∧ (okv (zTY ci k) v = true → narrow (zTY ci k) cv = cv ∧ fits (zTY ci k) cv = true) := by
  unfold pvl at h
  split at h
  · rename_i x hf
    cases h
    have hc : cv = _ := hv
    refine ⟨Kp.I hw a k x, ?_, fun j hj => ?_, fun ho => ?_⟩
    · unfold fvl; rw [hf, hc]; show Value.int (up2 (zI σ) a k x a k) = _; simp [up2]
    · unfold fvl; show (match fso (zTY ci j) with | 0 => Value.int (up2 (zI σ) a k x a j) | 1 => _ | _ => _) = _; simp only [up2, hj, and_false, if_false]; rfl
    · rw [hc]; simpa [okv] using ho
  · rename_i x hf
    cases h
    have hc : cv = _ := hv
    refine ⟨Kp.L hw a k x, ?_, fun j hj => ?_, fun ho => ?_⟩
    · unfold fvl; rw [hf, hc]; show Value.long (up2 (zL σ) a k x a k) = _; simp [up2]
    · unfold fvl; show (match fso (zTY ci j) with | 0 => _ | 1 => Value.long (up2 (zL σ) a k x a j) | _ => _) = _; simp only [up2, hj, and_false, if_false]; rfl
    · rw [hc]; simpa [okv] using ho
  · rename_i b hf
    cases h
    obtain ⟨hb, hc⟩ := (hv : b < zn σ ∧ cv = .ref (ad b))
    refine ⟨Kp.R hw a k (b + 1) hb, ?_, fun j hj => ?_, fun ho => ?_⟩
    · unfold fvl; rw [hf, hc]; show va_rf (rf ad (up2 (zR σ) a k (b + 1) a k)) = _; simp [up2, rf, va_rf]
    · unfold fvl; show (match fso (zTY ci j) with | 0 => _ | 1 => _ | _ => va_rf (rf ad (up2 (zR σ) a k (b + 1) a j))) = _; simp only [up2, hj, and_false, if_false]; rfl
    · rw [hc]
      cases ht : zTY ci k <;> rw [ht] at ho <;> simp_all [okv, narrow, fits]
  · rename_i hf
    cases h
    have hc : cv = _ := hv
    refine ⟨Kp.R hw a k 0 (Nat.zero_le _), ?_, fun j hj => ?_, fun ho => ?_⟩
    · unfold fvl; rw [hf, hc]; show va_rf (rf ad (up2 (zR σ) a k 0 a k)) = _; simp [up2, rf, va_rf]
    · unfold fvl; show (match fso (zTY ci j) with | 0 => _ | 1 => _ | _ => va_rf (rf ad (up2 (zR σ) a k 0 a j))) = _; simp only [up2, hj, and_false, if_false]; rfl
    · rw [hc]; simpa [okv] using ho
  · cases h

theorem s_putfield {idx : Nat} (X : Sx p l s m args meth c R H locs mi dC dI cid base L xs ad lo ls σ) (hd : decode (mCd mi) pc = .ok (.putfield idx, 3)) (h : zins mi pc lo st σ (.putfield idx) = some (.inl (pc1, lo1, st1, σ1))) (hs : vrs (zn σ) ad st cst) (kn : Kn p l e R s m args below meth c cells slots Q mi dC dI cid base L xs ad σ (pc1) (lo1) (st1) (σ1)) : W p l e R s m args below meth c H locs cells slots Q (F0 m pc ls cst) := by
  simp only [zins] at h
  split at h
  · rename_i v a st2
    obtain ⟨cv, cs, rfl, h1, hs1⟩ := vrs_cons hs
    obtain ⟨hlt, cs2, rfl, hs2⟩ := vrs_ref hs1
    split at h
    · rename_i ci k heq
      split at h
      · rename_i hq
        split at h
        · rename_i σ2 hp2
          cases h
          obtain ⟨hw, hg⟩ := lkq_ok heq
          have hg : ci < 10 ∧ k < zN ci := by simpa [lSg] using hg
          have hkd : (zh σ a).1 = ci + 1 := by rw [hq.1]
          obtain ⟨h15, -⟩ := X.2.2.2.1.2.2.own (a := a) (by omega) (by omega)
          obtain ⟨hKp, hv1, hv2, hok⟩ := pvl_ok X.2.2.2.1.2.2 hp2 h1
          obtain ⟨hn, hf⟩ := hok hq.2.1
          have hcel : cel cid ad σ1 a = .inr (ci, ((List.range (zN ci)).map (fun j => fvl ad σ ci j a)).set k cv) := by
            rw [cel_o (by rw [hKp.2.1]; exact hkd) hg.1, fl_set hg.2 hv1 hv2]
          have hsame : ∀ x, s.fieldFound? (zT ci k).1 (zT ci k).2.1 (zT ci k).2.2.1 = some x → s.fieldFound? (zC ci) (zT ci k).2.1 (zT ci k).2.2.1 = some x := by rw [zT_own ci hg.1 k hg.2]; exact fun x h => h
          cases hfin : (zT ci k).2.2.2 with
          | false =>
            exact va_put X.1.1 X.1.2.1 (own := zC (mOw mi)) (ref := zC ci) X.1.2.2.2.2.2.2.2.1 (zin ci hg.1) (zTY ci) (zTY_ok ci hg.1) (zT_nm ci hg.1) X.1.2.2.2.2.1 X.2.1.1 X.2.2.2.1.1 X.2.2.2.1.2.1 X.2.2.2.2.1 (a - 15) ((wl_at h15 hlt).trans (by rw [cel_o hkd hg.1])) (vwCl_at ci hg.1) k hg.2 (X.1.2.2.2.2.2.2.2.1 _ (hw _ (by simp [lWs]))) hsame hfin (zTY_ok ci hg.1 k hg.2) hn hf (by simpa using hg.2) hd (fun H1 locs1 hP hD hS => kn.set X hKp h15 hlt hcel hP hD hS hs2)
          | true =>
            obtain ⟨hk2, hown⟩ := hq.2.2 hfin
            exact va_putF X.1.1 X.1.2.1 (own := zC (mOw mi)) (ref := zC ci) X.1.2.2.2.2.2.2.2.1 (zin ci hg.1) (zTY ci) (zTY_ok ci hg.1) (zT_nm ci hg.1) X.1.2.2.2.2.1 X.2.1.1 X.2.2.2.1.1 X.2.2.2.1.2.1 X.2.2.2.2.1 (a - 15) ((wl_at h15 hlt).trans (by rw [cel_o hkd hg.1])) (vwCl_at ci hg.1) k hg.2 (X.1.2.2.2.2.2.2.2.1 _ (hw _ (by simp [lWs]))) hsame hfin (X.1.2.2.2.2.2.2.2.2.1 hk2) (by rw [zT_own ci hg.1 k hg.2, hown]) (zTY_ok ci hg.1 k hg.2) hn hf (by simpa using hg.2) hd (fun H1 locs1 hP hD hS => kn.set X hKp h15 hlt hcel hP hD hS hs2)
        · cases h
      · cases h
    · cases h
  · cases h

theorem s_iaload (X : Sx p l s m args meth c R H locs mi dC dI cid base L xs ad lo ls σ) (hd : decode (mCd mi) pc = .ok (.iaload, 1)) (h : zins mi pc lo st σ (.iaload) = some (.inl (pc1, lo1, st1, σ1))) (hs : vrs (zn σ) ad st cst) (kn : Kn p l e R s m args below meth c cells slots Q mi dC dI cid base L xs ad σ (pc1) (lo1) (st1) (σ1)) : W p l e R s m args below meth c H locs cells slots Q (F0 m pc ls cst) := by
  simp only [zins] at h
  split at h
  · rename_i i a st2
    split at h
    · rename_i hq
      cases h
      have hin := inx_in hq.2
      obtain ⟨cs, rfl, hs1⟩ := vrs_int hs
      obtain ⟨hlt, cs2, rfl, hs2⟩ := vrs_ref hs1
      rcases hq.1 with hk | hk
      · obtain ⟨h15, -⟩ := X.2.2.2.1.2.2.own (a := a) (by omega) (by omega)
        exact va_iald X.1.1 X.1.2.1 X.2.1.1 X.2.2.2.1.1 (a - 15) 0 ((wl_at h15 hlt).trans (by rw [cel_i hk (Or.inl rfl)])) rfl hin hd (kn.id X X.2.2.2.2.2.1 ⟨rfl, hs2⟩)
      · have ha := X.2.2.2.1.2.2.k19 hk
        subst ha
        rw [X.2.2.2.1.2.2.2.2.1.1] at hin
        refine va_sld X.1.1 X.1.2.1 X.2.2.1.2.1 (Nat.lt_of_lt_of_le X.2.2.1.2.2.1 X.2.2.1.1) (Nat.not_le.mpr X.2.2.1.2.2.1) X.2.2.2.2.1 hin hd (kn.id X X.2.2.2.2.2.1 ⟨?_, hs2⟩)
        show Value.int _ = Value.int _
        rw [X.2.2.2.1.2.2.2.2.1.2]
    · cases h
  · cases h

theorem s_laload (X : Sx p l s m args meth c R H locs mi dC dI cid base L xs ad lo ls σ) (hd : decode (mCd mi) pc = .ok (.laload, 1)) (h : zins mi pc lo st σ (.laload) = some (.inl (pc1, lo1, st1, σ1))) (hs : vrs (zn σ) ad st cst) (kn : Kn p l e R s m args below meth c cells slots Q mi dC dI cid base L xs ad σ (pc1) (lo1) (st1) (σ1)) : W p l e R s m args below meth c H locs cells slots Q (F0 m pc ls cst) := by
  simp only [zins] at h
  split at h
  · rename_i i a st2
    split at h
    · rename_i hq
      cases h
      have hin := inx_in hq.2
      obtain ⟨cs, rfl, hs1⟩ := vrs_int hs
      obtain ⟨hlt, cs2, rfl, hs2⟩ := vrs_ref hs1
      have hk := hq.1
      obtain ⟨h15, -⟩ := X.2.2.2.1.2.2.own (a := a) (by omega) (by omega)
      exact va_lald X.1.1 X.1.2.1 X.2.1.1 X.2.2.2.1.1 (a - 15) 1 ((wl_at h15 hlt).trans (by rw [cel_l hk])) rfl hin hd (kn.id X X.2.2.2.2.2.1 ⟨rfl, hs2⟩)
    · cases h
  · cases h

theorem s_daload (X : Sx p l s m args meth c R H locs mi dC dI cid base L xs ad lo ls σ) (hd : decode (mCd mi) pc = .ok (.daload, 1)) (h : zins mi pc lo st σ (.daload) = some (.inl (pc1, lo1, st1, σ1))) (hs : vrs (zn σ) ad st cst) (kn : Kn p l e R s m args below meth c cells slots Q mi dC dI cid base L xs ad σ (pc1) (lo1) (st1) (σ1)) : W p l e R s m args below meth c H locs cells slots Q (F0 m pc ls cst) := by
  simp only [zins] at h
  split at h
  · rename_i i a st2
    split at h
    · rename_i hq
      cases h
      have hin := inx_in hq.2
      obtain ⟨cs, rfl, hs1⟩ := vrs_int hs
      obtain ⟨hlt, cs2, rfl, hs2⟩ := vrs_ref hs1
      have hk := hq.1
      obtain ⟨h15, -⟩ := X.2.2.2.1.2.2.own (a := a) (by omega) (by omega)
      exact va_dald X.1.1 X.1.2.1 X.2.1.1 X.2.2.2.1.1 (a - 15) 4 ((wl_at h15 hlt).trans (by rw [cel_d hk])) rfl hin hd (kn.id X X.2.2.2.2.2.1 ⟨rfl, hs2⟩)
    · cases h
  · cases h

theorem s_baload (X : Sx p l s m args meth c R H locs mi dC dI cid base L xs ad lo ls σ) (hd : decode (mCd mi) pc = .ok (.baload, 1)) (h : zins mi pc lo st σ (.baload) = some (.inl (pc1, lo1, st1, σ1))) (hs : vrs (zn σ) ad st cst) (kn : Kn p l e R s m args below meth c cells slots Q mi dC dI cid base L xs ad σ (pc1) (lo1) (st1) (σ1)) : W p l e R s m args below meth c H locs cells slots Q (F0 m pc ls cst) := by
  simp only [zins] at h
  split at h
  · rename_i i a st2
    split at h
    · rename_i hq
      cases h
      have hin := inx_in hq.2
      obtain ⟨cs, rfl, hs1⟩ := vrs_int hs
      obtain ⟨hlt, cs2, rfl, hs2⟩ := vrs_ref hs1
      rcases hq.1 with hk | hk | hk
      · obtain ⟨h15, -⟩ := X.2.2.2.1.2.2.own (a := a) (by omega) (by omega)
        exact va_bald X.1.1 X.1.2.1 X.2.1.1 X.2.2.2.1.1 (a - 15) 2 ((wl_at h15 hlt).trans (by rw [cel_i hk (Or.inr (Or.inl rfl))])) rfl hin hd (kn.id X X.2.2.2.2.2.1 ⟨rfl, hs2⟩)
      · obtain ⟨h15, -⟩ := X.2.2.2.1.2.2.own (a := a) (by omega) (by omega)
        exact va_zald X.1.1 X.1.2.1 X.2.1.1 X.2.2.2.1.1 (a - 15) 3 ((wl_at h15 hlt).trans (by rw [cel_i hk (Or.inr (Or.inr rfl))])) rfl hin hd (kn.id X X.2.2.2.2.2.1 ⟨rfl, hs2⟩)
      · obtain ⟨j, hj, rfl⟩ := X.2.2.2.1.2.2.k21 hk
        rw [(X.2.2.2.1.2.2.2.2.2.1 j hj).2.1] at hin
        refine va_tb X.1.1 X.1.2.1 (X.2.2.1.2.2.2.1.1 j hj).2.2.2 X.2.2.2.2.1 hin rfl hd (kn.id X X.2.2.2.2.2.1 ⟨?_, hs2⟩)
        show Value.int _ = Value.int _
        rw [(X.2.2.2.1.2.2.2.2.2.1 j hj).2.2]
    · cases h
  · cases h

theorem s_aaload (X : Sx p l s m args meth c R H locs mi dC dI cid base L xs ad lo ls σ) (hd : decode (mCd mi) pc = .ok (.aaload, 1)) (h : zins mi pc lo st σ (.aaload) = some (.inl (pc1, lo1, st1, σ1))) (hs : vrs (zn σ) ad st cst) (kn : Kn p l e R s m args below meth c cells slots Q mi dC dI cid base L xs ad σ (pc1) (lo1) (st1) (σ1)) : W p l e R s m args below meth c H locs cells slots Q (F0 m pc ls cst) := by
  simp only [zins] at h
  split at h
  · rename_i i a st2
    split at h
    · rename_i hq
      cases h
      have hin := inx_in hq.2
      obtain ⟨cs, rfl, hs1⟩ := vrs_int hs
      obtain ⟨hlt, cs2, rfl, hs2⟩ := vrs_ref hs1
      rcases hq.1 with hk | hk | hk
      · obtain ⟨h15, -⟩ := X.2.2.2.1.2.2.own (a := a) (by omega) (by omega)
        exact va_aldq X.1.1 X.1.2.1 X.2.1.1 X.2.2.2.1.1 (a - 15) 5 ((wl_at h15 hlt).trans (by rw [cel_q hk (Or.inl rfl)])) rfl hin hd (kn.id X X.2.2.2.2.2.1 ⟨rv_vr X.2.2.2.1.2.2 _ _, hs2⟩)
      · obtain ⟨h15, -⟩ := X.2.2.2.1.2.2.own (a := a) (by omega) (by omega)
        exact va_aldq X.1.1 X.1.2.1 X.2.1.1 X.2.2.2.1.1 (a - 15) 6 ((wl_at h15 hlt).trans (by rw [cel_q hk (Or.inr (Or.inl rfl))])) rfl hin hd (kn.id X X.2.2.2.2.2.1 ⟨rv_vr X.2.2.2.1.2.2 _ _, hs2⟩)
      · obtain ⟨h15, -⟩ := X.2.2.2.1.2.2.own (a := a) (by omega) (by omega)
        exact va_aldq X.1.1 X.1.2.1 X.2.1.1 X.2.2.2.1.1 (a - 15) 7 ((wl_at h15 hlt).trans (by rw [cel_q hk (Or.inr (Or.inr rfl))])) rfl hin hd (kn.id X X.2.2.2.2.2.1 ⟨rv_vr X.2.2.2.1.2.2 _ _, hs2⟩)
    · cases h
  · cases h

theorem s_iastore (X : Sx p l s m args meth c R H locs mi dC dI cid base L xs ad lo ls σ) (hd : decode (mCd mi) pc = .ok (.iastore, 1)) (h : zins mi pc lo st σ (.iastore) = some (.inl (pc1, lo1, st1, σ1))) (hs : vrs (zn σ) ad st cst) (kn : Kn p l e R s m args below meth c cells slots Q mi dC dI cid base L xs ad σ (pc1) (lo1) (st1) (σ1)) : W p l e R s m args below meth c H locs cells slots Q (F0 m pc ls cst) := by
  simp only [zins] at h
  split at h
  · rename_i x i a st2
    split at h
    · rename_i hq
      cases h
      have hin := inx_in hq.2
      have hk := hq.1
      obtain ⟨cs, rfl, hs1⟩ := vrs_int hs
      obtain ⟨cs2, rfl, hs2⟩ := vrs_int hs1
      obtain ⟨hlt, cs3, rfl, hs3⟩ := vrs_ref hs2
      obtain ⟨h15, -⟩ := X.2.2.2.1.2.2.own (a := a) (by omega) (by omega)
      exact va_iast X.1.1 X.1.2.1 X.2.1.1 X.2.2.2.1.1 X.2.2.2.1.2.1 X.2.2.2.2.1 (a - 15) 0 ((wl_at h15 hlt).trans (by rw [cel_i hk (Or.inl rfl)])) rfl hin hd (fun H1 locs1 hP hD hS => kn.set X (Kp.I X.2.2.2.1.2.2 a _ x) h15 hlt (by rw [cel_i (show (zh (wI σ a _ x) a).1 = 11 from hk) (Or.inl rfl)]; show _ = Sum.inl (_, _, Sum.inl _); rw [show zI (wI σ a i.toNatClampNeg x) a = upd (zI σ a) i.toNatClampNeg x from up2_eq]; rfl) hP hD hS hs3)
    · cases h
  · cases h

theorem s_lastore (X : Sx p l s m args meth c R H locs mi dC dI cid base L xs ad lo ls σ) (hd : decode (mCd mi) pc = .ok (.lastore, 1)) (h : zins mi pc lo st σ (.lastore) = some (.inl (pc1, lo1, st1, σ1))) (hs : vrs (zn σ) ad st cst) (kn : Kn p l e R s m args below meth c cells slots Q mi dC dI cid base L xs ad σ (pc1) (lo1) (st1) (σ1)) : W p l e R s m args below meth c H locs cells slots Q (F0 m pc ls cst) := by
  simp only [zins] at h
  split at h
  · rename_i x i a st2
    split at h
    · rename_i hq
      cases h
      have hin := inx_in hq.2
      have hk := hq.1
      obtain ⟨cs, rfl, hs1⟩ := vrs_long hs
      obtain ⟨cs2, rfl, hs2⟩ := vrs_int hs1
      obtain ⟨hlt, cs3, rfl, hs3⟩ := vrs_ref hs2
      obtain ⟨h15, -⟩ := X.2.2.2.1.2.2.own (a := a) (by omega) (by omega)
      exact va_last X.1.1 X.1.2.1 X.2.1.1 X.2.2.2.1.1 X.2.2.2.1.2.1 X.2.2.2.2.1 (a - 15) 1 ((wl_at h15 hlt).trans (by rw [cel_l hk])) rfl hin hd (fun H1 locs1 hP hD hS => kn.set X (Kp.L X.2.2.2.1.2.2 a _ x) h15 hlt (by rw [cel_l (show (zh (wL σ a _ x) a).1 = 12 from hk), show zL (wL σ a i.toNatClampNeg x) a = vp_updL (zL σ a) i.toNatClampNeg x from up2_eq]; rfl) hP hD hS hs3)
    · cases h
  · cases h

theorem s_dastore (X : Sx p l s m args meth c R H locs mi dC dI cid base L xs ad lo ls σ) (hd : decode (mCd mi) pc = .ok (.dastore, 1)) (h : zins mi pc lo st σ (.dastore) = some (.inl (pc1, lo1, st1, σ1))) (hs : vrs (zn σ) ad st cst) (kn : Kn p l e R s m args below meth c cells slots Q mi dC dI cid base L xs ad σ (pc1) (lo1) (st1) (σ1)) : W p l e R s m args below meth c H locs cells slots Q (F0 m pc ls cst) := by
  simp only [zins] at h
  split at h
  · rename_i x i a st2
    split at h
    · rename_i hq
      cases h
      have hin := inx_in hq.2
      have hk := hq.1
      obtain ⟨cs, rfl, hs1⟩ := vrs_double hs
      obtain ⟨cs2, rfl, hs2⟩ := vrs_int hs1
      obtain ⟨hlt, cs3, rfl, hs3⟩ := vrs_ref hs2
      obtain ⟨h15, -⟩ := X.2.2.2.1.2.2.own (a := a) (by omega) (by omega)
      exact va_dast X.1.1 X.1.2.1 X.2.1.1 X.2.2.2.1.1 X.2.2.2.1.2.1 X.2.2.2.2.1 (a - 15) 4 ((wl_at h15 hlt).trans (by rw [cel_d hk])) rfl hin hd (fun H1 locs1 hP hD hS => kn.set X (Kp.D X.2.2.2.1.2.2 a _ x) h15 hlt (by rw [cel_d (show (zh (wD σ a _ x) a).1 = 15 from hk), show zD (wD σ a i.toNatClampNeg x) a = vf_upd (zD σ a) i.toNatClampNeg x from up2_eq]; rfl) hP hD hS hs3)
    · cases h
  · cases h

theorem s_bastore (X : Sx p l s m args meth c R H locs mi dC dI cid base L xs ad lo ls σ) (hd : decode (mCd mi) pc = .ok (.bastore, 1)) (h : zins mi pc lo st σ (.bastore) = some (.inl (pc1, lo1, st1, σ1))) (hs : vrs (zn σ) ad st cst) (kn : Kn p l e R s m args below meth c cells slots Q mi dC dI cid base L xs ad σ (pc1) (lo1) (st1) (σ1)) : W p l e R s m args below meth c H locs cells slots Q (F0 m pc ls cst) := by
  simp only [zins] at h
  split at h
  · rename_i x i a st2
    split at h
    · rename_i hq
      have hin := inx_in hq
      obtain ⟨cs, rfl, hs1⟩ := vrs_int hs
      obtain ⟨cs2, rfl, hs2⟩ := vrs_int hs1
      obtain ⟨hlt, cs3, rfl, hs3⟩ := vrs_ref hs2
      split at h
      · rename_i hk
        cases h
        obtain ⟨h15, -⟩ := X.2.2.2.1.2.2.own (a := a) (by omega) (by omega)
        exact va_bast X.1.1 X.1.2.1 X.2.1.1 X.2.2.2.1.1 X.2.2.2.1.2.1 X.2.2.2.2.1 (a - 15) 2 ((wl_at h15 hlt).trans (by rw [cel_i hk (Or.inr (Or.inl rfl))])) rfl hin hd (fun H1 locs1 hP hD hS => kn.set X (Kp.I X.2.2.2.1.2.2 a _ _) h15 hlt (by rw [cel_i (show (zh (wI σ a _ _) a).1 = 13 from hk) (Or.inr (Or.inl rfl)), show zI (wI σ a i.toNatClampNeg (vp_nar .byte x)) a = upd (zI σ a) i.toNatClampNeg (vp_nar .byte x) from up2_eq]; rfl) hP hD hS hs3)
      · split at h
        · rename_i hk
          cases h
          obtain ⟨h15, -⟩ := X.2.2.2.1.2.2.own (a := a) (by omega) (by omega)
          exact va_zast X.1.1 X.1.2.1 X.2.1.1 X.2.2.2.1.1 X.2.2.2.1.2.1 X.2.2.2.2.1 (a - 15) 3 ((wl_at h15 hlt).trans (by rw [cel_i hk (Or.inr (Or.inr rfl))])) rfl hin hd (fun H1 locs1 hP hD hS => kn.set X (Kp.I X.2.2.2.1.2.2 a _ _) h15 hlt (by rw [cel_i (show (zh (wI σ a _ _) a).1 = 14 from hk) (Or.inr (Or.inr rfl)), show zI (wI σ a i.toNatClampNeg (vp_nar .boolean x)) a = upd (zI σ a) i.toNatClampNeg (vp_nar .boolean x) from up2_eq]; rfl) hP hD hS hs3)
        · cases h
    · cases h
  · cases h

theorem s_aastore (X : Sx p l s m args meth c R H locs mi dC dI cid base L xs ad lo ls σ) (hd : decode (mCd mi) pc = .ok (.aastore, 1)) (h : zins mi pc lo st σ (.aastore) = some (.inl (pc1, lo1, st1, σ1))) (hs : vrs (zn σ) ad st cst) (kn : Kn p l e R s m args below meth c cells slots Q mi dC dI cid base L xs ad σ (pc1) (lo1) (st1) (σ1)) : W p l e R s m args below meth c H locs cells slots Q (F0 m pc ls cst) := by
  simp only [zins] at h
  split at h
  · rename_i v i a st2
    split at h
    · rename_i hq
      cases h
      obtain ⟨hk0, hin0, hv⟩ := hq
      have hin := inx_in hin0
      obtain ⟨hvl, cs, rfl, hs1⟩ := vrs_ref hs
      obtain ⟨cs2, rfl, hs2⟩ := vrs_int hs1
      obtain ⟨hlt, cs3, rfl, hs3⟩ := vrs_ref hs2
      rcases hk0 with hk | hk | hk
      · obtain ⟨h15, -⟩ := X.2.2.2.1.2.2.own (a := a) (by omega) (by omega)
        rw [hk] at hv
        have hv' : (zh σ v).1 = 0 + 1 := by rw [hv]; rfl
        obtain ⟨v15, -⟩ := X.2.2.2.1.2.2.own (a := v) (by omega) (by omega)
        exact va_astq X.1.1 X.1.2.1 X.2.1.1 X.2.2.2.1.1 X.2.2.2.1.2.1 X.2.2.2.2.1 (a - 15) 5 (v - 15) 0 (r := (zC 0, zT 0, zN 0)) ((wl_at h15 hlt).trans (by rw [cel_q hk (Or.inl rfl)])) rfl ((wl_at v15 hvl).trans (by rw [cel_o hv' (by omega)])) rfl hin hd (fun H1 locs1 hP hD hS => kn.set X (Kp.R X.2.2.2.1.2.2 a _ (v + 1) hvl) h15 hlt (by
          rw [cel_q (show (zh (wR σ a _ _) a).1 = 16 from hk) (Or.inl rfl)]
          refine congrArg (fun q => Sum.inl (_, _, Sum.inr (Sum.inr (Sum.inr (Sum.inr q))))) (funext fun j => ?_)
          show rf ad (up2 (zR σ) a i.toNatClampNeg (v + 1) a j) = va_up (fun j => rf ad (zR σ a j)) i.toNatClampNeg (some (ad v)) j
          unfold up2 va_up
          by_cases hj : j = i.toNatClampNeg
          · rw [if_pos ⟨rfl, hj⟩, if_pos hj]; rfl
          · rw [if_neg (fun z => hj z.2), if_neg hj]) hP hD hS hs3)
      · obtain ⟨h15, -⟩ := X.2.2.2.1.2.2.own (a := a) (by omega) (by omega)
        rw [hk] at hv
        have hv' : (zh σ v).1 = 1 + 1 := by rw [hv]; rfl
        obtain ⟨v15, -⟩ := X.2.2.2.1.2.2.own (a := v) (by omega) (by omega)
        exact va_astq X.1.1 X.1.2.1 X.2.1.1 X.2.2.2.1.1 X.2.2.2.1.2.1 X.2.2.2.2.1 (a - 15) 6 (v - 15) 1 (r := (zC 1, zT 1, zN 1)) ((wl_at h15 hlt).trans (by rw [cel_q hk (Or.inr (Or.inl rfl))])) rfl ((wl_at v15 hvl).trans (by rw [cel_o hv' (by omega)])) rfl hin hd (fun H1 locs1 hP hD hS => kn.set X (Kp.R X.2.2.2.1.2.2 a _ (v + 1) hvl) h15 hlt (by
          rw [cel_q (show (zh (wR σ a _ _) a).1 = 17 from hk) (Or.inr (Or.inl rfl))]
          refine congrArg (fun q => Sum.inl (_, _, Sum.inr (Sum.inr (Sum.inr (Sum.inr q))))) (funext fun j => ?_)
          show rf ad (up2 (zR σ) a i.toNatClampNeg (v + 1) a j) = va_up (fun j => rf ad (zR σ a j)) i.toNatClampNeg (some (ad v)) j
          unfold up2 va_up
          by_cases hj : j = i.toNatClampNeg
          · rw [if_pos ⟨rfl, hj⟩, if_pos hj]; rfl
          · rw [if_neg (fun z => hj z.2), if_neg hj]) hP hD hS hs3)
      · obtain ⟨h15, -⟩ := X.2.2.2.1.2.2.own (a := a) (by omega) (by omega)
        rw [hk] at hv
        have hv' : (zh σ v).1 = 4 + 1 := by rw [hv]; rfl
        obtain ⟨v15, -⟩ := X.2.2.2.1.2.2.own (a := v) (by omega) (by omega)
        exact va_astq X.1.1 X.1.2.1 X.2.1.1 X.2.2.2.1.1 X.2.2.2.1.2.1 X.2.2.2.2.1 (a - 15) 7 (v - 15) 4 (r := (zC 4, zT 4, zN 4)) ((wl_at h15 hlt).trans (by rw [cel_q hk (Or.inr (Or.inr rfl))])) rfl ((wl_at v15 hvl).trans (by rw [cel_o hv' (by omega)])) rfl hin hd (fun H1 locs1 hP hD hS => kn.set X (Kp.R X.2.2.2.1.2.2 a _ (v + 1) hvl) h15 hlt (by
          rw [cel_q (show (zh (wR σ a _ _) a).1 = 18 from hk) (Or.inr (Or.inr rfl))]
          refine congrArg (fun q => Sum.inl (_, _, Sum.inr (Sum.inr (Sum.inr (Sum.inr q))))) (funext fun j => ?_)
          show rf ad (up2 (zR σ) a i.toNatClampNeg (v + 1) a j) = va_up (fun j => rf ad (zR σ a j)) i.toNatClampNeg (some (ad v)) j
          unfold up2 va_up
          by_cases hj : j = i.toNatClampNeg
          · rw [if_pos ⟨rfl, hj⟩, if_pos hj]; rfl
          · rw [if_neg (fun z => hj z.2), if_neg hj]) hP hD hS hs3)
    · cases h
  · cases h

theorem s_arraylength (X : Sx p l s m args meth c R H locs mi dC dI cid base L xs ad lo ls σ) (hd : decode (mCd mi) pc = .ok (.arraylength, 1)) (h : zins mi pc lo st σ (.arraylength) = some (.inl (pc1, lo1, st1, σ1))) (hs : vrs (zn σ) ad st cst) (kn : Kn p l e R s m args below meth c cells slots Q mi dC dI cid base L xs ad σ (pc1) (lo1) (st1) (σ1)) : W p l e R s m args below meth c H locs cells slots Q (F0 m pc ls cst) := by
  simp only [zins] at h
  split at h
  · rename_i a st2
    split at h
    · rename_i hq
      cases h
      obtain ⟨hlt, cs2, rfl, hs1⟩ := vrs_ref hs
      by_cases h19 : (zh σ a).1 = 19
      · have ha := X.2.2.2.1.2.2.k19 h19
        subst ha
        rw [X.2.2.2.1.2.2.2.2.1.1] at kn
        exact va_slen X.1.1 X.1.2.1 X.2.2.1.2.1 (Nat.lt_of_lt_of_le X.2.2.1.2.2.1 X.2.2.1.1) (Nat.not_le.mpr X.2.2.1.2.2.1) X.2.2.2.2.1 hd (kn.id X X.2.2.2.2.2.1 ⟨rfl, hs1⟩)
      · by_cases h21 : (zh σ a).1 = 21
        · obtain ⟨j, hj, rfl⟩ := X.2.2.2.1.2.2.k21 h21
          rw [(X.2.2.2.1.2.2.2.2.2.1 j hj).2.1] at kn
          exact va_tlen X.1.1 X.1.2.1 (X.2.2.1.2.2.2.1.1 j hj).2.2.2 X.2.2.2.2.1 rfl hd (kn.id X X.2.2.2.2.2.1 ⟨rfl, hs1⟩)
        · obtain ⟨h15, -⟩ := X.2.2.2.1.2.2.own (a := a) (by omega) (by omega)
          have hk : (zh σ a).1 = 11 ∨ (zh σ a).1 = 12 ∨ (zh σ a).1 = 13 ∨ (zh σ a).1 = 14 ∨ (zh σ a).1 = 15 ∨ (zh σ a).1 = 16 ∨ (zh σ a).1 = 17 ∨ (zh σ a).1 = 18 := by omega
          rcases hk with hk | hk | hk | hk | hk | hk | hk | hk
          · exact va_alen (v := Int32.ofNat (zh σ a).2) X.1.1 X.1.2.1 X.2.1.1 X.2.2.2.1.1 (a - 15) 0 ((wl_at h15 hlt).trans (by rw [cel_i hk (Or.inl rfl)])) rfl rfl hd (kn.id X X.2.2.2.2.2.1 ⟨rfl, hs1⟩)
          · exact va_alen (v := Int32.ofNat (zh σ a).2) X.1.1 X.1.2.1 X.2.1.1 X.2.2.2.1.1 (a - 15) 1 ((wl_at h15 hlt).trans (by rw [cel_l hk])) rfl rfl hd (kn.id X X.2.2.2.2.2.1 ⟨rfl, hs1⟩)
          · exact va_alen (v := Int32.ofNat (zh σ a).2) X.1.1 X.1.2.1 X.2.1.1 X.2.2.2.1.1 (a - 15) 2 ((wl_at h15 hlt).trans (by rw [cel_i hk (Or.inr (Or.inl rfl))])) rfl rfl hd (kn.id X X.2.2.2.2.2.1 ⟨rfl, hs1⟩)
          · exact va_alen (v := Int32.ofNat (zh σ a).2) X.1.1 X.1.2.1 X.2.1.1 X.2.2.2.1.1 (a - 15) 3 ((wl_at h15 hlt).trans (by rw [cel_i hk (Or.inr (Or.inr rfl))])) rfl rfl hd (kn.id X X.2.2.2.2.2.1 ⟨rfl, hs1⟩)
          · exact va_alen (v := Int32.ofNat (zh σ a).2) X.1.1 X.1.2.1 X.2.1.1 X.2.2.2.1.1 (a - 15) 4 ((wl_at h15 hlt).trans (by rw [cel_d hk])) rfl rfl hd (kn.id X X.2.2.2.2.2.1 ⟨rfl, hs1⟩)
          · exact va_alen (v := Int32.ofNat (zh σ a).2) X.1.1 X.1.2.1 X.2.1.1 X.2.2.2.1.1 (a - 15) 5 ((wl_at h15 hlt).trans (by rw [cel_q hk (Or.inl rfl)])) rfl rfl hd (kn.id X X.2.2.2.2.2.1 ⟨rfl, hs1⟩)
          · exact va_alen (v := Int32.ofNat (zh σ a).2) X.1.1 X.1.2.1 X.2.1.1 X.2.2.2.1.1 (a - 15) 6 ((wl_at h15 hlt).trans (by rw [cel_q hk (Or.inr (Or.inl rfl))])) rfl rfl hd (kn.id X X.2.2.2.2.2.1 ⟨rfl, hs1⟩)
          · exact va_alen (v := Int32.ofNat (zh σ a).2) X.1.1 X.1.2.1 X.2.1.1 X.2.2.2.1.1 (a - 15) 7 ((wl_at h15 hlt).trans (by rw [cel_q hk (Or.inr (Or.inr rfl))])) rfl rfl hd (kn.id X X.2.2.2.2.2.1 ⟨rfl, hs1⟩)
    · cases h
  · cases h

theorem va_ldcSW {cc : ByteArray} {rest : List Value} (hexec : p.tables.exec = Jvm.exec) (hb : c.code = cc) {own tx : String} {index q : Nat} (hown : s.vm.findClass own = some m.cls) (hZ : vk_R own index tx q s) (hdg : decode cc pc = .ok (.ldc_w index, 3))
    (k : W p l e R s m args below meth c H locs cells slots Q (F0 m (pc + 3) ls (.ref q :: rest))) : W p l e R s m args below meth c H locs cells slots Q (F0 m pc ls rest) := by
  intro T hT X
  obtain ⟨t, a1, b1⟩ := k T hT X
  exact ⟨t, X.ldcStringW hexec hown (text := tx) (a := q) hZ.1 hZ.2 (g := F0 m pc ls rest) rfl (by rw [hb]; exact hdg) t a1, b1⟩

theorem s_ldc {idx : Nat} (X : Sx p l s m args meth c R H locs mi dC dI cid base L xs ad lo ls σ) (hd : decode (mCd mi) pc = .ok (.ldc idx, 2)) (h : zins mi pc lo st σ (.ldc idx) = some (.inl (pc1, lo1, st1, σ1))) (hs : vrs (zn σ) ad st cst) (kn : Kn p l e R s m args below meth c cells slots Q mi dC dI cid base L xs ad σ (pc1) (lo1) (st1) (σ1)) : W p l e R s m args below meth c H locs cells slots Q (F0 m pc ls cst) := by
  simp only [zins] at h
  split at h
  · rename_i j b heq
    cases h
    have hj : j < 7 := by simpa [lSg] using (lkq_ok heq).2
    obtain ⟨q, hq1, hq2, hq3, hq4⟩ := lk_str _ (lkq_own heq) _ (lkq_mem heq) rfl
    have hR := X.2.1.2.2.1 q hq1
    rw [hq2, hq3, hq4] at hR
    exact va_ldcS X.1.1 X.1.2.1 X.1.2.2.2.2.1 hR hd (kn.id X X.2.2.2.2.2.1 ⟨⟨by show 1 + j < zn σ; have := X.2.2.2.1.2.2.1; omega, rfl⟩, hs⟩)
  · rename_i v b heq
    cases h
    exact lv_ldc X.1.1 X.1.2.1 X.1.2.2.2.2.1 (X.1.2.2.2.2.2.2.2.1 _ ((lkq_ok heq).1 _ (by simp [lWs]))) hd (kn.id X X.2.2.2.2.2.1 ⟨rfl, hs⟩)
  · cases h

theorem s_ldc_w {idx : Nat} (X : Sx p l s m args meth c R H locs mi dC dI cid base L xs ad lo ls σ) (hd : decode (mCd mi) pc = .ok (.ldc_w idx, 3)) (h : zins mi pc lo st σ (.ldc_w idx) = some (.inl (pc1, lo1, st1, σ1))) (hs : vrs (zn σ) ad st cst) (kn : Kn p l e R s m args below meth c cells slots Q mi dC dI cid base L xs ad σ (pc1) (lo1) (st1) (σ1)) : W p l e R s m args below meth c H locs cells slots Q (F0 m pc ls cst) := by
  simp only [zins] at h
  split at h
  · rename_i j b heq
    cases h
    have hj : j < 7 := by simpa [lSg] using (lkq_ok heq).2
    obtain ⟨q, hq1, hq2, hq3, hq4⟩ := lk_str _ (lkq_own heq) _ (lkq_mem heq) rfl
    have hR := X.2.1.2.2.1 q hq1
    rw [hq2, hq3, hq4] at hR
    exact va_ldcSW X.1.1 X.1.2.1 X.1.2.2.2.2.1 hR hd (kn.id X X.2.2.2.2.2.1 ⟨⟨by show 1 + j < zn σ; have := X.2.2.2.1.2.2.1; omega, rfl⟩, hs⟩)
  · cases h

theorem s_ldc2_w {idx : Nat} (X : Sx p l s m args meth c R H locs mi dC dI cid base L xs ad lo ls σ) (hd : decode (mCd mi) pc = .ok (.ldc2_w idx, 3)) (h : zins mi pc lo st σ (.ldc2_w idx) = some (.inl (pc1, lo1, st1, σ1))) (hs : vrs (zn σ) ad st cst) (kn : Kn p l e R s m args below meth c cells slots Q mi dC dI cid base L xs ad σ (pc1) (lo1) (st1) (σ1)) : W p l e R s m args below meth c H locs cells slots Q (F0 m pc ls cst) := by
  simp only [zins] at h
  split at h
  · rename_i a b heq
    cases h
    exact lv_ldc2 X.1.1 X.1.2.1 X.1.2.2.2.2.1 (X.1.2.2.2.2.2.2.2.1 _ ((lkq_ok heq).1 _ (by simp [lWs]))) hd (kn.id X X.2.2.2.2.2.1 ⟨rfl, hs⟩)
  · rename_i a b heq
    cases h
    exact lv_ldc2d X.1.1 X.1.2.1 X.1.2.2.2.2.1 (X.1.2.2.2.2.2.2.2.1 _ ((lkq_ok heq).1 _ (by simp [lWs]))) hd (kn.id X X.2.2.2.2.2.1 ⟨rfl, hs⟩)
  · cases h

theorem s_getstatic {idx : Nat} (X : Sx p l s m args meth c R H locs mi dC dI cid base L xs ad lo ls σ) (hd : decode (mCd mi) pc = .ok (.getstatic idx, 3)) (h : zins mi pc lo st σ (.getstatic idx) = some (.inl (pc1, lo1, st1, σ1))) (hs : vrs (zn σ) ad st cst) (kn : Kn p l e R s m args below meth c cells slots Q mi dC dI cid base L xs ad σ (pc1) (lo1) (st1) (σ1)) : W p l e R s m args below meth c H locs cells slots Q (F0 m pc ls cst) := by
  simp only [zins] at h
  split at h
  · rename_i a b heq
    cases h
    exact va_gets X.1.1 X.1.2.1 X.2.2.1.2.2.2.2.1 X.2.2.2.2.1 X.1.2.2.2.2.1 (X.1.2.2.2.2.2.2.2.1 _ ((lkq_ok heq).1 _ (by simp [lWs]))) (fun x h => h) hd (kn.id X X.2.2.2.2.2.1 ⟨rfl, hs⟩)
  · rename_i a b heq
    cases h
    rcases X.2.2.1.2.2.2.2.2.1 with hz | ⟨t, hz⟩
    · exact va_gets X.1.1 X.1.2.1 hz X.2.2.2.2.1 X.1.2.2.2.2.1 (X.1.2.2.2.2.2.2.2.1 _ ((lkq_ok heq).1 _ (by simp [lWs]))) (fun x h => h) hd (kn.id X X.2.2.2.2.2.1 ⟨Or.inl rfl, hs⟩)
    · exact va_gets X.1.1 X.1.2.1 hz X.2.2.2.2.1 X.1.2.2.2.2.1 (X.1.2.2.2.2.2.2.2.1 _ ((lkq_ok heq).1 _ (by simp [lWs]))) (fun x h => h) hd (kn.id X X.2.2.2.2.2.1 ⟨Or.inr ⟨t, rfl⟩, hs⟩)
  · cases h

theorem nofloor (a b : Nat) (h : a = b) : b - a = 0 := by omega
theorem zI_new {L : Nat} {xs : Nat → Int32} {σ : St} (h : wf L xs σ) (kd : Nat × Nat) (n : Nat) : zh (zNew σ kd n) (zn σ) = kd ∧ zI (zNew σ kd n) (zn σ) = (fun _ => 0) ∧ zL (zNew σ kd n) (zn σ) = (fun _ => 0) ∧ zD (zNew σ kd n) (zn σ) = (fun _ => 0) ∧ zR (zNew σ kd n) (zn σ) = (fun _ => 0) := by
  obtain ⟨-, g⟩ := h.2.1 (zn σ) (Nat.le_refl _)
  exact ⟨if_pos rfl, funext fun j => (g j).2.1, funext fun j => (g j).2.2.1, funext fun j => (g j).2.2.2, funext fun j => (g j).1⟩

theorem s_newarray {t : ArrayType} (X : Sx p l s m args meth c R H locs mi dC dI cid base L xs ad lo ls σ) (hd : decode (mCd mi) pc = .ok (.newarray t, 2)) (h : zins mi pc lo st σ (.newarray t) = some (.inl (pc1, lo1, st1, σ1))) (hs : vrs (zn σ) ad st cst) (kn : Kn p l e R s m args below meth c cells slots Q mi dC dI cid base L xs ad σ (pc1) (lo1) (st1) (σ1)) (hrc : cells + (cu σ1 - cu σ) ≤ R.cells) (hrs : slots + (su σ1 - su σ) ≤ R.slots) : W p l e R s m args below meth c H locs cells slots Q (F0 m pc ls cst) := by
  simp only [zins] at h
  split at h
  · rename_i n st2
    split at h
    · rename_i hq
      cases h
      obtain ⟨cs, rfl, hs1⟩ := vrs_int hs
      obtain ⟨h0, h1, h2⟩ := hq
      have hn0 : ¬ n < 0 := by
        intro z
        rw [Int32.lt_iff_toInt_lt] at z
        rw [Int32.le_iff_toInt_le] at h0
        omega
      have e2 : cu (zNew σ (arK t, n.toNatClampNeg) n.toNatClampNeg) - cu σ = 1 := by show zn σ + 1 + zt σ - (zn σ + zt σ) = 1; omega
      have e3 : su (zNew σ (arK t, n.toNatClampNeg) n.toNatClampNeg) - su σ = n.toNatClampNeg := by show zs σ + n.toNatClampNeg + 6 * zt σ - (zs σ + 6 * zt σ) = _; omega
      rw [e2] at hrc
      rw [e3] at hrs
      cases t
      · have e1 : n.toNatClampNeg = n.toNatClampNeg := rfl
        refine va_newa X.1.1 X.1.2.1 (ty := .boolean) (a0 := (n.toNatClampNeg, .inl (fun _ => 0))) (X.1.2.2.2.2.2.2.2.1 _ (zarr _ (List.mem_of_getElem? (i := 3) rfl))) rfl X.2.1.1 X.2.2.2.1.1 X.2.2.2.1.2.1 X.2.2.2.2.1 (fun q hq => Nat.le_trans X.2.2.1.1 hq) (fun cA => rfl) hn0 rfl (by show n.toNatClampNeg * _ ≤ _; simp only [componentBytes]; omega) (by omega) (by omega) hd (fun q cA H1 hK1 hP1 hD1 hS1 => ?_)
        have hcA : cA = cid 14 := by
          have h1 := (hK1.2 8 (cA, .boolean) (by rw [List.getElem?_append_right (Nat.le_of_ble_eq_true rfl)]; rfl)).2
          have h2 := (X.2.1.1.2 3 (cid 14, .boolean) rfl).2
          exact Option.some.inj (h1.symm.trans h2)
        subst hcA
        obtain ⟨z0, z1, z2, z3, z4⟩ := zI_new X.2.2.2.1.2.2 (14, n.toNatClampNeg) n.toNatClampNeg
        have hcel := cel_i (cid := cid) (ad := up1 ad (zn σ) q) (congrArg Prod.fst z0) (Or.inr (Or.inr rfl))
        rw [z0, z1] at hcel
        exact kn.new (kd := (14, n.toNatClampNeg)) X (by show 14 ≤ 18; omega) hcel hP1 hD1 hS1 hs1
      · exact absurd rfl h2
      · exact absurd rfl h2
      · have e1 : n.toNatClampNeg = n.toNatClampNeg := rfl
        refine va_newa X.1.1 X.1.2.1 (ty := .double) (a0 := (n.toNatClampNeg, .inr (.inr (.inr (.inl (fun _ => 0)))))) (X.1.2.2.2.2.2.2.2.1 _ (zarr _ (List.mem_of_getElem? (i := 4) rfl))) rfl X.2.1.1 X.2.2.2.1.1 X.2.2.2.1.2.1 X.2.2.2.2.1 (fun q hq => Nat.le_trans X.2.2.1.1 hq) (fun cA => rfl) hn0 rfl (by show n.toNatClampNeg * _ ≤ _; simp only [componentBytes]; omega) (by omega) (by omega) hd (fun q cA H1 hK1 hP1 hD1 hS1 => ?_)
        have hcA : cA = cid 15 := by
          have h1 := (hK1.2 8 (cA, .double) (by rw [List.getElem?_append_right (Nat.le_of_ble_eq_true rfl)]; rfl)).2
          have h2 := (X.2.1.1.2 4 (cid 15, .double) rfl).2
          exact Option.some.inj (h1.symm.trans h2)
        subst hcA
        obtain ⟨z0, z1, z2, z3, z4⟩ := zI_new X.2.2.2.1.2.2 (15, n.toNatClampNeg) n.toNatClampNeg
        have hcel := cel_d (cid := cid) (ad := up1 ad (zn σ) q) (congrArg Prod.fst z0)
        rw [z0, z3] at hcel
        exact kn.new (kd := (15, n.toNatClampNeg)) X (by show 15 ≤ 18; omega) hcel hP1 hD1 hS1 hs1
      · have e1 : n.toNatClampNeg = n.toNatClampNeg := rfl
        refine va_newa X.1.1 X.1.2.1 (ty := .byte) (a0 := (n.toNatClampNeg, .inl (fun _ => 0))) (X.1.2.2.2.2.2.2.2.1 _ (zarr _ (List.mem_of_getElem? (i := 2) rfl))) rfl X.2.1.1 X.2.2.2.1.1 X.2.2.2.1.2.1 X.2.2.2.2.1 (fun q hq => Nat.le_trans X.2.2.1.1 hq) (fun cA => rfl) hn0 rfl (by show n.toNatClampNeg * _ ≤ _; simp only [componentBytes]; omega) (by omega) (by omega) hd (fun q cA H1 hK1 hP1 hD1 hS1 => ?_)
        have hcA : cA = cid 13 := by
          have h1 := (hK1.2 8 (cA, .byte) (by rw [List.getElem?_append_right (Nat.le_of_ble_eq_true rfl)]; rfl)).2
          have h2 := (X.2.1.1.2 2 (cid 13, .byte) rfl).2
          exact Option.some.inj (h1.symm.trans h2)
        subst hcA
        obtain ⟨z0, z1, z2, z3, z4⟩ := zI_new X.2.2.2.1.2.2 (13, n.toNatClampNeg) n.toNatClampNeg
        have hcel := cel_i (cid := cid) (ad := up1 ad (zn σ) q) (congrArg Prod.fst z0) (Or.inr (Or.inl rfl))
        rw [z0, z1] at hcel
        exact kn.new (kd := (13, n.toNatClampNeg)) X (by show 13 ≤ 18; omega) hcel hP1 hD1 hS1 hs1
      · exact absurd rfl h2
      · have e1 : n.toNatClampNeg = n.toNatClampNeg := rfl
        refine va_newa X.1.1 X.1.2.1 (ty := .int) (a0 := (n.toNatClampNeg, .inl (fun _ => 0))) (X.1.2.2.2.2.2.2.2.1 _ (zarr _ (List.mem_of_getElem? (i := 0) rfl))) rfl X.2.1.1 X.2.2.2.1.1 X.2.2.2.1.2.1 X.2.2.2.2.1 (fun q hq => Nat.le_trans X.2.2.1.1 hq) (fun cA => rfl) hn0 rfl (by show n.toNatClampNeg * _ ≤ _; simp only [componentBytes]; omega) (by omega) (by omega) hd (fun q cA H1 hK1 hP1 hD1 hS1 => ?_)
        have hcA : cA = cid 11 := by
          have h1 := (hK1.2 8 (cA, .int) (by rw [List.getElem?_append_right (Nat.le_of_ble_eq_true rfl)]; rfl)).2
          have h2 := (X.2.1.1.2 0 (cid 11, .int) rfl).2
          exact Option.some.inj (h1.symm.trans h2)
        subst hcA
        obtain ⟨z0, z1, z2, z3, z4⟩ := zI_new X.2.2.2.1.2.2 (11, n.toNatClampNeg) n.toNatClampNeg
        have hcel := cel_i (cid := cid) (ad := up1 ad (zn σ) q) (congrArg Prod.fst z0) (Or.inl rfl)
        rw [z0, z1] at hcel
        exact kn.new (kd := (11, n.toNatClampNeg)) X (by show 11 ≤ 18; omega) hcel hP1 hD1 hS1 hs1
      · have e1 : n.toNatClampNeg = n.toNatClampNeg := rfl
        refine va_newa X.1.1 X.1.2.1 (ty := .long) (a0 := (n.toNatClampNeg, .inr (.inl (fun _ => 0)))) (X.1.2.2.2.2.2.2.2.1 _ (zarr _ (List.mem_of_getElem? (i := 1) rfl))) rfl X.2.1.1 X.2.2.2.1.1 X.2.2.2.1.2.1 X.2.2.2.2.1 (fun q hq => Nat.le_trans X.2.2.1.1 hq) (fun cA => rfl) hn0 rfl (by show n.toNatClampNeg * _ ≤ _; simp only [componentBytes]; omega) (by omega) (by omega) hd (fun q cA H1 hK1 hP1 hD1 hS1 => ?_)
        have hcA : cA = cid 12 := by
          have h1 := (hK1.2 8 (cA, .long) (by rw [List.getElem?_append_right (Nat.le_of_ble_eq_true rfl)]; rfl)).2
          have h2 := (X.2.1.1.2 1 (cid 12, .long) rfl).2
          exact Option.some.inj (h1.symm.trans h2)
        subst hcA
        obtain ⟨z0, z1, z2, z3, z4⟩ := zI_new X.2.2.2.1.2.2 (12, n.toNatClampNeg) n.toNatClampNeg
        have hcel := cel_l (cid := cid) (ad := up1 ad (zn σ) q) (congrArg Prod.fst z0)
        rw [z0, z2] at hcel
        exact kn.new (kd := (12, n.toNatClampNeg)) X (by show 12 ≤ 18; omega) hcel hP1 hD1 hS1 hs1
    · cases h
  · cases h

theorem s_anewarray {idx : Nat} (X : Sx p l s m args meth c R H locs mi dC dI cid base L xs ad lo ls σ) (hd : decode (mCd mi) pc = .ok (.anewarray idx, 3)) (h : zins mi pc lo st σ (.anewarray idx) = some (.inl (pc1, lo1, st1, σ1))) (hs : vrs (zn σ) ad st cst) (kn : Kn p l e R s m args below meth c cells slots Q mi dC dI cid base L xs ad σ (pc1) (lo1) (st1) (σ1)) (hrc : cells + (cu σ1 - cu σ) ≤ R.cells) (hrs : slots + (su σ1 - su σ) ≤ R.slots) : W p l e R s m args below meth c H locs cells slots Q (F0 m pc ls cst) := by
  simp only [zins] at h
  split at h
  · rename_i n st2
    split at h
    · rename_i ci b heq
      split at h
      · rename_i hq
        cases h
        obtain ⟨cs, rfl, hs1⟩ := vrs_int hs
        obtain ⟨h0, h1, h2⟩ := hq
        have hn0 : ¬ n < 0 := by
          intro z
          rw [Int32.lt_iff_toInt_lt] at z
          rw [Int32.le_iff_toInt_le] at h0
          omega
        have e2 : ∀ kd, cu (zNew σ kd n.toNatClampNeg) - cu σ = 1 := fun kd => by show zn σ + 1 + zt σ - (zn σ + zt σ) = 1; omega
        have e3 : ∀ kd, su (zNew σ kd n.toNatClampNeg) - su σ = n.toNatClampNeg := fun kd => by show zs σ + n.toNatClampNeg + 6 * zt σ - (zs σ + 6 * zt σ) = _; omega
        rw [e2] at hrc
        rw [e3] at hrs
        rcases h2 with hci | hci | hci
        · subst hci
          have hw := (lkq_ok heq).1
          refine va_newq X.1.1 X.1.2.1 (C := zC 0) X.1.2.2.2.2.1 (X.1.2.2.2.2.2.2.2.1 _ (hw _ (by simp [lWs]))) (X.2.1.2.1 (Cond.arrayOver (.object (zC 0))) (by decide +kernel)) X.2.1.1 X.2.2.2.1.1 X.2.2.2.1.2.1 X.2.2.2.2.1 (fun q hq => Nat.le_trans X.2.2.1.1 hq) hn0 rfl (by omega) (by omega) (by omega) hd (fun q cA H1 hK1 hP1 hD1 hS1 => ?_)
          have hcA : cA = cid 16 := by
            have h1 := (hK1.2 8 (cA, .object (zC 0)) (by rw [List.getElem?_append_right (Nat.le_of_ble_eq_true rfl)]; rfl)).2
            have h2 := (X.2.1.1.2 5 (cid 16, .object (zC 0)) rfl).2
            obtain ⟨-, -, -, -, -, h1⟩ := h1
            obtain ⟨-, -, -, -, -, h2⟩ := h2
            exact Option.some.inj (h1.symm.trans h2)
          subst hcA
          obtain ⟨z0, z1, z2, z3, z4⟩ := zI_new X.2.2.2.1.2.2 (16, n.toNatClampNeg) n.toNatClampNeg
          have hcel := cel_q (cid := cid) (ad := up1 ad (zn σ) q) (congrArg Prod.fst z0) (Or.inl rfl)
          rw [z0, z4] at hcel
          exact kn.new (kd := (16, n.toNatClampNeg)) X (by show 16 ≤ 18; omega) hcel hP1 hD1 hS1 hs1
        · subst hci
          have hw := (lkq_ok heq).1
          refine va_newq X.1.1 X.1.2.1 (C := zC 1) X.1.2.2.2.2.1 (X.1.2.2.2.2.2.2.2.1 _ (hw _ (by simp [lWs]))) (X.2.1.2.1 (Cond.arrayOver (.object (zC 1))) (by decide +kernel)) X.2.1.1 X.2.2.2.1.1 X.2.2.2.1.2.1 X.2.2.2.2.1 (fun q hq => Nat.le_trans X.2.2.1.1 hq) hn0 rfl (by omega) (by omega) (by omega) hd (fun q cA H1 hK1 hP1 hD1 hS1 => ?_)
          have hcA : cA = cid 17 := by
            have h1 := (hK1.2 8 (cA, .object (zC 1)) (by rw [List.getElem?_append_right (Nat.le_of_ble_eq_true rfl)]; rfl)).2
            have h2 := (X.2.1.1.2 6 (cid 17, .object (zC 1)) rfl).2
            obtain ⟨-, -, -, -, -, h1⟩ := h1
            obtain ⟨-, -, -, -, -, h2⟩ := h2
            exact Option.some.inj (h1.symm.trans h2)
          subst hcA
          obtain ⟨z0, z1, z2, z3, z4⟩ := zI_new X.2.2.2.1.2.2 (17, n.toNatClampNeg) n.toNatClampNeg
          have hcel := cel_q (cid := cid) (ad := up1 ad (zn σ) q) (congrArg Prod.fst z0) (Or.inr (Or.inl rfl))
          rw [z0, z4] at hcel
          exact kn.new (kd := (17, n.toNatClampNeg)) X (by show 17 ≤ 18; omega) hcel hP1 hD1 hS1 hs1
        · subst hci
          have hw := (lkq_ok heq).1
          refine va_newq X.1.1 X.1.2.1 (C := zC 4) X.1.2.2.2.2.1 (X.1.2.2.2.2.2.2.2.1 _ (hw _ (by simp [lWs]))) (X.2.1.2.1 (Cond.arrayOver (.object (zC 4))) (by decide +kernel)) X.2.1.1 X.2.2.2.1.1 X.2.2.2.1.2.1 X.2.2.2.2.1 (fun q hq => Nat.le_trans X.2.2.1.1 hq) hn0 rfl (by omega) (by omega) (by omega) hd (fun q cA H1 hK1 hP1 hD1 hS1 => ?_)
          have hcA : cA = cid 18 := by
            have h1 := (hK1.2 8 (cA, .object (zC 4)) (by rw [List.getElem?_append_right (Nat.le_of_ble_eq_true rfl)]; rfl)).2
            have h2 := (X.2.1.1.2 7 (cid 18, .object (zC 4)) rfl).2
            obtain ⟨-, -, -, -, -, h1⟩ := h1
            obtain ⟨-, -, -, -, -, h2⟩ := h2
            exact Option.some.inj (h1.symm.trans h2)
          subst hcA
          obtain ⟨z0, z1, z2, z3, z4⟩ := zI_new X.2.2.2.1.2.2 (18, n.toNatClampNeg) n.toNatClampNeg
          have hcel := cel_q (cid := cid) (ad := up1 ad (zn σ) q) (congrArg Prod.fst z0) (Or.inr (Or.inr rfl))
          rw [z0, z4] at hcel
          exact kn.new (kd := (18, n.toNatClampNeg)) X (by show 18 ≤ 18; omega) hcel hP1 hD1 hS1 hs1
      · cases h
    · cases h
  · cases h

theorem s_new {idx : Nat} (X : Sx p l s m args meth c R H locs mi dC dI cid base L xs ad lo ls σ) (hd : decode (mCd mi) pc = .ok (.new idx, 3)) (h : zins mi pc lo st σ (.new idx) = some (.inl (pc1, lo1, st1, σ1))) (hs : vrs (zn σ) ad st cst) (kn : Kn p l e R s m args below meth c cells slots Q mi dC dI cid base L xs ad σ (pc1) (lo1) (st1) (σ1)) (hrc : cells + (cu σ1 - cu σ) ≤ R.cells) (hrs : slots + (su σ1 - su σ) ≤ R.slots) : W p l e R s m args below meth c H locs cells slots Q (F0 m pc ls cst) := by
  simp only [zins] at h
  split at h
  · rename_i ci b heq
    cases h
    obtain ⟨hw, hg⟩ := lkq_ok heq
    have hg : ci < 10 := by simpa [lSg] using hg
    have e2 : cu (zNew σ (ci + 1, 0) (zN ci)) - cu σ = 1 := by show zn σ + 1 + zt σ - (zn σ + zt σ) = 1; omega
    have e3 : su (zNew σ (ci + 1, 0) (zN ci)) - su σ = zN ci := by show zs σ + zN ci + 6 * zt σ - (zs σ + 6 * zt σ) = _; omega
    rw [e2] at hrc
    rw [e3] at hrs
    refine va_new X.1.1 X.1.2.1 (own := zC (mOw mi)) (fs := (List.range (zN ci)).map (fun j => fvl ad (zNew σ (ci + 1, 0) (zN ci)) ci j (zn σ))) X.1.2.2.2.2.2.2.2.1 (zin ci hg) (zTY ci) (zTY_ok ci hg) X.1.2.2.2.2.1 (X.1.2.2.2.2.2.2.2.1 _ (hw _ (by simp [lWs]))) (X.1.2.2.2.2.2.2.2.1 _ (zins1 ci hg)) (X.1.2.2.2.2.2.2.2.1 _ (zini1 ci hg)) X.2.1.1 X.2.2.2.1.1 X.2.2.2.1.2.1 X.2.2.2.2.1 (fun q hq => Nat.le_trans X.2.2.1.1 hq) (vwCl_at ci hg) (fun j hj => ?_) hrc hrs hd (fun q H1 hP1 hD1 hS1 => ?_)
    · obtain ⟨-, g1, g2, -, g4⟩ := zI_new X.2.2.2.1.2.2 (ci + 1, 0) (zN ci)
      rw [zTY_def ci hg j hj]
      unfold vp_V
      rw [List.getD_eq_getElem?_getD, fl_at hj]
      unfold fvl
      rw [g1, g2, g4]
      rfl
    · refine kn.new X (by show ci + 1 ≤ 18; omega) ?_ hP1 hD1 hS1 hs
      rw [cel_o (congrArg Prod.fst (zI_new X.2.2.2.1.2.2 (ci + 1, 0) (zN ci)).1) hg]
      refine congrArg (fun q => Sum.inr (ci, q)) (List.map_congr_left fun j hj => ?_)
      obtain ⟨-, g1, g2, -, g4⟩ := zI_new X.2.2.2.1.2.2 (ci + 1, 0) (zN ci)
      unfold fvl
      rw [g1, g2, g4]
      rfl
  · unfold zthrow at h
    split at h
    · split at h <;> cases h
    · cases h
  · cases h

theorem s_objinit {idx : Nat} (X : Sx p l s m args meth c R H locs mi dC dI cid base L xs ad lo ls σ) (hd : decode (mCd mi) pc = .ok (.invokespecial idx, 3)) (h : zins mi pc lo st σ (.invokespecial idx) = some (.inl (pc1, lo1, st1, σ1))) (hs : vrs (zn σ) ad st cst) (kn : Kn p l e R s m args below meth c cells slots Q mi dC dI cid base L xs ad σ (pc1) (lo1) (st1) (σ1)) : W p l e R s m args below meth c H locs cells slots Q (F0 m pc ls cst) := by
  simp only [zins] at h
  split at h
  · exfalso; unfold zcall at h; split at h <;> (repeat' split at h) <;> cases h
  · exfalso; unfold zcall at h; split at h <;> (repeat' split at h) <;> cases h
  · rename_i x1 x2 heq
    split at h
    · rename_i a st2
      split at h
      · rename_i hq
        cases h
        obtain ⟨hlt, cs, rfl, hs1⟩ := vrs_ref hs
        have hc : cats cs ≤ 8 := by rw [vrs_cats hs1]; exact hq.2
        exact W.objInit X.1.1 X.1.2.1 X.1.2.2.2.2.1 (X.1.2.2.2.2.2.2.2.1 _ ((lkq_ok heq).1 _ (by simp [lWs]))) (X.1.2.2.2.2.2.2.2.1 _ (zjdk _ (List.mem_of_getElem? (i := 14) rfl))) (X.1.2.2.2.2.2.2.2.1 _ (zjdk _ (List.mem_of_getElem? (i := 15) rfl))) rfl (by show ls.size = _; rw [X.2.2.2.2.2.1.size, X.1.2.2.2.1]) rfl hd (by have := X.2.2.2.2.2.2.1; omega) (by show 2 * 0 + cats cs + 12 ≤ R.locals; have := X.2.2.2.2.2.2.2; omega) (kn.id X X.2.2.2.2.2.1 hs1)
      · cases h
    · cases h
  · cases h

abbrev cFm : ByteArray := prog_19_method_50_code
set_option maxHeartbeats 1000000 in
theorem fm_Met (l : Launch) (x y : Int32) (hy : ¬ y = 0) : Met l nmFloorMod [Cond.code nmFloorMod cFm 3 (some .int)] { frames := 0, cells := 0, slots := 0, locals := 0 } (fun v _ => v = ([.int x, .int y] : List Value).toArray) (vp_Si (fun r => r = (if (x ^^^ y) < 0 then (if x - x / y * y = 0 then x - x / y * y else x - x / y * y + y) else x - x / y * y))) 0 0 (fun _ => False) := by
  refine va_MetF (cc := cFm) (maxL := 3) (ret := some .int) (by decide +kernel) rfl ?_
  intro p e s m args below meth c s₁ B hml hv
  subst hv
  have hx := B.exec
  have hb := B.bytes
  have hr := B.returns
  have hlocks := B.notSynchronized
  have hl := lv_entry ([.int x, .int y]) (n := 3) (Nat.le_of_ble_eq_true rfl)
  rw [lg_entry_eq]
  generalize (lg_sl ([.int x, .int y]) ++ List.replicate (3 - (lg_sl ([.int x, .int y])).length) Slot.unset).toArray = ls at hl ⊢
  have hl : lv_has ls 3 [(0, .int x), (1, .int y)] := hl
  refine lv_iload_n hx hb (pc := 0) (show decode cFm 0 = .ok (.iload_n 0, 1) by decide +kernel) rfl (lv_at hl 0 rfl) ?_
  refine lv_iload_n hx hb (pc := 1) (show decode cFm 1 = .ok (.iload_n 1, 1) by decide +kernel) rfl (lv_at hl 1 rfl) ?_
  refine lv_irem hx hb (pc := 2) (show decode cFm 2 = .ok (.irem, 1) by decide +kernel) hy ?_
  refine lv_istore_n (lv' := [(2, .int (x - x / y * y)), (0, .int x), (1, .int y)]) hx hb (pc := 3) (show decode cFm 3 = .ok (.istore_n 2, 1) by decide +kernel) rfl hl (by decide) rfl (fun ls hl => ?_)
  have done : ∀ (pc : Nat) (z : Int32), decode cFm pc = .ok (.ireturn, 1) → z = (if (x ^^^ y) < 0 then (if x - x / y * y = 0 then x - x / y * y else x - x / y * y + y) else x - x / y * y) → W p l e (headSpec [Cond.code nmFloorMod cFm 3 (some .int)] { frames := 0, cells := 0, slots := 0, locals := 0 }).room s m ([.int x, .int y] : List Value).toArray below meth c s.heap [] 0 0 (MQ below (vp_Si (fun r => r = (if (x ^^^ y) < 0 then (if x - x / y * y = 0 then x - x / y * y else x - x / y * y + y) else x - x / y * y))) ([.int x, .int y] : List Value).toArray s 0 0 (fun _ => False)) (F0 m pc ls [.int z]) := fun pc z hd hz => W.iret hx hb hr (fun t ht _ => ⟨z, rfl, hz, ht⟩) (fun q hq => by cases hq) hd
  refine lv_iload_n hx hb (pc := 4) (show decode cFm 4 = .ok (.iload_n 0, 1) by decide +kernel) rfl (lv_at hl 1 rfl) ?_
  refine lv_iload_n hx hb (pc := 5) (show decode cFm 5 = .ok (.iload_n 1, 1) by decide +kernel) rfl (lv_at hl 2 rfl) ?_
  refine lv_ixor hx hb (pc := 6) (show decode cFm 6 = .ok (.ixor, 1) by decide +kernel) ?_
  refine lv_if_ge (tgt := 18) hx hb (pc := 7) (show decode cFm 7 = .ok (.ifCond .ge 11, 3) by decide +kernel) (by decide) (fun hc => ?_) (fun hc => ?_)
  · refine lv_iload_n hx hb (pc := 18) (show decode cFm 18 = .ok (.iload_n 2, 1) by decide +kernel) rfl (lv_at hl 0 rfl) ?_
    refine done 19 _ (by decide +kernel) ?_
    rw [if_neg]
    rw [Int32.lt_iff_toInt_lt]
    rw [Int32.le_iff_toInt_le] at hc
    omega
  · have hneg : (x ^^^ y) < 0 := by
      rw [Int32.lt_iff_toInt_lt]
      rw [Int32.le_iff_toInt_le] at hc
      omega
    rw [if_pos hneg] at done
    refine lv_iload_n hx hb (pc := 10) (show decode cFm 10 = .ok (.iload_n 2, 1) by decide +kernel) rfl (lv_at hl 0 rfl) ?_
    refine lv_if_eq (tgt := 18) hx hb (pc := 11) (show decode cFm 11 = .ok (.ifCond .eq 7, 3) by decide +kernel) (by decide) (fun h0 => ?_) (fun h0 => ?_)
    · refine lv_iload_n hx hb (pc := 18) (show decode cFm 18 = .ok (.iload_n 2, 1) by decide +kernel) rfl (lv_at hl 0 rfl) ?_
      rw [if_pos hneg]
      exact done 19 _ (by decide +kernel) (by rw [if_pos h0])
    · refine lv_iload_n hx hb (pc := 14) (show decode cFm 14 = .ok (.iload_n 2, 1) by decide +kernel) rfl (lv_at hl 0 rfl) ?_
      refine lv_iload_n hx hb (pc := 15) (show decode cFm 15 = .ok (.iload_n 1, 1) by decide +kernel) rfl (lv_at hl 2 rfl) ?_
      refine lv_iadd hx hb (pc := 16) (show decode cFm 16 = .ok (.iadd, 1) by decide +kernel) ?_
      rw [if_pos hneg]
      exact done 17 _ (by decide +kernel) (by rw [if_neg h0])

theorem s_static {idx : Nat} (X : Sx p l s m args meth c R H locs mi dC dI cid base L xs ad lo ls σ) (hd : decode (mCd mi) pc = .ok (.invokestatic idx, 3)) (h : zins mi pc lo st σ (.invokestatic idx) = some (.inl (pc1, lo1, st1, σ1))) (hs : vrs (zn σ) ad st cst) (kn : Kn p l e R s m args below meth c cells slots Q mi dC dI cid base L xs ad σ (pc1) (lo1) (st1) (σ1)) (hrc0 : cells ≤ R.cells) (hrs0 : slots ≤ R.slots) : W p l e R s m args below meth c H locs cells slots Q (F0 m pc ls cst) := by
  simp only [zins] at h
  split at h
  · exfalso; unfold zcall at h; split at h <;> (repeat' split at h) <;> cases h
  · rename_i x1 x2 heq
    split at h
    · rename_i n dp d sp a st2
      split at h
      · rename_i hq
        cases h
        obtain ⟨k1, k2, n0, sp0, dp0, b1, b2, hne, hc0⟩ := hq
        obtain ⟨cs0, rfl, hs1⟩ := vrs_int hs
        obtain ⟨cs1, rfl, hs2⟩ := vrs_int hs1
        obtain ⟨hld, cs2, rfl, hs3⟩ := vrs_ref hs2
        obtain ⟨cs3, rfl, hs4⟩ := vrs_int hs3
        obtain ⟨hla, cs4, rfl, hs5⟩ := vrs_ref hs4
        have hc : cats cs4 ≤ 8 := by rw [vrs_cats hs5]; exact hc0
        have pos : ∀ i : Int32, 0 ≤ i → ¬ i < 0 := by
          intro i h0 z
          rw [Int32.lt_iff_toInt_lt] at z
          rw [Int32.le_iff_toInt_le] at h0
          omega
        obtain ⟨a15, -⟩ := X.2.2.2.1.2.2.own (a := a) (by omega) (by omega)
        obtain ⟨d15, -⟩ := X.2.2.2.1.2.2.own (a := d) (by omega) (by omega)
        refine va_copyi X.1.1 X.1.2.1 (by rw [X.2.2.2.2.2.1.size, X.1.2.2.2.1]) X.1.2.2.2.2.1 (X.1.2.2.2.2.2.2.2.1 _ ((lkq_ok heq).1 _ (by simp [lWs]))) (X.1.2.2.2.2.2.2.2.1 _ (zjdk _ (List.mem_of_getElem? (i := 0) rfl))) (X.1.2.2.2.2.2.2.2.1 _ (zjdk _ (List.mem_of_getElem? (i := 1) rfl))) (X.1.2.2.2.2.2.2.2.1 _ (zjdk _ (List.mem_of_getElem? (i := 2) rfl))) X.2.1.1 X.2.2.2.1.1 X.2.2.2.1.2.1 X.2.2.2.2.1 (a - 15) (d - 15) 0 0 ((wl_at a15 hla).trans (by rw [cel_i k1 (Or.inl rfl)])) ((wl_at d15 hld).trans (by rw [cel_i k2 (Or.inl rfl)])) rfl rfl rfl (pos _ sp0) (pos _ dp0) (pos _ n0) b1 b2 (fun i hi => rfl) (by have := X.2.2.2.2.2.2.1; omega) (by show cats cs4 + (nativeFrameWords "java/lang/System" "arraycopy" 5 + 11) ≤ R.locals; rw [show nativeFrameWords "java/lang/System" "arraycopy" 5 = 7 from by decide +kernel]; have := X.2.2.2.2.2.2.2; omega) hd (fun H1 locs1 hP hD hS => ?_)
        refine kn.set X (a := d) ⟨rfl, rfl, fun b hb => ⟨?_, rfl, rfl, rfl⟩, fun j => X.2.2.2.1.2.2.2.2.2.2.2 d j⟩ d15 hld ?_ hP hD hS hs5
        · funext j
          exact if_neg hb
        · refine (cel_i (show (zh (zCpy σ a d _ _ _) d).1 = 11 from k2) (Or.inl rfl)).trans ?_
          refine congrArg (fun q => Sum.inl (_, _, Sum.inl q)) (funext fun j => ?_)
          exact if_pos rfl
      · cases h
    · cases h
  · rename_i x1 x2 heq
    split at h
    · split at h
      · rename_i hq
        cases h
        obtain ⟨cs0, rfl, hs1⟩ := vrs_int hs
        obtain ⟨cs1, rfl, hs2⟩ := vrs_int hs1
        have hc : cats cs1 ≤ 8 := by rw [vrs_cats hs2]; exact hq
        exact va_mmin X.1.1 X.1.2.1 (by rw [X.2.2.2.2.2.1.size, X.1.2.2.2.1]) X.1.2.2.2.2.1 (X.1.2.2.2.2.2.2.2.1 _ ((lkq_ok heq).1 _ (by simp [lWs]))) (X.1.2.2.2.2.2.2.2.1 _ (zjdk _ (List.mem_of_getElem? (i := 4) rfl))) (X.1.2.2.2.2.2.2.2.1 _ (zjdk _ (List.mem_of_getElem? (i := 3) rfl))) (X.1.2.2.2.2.2.2.2.1 _ (zjdk _ (List.mem_of_getElem? (i := 9) rfl))) (by have := X.2.2.2.2.2.2.1; omega) (by show cats cs1 + _ ≤ R.locals; have := X.2.2.2.2.2.2.2; omega) hrc0 hrs0 hd (kn.id X X.2.2.2.2.2.1 ⟨rfl, hs2⟩)
      · cases h
    · cases h
  · rename_i x1 x2 heq
    split at h
    · split at h
      · rename_i hq
        cases h
        obtain ⟨cs0, rfl, hs1⟩ := vrs_int hs
        obtain ⟨cs1, rfl, hs2⟩ := vrs_int hs1
        have hc : cats cs1 ≤ 8 := by rw [vrs_cats hs2]; exact hq
        exact va_mmax X.1.1 X.1.2.1 (by rw [X.2.2.2.2.2.1.size, X.1.2.2.2.1]) X.1.2.2.2.2.1 (X.1.2.2.2.2.2.2.2.1 _ ((lkq_ok heq).1 _ (by simp [lWs]))) (X.1.2.2.2.2.2.2.2.1 _ (zjdk _ (List.mem_of_getElem? (i := 5) rfl))) (X.1.2.2.2.2.2.2.2.1 _ (zjdk _ (List.mem_of_getElem? (i := 3) rfl))) (X.1.2.2.2.2.2.2.2.1 _ (zjdk _ (List.mem_of_getElem? (i := 10) rfl))) (by have := X.2.2.2.2.2.2.1; omega) (by show cats cs1 + _ ≤ R.locals; have := X.2.2.2.2.2.2.2; omega) hrc0 hrs0 hd (kn.id X X.2.2.2.2.2.1 ⟨rfl, hs2⟩)
      · cases h
    · cases h
  · rename_i x1 x2 heq
    split at h
    · split at h
      · rename_i hq
        cases h
        obtain ⟨cs0, rfl, hs1⟩ := vrs_int hs
        have hc : cats cs0 ≤ 8 := by rw [vrs_cats hs1]; exact hq
        exact va_mabs X.1.1 X.1.2.1 (by rw [X.2.2.2.2.2.1.size, X.1.2.2.2.1]) X.1.2.2.2.2.1 (X.1.2.2.2.2.2.2.2.1 _ ((lkq_ok heq).1 _ (by simp [lWs]))) (X.1.2.2.2.2.2.2.2.1 _ (zjdk _ (List.mem_of_getElem? (i := 6) rfl))) (X.1.2.2.2.2.2.2.2.1 _ (zjdk _ (List.mem_of_getElem? (i := 3) rfl))) (X.1.2.2.2.2.2.2.2.1 _ (zjdk _ (List.mem_of_getElem? (i := 11) rfl))) (by have := X.2.2.2.2.2.2.1; omega) (by show cats cs0 + _ ≤ R.locals; have := X.2.2.2.2.2.2.2; omega) hrc0 hrs0 hd (kn.id X X.2.2.2.2.2.1 ⟨rfl, hs1⟩)
      · cases h
    · cases h
  · rename_i x1 x2 heq
    split at h
    · rename_i y x st2
      split at h
      · rename_i hq
        cases h
        obtain ⟨cs0, rfl, hs1⟩ := vrs_int hs
        obtain ⟨cs1, rfl, hs2⟩ := vrs_int hs1
        have hc : cats cs1 ≤ 8 := by rw [vrs_cats hs2]; exact hq.2
        have hcode : Cond.code nmFloorMod cFm 3 (some .int) ∈ ALLW := zjdk _ (List.mem_of_getElem? (i := 12) rfl)
        refine vp_callSi (W.runS (own := zC (mOw mi)) (As := [.int x, .int y]) (rest := cs1) ⟨X.1.1, X.1.2.1, X.1.2.2.2.1, X.1.2.2.2.2.1, X.1.2.2.2.2.2.2.2.1⟩ (fm_Met l x y hq.1) ⟨callB_of 2 X.1.2.2.2.2.2.2.2.1 (fun w hw => by rw [List.mem_singleton.mp hw]; exact ⟨hcode, good_of_word (ALLW_good _ hcode)⟩) rfl rfl rfl (X.1.2.2.2.2.2.2.2.1 _ (zjdk _ (List.mem_of_getElem? (i := 3) rfl))) (X.1.2.2.2.2.2.2.2.1 _ ((lkq_ok heq).1 _ (by simp [lWs]))) (by decide +kernel) ⟨by have := X.2.2.2.2.2.2.1; show 0 + 1 ≤ R.frames; omega, by have := X.2.2.2.2.2.2.2; show 8 + (3 + 11) + 0 ≤ R.locals; omega⟩, X.1.2.2.2.2.2.2.2.1 _ (zjdk _ (List.mem_of_getElem? (i := 7) rfl))⟩ ⟨fun a U g mk q => q, fun U hU hW => rfl⟩ rfl rfl (by show ls.size = _; rw [X.2.2.2.2.2.1.size]) rfl (by show 2 * 0 + cats cs1 ≤ 8; omega) hd ⟨hrc0, hrs0⟩) (fun r hr => ?_)
        subst hr
        exact kn.id X X.2.2.2.2.2.1 ⟨rfl, hs2⟩
      · cases h
    · cases h
  · rename_i x1 x2 heq
    split at h
    · split at h
      · rename_i hq
        cases h
        obtain ⟨cs0, rfl, hs1⟩ := vrs_long hs
        obtain ⟨cs1, rfl, hs2⟩ := vrs_long hs1
        have hc : cats cs1 ≤ 8 := by rw [vrs_cats hs2]; exact hq
        exact va_mmin_long X.1.1 X.1.2.1 (by rw [X.2.2.2.2.2.1.size, X.1.2.2.2.1]) X.1.2.2.2.2.1 (X.1.2.2.2.2.2.2.2.1 _ ((lkq_ok heq).1 _ (by simp [lWs]))) (X.1.2.2.2.2.2.2.2.1 _ (zjdk _ (List.mem_of_getElem? (i := 8) rfl))) (X.1.2.2.2.2.2.2.2.1 _ (zjdk _ (List.mem_of_getElem? (i := 3) rfl))) (X.1.2.2.2.2.2.2.2.1 _ (zjdk _ (List.mem_of_getElem? (i := 13) rfl))) (by have := X.2.2.2.2.2.2.1; omega) (by show cats cs1 + _ ≤ R.locals; have := X.2.2.2.2.2.2.2; omega) hrc0 hrs0 hd (kn.id X X.2.2.2.2.2.1 ⟨rfl, hs2⟩)
      · cases h
    · cases h
  · cases h

end S9
