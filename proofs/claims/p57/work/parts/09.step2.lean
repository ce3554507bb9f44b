/-! SOUNDNESS, an instruction at a time: the heap -/
theorem vwCl_at : ∀ ci, ci < 11 → vwCl[ci]? = some (zC ci, zT ci, zN ci)
  | 0, _ => rfl
  | 1, _ => rfl
  | 2, _ => rfl
  | 3, _ => rfl
  | 4, _ => rfl
  | 5, _ => rfl
  | 6, _ => rfl
  | 7, _ => rfl
  | 8, _ => rfl
  | 9, _ => rfl
  | 10, _ => rfl
  | n + 11, h => absurd h (by omega)
theorem zin : ∀ ci, ci < 11 → ∀ w ∈ u_ws (zC ci) (zT ci) (zN ci), w ∈ ALLW
  | 0, _ => inX0
  | 1, _ => inX1
  | 2, _ => inX2
  | 3, _ => inX3
  | 4, _ => inX4
  | 5, _ => inX5
  | 6, _ => inX6
  | 7, _ => inX7
  | 8, _ => inX8
  | 9, _ => inX9
  | 10, _ => inX10
  | n + 11, h => absurd h (by omega)
theorem zTY_ok : ∀ ci, ci < 11 → ∀ k, k < zN ci → parseFieldDescriptor (zT ci k).2.2.1 = some (zTY ci k)
  | 0, _ => tyX0_ok
  | 1, _ => tyX1_ok
  | 2, _ => tyX2_ok
  | 3, _ => tyX3_ok
  | 4, _ => tyX4_ok
  | 5, _ => tyX5_ok
  | 6, _ => tyX6_ok
  | 7, _ => tyX7_ok
  | 8, _ => tyX8_ok
  | 9, _ => tyX9_ok
  | 10, _ => tyX10_ok
  | n + 11, h => absurd h (by omega)
theorem zT_nm : ∀ ci, ci < 11 → ∀ a, a < zN ci → ∀ b, b < zN ci → a ≠ b → (zT ci a).2.1 ≠ (zT ci b).2.1
  | 0, _ => nmX0
  | 1, _ => nmX1
  | 2, _ => nmX2
  | 3, _ => nmX3
  | 4, _ => nmX4
  | 5, _ => nmX5
  | 6, _ => nmX6
  | 7, _ => nmX7
  | 8, _ => nmX8
  | 9, _ => nmX9
  | 10, _ => nmX10
  | n + 11, h => absurd h (by omega)
theorem zT_fin : ∀ ci, ci < 11 → ∀ k, k < zN ci → (zT ci k).2.2.2 = true → (zT ci k).1 = zC ci := by decide +kernel
theorem zTY_def : ∀ ci, ci < 11 → ∀ k, k < zN ci → defaultValue (zTY ci k) = (match fso (zTY ci k) with | 0 => .int 0 | 1 => .long 0 | _ => .null) := by decide +kernel
theorem zinst : ∀ w ∈ [(Cond.instantiable "LineBalls$Ball" 11), (Cond.instantiable "LineBalls$Barrier" 3), (Cond.instantiable "LineBalls$Book" 8), (Cond.instantiable "LineBalls$History" 3), (Cond.instantiable "LineBalls$Line" 11), (Cond.instantiable "LineBalls$Log" 6), (Cond.instantiable "LineBalls$Output" 2), (Cond.instantiable "LineBalls$Parser" 7), (Cond.instantiable "LineBalls" 11), (Cond.instantiable "java/lang/StringBuilder" 4), (Cond.instantiable "java/lang/String" 4), (Cond.initialized "LineBalls$Ball"), (Cond.initialized "LineBalls$Barrier"), (Cond.initialized "LineBalls$Book"), (Cond.initialized "LineBalls$History"), (Cond.initialized "LineBalls$Line"), (Cond.initialized "LineBalls$Log"), (Cond.initialized "LineBalls$Output"), (Cond.initialized "LineBalls$Parser"), (Cond.initialized "LineBalls"), (Cond.initialized "java/lang/StringBuilder"), (Cond.initialized "java/lang/String")], w ∈ ALLW := chkW_ok _ [(1, 153), (1, 60), (1, 109), (2, 63), (1, 51), (1, 83), (1, 38), (2, 35), (1, 30), (2, 223), (3, 204), (1, 7), (1, 4), (1, 6), (1, 9), (1, 3), (1, 5), (1, 2), (1, 8), (1, 1), (1, 11), (1, 12)] (by decide +kernel)
theorem zins1 : ∀ ci, ci < 11 → Cond.instantiable (zC ci) (zN ci) ∈ ALLW
  | 0, _ => zinst _ (List.mem_of_getElem? (i := 0) rfl)
  | 1, _ => zinst _ (List.mem_of_getElem? (i := 1) rfl)
  | 2, _ => zinst _ (List.mem_of_getElem? (i := 2) rfl)
  | 3, _ => zinst _ (List.mem_of_getElem? (i := 3) rfl)
  | 4, _ => zinst _ (List.mem_of_getElem? (i := 4) rfl)
  | 5, _ => zinst _ (List.mem_of_getElem? (i := 5) rfl)
  | 6, _ => zinst _ (List.mem_of_getElem? (i := 6) rfl)
  | 7, _ => zinst _ (List.mem_of_getElem? (i := 7) rfl)
  | 8, _ => zinst _ (List.mem_of_getElem? (i := 8) rfl)
  | 9, _ => zinst _ (List.mem_of_getElem? (i := 9) rfl)
  | 10, _ => zinst _ (List.mem_of_getElem? (i := 10) rfl)
  | n + 11, h => absurd h (by omega)
theorem zini1 : ∀ ci, ci < 11 → Cond.initialized (zC ci) ∈ ALLW
  | 0, _ => zinst _ (List.mem_of_getElem? (i := 11) rfl)
  | 1, _ => zinst _ (List.mem_of_getElem? (i := 12) rfl)
  | 2, _ => zinst _ (List.mem_of_getElem? (i := 13) rfl)
  | 3, _ => zinst _ (List.mem_of_getElem? (i := 14) rfl)
  | 4, _ => zinst _ (List.mem_of_getElem? (i := 15) rfl)
  | 5, _ => zinst _ (List.mem_of_getElem? (i := 16) rfl)
  | 6, _ => zinst _ (List.mem_of_getElem? (i := 17) rfl)
  | 7, _ => zinst _ (List.mem_of_getElem? (i := 18) rfl)
  | 8, _ => zinst _ (List.mem_of_getElem? (i := 19) rfl)
  | 9, _ => zinst _ (List.mem_of_getElem? (i := 20) rfl)
  | 10, _ => zinst _ (List.mem_of_getElem? (i := 21) rfl)
  | n + 11, h => absurd h (by omega)
theorem zarr : ∀ w ∈ [(Cond.arrayClass .int), (Cond.arrayClass .byte), (Cond.arrayClass .boolean)], w ∈ ALLW := chkW_ok _ [(1, 81), (1, 49), (2, 115)] (by decide +kernel)
theorem zjdk : ∀ w ∈ [(Cond.native arraycopyName), (Cond.static arraycopyName), (Cond.initialized "java/lang/System"), (Cond.initialized "java/lang/Math"), (Cond.static Lib.Math.min.name), (Cond.static Lib.Math.max.name), (Cond.code Lib.Math.min.name Lib.Math.min.code 2 (some .int)), (Cond.code Lib.Math.max.name Lib.Math.max.code 2 (some .int)), (Cond.instanceMethod Lib.objectInit), (Cond.code Lib.objectInit ⟨#[0xb1]⟩ 1 none),
  (Cond.native ⟨"java/lang/Object", "clone", "()Ljava/lang/Object;"⟩), (Cond.instanceMethod ⟨"java/lang/Object", "clone", "()Ljava/lang/Object;"⟩), (Cond.selects "[B" ⟨"[B", "clone", "()Ljava/lang/Object;"⟩ ⟨"java/lang/Object", "clone", "()Ljava/lang/Object;"⟩)], w ∈ ALLW := chkW_ok _ [(3, 62), (3, 61), (1, 17), (1, 15), (3, 58), (3, 41), (3, 59), (3, 42), (1, 35), (1, 36), (3, 52), (3, 53), (3, 54)] (by decide +kernel)

theorem lkq_mem {own idx : Nat} {x : Nat × Nat × Nat} (h : lkq own idx = some x) : (idx, x) ∈ lk own := by
  unfold lkq at h
  cases hf : (lk own).find? (fun e => e.1 == idx) with
  | none => rw [hf] at h; cases h
  | some q =>
    rw [hf] at h
    have hx : q.2 = x := Option.some.inj h
    have h1 : q.1 = idx := by simpa using List.find?_some hf
    have h2 := List.mem_of_find?_eq_some hf
    rw [← hx, ← h1]
    exact h2
theorem lkq_own {own idx : Nat} {x : Nat × Nat × Nat} (h : lkq own idx = some x) : own < 18 := by
  have := lkq_mem h
  match own, this with
  | n + 18, h => cases h
  | 0, _ | 1, _ | 2, _ | 3, _ | 4, _ | 5, _ | 6, _ | 7, _ | 8, _ | 9, _ | 10, _ | 11, _ | 12, _ | 13, _ | 14, _ | 15, _ | 16, _ | 17, _ => omega
theorem lk_str : ∀ own, own < 18 → ∀ x ∈ lk own, x.2.1 = 7 → ∃ q ∈ strK, q.1 = own ∧ q.2.1 = x.1 ∧ q.2.2.2 = x.2.2.1 := by decide +kernel
theorem lk_stl : ∀ own, own < 18 → ∀ x ∈ lk own, x.2.1 = 23 → ∃ q ∈ strL, q.1 = own ∧ q.2.1 = x.1 ∧ q.2.2.2 = x.2.2.1 := by decide +kernel
theorem fl_at {ad : Nat → Nat} {σ : St} {ci a k : Nat} (hk : k < zN ci) : ((List.range (zN ci)).map (fun j => fvl ad σ ci j a))[k]? = some (fvl ad σ ci k a) := by
  rw [List.getElem?_map, List.getElem?_range hk]
  rfl
theorem inx_in {i : Int32} {n : Nat} (h : inx i n = true) : vp_in i n := by
  unfold inx at h
  simp only [Bool.and_eq_true, decide_eq_true_eq] at h
  intro z
  rcases z with z | z
  · rw [Int32.lt_iff_toInt_lt] at z
    have := h.1
    rw [Int32.le_iff_toInt_le] at this
    omega
  · omega
/-- one object's contents changed -/
def Kp (σ : St) (a : Nat) (σ1 : St) : Prop := σ1.1 = σ.1 ∧ zh σ1 = zh σ ∧ (∀ b, b ≠ a → zI σ1 b = zI σ b ∧ zL σ1 b = zL σ b ∧ zD σ1 b = zD σ b ∧ zR σ1 b = zR σ b) ∧ ∀ j, zR σ1 a j ≤ zn σ
theorem up2_ne {α : Type} {f : Nat → Nat → α} {a k : Nat} {v : α} {b : Nat} (h : b ≠ a) : up2 f a k v b = f b := by
  funext j
  simp [up2, h]
theorem up2_eq {α : Type} {f : Nat → Nat → α} {a k : Nat} {v : α} : up2 f a k v a = fun j => if j = k then v else f a j := by
  funext j
  simp [up2]
theorem Kp.I {L : Nat} {xs : Nat → Int32} {σ : St} (h : wf L xs σ) (a k : Nat) (v : Int32) : Kp σ a (wI σ a k v) := ⟨rfl, rfl, fun _ hb => ⟨up2_ne hb, rfl, rfl, rfl⟩, fun j => h.2.2.2.2.2.1 a j⟩
theorem Kp.L {L : Nat} {xs : Nat → Int32} {σ : St} (h : wf L xs σ) (a k : Nat) (v : Int64) : Kp σ a (wL σ a k v) := ⟨rfl, rfl, fun _ hb => ⟨rfl, up2_ne hb, rfl, rfl⟩, fun j => h.2.2.2.2.2.1 a j⟩
theorem Kp.D {L : Nat} {xs : Nat → Int32} {σ : St} (h : wf L xs σ) (a k : Nat) (v : UInt64) : Kp σ a (wD σ a k v) := ⟨rfl, rfl, fun _ hb => ⟨rfl, rfl, up2_ne hb, rfl⟩, fun j => h.2.2.2.2.2.1 a j⟩
theorem Kp.R {L : Nat} {xs : Nat → Int32} {σ : St} (h : wf L xs σ) (a k v : Nat) (hv : v ≤ zn σ) : Kp σ a (wR σ a k v) := ⟨rfl, rfl, fun _ hb => ⟨rfl, rfl, rfl, up2_ne hb⟩, fun j => by
  show up2 (zR σ) a k v a j ≤ zn σ
  rw [up2_eq]
  dsimp only
  split
  · exact hv
  · exact h.2.2.2.2.2.1 a j⟩
theorem Kp.n {σ σ1 : St} {a : Nat} (h : Kp σ a σ1) : zn σ1 = zn σ := congrArg (fun q => q.1) h.1
theorem Kp.cu {σ σ1 : St} {a : Nat} (h : Kp σ a σ1) : cu σ1 = cu σ := congrArg (fun (q : Nat × Nat × Nat) => q.1 + q.2.2) h.1
theorem Kp.su {σ σ1 : St} {a : Nat} (h : Kp σ a σ1) : su σ1 = su σ := congrArg (fun (q : Nat × Nat × Nat) => q.2.1 + 6 * q.2.2) h.1
theorem Kp.cel {cid : Nat → ClassId} {ad : Nat → Nat} {σ σ1 : St} {a : Nat} (h : Kp σ a σ1) (b : Nat) (hb : b ≠ a) : cel cid ad σ1 b = cel cid ad σ b := by
  obtain ⟨h1, h2, h3, h4⟩ := h.2.2.1 b hb
  unfold Jvm.Pilot.@@N@@.cel fvl
  rw [h.2.1, h1, h2, h4]
theorem Kp.wf {L : Nat} {xs : Nat → Int32} {σ σ1 : St} {a : Nat} (h : Kp σ a σ1) (hw : wf L xs σ) (h15 : 15 ≤ a) (ha : a < zn σ) : wf L xs σ1 := by
  obtain ⟨g1, g2, ⟨g3, g3'⟩, g4, g5, g6, g7⟩ := hw
  refine ⟨by rw [h.n]; exact g1, fun b hb => ?_, ⟨by rw [h.2.1]; exact g3, fun j => by rw [(h.2.2.1 0 (by omega)).1]; exact g3' j⟩, fun i hi => ⟨by rw [h.2.1]; exact (g4 i hi).1, by rw [h.2.1]; exact (g4 i hi).2.1, fun j => by rw [(h.2.2.1 (8 + i) (by omega)).1]; exact (g4 i hi).2.2 j⟩, fun b hb => by rw [h.2.1]; exact g5 b hb, fun b j => ?_, by rw [h.n]; exact g7⟩
  · rw [h.n] at hb
    obtain ⟨q1, q2, q3, q4⟩ := h.2.2.1 b (by omega)
    rw [h.2.1, q1, q2, q3, q4]
    exact g2 b hb
  · rw [h.n]
    by_cases hb : b = a
    · subst hb; exact h.2.2.2 j
    · rw [(h.2.2.1 b hb).2.2.2]; exact g6 b j
theorem wf.k15 {L : Nat} {xs : Nat → Int32} {σ : St} (h : wf L xs σ) {a : Nat} (h0 : 18 < (zh σ a).1 ∧ (zh σ a).1 ≠ 22) : a < 15 := by
  rcases Nat.lt_or_ge a 15 with q | q
  · exact q
  · exact absurd (h.2.2.2.2.1 a q) (by omega)
theorem wf.k19 {L : Nat} {xs : Nat → Int32} {σ : St} (h : wf L xs σ) {a : Nat} (h0 : (zh σ a).1 = 19) : a = 0 := by
  have h1 := h.k15 (a := a) (by omega)
  rcases Nat.eq_zero_or_pos a with q | q
  · exact q
  · obtain ⟨-, -, -, g4, -⟩ := h
    rcases Nat.lt_or_ge a 8 with q2 | q2
    · have := (g4 (a - 1) (by omega)).1
      rw [show 1 + (a - 1) = a by omega] at this
      rw [this] at h0
      omega
    · have := (g4 (a - 8) (by omega)).2.1
      rw [show 8 + (a - 8) = a by omega] at this
      rw [this] at h0
      omega
theorem wf.k20 {L : Nat} {xs : Nat → Int32} {σ : St} (h : wf L xs σ) {a : Nat} (h0 : (zh σ a).1 = 20) : ∃ i, i < 7 ∧ a = 1 + i := by
  have h1 := h.k15 (a := a) (by omega)
  obtain ⟨-, -, ⟨g3, -⟩, g4, -⟩ := h
  rcases Nat.lt_or_ge a 8 with q2 | q2
  · rcases Nat.eq_zero_or_pos a with q | q
    · subst q
      rw [g3] at h0
      omega
    · exact ⟨a - 1, by omega, by omega⟩
  · have := (g4 (a - 8) (by omega)).2.1
    rw [show 8 + (a - 8) = a by omega] at this
    rw [this] at h0
    omega
theorem wf.k21 {L : Nat} {xs : Nat → Int32} {σ : St} (h : wf L xs σ) {a : Nat} (h0 : (zh σ a).1 = 21) : ∃ i, i < 7 ∧ a = 8 + i := by
  have h1 := h.k15 (a := a) (by omega)
  obtain ⟨-, -, ⟨g3, -⟩, g4, -⟩ := h
  rcases Nat.lt_or_ge a 8 with q2 | q2
  · rcases Nat.eq_zero_or_pos a with q | q
    · subst q
      rw [g3] at h0
      omega
    · have := (g4 (a - 1) (by omega)).1
      rw [show 1 + (a - 1) = a by omega] at this
      rw [this] at h0
      omega
  · exact ⟨a - 8, by omega, by omega⟩
theorem rf_ext {n : Nat} {ad ad' : Nat → Nat} (h : ∀ k, k < n ∨ KB ≤ k → ad' k = ad k) {q : Nat} (hq : q ≤ n) : rf ad' q = rf ad q := by
  match q, hq with
  | 0, _ => rfl
  | j + 1, hq => show some (ad' j) = some (ad j); rw [h j (Or.inl hq)]
theorem cel_ext {cid : Nat → ClassId} {L : Nat} {xs : Nat → Int32} {ad ad' : Nat → Nat} {σ : St} (hw : wf L xs σ) (h : ∀ k, k < zn σ ∨ KB ≤ k → ad' k = ad k) (a : Nat) : cel cid ad' σ a = cel cid ad σ a := by
  unfold cel fvl
  simp only [rf_ext h (hw.2.2.2.2.2.1 a _)]
/-- a new object, of number zn σ -/
def Nw (σ : St) (kd : Nat × Nat) (n : Nat) (σ1 : St) : Prop := σ1.1 = (zn σ + 1, zs σ + n, zt σ) ∧ zh σ1 = up1 (zh σ) (zn σ) kd ∧ (∀ b, b ≠ zn σ → zI σ1 b = zI σ b ∧ zL σ1 b = zL σ b ∧ zD σ1 b = zD σ b ∧ zR σ1 b = zR σ b) ∧ ∀ j, zR σ1 (zn σ) j = 0
theorem Nw.mk {L : Nat} {xs : Nat → Int32} {σ : St} (h : wf L xs σ) (kd : Nat × Nat) (n : Nat) : Nw σ kd n (zNew σ kd n) := ⟨rfl, rfl, fun b hb => ⟨rfl, rfl, rfl, rfl⟩, fun j => ((h.2.1 (zn σ) (Nat.le_refl _)).2 j).1⟩
theorem Nw.cln {L : Nat} {xs : Nat → Int32} {σ : St} (h : wf L xs σ) (a n : Nat) : Nw σ (13, n) n (zCln σ a n) := ⟨rfl, rfl, fun b hb => ⟨funext fun j => if_neg hb, rfl, rfl, rfl⟩, fun j => ((h.2.1 (zn σ) (Nat.le_refl _)).2 j).1⟩
theorem Nw.n {σ σ1 : St} {kd : Nat × Nat} {n : Nat} (h : Nw σ kd n σ1) : zn σ1 = zn σ + 1 := congrArg (fun q => q.1) h.1
theorem Nw.cuE {σ σ1 : St} {kd : Nat × Nat} {n : Nat} (h : Nw σ kd n σ1) : cu σ1 - cu σ = 1 := by
  have e : cu σ1 = zn σ + 1 + zt σ := congrArg (fun (q : Nat × Nat × Nat) => q.1 + q.2.2) h.1
  rw [e]
  show zn σ + 1 + zt σ - (zn σ + zt σ) = 1
  omega
theorem Nw.suE {σ σ1 : St} {kd : Nat × Nat} {n : Nat} (h : Nw σ kd n σ1) : su σ1 - su σ = n := by
  have e : su σ1 = zs σ + n + 6 * zt σ := congrArg (fun (q : Nat × Nat × Nat) => q.2.1 + 6 * q.2.2) h.1
  rw [e]
  show zs σ + n + 6 * zt σ - (zs σ + 6 * zt σ) = n
  omega
theorem Nw.zhE {σ σ1 : St} {kd : Nat × Nat} {n b : Nat} (h : Nw σ kd n σ1) (hb : b ≠ zn σ) : Jvm.Pilot.@@N@@.zh σ1 b = Jvm.Pilot.@@N@@.zh σ b := by
  rw [h.2.1]
  exact if_neg hb
theorem Nw.atE {σ σ1 : St} {kd : Nat × Nat} {n : Nat} (h : Nw σ kd n σ1) : Jvm.Pilot.@@N@@.zh σ1 (zn σ) = kd := by
  rw [h.2.1]
  exact if_pos rfl
theorem wf.new {L : Nat} {xs : Nat → Int32} {σ σ1 : St} (h : wf L xs σ) {kd : Nat × Nat} {n : Nat} (hN : Nw σ kd n σ1) (hk : kd.1 ≤ 18 ∨ kd.1 = 22) (hb9 : zn σ < KB) : wf L xs σ1 := by
  obtain ⟨g1, g2, ⟨g3, g3'⟩, g4, g5, g6, g7⟩ := h
  refine ⟨by rw [hN.n]; omega, fun b hb => ?_, ⟨by rw [hN.zhE (by omega)]; exact g3, fun j => by rw [(hN.2.2.1 0 (by omega)).1]; exact g3' j⟩, fun i hi => ⟨by rw [hN.zhE (by omega)]; exact (g4 i hi).1, by rw [hN.zhE (by omega)]; exact (g4 i hi).2.1, fun j => by rw [(hN.2.2.1 (8 + i) (by omega)).1]; exact (g4 i hi).2.2 j⟩, fun b hb => ?_, fun b j => ?_, by rw [hN.n]; omega⟩
  · rw [hN.n] at hb
    obtain ⟨q1, q2, q3, q4⟩ := hN.2.2.1 b (by omega)
    rw [hN.zhE (by omega), q1, q2, q3, q4]
    exact g2 b (by omega)
  · by_cases q : b = zn σ
    · subst q
      rw [hN.atE]
      exact hk
    · rw [hN.zhE q]; exact g5 b hb
  · rw [hN.n]
    by_cases q : b = zn σ
    · subst q
      rw [hN.2.2.2 j]
      exact Nat.zero_le _
    · rw [(hN.2.2.1 b q).2.2.2]
      exact Nat.le_succ_of_le (g6 b j)
theorem wl_new {cid : Nat → ClassId} {L : Nat} {xs : Nat → Int32} {ad : Nat → Nat} {σ σ1 : St} (h : wf L xs σ) {kd : Nat × Nat} {n : Nat} (hN : Nw σ kd n σ1) (hb9 : zn σ < KB) (q : Nat) : wl cid (up1 ad (zn σ) q) σ1 = wl cid ad σ ++ [(q, cel cid (up1 ad (zn σ) q) σ1 (zn σ))] := by
  have h15 := h.1
  unfold wl
  rw [show zn σ1 - 15 = (zn σ - 15) + 1 from by rw [hN.n]; omega, List.range_succ, List.map_append]
  congr 1
  · apply List.map_congr_left
    intro j hj
    rw [List.mem_range] at hj
    have h1 : ∀ k, k < zn σ ∨ KB ≤ k → up1 ad (zn σ) q k = ad k := fun k hk => if_neg (by omega)
    obtain ⟨q1, q2, q3, q4⟩ := hN.2.2.1 (j + 15) (by omega)
    rw [h1 _ (by omega), ← cel_ext h h1]
    congr 1
    unfold cel fvl
    rw [hN.zhE (by omega), q1, q2, q4]
  · simp only [List.map_cons, List.map_nil]
    rw [show zn σ - 15 + 15 = zn σ by omega]
    congr 2
    exact if_pos rfl
section S9
variable {p : Program} {l : Launch} {e : Env} {R : Room} {s : State} {m : MethodId} {args : Array Value} {below : List Frame} {meth : Method} {c : Code} {H : Heap} {locs : List Loc} {cells slots : Nat} {Q : State → Prop}
variable {mi pc : Nat} {dC : Nat → ClassId} {dI : Nat → Nat → Nat} {cid : Nat → ClassId} {base L : Nat} {xs : Nat → Int32} {ad : Nat → Nat} {lo lo1 : Lo} {ls : Array Slot} {st st1 cst : List Value} {σ σ1 : St} {pc1 : Nat}
/-- behind a write: the object a holds what σ1 says -/
theorem Kn.set {pc' a : Nat} {st' cst1 : List Value} {e1 : va_E} {H1 : Heap} {locs1 : List Loc} (kn : Kn p l e R s m args below meth c cells slots Q mi dC dI cid base L xs ad σ (pc') (lo) (st') (σ1)) (X : Sx p l s m args meth c R H locs mi dC dI cid base L xs ad lo ls σ) (h : Kp σ a σ1) (h15 : 15 ≤ a) (ha : a < zn σ) (he : cel cid ad σ1 a = e1)
    (hP : va_P (dC, dI) vwCl ((wl cid ad σ).set (a - 15) (ad a, e1)) H1) (hD : va_D (AA base) ((wl cid ad σ).set (a - 15) (ad a, e1))) (hS : va_S (AA base) s.heap H1 locs1) (hs : vrs (zn σ) ad st' cst1) :
    W p l e R s m args below meth c H1 locs1 cells slots Q (F0 m pc' ls cst1) := by
  subst he
  rw [wl_set h15 h.n h.cel] at hP hD
  have hk := kn H1 locs1 ls ad cst1 ⟨hP, hD, h.wf X.2.2.2.1.2.2 h15 ha⟩ (fun _ _ => rfl) hS (by rw [h.n]; exact X.2.2.2.2.2.1) (by rw [h.n]; exact hs)
  rw [h.cu, h.su, Nat.sub_self, Nat.sub_self, Nat.add_zero, Nat.add_zero] at hk
  exact hk
/-- behind a new object -/
theorem Kn.new {pc' q n : Nat} {kd : Nat × Nat} {σ2 : St} {st' cst1 : List Value} {H1 : Heap} (kn : Kn p l e R s m args below meth c cells slots Q mi dC dI cid base L xs ad σ (pc') (lo) (.ref (zn σ) :: st') (σ2)) (X : Sx p l s m args meth c R H locs mi dC dI cid base L xs ad lo ls σ) (hN : Nw σ kd n σ2) (hk : kd.1 ≤ 18 ∨ kd.1 = 22) (hb9 : zn σ < KB) {e1 : va_E} (he : cel cid (up1 ad (zn σ) q) σ2 (zn σ) = e1)
    (hP : va_P (dC, dI) vwCl (wl cid ad σ ++ [(q, e1)]) H1) (hD : va_D (AA base) (wl cid ad σ ++ [(q, e1)])) (hS : va_S (AA base) s.heap H1 locs) (hs : vrs (zn σ) ad st' cst1) :
    W p l e R s m args below meth c H1 locs (cells + 1) (slots + n) Q (F0 m pc' ls (.ref q :: cst1)) := by
  subst he
  have hw := X.2.2.2.1.2.2
  rw [← wl_new hw hN hb9] at hP hD
  have h1 : ∀ k, k < zn σ ∨ KB ≤ k → up1 ad (zn σ) q k = ad k := fun k hk => if_neg (by omega)
  have hle : zn σ ≤ zn σ2 := by rw [hN.n]; omega
  have hk := kn H1 locs ls (up1 ad (zn σ) q) (.ref q :: cst1) ⟨hP, hD, hw.new hN hk hb9⟩ h1 hS (X.2.2.2.2.2.1.mono h1 hle) ⟨⟨by rw [hN.n]; exact Nat.lt_succ_self _, by rw [show up1 ad (zn σ) q (zn σ) = q from if_pos rfl]⟩, vrs_mono h1 hle hs⟩
  rw [hN.cuE, hN.suE] at hk
  exact hk

theorem s_getfield {idx : Nat} (X : Sx p l s m args meth c R H locs mi dC dI cid base L xs ad lo ls σ) (hd : decode (mCd mi) pc = .ok (.getfield idx, 3)) (h : zins mi pc lo st σ (.getfield idx) = some (.inl (pc1, lo1, st1, σ1))) (hs : vrs (zn σ) ad st cst) (kn : Kn p l e R s m args below meth c cells slots Q mi dC dI cid base L xs ad σ (pc1) (lo1) (st1) (σ1)) : W p l e R s m args below meth c H locs cells slots Q (F0 m pc ls cst) := by
  simp only [zins] at h
  split at h
  · rename_i a st2
    obtain ⟨hlt, cs, rfl, hs1⟩ := vrs_ref hs
    split at h
    · rename_i ci k heq
      obtain ⟨hw, hg⟩ := lkq_ok heq
      have hg : ci < 11 ∧ k < zN ci := by simpa [lSg] using hg
      split at h
      · rename_i hq
        cases h
        have hkd : (zh σ a).1 = kdc ci := by rw [hq]
        have hkb := kdc_b hg.1
        obtain ⟨h15, -⟩ := X.2.2.2.1.2.2.own (a := a) (by omega) (by omega)
        exact va_get X.1.1 X.1.2.1 (own := zC (mOw mi)) (ref := (zT ci k).1) X.1.2.2.2.2.2.2.2.1 (zin ci hg.1) X.1.2.2.2.2.1 X.2.1.1 X.2.2.2.1.1 (a - 15) ((wl_at h15 hlt).trans (by rw [cel_o hkd hg.1])) (vwCl_at ci hg.1) k hg.2 (X.1.2.2.2.2.2.2.2.1 _ (hw _ (by simp [lWs]))) (fun x h => h) (fl_at hg.2) hd (kn.id X X.2.2.2.2.2.1 ⟨gvl_vr X.2.2.2.1.2.2 ci k a, hs1⟩)
      · split at h
        · rename_i hq
          cases h
          obtain ⟨hq1, rfl, hq3⟩ := hq
          obtain ⟨i, hi, rfl⟩ := X.2.2.2.1.2.2.k20 hq1
          by_cases hk0 : k = 0
          · subst hk0
            refine vk_getf X.1.1 X.1.2.1 (X.2.2.1.2.2.2.1.1 i hi).2.2.1 X.2.2.2.2.1 X.1.2.2.2.2.1 (X.1.2.2.2.2.2.2.2.1 _ (hw _ (by simp [lWs, zT, TX10]))) (fun x h => h) hd (kn.id X X.2.2.2.2.2.1 ⟨⟨?_, ?_⟩, hs1⟩)
            · show 1 + i + 7 < zn σ; have := X.2.2.2.1.2.2.1; omega
            · show Value.ref (ad (8 + i)) = Value.ref (ad (1 + i + 7)); rw [show 1 + i + 7 = 8 + i by omega]
          · obtain rfl : k = 1 := by omega
            exact vk_getf X.1.1 X.1.2.1 (X.2.2.1.2.2.2.1.1 i hi).2.1 X.2.2.2.2.1 X.1.2.2.2.2.1 (X.1.2.2.2.2.2.2.2.1 _ (hw _ (by simp [lWs, zT, TX10]))) (fun x h => h) hd (kn.id X X.2.2.2.2.2.1 ⟨rfl, hs1⟩)
        · cases h
    · cases h
  · rename_i q st2
    obtain ⟨c9, cs, rfl, hc9, hs1⟩ := vrs_cons hs
    split at h
    · rename_i ci k heq
      obtain ⟨hw, -⟩ := lkq_ok heq
      split at h
      · rename_i hq
        cases h
        obtain ⟨rfl, hq3, hq4, hq5⟩ := hq
        obtain ⟨i, rfl⟩ : ∃ i, q = i + 1 := ⟨q - 1, by omega⟩
        have hi : i < 9 := by omega
        rw [show c9 = _ from hc9]
        have hS9 := X.2.2.1.2.2.2.2.2.2.2.2.1
        by_cases hk0 : k = 0
        · subst hk0
          refine vk_getf X.1.1 X.1.2.1 (hS9.1 i hi).2.2.1 X.2.2.2.2.1 X.1.2.2.2.2.1 (X.1.2.2.2.2.2.2.2.1 _ (hw _ (by simp [lWs, zT, TX10]))) (fun x h => h) hd (kn.id X X.2.2.2.2.2.1 ⟨?_, hs1⟩)
          show Value.ref (ad (KB + (9 + i))) = Value.ref (ad (KB + (i + 9)))
          rw [Nat.add_comm 9 i]
        · obtain rfl : k = 1 := by omega
          exact vk_getf X.1.1 X.1.2.1 (hS9.1 i hi).2.1 X.2.2.2.2.1 X.1.2.2.2.2.1 (X.1.2.2.2.2.2.2.2.1 _ (hw _ (by simp [lWs, zT, TX10]))) (fun x h => h) hd (kn.id X X.2.2.2.2.2.1 ⟨rfl, hs1⟩)
      · cases h
    · cases h
  · cases h

theorem fl_set {ad : Nat → Nat} {σ σ1 : St} {ci a k : Nat} {v : Value} (hk : k < zN ci) (hv : fvl ad σ1 ci k a = v) (ho : ∀ j, j ≠ k → fvl ad σ1 ci j a = fvl ad σ ci j a) : (List.range (zN ci)).map (fun j => fvl ad σ1 ci j a) = ((List.range (zN ci)).map (fun j => fvl ad σ ci j a)).set k v := by
  apply List.ext_getElem?
  intro i
  by_cases hi : i = k
  · subst hi
    rw [fl_at hk, List.getElem?_set_self (by simpa using hk), hv]
  · rw [List.getElem?_set_ne (Ne.symm hi), List.getElem?_map, List.getElem?_map]
    by_cases hl : i < zN ci
    · rw [List.getElem?_range hl]
      simp only [Option.map_some]
      rw [ho i hi]
    · rw [List.getElem?_eq_none (by simpa using hl)]
      rfl
/-- a field's new value, beside the cells -/
theorem pvl_ok {L : Nat} {xs : Nat → Int32} {ad : Nat → Nat} {σ σ1 : St} {ci k a : Nat} {v cv : Value} (hw : wf L xs σ) (h : pvl σ ci k a v = some σ1) (hv : vr (zn σ) ad v cv) : Kp σ a σ1 ∧ fvl ad σ1 ci k a = cv ∧ (∀ j, j ≠ k → fvl ad σ1 ci j a = fvl ad σ ci j a) ∧ (okv (zTY ci k) v = true → narrow (zTY ci k) cv = cv ∧ fits (zTY ci k) cv = true) := by
  unfold pvl at h
  split at h
  · rename_i x hf
    cases h
    have hc : cv = _ := hv
    refine ⟨Kp.I hw a k x, ?_, fun j hj => ?_, fun ho => ?_⟩
    · unfold fvl; rw [hf, hc]; show Value.int (up2 (zI σ) a k x a k) = _; simp [up2]
    · unfold fvl; show (match fso (zTY ci j) with | 0 => Value.int (up2 (zI σ) a k x a j) | 1 => _ | _ => _) = _; simp only [up2, hj, and_false, if_false]; rfl
    · rw [hc]; simpa [okv] using ho
  · rename_i x hf
    cases h
    have hc : cv = _ := hv
    refine ⟨Kp.L hw a k x, ?_, fun j hj => ?_, fun ho => ?_⟩
    · unfold fvl; rw [hf, hc]; show Value.long (up2 (zL σ) a k x a k) = _; simp [up2]
    · unfold fvl; show (match fso (zTY ci j) with | 0 => _ | 1 => Value.long (up2 (zL σ) a k x a j) | _ => _) = _; simp only [up2, hj, and_false, if_false]; rfl
    · rw [hc]; simpa [okv] using ho
  · rename_i b hf
    cases h
    obtain ⟨hb, hc⟩ := (hv : b < zn σ ∧ cv = .ref (ad b))
    refine ⟨Kp.R hw a k (b + 1) hb, ?_, fun j hj => ?_, fun ho => ?_⟩
    · unfold fvl; rw [hf, hc]; show va_rf (rf ad (up2 (zR σ) a k (b + 1) a k)) = _; simp [up2, rf, va_rf]
    · unfold fvl; show (match fso (zTY ci j) with | 0 => _ | 1 => _ | _ => va_rf (rf ad (up2 (zR σ) a k (b + 1) a j))) = _; simp only [up2, hj, and_false, if_false]; rfl
    · rw [hc]
      cases ht : zTY ci k <;> rw [ht] at ho <;> simp_all [okv, narrow, fits]
  · rename_i hf
    cases h
    have hc : cv = _ := hv
    refine ⟨Kp.R hw a k 0 (Nat.zero_le _), ?_, fun j hj => ?_, fun ho => ?_⟩
    · unfold fvl; rw [hf, hc]; show va_rf (rf ad (up2 (zR σ) a k 0 a k)) = _; simp [up2, rf, va_rf]
    · unfold fvl; show (match fso (zTY ci j) with | 0 => _ | 1 => _ | _ => va_rf (rf ad (up2 (zR σ) a k 0 a j))) = _; simp only [up2, hj, and_false, if_false]; rfl
    · rw [hc]; simpa [okv] using ho
  · cases h

theorem s_putfield {idx : Nat} (X : Sx p l s m args meth c R H locs mi dC dI cid base L xs ad lo ls σ) (hd : decode (mCd mi) pc = .ok (.putfield idx, 3)) (h : zins mi pc lo st σ (.putfield idx) = some (.inl (pc1, lo1, st1, σ1))) (hs : vrs (zn σ) ad st cst) (kn : Kn p l e R s m args below meth c cells slots Q mi dC dI cid base L xs ad σ (pc1) (lo1) (st1) (σ1)) : W p l e R s m args below meth c H locs cells slots Q (F0 m pc ls cst) := by
  simp only [zins] at h
  split at h
  · rename_i v a st2
    obtain ⟨cv, cs, rfl, h1, hs1⟩ := vrs_cons hs
    obtain ⟨hlt, cs2, rfl, hs2⟩ := vrs_ref hs1
    split at h
    · rename_i ci k heq
      split at h
      · rename_i hq
        split at h
        · rename_i σ2 hp2
          cases h
          obtain ⟨hw, hg⟩ := lkq_ok heq
          have hg : ci < 11 ∧ k < zN ci := by simpa [lSg] using hg
          have hkd : (zh σ a).1 = kdc ci := by rw [hq.1]
          have hkb := kdc_b hg.1
          obtain ⟨h15, -⟩ := X.2.2.2.1.2.2.own (a := a) (by omega) (by omega)
          obtain ⟨hKp, hv1, hv2, hok⟩ := pvl_ok X.2.2.2.1.2.2 hp2 h1
          obtain ⟨hn, hf⟩ := hok hq.2.1
          have hcel : cel cid ad σ1 a = .inr (ci, ((List.range (zN ci)).map (fun j => fvl ad σ ci j a)).set k cv) := by
            rw [cel_o (by rw [hKp.2.1]; exact hkd) hg.1, fl_set hg.2 hv1 hv2]
          have hsame : ∀ x, s.fieldFound? (zT ci k).1 (zT ci k).2.1 (zT ci k).2.2.1 = some x → s.fieldFound? (zT ci k).1 (zT ci k).2.1 (zT ci k).2.2.1 = some x := fun x h => h
          cases hfin : (zT ci k).2.2.2 with
          | false =>
            exact va_put X.1.1 X.1.2.1 (own := zC (mOw mi)) (ref := (zT ci k).1) X.1.2.2.2.2.2.2.2.1 (zin ci hg.1) (zTY ci) (zTY_ok ci hg.1) (zT_nm ci hg.1) X.1.2.2.2.2.1 X.2.1.1 X.2.2.2.1.1 X.2.2.2.1.2.1 X.2.2.2.2.1 (a - 15) ((wl_at h15 hlt).trans (by rw [cel_o hkd hg.1])) (vwCl_at ci hg.1) k hg.2 (X.1.2.2.2.2.2.2.2.1 _ (hw _ (by simp [lWs]))) hsame hfin (zTY_ok ci hg.1 k hg.2) hn hf (by simpa using hg.2) hd (fun H1 locs1 hP hD hS => kn.set X hKp h15 hlt hcel hP hD hS hs2)
          | true =>
            obtain ⟨hk2, hown⟩ := hq.2.2 hfin
            exact va_putF X.1.1 X.1.2.1 (own := zC (mOw mi)) (ref := (zT ci k).1) X.1.2.2.2.2.2.2.2.1 (zin ci hg.1) (zTY ci) (zTY_ok ci hg.1) (zT_nm ci hg.1) X.1.2.2.2.2.1 X.2.1.1 X.2.2.2.1.1 X.2.2.2.1.2.1 X.2.2.2.2.1 (a - 15) ((wl_at h15 hlt).trans (by rw [cel_o hkd hg.1])) (vwCl_at ci hg.1) k hg.2 (X.1.2.2.2.2.2.2.2.1 _ (hw _ (by simp [lWs]))) hsame hfin (X.1.2.2.2.2.2.2.2.2.1 hk2) (by rw [zT_fin ci hg.1 k hg.2 hfin, hown]) (zTY_ok ci hg.1 k hg.2) hn hf (by simpa using hg.2) hd (fun H1 locs1 hP hD hS => kn.set X hKp h15 hlt hcel hP hD hS hs2)
        · cases h
      · cases h
    · cases h
  · cases h

theorem s_iaload (X : Sx p l s m args meth c R H locs mi dC dI cid base L xs ad lo ls σ) (hd : decode (mCd mi) pc = .ok (.iaload, 1)) (h : zins mi pc lo st σ (.iaload) = some (.inl (pc1, lo1, st1, σ1))) (hs : vrs (zn σ) ad st cst) (kn : Kn p l e R s m args below meth c cells slots Q mi dC dI cid base L xs ad σ (pc1) (lo1) (st1) (σ1)) : W p l e R s m args below meth c H locs cells slots Q (F0 m pc ls cst) := by
  simp only [zins] at h
  split at h
  · rename_i i a st2
    split at h
    · rename_i hq
      cases h
      have hin := inx_in hq.2
      obtain ⟨cs, rfl, hs1⟩ := vrs_int hs
      obtain ⟨hlt, cs2, rfl, hs2⟩ := vrs_ref hs1
      rcases hq.1 with hk | hk
      · obtain ⟨h15, -⟩ := X.2.2.2.1.2.2.own (a := a) (by omega) (by omega)
        exact va_iald X.1.1 X.1.2.1 X.2.1.1 X.2.2.2.1.1 (a - 15) 0 ((wl_at h15 hlt).trans (by rw [cel_i hk (Or.inl rfl)])) rfl hin hd (kn.id X X.2.2.2.2.2.1 ⟨rfl, hs2⟩)
      · have ha := X.2.2.2.1.2.2.k19 hk
        subst ha
        rw [X.2.2.2.1.2.2.2.2.1.1] at hin
        refine va_sld X.1.1 X.1.2.1 X.2.2.1.2.1 (Nat.lt_of_lt_of_le X.2.2.1.2.2.1 X.2.2.1.1) (Nat.not_le.mpr X.2.2.1.2.2.1) X.2.2.2.2.1 hin hd (kn.id X X.2.2.2.2.2.1 ⟨?_, hs2⟩)
        show Value.int _ = Value.int _
        rw [X.2.2.2.1.2.2.2.2.1.2]
    · cases h
  · cases h

theorem s_baload (X : Sx p l s m args meth c R H locs mi dC dI cid base L xs ad lo ls σ) (hd : decode (mCd mi) pc = .ok (.baload, 1)) (h : zins mi pc lo st σ (.baload) = some (.inl (pc1, lo1, st1, σ1))) (hs : vrs (zn σ) ad st cst) (kn : Kn p l e R s m args below meth c cells slots Q mi dC dI cid base L xs ad σ (pc1) (lo1) (st1) (σ1)) : W p l e R s m args below meth c H locs cells slots Q (F0 m pc ls cst) := by
  simp only [zins] at h
  split at h
  · rename_i i a st2
    split at h
    · rename_i hq
      cases h
      have hin := inx_in hq.2
      obtain ⟨cs, rfl, hs1⟩ := vrs_int hs
      obtain ⟨hlt, cs2, rfl, hs2⟩ := vrs_ref hs1
      rcases hq.1 with hk | hk | hk
      · obtain ⟨h15, -⟩ := X.2.2.2.1.2.2.own (a := a) (by omega) (by omega)
        exact va_bald X.1.1 X.1.2.1 X.2.1.1 X.2.2.2.1.1 (a - 15) 1 ((wl_at h15 hlt).trans (by rw [cel_i hk (Or.inr (Or.inl rfl))])) rfl hin hd (kn.id X X.2.2.2.2.2.1 ⟨rfl, hs2⟩)
      · obtain ⟨h15, -⟩ := X.2.2.2.1.2.2.own (a := a) (by omega) (by omega)
        exact va_zald X.1.1 X.1.2.1 X.2.1.1 X.2.2.2.1.1 (a - 15) 2 ((wl_at h15 hlt).trans (by rw [cel_i hk (Or.inr (Or.inr rfl))])) rfl hin hd (kn.id X X.2.2.2.2.2.1 ⟨rfl, hs2⟩)
      · obtain ⟨j, hj, rfl⟩ := X.2.2.2.1.2.2.k21 hk
        rw [(X.2.2.2.1.2.2.2.2.2.1 j hj).2.1] at hin
        refine va_tb X.1.1 X.1.2.1 (X.2.2.1.2.2.2.1.1 j hj).2.2.2 X.2.2.2.2.1 hin rfl hd (kn.id X X.2.2.2.2.2.1 ⟨?_, hs2⟩)
        show Value.int _ = Value.int _
        rw [(X.2.2.2.1.2.2.2.2.2.1 j hj).2.2]
    · cases h
  · rename_i i q st2
    split at h
    · rename_i hq
      cases h
      have hin := inx_in hq.2.2
      obtain ⟨cs, rfl, hs1⟩ := vrs_int hs
      obtain ⟨c9, cs2, rfl, hc9, hs2⟩ := vrs_cons hs1
      obtain ⟨j, rfl⟩ : ∃ j, q = j + 1 := ⟨q - 1, by omega⟩
      rw [show c9 = _ from hc9]
      rw [Nat.add_sub_cancel] at hin
      obtain ⟨-, -, -, -, -, -, -, -, z9, z10, z11, z12, z13⟩ := X.2.2.1
      by_cases h18 : j < 18
      · have e : kfn j = fun z => (kby.getD (j - 9) []).getD z 0 := if_pos h18
        have e2 : kle j = kln.getD (j - 9) 0 := if_pos h18
        have h9 := (z9.1 (j - 9) (by omega)).2.2.2
        dsimp only at h9
        rw [show KB + (9 + (j - 9)) = KB + j by omega] at h9
        rw [e2] at hin
        exact va_tb X.1.1 X.1.2.1 h9 X.2.2.2.2.1 hin rfl hd (kn.id X X.2.2.2.2.2.1 ⟨by rw [Nat.add_sub_cancel, e]; rfl, hs2⟩)
      · have e2 : kle j = 100 := if_neg h18
        rw [e2] at hin
        by_cases h19 : j = 18
        · subst h19
          exact va_tb X.1.1 X.1.2.1 z12 X.2.2.2.2.1 hin rfl hd (kn.id X X.2.2.2.2.2.1 ⟨rfl, hs2⟩)
        · obtain rfl : j = 19 := by omega
          exact va_tb X.1.1 X.1.2.1 z13 X.2.2.2.2.1 hin rfl hd (kn.id X X.2.2.2.2.2.1 ⟨rfl, hs2⟩)
    · cases h
  · cases h

theorem s_aaload (X : Sx p l s m args meth c R H locs mi dC dI cid base L xs ad lo ls σ) (hd : decode (mCd mi) pc = .ok (.aaload, 1)) (h : zins mi pc lo st σ (.aaload) = some (.inl (pc1, lo1, st1, σ1))) (hs : vrs (zn σ) ad st cst) (kn : Kn p l e R s m args below meth c cells slots Q mi dC dI cid base L xs ad σ (pc1) (lo1) (st1) (σ1)) : W p l e R s m args below meth c H locs cells slots Q (F0 m pc ls cst) := by
  simp only [zins] at h
  split at h
  · rename_i i a st2
    split at h
    · rename_i hq
      cases h
      have hin := inx_in hq.2
      obtain ⟨cs, rfl, hs1⟩ := vrs_int hs
      obtain ⟨hlt, cs2, rfl, hs2⟩ := vrs_ref hs1
      rcases hq.1 with hk | hk | hk
      · obtain ⟨h15, -⟩ := X.2.2.2.1.2.2.own (a := a) (by omega) (by omega)
        exact va_aldq X.1.1 X.1.2.1 X.2.1.1 X.2.2.2.1.1 (a - 15) 3 ((wl_at h15 hlt).trans (by rw [cel_q hk (Or.inl rfl)])) rfl hin hd (kn.id X X.2.2.2.2.2.1 ⟨rv_vr X.2.2.2.1.2.2 _ _, hs2⟩)
      · obtain ⟨h15, -⟩ := X.2.2.2.1.2.2.own (a := a) (by omega) (by omega)
        exact va_aldq X.1.1 X.1.2.1 X.2.1.1 X.2.2.2.1.1 (a - 15) 4 ((wl_at h15 hlt).trans (by rw [cel_q hk (Or.inr (Or.inl rfl))])) rfl hin hd (kn.id X X.2.2.2.2.2.1 ⟨rv_vr X.2.2.2.1.2.2 _ _, hs2⟩)
      · obtain ⟨h15, -⟩ := X.2.2.2.1.2.2.own (a := a) (by omega) (by omega)
        exact va_aldq X.1.1 X.1.2.1 X.2.1.1 X.2.2.2.1.1 (a - 15) 5 ((wl_at h15 hlt).trans (by rw [cel_q hk (Or.inr (Or.inr rfl))])) rfl hin hd (kn.id X X.2.2.2.2.2.1 ⟨rv_vr X.2.2.2.1.2.2 _ _, hs2⟩)
    · cases h
  · cases h

theorem s_iastore (X : Sx p l s m args meth c R H locs mi dC dI cid base L xs ad lo ls σ) (hd : decode (mCd mi) pc = .ok (.iastore, 1)) (h : zins mi pc lo st σ (.iastore) = some (.inl (pc1, lo1, st1, σ1))) (hs : vrs (zn σ) ad st cst) (kn : Kn p l e R s m args below meth c cells slots Q mi dC dI cid base L xs ad σ (pc1) (lo1) (st1) (σ1)) : W p l e R s m args below meth c H locs cells slots Q (F0 m pc ls cst) := by
  simp only [zins] at h
  split at h
  · rename_i x i a st2
    split at h
    · rename_i hq
      cases h
      have hin := inx_in hq.2
      have hk := hq.1
      obtain ⟨cs, rfl, hs1⟩ := vrs_int hs
      obtain ⟨cs2, rfl, hs2⟩ := vrs_int hs1
      obtain ⟨hlt, cs3, rfl, hs3⟩ := vrs_ref hs2
      obtain ⟨h15, -⟩ := X.2.2.2.1.2.2.own (a := a) (by omega) (by omega)
      exact va_iast X.1.1 X.1.2.1 X.2.1.1 X.2.2.2.1.1 X.2.2.2.1.2.1 X.2.2.2.2.1 (a - 15) 0 ((wl_at h15 hlt).trans (by rw [cel_i hk (Or.inl rfl)])) rfl hin hd (fun H1 locs1 hP hD hS => kn.set X (Kp.I X.2.2.2.1.2.2 a _ x) h15 hlt (by rw [cel_i (show (zh (wI σ a _ x) a).1 = 11 from hk) (Or.inl rfl)]; show _ = Sum.inl (_, _, Sum.inl _); rw [show zI (wI σ a i.toNatClampNeg x) a = upd (zI σ a) i.toNatClampNeg x from up2_eq]; rfl) hP hD hS hs3)
    · cases h
  · cases h

theorem s_bastore (X : Sx p l s m args meth c R H locs mi dC dI cid base L xs ad lo ls σ) (hd : decode (mCd mi) pc = .ok (.bastore, 1)) (h : zins mi pc lo st σ (.bastore) = some (.inl (pc1, lo1, st1, σ1))) (hs : vrs (zn σ) ad st cst) (kn : Kn p l e R s m args below meth c cells slots Q mi dC dI cid base L xs ad σ (pc1) (lo1) (st1) (σ1)) : W p l e R s m args below meth c H locs cells slots Q (F0 m pc ls cst) := by
  simp only [zins] at h
  split at h
  · rename_i x i a st2
    split at h
    · rename_i hq
      have hin := inx_in hq
      obtain ⟨cs, rfl, hs1⟩ := vrs_int hs
      obtain ⟨cs2, rfl, hs2⟩ := vrs_int hs1
      obtain ⟨hlt, cs3, rfl, hs3⟩ := vrs_ref hs2
      split at h
      · rename_i hk
        cases h
        obtain ⟨h15, -⟩ := X.2.2.2.1.2.2.own (a := a) (by omega) (by omega)
        exact va_bast X.1.1 X.1.2.1 X.2.1.1 X.2.2.2.1.1 X.2.2.2.1.2.1 X.2.2.2.2.1 (a - 15) 1 ((wl_at h15 hlt).trans (by rw [cel_i hk (Or.inr (Or.inl rfl))])) rfl hin hd (fun H1 locs1 hP hD hS => kn.set X (Kp.I X.2.2.2.1.2.2 a _ _) h15 hlt (by rw [cel_i (show (zh (wI σ a _ _) a).1 = 13 from hk) (Or.inr (Or.inl rfl)), show zI (wI σ a i.toNatClampNeg (vp_nar .byte x)) a = upd (zI σ a) i.toNatClampNeg (vp_nar .byte x) from up2_eq]; rfl) hP hD hS hs3)
      · split at h
        · rename_i hk
          cases h
          obtain ⟨h15, -⟩ := X.2.2.2.1.2.2.own (a := a) (by omega) (by omega)
          exact va_zast X.1.1 X.1.2.1 X.2.1.1 X.2.2.2.1.1 X.2.2.2.1.2.1 X.2.2.2.2.1 (a - 15) 2 ((wl_at h15 hlt).trans (by rw [cel_i hk (Or.inr (Or.inr rfl))])) rfl hin hd (fun H1 locs1 hP hD hS => kn.set X (Kp.I X.2.2.2.1.2.2 a _ _) h15 hlt (by rw [cel_i (show (zh (wI σ a _ _) a).1 = 14 from hk) (Or.inr (Or.inr rfl)), show zI (wI σ a i.toNatClampNeg (vp_nar .boolean x)) a = upd (zI σ a) i.toNatClampNeg (vp_nar .boolean x) from up2_eq]; rfl) hP hD hS hs3)
        · cases h
    · cases h
  · cases h

theorem s_aastore (X : Sx p l s m args meth c R H locs mi dC dI cid base L xs ad lo ls σ) (hd : decode (mCd mi) pc = .ok (.aastore, 1)) (h : zins mi pc lo st σ (.aastore) = some (.inl (pc1, lo1, st1, σ1))) (hs : vrs (zn σ) ad st cst) (kn : Kn p l e R s m args below meth c cells slots Q mi dC dI cid base L xs ad σ (pc1) (lo1) (st1) (σ1)) : W p l e R s m args below meth c H locs cells slots Q (F0 m pc ls cst) := by
  simp only [zins] at h
  split at h
  · rename_i v i a st2
    split at h
    · rename_i hq
      cases h
      obtain ⟨hk0, hin0, hv⟩ := hq
      have hin := inx_in hin0
      obtain ⟨hvl, cs, rfl, hs1⟩ := vrs_ref hs
      obtain ⟨cs2, rfl, hs2⟩ := vrs_int hs1
      obtain ⟨hlt, cs3, rfl, hs3⟩ := vrs_ref hs2
      rcases hk0 with hk | hk | hk
      · obtain ⟨h15, -⟩ := X.2.2.2.1.2.2.own (a := a) (by omega) (by omega)
        rw [hk] at hv
        have hv' : (zh σ v).1 = kdc 0 := by rw [hv]; rfl
        have hv9 : (zh σ v).1 = 0 + 1 := hv'
        obtain ⟨v15, -⟩ := X.2.2.2.1.2.2.own (a := v) (by omega) (by omega)
        exact va_astq X.1.1 X.1.2.1 X.2.1.1 X.2.2.2.1.1 X.2.2.2.1.2.1 X.2.2.2.2.1 (a - 15) 3 (v - 15) 0 (r := (zC 0, zT 0, zN 0)) ((wl_at h15 hlt).trans (by rw [cel_q hk (Or.inl rfl)])) rfl ((wl_at v15 hvl).trans (by rw [cel_o hv' (by omega)])) rfl hin hd (fun H1 locs1 hP hD hS => kn.set X (Kp.R X.2.2.2.1.2.2 a _ (v + 1) hvl) h15 hlt (by
          rw [cel_q (show (zh (wR σ a _ _) a).1 = 16 from hk) (Or.inl rfl)]
          refine congrArg (fun q => Sum.inl (_, _, Sum.inr (Sum.inr (Sum.inr (Sum.inr q))))) (funext fun j => ?_)
          show rf ad (up2 (zR σ) a i.toNatClampNeg (v + 1) a j) = va_up (fun j => rf ad (zR σ a j)) i.toNatClampNeg (some (ad v)) j
          unfold up2 va_up
          by_cases hj : j = i.toNatClampNeg
          · rw [if_pos ⟨rfl, hj⟩, if_pos hj]; rfl
          · rw [if_neg (fun z => hj z.2), if_neg hj]) hP hD hS hs3)
      · obtain ⟨h15, -⟩ := X.2.2.2.1.2.2.own (a := a) (by omega) (by omega)
        rw [hk] at hv
        have hv' : (zh σ v).1 = kdc 1 := by rw [hv]; rfl
        have hv9 : (zh σ v).1 = 1 + 1 := hv'
        obtain ⟨v15, -⟩ := X.2.2.2.1.2.2.own (a := v) (by omega) (by omega)
        exact va_astq X.1.1 X.1.2.1 X.2.1.1 X.2.2.2.1.1 X.2.2.2.1.2.1 X.2.2.2.2.1 (a - 15) 4 (v - 15) 1 (r := (zC 1, zT 1, zN 1)) ((wl_at h15 hlt).trans (by rw [cel_q hk (Or.inr (Or.inl rfl))])) rfl ((wl_at v15 hvl).trans (by rw [cel_o hv' (by omega)])) rfl hin hd (fun H1 locs1 hP hD hS => kn.set X (Kp.R X.2.2.2.1.2.2 a _ (v + 1) hvl) h15 hlt (by
          rw [cel_q (show (zh (wR σ a _ _) a).1 = 17 from hk) (Or.inr (Or.inl rfl))]
          refine congrArg (fun q => Sum.inl (_, _, Sum.inr (Sum.inr (Sum.inr (Sum.inr q))))) (funext fun j => ?_)
          show rf ad (up2 (zR σ) a i.toNatClampNeg (v + 1) a j) = va_up (fun j => rf ad (zR σ a j)) i.toNatClampNeg (some (ad v)) j
          unfold up2 va_up
          by_cases hj : j = i.toNatClampNeg
          · rw [if_pos ⟨rfl, hj⟩, if_pos hj]; rfl
          · rw [if_neg (fun z => hj z.2), if_neg hj]) hP hD hS hs3)
      · obtain ⟨h15, -⟩ := X.2.2.2.1.2.2.own (a := a) (by omega) (by omega)
        rw [hk] at hv
        have hv' : (zh σ v).1 = kdc 4 := by rw [hv]; rfl
        have hv9 : (zh σ v).1 = 4 + 1 := hv'
        obtain ⟨v15, -⟩ := X.2.2.2.1.2.2.own (a := v) (by omega) (by omega)
        exact va_astq X.1.1 X.1.2.1 X.2.1.1 X.2.2.2.1.1 X.2.2.2.1.2.1 X.2.2.2.2.1 (a - 15) 5 (v - 15) 4 (r := (zC 4, zT 4, zN 4)) ((wl_at h15 hlt).trans (by rw [cel_q hk (Or.inr (Or.inr rfl))])) rfl ((wl_at v15 hvl).trans (by rw [cel_o hv' (by omega)])) rfl hin hd (fun H1 locs1 hP hD hS => kn.set X (Kp.R X.2.2.2.1.2.2 a _ (v + 1) hvl) h15 hlt (by
          rw [cel_q (show (zh (wR σ a _ _) a).1 = 18 from hk) (Or.inr (Or.inr rfl))]
          refine congrArg (fun q => Sum.inl (_, _, Sum.inr (Sum.inr (Sum.inr (Sum.inr q))))) (funext fun j => ?_)
          show rf ad (up2 (zR σ) a i.toNatClampNeg (v + 1) a j) = va_up (fun j => rf ad (zR σ a j)) i.toNatClampNeg (some (ad v)) j
          unfold up2 va_up
          by_cases hj : j = i.toNatClampNeg
          · rw [if_pos ⟨rfl, hj⟩, if_pos hj]; rfl
          · rw [if_neg (fun z => hj z.2), if_neg hj]) hP hD hS hs3)
    · cases h
  · cases h

theorem s_arraylength (X : Sx p l s m args meth c R H locs mi dC dI cid base L xs ad lo ls σ) (hd : decode (mCd mi) pc = .ok (.arraylength, 1)) (h : zins mi pc lo st σ (.arraylength) = some (.inl (pc1, lo1, st1, σ1))) (hs : vrs (zn σ) ad st cst) (kn : Kn p l e R s m args below meth c cells slots Q mi dC dI cid base L xs ad σ (pc1) (lo1) (st1) (σ1)) : W p l e R s m args below meth c H locs cells slots Q (F0 m pc ls cst) := by
  simp only [zins] at h
  split at h
  · rename_i a st2
    split at h
    · rename_i hq
      cases h
      obtain ⟨hlt, cs2, rfl, hs1⟩ := vrs_ref hs
      by_cases h19 : (zh σ a).1 = 19
      · have ha := X.2.2.2.1.2.2.k19 h19
        subst ha
        rw [X.2.2.2.1.2.2.2.2.1.1] at kn
        exact va_slen X.1.1 X.1.2.1 X.2.2.1.2.1 (Nat.lt_of_lt_of_le X.2.2.1.2.2.1 X.2.2.1.1) (Nat.not_le.mpr X.2.2.1.2.2.1) X.2.2.2.2.1 hd (kn.id X X.2.2.2.2.2.1 ⟨rfl, hs1⟩)
      · by_cases h21 : (zh σ a).1 = 21
        · obtain ⟨j, hj, rfl⟩ := X.2.2.2.1.2.2.k21 h21
          rw [(X.2.2.2.1.2.2.2.2.2.1 j hj).2.1] at kn
          exact va_tlen X.1.1 X.1.2.1 (X.2.2.1.2.2.2.1.1 j hj).2.2.2 X.2.2.2.2.1 rfl hd (kn.id X X.2.2.2.2.2.1 ⟨rfl, hs1⟩)
        · obtain ⟨h15, -⟩ := X.2.2.2.1.2.2.own (a := a) (by omega) (by omega)
          have hk : (zh σ a).1 = 11 ∨ (zh σ a).1 = 13 ∨ (zh σ a).1 = 14 ∨ (zh σ a).1 = 16 ∨ (zh σ a).1 = 17 ∨ (zh σ a).1 = 18 ∨ (zh σ a).1 = 12 ∨ (zh σ a).1 = 15 := by omega
          rcases hk with hk | hk | hk | hk | hk | hk | hk
          · exact va_alen (v := Int32.ofNat (zh σ a).2) X.1.1 X.1.2.1 X.2.1.1 X.2.2.2.1.1 (a - 15) 0 ((wl_at h15 hlt).trans (by rw [cel_i hk (Or.inl rfl)])) rfl rfl hd (kn.id X X.2.2.2.2.2.1 ⟨rfl, hs1⟩)
          · exact va_alen (v := Int32.ofNat (zh σ a).2) X.1.1 X.1.2.1 X.2.1.1 X.2.2.2.1.1 (a - 15) 1 ((wl_at h15 hlt).trans (by rw [cel_i hk (Or.inr (Or.inl rfl))])) rfl rfl hd (kn.id X X.2.2.2.2.2.1 ⟨rfl, hs1⟩)
          · exact va_alen (v := Int32.ofNat (zh σ a).2) X.1.1 X.1.2.1 X.2.1.1 X.2.2.2.1.1 (a - 15) 2 ((wl_at h15 hlt).trans (by rw [cel_i hk (Or.inr (Or.inr rfl))])) rfl rfl hd (kn.id X X.2.2.2.2.2.1 ⟨rfl, hs1⟩)
          · exact va_alen (v := Int32.ofNat (zh σ a).2) X.1.1 X.1.2.1 X.2.1.1 X.2.2.2.1.1 (a - 15) 3 ((wl_at h15 hlt).trans (by rw [cel_q hk (Or.inl rfl)])) rfl rfl hd (kn.id X X.2.2.2.2.2.1 ⟨rfl, hs1⟩)
          · exact va_alen (v := Int32.ofNat (zh σ a).2) X.1.1 X.1.2.1 X.2.1.1 X.2.2.2.1.1 (a - 15) 4 ((wl_at h15 hlt).trans (by rw [cel_q hk (Or.inr (Or.inl rfl))])) rfl rfl hd (kn.id X X.2.2.2.2.2.1 ⟨rfl, hs1⟩)
          · exact va_alen (v := Int32.ofNat (zh σ a).2) X.1.1 X.1.2.1 X.2.1.1 X.2.2.2.1.1 (a - 15) 5 ((wl_at h15 hlt).trans (by rw [cel_q hk (Or.inr (Or.inr rfl))])) rfl rfl hd (kn.id X X.2.2.2.2.2.1 ⟨rfl, hs1⟩)
          · exact absurd hq (by omega)
    · cases h
  · rename_i q st2
    split at h
    · rename_i hq
      cases h
      obtain ⟨c9, cs2, rfl, hc9, hs2⟩ := vrs_cons hs
      obtain ⟨j, rfl⟩ : ∃ j, q = j + 1 := ⟨q - 1, by omega⟩
      rw [show c9 = _ from hc9]
      obtain ⟨-, -, -, -, -, -, -, -, z9, z10, z11, z12, z13⟩ := X.2.2.1
      by_cases h18 : j < 18
      · have e2 : kle j = kln.getD (j - 9) 0 := if_pos h18
        have h9 := (z9.1 (j - 9) (by omega)).2.2.2
        dsimp only at h9
        rw [show KB + (9 + (j - 9)) = KB + j by omega] at h9
        exact va_tlen X.1.1 X.1.2.1 h9 X.2.2.2.2.1 rfl hd (kn.id X X.2.2.2.2.2.1 ⟨by rw [Nat.add_sub_cancel, e2]; rfl, hs2⟩)
      · by_cases h19 : j = 18
        · subst h19
          exact va_tlen X.1.1 X.1.2.1 z12 X.2.2.2.2.1 rfl hd (kn.id X X.2.2.2.2.2.1 ⟨rfl, hs2⟩)
        · obtain rfl : j = 19 := by omega
          exact va_tlen X.1.1 X.1.2.1 z13 X.2.2.2.2.1 rfl hd (kn.id X X.2.2.2.2.2.1 ⟨rfl, hs2⟩)
    · cases h
  · cases h

theorem s_ldc {idx : Nat} (X : Sx p l s m args meth c R H locs mi dC dI cid base L xs ad lo ls σ) (hd : decode (mCd mi) pc = .ok (.ldc idx, 2)) (h : zins mi pc lo st σ (.ldc idx) = some (.inl (pc1, lo1, st1, σ1))) (hs : vrs (zn σ) ad st cst) (kn : Kn p l e R s m args below meth c cells slots Q mi dC dI cid base L xs ad σ (pc1) (lo1) (st1) (σ1)) : W p l e R s m args below meth c H locs cells slots Q (F0 m pc ls cst) := by
  simp only [zins] at h
  split at h
  · rename_i j b heq
    cases h
    have hj : j < 7 := by simpa [lSg] using (lkq_ok heq).2
    obtain ⟨q, hq1, hq2, hq3, hq4⟩ := lk_str _ (lkq_own heq) _ (lkq_mem heq) rfl
    have hR := X.2.1.2.2.1 q hq1
    rw [hq2, hq3, hq4] at hR
    exact va_ldcS X.1.1 X.1.2.1 X.1.2.2.2.2.1 hR hd (kn.id X X.2.2.2.2.2.1 ⟨⟨by show 1 + j < zn σ; have := X.2.2.2.1.2.2.1; omega, rfl⟩, hs⟩)
  · rename_i j b heq
    cases h
    have hj : j < 9 := by simpa [lSg] using (lkq_ok heq).2
    obtain ⟨q, hq1, hq2, hq3, hq4⟩ := lk_stl _ (lkq_own heq) _ (lkq_mem heq) rfl
    have hR := X.2.1.2.2.2.2.1 q hq1
    rw [hq2, hq3, hq4] at hR
    exact va_ldcS X.1.1 X.1.2.1 X.1.2.2.2.2.1 hR hd (kn.id X X.2.2.2.2.2.1 ⟨rfl, hs⟩)
  · rename_i v b heq
    cases h
    exact lv_ldc X.1.1 X.1.2.1 X.1.2.2.2.2.1 (X.1.2.2.2.2.2.2.2.1 _ ((lkq_ok heq).1 _ (by simp [lWs]))) hd (kn.id X X.2.2.2.2.2.1 ⟨rfl, hs⟩)
  · cases h

theorem s_getstatic {idx : Nat} (X : Sx p l s m args meth c R H locs mi dC dI cid base L xs ad lo ls σ) (hd : decode (mCd mi) pc = .ok (.getstatic idx, 3)) (h : zins mi pc lo st σ (.getstatic idx) = some (.inl (pc1, lo1, st1, σ1))) (hs : vrs (zn σ) ad st cst) (kn : Kn p l e R s m args below meth c cells slots Q mi dC dI cid base L xs ad σ (pc1) (lo1) (st1) (σ1)) : W p l e R s m args below meth c H locs cells slots Q (F0 m pc ls cst) := by
  simp only [zins] at h
  split at h
  · rename_i a b heq
    cases h
    exact va_gets X.1.1 X.1.2.1 X.2.2.1.2.2.2.2.1 X.2.2.2.2.1 X.1.2.2.2.2.1 (X.1.2.2.2.2.2.2.2.1 _ ((lkq_ok heq).1 _ (by simp [lWs]))) (fun x h => h) hd (kn.id X X.2.2.2.2.2.1 ⟨rfl, hs⟩)
  · rename_i a b heq
    cases h
    rcases X.2.2.1.2.2.2.2.2.1 with hz | ⟨t, hz⟩
    · exact va_gets X.1.1 X.1.2.1 hz X.2.2.2.2.1 X.1.2.2.2.2.1 (X.1.2.2.2.2.2.2.2.1 _ ((lkq_ok heq).1 _ (by simp [lWs]))) (fun x h => h) hd (kn.id X X.2.2.2.2.2.1 ⟨Or.inl rfl, hs⟩)
    · exact va_gets X.1.1 X.1.2.1 hz X.2.2.2.2.1 X.1.2.2.2.2.1 (X.1.2.2.2.2.2.2.2.1 _ ((lkq_ok heq).1 _ (by simp [lWs]))) (fun x h => h) hd (kn.id X X.2.2.2.2.2.1 ⟨Or.inr ⟨t, rfl⟩, hs⟩)
  · rename_i a b heq
    cases h
    exact va_gets X.1.1 X.1.2.1 X.2.2.1.2.2.2.2.2.2.2.2.2.1 X.2.2.2.2.1 X.1.2.2.2.2.1 (X.1.2.2.2.2.2.2.2.1 _ ((lkq_ok heq).1 _ (by simp [lWs]))) (fun x h => h) hd (kn.id X X.2.2.2.2.2.1 ⟨rfl, hs⟩)
  · rename_i a b heq
    cases h
    exact va_gets X.1.1 X.1.2.1 X.2.2.1.2.2.2.2.2.2.2.2.2.2.1 X.2.2.2.2.1 X.1.2.2.2.2.1 (X.1.2.2.2.2.2.2.2.1 _ ((lkq_ok heq).1 _ (by simp [lWs]))) (fun x h => h) hd (kn.id X X.2.2.2.2.2.1 ⟨rfl, hs⟩)
  · cases h

theorem nofloor (a b : Nat) (h : a = b) : b - a = 0 := by omega
theorem zI_new {L : Nat} {xs : Nat → Int32} {σ : St} (h : wf L xs σ) (kd : Nat × Nat) (n : Nat) : zI (zNew σ kd n) (zn σ) = (fun _ => 0) ∧ zL (zNew σ kd n) (zn σ) = (fun _ => 0) ∧ zR (zNew σ kd n) (zn σ) = (fun _ => 0) := by
  obtain ⟨-, g⟩ := h.2.1 (zn σ) (Nat.le_refl _)
  exact ⟨funext fun j => (g j).2.1, funext fun j => (g j).2.2.1, funext fun j => (g j).1⟩

theorem s_newarray {t : ArrayType} (X : Sx p l s m args meth c R H locs mi dC dI cid base L xs ad lo ls σ) (hd : decode (mCd mi) pc = .ok (.newarray t, 2)) (h : zins mi pc lo st σ (.newarray t) = some (.inl (pc1, lo1, st1, σ1))) (hs : vrs (zn σ) ad st cst) (kn : Kn p l e R s m args below meth c cells slots Q mi dC dI cid base L xs ad σ (pc1) (lo1) (st1) (σ1)) (hrc : cells + (cu σ1 - cu σ) ≤ R.cells) (hrs : slots + (su σ1 - su σ) ≤ R.slots) : W p l e R s m args below meth c H locs cells slots Q (F0 m pc ls cst) := by
  simp only [zins] at h
  split at h
  · rename_i n st2
    split at h
    · rename_i hq
      cases h
      obtain ⟨cs, rfl, hs1⟩ := vrs_int hs
      obtain ⟨h0, h1, h2, h9⟩ := hq
      have hn0 : ¬ n < 0 := by
        intro z
        rw [Int32.lt_iff_toInt_lt] at z
        rw [Int32.le_iff_toInt_le] at h0
        omega
      have e2 : cu (zNew σ (arK t, n.toNatClampNeg) n.toNatClampNeg) - cu σ = 1 := by show zn σ + 1 + zt σ - (zn σ + zt σ) = 1; omega
      have e3 : su (zNew σ (arK t, n.toNatClampNeg) n.toNatClampNeg) - su σ = n.toNatClampNeg := by show zs σ + n.toNatClampNeg + 6 * zt σ - (zs σ + 6 * zt σ) = _; omega
      rw [e2] at hrc
      rw [e3] at hrs
      cases t
      · have e1 : n.toNatClampNeg = n.toNatClampNeg := rfl
        refine va_newa X.1.1 X.1.2.1 (ty := .boolean) (a0 := (n.toNatClampNeg, .inl (fun _ => 0))) (X.1.2.2.2.2.2.2.2.1 _ (zarr _ (List.mem_of_getElem? (i := 2) rfl))) rfl X.2.1.1 X.2.2.2.1.1 X.2.2.2.1.2.1 X.2.2.2.2.1 (fun q hq => Nat.le_trans X.2.2.1.1 hq) (fun cA => rfl) hn0 rfl (by show n.toNatClampNeg * _ ≤ _; simp only [componentBytes]; omega) (by omega) (by omega) hd (fun q cA H1 hK1 hP1 hD1 hS1 => ?_)
        have hcA : cA = cid 14 := by
          have h1 := (hK1.2 6 (cA, .boolean) (by rw [List.getElem?_append_right (Nat.le_of_ble_eq_true rfl)]; rfl)).2
          have h2 := (X.2.1.1.2 2 (cid 14, .boolean) rfl).2
          exact Option.some.inj (h1.symm.trans h2)
        subst hcA
        have hN : Nw σ (14, n.toNatClampNeg) n.toNatClampNeg (zNew σ (14, n.toNatClampNeg) n.toNatClampNeg) := Nw.mk X.2.2.2.1.2.2 _ _
        obtain ⟨z1, z2, z4⟩ := zI_new X.2.2.2.1.2.2 (14, n.toNatClampNeg) n.toNatClampNeg
        have hcel := cel_i (cid := cid) (ad := up1 ad (zn σ) q) (congrArg Prod.fst hN.atE) (Or.inr (Or.inr rfl))
        rw [hN.atE, z1] at hcel
        exact kn.new X hN (Or.inl (by show 14 ≤ 18; omega)) h9 hcel hP1 hD1 hS1 hs1
      · exact absurd rfl h2
      · exact absurd rfl h2
      · exact absurd rfl h2
      · have e1 : n.toNatClampNeg = n.toNatClampNeg := rfl
        refine va_newa X.1.1 X.1.2.1 (ty := .byte) (a0 := (n.toNatClampNeg, .inl (fun _ => 0))) (X.1.2.2.2.2.2.2.2.1 _ (zarr _ (List.mem_of_getElem? (i := 1) rfl))) rfl X.2.1.1 X.2.2.2.1.1 X.2.2.2.1.2.1 X.2.2.2.2.1 (fun q hq => Nat.le_trans X.2.2.1.1 hq) (fun cA => rfl) hn0 rfl (by show n.toNatClampNeg * _ ≤ _; simp only [componentBytes]; omega) (by omega) (by omega) hd (fun q cA H1 hK1 hP1 hD1 hS1 => ?_)
        have hcA : cA = cid 13 := by
          have h1 := (hK1.2 6 (cA, .byte) (by rw [List.getElem?_append_right (Nat.le_of_ble_eq_true rfl)]; rfl)).2
          have h2 := (X.2.1.1.2 1 (cid 13, .byte) rfl).2
          exact Option.some.inj (h1.symm.trans h2)
        subst hcA
        have hN : Nw σ (13, n.toNatClampNeg) n.toNatClampNeg (zNew σ (13, n.toNatClampNeg) n.toNatClampNeg) := Nw.mk X.2.2.2.1.2.2 _ _
        obtain ⟨z1, z2, z4⟩ := zI_new X.2.2.2.1.2.2 (13, n.toNatClampNeg) n.toNatClampNeg
        have hcel := cel_i (cid := cid) (ad := up1 ad (zn σ) q) (congrArg Prod.fst hN.atE) (Or.inr (Or.inl rfl))
        rw [hN.atE, z1] at hcel
        exact kn.new X hN (Or.inl (by show 13 ≤ 18; omega)) h9 hcel hP1 hD1 hS1 hs1
      · exact absurd rfl h2
      · have e1 : n.toNatClampNeg = n.toNatClampNeg := rfl
        refine va_newa X.1.1 X.1.2.1 (ty := .int) (a0 := (n.toNatClampNeg, .inl (fun _ => 0))) (X.1.2.2.2.2.2.2.2.1 _ (zarr _ (List.mem_of_getElem? (i := 0) rfl))) rfl X.2.1.1 X.2.2.2.1.1 X.2.2.2.1.2.1 X.2.2.2.2.1 (fun q hq => Nat.le_trans X.2.2.1.1 hq) (fun cA => rfl) hn0 rfl (by show n.toNatClampNeg * _ ≤ _; simp only [componentBytes]; omega) (by omega) (by omega) hd (fun q cA H1 hK1 hP1 hD1 hS1 => ?_)
        have hcA : cA = cid 11 := by
          have h1 := (hK1.2 6 (cA, .int) (by rw [List.getElem?_append_right (Nat.le_of_ble_eq_true rfl)]; rfl)).2
          have h2 := (X.2.1.1.2 0 (cid 11, .int) rfl).2
          exact Option.some.inj (h1.symm.trans h2)
        subst hcA
        have hN : Nw σ (11, n.toNatClampNeg) n.toNatClampNeg (zNew σ (11, n.toNatClampNeg) n.toNatClampNeg) := Nw.mk X.2.2.2.1.2.2 _ _
        obtain ⟨z1, z2, z4⟩ := zI_new X.2.2.2.1.2.2 (11, n.toNatClampNeg) n.toNatClampNeg
        have hcel := cel_i (cid := cid) (ad := up1 ad (zn σ) q) (congrArg Prod.fst hN.atE) (Or.inl rfl)
        rw [hN.atE, z1] at hcel
        exact kn.new X hN (Or.inl (by show 11 ≤ 18; omega)) h9 hcel hP1 hD1 hS1 hs1
      · exact absurd rfl h2
    · cases h
  · cases h

theorem s_anewarray {idx : Nat} (X : Sx p l s m args meth c R H locs mi dC dI cid base L xs ad lo ls σ) (hd : decode (mCd mi) pc = .ok (.anewarray idx, 3)) (h : zins mi pc lo st σ (.anewarray idx) = some (.inl (pc1, lo1, st1, σ1))) (hs : vrs (zn σ) ad st cst) (kn : Kn p l e R s m args below meth c cells slots Q mi dC dI cid base L xs ad σ (pc1) (lo1) (st1) (σ1)) (hrc : cells + (cu σ1 - cu σ) ≤ R.cells) (hrs : slots + (su σ1 - su σ) ≤ R.slots) : W p l e R s m args below meth c H locs cells slots Q (F0 m pc ls cst) := by
  simp only [zins] at h
  split at h
  · rename_i n st2
    split at h
    · rename_i ci b heq
      split at h
      · rename_i hq
        cases h
        obtain ⟨cs, rfl, hs1⟩ := vrs_int hs
        obtain ⟨h0, h1, h2, h9⟩ := hq
        have hn0 : ¬ n < 0 := by
          intro z
          rw [Int32.lt_iff_toInt_lt] at z
          rw [Int32.le_iff_toInt_le] at h0
          omega
        have e2 : ∀ kd, cu (zNew σ kd n.toNatClampNeg) - cu σ = 1 := fun kd => by show zn σ + 1 + zt σ - (zn σ + zt σ) = 1; omega
        have e3 : ∀ kd, su (zNew σ kd n.toNatClampNeg) - su σ = n.toNatClampNeg := fun kd => by show zs σ + n.toNatClampNeg + 6 * zt σ - (zs σ + 6 * zt σ) = _; omega
        rw [e2] at hrc
        rw [e3] at hrs
        rcases h2 with hci | hci | hci
        · subst hci
          have hw := (lkq_ok heq).1
          refine va_newq X.1.1 X.1.2.1 (C := zC 0) X.1.2.2.2.2.1 (X.1.2.2.2.2.2.2.2.1 _ (hw _ (by simp [lWs]))) (X.2.1.2.1 (Cond.arrayOver (.object (zC 0))) (by decide +kernel)) X.2.1.1 X.2.2.2.1.1 X.2.2.2.1.2.1 X.2.2.2.2.1 (fun q hq => Nat.le_trans X.2.2.1.1 hq) hn0 rfl (by omega) (by omega) (by omega) hd (fun q cA H1 hK1 hP1 hD1 hS1 => ?_)
          have hcA : cA = cid 16 := by
            have h1 := (hK1.2 6 (cA, .object (zC 0)) (by rw [List.getElem?_append_right (Nat.le_of_ble_eq_true rfl)]; rfl)).2
            have h2 := (X.2.1.1.2 3 (cid 16, .object (zC 0)) rfl).2
            obtain ⟨-, -, -, -, -, h1⟩ := h1
            obtain ⟨-, -, -, -, -, h2⟩ := h2
            exact Option.some.inj (h1.symm.trans h2)
          subst hcA
          have hN : Nw σ (16, n.toNatClampNeg) n.toNatClampNeg (zNew σ (16, n.toNatClampNeg) n.toNatClampNeg) := Nw.mk X.2.2.2.1.2.2 _ _
          obtain ⟨z1, z2, z4⟩ := zI_new X.2.2.2.1.2.2 (16, n.toNatClampNeg) n.toNatClampNeg
          have hcel := cel_q (cid := cid) (ad := up1 ad (zn σ) q) (congrArg Prod.fst hN.atE) (Or.inl rfl)
          rw [hN.atE, z4] at hcel
          exact kn.new X hN (Or.inl (by show 16 ≤ 18; omega)) h9 hcel hP1 hD1 hS1 hs1
        · subst hci
          have hw := (lkq_ok heq).1
          refine va_newq X.1.1 X.1.2.1 (C := zC 1) X.1.2.2.2.2.1 (X.1.2.2.2.2.2.2.2.1 _ (hw _ (by simp [lWs]))) (X.2.1.2.1 (Cond.arrayOver (.object (zC 1))) (by decide +kernel)) X.2.1.1 X.2.2.2.1.1 X.2.2.2.1.2.1 X.2.2.2.2.1 (fun q hq => Nat.le_trans X.2.2.1.1 hq) hn0 rfl (by omega) (by omega) (by omega) hd (fun q cA H1 hK1 hP1 hD1 hS1 => ?_)
          have hcA : cA = cid 17 := by
            have h1 := (hK1.2 6 (cA, .object (zC 1)) (by rw [List.getElem?_append_right (Nat.le_of_ble_eq_true rfl)]; rfl)).2
            have h2 := (X.2.1.1.2 4 (cid 17, .object (zC 1)) rfl).2
            obtain ⟨-, -, -, -, -, h1⟩ := h1
            obtain ⟨-, -, -, -, -, h2⟩ := h2
            exact Option.some.inj (h1.symm.trans h2)
          subst hcA
          have hN : Nw σ (17, n.toNatClampNeg) n.toNatClampNeg (zNew σ (17, n.toNatClampNeg) n.toNatClampNeg) := Nw.mk X.2.2.2.1.2.2 _ _
          obtain ⟨z1, z2, z4⟩ := zI_new X.2.2.2.1.2.2 (17, n.toNatClampNeg) n.toNatClampNeg
          have hcel := cel_q (cid := cid) (ad := up1 ad (zn σ) q) (congrArg Prod.fst hN.atE) (Or.inr (Or.inl rfl))
          rw [hN.atE, z4] at hcel
          exact kn.new X hN (Or.inl (by show 17 ≤ 18; omega)) h9 hcel hP1 hD1 hS1 hs1
        · subst hci
          have hw := (lkq_ok heq).1
          refine va_newq X.1.1 X.1.2.1 (C := zC 4) X.1.2.2.2.2.1 (X.1.2.2.2.2.2.2.2.1 _ (hw _ (by simp [lWs]))) (X.2.1.2.1 (Cond.arrayOver (.object (zC 4))) (by decide +kernel)) X.2.1.1 X.2.2.2.1.1 X.2.2.2.1.2.1 X.2.2.2.2.1 (fun q hq => Nat.le_trans X.2.2.1.1 hq) hn0 rfl (by omega) (by omega) (by omega) hd (fun q cA H1 hK1 hP1 hD1 hS1 => ?_)
          have hcA : cA = cid 18 := by
            have h1 := (hK1.2 6 (cA, .object (zC 4)) (by rw [List.getElem?_append_right (Nat.le_of_ble_eq_true rfl)]; rfl)).2
            have h2 := (X.2.1.1.2 5 (cid 18, .object (zC 4)) rfl).2
            obtain ⟨-, -, -, -, -, h1⟩ := h1
            obtain ⟨-, -, -, -, -, h2⟩ := h2
            exact Option.some.inj (h1.symm.trans h2)
          subst hcA
          have hN : Nw σ (18, n.toNatClampNeg) n.toNatClampNeg (zNew σ (18, n.toNatClampNeg) n.toNatClampNeg) := Nw.mk X.2.2.2.1.2.2 _ _
          obtain ⟨z1, z2, z4⟩ := zI_new X.2.2.2.1.2.2 (18, n.toNatClampNeg) n.toNatClampNeg
          have hcel := cel_q (cid := cid) (ad := up1 ad (zn σ) q) (congrArg Prod.fst hN.atE) (Or.inr (Or.inr rfl))
          rw [hN.atE, z4] at hcel
          exact kn.new X hN (Or.inl (by show 18 ≤ 18; omega)) h9 hcel hP1 hD1 hS1 hs1
      · cases h
    · cases h
  · cases h

theorem s_new {idx : Nat} (X : Sx p l s m args meth c R H locs mi dC dI cid base L xs ad lo ls σ) (hd : decode (mCd mi) pc = .ok (.new idx, 3)) (h : zins mi pc lo st σ (.new idx) = some (.inl (pc1, lo1, st1, σ1))) (hs : vrs (zn σ) ad st cst) (kn : Kn p l e R s m args below meth c cells slots Q mi dC dI cid base L xs ad σ (pc1) (lo1) (st1) (σ1)) (hrc : cells + (cu σ1 - cu σ) ≤ R.cells) (hrs : slots + (su σ1 - su σ) ≤ R.slots) : W p l e R s m args below meth c H locs cells slots Q (F0 m pc ls cst) := by
  simp only [zins] at h
  split at h
  · rename_i ci b heq
    split at h
    · rename_i h9
      cases h
      obtain ⟨hw, hg⟩ := lkq_ok heq
      have hg : ci < 11 := by simpa [lSg] using hg
      have hkb := kdc_b hg
      have hN : Nw σ (kdc ci, 0) (zN ci) (zNew σ (kdc ci, 0) (zN ci)) := Nw.mk X.2.2.2.1.2.2 _ _
      rw [hN.cuE] at hrc
      rw [hN.suE] at hrs
      obtain ⟨g1, g2, g4⟩ := zI_new X.2.2.2.1.2.2 (kdc ci, 0) (zN ci)
      refine va_new X.1.1 X.1.2.1 (own := zC (mOw mi)) (fs := (List.range (zN ci)).map (fun j => fvl ad (zNew σ (kdc ci, 0) (zN ci)) ci j (zn σ))) X.1.2.2.2.2.2.2.2.1 (zin ci hg) (zTY ci) (zTY_ok ci hg) X.1.2.2.2.2.1 (X.1.2.2.2.2.2.2.2.1 _ (hw _ (by simp [lWs]))) (X.1.2.2.2.2.2.2.2.1 _ (zins1 ci hg)) (X.1.2.2.2.2.2.2.2.1 _ (zini1 ci hg)) X.2.1.1 X.2.2.2.1.1 X.2.2.2.1.2.1 X.2.2.2.2.1 (fun q hq => Nat.le_trans X.2.2.1.1 hq) (vwCl_at ci hg) (fun j hj => ?_) hrc hrs hd (fun q H1 hP1 hD1 hS1 => ?_)
      · rw [zTY_def ci hg j hj]
        unfold vp_V
        rw [List.getD_eq_getElem?_getD, fl_at hj]
        unfold fvl
        rw [g1, g2, g4]
        rfl
      · refine kn.new X hN (by omega) h9 ?_ hP1 hD1 hS1 hs
        rw [cel_o (congrArg Prod.fst hN.atE) hg]
        refine congrArg (fun q => Sum.inr (ci, q)) (List.map_congr_left fun j hj => ?_)
        unfold fvl
        rw [g1, g2, g4]
        rfl
    · cases h
  · unfold zthrow at h
    split at h
    · split at h <;> cases h
    · cases h
  · cases h

theorem s_checkcast {idx : Nat} (X : Sx p l s m args meth c R H locs mi dC dI cid base L xs ad lo ls σ) (hd : decode (mCd mi) pc = .ok (.checkcast idx, 3)) (h : zins mi pc lo st σ (.checkcast idx) = some (.inl (pc1, lo1, st1, σ1))) (hs : vrs (zn σ) ad st cst) (kn : Kn p l e R s m args below meth c cells slots Q mi dC dI cid base L xs ad σ (pc1) (lo1) (st1) (σ1)) : W p l e R s m args below meth c H locs cells slots Q (F0 m pc ls cst) := by
  simp only [zins] at h
  split at h
  · rename_i x1 x2 heq
    split at h
    · rename_i a st2
      split at h
      · rename_i hk
        cases h
        obtain ⟨hlt, cs, rfl, hs1⟩ := vrs_ref hs
        obtain ⟨h15, -⟩ := X.2.2.2.1.2.2.own (a := a) (by omega) (by omega)
        exact va_castA X.1.1 X.1.2.1 X.1.2.2.2.2.1 (X.1.2.2.2.2.2.2.2.1 _ ((lkq_ok heq).1 _ (by simp [lWs]))) X.2.2.2.1.1 (a - 15) ((wl_at h15 hlt).trans (by rw [cel_i hk (Or.inr (Or.inl rfl))])) X.2.1.2.2.2.2.2 hd (kn.id X X.2.2.2.2.2.1 ⟨⟨hlt, rfl⟩, hs1⟩)
      · cases h
    · cases h
  · cases h

theorem bts_ok {f : Nat → Int32} {p n : Nat} (h : bts f p n = true) : ∀ i : Nat, i < n → fits .byte (.int (f (p + i))) = true := by
  intro i hi
  exact List.all_eq_true.mp h i (List.mem_range.mpr hi)
theorem arr_at {cI : ClassId} {g : Nat → Value} {n i : Nat} {v : Value} (h : (arrV cI n g).slots[i]? = some v) : i < n ∧ v = g i := by
  by_cases hi : i < n
  · rw [arrV_read _ _ hi] at h
    exact ⟨hi, (Option.some.inj h).symm⟩
  · rw [Array.getElem?_eq_none (by rw [arrV_size]; omega)] at h
    cases h
theorem Nw_clnI {σ : St} {a n : Nat} : zI (zCln σ a n) (zn σ) = zI σ a := funext fun j => if_pos rfl

theorem s_clone {idx : Nat} (X : Sx p l s m args meth c R H locs mi dC dI cid base L xs ad lo ls σ) (hd : decode (mCd mi) pc = .ok (.invokevirtual idx, 3)) (h : zins mi pc lo st σ (.invokevirtual idx) = some (.inl (pc1, lo1, st1, σ1))) (hs : vrs (zn σ) ad st cst) (kn : Kn p l e R s m args below meth c cells slots Q mi dC dI cid base L xs ad σ (pc1) (lo1) (st1) (σ1)) (hrc : cells + (cu σ1 - cu σ) ≤ R.cells) (hrs : slots + (su σ1 - su σ) ≤ R.slots) : W p l e R s m args below meth c H locs cells slots Q (F0 m pc ls cst) := by
  simp only [zins] at h
  split at h
  · exfalso; unfold zcall at h; split at h <;> (repeat' split at h) <;> cases h
  · exfalso; unfold zcall at h; split at h <;> (repeat' split at h) <;> cases h
  · rename_i x1 x2 heq
    split at h
    · rename_i a st2
      split at h
      · rename_i hq
        cases h
        obtain ⟨hk, hcat, h9, hb⟩ := hq
        obtain ⟨hlt, cs, rfl, hs1⟩ := vrs_ref hs
        have hc : cats cs ≤ 8 := by rw [vrs_cats hs1]; exact hcat
        obtain ⟨h15, -⟩ := X.2.2.2.1.2.2.own (a := a) (by omega) (by omega)
        have hN : Nw σ (13, (zh σ a).2) (zh σ a).2 (zCln σ a (zh σ a).2) := Nw.cln X.2.2.2.1.2.2 _ _
        rw [hN.cuE] at hrc
        rw [hN.suE] at hrs
        refine va_clone X.1.1 X.1.2.1 (by rw [X.2.2.2.2.2.1.size, X.1.2.2.2.1]) X.1.2.2.2.2.1 (X.1.2.2.2.2.2.2.2.1 _ ((lkq_ok heq).1 _ (by simp [lWs]))) (X.1.2.2.2.2.2.2.2.1 _ ((lkq_ok heq).1 _ (by simp [lWs]))) (X.1.2.2.2.2.2.2.2.1 _ (zjdk _ (List.mem_of_getElem? (i := 10) rfl))) (X.1.2.2.2.2.2.2.2.1 _ (zjdk _ (List.mem_of_getElem? (i := 11) rfl))) (X.1.2.2.2.2.2.2.2.1 _ (zjdk _ (List.mem_of_getElem? (i := 12) rfl))) (X.2.1.2.1 (Cond.castable "[B" "java/lang/Cloneable") (by decide +kernel)) X.2.1.1 X.2.2.2.1.1 X.2.2.2.1.2.1 X.2.2.2.2.1 (fun q hq => Nat.le_trans X.2.2.1.1 hq) (a - 15) 1 ((wl_at h15 hlt).trans (by rw [cel_i hk (Or.inr (Or.inl rfl))])) rfl X.2.1.2.2.2.2.2 (fun i v hv => ?_) (by have := X.2.2.2.2.2.2.1; omega) (by show cats cs + 14 ≤ R.locals; have := X.2.2.2.2.2.2.2; omega) hrc hrs hd (fun q H1 hK1 hP1 hD1 hS1 => ?_)
        · obtain ⟨h1, h2⟩ := arr_at (cI := cid 13) (g := fun j => .int (zI σ a j)) (n := (zh σ a).2) hv
          rw [h2]
          have := bts_ok hb i h1
          rwa [Nat.zero_add] at this
        · refine kn.new X hN (Or.inl (by show 13 ≤ 18; omega)) h9 ?_ hP1 hD1 hS1 hs1
          have hcel := cel_i (cid := cid) (ad := up1 ad (zn σ) q) (congrArg Prod.fst hN.atE) (Or.inr (Or.inl rfl))
          rw [hN.atE, Nw_clnI] at hcel
          exact hcel
      · cases h
    · cases h
  · cases h

theorem s_objinit {idx : Nat} (X : Sx p l s m args meth c R H locs mi dC dI cid base L xs ad lo ls σ) (hd : decode (mCd mi) pc = .ok (.invokespecial idx, 3)) (h : zins mi pc lo st σ (.invokespecial idx) = some (.inl (pc1, lo1, st1, σ1))) (hs : vrs (zn σ) ad st cst) (kn : Kn p l e R s m args below meth c cells slots Q mi dC dI cid base L xs ad σ (pc1) (lo1) (st1) (σ1)) : W p l e R s m args below meth c H locs cells slots Q (F0 m pc ls cst) := by
  simp only [zins] at h
  split at h
  · exfalso; unfold zcall at h; split at h <;> (repeat' split at h) <;> cases h
  · exfalso; unfold zcall at h; split at h <;> (repeat' split at h) <;> cases h
  · exfalso; unfold zcall at h; split at h <;> (repeat' split at h) <;> cases h
  · rename_i x1 x2 heq
    split at h
    · rename_i a st2
      split at h
      · rename_i hq
        cases h
        obtain ⟨hlt, cs, rfl, hs1⟩ := vrs_ref hs
        have hc : cats cs ≤ 8 := by rw [vrs_cats hs1]; exact hq.2
        exact W.objInit X.1.1 X.1.2.1 X.1.2.2.2.2.1 (X.1.2.2.2.2.2.2.2.1 _ ((lkq_ok heq).1 _ (by simp [lWs]))) (X.1.2.2.2.2.2.2.2.1 _ (zjdk _ (List.mem_of_getElem? (i := 8) rfl))) (X.1.2.2.2.2.2.2.2.1 _ (zjdk _ (List.mem_of_getElem? (i := 9) rfl))) rfl (by show ls.size = _; rw [X.2.2.2.2.2.1.size, X.1.2.2.2.1]) rfl hd (by have := X.2.2.2.2.2.2.1; omega) (by show 2 * 0 + cats cs + 12 ≤ R.locals; have := X.2.2.2.2.2.2.2; omega) (kn.id X X.2.2.2.2.2.1 hs1)
      · cases h
    · cases h
  · cases h

set_option maxHeartbeats 4000000 in
theorem s_static {idx : Nat} (X : Sx p l s m args meth c R H locs mi dC dI cid base L xs ad lo ls σ) (hd : decode (mCd mi) pc = .ok (.invokestatic idx, 3)) (h : zins mi pc lo st σ (.invokestatic idx) = some (.inl (pc1, lo1, st1, σ1))) (hs : vrs (zn σ) ad st cst) (kn : Kn p l e R s m args below meth c cells slots Q mi dC dI cid base L xs ad σ (pc1) (lo1) (st1) (σ1)) (hrc0 : cells ≤ R.cells) (hrs0 : slots ≤ R.slots) : W p l e R s m args below meth c H locs cells slots Q (F0 m pc ls cst) := by
  simp only [zins] at h
  split at h
  · exfalso; unfold zcall at h; split at h <;> (repeat' split at h) <;> cases h
  · rename_i x1 x2 heq
    split at h
    · rename_i n dp d sp a st2
      split at h
      · rename_i hq
        cases h
        obtain ⟨k12, n0, sp0, dp0, b1, b2, hne, hc0⟩ := hq
        obtain ⟨cs0, rfl, hs1⟩ := vrs_int hs
        obtain ⟨cs1, rfl, hs2⟩ := vrs_int hs1
        obtain ⟨hld, cs2, rfl, hs3⟩ := vrs_ref hs2
        obtain ⟨cs3, rfl, hs4⟩ := vrs_int hs3
        obtain ⟨hla, cs4, rfl, hs5⟩ := vrs_ref hs4
        have hc : cats cs4 ≤ 8 := by rw [vrs_cats hs5]; exact hc0
        have pos : ∀ i : Int32, 0 ≤ i → ¬ i < 0 := by
          intro i h0 z
          rw [Int32.lt_iff_toInt_lt] at z
          rw [Int32.le_iff_toInt_le] at h0
          omega
        obtain ⟨a15, -⟩ := X.2.2.2.1.2.2.own (a := a) (by omega) (by omega)
        obtain ⟨d15, -⟩ := X.2.2.2.1.2.2.own (a := d) (by omega) (by omega)
        rcases k12 with ⟨k1, k2⟩ | ⟨k1, k2, hbt⟩
        · refine va_copyi X.1.1 X.1.2.1 (by rw [X.2.2.2.2.2.1.size, X.1.2.2.2.1]) X.1.2.2.2.2.1 (X.1.2.2.2.2.2.2.2.1 _ ((lkq_ok heq).1 _ (by simp [lWs]))) (X.1.2.2.2.2.2.2.2.1 _ (zjdk _ (List.mem_of_getElem? (i := 0) rfl))) (X.1.2.2.2.2.2.2.2.1 _ (zjdk _ (List.mem_of_getElem? (i := 1) rfl))) (X.1.2.2.2.2.2.2.2.1 _ (zjdk _ (List.mem_of_getElem? (i := 2) rfl))) X.2.1.1 X.2.2.2.1.1 X.2.2.2.1.2.1 X.2.2.2.2.1 (a - 15) (d - 15) 0 0 ((wl_at a15 hla).trans (by rw [cel_i k1 (Or.inl rfl)])) ((wl_at d15 hld).trans (by rw [cel_i k2 (Or.inl rfl)])) rfl rfl rfl (pos _ sp0) (pos _ dp0) (pos _ n0) b1 b2 (fun i hi => rfl) (by have := X.2.2.2.2.2.2.1; omega) (by show cats cs4 + (nativeFrameWords "java/lang/System" "arraycopy" 5 + 11) ≤ R.locals; rw [show nativeFrameWords "java/lang/System" "arraycopy" 5 = 7 from by decide +kernel]; have := X.2.2.2.2.2.2.2; omega) hd (fun H1 locs1 hP hD hS => ?_)
          refine kn.set X (a := d) ⟨rfl, rfl, fun b hb => ⟨?_, rfl, rfl, rfl⟩, fun j => X.2.2.2.1.2.2.2.2.2.2.2.1 d j⟩ d15 hld ?_ hP hD hS hs5
          · funext j
            exact if_neg hb
          · refine (cel_i (show (zh (zCpy σ a d _ _ _) d).1 = 11 from k2) (Or.inl rfl)).trans ?_
            refine congrArg (fun q => Sum.inl (_, _, Sum.inl q)) (funext fun j => ?_)
            exact if_pos rfl
        · refine va_copyi X.1.1 X.1.2.1 (by rw [X.2.2.2.2.2.1.size, X.1.2.2.2.1]) X.1.2.2.2.2.1 (X.1.2.2.2.2.2.2.2.1 _ ((lkq_ok heq).1 _ (by simp [lWs]))) (X.1.2.2.2.2.2.2.2.1 _ (zjdk _ (List.mem_of_getElem? (i := 0) rfl))) (X.1.2.2.2.2.2.2.2.1 _ (zjdk _ (List.mem_of_getElem? (i := 1) rfl))) (X.1.2.2.2.2.2.2.2.1 _ (zjdk _ (List.mem_of_getElem? (i := 2) rfl))) X.2.1.1 X.2.2.2.1.1 X.2.2.2.1.2.1 X.2.2.2.2.1 (a - 15) (d - 15) 1 1 ((wl_at a15 hla).trans (by rw [cel_i k1 (Or.inr (Or.inl rfl))])) ((wl_at d15 hld).trans (by rw [cel_i k2 (Or.inr (Or.inl rfl))])) rfl rfl rfl (pos _ sp0) (pos _ dp0) (pos _ n0) b1 b2 (bts_ok hbt) (by have := X.2.2.2.2.2.2.1; omega) (by show cats cs4 + (nativeFrameWords "java/lang/System" "arraycopy" 5 + 11) ≤ R.locals; rw [show nativeFrameWords "java/lang/System" "arraycopy" 5 = 7 from by decide +kernel]; have := X.2.2.2.2.2.2.2; omega) hd (fun H1 locs1 hP hD hS => ?_)
          refine kn.set X (a := d) ⟨rfl, rfl, fun b hb => ⟨?_, rfl, rfl, rfl⟩, fun j => X.2.2.2.1.2.2.2.2.2.2.2.1 d j⟩ d15 hld ?_ hP hD hS hs5
          · funext j
            exact if_neg hb
          · refine (cel_i (show (zh (zCpy σ a d _ _ _) d).1 = 13 from k2) (Or.inr (Or.inl rfl))).trans ?_
            refine congrArg (fun q => Sum.inl (_, _, Sum.inl q)) (funext fun j => ?_)
            exact if_pos rfl
      · cases h
    · rename_i n dp d sp q st2
      split at h
      · rename_i hq
        cases h
        obtain ⟨q10, q18, k2, hbt, n0, sp0, dp0, b1, b2, hc0⟩ := hq
        obtain ⟨cs0, rfl, hs1⟩ := vrs_int hs
        obtain ⟨cs1, rfl, hs2⟩ := vrs_int hs1
        obtain ⟨hld, cs2, rfl, hs3⟩ := vrs_ref hs2
        obtain ⟨cs3, rfl, hs4⟩ := vrs_int hs3
        obtain ⟨c9, cs4, rfl, hc9, hs5⟩ := vrs_cons hs4
        have hc : cats cs4 ≤ 8 := by rw [vrs_cats hs5]; exact hc0
        have pos : ∀ i : Int32, 0 ≤ i → ¬ i < 0 := by
          intro i h0 z
          rw [Int32.lt_iff_toInt_lt] at z
          rw [Int32.le_iff_toInt_le] at h0
          omega
        obtain ⟨d15, -⟩ := X.2.2.2.1.2.2.own (a := d) (by omega) (by omega)
        obtain ⟨j, rfl⟩ : ∃ j, q = j + 1 := ⟨q - 1, by omega⟩
        rw [show c9 = _ from hc9]
        rw [Nat.add_sub_cancel] at hbt b1 kn
        have h18 : j < 18 := by omega
        have e : kfn j = fun z => (kby.getD (j - 9) []).getD z 0 := if_pos h18
        have e2 : kle j = kln.getD (j - 9) 0 := if_pos h18
        have h9 := (X.2.2.1.2.2.2.2.2.2.2.2.1.1 (j - 9) (by omega)).2.2.2
        dsimp only at h9
        rw [show KB + (9 + (j - 9)) = KB + j by omega] at h9
        rw [e2] at b1
        rw [e] at hbt kn
        have hft : ∀ i : Nat, i < n.toNatClampNeg → fits .byte (.int ((kby.getD (j - 9) []).getD (sp.toNatClampNeg + i) 0)) = true := fun i hi => List.all_eq_true.mp hbt i (List.mem_range.mpr hi)
        refine vk_copyt X.1.1 X.1.2.1 (by rw [X.2.2.2.2.2.1.size, X.1.2.2.2.1]) X.1.2.2.2.2.1 (X.1.2.2.2.2.2.2.2.1 _ ((lkq_ok heq).1 _ (by simp [lWs]))) (X.1.2.2.2.2.2.2.2.1 _ (zjdk _ (List.mem_of_getElem? (i := 0) rfl))) (X.1.2.2.2.2.2.2.2.1 _ (zjdk _ (List.mem_of_getElem? (i := 1) rfl))) (X.1.2.2.2.2.2.2.2.1 _ (zjdk _ (List.mem_of_getElem? (i := 2) rfl))) X.2.1.1 X.2.2.2.1.1 X.2.2.2.1.2.1 X.2.2.2.2.1 (f := fun z => (kby.getD (j - 9) []).getD z 0) h9 (d - 15) 1 ((wl_at d15 hld).trans (by rw [cel_i k2 (Or.inr (Or.inl rfl))])) rfl (pos _ sp0) (pos _ dp0) (pos _ n0) b1 b2 hft (by have := X.2.2.2.2.2.2.1; omega) (by show cats cs4 + (nativeFrameWords "java/lang/System" "arraycopy" 5 + 11) ≤ R.locals; rw [show nativeFrameWords "java/lang/System" "arraycopy" 5 = 7 from by decide +kernel]; have := X.2.2.2.2.2.2.2; omega) hd (fun H1 locs1 hP hD hS => ?_)
        refine kn.set X (a := d) ⟨rfl, rfl, fun b hb => ⟨?_, rfl, rfl, rfl⟩, fun j => X.2.2.2.1.2.2.2.2.2.2.2.1 d j⟩ d15 hld ?_ hP hD hS hs5
        · funext j
          exact if_neg hb
        · refine (cel_i (show (zh (zCpk σ _ d _ _ _) d).1 = 13 from k2) (Or.inr (Or.inl rfl))).trans ?_
          refine congrArg (fun q => Sum.inl (_, _, Sum.inl q)) (funext fun j => ?_)
          exact if_pos rfl
      · cases h
    · cases h
  · rename_i x1 x2 heq
    split at h
    · split at h
      · rename_i hq
        cases h
        obtain ⟨cs0, rfl, hs1⟩ := vrs_int hs
        obtain ⟨cs1, rfl, hs2⟩ := vrs_int hs1
        have hc : cats cs1 ≤ 8 := by rw [vrs_cats hs2]; exact hq
        exact va_mmin X.1.1 X.1.2.1 (by rw [X.2.2.2.2.2.1.size, X.1.2.2.2.1]) X.1.2.2.2.2.1 (X.1.2.2.2.2.2.2.2.1 _ ((lkq_ok heq).1 _ (by simp [lWs]))) (X.1.2.2.2.2.2.2.2.1 _ (zjdk _ (List.mem_of_getElem? (i := 4) rfl))) (X.1.2.2.2.2.2.2.2.1 _ (zjdk _ (List.mem_of_getElem? (i := 3) rfl))) (X.1.2.2.2.2.2.2.2.1 _ (zjdk _ (List.mem_of_getElem? (i := 6) rfl))) (by have := X.2.2.2.2.2.2.1; omega) (by show cats cs1 + _ ≤ R.locals; have := X.2.2.2.2.2.2.2; omega) hrc0 hrs0 hd (kn.id X X.2.2.2.2.2.1 ⟨rfl, hs2⟩)
      · cases h
    · cases h
  · rename_i x1 x2 heq
    split at h
    · split at h
      · rename_i hq
        cases h
        obtain ⟨cs0, rfl, hs1⟩ := vrs_int hs
        obtain ⟨cs1, rfl, hs2⟩ := vrs_int hs1
        have hc : cats cs1 ≤ 8 := by rw [vrs_cats hs2]; exact hq
        exact va_mmax X.1.1 X.1.2.1 (by rw [X.2.2.2.2.2.1.size, X.1.2.2.2.1]) X.1.2.2.2.2.1 (X.1.2.2.2.2.2.2.2.1 _ ((lkq_ok heq).1 _ (by simp [lWs]))) (X.1.2.2.2.2.2.2.2.1 _ (zjdk _ (List.mem_of_getElem? (i := 5) rfl))) (X.1.2.2.2.2.2.2.2.1 _ (zjdk _ (List.mem_of_getElem? (i := 3) rfl))) (X.1.2.2.2.2.2.2.2.1 _ (zjdk _ (List.mem_of_getElem? (i := 7) rfl))) (by have := X.2.2.2.2.2.2.1; omega) (by show cats cs1 + _ ≤ R.locals; have := X.2.2.2.2.2.2.2; omega) hrc0 hrs0 hd (kn.id X X.2.2.2.2.2.1 ⟨rfl, hs2⟩)
      · cases h
    · cases h
  · cases h

end S9
