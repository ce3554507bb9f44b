/-! THE START, 2: the empty world over the law's entry; the law's walk out of a run of the interpreter -/
def z0 (L : Nat) (xs : Nat → Int32) : St := ((15, 0, 0), (fun a => if a = 0 then (19, L) else if a < 8 then (20, 0) else if a < 15 then (21, sln.getD (a - 8) 0) else (0, 0)), (fun _ _ => 0), (fun a j => if a = 0 then xs j else if a < 8 then 0 else if a < 15 then (sby.getD (a - 8) []).getD j 0 else 0), (fun _ _ => 0), (fun _ _ => 0))
theorem z0_wf (L : Nat) (xs : Nat → Int32) : wf L xs (z0 L xs) := by
  refine ⟨Nat.le_refl 15, fun a ha => ?_, ⟨rfl, fun j => rfl⟩, fun i hi => ?_, fun a ha => ?_, fun a j => Nat.zero_le _, by show 15 ≤ 100000; omega⟩
  · have h15 : 15 ≤ a := ha
    have h1 : ¬ a = 0 := by omega
    have h2 : ¬ a < 8 := by omega
    have h3 : ¬ a < 15 := by omega
    refine ⟨?_, fun j => ⟨rfl, ?_, rfl, rfl⟩⟩
    · show (if a = 0 then _ else if a < 8 then _ else if a < 15 then _ else _) = _
      rw [if_neg h1, if_neg h2, if_neg h3]
    · show (if a = 0 then _ else if a < 8 then _ else if a < 15 then _ else _) = _
      rw [if_neg h1, if_neg h2, if_neg h3]
  · have h1 : ¬ 1 + i = 0 := by omega
    have h2 : 1 + i < 8 := by omega
    have h3 : ¬ 8 + i = 0 := by omega
    have h4 : ¬ 8 + i < 8 := by omega
    have h5 : 8 + i < 15 := by omega
    refine ⟨?_, ?_, fun j => ?_⟩
    · show (if 1 + i = 0 then _ else if 1 + i < 8 then _ else if 1 + i < 15 then _ else _) = _
      rw [if_neg h1, if_pos h2]
    · show (if 8 + i = 0 then _ else if 8 + i < 8 then _ else if 8 + i < 15 then _ else _) = _
      rw [if_neg h3, if_neg h4, if_pos h5, Nat.add_sub_cancel_left]
    · show (if 8 + i = 0 then _ else if 8 + i < 8 then _ else if 8 + i < 15 then _ else _) = _
      rw [if_neg h3, if_neg h4, if_pos h5, Nat.add_sub_cancel_left]
  · have h1 : ¬ a = 0 := by omega
    have h2 : ¬ a < 8 := by omega
    have h3 : ¬ a < 15 := by omega
    have h4 : zh (z0 L xs) a = (0, 0) := by
      show (if a = 0 then _ else if a < 8 then _ else if a < 15 then _ else _) = _
      rw [if_neg h1, if_neg h2, if_neg h3]
    rw [h4]
    decide
theorem vw_all {s : State} {A : Array Value} (hts : ∀ w ∈ lw_tbl, w.before A s = true) : ∀ ci, ∃ q : ClassId × (Nat → Nat), ci < 11 → u_Kn s (zC ci) (zT ci) (zN ci) q.1 q.2 := by
  intro ci
  by_cases h : ci < 11
  · obtain ⟨cC, iS, hk⟩ := u_known (ws := ALLW) (fun w hw => hts2 hts w (ALLW_lw w hw)) (zin ci h) (hts _ (lw_I ci h))
    exact ⟨(cC, iS), fun _ => hk⟩
  · exact ⟨(default, fun _ => 0), fun g => absurd g h⟩
theorem vw_cl : ∀ (ci : Nat) (q : vw_C), vwCl[ci]? = some q → ci < 11 ∧ q = (zC ci, zT ci, zN ci) := by
  intro ci q h
  have hlt : ci < 11 := (List.getElem?_eq_some_iff.mp h).1
  refine ⟨hlt, ?_⟩
  match ci, hlt with
  | 0, _ => cases h; rfl
  | 1, _ => cases h; rfl
  | 2, _ => cases h; rfl
  | 3, _ => cases h; rfl
  | 4, _ => cases h; rfl
  | 5, _ => cases h; rfl
  | 6, _ => cases h; rfl
  | 7, _ => cases h; rfl
  | 8, _ => cases h; rfl
  | 9, _ => cases h; rfl
  | 10, _ => cases h; rfl
theorem ar_of {s : State} {A : Array Value} {ty : FieldType} (hp : ∀ C, ty ≠ .object C) (h : (Cond.arrayClass ty).before A s = true) : ∃ cA : ClassId, ArrOfT s cA ty ∧ va_RA s cA ty := by
  obtain ⟨cA, kA, comp, f1, f2, f3⟩ := Cond.arrayClass_spec h
  refine ⟨cA, fun n z => ⟨(fun k h => by cases h), kA, f2, comp, f3⟩, ?_⟩
  cases ty with
  | object C => exact absurd rfl (hp C)
  | _ => exact f1
theorem ao_of {s : State} {A : Array Value} {C : String} (h : (Cond.arrayOver (.object C)).before A s = true) : ∃ cA : ClassId, ArrOfT s cA (.object C) ∧ va_RA s cA (.object C) := by
  obtain ⟨comp, cA, kA, f1, f2, f3, f4, f5⟩ := Cond.arrayOver_spec h
  exact ⟨cA, fun n z => ⟨(fun k h => by cases h), kA, f3, comp, f4⟩, kA, comp, f3, f4, f1, f5⟩
theorem ku_K {s : State} {A : Array Value} (hts : ∀ w ∈ lw_tbl, w.before A s = true) : ∃ (dC : Nat → ClassId) (dI : Nat → Nat → Nat) (cid : Nat → ClassId), va_K (dC, dI) vwCl (tysF cid) s ∧ s.vm.findClass "[B" = some (cid 13) := by
  obtain ⟨f, hf⟩ := Classical.axiomOfChoice (vw_all hts)
  have hC : ∀ w ∈ lwC, w.before A s = true := fun w hw => hts w (lw_C w hw)
  obtain ⟨a0, i0, r0⟩ := ar_of (ty := .int) (fun C h => by cases h) (hC _ (by unfold lwC; simp))
  obtain ⟨a2, i2, r2⟩ := ar_of (ty := .byte) (fun C h => by cases h) (hC _ (by unfold lwC; simp))
  obtain ⟨a3, i3, r3⟩ := ar_of (ty := .boolean) (fun C h => by cases h) (hC _ (by unfold lwC; simp))
  obtain ⟨a5, i5, r5⟩ := ao_of (C := "LineBalls$Ball") (hC _ (by unfold lwC; simp))
  obtain ⟨a6, i6, r6⟩ := ao_of (C := "LineBalls$Barrier") (hC _ (by unfold lwC; simp))
  obtain ⟨a7, i7, r7⟩ := ao_of (C := "LineBalls$Line") (hC _ (by unfold lwC; simp))
  refine ⟨fun c => (f c).1, fun c => (f c).2, fun k => match k with | 11 => a0 | 13 => a2 | 14 => a3 | 16 => a5 | 17 => a6 | _ => a7, ⟨fun c q hq => ?_, fun k q hq => ?_⟩, r2⟩
  · obtain ⟨h1, rfl⟩ := vw_cl c q hq
    exact hf c h1
  · have hlt : k < 6 := (List.getElem?_eq_some_iff.mp hq).1
    match k, hlt with
    | 0, _ => cases hq; exact ⟨i0, r0⟩
    | 1, _ => cases hq; exact ⟨i2, r2⟩
    | 2, _ => cases hq; exact ⟨i3, r3⟩
    | 3, _ => cases hq; exact ⟨i5, r5⟩
    | 4, _ => cases hq; exact ⟨i6, r6⟩
    | 5, _ => cases hq; exact ⟨i7, r7⟩
def isAO (w : Cond) : Bool := match w with
  | .arrayOver (.object _) => true
  | _ => false
theorem ng_onT : ∀ w ∈ NGW, w.onTables = true ∨ isAO w = true := by decide +kernel
theorem ng_of {w : Cond} (h : w.onTables = true ∨ isAO w = true) {s : State} {A : Array Value} (hb : w.before A s = true) : va_Nw w s := by
  rcases h with h | h
  · exact va_Nw.of h hb
  · match w, h, hb with
    | .arrayOver (.object _), _, hb => exact va_AO.of hb
set_option maxRecDepth 100000 in
theorem stk_at : ∀ e ∈ strK, e.2.2.2 < 7 ∧ strW e ∈ lw_tbl ∧ Term.string (zC e.1) e.2.1 = strT e.2.2.2 := by
  intro e he
  have h3 : ∀ e ∈ strK, e.2.2.2 < 7 ∧ Term.string (zC e.1) e.2.1 = strT e.2.2.2 := by decide +kernel
  exact ⟨(h3 e he).1, lw_S e (List.mem_append_left _ he), (h3 e he).2⟩
set_option maxRecDepth 100000 in
theorem stl_at : ∀ e ∈ strL, e.2.2.2 < 9 ∧ strW e ∈ lw_tbl ∧ Term.string (zC e.1) e.2.1 = ltrT e.2.2.2 := by
  intro e he
  have h3 : ∀ e ∈ strL, e.2.2.2 < 9 ∧ Term.string (zC e.1) e.2.1 = ltrT e.2.2.2 := by decide +kernel
  exact ⟨(h3 e he).1, lw_S e (List.mem_append_right _ he), (h3 e he).2⟩
theorem dg_ex {s : State} {A : Array Value} (hg : ∀ w ∈ GVN, w.before A s = true) (hA : ∀ a : Nat, a < s.heap.size → ¬ AA s.heap.size a) : ∀ q, q < 2 → ∃ t : Nat, (dgT (18 + q)).eval A s none [] s = some (.ref t) ∧ va_T .byte t 100 (fun j => .int (kdg (18 + q) j)) (AA s.heap.size) s s.heap := by
  intro q hq
  obtain ⟨h1, h2⟩ := gv_dg q hq
  exact va_Tof (by decide) (hg _ h1) (va_eqt (hg _ h2)) (fun j hj => va_eqt (hg _ (gv_dd q hq j hj))) hA
/-- the addresses: script, parser's strings, their bytes; from KB on the law's strings, their bytes, the digits -/
def adZ (b : Nat) (aK aV bK bV dg : Nat → Nat) : Nat → Nat := fun k => if k = 0 then b else if k < 8 then aK (k - 1) else if k < KB then aV (k - 8) else if k < KB + 9 then bK (k - KB) else if k < KB + 18 then bV (k - KB - 9) else dg (k - KB - 18)
theorem hf_ex {s : State} {A : Array Value} {b L : Nat} {xs : Nat → Int32} (hts : ∀ w ∈ lw_tbl, w.before A s = true) (hgv : (Jvm.Cond.and given_1 narrow_1).before A s = true) (hX : va_X b L xs s s.heap) (hb : b < s.heap.size) :
    ∃ ad : Nat → Nat, ad 0 = b ∧ HF s.heap.size L xs ad s s.heap ∧ (∀ e ∈ strK, vk_R (zC e.1) e.2.1 e.2.2.1 (ad (1 + e.2.2.2)) s) ∧ ∀ e ∈ strL, vk_R (zC e.1) e.2.1 e.2.2.1 (ad (KB + e.2.2.2)) s := by
  have hg : ∀ w ∈ GVN, w.before A s = true := flat_of_before _ hgv
  have hC : ∀ w ∈ lwC, w.before A s = true := fun w hw => hts w (lw_C w hw)
  have hA : ∀ a : Nat, a < s.heap.size → ¬ AA s.heap.size a := fun a h1 h2 => absurd h1 (Nat.not_lt.mpr h2)
  have hlen : ∀ i : Nat, i < 7 → sln.getD i 0 < 2 ^ 31 := by decide
  have hlen2 : ∀ i : Nat, i < 9 → kln.getD i 0 < 2 ^ 31 := by decide
  obtain ⟨aK, aV, h1, h2⟩ := vk_Sof (N := 7) (tm := strT) (len := sln) (byt := sby) (A := AA s.heap.size) hlen (fun i hi => hg _ (gv_ex i hi).1) (fun i hi => hg _ (gv_ex i hi).2.1) (fun i hi => hg _ (gv_ex i hi).2.2.1) (fun i hi => hg _ (gv_ex i hi).2.2.2) (fun i hi j hj => hg _ (gv_el i hi j hj))
    (fun i j hi hj hij => (gv_ne i hi j hj hij).imp (fun h => hg _ h) (fun h => hg _ h)) hA
  obtain ⟨bK, bV, g1, g2⟩ := vk_Sof (N := 9) (tm := ltrT) (len := kln) (byt := kby) (A := AA s.heap.size) hlen2 (fun i hi => hg _ (gl_ex i hi).1) (fun i hi => hg _ (gl_ex i hi).2.1) (fun i hi => hg _ (gl_ex i hi).2.2.1) (fun i hi => hg _ (gl_ex i hi).2.2.2) (fun i hi j hj => hg _ (gl_el i hi j hj))
    (fun i j hi hj hij => (gl_ne i hi j hj hij).imp (fun h => hg _ h) (fun h => hg _ h)) hA
  obtain ⟨t0, d0, e0⟩ := dg_ex hg hA 0 (by omega)
  obtain ⟨t1, d1, e1⟩ := dg_ex hg hA 1 (by omega)
  have k1 : ∀ i, i < 7 → adZ b aK aV bK bV (fun k => if k = 0 then t0 else t1) (1 + i) = aK i := fun i hi => by
    unfold adZ
    rw [if_neg (by omega), if_pos (by omega), Nat.add_sub_cancel_left]
  have k2 : ∀ i, i < 7 → adZ b aK aV bK bV (fun k => if k = 0 then t0 else t1) (8 + i) = aV i := fun i hi => by
    have hKB : KB = 100000 := rfl
    unfold adZ
    rw [if_neg (by omega), if_neg (by omega), if_pos (by omega), Nat.add_sub_cancel_left]
  have k3 : ∀ i, i < 9 → adZ b aK aV bK bV (fun k => if k = 0 then t0 else t1) (KB + i) = bK i := fun i hi => by
    have hKB : KB = 100000 := rfl
    unfold adZ
    rw [if_neg (by omega), if_neg (by omega), if_neg (by omega), if_pos (by omega), Nat.add_sub_cancel_left]
  have k4 : ∀ i, i < 9 → adZ b aK aV bK bV (fun k => if k = 0 then t0 else t1) (KB + (9 + i)) = bV i := fun i hi => by
    have hKB : KB = 100000 := rfl
    unfold adZ
    rw [if_neg (by omega), if_neg (by omega), if_neg (by omega), if_neg (by omega), if_pos (by omega), show KB + (9 + i) - KB - 9 = i by omega]
  have k5 : adZ b aK aV bK bV (fun k => if k = 0 then t0 else t1) (KB + 18) = t0 := rfl
  have k6 : adZ b aK aV bK bV (fun k => if k = 0 then t0 else t1) (KB + 19) = t1 := rfl
  refine ⟨adZ b aK aV bK bV (fun k => if k = 0 then t0 else t1), rfl, ⟨Nat.le_refl _, hX, hb, ⟨fun i hi => ?_, fun i j hi hj e => ?_⟩, ?_, ?_, ?_, ?_, ⟨fun i hi => ?_, fun i j hi hj e => ?_⟩, ?_, ?_, ?_, ?_⟩, fun e he => ?_, fun e he => ?_⟩
  · dsimp only
    rw [k1 i hi, k2 i hi]
    exact h1.1 i hi
  · dsimp only at e
    rw [k1 i hi, k1 j hj] at e
    exact h1.2 i j hi hj e
  · exact va_Zof (hC _ (by unfold lwC; simp)) (hC _ (by unfold lwC; simp)) (va_eqi (hg _ gv_st.1)) hA
  · exact va_Zqof (hC _ (by unfold lwC; simp)) (hC _ (by unfold lwC; simp)) (hg _ gv_st.2.1) hA
  · exact vx_Zqof (hC _ (by unfold lwC; simp)) (hC _ (by unfold lwC; simp)) (hg _ gv_st.2.2.1) hA
  · exact vx_Zqof (hC _ (by unfold lwC; simp)) (hC _ (by unfold lwC; simp)) (hg _ gv_st.2.2.2) hA
  · dsimp only
    rw [k3 i hi, k4 i hi]
    exact g1.1 i hi
  · dsimp only at e
    rw [k3 i hi, k3 j hj] at e
    exact g1.2 i j hi hj e
  · rw [k5]; exact va_Zof (hC _ (by unfold lwC; simp)) (hC _ (by unfold lwC; simp)) d0 hA
  · rw [k6]; exact va_Zof (hC _ (by unfold lwC; simp)) (hC _ (by unfold lwC; simp)) d1 hA
  · rw [k5]; exact e0
  · rw [k6]; exact e1
  · obtain ⟨q1, q2, q3⟩ := stk_at e he
    rw [k1 _ q1]
    refine vk_R.of (A := A) (hts _ q2) ?_
    rw [q3]; exact h2 _ q1
  · obtain ⟨q1, q2, q3⟩ := stl_at e he
    rw [k3 _ q1]
    refine vk_R.of (A := A) (hts _ q2) ?_
    rw [q3]; exact g2 _ q1
theorem nc_ex {s : State} {A : Array Value} (hgv : (Jvm.Cond.and given_1 narrow_1).before A s = true) : ∀ q ∈ NCP, va_Nc q.1 q.2 s := fun q hq => va_Nc.of (flat_of_before _ hgv _ (gv_nc q hq))
theorem ku_ex {s : State} {A : Array Value} {dC : Nat → ClassId} {dI : Nat → Nat → Nat} {cid : Nat → ClassId} {ad : Nat → Nat} (hts : ∀ w ∈ lw_tbl, w.before A s = true) (hgv : (Jvm.Cond.and given_1 narrow_1).before A s = true) (hK : va_K (dC, dI) vwCl (tysF cid) s) (hR : ∀ e ∈ strK, vk_R (zC e.1) e.2.1 e.2.2.1 (ad (1 + e.2.2.2)) s) (hR2 : ∀ e ∈ strL, vk_R (zC e.1) e.2.1 e.2.2.1 (ad (KB + e.2.2.2)) s) (hB : s.vm.findClass "[B" = some (cid 13)) : KU dC dI cid ad s :=
  ⟨hK, fun w hw => ng_of (ng_onT w hw) (hts w (lw_NG w hw)), hR, nc_ex hgv, hR2, hB⟩
