/-! THE WORLD behind the abstract heap: values, locals, cells; what is known of a state -/
def vr (n : Nat) (ad : Nat → Nat) (a c : Value) : Prop := match a with
  | .ref k => k < n ∧ c = .ref (ad k)
  | .retAddr 0 => c = .null ∨ ∃ q : Nat, c = .ref q
  | .retAddr (k + 1) => c = .ref (ad (KB + k))
  | v => c = v
theorem vr_cat {n : Nat} {ad : Nat → Nat} {a c : Value} (h : vr n ad a c) : c.category = a.category := by
  cases a with
  | ref k => rw [h.2]; rfl
  | retAddr k =>
    cases k with
    | zero => rcases h with h | ⟨q, h⟩ <;> (rw [h]; rfl)
    | succ k => rw [show c = _ from h]; rfl
  | int x => rw [show c = _ from h]
  | long x => rw [show c = _ from h]
  | float x => rw [show c = _ from h]
  | double x => rw [show c = _ from h]
  | null => rw [show c = _ from h]
theorem vr_mono {n n' : Nat} {ad ad' : Nat → Nat} {a c : Value} (h1 : ∀ k, k < n ∨ KB ≤ k → ad' k = ad k) (h2 : n ≤ n') (h : vr n ad a c) : vr n' ad' a c := by
  cases a with
  | ref k => exact ⟨Nat.lt_of_lt_of_le h.1 h2, by rw [h1 k (Or.inl h.1)]; exact h.2⟩
  | retAddr k =>
    cases k with
    | zero => exact h
    | succ k => exact (show c = _ from h).trans (by rw [h1 (KB + k) (Or.inr (Nat.le_add_right _ _))])
  | _ => exact h
def vrs (n : Nat) (ad : Nat → Nat) : List Value → List Value → Prop
  | [], [] => True
  | a :: as, c :: cs => vr n ad a c ∧ vrs n ad as cs
  | _, _ => False
theorem vrs_nil {n : Nat} {ad : Nat → Nat} {cs : List Value} (h : vrs n ad [] cs) : cs = [] := by
  cases cs with
  | nil => rfl
  | cons c cs => exact h.elim
theorem vrs_cons {n : Nat} {ad : Nat → Nat} {a : Value} {as cs : List Value} (h : vrs n ad (a :: as) cs) : ∃ c cs', cs = c :: cs' ∧ vr n ad a c ∧ vrs n ad as cs' := by
  cases cs with
  | nil => exact h.elim
  | cons c cs => exact ⟨c, cs, rfl, h.1, h.2⟩
theorem vrs_int {n : Nat} {ad : Nat → Nat} {x : Int32} {as cs : List Value} (h : vrs n ad (.int x :: as) cs) : ∃ cs', cs = .int x :: cs' ∧ vrs n ad as cs' := by
  obtain ⟨c, cs', rfl, h1, h2⟩ := vrs_cons h
  exact ⟨cs', by rw [show c = _ from h1], h2⟩
theorem vrs_long {n : Nat} {ad : Nat → Nat} {x : Int64} {as cs : List Value} (h : vrs n ad (.long x :: as) cs) : ∃ cs', cs = .long x :: cs' ∧ vrs n ad as cs' := by
  obtain ⟨c, cs', rfl, h1, h2⟩ := vrs_cons h
  exact ⟨cs', by rw [show c = _ from h1], h2⟩
theorem vrs_float {n : Nat} {ad : Nat → Nat} {x : UInt32} {as cs : List Value} (h : vrs n ad (.float x :: as) cs) : ∃ cs', cs = .float x :: cs' ∧ vrs n ad as cs' := by
  obtain ⟨c, cs', rfl, h1, h2⟩ := vrs_cons h
  exact ⟨cs', by rw [show c = _ from h1], h2⟩
theorem vrs_double {n : Nat} {ad : Nat → Nat} {x : UInt64} {as cs : List Value} (h : vrs n ad (.double x :: as) cs) : ∃ cs', cs = .double x :: cs' ∧ vrs n ad as cs' := by
  obtain ⟨c, cs', rfl, h1, h2⟩ := vrs_cons h
  exact ⟨cs', by rw [show c = _ from h1], h2⟩
theorem vrs_null {n : Nat} {ad : Nat → Nat} {as cs : List Value} (h : vrs n ad (.null :: as) cs) : ∃ cs', cs = .null :: cs' ∧ vrs n ad as cs' := by
  obtain ⟨c, cs', rfl, h1, h2⟩ := vrs_cons h
  exact ⟨cs', by rw [show c = _ from h1], h2⟩
theorem vrs_ref {n : Nat} {ad : Nat → Nat} {k : Nat} {as cs : List Value} (h : vrs n ad (.ref k :: as) cs) : k < n ∧ ∃ cs', cs = .ref (ad k) :: cs' ∧ vrs n ad as cs' := by
  obtain ⟨c, cs', rfl, h1, h2⟩ := vrs_cons h
  exact ⟨h1.1, cs', by rw [h1.2], h2⟩
theorem vrs_len {n : Nat} {ad : Nat → Nat} : ∀ {as cs : List Value}, vrs n ad as cs → cs.length = as.length
  | [], cs, h => by rw [vrs_nil h]
  | a :: as, cs, h => by
    obtain ⟨c, cs', rfl, -, h2⟩ := vrs_cons h
    simp [vrs_len h2]
theorem vrs_cats {n : Nat} {ad : Nat → Nat} : ∀ {as cs : List Value}, vrs n ad as cs → cats cs = cats as
  | [], cs, h => by rw [vrs_nil h]
  | a :: as, cs, h => by
    obtain ⟨c, cs', rfl, h1, h2⟩ := vrs_cons h
    have := vrs_cats h2
    simp only [cats, List.map_cons, List.sum_cons] at this ⊢
    rw [this, vr_cat h1]
theorem vrs_take {n : Nat} {ad : Nat → Nat} : ∀ {as cs : List Value} (k : Nat), vrs n ad as cs → vrs n ad (as.take k) (cs.take k)
  | _, _, 0, _ => by simp [vrs]
  | [], cs, k + 1, h => by rw [vrs_nil h]; simp [vrs]
  | a :: as, cs, k + 1, h => by
    obtain ⟨c, cs', rfl, h1, h2⟩ := vrs_cons h
    exact ⟨h1, vrs_take k h2⟩
theorem vrs_drop {n : Nat} {ad : Nat → Nat} : ∀ {as cs : List Value} (k : Nat), vrs n ad as cs → vrs n ad (as.drop k) (cs.drop k)
  | _, _, 0, h => by simpa using h
  | [], cs, k + 1, h => by rw [vrs_nil h]; simp [vrs]
  | a :: as, cs, k + 1, h => by
    obtain ⟨c, cs', rfl, h1, h2⟩ := vrs_cons h
    simpa using vrs_drop k h2
theorem vrs_app {n : Nat} {ad : Nat → Nat} {bs ds : List Value} (hb : vrs n ad bs ds) : ∀ {as cs : List Value}, vrs n ad as cs → vrs n ad (as ++ bs) (cs ++ ds)
  | [], cs, h => by rw [vrs_nil h]; exact hb
  | a :: as, cs, h => by
    obtain ⟨c, cs', rfl, h1, h2⟩ := vrs_cons h
    exact ⟨h1, vrs_app hb h2⟩
theorem vrs_rev {n : Nat} {ad : Nat → Nat} : ∀ {as cs : List Value}, vrs n ad as cs → vrs n ad as.reverse cs.reverse
  | [], cs, h => by rw [vrs_nil h]; simp [vrs]
  | a :: as, cs, h => by
    obtain ⟨c, cs', rfl, h1, h2⟩ := vrs_cons h
    rw [List.reverse_cons, List.reverse_cons]
    exact vrs_app (show vrs n ad [a] [c] from ⟨h1, trivial⟩) (vrs_rev h2)
theorem vrs_mono {n n' : Nat} {ad ad' : Nat → Nat} (h1 : ∀ k, k < n ∨ KB ≤ k → ad' k = ad k) (h2 : n ≤ n') : ∀ {as cs : List Value}, vrs n ad as cs → vrs n' ad' as cs
  | [], cs, h => by rw [vrs_nil h]; simp [vrs]
  | a :: as, cs, h => by
    obtain ⟨c, cs', rfl, g1, g2⟩ := vrs_cons h
    exact ⟨vr_mono h1 h2 g1, vrs_mono h1 h2 g2⟩
/-! locals -/
def lcs (n : Nat) (ad : Nat → Nat) (lo : Lo) (lv : List (Nat × Value)) : Prop := ∀ (i : Nat) (v : Value), lo[i]? = some (some v) → ∃ c, (i, c) ∈ lv ∧ vr n ad v c
def LR (n : Nat) (ad : Nat → Nat) (lo : Lo) (ls : Array Slot) (nL : Nat) : Prop := lo.length = nL ∧ ∃ lv, lv_has ls nL lv ∧ lcs n ad lo lv
theorem LR.mono {n n' : Nat} {ad ad' : Nat → Nat} {lo : Lo} {ls : Array Slot} {nL : Nat} (h1 : ∀ k, k < n ∨ KB ≤ k → ad' k = ad k) (h2 : n ≤ n') (h : LR n ad lo ls nL) : LR n' ad' lo ls nL := by
  obtain ⟨g1, lv, g2, g3⟩ := h
  refine ⟨g1, lv, g2, fun i v hv => ?_⟩
  obtain ⟨c, q1, q2⟩ := g3 i v hv
  exact ⟨c, q1, vr_mono h1 h2 q2⟩
theorem LR.at {n : Nat} {ad : Nat → Nat} {lo : Lo} {ls : Array Slot} {nL i : Nat} {v : Value} (h : LR n ad lo ls nL) (hv : lo[i]? = some (some v)) : ∃ c, ls[i]? = some (.val c) ∧ vr n ad v c := by
  obtain ⟨-, lv, h1, h2⟩ := h
  obtain ⟨c, q1, q2⟩ := h2 i v hv
  exact ⟨c, h1.2.2 _ q1, q2⟩
theorem LR.size {n : Nat} {ad : Nat → Nat} {lo : Lo} {ls : Array Slot} {nL : Nat} (h : LR n ad lo ls nL) : ls.size = nL := by
  obtain ⟨-, lv, h1, -⟩ := h
  exact h1.1
theorem lset1_len : ∀ (l : Lo) (i : Nat) (v : Value), (lset1 l i v).length = l.length
  | [], _, _ => rfl
  | _ :: _, 0, _ => rfl
  | x :: l, 1, v => by simp [lset1, lset1_len l 0 v]
  | x :: l, i + 2, v => by simp [lset1, lset1_len l (i + 1) v]
theorem kill_some {x : Option Value} {w : Value} (h : kill x = some w) : x = some w ∧ w.category ≠ 2 := by
  cases x with
  | none => cases h
  | some v =>
    cases v <;> simp only [kill] at h
    all_goals first | cases h; done | (cases h; exact ⟨rfl, by decide⟩) | (cases h)
    all_goals exact ⟨rfl, by simp [Value.category]⟩
theorem lset1_at : ∀ (l : Lo) (i : Nat) (v : Value) (j : Nat) (w : Value), (lset1 l i v)[j]? = some (some w) → (j = i ∧ w = v) ∨ (j ≠ i ∧ l[j]? = some (some w) ∧ (j + 1 = i → w.category ≠ 2))
  | [], _, _, j, w, h => by simp [lset1] at h
  | _ :: l, 0, v, j, w, h => by
    cases j with
    | zero => simp [lset1] at h; exact Or.inl ⟨rfl, h.symm⟩
    | succ j => simp [lset1] at h; exact Or.inr ⟨by omega, by simpa using h, by omega⟩
  | x :: l, 1, v, j, w, h => by
    cases j with
    | zero =>
      simp [lset1] at h
      have := kill_some h
      exact Or.inr ⟨by omega, by simp [this.1], fun _ => this.2⟩
    | succ j =>
      simp [lset1] at h
      rcases lset1_at l 0 v j w h with ⟨h1, h2⟩ | ⟨h1, h2, h3⟩
      · exact Or.inl ⟨by omega, h2⟩
      · exact Or.inr ⟨by omega, by simpa using h2, by omega⟩
  | x :: l, i + 2, v, j, w, h => by
    cases j with
    | zero => simp [lset1] at h; exact Or.inr ⟨by omega, by simp [h], by omega⟩
    | succ j =>
      simp [lset1] at h
      rcases lset1_at l (i + 1) v j w h with ⟨h1, h2⟩ | ⟨h1, h2, h3⟩
      · exact Or.inl ⟨by omega, h2⟩
      · exact Or.inr ⟨by omega, by simpa using h2, fun z => h3 (by omega)⟩
theorem lcs_set1 {n : Nat} {ad : Nat → Nat} {lo : Lo} {lv : List (Nat × Value)} {i : Nat} {v c : Value} (h : lcs n ad lo lv) (hv : vr n ad v c) :
    lcs n ad (lset1 lo i v) ((i, c) :: lv.filter (fun q => !(q.1 == i) && !(q.1 + 1 == i && q.2.category == 2))) := by
  intro j w hw
  rcases lset1_at lo i v j w hw with ⟨rfl, rfl⟩ | ⟨h1, h2, h3⟩
  · exact ⟨c, List.mem_cons_self, hv⟩
  · obtain ⟨d, q1, q2⟩ := h j w h2
    refine ⟨d, List.mem_cons_of_mem _ (List.mem_filter.mpr ⟨q1, ?_⟩), q2⟩
    have : ¬ (j + 1 = i ∧ d.category = 2) := fun z => h3 z.1 (by rw [← vr_cat q2]; exact z.2)
    simp only [Bool.and_eq_true, Bool.not_eq_true', beq_eq_false_iff_ne, ne_eq, h1, not_false_eq_true, true_and, Bool.and_eq_false_imp, beq_iff_eq]
    exact fun z y => this ⟨z, y⟩
theorem lcs_set2 {n : Nat} {ad : Nat → Nat} {lo : Lo} {lv : List (Nat × Value)} {i : Nat} {v c : Value} (h : lcs n ad lo lv) (hv : vr n ad v c) :
    lcs n ad (lset2 lo i v) ((i, c) :: lv.filter (fun q => !(q.1 == i) && (!(q.1 == i + 1) && !(q.1 + 1 == i && q.2.category == 2)))) := by
  intro j w hw
  unfold lset2 at hw
  have hji : j ≠ i + 1 := by
    intro z
    subst z
    rw [List.getElem?_set] at hw
    split at hw <;> simp_all
  rw [List.getElem?_set_ne (Ne.symm hji)] at hw
  rcases lset1_at lo i v j w hw with ⟨rfl, rfl⟩ | ⟨h1, h2, h3⟩
  · exact ⟨c, List.mem_cons_self, hv⟩
  · obtain ⟨d, q1, q2⟩ := h j w h2
    refine ⟨d, List.mem_cons_of_mem _ (List.mem_filter.mpr ⟨q1, ?_⟩), q2⟩
    have : ¬ (j + 1 = i ∧ d.category = 2) := fun z => h3 z.1 (by rw [← vr_cat q2]; exact z.2)
    simp only [Bool.and_eq_true, Bool.not_eq_true', beq_eq_false_iff_ne, ne_eq, h1, hji, not_false_eq_true, true_and, Bool.and_eq_false_imp, beq_iff_eq]
    exact fun z y => this ⟨z, y⟩
theorem lset2_len (l : Lo) (i : Nat) (v : Value) : (lset2 l i v).length = l.length := by
  unfold lset2
  rw [List.length_set, lset1_len]
theorem entA_len {n : Nat} {ad : Nat → Nat} : ∀ {as cs : List Value}, vrs n ad as cs → (lg_sl cs).length = (entA as).length
  | [], cs, h => by rw [vrs_nil h]; rfl
  | a :: as, cs, h => by
    obtain ⟨c, cs', rfl, h1, h2⟩ := vrs_cons h
    have := entA_len h2
    have hc := vr_cat h1
    rw [show lg_sl (c :: cs') = (if c.category = 2 then [.val c, .second] else [.val c]) ++ lg_sl cs' from rfl, List.length_append, hc, this, show entA (a :: as) = (if a.category = 2 then some a :: none :: entA as else some a :: entA as) from rfl]
    by_cases h9 : a.category = 2
    · rw [if_pos h9, if_pos h9]; simp only [List.length_cons, List.length_nil]; omega
    · rw [if_neg h9, if_neg h9]; simp only [List.length_cons, List.length_nil]; omega
theorem entA_lcs {n : Nat} {ad : Nat → Nat} : ∀ {as cs : List Value} (off : Nat), vrs n ad as cs → ∀ (i : Nat) (v : Value), (entA as)[i]? = some (some v) → ∃ c, (off + i, c) ∈ lv_args off cs ∧ vr n ad v c
  | [], cs, off, h, i, v, hv => by simp [entA] at hv
  | a :: as, cs, off, h, i, v, hv => by
    obtain ⟨c, cs', rfl, h1, h2⟩ := vrs_cons h
    have hc := vr_cat h1
    simp only [entA] at hv
    simp only [lv_args]
    rw [hc]
    by_cases h9 : a.category = 2
    · rw [if_pos h9] at hv ⊢
      match i, hv with
      | 0, hv => simp at hv; subst hv; exact ⟨c, List.mem_cons_self, h1⟩
      | 1, hv => simp at hv
      | j + 2, hv =>
        simp at hv
        obtain ⟨d, q1, q2⟩ := entA_lcs (off + 2) h2 j v hv
        exact ⟨d, List.mem_cons_of_mem _ (by rw [show off + (j + 2) = off + 2 + j by omega]; exact q1), q2⟩
    · rw [if_neg h9] at hv ⊢
      match i, hv with
      | 0, hv => simp at hv; subst hv; exact ⟨c, List.mem_cons_self, h1⟩
      | j + 1, hv =>
        simp at hv
        obtain ⟨d, q1, q2⟩ := entA_lcs (off + 1) h2 j v hv
        exact ⟨d, List.mem_cons_of_mem _ (by rw [show off + (j + 1) = off + 1 + j by omega]; exact q1), q2⟩
theorem LR_entry {n : Nat} {ad : Nat → Nat} {mi : Nat} {as cs : List Value} (h : vrs n ad as cs) (hl : (entA as).length ≤ mMx mi) :
    LR n ad (ent mi as) ((lg_sl cs ++ List.replicate (mMx mi - (lg_sl cs).length) Slot.unset).toArray) (mMx mi) := by
  refine ⟨?_, lv_args 0 cs, lv_entry cs (by rw [entA_len h]; exact hl), fun i v hv => ?_⟩
  · unfold ent
    rw [List.length_append, List.length_replicate]
    omega
  · unfold ent at hv
    by_cases hi : i < (entA as).length
    · rw [List.getElem?_append_left hi] at hv
      have := entA_lcs 0 h i v hv
      simpa using this
    · rw [List.getElem?_append_right (by omega), List.getElem?_replicate] at hv
      split at hv <;> simp at hv
/-! cells -/
def rf (ad : Nat → Nat) (n : Nat) : Option Nat := match n with
  | 0 => none
  | k + 1 => some (ad k)
def fvl (ad : Nat → Nat) (σ : St) (ci k a : Nat) : Value := match fso (zTY ci k) with
  | 0 => .int (zI σ a k)
  | 1 => .long (zL σ a k)
  | _ => va_rf (rf ad (zR σ a k))
/-- the class of a kind of objects -/
def kci (k : Nat) : Nat := if k = 22 then 10 else k - 1
def cel (cid : Nat → ClassId) (ad : Nat → Nat) (σ : St) (a : Nat) : va_E :=
  if (zh σ a).1 = 16 ∨ (zh σ a).1 = 17 ∨ (zh σ a).1 = 18 then .inl (cid (zh σ a).1, (zh σ a).2, .inr (.inr (.inr (.inr (fun j => rf ad (zR σ a j))))))
  else if (zh σ a).1 = 11 ∨ (zh σ a).1 = 13 ∨ (zh σ a).1 = 14 then .inl (cid (zh σ a).1, (zh σ a).2, .inl (zI σ a))
  else .inr (kci (zh σ a).1, (List.range (zN (kci (zh σ a).1))).map (fun j => fvl ad σ (kci (zh σ a).1) j a))
def wl (cid : Nat → ClassId) (ad : Nat → Nat) (σ : St) : va_W := (List.range (zn σ - 15)).map (fun j => (ad (j + 15), cel cid ad σ (j + 15)))
theorem wl_at {cid : Nat → ClassId} {ad : Nat → Nat} {σ : St} {a : Nat} (h1 : 15 ≤ a) (h2 : a < zn σ) : (wl cid ad σ)[a - 15]? = some (ad a, cel cid ad σ a) := by
  unfold wl
  rw [List.getElem?_map, List.getElem?_range (by omega)]
  simp only [Option.map_some]
  rw [show a - 15 + 15 = a by omega]
def sln : List Nat := [3, 5, 4, 4, 2, 5, 6]
def sby : List (List Int32) := [[98, 111, 120], [115, 116, 101, 97, 108], [112, 111, 115, 116], [98, 97, 108, 108], [97, 116], [115, 112, 101, 101, 100], [119, 101, 105, 103, 104, 116]]
def wf (L : Nat) (xs : Nat → Int32) (σ : St) : Prop :=
  15 ≤ zn σ ∧ (∀ a, zn σ ≤ a → zh σ a = (0, 0) ∧ ∀ j, zR σ a j = 0 ∧ zI σ a j = 0 ∧ zL σ a j = 0 ∧ zD σ a j = 0) ∧
  (zh σ 0 = (19, L) ∧ ∀ j, zI σ 0 j = xs j) ∧ (∀ i, i < 7 → zh σ (1 + i) = (20, 0) ∧ zh σ (8 + i) = (21, sln.getD i 0) ∧ ∀ j, zI σ (8 + i) j = (sby.getD i []).getD j 0) ∧
  (∀ a, 15 ≤ a → (zh σ a).1 ≤ 18 ∨ (zh σ a).1 = 22) ∧ (∀ a j, zR σ a j ≤ zn σ) ∧ zn σ ≤ KB
theorem wf.own {L : Nat} {xs : Nat → Int32} {σ : St} (h : wf L xs σ) {a : Nat} (h0 : (zh σ a).1 ≠ 0) (h1 : (zh σ a).1 ≤ 18 ∨ (zh σ a).1 = 22) : 15 ≤ a ∧ a < zn σ := by
  obtain ⟨g1, g2, ⟨g3, -⟩, g4, -, -⟩ := h
  refine ⟨Nat.not_lt.mp fun q => ?_, Nat.not_le.mp fun q => h0 (by rw [(g2 a q).1])⟩
  rcases Nat.lt_or_ge a 1 with h | h
  · have : a = 0 := by omega
    subst this
    rw [g3] at h1
    omega
  · rcases Nat.lt_or_ge a 8 with h' | h'
    · have := (g4 (a - 1) (by omega)).1
      rw [show 1 + (a - 1) = a by omega] at this
      rw [this] at h1
      omega
    · have := (g4 (a - 8) (by omega)).2.1
      rw [show 8 + (a - 8) = a by omega] at this
      rw [this] at h1
      omega
theorem wf.lt {L : Nat} {xs : Nat → Int32} {σ : St} (h : wf L xs σ) {a : Nat} (h0 : (zh σ a).1 ≠ 0) : a < zn σ := Nat.not_le.mp fun q => h0 (by rw [(h.2.1 a q).1])
theorem cel_i {cid : Nat → ClassId} {ad : Nat → Nat} {σ : St} {a k : Nat} (h : (zh σ a).1 = k) (hk : k = 11 ∨ k = 13 ∨ k = 14) : cel cid ad σ a = .inl (cid k, (zh σ a).2, .inl (zI σ a)) := by
  subst h
  unfold cel
  rw [if_neg (by omega), if_pos hk]
theorem cel_q {cid : Nat → ClassId} {ad : Nat → Nat} {σ : St} {a k : Nat} (h : (zh σ a).1 = k) (hk : k = 16 ∨ k = 17 ∨ k = 18) : cel cid ad σ a = .inl (cid k, (zh σ a).2, .inr (.inr (.inr (.inr (fun j => rf ad (zR σ a j)))))) := by
  subst h
  unfold cel
  rw [if_pos hk]
theorem kdc_b {ci : Nat} (h : ci < 11) : (1 ≤ kdc ci ∧ kdc ci ≤ 10) ∨ kdc ci = 22 := by
  unfold kdc
  split <;> omega
theorem kci_c {ci : Nat} (h : ci < 11) : kci (kdc ci) = ci := by
  unfold kci kdc
  split <;> split <;> omega
theorem cel_o {cid : Nat → ClassId} {ad : Nat → Nat} {σ : St} {a ci : Nat} (h : (zh σ a).1 = kdc ci) (hk : ci < 11) : cel cid ad σ a = .inr (ci, (List.range (zN ci)).map (fun j => fvl ad σ ci j a)) := by
  have := kdc_b hk
  unfold cel
  rw [h, if_neg (by omega), if_neg (by omega), kci_c hk]
theorem rf_vr {n : Nat} {ad : Nat → Nat} {q : Nat} (h : q ≤ n) : vr n ad (rv q) (va_rf (rf ad q)) := by
  match q, h with
  | 0, _ => rfl
  | j + 1, h => exact (⟨Nat.lt_of_succ_le h, rfl⟩ : j < n ∧ Value.ref (ad j) = Value.ref (ad j))
theorem gvl_vr {L : Nat} {xs : Nat → Int32} {ad : Nat → Nat} {σ : St} (h : wf L xs σ) (ci k a : Nat) : vr (zn σ) ad (gvl σ ci k a) (fvl ad σ ci k a) := by
  unfold gvl fvl
  generalize fso (zTY ci k) = q
  match q with
  | 0 => rfl
  | 1 => rfl
  | _ + 2 => exact rf_vr (h.2.2.2.2.2.1 a k)
theorem rv_vr {L : Nat} {xs : Nat → Int32} {ad : Nat → Nat} {σ : St} (h : wf L xs σ) (k a : Nat) : vr (zn σ) ad (rv (zR σ a k)) (va_rf (rf ad (zR σ a k))) := rf_vr (h.2.2.2.2.2.1 a k)
/-- one object changed, its kind kept -/
theorem wl_set {cid : Nat → ClassId} {ad : Nat → Nat} {σ σ' : St} {a : Nat} (h1 : 15 ≤ a) (hn : zn σ' = zn σ) (ho : ∀ b, b ≠ a → cel cid ad σ' b = cel cid ad σ b) : (wl cid ad σ).set (a - 15) (ad a, cel cid ad σ' a) = wl cid ad σ' := by
  apply List.ext_getElem?
  intro i
  unfold wl
  rw [hn]
  by_cases hi : i = a - 15
  · subst hi
    by_cases hl : a - 15 < zn σ - 15
    · rw [List.getElem?_set_self (by simpa using hl), List.getElem?_map, List.getElem?_range hl]
      simp only [Option.map_some]
      rw [show a - 15 + 15 = a by omega]
    · rw [List.getElem?_eq_none (by simp; omega), List.getElem?_eq_none (by simp; omega)]
  · rw [List.getElem?_set_ne (Ne.symm hi), List.getElem?_map, List.getElem?_map]
    by_cases hl : i < zn σ - 15
    · rw [List.getElem?_range hl]
      simp only [Option.map_some]
      rw [ho _ (by omega)]
    · rw [List.getElem?_eq_none (by simp; omega)]
      rfl
