theorem nr {α : Sort _} {a b : α} (h : a = b) : a = b := h
/-! PURE WORK: a run that ends with Q, as a proposition that each instruction rewrites -/
def Wp (d mi pc : Nat) (lo : Lo) (st : List Value) (σ : St) (Q : Rs → St → Prop) : Prop := ∃ n r σ', run n d mi pc lo st σ = some (r, σ') ∧ Q r σ'
/-- what follows a call -/
def kn (d mi pc rp : Nat) (lo : Lo) (st : List Value) (Q : Rs → St → Prop) (r : Rs) (σ : St) : Prop := match r with
  | .inl v => Wp d mi rp lo (v.toList ++ st) σ Q
  | .inr E => match hnd (mOw mi) (mHn mi) pc E with
    | some h => Wp d mi h lo [.retAddr 0] σ Q
    | none => Q (.inr E) σ
theorem run_le {n n' d mi pc : Nat} {lo : Lo} {st : List Value} {σ : St} {r : Rs × St} (hn : n ≤ n') (h : run n d mi pc lo st σ = some r) : run n' d mi pc lo st σ = some r := by
  induction hn with
  | refl => exact h
  | step _ ih => exact run_mono _ _ _ _ _ _ _ _ ih
section S16
variable {d mi pc : Nat} {lo : Lo} {st : List Value} {σ : St} {Q Q' : Rs → St → Prop}
theorem Wp.mono (h : Wp d mi pc lo st σ Q) (hq : ∀ r σ', Q r σ' → Q' r σ') : Wp d mi pc lo st σ Q' := by
  obtain ⟨n, r, σ', h1, h2⟩ := h
  exact ⟨n, r, σ', h1, hq _ _ h2⟩
theorem Wp.step {pc' : Nat} {lo' : Lo} {st' : List Value} {σ' : St} (h : stp mi pc lo st σ = some (.inl (pc', lo', st', σ'))) : Wp d mi pc lo st σ Q = Wp d mi pc' lo' st' σ' Q := by
  apply propext
  constructor
  · rintro ⟨n, r, σ2, h1, h2⟩
    cases n with
    | zero => simp [run] at h1
    | succ n =>
      rw [run, h] at h1
      exact ⟨n, r, σ2, h1, h2⟩
  · rintro ⟨n, r, σ2, h1, h2⟩
    exact ⟨n + 1, r, σ2, by rw [run, h]; exact h1, h2⟩
theorem Wp.done {r : Option Value} {σ' : St} (h : stp mi pc lo st σ = some (.inr (.inl (.inl r, σ')))) : Wp d mi pc lo st σ Q = Q (.inl r) σ' := by
  apply propext
  constructor
  · rintro ⟨n, r2, σ2, h1, h2⟩
    cases n with
    | zero => simp [run] at h1
    | succ n =>
      rw [run, h] at h1
      cases h1
      exact h2
  · intro hq
    exact ⟨1, .inl r, σ', by rw [run, h], hq⟩
theorem Wp.doneX {E : Nat} {σ' : St} (h : stp mi pc lo st σ = some (.inr (.inl (.inr E, σ')))) : Wp (d + 5) mi pc lo st σ Q = Q (.inr E) σ' := by
  apply propext
  have h5 : 5 ≤ d + 5 := Nat.le_add_left _ _
  constructor
  · rintro ⟨n, r2, σ2, h1, h2⟩
    cases n with
    | zero => simp [run] at h1
    | succ n =>
      rw [run, h] at h1
      dsimp only at h1
      rw [if_pos h5] at h1
      cases h1
      exact h2
  · intro hq
    exact ⟨1, .inr E, σ', by rw [run, h]; dsimp only; rw [if_pos h5], hq⟩
theorem Wp.call {y rp : Nat} {as st' : List Value} (hr : pc + 3 = rp) (h : stp mi pc lo st σ = some (.inr (.inr (y, as, st')))) : Wp (d + 1) mi pc lo st σ Q = Wp d y 0 (ent y as) [] σ (kn (d + 1) mi pc rp lo st' Q) := by
  subst hr
  apply propext
  constructor
  · rintro ⟨n, r2, σ2, h1, h2⟩
    cases n with
    | zero => simp [run] at h1
    | succ n =>
      rw [run, h] at h1
      dsimp only at h1
      match hc : run n d y 0 (ent y as) [] σ with
      | none => rw [hc] at h1; cases h1
      | some (.inl v, σ1) =>
        rw [hc] at h1
        exact ⟨n, _, _, hc, n, r2, σ2, h1, h2⟩
      | some (.inr E, σ1) =>
        rw [hc] at h1
        refine ⟨n, _, _, hc, ?_⟩
        show (match hnd (mOw mi) (mHn mi) pc E with
          | some h => Wp (d + 1) mi h lo [.retAddr 0] σ1 Q
          | none => Q (.inr E) σ1)
        dsimp only at h1
        match hh : hnd (mOw mi) (mHn mi) pc E with
        | none => rw [hh] at h1; cases h1; exact h2
        | some q => rw [hh] at h1; exact ⟨n, r2, σ2, h1, h2⟩
  · rintro ⟨n, r1, σ1, h1, h2⟩
    match r1, h1, h2 with
    | .inl v, h1, ⟨n2, r2, σ2, h3, h4⟩ =>
      refine ⟨max n n2 + 1, r2, σ2, ?_, h4⟩
      rw [run, h]
      dsimp only
      rw [run_le (Nat.le_max_left n n2) h1]
      exact run_le (Nat.le_max_right n n2) h3
    | .inr E, h1, h2 =>
      have h5 : (match hnd (mOw mi) (mHn mi) pc E with
          | some h => Wp (d + 1) mi h lo [.retAddr 0] σ1 Q
          | none => Q (.inr E) σ1) := h2
      match hh : hnd (mOw mi) (mHn mi) pc E with
      | none =>
        rw [hh] at h5
        refine ⟨n + 1, .inr E, σ1, ?_, h5⟩
        rw [run, h]
        dsimp only
        rw [h1]
        dsimp only
        rw [hh]
      | some q =>
        rw [hh] at h5
        obtain ⟨n2, r2, σ2, h3, h4⟩ := h5
        refine ⟨max n n2 + 1, r2, σ2, ?_, h4⟩
        rw [run, h]
        dsimp only
        rw [run_le (Nat.le_max_left n n2) h1]
        dsimp only
        rw [hh]
        exact run_le (Nat.le_max_right n n2) h3
theorem kn_s {rp : Nat} {v : Value} : kn d mi pc rp lo st Q (.inl (some v)) σ = Wp d mi rp lo (v :: st) σ Q := nr rfl
theorem kn_n {rp : Nat} : kn d mi pc rp lo st Q (.inl none) σ = Wp d mi rp lo st σ Q := nr rfl
theorem kn_x {rp E : Nat} (h : mHn mi = []) : kn d mi pc rp lo st Q (.inr E) σ = Q (.inr E) σ := by
  unfold kn
  rw [h]
  rfl
theorem kn_h {rp E h : Nat} (hh : hnd (mOw mi) (mHn mi) pc E = some h) : kn d mi pc rp lo st Q (.inr E) σ = Wp d mi h lo [.retAddr 0] σ Q := by
  unfold kn
  dsimp only
  rw [hh]
/-! decoding -/
def DC (mi pc : Nat) (i : Instr) : Prop := decode (mCd mi) pc = .ok (i, ilen i)
theorem stp_of {i : Instr} (hd : DC mi pc i) : stp mi pc lo st σ = zins mi pc lo st σ i := by
  have hd : decode (mCd mi) pc = .ok (i, ilen i) := hd
  unfold stp
  rw [hd]
  cases i <;> first | rfl | exact if_pos rfl
/-! an instruction, a rule -/
theorem wp_aload_n {k : Fin 4} {v : Value} (hd : DC mi pc (.aload_n k)) (hl : lo[(k : Nat)]? = some (some v)) (hv : zk v = 4) : Wp d mi pc lo st σ Q = Wp d mi (pc + 1) lo (v :: st) σ Q :=
  Wp.step (by rw [stp_of hd]; show zld 4 k (pc + 1) lo st σ = _; unfold zld; rw [hl]; dsimp only; rw [if_pos hv]; rfl)
theorem wp_aload {k : Nat} {v : Value} (hd : DC mi pc (.aload k)) (hl : lo[k]? = some (some v)) (hv : zk v = 4) : Wp d mi pc lo st σ Q = Wp d mi (pc + 2) lo (v :: st) σ Q :=
  Wp.step (by rw [stp_of hd]; show zld 4 k (pc + 2) lo st σ = _; unfold zld; rw [hl]; dsimp only; rw [if_pos hv]; rfl)
theorem wp_iload_n {k : Fin 4} {x : Int32} (hd : DC mi pc (.iload_n k)) (hl : lo[(k : Nat)]? = some (some (.int x))) : Wp d mi pc lo st σ Q = Wp d mi (pc + 1) lo (.int x :: st) σ Q :=
  Wp.step (by rw [stp_of hd]; show zld 0 k (pc + 1) lo st σ = _; unfold zld; rw [hl]; rfl)
theorem wp_iload {k : Nat} {x : Int32} (hd : DC mi pc (.iload k)) (hl : lo[k]? = some (some (.int x))) : Wp d mi pc lo st σ Q = Wp d mi (pc + 2) lo (.int x :: st) σ Q :=
  Wp.step (by rw [stp_of hd]; show zld 0 k (pc + 2) lo st σ = _; unfold zld; rw [hl]; rfl)
theorem wp_lload_n {k : Fin 4} {x : Int64} (hd : DC mi pc (.lload_n k)) (hl : lo[(k : Nat)]? = some (some (.long x))) : Wp d mi pc lo st σ Q = Wp d mi (pc + 1) lo (.long x :: st) σ Q :=
  Wp.step (by rw [stp_of hd]; show zld 1 k (pc + 1) lo st σ = _; unfold zld; rw [hl]; rfl)
theorem wp_lload {k : Nat} {x : Int64} (hd : DC mi pc (.lload k)) (hl : lo[k]? = some (some (.long x))) : Wp d mi pc lo st σ Q = Wp d mi (pc + 2) lo (.long x :: st) σ Q :=
  Wp.step (by rw [stp_of hd]; show zld 1 k (pc + 2) lo st σ = _; unfold zld; rw [hl]; rfl)
theorem wp_astore_n {k : Fin 4} {v : Value} {lo' : Lo} (hd : DC mi pc (.astore_n k)) (hk : (k : Nat) < lo.length) (hl : lset1 lo k v = lo') (hv : zk v = 4) : Wp d mi pc lo (v :: st) σ Q = Wp d mi (pc + 1) lo' st σ Q :=
  Wp.step (by rw [stp_of hd]; show zst 4 k (pc + 1) lo (v :: st) σ = _; unfold zst; dsimp only; rw [if_pos ⟨hv, hk⟩, hl]; rfl)
theorem wp_astore {k : Nat} {v : Value} {lo' : Lo} (hd : DC mi pc (.astore k)) (hk : k < lo.length) (hl : lset1 lo k v = lo') (hv : zk v = 4) : Wp d mi pc lo (v :: st) σ Q = Wp d mi (pc + 2) lo' st σ Q :=
  Wp.step (by rw [stp_of hd]; show zst 4 k (pc + 2) lo (v :: st) σ = _; unfold zst; dsimp only; rw [if_pos ⟨hv, hk⟩, hl]; rfl)
theorem wp_istore_n {k : Fin 4} {x : Int32} {lo' : Lo} (hd : DC mi pc (.istore_n k)) (hk : (k : Nat) < lo.length) (hl : lset1 lo k (.int x) = lo') : Wp d mi pc lo (.int x :: st) σ Q = Wp d mi (pc + 1) lo' st σ Q :=
  Wp.step (by rw [stp_of hd]; show zst 0 k (pc + 1) lo (.int x :: st) σ = _; unfold zst; dsimp only; rw [if_pos ⟨rfl, hk⟩, hl]; rfl)
theorem wp_istore {k : Nat} {x : Int32} {lo' : Lo} (hd : DC mi pc (.istore k)) (hk : k < lo.length) (hl : lset1 lo k (.int x) = lo') : Wp d mi pc lo (.int x :: st) σ Q = Wp d mi (pc + 2) lo' st σ Q :=
  Wp.step (by rw [stp_of hd]; show zst 0 k (pc + 2) lo (.int x :: st) σ = _; unfold zst; dsimp only; rw [if_pos ⟨rfl, hk⟩, hl]; rfl)
theorem wp_lstore_n {k : Fin 4} {x : Int64} {lo' : Lo} (hd : DC mi pc (.lstore_n k)) (hk : (k : Nat) + 1 < lo.length) (hl : lset2 lo k (.long x) = lo') : Wp d mi pc lo (.long x :: st) σ Q = Wp d mi (pc + 1) lo' st σ Q :=
  Wp.step (by rw [stp_of hd]; show zst2 1 k (pc + 1) lo (.long x :: st) σ = _; unfold zst2; dsimp only; rw [if_pos ⟨rfl, hk⟩, hl]; rfl)
theorem wp_lstore {k : Nat} {x : Int64} {lo' : Lo} (hd : DC mi pc (.lstore k)) (hk : k + 1 < lo.length) (hl : lset2 lo k (.long x) = lo') : Wp d mi pc lo (.long x :: st) σ Q = Wp d mi (pc + 2) lo' st σ Q :=
  Wp.step (by rw [stp_of hd]; show zst2 1 k (pc + 2) lo (.long x :: st) σ = _; unfold zst2; dsimp only; rw [if_pos ⟨rfl, hk⟩, hl]; rfl)
theorem wp_iinc {k : Nat} {n : Int} {x c : Int32} {lo' : Lo} (hd : DC mi pc (.iinc k n)) (hc : Int32.ofInt n = c) (hl : lo[k]? = some (some (.int x))) (hl' : lset1 lo k (.int (x + c)) = lo') : Wp d mi pc lo st σ Q = Wp d mi (pc + 3) lo' st σ Q :=
  Wp.step (by subst hc; rw [stp_of hd]; simp only [zins]; rw [hl]; dsimp only; rw [hl']; rfl)
theorem wp_const {i : Instr} {v : Value} {q : Nat} (hd : DC mi pc i) (hz : zins mi pc lo st σ i = nx q lo (v :: st) σ) : Wp d mi pc lo st σ Q = Wp d mi q lo (v :: st) σ Q :=
  Wp.step (by rw [stp_of hd, hz]; rfl)
theorem wp_iconst {n : Int} {c : Int32} (hd : DC mi pc (.iconst n)) (hc : Int32.ofInt n = c) : Wp d mi pc lo st σ Q = Wp d mi (pc + 1) lo (.int c :: st) σ Q := by subst hc; exact wp_const hd rfl
theorem wp_bipush {n : Int} {c : Int32} (hd : DC mi pc (.bipush n)) (hc : (Int8.ofInt n).toInt32 = c) : Wp d mi pc lo st σ Q = Wp d mi (pc + 2) lo (.int c :: st) σ Q := by subst hc; exact wp_const hd rfl
theorem wp_sipush {n : Int} {c : Int32} (hd : DC mi pc (.sipush n)) (hc : (Int16.ofInt n).toInt32 = c) : Wp d mi pc lo st σ Q = Wp d mi (pc + 3) lo (.int c :: st) σ Q := by subst hc; exact wp_const hd rfl
theorem wp_any {i : Instr} {q : Nat} {lo' : Lo} {st' : List Value} {σ' : St} (hd : DC mi pc i) (hz : zins mi pc lo st σ i = some (.inl (q, lo', st', σ'))) : Wp d mi pc lo st σ Q = Wp d mi q lo' st' σ' Q :=
  Wp.step (by rw [stp_of hd, hz])
theorem wp_ret {i : Instr} {r : Option Value} {σ' : St} (hd : DC mi pc i) (hz : zins mi pc lo st σ i = some (.inr (.inl (.inl r, σ')))) : Wp d mi pc lo st σ Q = Q (.inl r) σ' :=
  Wp.done (by rw [stp_of hd, hz])
theorem wp_retX {i : Instr} {E : Nat} {σ' : St} (hd : DC mi pc i) (hz : zins mi pc lo st σ i = some (.inr (.inl (.inr E, σ')))) : Wp (d + 5) mi pc lo st σ Q = Q (.inr E) σ' :=
  Wp.doneX (by rw [stp_of hd, hz])
theorem tbr_if {t f : Nat} {off : Int} {b : Bool} (h1 : 0 ≤ (pc : Int) + off) (h2 : ((pc : Int) + off).toNat = t) (h3 : pc + 3 = f) {P : Prop} [Decidable P] (hb : b = decide P) {i : Instr} {st' : List Value} (hd : DC mi pc i) (hz : zins mi pc lo st σ i = tbr pc off b lo st' σ) :
    Wp d mi pc lo st σ Q = if P then Wp d mi t lo st' σ Q else Wp d mi f lo st' σ Q := by
  subst h2; subst h3; subst hb
  rw [Wp.step (show stp mi pc lo st σ = some (.inl (if decide P = true then ((pc : Int) + off).toNat else pc + 3, lo, st', σ)) by rw [stp_of hd, hz]; unfold tbr; rw [if_pos h1]; rfl)]
  by_cases h : P <;> simp [h]
theorem tbr_ifn {t f : Nat} {off : Int} {b : Bool} (h1 : 0 ≤ (pc : Int) + off) (h2 : ((pc : Int) + off).toNat = t) (h3 : pc + 3 = f) {P : Prop} [Decidable P] (hb : b = decide (¬ P)) {i : Instr} {st' : List Value} (hd : DC mi pc i) (hz : zins mi pc lo st σ i = tbr pc off b lo st' σ) :
    Wp d mi pc lo st σ Q = if P then Wp d mi f lo st' σ Q else Wp d mi t lo st' σ Q := by
  rw [tbr_if h1 h2 h3 hb hd hz]
  by_cases h : P <;> simp [h]
theorem i32_ge {x y : Int32} : decide (y ≤ x) = decide (¬ x < y) := by simp only [Int32.not_lt]
section branches
variable {t f : Nat} {off : Int} {x y : Int32}
theorem wp_ifeq (hd : DC mi pc (.ifCond .eq off)) (h1 : 0 ≤ (pc : Int) + off) (h2 : ((pc : Int) + off).toNat = t) (h3 : pc + 3 = f) {z : Int32} (hz : z = 0) : Wp d mi pc lo (.int x :: st) σ Q = if x = z then Wp d mi t lo st σ Q else Wp d mi f lo st σ Q := by
  subst hz
  exact tbr_if h1 h2 h3 (b := cB .eq x 0) rfl hd rfl
theorem wp_ifne (hd : DC mi pc (.ifCond .ne off)) (h1 : 0 ≤ (pc : Int) + off) (h2 : ((pc : Int) + off).toNat = t) (h3 : pc + 3 = f) {z : Int32} (hz : z = 0) : Wp d mi pc lo (.int x :: st) σ Q = if x = z then Wp d mi f lo st σ Q else Wp d mi t lo st σ Q := by
  subst hz
  exact tbr_ifn h1 h2 h3 (b := cB .ne x 0) rfl hd rfl
theorem wp_iflt (hd : DC mi pc (.ifCond .lt off)) (h1 : 0 ≤ (pc : Int) + off) (h2 : ((pc : Int) + off).toNat = t) (h3 : pc + 3 = f) {z : Int32} (hz : z = 0) : Wp d mi pc lo (.int x :: st) σ Q = if x < z then Wp d mi t lo st σ Q else Wp d mi f lo st σ Q := by
  subst hz
  exact tbr_if h1 h2 h3 (b := cB .lt x 0) rfl hd rfl
theorem wp_ifge (hd : DC mi pc (.ifCond .ge off)) (h1 : 0 ≤ (pc : Int) + off) (h2 : ((pc : Int) + off).toNat = t) (h3 : pc + 3 = f) {z : Int32} (hz : z = 0) : Wp d mi pc lo (.int x :: st) σ Q = if x < z then Wp d mi f lo st σ Q else Wp d mi t lo st σ Q := by
  subst hz
  exact tbr_ifn h1 h2 h3 (b := cB .ge x 0) i32_ge hd rfl
theorem wp_ifgt (hd : DC mi pc (.ifCond .gt off)) (h1 : 0 ≤ (pc : Int) + off) (h2 : ((pc : Int) + off).toNat = t) (h3 : pc + 3 = f) {z : Int32} (hz : z = 0) : Wp d mi pc lo (.int x :: st) σ Q = if z < x then Wp d mi t lo st σ Q else Wp d mi f lo st σ Q := by
  subst hz
  exact tbr_if h1 h2 h3 (b := cB .gt x 0) rfl hd rfl
theorem wp_ifle (hd : DC mi pc (.ifCond .le off)) (h1 : 0 ≤ (pc : Int) + off) (h2 : ((pc : Int) + off).toNat = t) (h3 : pc + 3 = f) {z : Int32} (hz : z = 0) : Wp d mi pc lo (.int x :: st) σ Q = if z < x then Wp d mi f lo st σ Q else Wp d mi t lo st σ Q := by
  subst hz
  exact tbr_ifn h1 h2 h3 (b := cB .le x 0) i32_ge hd rfl
theorem wp_icmpeq (hd : DC mi pc (.if_icmp .eq off)) (h1 : 0 ≤ (pc : Int) + off) (h2 : ((pc : Int) + off).toNat = t) (h3 : pc + 3 = f) : Wp d mi pc lo (.int y :: .int x :: st) σ Q = if x = y then Wp d mi t lo st σ Q else Wp d mi f lo st σ Q := tbr_if h1 h2 h3 (b := cB .eq x y) rfl hd rfl
theorem wp_icmpne (hd : DC mi pc (.if_icmp .ne off)) (h1 : 0 ≤ (pc : Int) + off) (h2 : ((pc : Int) + off).toNat = t) (h3 : pc + 3 = f) : Wp d mi pc lo (.int y :: .int x :: st) σ Q = if x = y then Wp d mi f lo st σ Q else Wp d mi t lo st σ Q := tbr_ifn h1 h2 h3 (b := cB .ne x y) rfl hd rfl
theorem wp_icmplt (hd : DC mi pc (.if_icmp .lt off)) (h1 : 0 ≤ (pc : Int) + off) (h2 : ((pc : Int) + off).toNat = t) (h3 : pc + 3 = f) : Wp d mi pc lo (.int y :: .int x :: st) σ Q = if x < y then Wp d mi t lo st σ Q else Wp d mi f lo st σ Q := tbr_if h1 h2 h3 (b := cB .lt x y) rfl hd rfl
theorem wp_icmpge (hd : DC mi pc (.if_icmp .ge off)) (h1 : 0 ≤ (pc : Int) + off) (h2 : ((pc : Int) + off).toNat = t) (h3 : pc + 3 = f) : Wp d mi pc lo (.int y :: .int x :: st) σ Q = if x < y then Wp d mi f lo st σ Q else Wp d mi t lo st σ Q := tbr_ifn h1 h2 h3 (b := cB .ge x y) i32_ge hd rfl
theorem wp_icmpgt (hd : DC mi pc (.if_icmp .gt off)) (h1 : 0 ≤ (pc : Int) + off) (h2 : ((pc : Int) + off).toNat = t) (h3 : pc + 3 = f) : Wp d mi pc lo (.int y :: .int x :: st) σ Q = if y < x then Wp d mi t lo st σ Q else Wp d mi f lo st σ Q := tbr_if h1 h2 h3 (b := cB .gt x y) rfl hd rfl
theorem wp_icmple (hd : DC mi pc (.if_icmp .le off)) (h1 : 0 ≤ (pc : Int) + off) (h2 : ((pc : Int) + off).toNat = t) (h3 : pc + 3 = f) : Wp d mi pc lo (.int y :: .int x :: st) σ Q = if y < x then Wp d mi f lo st σ Q else Wp d mi t lo st σ Q := tbr_ifn h1 h2 h3 (b := cB .le x y) i32_ge hd rfl
theorem wp_go {i : Instr} {st' : List Value} (hd : DC mi pc i) (hz : zins mi pc lo st σ i = tgo pc off lo st' σ) (h1 : 0 ≤ (pc : Int) + off) (h2 : ((pc : Int) + off).toNat = t) : Wp d mi pc lo st σ Q = Wp d mi t lo st' σ Q := by
  subst h2
  exact Wp.step (by rw [stp_of hd, hz]; unfold tgo; rw [if_pos h1]; rfl)
theorem wp_sw {a lw hi : Int} {offs : Array Int} {len : Nat} (hd : decode (mCd mi) pc = .ok (.tableswitch a lw hi offs, len)) (hz : zins mi pc lo (.int x :: st) σ (.tableswitch a lw hi offs) = tgo pc off lo st σ) (h1 : 0 ≤ (pc : Int) + off) (h2 : ((pc : Int) + off).toNat = t) : Wp d mi pc lo (.int x :: st) σ Q = Wp d mi t lo st σ Q := by
  subst h2
  refine Wp.step ?_
  have : stp mi pc lo (.int x :: st) σ = zins mi pc lo (.int x :: st) σ (.tableswitch a lw hi offs) := by
    unfold stp
    rw [hd]
  rw [this, hz]
  unfold tgo
  rw [if_pos h1]
  rfl
end branches
/-! links -/
theorem wp_ldcS {own idx j b : Nat} (hd : DC mi pc (.ldc idx)) (ho : mOw mi = own) (hl : lkq own idx = some (7, j, b)) : Wp d mi pc lo st σ Q = Wp d mi (pc + 2) lo (.ref (1 + j) :: st) σ Q := by
  subst ho
  exact wp_any hd (by simp only [zins, hl, nx])
theorem wp_ldcQ {own idx j b : Nat} (hd : DC mi pc (.ldc idx)) (ho : mOw mi = own) (hl : lkq own idx = some (23, j, b)) : Wp d mi pc lo st σ Q = Wp d mi (pc + 2) lo (.retAddr (j + 1) :: st) σ Q := by
  subst ho
  exact wp_any hd (by simp only [zins, hl, nx])
theorem wp_ldcI {own idx v b : Nat} {c : Int32} (hd : DC mi pc (.ldc idx)) (ho : mOw mi = own) (hl : lkq own idx = some (8, v, b)) (hc : Int32.ofNat v = c) : Wp d mi pc lo st σ Q = Wp d mi (pc + 2) lo (.int c :: st) σ Q := by
  subst ho; subst hc
  exact wp_any hd (by simp only [zins, hl, nx])
section fields
variable {own idx ci k a : Nat}
theorem wp_get {v : Value} (hd : DC mi pc (.getfield idx)) (ho : mOw mi = own) (hl : lkq own idx = some (0, ci, k)) (hv : gvl σ ci k a = v) {kd : Nat} (hkd : kdc ci = kd) (hz : zh σ a = (kd, 0)) : Wp d mi pc lo (.ref a :: st) σ Q = Wp d mi (pc + 3) lo (v :: st) σ Q := by
  subst ho; subst hv; subst hkd
  exact wp_any hd (by simp only [zins, hl, hz, if_true, nx])
theorem wp_getI (hd : DC mi pc (.getfield idx)) (ho : mOw mi = own) (hl : lkq own idx = some (0, ci, k)) (hf : fso (zTY ci k) = 0) {kd : Nat} (hkd : kdc ci = kd) (hz : zh σ a = (kd, 0)) : Wp d mi pc lo (.ref a :: st) σ Q = Wp d mi (pc + 3) lo (.int (zI σ a k) :: st) σ Q :=
  wp_get hd ho hl (by unfold gvl; rw [hf]; rfl) hkd hz
theorem wp_getL (hd : DC mi pc (.getfield idx)) (ho : mOw mi = own) (hl : lkq own idx = some (0, ci, k)) (hf : fso (zTY ci k) = 1) {kd : Nat} (hkd : kdc ci = kd) (hz : zh σ a = (kd, 0)) : Wp d mi pc lo (.ref a :: st) σ Q = Wp d mi (pc + 3) lo (.long (zL σ a k) :: st) σ Q :=
  wp_get hd ho hl (by unfold gvl; rw [hf]; rfl) hkd hz
theorem wp_getR (hd : DC mi pc (.getfield idx)) (ho : mOw mi = own) (hl : lkq own idx = some (0, ci, k)) (hf : fso (zTY ci k) = 2) {kd : Nat} (hkd : kdc ci = kd) (hz : zh σ a = (kd, 0)) : Wp d mi pc lo (.ref a :: st) σ Q = Wp d mi (pc + 3) lo (rv (zR σ a k) :: st) σ Q :=
  wp_get hd ho hl (by unfold gvl; rw [hf]; rfl) hkd hz
/-- fields of Strings that are constants -/
theorem wp_getKv {u : Nat} (hd : DC mi pc (.getfield idx)) (ho : mOw mi = own) (hl : lkq own idx = some (0, 10, 0)) (hz : (zh σ a).1 = u) (hu : u = 20) : Wp d mi pc lo (.ref a :: st) σ Q = Wp d mi (pc + 3) lo (.ref (a + 7) :: st) σ Q := by
  subst ho; subst hu
  refine wp_any hd ?_
  have h1 : ¬ zh σ a = (kdc 10, 0) := fun h => by rw [h] at hz; exact absurd hz (by decide)
  simp only [zins, hl, nx]
  rw [if_neg h1, if_pos ⟨hz, trivial, by simp⟩]
  rfl
theorem wp_getKc {u : Nat} {z : Int32} (hz0 : z = 0) (hd : DC mi pc (.getfield idx)) (ho : mOw mi = own) (hl : lkq own idx = some (0, 10, 1)) (hz : (zh σ a).1 = u) (hu : u = 20) : Wp d mi pc lo (.ref a :: st) σ Q = Wp d mi (pc + 3) lo (.int z :: st) σ Q := by
  subst ho; subst hu; subst hz0
  refine wp_any hd ?_
  have h1 : ¬ zh σ a = (kdc 10, 0) := fun h => by rw [h] at hz; exact absurd hz (by decide)
  simp only [zins, hl, nx]
  rw [if_neg h1, if_pos ⟨hz, trivial, by simp⟩]
  rfl
theorem wp_getQv {q : Nat} (hd : DC mi pc (.getfield idx)) (ho : mOw mi = own) (hl : lkq own idx = some (0, 10, 0)) (hq : 1 ≤ q ∧ q ≤ 9) : Wp d mi pc lo (.retAddr q :: st) σ Q = Wp d mi (pc + 3) lo (.retAddr (q + 9) :: st) σ Q := by
  subst ho
  exact wp_any hd (by simp only [zins, hl, nx]; rw [if_pos ⟨trivial, by simp, hq.1, hq.2⟩]; rfl)
theorem wp_getQc {q : Nat} {z : Int32} (hz0 : z = 0) (hd : DC mi pc (.getfield idx)) (ho : mOw mi = own) (hl : lkq own idx = some (0, 10, 1)) (hq : 1 ≤ q ∧ q ≤ 9) : Wp d mi pc lo (.retAddr q :: st) σ Q = Wp d mi (pc + 3) lo (.int z :: st) σ Q := by
  subst ho; subst hz0
  exact wp_any hd (by simp only [zins, hl, nx]; rw [if_pos ⟨trivial, by simp, hq.1, hq.2⟩]; rfl)
theorem wp_gets3 (hd : DC mi pc (.getstatic idx)) (ho : mOw mi = own) {u v : Nat} (hl : lkq own idx = some (26, u, v)) : Wp d mi pc lo st σ Q = Wp d mi (pc + 3) lo (.retAddr 19 :: st) σ Q := by
  subst ho
  exact wp_any hd (by simp only [zins, hl, nx])
theorem wp_gets4 (hd : DC mi pc (.getstatic idx)) (ho : mOw mi = own) {u v : Nat} (hl : lkq own idx = some (27, u, v)) : Wp d mi pc lo st σ Q = Wp d mi (pc + 3) lo (.retAddr 20 :: st) σ Q := by
  subst ho
  exact wp_any hd (by simp only [zins, hl, nx])
theorem wp_gets1 {z : Int32} (hz0 : z = 1) (hd : DC mi pc (.getstatic idx)) (ho : mOw mi = own) {u v : Nat} (hl : lkq own idx = some (19, u, v)) : Wp d mi pc lo st σ Q = Wp d mi (pc + 3) lo (.int z :: st) σ Q := by
  subst ho; subst hz0
  exact wp_any hd (by simp only [zins, hl, nx])
theorem wp_gets2 (hd : DC mi pc (.getstatic idx)) (ho : mOw mi = own) {u v : Nat} (hl : lkq own idx = some (20, u, v)) : Wp d mi pc lo st σ Q = Wp d mi (pc + 3) lo (.retAddr 0 :: st) σ Q := by
  subst ho
  exact wp_any hd (by simp only [zins, hl, nx])
theorem wp_put {v : Value} {σ' : St} (hd : DC mi pc (.putfield idx)) (ho : mOw mi = own) (hl : lkq own idx = some (0, ci, k)) (hp : pvl σ ci k a v = some σ') (hfin : (zT ci k).2.2.2 = true → mKd mi = 2 ∧ mOw mi = ci) (hok : okv (zTY ci k) v = true) {kd : Nat} (hkd : kdc ci = kd) (hz : zh σ a = (kd, 0)) : Wp d mi pc lo (v :: .ref a :: st) σ Q = Wp d mi (pc + 3) lo st σ' Q := by
  subst ho; subst hkd
  exact wp_any hd (by simp only [zins, hl, nx]; rw [if_pos ⟨hz, hok, hfin⟩, hp])
theorem wp_putI {x : Int32} (hd : DC mi pc (.putfield idx)) (ho : mOw mi = own) (hl : lkq own idx = some (0, ci, k)) (hf : fso (zTY ci k) = 0) (hfin : (zT ci k).2.2.2 = true → mKd mi = 2 ∧ mOw mi = ci) (hok : okv (zTY ci k) (.int x) = true) {kd : Nat} (hkd : kdc ci = kd) (hz : zh σ a = (kd, 0)) : Wp d mi pc lo (.int x :: .ref a :: st) σ Q = Wp d mi (pc + 3) lo st (wI σ a k x) Q :=
  wp_put hd ho hl (by unfold pvl; rw [hf]; rfl) hfin hok hkd hz
theorem wp_putL {x : Int64} (hd : DC mi pc (.putfield idx)) (ho : mOw mi = own) (hl : lkq own idx = some (0, ci, k)) (hf : fso (zTY ci k) = 1) (hfin : (zT ci k).2.2.2 = true → mKd mi = 2 ∧ mOw mi = ci) (hok : okv (zTY ci k) (.long x) = true) {kd : Nat} (hkd : kdc ci = kd) (hz : zh σ a = (kd, 0)) : Wp d mi pc lo (.long x :: .ref a :: st) σ Q = Wp d mi (pc + 3) lo st (wL σ a k x) Q :=
  wp_put hd ho hl (by unfold pvl; rw [hf]; rfl) hfin hok hkd hz
theorem wp_putR {x : Nat} (hd : DC mi pc (.putfield idx)) (ho : mOw mi = own) (hl : lkq own idx = some (0, ci, k)) (hf : fso (zTY ci k) = 2) (hfin : (zT ci k).2.2.2 = true → mKd mi = 2 ∧ mOw mi = ci) (hok : okv (zTY ci k) (.ref x) = true) {kd : Nat} (hkd : kdc ci = kd) (hz : zh σ a = (kd, 0)) : Wp d mi pc lo (.ref x :: .ref a :: st) σ Q = Wp d mi (pc + 3) lo st (wR σ a k (x + 1)) Q :=
  wp_put hd ho hl (by unfold pvl; rw [hf]; rfl) hfin hok hkd hz
end fields
section arrays
variable {a : Nat} {i x : Int32}
theorem wp_iald (hd : DC mi pc .iaload) (h1 : (zh σ a).1 = 11 ∨ (zh σ a).1 = 19) (h2 : inx i (zh σ a).2 = true) : Wp d mi pc lo (.int i :: .ref a :: st) σ Q = Wp d mi (pc + 1) lo (.int (zI σ a i.toNatClampNeg) :: st) σ Q :=
  wp_any hd (by simp only [zins]; rw [if_pos ⟨h1, h2⟩]; rfl)
theorem wp_bald (hd : DC mi pc .baload) (h1 : (zh σ a).1 = 13 ∨ (zh σ a).1 = 14 ∨ (zh σ a).1 = 21) (h2 : inx i (zh σ a).2 = true) : Wp d mi pc lo (.int i :: .ref a :: st) σ Q = Wp d mi (pc + 1) lo (.int (zI σ a i.toNatClampNeg) :: st) σ Q :=
  wp_any hd (by simp only [zins]; rw [if_pos ⟨h1, h2⟩]; rfl)
theorem wp_aald (hd : DC mi pc .aaload) (h1 : (zh σ a).1 = 16 ∨ (zh σ a).1 = 17 ∨ (zh σ a).1 = 18) (h2 : inx i (zh σ a).2 = true) : Wp d mi pc lo (.int i :: .ref a :: st) σ Q = Wp d mi (pc + 1) lo (rv (zR σ a i.toNatClampNeg) :: st) σ Q :=
  wp_any hd (by simp only [zins]; rw [if_pos ⟨h1, h2⟩]; rfl)
theorem wp_iast (hd : DC mi pc .iastore) (h1 : (zh σ a).1 = 11) (h2 : inx i (zh σ a).2 = true) : Wp d mi pc lo (.int x :: .int i :: .ref a :: st) σ Q = Wp d mi (pc + 1) lo st (wI σ a i.toNatClampNeg x) Q :=
  wp_any hd (by simp only [zins]; rw [if_pos ⟨h1, h2⟩]; rfl)
theorem wp_bast (hd : DC mi pc .bastore) (h1 : (zh σ a).1 = 13) (h2 : inx i (zh σ a).2 = true) : Wp d mi pc lo (.int x :: .int i :: .ref a :: st) σ Q = Wp d mi (pc + 1) lo st (wI σ a i.toNatClampNeg (vp_nar .byte x)) Q :=
  wp_any hd (by simp only [zins]; rw [if_pos h2, if_pos h1]; rfl)
theorem wp_zast (hd : DC mi pc .bastore) (h1 : (zh σ a).1 = 14) (h2 : inx i (zh σ a).2 = true) : Wp d mi pc lo (.int x :: .int i :: .ref a :: st) σ Q = Wp d mi (pc + 1) lo st (wI σ a i.toNatClampNeg (vp_nar .boolean x)) Q :=
  wp_any hd (by simp only [zins]; rw [if_pos h2, if_neg (by omega), if_pos h1]; rfl)
theorem wp_aast {v : Nat} (hd : DC mi pc .aastore) (h1 : (zh σ a).1 = 16 ∨ (zh σ a).1 = 17 ∨ (zh σ a).1 = 18) (h2 : inx i (zh σ a).2 = true) (h3 : zh σ v = (elC (zh σ a).1 + 1, 0)) : Wp d mi pc lo (.ref v :: .int i :: .ref a :: st) σ Q = Wp d mi (pc + 1) lo st (wR σ a i.toNatClampNeg (v + 1)) Q :=
  wp_any hd (by simp only [zins]; rw [if_pos ⟨h1, h2, h3⟩]; rfl)
theorem wp_alen (hd : DC mi pc .arraylength) (h1 : (11 ≤ (zh σ a).1 ∧ (zh σ a).1 ≤ 19 ∧ (zh σ a).1 ≠ 12 ∧ (zh σ a).1 ≠ 15) ∨ (zh σ a).1 = 21) : Wp d mi pc lo (.ref a :: st) σ Q = Wp d mi (pc + 1) lo (.int (Int32.ofNat (zh σ a).2) :: st) σ Q :=
  wp_any hd (by simp only [zins]; rw [if_pos h1]; rfl)
theorem wp_baldQ {q : Nat} (hd : DC mi pc .baload) (h1 : 10 ≤ q ∧ q ≤ 20) (h2 : inx i (kle (q - 1)) = true) : Wp d mi pc lo (.int i :: .retAddr q :: st) σ Q = Wp d mi (pc + 1) lo (.int (kfn (q - 1) i.toNatClampNeg) :: st) σ Q :=
  wp_any hd (by simp only [zins]; rw [if_pos ⟨h1.1, h1.2, h2⟩]; rfl)
theorem wp_alenQ {q : Nat} (hd : DC mi pc .arraylength) (h1 : 10 ≤ q ∧ q ≤ 20) : Wp d mi pc lo (.retAddr q :: st) σ Q = Wp d mi (pc + 1) lo (.int (Int32.ofNat (kle (q - 1))) :: st) σ Q :=
  wp_any hd (by simp only [zins]; rw [if_pos h1]; rfl)
theorem wp_newa {t : ArrayType} {k : Nat} {z : Int32} (hz0 : z = 0) (hd : DC mi pc (.newarray t)) (hk : arK t = k) (h3 : k ≠ 0) (h1 : z ≤ i) (h2 : i.toNatClampNeg ≤ 4000) (h9 : zn σ < KB) : Wp d mi pc lo (.int i :: st) σ Q = Wp d mi (pc + 2) lo (.ref (zn σ) :: st) (zNew σ (k, i.toNatClampNeg) i.toNatClampNeg) Q := by
  subst hk; subst hz0
  exact wp_any hd (by simp only [zins]; rw [if_pos ⟨h1, h2, h3, h9⟩]; rfl)
theorem wp_anewa {own idx ci b k : Nat} {z : Int32} (hz0 : z = 0) (hd : DC mi pc (.anewarray idx)) (ho : mOw mi = own) (hl : lkq own idx = some (5, ci, b)) (hk : ci = 0 ∧ k = 16 ∨ ci = 1 ∧ k = 17 ∨ ci = 4 ∧ k = 18) (h1 : z ≤ i) (h2 : i.toNatClampNeg ≤ 4000) (h9 : zn σ < KB) : Wp d mi pc lo (.int i :: st) σ Q = Wp d mi (pc + 3) lo (.ref (zn σ) :: st) (zNew σ (k, i.toNatClampNeg) i.toNatClampNeg) Q := by
  subst ho; subst hz0
  rcases hk with ⟨rfl, rfl⟩ | ⟨rfl, rfl⟩ | ⟨rfl, rfl⟩
  · exact wp_any hd (by simp only [zins, hl]; rw [if_pos ⟨h1, h2, by simp, h9⟩]; rfl)
  · exact wp_any hd (by simp only [zins, hl]; rw [if_pos ⟨h1, h2, by simp, h9⟩]; rfl)
  · exact wp_any hd (by simp only [zins, hl]; rw [if_pos ⟨h1, h2, by simp, h9⟩]; rfl)
theorem wp_new {own idx ci b n : Nat} (hd : DC mi pc (.new idx)) (ho : mOw mi = own) (hl : lkq own idx = some (5, ci, b)) (hn : zN ci = n) {kd : Nat} (hkd : kdc ci = kd) (h9 : zn σ < KB) : Wp d mi pc lo st σ Q = Wp d mi (pc + 3) lo (.ref (zn σ) :: st) (zNew σ (kd, 0) n) Q := by
  subst ho; subst hn; subst hkd
  exact wp_any hd (by simp only [zins, hl, nx]; rw [if_pos h9])
theorem wp_cast {own idx u v a : Nat} (hd : DC mi pc (.checkcast idx)) (ho : mOw mi = own) (hl : lkq own idx = some (24, u, v)) (hz : (zh σ a).1 = 13) : Wp d mi pc lo (.ref a :: st) σ Q = Wp d mi (pc + 3) lo (.ref a :: st) σ Q := by
  subst ho
  exact wp_any hd (by simp only [zins, hl, nx]; rw [if_pos hz])
theorem wp_clone {own idx u v a : Nat} (hd : DC mi pc (.invokevirtual idx)) (ho : mOw mi = own) (hl : lkq own idx = some (25, u, v)) (hz : (zh σ a).1 = 13) (hc : cats st ≤ 8) (h9 : zn σ < KB) (hb : bts (zI σ a) 0 (zh σ a).2 = true) : Wp d mi pc lo (.ref a :: st) σ Q = Wp d mi (pc + 3) lo (.ref (zn σ) :: st) (zCln σ a (zh σ a).2) Q := by
  subst ho
  exact wp_any hd (by simp only [zins, hl, nx]; rw [if_pos ⟨hz, hc, h9, hb⟩])
end arrays
theorem wp_throw {idx ic E b : Nat} (hd : DC mi pc (.new idx)) (h3 : DC mi (pc + 3) .dup) (h4 : DC mi (pc + 4) (.invokespecial ic)) (h7 : DC mi (pc + 7) .athrow) (ho : mOw mi = 8) (hl : lkq 8 idx = some (6, E, b)) (hi : lkq 8 ic = some (4, E, 0)) (hh : mHn mi = []) (hc : cats st ≤ 8) : Wp (d + 5) mi pc lo st σ Q = Q (.inr E) (zThrow σ) :=
  wp_retX hd (by
    simp only [zins]
    rw [ho, hl]
    unfold zthrow
    have h3 : decode (mCd mi) (pc + 3) = .ok (.dup, 1) := h3
    have h4 : decode (mCd mi) (pc + 4) = .ok (.invokespecial ic, 3) := h4
    have h7 : decode (mCd mi) (pc + 7) = .ok (.athrow, 1) := h7
    rw [h3, h4, h7]
    exact if_pos ⟨ho, hi, hh, hc⟩)
/-! calls -/
section calls
variable {own idx y n m kd b rp : Nat} {as st0 : List Value} {E : Lo}
theorem ent_of (hy : mKd y = kd ∧ mAr y = n ∧ mMx y = m) (hE : entA as ++ List.replicate (m - (entA as).length) none = E) : ent y as = E := by
  unfold ent
  rw [hy.2.2]
  exact hE
theorem zcall_0 (hy : mKd y = 0 ∧ mAr y = n ∧ mMx y = m) (hn : as.length = n) (hm : (entA as).length ≤ m) (hc : cats st0 ≤ 8) : zcall 0 y (as.reverse ++ st0) σ = some (.inr (.inr (y, as, st0))) := by
  obtain ⟨h1, h2, h3⟩ := hy
  have hl : as.reverse.length = mAr y := by rw [List.length_reverse, hn, h2]
  unfold zcall
  rw [if_pos]
  · rw [if_pos rfl, Nat.add_zero, List.take_left' hl, List.drop_left' hl, List.reverse_reverse]
    rfl
  · rw [if_pos rfl, Nat.add_zero, List.take_left' hl, List.drop_left' hl, List.reverse_reverse]
    exact ⟨h1, by rw [List.length_append, hl]; omega, hc, by rw [h3]; exact hm⟩
theorem zcall_1 {v : Value} (hy : mKd y = 1 ∧ mAr y = n ∧ mMx y = m) (hn : as.length = n) (hm : (entA (v :: as)).length ≤ m) (hc : cats st0 ≤ 8) (hr : rcv σ y v = true) : zcall 1 y (as.reverse ++ v :: st0) σ = some (.inr (.inr (y, v :: as, st0))) := by
  obtain ⟨h1, h2, h3⟩ := hy
  have hl : (as.reverse ++ [v]).length = mAr y + 1 := by rw [List.length_append, List.length_reverse, hn, h2]; rfl
  have e : as.reverse ++ v :: st0 = (as.reverse ++ [v]) ++ st0 := by simp
  have er : (as.reverse ++ [v]).reverse = v :: as := by simp
  unfold zcall
  rw [e, if_neg (by omega : ¬ (1 = 0)), List.take_left' hl, List.drop_left' hl, er, if_pos]
  · simp only [if_true]
    rw [if_pos hr]
  · exact ⟨h1, by rw [List.length_append, hl]; omega, hc, by rw [h3]; exact hm⟩
theorem zcall_2 {a : Nat} (hy : mKd y = 2 ∧ mAr y = n ∧ mMx y = m) (hn : as.length = n) (hm : (entA (.ref a :: as)).length ≤ m) (hc : cats st0 ≤ 8) (hr : (zh σ a).1 ≠ 0) : zcall 2 y (as.reverse ++ .ref a :: st0) σ = some (.inr (.inr (y, .ref a :: as, st0))) := by
  obtain ⟨h1, h2, h3⟩ := hy
  have hl : (as.reverse ++ [Value.ref a]).length = mAr y + 1 := by rw [List.length_append, List.length_reverse, hn, h2]; rfl
  have e : as.reverse ++ .ref a :: st0 = (as.reverse ++ [Value.ref a]) ++ st0 := by simp
  have er : (as.reverse ++ [Value.ref a]).reverse = .ref a :: as := by simp
  have h21 : ¬ (2 = 1) := by omega
  have h23 : ¬ (2 = 3) := by omega
  unfold zcall
  rw [e, if_neg (by omega : ¬ (2 = 0)), List.take_left' hl, List.drop_left' hl, er, if_pos]
  · simp only [h21, h23, if_false]
    rw [if_pos hr]
  · exact ⟨h1, by rw [List.length_append, hl]; omega, hc, by rw [h3]; exact hm⟩
theorem zcall_3 {a : Nat} (hy : mKd y = 3 ∧ mAr y = n ∧ mMx y = m) (hn : as.length = n) (hm : (entA (.ref a :: as)).length ≤ m) (hc : cats st0 ≤ 8) (hr : zh σ a = (10, 0)) : zcall 3 y (as.reverse ++ .ref a :: st0) σ = some (.inr (.inr (y, .ref a :: as, st0))) := by
  obtain ⟨h1, h2, h3⟩ := hy
  have hl : (as.reverse ++ [Value.ref a]).length = mAr y + 1 := by rw [List.length_append, List.length_reverse, hn, h2]; rfl
  have e : as.reverse ++ .ref a :: st0 = (as.reverse ++ [Value.ref a]) ++ st0 := by simp
  have er : (as.reverse ++ [Value.ref a]).reverse = .ref a :: as := by simp
  have h21 : ¬ (3 = 1) := by omega
  unfold zcall
  rw [e, if_neg (by omega : ¬ (3 = 0)), List.take_left' hl, List.drop_left' hl, er, if_pos]
  · simp only [h21, if_false, if_true]
    rw [if_pos hr]
  · exact ⟨h1, by rw [List.length_append, hl]; omega, hc, by rw [h3]; exact hm⟩
theorem wp_up {a u : Nat} {i : Instr} (hd : DC mi pc i) (hi : (i = .invokevirtual idx ∧ lkq own idx = some (21, y, u)) ∨ (i = .invokespecial idx ∧ lkq own idx = some (22, y, u))) (ho : mOw mi = own) (hy : mKd y = 3 ∧ mAr y = n ∧ mMx y = m) (hn : as.length = n) (hE : entA (.ref a :: as) ++ List.replicate (m - (entA (.ref a :: as)).length) none = E) (hm : (entA (.ref a :: as)).length ≤ m) (hr : pc + 3 = rp) (hc : cats st0 ≤ 8) (hz : zh σ a = (10, 0)) :
    Wp (d + 1) mi pc lo (as.reverse ++ .ref a :: st0) σ Q = Wp d y 0 E [] σ (kn (d + 1) mi pc rp lo st0 Q) := by
  subst ho
  rw [Wp.call hr (show stp mi pc lo (as.reverse ++ .ref a :: st0) σ = some (.inr (.inr (y, .ref a :: as, st0))) by
    rw [stp_of hd]
    rcases hi with ⟨rfl, hl⟩ | ⟨rfl, hl⟩
    · simp only [zins, hl]; exact zcall_3 hy hn hm hc hz
    · simp only [zins, hl]; exact zcall_3 hy hn hm hc hz), ent_of hy hE]
theorem wp_static (hd : DC mi pc (.invokestatic idx)) (ho : mOw mi = own) (hl : lkq own idx = some (1, y, b)) (hy : mKd y = 0 ∧ mAr y = n ∧ mMx y = m) (hn : as.length = n) (hE : entA as ++ List.replicate (m - (entA as).length) none = E) (hm : (entA as).length ≤ m) (hr : pc + 3 = rp) (hc : cats st0 ≤ 8) :
    Wp (d + 1) mi pc lo (as.reverse ++ st0) σ Q = Wp d y 0 E [] σ (kn (d + 1) mi pc rp lo st0 Q) := by
  subst ho
  rw [Wp.call hr (show stp mi pc lo (as.reverse ++ st0) σ = some (.inr (.inr (y, as, st0))) by rw [stp_of hd]; simp only [zins, hl]; exact zcall_0 hy hn hm hc), ent_of hy hE]
theorem wp_virt {a : Nat} (hd : DC mi pc (.invokevirtual idx)) (ho : mOw mi = own) (hl : lkq own idx = some (1, y, b)) (hy : mKd y = 1 ∧ mAr y = n ∧ mMx y = m) (hn : as.length = n) (hE : entA (.ref a :: as) ++ List.replicate (m - (entA (.ref a :: as)).length) none = E) (hm : (entA (.ref a :: as)).length ≤ m) (hr : pc + 3 = rp) {o : Nat} (hoy : mOw y = o) (h10 : o < 10) (hc : cats st0 ≤ 8) (hz : zh σ a = (o + 1, 0)) :
    Wp (d + 1) mi pc lo (as.reverse ++ .ref a :: st0) σ Q = Wp d y 0 E [] σ (kn (d + 1) mi pc rp lo st0 Q) := by
  subst ho; subst hoy
  rw [Wp.call hr (show stp mi pc lo (as.reverse ++ .ref a :: st0) σ = some (.inr (.inr (y, .ref a :: as, st0))) by
    rw [stp_of hd]; simp only [zins, hl]; exact zcall_1 hy hn hm hc (by unfold rcv; dsimp only; rw [if_pos h10]; exact decide_eq_true hz)), ent_of hy hE]
theorem wp_virtS {a : Nat} (hd : DC mi pc (.invokevirtual idx)) (ho : mOw mi = own) (hl : lkq own idx = some (1, y, b)) (hy : mKd y = 1 ∧ mAr y = n ∧ mMx y = m) (hn : as.length = n) (hE : entA (.ref a :: as) ++ List.replicate (m - (entA (.ref a :: as)).length) none = E) (hm : (entA (.ref a :: as)).length ≤ m) (hr : pc + 3 = rp) (hoy : mOw y = 10) (hc : cats st0 ≤ 8) (hz : zh σ a = (22, 0) ∨ (zh σ a).1 = 20) :
    Wp (d + 1) mi pc lo (as.reverse ++ .ref a :: st0) σ Q = Wp d y 0 E [] σ (kn (d + 1) mi pc rp lo st0 Q) := by
  subst ho
  rw [Wp.call hr (show stp mi pc lo (as.reverse ++ .ref a :: st0) σ = some (.inr (.inr (y, .ref a :: as, st0))) by
    rw [stp_of hd]; simp only [zins, hl]; exact zcall_1 hy hn hm hc (by unfold rcv; dsimp only; rw [hoy, if_neg (by omega)]; exact decide_eq_true ⟨rfl, hz⟩)), ent_of hy hE]
theorem wp_virtQ {q : Nat} (hd : DC mi pc (.invokevirtual idx)) (ho : mOw mi = own) (hl : lkq own idx = some (1, y, b)) (hy : mKd y = 1 ∧ mAr y = n ∧ mMx y = m) (hn : as.length = n) (hE : entA (.retAddr q :: as) ++ List.replicate (m - (entA (.retAddr q :: as)).length) none = E) (hm : (entA (.retAddr q :: as)).length ≤ m) (hr : pc + 3 = rp) (hoy : mOw y = 10) (hc : cats st0 ≤ 8) (hq : 1 ≤ q ∧ q ≤ 9) :
    Wp (d + 1) mi pc lo (as.reverse ++ .retAddr q :: st0) σ Q = Wp d y 0 E [] σ (kn (d + 1) mi pc rp lo st0 Q) := by
  subst ho
  rw [Wp.call hr (show stp mi pc lo (as.reverse ++ .retAddr q :: st0) σ = some (.inr (.inr (y, .retAddr q :: as, st0))) by
    rw [stp_of hd]; simp only [zins, hl]; exact zcall_1 hy hn hm hc (by unfold rcv; dsimp only; exact decide_eq_true ⟨hoy, hq.1, hq.2⟩)), ent_of hy hE]
theorem wp_spec {a k : Nat} (hd : DC mi pc (.invokespecial idx)) (ho : mOw mi = own) (hl : lkq own idx = some (k, y, b)) (hk : k = 1 ∨ k = 2) (hy : mKd y = 2 ∧ mAr y = n ∧ mMx y = m) (hn : as.length = n) (hE : entA (.ref a :: as) ++ List.replicate (m - (entA (.ref a :: as)).length) none = E) (hm : (entA (.ref a :: as)).length ≤ m) (hr : pc + 3 = rp) (hc : cats st0 ≤ 8) (hz : (zh σ a).1 ≠ 0) :
    Wp (d + 1) mi pc lo (as.reverse ++ .ref a :: st0) σ Q = Wp d y 0 E [] σ (kn (d + 1) mi pc rp lo st0 Q) := by
  subst ho
  rw [Wp.call hr (show stp mi pc lo (as.reverse ++ .ref a :: st0) σ = some (.inr (.inr (y, .ref a :: as, st0))) by
    rw [stp_of hd]
    rcases hk with rfl | rfl
    · simp only [zins, hl]; exact zcall_2 hy hn hm hc hz
    · simp only [zins, hl]; exact zcall_2 hy hn hm hc hz), ent_of hy hE]
theorem wp_objI {a u v : Nat} (hd : DC mi pc (.invokespecial idx)) (ho : mOw mi = own) (hl : lkq own idx = some (3, u, v)) (hc : cats st0 ≤ 8) (hz : (zh σ a).1 ≠ 0) : Wp d mi pc lo (.ref a :: st0) σ Q = Wp d mi (pc + 3) lo st0 σ Q := by
  subst ho
  exact wp_any hd (by simp only [zins, hl]; rw [if_pos ⟨hz, hc⟩]; rfl)
theorem wp_math {k u v : Nat} {w : Value} {st1 : List Value} (hd : DC mi pc (.invokestatic idx)) (ho : mOw mi = own) (hl : lkq own idx = some (k, u, v)) (hz : zins mi pc lo st1 σ (.invokestatic idx) = nx (pc + 3) lo (w :: st0) σ) : Wp d mi pc lo st1 σ Q = Wp d mi (pc + 3) lo (w :: st0) σ Q :=
  wp_any hd hz
theorem wp_min {x y1 : Int32} {u v : Nat} (hd : DC mi pc (.invokestatic idx)) (ho : mOw mi = own) (hl : lkq own idx = some (12, u, v)) (hc : cats st0 ≤ 8) : Wp d mi pc lo (.int y1 :: .int x :: st0) σ Q = Wp d mi (pc + 3) lo (.int (if y1 < x then y1 else x) :: st0) σ Q := by
  subst ho
  exact wp_any hd (by simp only [zins, hl]; rw [if_pos hc]; rfl)
theorem wp_max {x y1 : Int32} {u v : Nat} (hd : DC mi pc (.invokestatic idx)) (ho : mOw mi = own) (hl : lkq own idx = some (13, u, v)) (hc : cats st0 ≤ 8) : Wp d mi pc lo (.int y1 :: .int x :: st0) σ Q = Wp d mi (pc + 3) lo (.int (if x < y1 then y1 else x) :: st0) σ Q := by
  subst ho
  exact wp_any hd (by simp only [zins, hl]; rw [if_pos hc]; rfl)
theorem wp_acpy {u v s d1 : Nat} {sp dp n1 z : Int32} (hz0 : z = 0) (hd : DC mi pc (.invokestatic idx)) (ho : mOw mi = own) (hl : lkq own idx = some (11, u, v)) (h1 : (zh σ s).1 = 11 ∧ (zh σ d1).1 = 11) (h2 : z ≤ n1 ∧ z ≤ sp ∧ z ≤ dp) (h3 : sp.toNatClampNeg + n1.toNatClampNeg ≤ (zh σ s).2) (h4 : dp.toNatClampNeg + n1.toNatClampNeg ≤ (zh σ d1).2) (h5 : s ≠ d1) (hc : cats st0 ≤ 8) :
    Wp d mi pc lo (.int n1 :: .int dp :: .ref d1 :: .int sp :: .ref s :: st0) σ Q = Wp d mi (pc + 3) lo st0 (zCpy σ s d1 sp.toNatClampNeg dp.toNatClampNeg n1.toNatClampNeg) Q := by
  subst ho; subst hz0
  exact wp_any hd (by simp only [zins, hl]; rw [if_pos ⟨Or.inl h1, h2.1, h2.2.1, h2.2.2, h3, h4, h5, hc⟩]; rfl)
theorem wp_acpyB {u v s d1 : Nat} {sp dp n1 z : Int32} (hz0 : z = 0) (hd : DC mi pc (.invokestatic idx)) (ho : mOw mi = own) (hl : lkq own idx = some (11, u, v)) (h1 : (zh σ s).1 = 13 ∧ (zh σ d1).1 = 13) (hb : bts (zI σ s) sp.toNatClampNeg n1.toNatClampNeg = true) (h2 : z ≤ n1 ∧ z ≤ sp ∧ z ≤ dp) (h3 : sp.toNatClampNeg + n1.toNatClampNeg ≤ (zh σ s).2) (h4 : dp.toNatClampNeg + n1.toNatClampNeg ≤ (zh σ d1).2) (h5 : s ≠ d1) (hc : cats st0 ≤ 8) :
    Wp d mi pc lo (.int n1 :: .int dp :: .ref d1 :: .int sp :: .ref s :: st0) σ Q = Wp d mi (pc + 3) lo st0 (zCpy σ s d1 sp.toNatClampNeg dp.toNatClampNeg n1.toNatClampNeg) Q := by
  subst ho; subst hz0
  exact wp_any hd (by simp only [zins, hl]; rw [if_pos ⟨Or.inr ⟨h1.1, h1.2, hb⟩, h2.1, h2.2.1, h2.2.2, h3, h4, h5, hc⟩]; rfl)
theorem wp_acpyQ {u v q d1 : Nat} {sp dp n1 z : Int32} (hz0 : z = 0) (hd : DC mi pc (.invokestatic idx)) (ho : mOw mi = own) (hl : lkq own idx = some (11, u, v)) (hq : 10 ≤ q ∧ q ≤ 18) (h1 : (zh σ d1).1 = 13) (hb : bts (kfn (q - 1)) sp.toNatClampNeg n1.toNatClampNeg = true) (h2 : z ≤ n1 ∧ z ≤ sp ∧ z ≤ dp) (h3 : sp.toNatClampNeg + n1.toNatClampNeg ≤ kle (q - 1)) (h4 : dp.toNatClampNeg + n1.toNatClampNeg ≤ (zh σ d1).2) (hc : cats st0 ≤ 8) :
    Wp d mi pc lo (.int n1 :: .int dp :: .ref d1 :: .int sp :: .retAddr q :: st0) σ Q = Wp d mi (pc + 3) lo st0 (zCpk σ (kfn (q - 1)) d1 sp.toNatClampNeg dp.toNatClampNeg n1.toNatClampNeg) Q := by
  subst ho; subst hz0
  exact wp_any hd (by simp only [zins, hl]; rw [if_pos ⟨hq.1, hq.2, h1, hb, h2.1, h2.2.1, h2.2.2, h3, h4, hc⟩]; rfl)
end calls
/-! returns -/
theorem wp_iret {x : Int32} (hd : DC mi pc .ireturn) (hr : mRt mi = some .int) : Wp d mi pc lo [.int x] σ Q = Q (.inl (some (.int x))) σ :=
  wp_ret hd (by simp only [zins]; rw [hr]; dsimp only; rw [if_pos (Or.inl ⟨rfl, rfl⟩)])
theorem wp_zret {x : Int32} (hd : DC mi pc .ireturn) (hr : mRt mi = some .boolean) (hx : narrow .boolean (.int x) = .int x) : Wp d mi pc lo [.int x] σ Q = Q (.inl (some (.int x))) σ :=
  wp_ret hd (by simp only [zins]; rw [hr]; dsimp only; rw [if_pos (Or.inl ⟨hx, rfl⟩)])
theorem wp_bret {x : Int32} {ty : FieldType} (hd : DC mi pc .ireturn) (hr : mRt mi = some ty) (ht : ty = .byte ∨ ty = .char) (hx : narrow ty (.int x) = .int x) : Wp d mi pc lo [.int x] σ Q = Q (.inl (some (.int x))) σ :=
  wp_ret hd (by simp only [zins]; rw [hr]; dsimp only; rw [if_pos (Or.inr ⟨hx, ht⟩)])
theorem wp_lret {x : Int64} (hd : DC mi pc .lreturn) (hr : mRt mi = some .long) : Wp d mi pc lo [.long x] σ Q = Q (.inl (some (.long x))) σ :=
  wp_ret hd (by simp only [zins]; rw [hr])
theorem wp_aret {a : Nat} {nm : String} (hd : DC mi pc .areturn) (hr : mRt mi = some (.object nm)) : Wp d mi pc lo [.ref a] σ Q = Q (.inl (some (.ref a))) σ :=
  wp_ret hd (by simp only [zins]; rw [hr])
theorem wp_areta {a : Nat} {t : FieldType} (hd : DC mi pc .areturn) (hr : mRt mi = some (.array t)) : Wp d mi pc lo [.ref a] σ Q = Q (.inl (some (.ref a))) σ :=
  wp_ret hd (by simp only [zins]; rw [hr])
theorem wp_anret {nm : String} (hd : DC mi pc .areturn) (hr : mRt mi = some (.object nm)) : Wp d mi pc lo [.null] σ Q = Q (.inl (some .null)) σ :=
  wp_ret hd (by simp only [zins]; rw [hr])
theorem wp_vret (hd : DC mi pc .return_) (hr : mRt mi = none) : Wp d mi pc lo [] σ Q = Q (.inl none) σ :=
  wp_ret hd (by simp only [zins]; rw [hr])
/-! arithmetic with a guard -/
theorem wp_idiv {x y z : Int32} (hz0 : z = 0) (hd : DC mi pc .idiv) (hy : y ≠ z) : Wp d mi pc lo (.int y :: .int x :: st) σ Q = Wp d mi (pc + 1) lo (.int (x / y) :: st) σ Q :=
  wp_any hd (by subst hz0; simp only [zins]; rw [if_neg hy]; rfl)
theorem wp_irem {x y z : Int32} (hz0 : z = 0) (hd : DC mi pc .irem) (hy : y ≠ z) : Wp d mi pc lo (.int y :: .int x :: st) σ Q = Wp d mi (pc + 1) lo (.int (x - x / y * y) :: st) σ Q :=
  wp_any hd (by subst hz0; simp only [zins]; rw [if_neg hy]; rfl)
theorem wp_dup {v : Value} (hd : DC mi pc .dup) (hv : v.category = 1) : Wp d mi pc lo (v :: st) σ Q = Wp d mi (pc + 1) lo (v :: v :: st) σ Q :=
  wp_any hd (by simp only [zins]; rw [if_pos hv]; rfl)
theorem wp_dup2 {v w : Value} (hd : DC mi pc .dup2) (hv : v.category = 1 ∧ w.category = 1) : Wp d mi pc lo (v :: w :: st) σ Q = Wp d mi (pc + 1) lo (v :: w :: v :: w :: st) σ Q :=
  wp_any hd (by simp only [zins]; rw [if_pos hv]; rfl)
theorem wp_dup_x1 {v w : Value} (hd : DC mi pc .dup_x1) (hv : v.category = 1 ∧ w.category = 1) : Wp d mi pc lo (v :: w :: st) σ Q = Wp d mi (pc + 1) lo (v :: w :: v :: st) σ Q :=
  wp_any hd (by simp only [zins]; rw [if_pos hv]; rfl)
theorem wp_pop {v : Value} (hd : DC mi pc .pop) (hv : v.category = 1) : Wp d mi pc lo (v :: st) σ Q = Wp d mi (pc + 1) lo st σ Q :=
  wp_any hd (by simp only [zins]; rw [if_pos hv]; rfl)
end S16
theorem kill_i {x : Int32} : kill (some (.int x)) = some (.int x) := nr rfl
theorem kill_r {a : Nat} : kill (some (.ref a)) = some (.ref a) := nr rfl
theorem kill_0 : kill (some .null) = some .null := nr rfl
theorem kill_n : kill none = none := nr rfl
theorem kill_l {x : Int64} : kill (some (.long x)) = none := nr rfl
theorem kill_q {x : Nat} : kill (some (.retAddr x)) = some (.retAddr x) := nr rfl
theorem zzk_r {a : Nat} : zk (.ref a) = 4 := nr rfl
theorem zzk_0 : zk .null = 4 := nr rfl
theorem zzk_q {x : Nat} : zk (.retAddr x) = 4 := nr rfl
theorem zcat_r {a : Nat} : Value.category (.ref a) = 1 := nr rfl
theorem zcat_i {x : Int32} : Value.category (.int x) = 1 := nr rfl
theorem zcat_0 : Value.category .null = 1 := nr rfl
theorem zcat_q {x : Nat} : Value.category (.retAddr x) = 1 := nr rfl
theorem cats_q {x : Nat} {st : List Value} : cats (.retAddr x :: st) = 1 + cats st := nr rfl
theorem cats_n {st : List Value} : cats (.null :: st) = 1 + cats st := nr rfl
theorem cats_0 : cats [] = 0 := nr rfl
theorem cats_i {x : Int32} {st : List Value} : cats (.int x :: st) = 1 + cats st := nr rfl
theorem cats_r {x : Nat} {st : List Value} : cats (.ref x :: st) = 1 + cats st := nr rfl
theorem cats_l {x : Int64} {st : List Value} : cats (.long x :: st) = 2 + cats st := nr rfl
theorem cats_d {x : UInt64} {st : List Value} : cats (.double x :: st) = 2 + cats st := nr rfl
theorem cats_f {x : UInt32} {st : List Value} : cats (.float x :: st) = 1 + cats st := nr rfl
theorem rv_s {k : Nat} : rv (k + 1) = .ref k := nr rfl
theorem rv_0 : rv 0 = .null := nr rfl
theorem okv_int {x : Int32} : okv .int (.int x) = true := by
  unfold okv
  rw [show narrow .int (.int x) = .int x from rfl]
  simp [fits]
theorem okv_long {x : Int64} : okv .long (.long x) = true := by
  unfold okv
  rw [show narrow .long (.long x) = .long x from rfl]
  simp [fits]
theorem okv_obj {nm : String} {x : Nat} : okv (.object nm) (.ref x) = true := by
  unfold okv
  rw [show narrow (.object nm) (.ref x) = .ref x from rfl]
  simp [fits]
theorem okv_arr {t : FieldType} {x : Nat} : okv (.array t) (.ref x) = true := by
  unfold okv
  rw [show narrow (.array t) (.ref x) = .ref x from rfl]
  simp [fits]
theorem o0 : Int32.ofInt 0 = 0 := by decide +kernel
theorem o1 : Int32.ofInt 1 = 1 := by decide +kernel
