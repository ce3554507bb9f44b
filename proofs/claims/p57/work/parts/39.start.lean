/-! THE START: the world at the law's entry, out of the Statement's premises -/
def strT (i : Nat) : Term := match i with
  | 0 => .string "LineBalls$Parser" 65
  | 1 => .string "LineBalls$Parser" 74
  | 2 => .string "LineBalls$Parser" 44
  | 3 => .string "LineBalls$Parser" 53
  | 4 => .string "LineBalls$Parser" 102
  | 5 => .string "LineBalls$Parser" 104
  | _ => .string "LineBalls$Parser" 109
def ltrT (i : Nat) : Term := match i with
  | 0 => .string "LineBallsLaw" 46
  | 1 => .string "LineBallsLaw" 54
  | 2 => .string "LineBallsLaw" 59
  | 3 => .string "LineBallsLaw" 61
  | 4 => .string "LineBallsLaw" 63
  | 5 => .string "LineBallsLaw" 65
  | 6 => .string "LineBallsLaw" 73
  | 7 => .string "LineBallsLaw" 75
  | _ => .string "LineBallsLaw" 77
def GVN : List Cond := flatC (Jvm.Cond.and given_1 narrow_1)
set_option maxRecDepth 100000 in
theorem gv_ex : ∀ i, i < 7 → Cond.exactly (strT i) "java/lang/String" ∈ GVN ∧ Cond.eq (.field (strT i) "java/lang/String" "coder" "B") (.int 0) ∈ GVN ∧ Cond.arrayOf (.field (strT i) "java/lang/String" "value" "[B") .byte ∈ GVN ∧ Cond.eq (.length (.field (strT i) "java/lang/String" "value" "[B")) (.int (Int32.ofNat (sln.getD i 0))) ∈ GVN := by decide +kernel
set_option maxRecDepth 100000 in
theorem gv_el : ∀ i, i < 7 → ∀ j, j < sln.getD i 0 → Cond.eq (.elem (.field (strT i) "java/lang/String" "value" "[B") (.int (Int32.ofNat j))) (.int ((sby.getD i []).getD j 0)) ∈ GVN := by decide +kernel
set_option maxRecDepth 100000 in
theorem gv_ne : ∀ i, i < 7 → ∀ j, j < 7 → i ≠ j → Cond.not (Cond.eq (strT i) (strT j)) ∈ GVN ∨ Cond.not (Cond.eq (strT j) (strT i)) ∈ GVN := by decide +kernel
set_option maxRecDepth 100000 in
theorem gl_ex : ∀ i, i < 9 → Cond.exactly (ltrT i) "java/lang/String" ∈ GVN ∧ Cond.eq (.field (ltrT i) "java/lang/String" "coder" "B") (.int 0) ∈ GVN ∧ Cond.arrayOf (.field (ltrT i) "java/lang/String" "value" "[B") .byte ∈ GVN ∧ Cond.eq (.length (.field (ltrT i) "java/lang/String" "value" "[B")) (.int (Int32.ofNat (kln.getD i 0))) ∈ GVN := by decide +kernel
set_option maxRecDepth 100000 in
theorem gl_el : ∀ i, i < 9 → ∀ j, j < kln.getD i 0 → Cond.eq (.elem (.field (ltrT i) "java/lang/String" "value" "[B") (.int (Int32.ofNat j))) (.int ((kby.getD i []).getD j 0)) ∈ GVN := by decide +kernel
set_option maxRecDepth 100000 in
theorem gl_ne : ∀ i, i < 9 → ∀ j, j < 9 → i ≠ j → Cond.not (Cond.eq (ltrT i) (ltrT j)) ∈ GVN ∨ Cond.not (Cond.eq (ltrT j) (ltrT i)) ∈ GVN := by decide +kernel
set_option maxRecDepth 100000 in
theorem gv_nc : ∀ q ∈ NCP, Cond.not (.castable q.1 q.2) ∈ GVN := by decide +kernel
set_option maxRecDepth 100000 in
theorem gv_st : Cond.eq (.static "java/lang/String" "COMPACT_STRINGS" "Z") (.int 1) ∈ GVN ∧ Cond.isRef (.static "jdk/internal/util/Preconditions" "SIOOBE_FORMATTER" "Ljava/util/function/BiFunction;") ∈ GVN ∧ Cond.isRef (.static Bundle.tN "UNASSIGNED_STACK" Bundle.steD) ∈ GVN ∧ Cond.isRef (.static Bundle.tN "SUPPRESSED_SENTINEL" Bundle.listD) ∈ GVN := by decide +kernel
def dgT (q : Nat) : Term := if q = 18 then .static "java/lang/Integer" "DigitOnes" "[B" else .static "java/lang/Integer" "DigitTens" "[B"
set_option maxRecDepth 100000 in
theorem gv_dg : ∀ q, q < 2 → Cond.arrayOf (dgT (18 + q)) .byte ∈ GVN ∧ Cond.eq (.length (dgT (18 + q))) (.int 100) ∈ GVN := by decide +kernel
def dgL (q : Nat) : List Cond := (List.range 100).map (fun j => Cond.eq (.elem (dgT q) (.int (Int32.ofNat j))) (.int (kdg q j)))
set_option maxRecDepth 100000 in
theorem gv_d0 : (GVN.drop 14).take 100 = dgL 18 := by rfl
set_option maxRecDepth 100000 in
theorem gv_d1 : (GVN.drop 117).take 100 = dgL 19 := by rfl
theorem gv_dd (q : Nat) (hq : q < 2) (j : Nat) (hj : j < 100) : Cond.eq (.elem (dgT (18 + q)) (.int (Int32.ofNat j))) (.int (kdg (18 + q) j)) ∈ GVN := by
  have h : Cond.eq (.elem (dgT (18 + q)) (.int (Int32.ofNat j))) (.int (kdg (18 + q) j)) ∈ dgL (18 + q) := List.mem_map.mpr ⟨j, List.mem_range.mpr hj, rfl⟩
  match q, hq, h with
  | 0, _, h => rw [← gv_d0] at h; exact List.mem_of_mem_drop (List.mem_of_mem_take h)
  | 1, _, h => rw [← gv_d1] at h; exact List.mem_of_mem_drop (List.mem_of_mem_take h)
def strW (e : Nat × Nat × String × Nat) : Cond := .stringRef (zC e.1) e.2.1 e.2.2.1
def lwC : List Cond := [.arrayClass .int, .arrayClass .byte, .arrayClass .boolean, .arrayOver (.object "LineBalls$Ball"), .arrayOver (.object "LineBalls$Barrier"), .arrayOver (.object "LineBalls$Line"),
  .laysStatic "java/lang/String" "COMPACT_STRINGS" "Z", .initialized "java/lang/String", .laysStatic "jdk/internal/util/Preconditions" "SIOOBE_FORMATTER" "Ljava/util/function/BiFunction;", .initialized "jdk/internal/util/Preconditions", .laysStatic Bundle.tN "UNASSIGNED_STACK" Bundle.steD, .laysStatic Bundle.tN "SUPPRESSED_SENTINEL" Bundle.listD, .initialized Bundle.tN, .laysStatic "java/lang/Integer" "DigitOnes" "[B", .laysStatic "java/lang/Integer" "DigitTens" "[B", .initialized "java/lang/Integer"]
set_option maxRecDepth 100000 in
theorem lw_C : ∀ w ∈ lwC, w ∈ lw_tbl := by decide +kernel
set_option maxRecDepth 100000 in
theorem lw_S : ∀ e ∈ strK ++ strL, strW e ∈ lw_tbl := by decide +kernel
set_option maxRecDepth 100000 in
theorem lw_NG : ∀ w ∈ NGW, w ∈ lw_tbl := by decide +kernel
set_option maxRecDepth 100000 in
theorem lw_I : ∀ k, k < 11 → Cond.instantiable (zC k) (zN k) ∈ lw_tbl := by decide +kernel
theorem xsel_of {y z : MethodName} {C : String} {s : State} {args : Array Value} {n : Nat} (hy : y.cls ≠ "java/lang/invoke/MethodHandle" ∧ y.cls ≠ "java/lang/invoke/VarHandle") (hz : z.cls = y.cls) (hins : (Cond.instantiable C n).before args s = true) (hpriv : (Cond.privateMethod y).before args s = true) (hinst : (Cond.instanceMethod y).before args s = true) (hsel : (Cond.selects C z z).before args s = true) : (Cond.selects C y y).before args s = true := by
  obtain ⟨c, k, hc, hk, -, -, -, -⟩ := Cond.instantiable_spec hins
  obtain ⟨mk, methM, hnamed, hmethM, -, -⟩ := Cond.instanceMethod_spec hinst
  have hfound : s.methodFound? y.cls y.name y.desc = some mk := State.methodFound?_of_named hnamed hy
  have hsl : selectMethod {} s.vm c mk = .method mk := selectMethod_private hmethM (Cond.privateMethod_at hpriv mk methM hnamed hmethM)
  obtain ⟨c2, r2, m2, q1, q2, q3, q4, kP, hkP, hkPi⟩ := Cond.selects_spec hsel
  have e1 : m2.cls = mk.cls := by
    have h1 := findClass_of_methodNamed q3
    have h2 := findClass_of_methodNamed hnamed
    rw [hz, h2] at h1
    exact (Option.some.inj h1).symm
  rw [e1] at hkP
  simp only [Cond.before, Cond.holds, Cond.value, hc, hfound, hnamed, hsl, hkP]
  simp [hkPi]
set_option maxRecDepth 100000 in
theorem px_in : ∀ y ∈ pxN, Cond.privateMethod y ∈ tables_1 ∧ Cond.instanceMethod y ∈ tables_1 ∧ y.cls = "java/lang/AbstractStringBuilder" := by decide +kernel
set_option maxRecDepth 100000 in
theorem px_s : Cond.instantiable "java/lang/StringBuilder" 4 ∈ tables_1 ∧ Cond.selects "java/lang/StringBuilder" ⟨"java/lang/AbstractStringBuilder", "getValue", "()[B"⟩ ⟨"java/lang/AbstractStringBuilder", "getValue", "()[B"⟩ ∈ tables_1 := by decide +kernel
theorem hts2 {s : State} {A : Array Value} (h : ∀ w ∈ lw_tbl, w.before A s = true) : ∀ w ∈ lw_tb2, w.before A s = true := by
  have ht : ∀ w ∈ tables_1, w.before A s = true := fun w hw => h w (List.mem_append_right _ hw)
  intro w hw
  rcases List.mem_append.mp hw with hw | hw
  · obtain ⟨y, hy, rfl⟩ := List.mem_map.mp hw
    obtain ⟨h1, h2, h3⟩ := px_in y hy
    exact xsel_of (by rw [h3]; decide) (z := ⟨"java/lang/AbstractStringBuilder", "getValue", "()[B"⟩) h3.symm (ht _ px_s.1) (ht _ h1) (ht _ h2) (ht _ px_s.2)
  · exact h w hw
