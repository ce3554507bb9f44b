/-! THE START: the world at the law's entry, out of the Statement's premises -/
def strT (i : Nat) : Term := match i with
  | 0 => .string "LineBalls$Parser" 65
  | 1 => .string "LineBalls$Parser" 74
  | 2 => .string "LineBalls$Parser" 44
  | 3 => .string "LineBalls$Parser" 53
  | 4 => .string "LineBalls$Parser" 102
  | 5 => .string "LineBalls$Parser" 104
  | _ => .string "LineBalls$Parser" 109
def strU (i : Nat) : Term := match i with
  | 0 => .string "LineBallsModel" 281
  | 1 => .string "LineBallsModel" 283
  | 2 => .string "LineBallsModel" 285
  | 3 => .string "LineBallsModel" 287
  | 4 => .string "LineBallsModel" 289
  | 5 => .string "LineBallsModel" 291
  | _ => .string "LineBallsModel" 293
def GVN : List Cond := flatC (Jvm.Cond.and given_1 narrow_1)
set_option maxRecDepth 100000 in
theorem gv_ex : ∀ i, i < 7 → Cond.exactly (strT i) "java/lang/String" ∈ GVN ∧ Cond.eq (.field (strT i) "java/lang/String" "coder" "B") (.int 0) ∈ GVN ∧ Cond.arrayOf (.field (strT i) "java/lang/String" "value" "[B") .byte ∈ GVN ∧ Cond.eq (.length (.field (strT i) "java/lang/String" "value" "[B")) (.int (Int32.ofNat (sln.getD i 0))) ∈ GVN ∧ Cond.eq (strT i) (strU i) ∈ GVN := by decide +kernel
set_option maxRecDepth 100000 in
theorem gv_el : ∀ i, i < 7 → ∀ j, j < sln.getD i 0 → Cond.eq (.elem (.field (strT i) "java/lang/String" "value" "[B") (.int (Int32.ofNat j))) (.int ((sby.getD i []).getD j 0)) ∈ GVN := by decide +kernel
set_option maxRecDepth 100000 in
theorem gv_ne : ∀ i, i < 7 → ∀ j, j < 7 → i ≠ j → Cond.not (Cond.eq (strT i) (strT j)) ∈ GVN ∨ Cond.not (Cond.eq (strT j) (strT i)) ∈ GVN := by decide +kernel
set_option maxRecDepth 100000 in
theorem gv_nc : ∀ q ∈ NCP, Cond.not (.castable q.1 q.2) ∈ GVN := by decide +kernel
set_option maxRecDepth 100000 in
theorem gv_st : Cond.eq (.static "java/lang/String" "COMPACT_STRINGS" "Z") (.int 1) ∈ GVN ∧ Cond.isRef (.static "jdk/internal/util/Preconditions" "SIOOBE_FORMATTER" "Ljava/util/function/BiFunction;") ∈ GVN ∧ Cond.isRef (.static Bundle.tN "UNASSIGNED_STACK" Bundle.steD) ∈ GVN ∧ Cond.isRef (.static Bundle.tN "SUPPRESSED_SENTINEL" Bundle.listD) ∈ GVN := by decide +kernel
def strW (e : Nat × Nat × String × Nat) : Cond := .stringRef (zC e.1) e.2.1 e.2.2.1
def lwC : List Cond := [.arrayClass .int, .arrayClass .long, .arrayClass .byte, .arrayClass .boolean, .arrayClass .double, .arrayOver (.object "LineBalls$Ball"), .arrayOver (.object "LineBalls$Barrier"), .arrayOver (.object "LineBalls$Line"),
  .laysStatic "java/lang/String" "COMPACT_STRINGS" "Z", .initialized "java/lang/String", .laysStatic "jdk/internal/util/Preconditions" "SIOOBE_FORMATTER" "Ljava/util/function/BiFunction;", .initialized "jdk/internal/util/Preconditions", .laysStatic Bundle.tN "UNASSIGNED_STACK" Bundle.steD, .laysStatic Bundle.tN "SUPPRESSED_SENTINEL" Bundle.listD, .initialized Bundle.tN]
set_option maxRecDepth 100000 in
theorem lw_C : ∀ w ∈ lwC, w ∈ lw_tbl := by decide +kernel
set_option maxRecDepth 100000 in
theorem lw_S : ∀ e ∈ strK, strW e ∈ lw_tbl := by decide +kernel
set_option maxRecDepth 100000 in
theorem lw_NG : ∀ w ∈ NGW, w ∈ lw_tbl := by decide +kernel
set_option maxRecDepth 100000 in
theorem lw_I : ∀ k, k < 10 → Cond.instantiable (zC k) (zN k) ∈ lw_tbl := by decide +kernel
