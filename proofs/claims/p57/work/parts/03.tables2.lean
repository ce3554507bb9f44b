/-! The static tables: classes by number, methods by number, links by (class, pool index). Made by wip/p57/gen/gen3.py. -/
def RX0 : String := "LineBalls$Ball"
def TX0 : u_T := fun k => match k with
  | 0 => ("LineBalls$Ball", "name", "I", false)
  | 1 => ("LineBalls$Ball", "cell", "I", false)
  | 2 => ("LineBalls$Ball", "speed", "I", false)
  | 3 => ("LineBalls$Ball", "weight", "I", false)
  | 4 => ("LineBalls$Ball", "saved", "I", false)
  | 5 => ("LineBalls$Ball", "went", "I", false)
  | 6 => ("LineBalls$Ball", "hits", "I", false)
  | 7 => ("LineBalls$Ball", "bounces", "I", false)
  | 8 => ("LineBalls$Ball", "waits", "I", false)
  | 9 => ("LineBalls$Ball", "dueSide", "I", false)
  | _ => ("LineBalls$Ball", "struck", "Z", false)
def tyX0 : Nat → FieldType := fun k => match k with
  | 0 => .int
  | 1 => .int
  | 2 => .int
  | 3 => .int
  | 4 => .int
  | 5 => .int
  | 6 => .int
  | 7 => .int
  | 8 => .int
  | 9 => .int
  | _ => .boolean
theorem nmX0 : ∀ a, a < 11 → ∀ b, b < 11 → a ≠ b → (TX0 a).2.1 ≠ (TX0 b).2.1 := by decide +kernel
theorem tyX0_ok : ∀ k, k < 11 → parseFieldDescriptor (TX0 k).2.2.1 = some (tyX0 k) := by decide +kernel
def RX1 : String := "LineBalls$Barrier"
def TX1 : u_T := fun k => match k with
  | 0 => ("LineBalls$Barrier", "cell", "I", false)
  | 1 => ("LineBalls$Barrier", "steals", "I", false)
  | _ => ("LineBalls$Barrier", "bounces", "I", false)
def tyX1 : Nat → FieldType := fun k => match k with
  | 0 => .int
  | 1 => .int
  | _ => .int
theorem nmX1 : ∀ a, a < 3 → ∀ b, b < 3 → a ≠ b → (TX1 a).2.1 ≠ (TX1 b).2.1 := by decide +kernel
theorem tyX1_ok : ∀ k, k < 3 → parseFieldDescriptor (TX1 k).2.2.1 = some (tyX1 k) := by decide +kernel
def RX2 : String := "LineBalls$Book"
def TX2 : u_T := fun k => match k with
  | 0 => ("LineBalls$Book", "pairs", "[I", true)
  | 1 => ("LineBalls$Book", "got", "J", false)
  | 2 => ("LineBalls$Book", "traded", "J", false)
  | 3 => ("LineBalls$Book", "pushed", "J", false)
  | 4 => ("LineBalls$Book", "hits", "I", false)
  | 5 => ("LineBalls$Book", "bounces", "I", false)
  | 6 => ("LineBalls$Book", "waits", "I", false)
  | _ => ("LineBalls$Book", "went", "I", false)
def tyX2 : Nat → FieldType := fun k => match k with
  | 0 => .array .int
  | 1 => .long
  | 2 => .long
  | 3 => .long
  | 4 => .int
  | 5 => .int
  | 6 => .int
  | _ => .int
theorem nmX2 : ∀ a, a < 8 → ∀ b, b < 8 → a ≠ b → (TX2 a).2.1 ≠ (TX2 b).2.1 := by decide +kernel
theorem tyX2_ok : ∀ k, k < 8 → parseFieldDescriptor (TX2 k).2.2.1 = some (tyX2 k) := by decide +kernel
def RX3 : String := "LineBalls$History"
def TX3 : u_T := fun k => match k with
  | 0 => ("LineBalls$History", "past", "[LLineBalls$Line;", true)
  | 1 => ("LineBalls$History", "first", "I", false)
  | _ => ("LineBalls$History", "count", "I", false)
def tyX3 : Nat → FieldType := fun k => match k with
  | 0 => .array (.object "LineBalls$Line")
  | 1 => .int
  | _ => .int
theorem nmX3 : ∀ a, a < 3 → ∀ b, b < 3 → a ≠ b → (TX3 a).2.1 ≠ (TX3 b).2.1 := by decide +kernel
theorem tyX3_ok : ∀ k, k < 3 → parseFieldDescriptor (TX3 k).2.2.1 = some (tyX3 k) := by decide +kernel
def RX4 : String := "LineBalls$Line"
def TX4 : u_T := fun k => match k with
  | 0 => ("LineBalls$Line", "cells", "I", false)
  | 1 => ("LineBalls$Line", "time", "I", false)
  | 2 => ("LineBalls$Line", "balls", "[LLineBalls$Ball;", true)
  | 3 => ("LineBalls$Line", "ballCount", "I", false)
  | 4 => ("LineBalls$Line", "order", "[I", true)
  | 5 => ("LineBalls$Line", "posts", "[LLineBalls$Barrier;", true)
  | 6 => ("LineBalls$Line", "postCount", "I", false)
  | 7 => ("LineBalls$Line", "leftWall", "LLineBalls$Barrier;", true)
  | 8 => ("LineBalls$Line", "rightWall", "LLineBalls$Barrier;", true)
  | 9 => ("LineBalls$Line", "log", "LLineBalls$Log;", true)
  | _ => ("LineBalls$Line", "book", "LLineBalls$Book;", true)
def tyX4 : Nat → FieldType := fun k => match k with
  | 0 => .int
  | 1 => .int
  | 2 => .array (.object "LineBalls$Ball")
  | 3 => .int
  | 4 => .array .int
  | 5 => .array (.object "LineBalls$Barrier")
  | 6 => .int
  | 7 => .object "LineBalls$Barrier"
  | 8 => .object "LineBalls$Barrier"
  | 9 => .object "LineBalls$Log"
  | _ => .object "LineBalls$Book"
theorem nmX4 : ∀ a, a < 11 → ∀ b, b < 11 → a ≠ b → (TX4 a).2.1 ≠ (TX4 b).2.1 := by decide +kernel
theorem tyX4_ok : ∀ k, k < 11 → parseFieldDescriptor (TX4 k).2.2.1 = some (tyX4 k) := by decide +kernel
def RX5 : String := "LineBalls$Log"
def TX5 : u_T := fun k => match k with
  | 0 => ("LineBalls$Log", "times", "[I", true)
  | 1 => ("LineBalls$Log", "movers", "[I", true)
  | 2 => ("LineBalls$Log", "others", "[I", true)
  | 3 => ("LineBalls$Log", "amounts", "[I", true)
  | 4 => ("LineBalls$Log", "next", "I", false)
  | _ => ("LineBalls$Log", "size", "I", false)
def tyX5 : Nat → FieldType := fun k => match k with
  | 0 => .array .int
  | 1 => .array .int
  | 2 => .array .int
  | 3 => .array .int
  | 4 => .int
  | _ => .int
theorem nmX5 : ∀ a, a < 6 → ∀ b, b < 6 → a ≠ b → (TX5 a).2.1 ≠ (TX5 b).2.1 := by decide +kernel
theorem tyX5_ok : ∀ k, k < 6 → parseFieldDescriptor (TX5 k).2.2.1 = some (tyX5 k) := by decide +kernel
def RX6 : String := "LineBalls$Output"
def TX6 : u_T := fun k => match k with
  | 0 => ("LineBalls$Output", "bytes", "[B", true)
  | _ => ("LineBalls$Output", "length", "I", false)
def tyX6 : Nat → FieldType := fun k => match k with
  | 0 => .array .byte
  | _ => .int
theorem nmX6 : ∀ a, a < 2 → ∀ b, b < 2 → a ≠ b → (TX6 a).2.1 ≠ (TX6 b).2.1 := by decide +kernel
theorem tyX6_ok : ∀ k, k < 2 → parseFieldDescriptor (TX6 k).2.2.1 = some (tyX6 k) := by decide +kernel
def RX7 : String := "LineBalls$Parser"
def TX7 : u_T := fun k => match k with
  | 0 => ("LineBalls$Parser", "text", "[B", true)
  | 1 => ("LineBalls$Parser", "line", "LLineBalls$Line;", true)
  | 2 => ("LineBalls$Parser", "length", "I", false)
  | 3 => ("LineBalls$Parser", "kind", "I", false)
  | 4 => ("LineBalls$Parser", "start", "I", false)
  | 5 => ("LineBalls$Parser", "end", "I", false)
  | _ => ("LineBalls$Parser", "error", "I", false)
def tyX7 : Nat → FieldType := fun k => match k with
  | 0 => .array .byte
  | 1 => .object "LineBalls$Line"
  | 2 => .int
  | 3 => .int
  | 4 => .int
  | 5 => .int
  | _ => .int
theorem nmX7 : ∀ a, a < 7 → ∀ b, b < 7 → a ≠ b → (TX7 a).2.1 ≠ (TX7 b).2.1 := by decide +kernel
theorem tyX7_ok : ∀ k, k < 7 → parseFieldDescriptor (TX7 k).2.2.1 = some (tyX7 k) := by decide +kernel
def RX8 : String := "LineBalls"
def TX8 : u_T := fun k => match k with
  | 0 => ("LineBalls", "input", "[B", true)
  | 1 => ("LineBalls", "inputLength", "I", false)
  | 2 => ("LineBalls", "output", "LLineBalls$Output;", true)
  | 3 => ("LineBalls", "errorCode", "I", false)
  | 4 => ("LineBalls", "errorPosition", "I", false)
  | 5 => ("LineBalls", "now", "LLineBalls$Line;", true)
  | 6 => ("LineBalls", "trial", "LLineBalls$Line;", true)
  | 7 => ("LineBalls", "parser", "LLineBalls$Parser;", true)
  | 8 => ("LineBalls", "history", "LLineBalls$History;", true)
  | 9 => ("LineBalls", "slots", "[LLineBalls$Line;", true)
  | _ => ("LineBalls", "kept", "[Z", true)
def tyX8 : Nat → FieldType := fun k => match k with
  | 0 => .array .byte
  | 1 => .int
  | 2 => .object "LineBalls$Output"
  | 3 => .int
  | 4 => .int
  | 5 => .object "LineBalls$Line"
  | 6 => .object "LineBalls$Line"
  | 7 => .object "LineBalls$Parser"
  | 8 => .object "LineBalls$History"
  | 9 => .array (.object "LineBalls$Line")
  | _ => .array .boolean
theorem nmX8 : ∀ a, a < 11 → ∀ b, b < 11 → a ≠ b → (TX8 a).2.1 ≠ (TX8 b).2.1 := by decide +kernel
theorem tyX8_ok : ∀ k, k < 11 → parseFieldDescriptor (TX8 k).2.2.1 = some (tyX8 k) := by decide +kernel
def RX9 : String := "java/lang/StringBuilder"
def TX9 : u_T := fun k => match k with
  | 0 => ("java/lang/AbstractStringBuilder", "value", "[B", false)
  | 1 => ("java/lang/AbstractStringBuilder", "coder", "B", false)
  | 2 => ("java/lang/AbstractStringBuilder", "maybeLatin1", "Z", false)
  | _ => ("java/lang/AbstractStringBuilder", "count", "I", false)
def tyX9 : Nat → FieldType := fun k => match k with
  | 0 => .array .byte
  | 1 => .byte
  | 2 => .boolean
  | _ => .int
theorem nmX9 : ∀ a, a < 4 → ∀ b, b < 4 → a ≠ b → (TX9 a).2.1 ≠ (TX9 b).2.1 := by decide +kernel
theorem tyX9_ok : ∀ k, k < 4 → parseFieldDescriptor (TX9 k).2.2.1 = some (tyX9 k) := by decide +kernel
def RX10 : String := "java/lang/String"
def TX10 : u_T := fun k => match k with
  | 0 => ("java/lang/String", "value", "[B", true)
  | 1 => ("java/lang/String", "coder", "B", true)
  | 2 => ("java/lang/String", "hash", "I", false)
  | _ => ("java/lang/String", "hashIsZero", "Z", false)
def tyX10 : Nat → FieldType := fun k => match k with
  | 0 => .array .byte
  | 1 => .byte
  | 2 => .int
  | _ => .boolean
theorem nmX10 : ∀ a, a < 4 → ∀ b, b < 4 → a ≠ b → (TX10 a).2.1 ≠ (TX10 b).2.1 := by decide +kernel
theorem tyX10_ok : ∀ k, k < 4 → parseFieldDescriptor (TX10 k).2.2.1 = some (tyX10 k) := by decide +kernel
abbrev vwCl : List vw_C := [(RX0, TX0, 11), (RX1, TX1, 3), (RX2, TX2, 8), (RX3, TX3, 3), (RX4, TX4, 11), (RX5, TX5, 6), (RX6, TX6, 2), (RX7, TX7, 7), (RX8, TX8, 11), (RX9, TX9, 4), (RX10, TX10, 4)]
def zTY (ci : Nat) : Nat → FieldType := match ci with
  | 0 => tyX0
  | 1 => tyX1
  | 2 => tyX2
  | 3 => tyX3
  | 4 => tyX4
  | 5 => tyX5
  | 6 => tyX6
  | 7 => tyX7
  | 8 => tyX8
  | 9 => tyX9
  | _ => tyX10
def zT (ci : Nat) : u_T := match ci with
  | 0 => TX0
  | 1 => TX1
  | 2 => TX2
  | 3 => TX3
  | 4 => TX4
  | 5 => TX5
  | 6 => TX6
  | 7 => TX7
  | 8 => TX8
  | 9 => TX9
  | _ => TX10
def zN (ci : Nat) : Nat := match ci with
  | 0 => 11
  | 1 => 3
  | 2 => 8
  | 3 => 3
  | 4 => 11
  | 5 => 6
  | 6 => 2
  | 7 => 7
  | 8 => 11
  | 9 => 4
  | _ => 4
def zC (ci : Nat) : String := match ci with
  | 0 => "LineBalls$Ball"
  | 1 => "LineBalls$Barrier"
  | 2 => "LineBalls$Book"
  | 3 => "LineBalls$History"
  | 4 => "LineBalls$Line"
  | 5 => "LineBalls$Log"
  | 6 => "LineBalls$Output"
  | 7 => "LineBalls$Parser"
  | 8 => "LineBalls"
  | 9 => "java/lang/StringBuilder"
  | 10 => "java/lang/String"
  | 11 => "LineBallsLaw"
  | 12 => "java/lang/StringLatin1"
  | 13 => "jdk/internal/util/Preconditions"
  | 14 => "java/lang/AbstractStringBuilder"
  | 15 => "java/lang/Integer"
  | 16 => "java/util/Arrays"
  | _ => "jdk/internal/util/ArraysSupport"
/-- private methods of the class above, selected on a StringBuilder -/
def pxN : List MethodName := [⟨"java/lang/AbstractStringBuilder", "ensureCapacityInternal", "(I)V"⟩, ⟨"java/lang/AbstractStringBuilder", "newCapacity", "(I)I"⟩, ⟨"java/lang/AbstractStringBuilder", "putStringAt", "(ILjava/lang/String;)V"⟩, ⟨"java/lang/AbstractStringBuilder", "inflateIfNeededFor", "(Ljava/lang/String;)V"⟩]
def xSel : List Cond := pxN.map fun y => Cond.selects "java/lang/StringBuilder" y y
def lw_tb2 : List Cond := xSel ++ lw_tbl
def tbl (a : Nat) : List Cond := match a with
  | 0 => k2_sels lw_privs
  | 1 => tables_1_1
  | 2 => tables_1_2
  | 3 => tables_1_3
  | 4 => tables_1_4
  | 5 => tables_1_5
  | _ => xSel
theorem tbl_in (a : Nat) : ∀ w ∈ tbl a, w ∈ lw_tb2 := by
  intro w h
  have h1 : ∀ w ∈ tables_1, w ∈ lw_tb2 := fun w h => List.mem_append_right _ (List.mem_append_right _ h)
  match a, h with
  | 0, h => exact List.mem_append_right _ (List.mem_append_left _ h)
  | 1, h => exact h1 _ (List.mem_append_left _ h)
  | 2, h => exact h1 _ (List.mem_append_right _ (List.mem_append_left _ h))
  | 3, h => exact h1 _ (List.mem_append_right _ (List.mem_append_right _ (List.mem_append_left _ h)))
  | 4, h => exact h1 _ (List.mem_append_right _ (List.mem_append_right _ (List.mem_append_right _ (List.mem_append_left _ h))))
  | 5, h => exact h1 _ (List.mem_append_right _ (List.mem_append_right _ (List.mem_append_right _ (List.mem_append_right _ h))))
  | n + 6, h => exact List.mem_append_left _ h
def tbw (q : Nat × Nat) : Option Cond := (tbl q.1)[q.2]?
theorem tbw_in {q : Nat × Nat} {w : Cond} (h : tbw q = some w) : w ∈ lw_tb2 := tbl_in _ _ (List.mem_of_getElem? h)
/-- the words that last -/
def ALLW : List Cond := lw_tb2.filter goodWord
theorem ALLW_lw : ∀ w ∈ ALLW, w ∈ lw_tb2 := fun _ h => (List.mem_filter.mp h).1
theorem ALLW_good : ∀ w ∈ ALLW, goodWord w = true := fun _ h => (List.mem_filter.mp h).2
theorem ALLW_in {w : Cond} (h : w ∈ lw_tb2) (hg : goodWord w = true) : w ∈ ALLW := List.mem_filter.mpr ⟨h, hg⟩
/-- each word of a list stands at its place, and lasts -/
def chkW (ws : List Cond) (ps : List (Nat × Nat)) : Bool := match ws, ps with
  | [], _ => true
  | _ :: _, [] => false
  | w :: ws, p :: ps => decide (tbw p = some w) && goodWord w && chkW ws ps
theorem chkW_ok : ∀ (ws : List Cond) (ps : List (Nat × Nat)), chkW ws ps = true → ∀ w ∈ ws, w ∈ ALLW
  | [], _, _ => fun _ h => by cases h
  | _ :: _, [], h => by simp [chkW] at h
  | w :: ws, p :: ps, h => by
    simp only [chkW, Bool.and_eq_true, decide_eq_true_eq] at h
    intro x hx
    rcases List.mem_cons.mp hx with rfl | hx
    · exact ALLW_in (tbw_in h.1.1) h.1.2
    · exact chkW_ok ws ps h.2 x hx

theorem inX0 : ∀ w ∈ u_ws RX0 TX0 11, w ∈ ALLW := chkW_ok _ [(1, 187), (1, 189), (1, 191), (1, 193), (1, 195), (1, 197), (1, 199), (1, 201), (1, 203), (1, 205), (1, 207)] (by decide +kernel)
theorem inX1 : ∀ w ∈ u_ws RX1 TX1 3, w ∈ ALLW := chkW_ok _ [(1, 74), (1, 76), (1, 78)] (by decide +kernel)
theorem inX2 : ∀ w ∈ u_ws RX2 TX2 8, w ∈ ALLW := chkW_ok _ [(1, 136), (1, 138), (1, 140), (1, 142), (1, 144), (1, 146), (1, 148), (1, 150)] (by decide +kernel)
theorem inX3 : ∀ w ∈ u_ws RX3 TX3 3, w ∈ ALLW := chkW_ok _ [(2, 74), (2, 76), (2, 78)] (by decide +kernel)
theorem inX4 : ∀ w ∈ u_ws RX4 TX4 11, w ∈ ALLW := chkW_ok _ [(2, 11), (2, 13), (2, 15), (2, 17), (2, 19), (2, 21), (2, 23), (2, 25), (2, 27), (2, 29), (2, 31)] (by decide +kernel)
theorem inX5 : ∀ w ∈ u_ws RX5 TX5 6, w ∈ ALLW := chkW_ok _ [(1, 95), (1, 97), (1, 99), (1, 101), (1, 103), (1, 105)] (by decide +kernel)
theorem inX6 : ∀ w ∈ u_ws RX6 TX6 2, w ∈ ALLW := chkW_ok _ [(1, 44), (1, 46)] (by decide +kernel)
theorem inX7 : ∀ w ∈ u_ws RX7 TX7 7, w ∈ ALLW := chkW_ok _ [(2, 47), (2, 49), (2, 51), (2, 53), (2, 55), (2, 57), (2, 59)] (by decide +kernel)
theorem inX8 : ∀ w ∈ u_ws RX8 TX8 11, w ∈ ALLW := chkW_ok _ [(2, 92), (2, 94), (2, 96), (2, 98), (2, 100), (2, 102), (2, 104), (2, 106), (2, 108), (2, 110), (2, 112)] (by decide +kernel)
theorem inX9 : ∀ w ∈ u_ws RX9 TX9 4, w ∈ ALLW := chkW_ok _ [(3, 132), (3, 134), (3, 136), (3, 138)] (by decide +kernel)
theorem inX10 : ∀ w ∈ u_ws RX10 TX10 4, w ∈ ALLW := chkW_ok _ [(4, 10), (4, 12), (4, 14), (4, 16)] (by decide +kernel)
/-- a method: name, code, locals, what it returns, its class, kind (0 static, 1 virtual, 2 constructor), parameters, handlers -/
abbrev zMT : Type := MethodName × ByteArray × Nat × Option FieldType × Nat × Nat × Nat × List (Nat × Nat × Nat × Nat)
def mT_0 : List zMT := [(⟨"LineBalls$Ball", "<init>", "()V"⟩, prog_2_method_1_code, 1, none, 0, 2, 0, []),
  (⟨"LineBalls$Ball", "begin", "(IIII)V"⟩, prog_2_method_2_code, 5, none, 0, 1, 4, []),
  (⟨"LineBalls$Ball", "copyFrom", "(LLineBalls$Ball;)V"⟩, prog_2_method_3_code, 2, none, 0, 1, 1, []),
  (⟨"LineBalls$Ball", "pace", "()I"⟩, prog_2_method_4_code, 1, (some FieldType.int), 0, 1, 0, []),
  (⟨"LineBalls$Ball", "save", "()Z"⟩, prog_2_method_10_code, 1, (some FieldType.boolean), 0, 1, 0, []),
  (⟨"LineBalls$Ball", "push", "()I"⟩, prog_2_method_5_code, 1, (some FieldType.int), 0, 1, 0, []),
  (⟨"LineBalls$Ball", "speedBehindBounce", "(I)I"⟩, prog_2_method_7_code, 4, (some FieldType.int), 0, 1, 1, []),
  (⟨"LineBalls$Ball", "stepAgainst", "(LLineBalls$Ball;)I"⟩, prog_2_method_8_code, 3, (some FieldType.int), 0, 1, 1, []),
  (⟨"LineBalls$Ball", "energy", "()I"⟩, prog_2_method_6_code, 1, (some FieldType.int), 0, 1, 0, []),
  (⟨"LineBalls$Ball", "<init>", "()V"⟩, prog_2_method_1_code, 1, none, 0, 2, 0, []),
  (⟨"LineBalls$Barrier", "<init>", "()V"⟩, prog_3_method_1_code, 1, none, 1, 2, 0, []),
  (⟨"LineBalls$Barrier", "begin", "(II)V"⟩, prog_3_method_2_code, 3, none, 1, 1, 2, []),
  (⟨"LineBalls$Barrier", "copyFrom", "(LLineBalls$Barrier;)V"⟩, prog_3_method_3_code, 2, none, 1, 1, 1, []),
  (⟨"LineBalls$Book", "<init>", "()V"⟩, prog_4_method_1_code, 1, none, 2, 2, 0, []),
  (⟨"LineBalls$Book", "clear", "()V"⟩, prog_4_method_2_code, 2, none, 2, 1, 0, []),
  (⟨"LineBalls$Book", "copyFrom", "(LLineBalls$Book;)V"⟩, prog_4_method_3_code, 2, none, 2, 1, 1, []),
  (⟨"LineBalls$Book", "noteHit", "(II)V"⟩, prog_4_method_5_code, 3, none, 2, 1, 2, []),
  (⟨"LineBalls$Book", "hitsOf", "(II)I"⟩, prog_4_method_4_code, 3, (some FieldType.int), 2, 1, 2, []),
  (⟨"LineBalls$Book", "dropBall", "(I)V"⟩, prog_4_method_6_code, 4, none, 2, 1, 1, []),
  (⟨"LineBalls$Book", "pairBehind", "(II)I"⟩, prog_4_method_7_code, 3, (some FieldType.int), 2, 1, 2, []),
  (⟨"LineBalls$History", "<init>", "()V"⟩, prog_5_method_1_code, 2, none, 3, 2, 0, []),
  (⟨"LineBalls$History", "remember", "(LLineBalls$Line;)V"⟩, prog_5_method_2_code, 2, none, 3, 1, 1, []),
  (⟨"LineBalls$Ball", "<init>", "()V"⟩, prog_2_method_1_code, 1, none, 0, 2, 0, []),
  (⟨"LineBalls$Line", "<init>", "()V"⟩, prog_6_method_1_code, 2, none, 4, 2, 0, []),
  (⟨"LineBalls$Line", "clear", "(III)V"⟩, prog_6_method_2_code, 4, none, 4, 1, 3, []),
  (⟨"LineBalls$Line", "taken", "(I)Z"⟩, prog_6_method_7_code, 2, (some FieldType.boolean), 4, 1, 1, []),
  (⟨"LineBalls$Line", "barrierAt", "(I)LLineBalls$Barrier;"⟩, prog_6_method_6_code, 3, (some (FieldType.object "LineBalls$Barrier")), 4, 1, 1, []),
  (⟨"LineBalls$Line", "ballAt", "(I)I"⟩, prog_6_method_4_code, 3, (some FieldType.int), 4, 1, 1, []),
  (⟨"LineBalls$Line", "putPost", "(II)V"⟩, prog_6_method_14_code, 3, none, 4, 1, 2, []),
  (⟨"LineBalls$Line", "ballNamed", "(I)I"⟩, prog_6_method_5_code, 3, (some FieldType.int), 4, 1, 1, []),
  (⟨"LineBalls$Line", "putBall", "(IIII)V"⟩, prog_6_method_15_code, 5, none, 4, 1, 4, []),
  (⟨"LineBalls$Line", "sortByCell", "()V"⟩, prog_6_method_17_code, 3, none, 4, 1, 0, []),
  (⟨"LineBalls$Line", "copyFrom", "(LLineBalls$Line;)V"⟩, prog_6_method_3_code, 3, none, 4, 1, 1, []),
  (⟨"LineBalls$Line", "passPulses", "(I)I"⟩, prog_6_method_18_code, 5, (some FieldType.int), 4, 1, 1, []),
  (⟨"LineBalls$Line", "beginPulse", "()Z"⟩, prog_6_method_19_code, 3, (some FieldType.boolean), 4, 1, 0, []),
  (⟨"LineBalls$Line", "takeTurn", "(II)V"⟩, prog_6_method_20_code, 8, none, 4, 1, 2, []),
  (⟨"LineBalls$Line", "bounce", "(ILLineBalls$Barrier;)V"⟩, prog_6_method_21_code, 6, none, 4, 1, 2, []),
  (⟨"LineBalls$Line", "meet", "(III)V"⟩, prog_6_method_22_code, 8, none, 4, 1, 3, []),
  (⟨"LineBalls$Line", "tradeSize", "(LLineBalls$Ball;LLineBalls$Ball;)I"⟩, prog_6_method_23_code, 7, (some FieldType.int), 4, 0, 2, []),
  (⟨"LineBalls$Line", "movingBalls", "()I"⟩, prog_6_method_9_code, 3, (some FieldType.int), 4, 1, 0, [])]
def mP_0 : List (List (Nat × Nat)) := [[(1, 156), (1, 7), (1, 155)], [(4, 183), (1, 7), (4, 181), (4, 182)], [(4, 203), (1, 7), (4, 201), (4, 202)], [(5, 6), (1, 7), (5, 4), (5, 5)], [(5, 2), (1, 7), (5, 0), (5, 1)], [(2, 206), (1, 7), (2, 204), (2, 205)], [(5, 19), (1, 7), (5, 17), (5, 18)], [(5, 35), (1, 7), (5, 33), (5, 34)], [(2, 214), (1, 7), (2, 212), (2, 213)], [(1, 156), (1, 7), (1, 155)], [(1, 63), (1, 4), (1, 62)], [(1, 217), (1, 4), (1, 215), (1, 216)], [(4, 207), (1, 4), (4, 205), (4, 206)], [(1, 112), (1, 6), (1, 111)], [(1, 225), (1, 6), (1, 223), (1, 224)], [(4, 216), (1, 6), (4, 214), (4, 215)], [(5, 40), (1, 6), (5, 38), (5, 39)], [(5, 127), (1, 6), (5, 125), (5, 126)], [(5, 119), (1, 6), (5, 117), (5, 118)], [(5, 123), (1, 6), (5, 122), (0, 25)], [(2, 66), (1, 9), (2, 65)], [(4, 195), (1, 9), (4, 193), (4, 194)], [(1, 156), (1, 7), (1, 155)], [(1, 54), (1, 3), (1, 53)], [(1, 213), (1, 3), (1, 211), (1, 212)], [(4, 136), (1, 3), (4, 134), (4, 135)], [(4, 140), (1, 3), (4, 138), (4, 139)], [(4, 144), (1, 3), (4, 142), (4, 143)], [(4, 148), (1, 3), (4, 146), (4, 147)], [(4, 171), (1, 3), (4, 169), (4, 170)], [(4, 179), (1, 3), (4, 177), (4, 178)], [(4, 187), (1, 3), (4, 185), (4, 186)], [(4, 199), (1, 3), (4, 197), (4, 198)], [(4, 234), (1, 3), (4, 232), (4, 233)], [(4, 238), (1, 3), (4, 237), (0, 18)], [(5, 10), (1, 3), (5, 9), (0, 19)], [(5, 14), (1, 3), (5, 13), (0, 20)], [(5, 28), (1, 3), (5, 27), (0, 21)], [(5, 31), (1, 3), (5, 30)], [(2, 190), (1, 3), (2, 188), (2, 189)]]
def mT_1 : List zMT := [(⟨"LineBalls$Line", "weights", "()I"⟩, prog_6_method_10_code, 3, (some FieldType.int), 4, 1, 0, []),
  (⟨"LineBalls$Line", "push", "()I"⟩, prog_6_method_11_code, 3, (some FieldType.int), 4, 1, 0, []),
  (⟨"LineBalls$Line", "notePushSince", "(I)V"⟩, prog_6_method_13_code, 2, none, 4, 1, 1, []),
  (⟨"LineBalls$Ball", "<init>", "()V"⟩, prog_2_method_1_code, 1, none, 0, 2, 0, []),
  (⟨"LineBalls$Line", "energy", "()I"⟩, prog_6_method_12_code, 3, (some FieldType.int), 4, 1, 0, []),
  (⟨"LineBalls$Line", "dropBall", "(I)V"⟩, prog_6_method_16_code, 3, none, 4, 1, 1, []),
  (⟨"LineBalls$Log", "<init>", "()V"⟩, prog_7_method_1_code, 1, none, 5, 2, 0, []),
  (⟨"LineBalls$Log", "clear", "()V"⟩, prog_7_method_2_code, 1, none, 5, 1, 0, []),
  (⟨"LineBalls$Log", "copyFrom", "(LLineBalls$Log;)V"⟩, prog_7_method_3_code, 2, none, 5, 1, 1, []),
  (⟨"LineBalls$Log", "add", "(IIII)V"⟩, prog_7_method_4_code, 5, none, 5, 1, 4, []),
  (⟨"LineBalls$Ball", "<init>", "()V"⟩, prog_2_method_1_code, 1, none, 0, 2, 0, []),
  (⟨"LineBalls$Ball", "<init>", "()V"⟩, prog_2_method_1_code, 1, none, 0, 2, 0, []),
  (⟨"LineBalls$Ball", "<init>", "()V"⟩, prog_2_method_1_code, 1, none, 0, 2, 0, []),
  (⟨"LineBalls$Ball", "<init>", "()V"⟩, prog_2_method_1_code, 1, none, 0, 2, 0, []),
  (⟨"LineBalls$Ball", "<init>", "()V"⟩, prog_2_method_1_code, 1, none, 0, 2, 0, []),
  (⟨"LineBalls$Ball", "<init>", "()V"⟩, prog_2_method_1_code, 1, none, 0, 2, 0, []),
  (⟨"LineBalls$Log", "dropBall", "(I)V"⟩, prog_7_method_11_code, 3, none, 5, 1, 1, []),
  (⟨"LineBalls$Log", "renumbered", "(II)I"⟩, prog_7_method_12_code, 2, (some FieldType.int), 5, 0, 2, []),
  (⟨"LineBalls$Output", "<init>", "()V"⟩, prog_8_method_1_code, 1, none, 6, 2, 0, []),
  (⟨"LineBalls$Ball", "<init>", "()V"⟩, prog_2_method_1_code, 1, none, 0, 2, 0, []),
  (⟨"LineBalls$Ball", "<init>", "()V"⟩, prog_2_method_1_code, 1, none, 0, 2, 0, []),
  (⟨"LineBalls$Ball", "<init>", "()V"⟩, prog_2_method_1_code, 1, none, 0, 2, 0, []),
  (⟨"LineBalls$Parser", "<init>", "([BLLineBalls$Line;)V"⟩, prog_9_method_1_code, 3, none, 7, 2, 2, []),
  (⟨"LineBalls$Parser", "parse", "(I)I"⟩, prog_9_method_2_code, 3, (some FieldType.int), 7, 1, 1, []),
  (⟨"LineBalls$Parser", "nextToken", "()V"⟩, prog_9_method_18_code, 1, none, 7, 1, 0, []),
  (⟨"LineBalls$Parser", "kindAt", "(I)I"⟩, prog_9_method_19_code, 3, (some FieldType.int), 7, 1, 1, []),
  (⟨"LineBalls$Parser", "parseBox", "()V"⟩, prog_9_method_4_code, 4, none, 7, 1, 0, []),
  (⟨"LineBalls$Parser", "takeWord", "(Ljava/lang/String;)V"⟩, prog_9_method_8_code, 2, none, 7, 1, 1, []),
  (⟨"LineBalls$Parser", "isWord", "(Ljava/lang/String;)Z"⟩, prog_9_method_16_code, 3, (some FieldType.boolean), 7, 1, 1, []),
  (⟨"LineBalls$Parser", "fail", "(I)V"⟩, prog_9_method_7_code, 2, none, 7, 1, 1, []),
  (⟨"LineBalls$Parser", "takeNumber", "(II)I"⟩, prog_9_method_10_code, 4, (some FieldType.int), 7, 1, 2, []),
  (⟨"LineBalls$Parser", "checkedNumber", "(II)I"⟩, prog_9_method_14_code, 5, (some FieldType.int), 7, 1, 2, []),
  (⟨"LineBalls$Parser", "takeSemicolon", "()V"⟩, prog_9_method_9_code, 1, none, 7, 1, 0, []),
  (⟨"LineBalls$Parser", "isSymbol", "(C)Z"⟩, prog_9_method_17_code, 2, (some FieldType.boolean), 7, 1, 1, []),
  (⟨"LineBalls$Parser", "parsePost", "()V"⟩, prog_9_method_5_code, 3, none, 7, 1, 0, []),
  (⟨"LineBalls$Parser", "takeCell", "()I"⟩, prog_9_method_11_code, 2, (some FieldType.int), 7, 1, 0, []),
  (⟨"LineBalls$Parser", "parseBall", "()V"⟩, prog_9_method_6_code, 5, none, 7, 1, 0, []),
  (⟨"LineBalls$Parser", "takeName", "()I"⟩, prog_9_method_13_code, 2, (some FieldType.int), 7, 1, 0, []),
  (⟨"LineBalls$Parser", "packName", "([BII)I"⟩, prog_9_method_20_code, 5, (some FieldType.int), 7, 0, 3, []),
  (⟨"LineBalls$Parser", "isKeyword", "()Z"⟩, prog_9_method_15_code, 1, (some FieldType.boolean), 7, 1, 0, [])]
def mP_1 : List (List (Nat × Nat)) := [[(2, 194), (1, 3), (2, 192), (2, 193)], [(2, 202), (1, 3), (2, 200), (2, 201)], [(5, 73), (1, 3), (5, 71), (5, 72)], [(1, 156), (1, 7), (1, 155)], [(2, 210), (1, 3), (2, 208), (2, 209)], [(5, 108), (1, 3), (5, 106), (5, 107)], [(1, 86), (1, 5), (1, 85)], [(1, 221), (1, 5), (1, 219), (1, 220)], [(4, 211), (1, 5), (4, 209), (4, 210)], [(5, 23), (1, 5), (5, 21), (5, 22)], [(1, 156), (1, 7), (1, 155)], [(1, 156), (1, 7), (1, 155)], [(1, 156), (1, 7), (1, 155)], [(1, 156), (1, 7), (1, 155)], [(1, 156), (1, 7), (1, 155)], [(1, 156), (1, 7), (1, 155)], [(5, 112), (1, 5), (5, 110), (5, 111)], [(5, 115), (1, 5), (5, 114)], [(1, 41), (1, 2), (1, 40)], [(1, 156), (1, 7), (1, 155)], [(1, 156), (1, 7), (1, 155)], [(1, 156), (1, 7), (1, 155)], [(2, 38), (1, 8), (2, 37)], [(4, 76), (1, 8), (4, 74), (4, 75)], [(4, 81), (1, 8), (4, 80), (0, 2)], [(4, 85), (1, 8), (4, 84), (0, 3)], [(4, 89), (1, 8), (4, 88), (0, 4)], [(4, 94), (1, 8), (4, 93), (0, 5)], [(4, 98), (1, 8), (4, 97), (0, 6)], [(4, 104), (1, 8), (4, 103), (0, 7)], [(4, 108), (1, 8), (4, 107), (0, 8)], [(4, 112), (1, 8), (4, 111), (0, 9)], [(4, 118), (1, 8), (4, 117), (0, 10)], [(4, 122), (1, 8), (4, 121), (0, 11)], [(4, 128), (1, 8), (4, 127), (0, 12)], [(4, 132), (1, 8), (4, 131), (0, 13)], [(4, 153), (1, 8), (4, 152), (0, 14)], [(4, 157), (1, 8), (4, 156), (0, 15)], [(4, 160), (1, 8), (4, 159)], [(4, 164), (1, 8), (4, 163), (0, 16)]]
def mT_2 : List zMT := [(⟨"LineBalls$Parser", "takeSpeed", "()I"⟩, prog_9_method_12_code, 3, (some FieldType.int), 7, 1, 0, []),
  (⟨"LineBalls$Parser", "position", "()I"⟩, prog_9_method_3_code, 1, (some FieldType.int), 7, 1, 0, []),
  (⟨"LineBalls", "<init>", "()V"⟩, prog_1_method_1_code, 2, none, 8, 2, 0, []),
  (⟨"LineBalls", "load", "()I"⟩, prog_1_method_5_code, 1, (some FieldType.int), 8, 1, 0, []),
  (⟨"LineBalls", "errorCode", "()I"⟩, prog_1_method_6_code, 1, (some FieldType.int), 8, 1, 0, []),
  (⟨"LineBalls$Ball", "<init>", "()V"⟩, prog_2_method_1_code, 1, none, 0, 2, 0, []),
  (⟨"LineBalls$Ball", "<init>", "()V"⟩, prog_2_method_1_code, 1, none, 0, 2, 0, []),
  (⟨"LineBalls$Ball", "<init>", "()V"⟩, prog_2_method_1_code, 1, none, 0, 2, 0, []),
  (⟨"LineBalls$Ball", "<init>", "()V"⟩, prog_2_method_1_code, 1, none, 0, 2, 0, []),
  (⟨"LineBalls$Ball", "<init>", "()V"⟩, prog_2_method_1_code, 1, none, 0, 2, 0, []),
  (⟨"LineBalls$Ball", "<init>", "()V"⟩, prog_2_method_1_code, 1, none, 0, 2, 0, []),
  (⟨"LineBalls$Ball", "<init>", "()V"⟩, prog_2_method_1_code, 1, none, 0, 2, 0, []),
  (⟨"LineBalls$Ball", "<init>", "()V"⟩, prog_2_method_1_code, 1, none, 0, 2, 0, []),
  (⟨"LineBalls$Ball", "<init>", "()V"⟩, prog_2_method_1_code, 1, none, 0, 2, 0, []),
  (⟨"LineBalls$Ball", "<init>", "()V"⟩, prog_2_method_1_code, 1, none, 0, 2, 0, []),
  (⟨"LineBalls", "stop", "()I"⟩, prog_1_method_50_code, 4, (some FieldType.int), 8, 1, 0, []),
  (⟨"LineBalls$Ball", "<init>", "()V"⟩, prog_2_method_1_code, 1, none, 0, 2, 0, []),
  (⟨"LineBalls$Ball", "<init>", "()V"⟩, prog_2_method_1_code, 1, none, 0, 2, 0, []),
  (⟨"LineBalls$Ball", "<init>", "()V"⟩, prog_2_method_1_code, 1, none, 0, 2, 0, []),
  (⟨"LineBalls$Ball", "<init>", "()V"⟩, prog_2_method_1_code, 1, none, 0, 2, 0, []),
  (⟨"LineBalls$Ball", "<init>", "()V"⟩, prog_2_method_1_code, 1, none, 0, 2, 0, []),
  (⟨"LineBalls", "append", "(IIIII)I"⟩, prog_1_method_2_code, 6, (some FieldType.int), 8, 1, 5, []),
  (⟨"LineBalls", "appendBytes", "(I)V"⟩, prog_1_method_3_code, 3, none, 8, 1, 1, []),
  (⟨"LineBalls", "truncate", "(I)V"⟩, prog_1_method_4_code, 2, none, 8, 1, 1, []),
  (⟨"LineBalls", "needRange", "(III)V"⟩, prog_1_method_61_code, 3, none, 8, 0, 3, []),
  (⟨"LineBalls", "property", "(I)I"⟩, prog_1_method_9_code, 2, (some FieldType.int), 8, 1, 1, []),
  (⟨"LineBalls", "ball", "(II)I"⟩, prog_1_method_10_code, 4, (some FieldType.int), 8, 1, 2, []),
  (⟨"LineBalls", "needBall", "(I)LLineBalls$Ball;"⟩, prog_1_method_62_code, 2, (some (FieldType.object "LineBalls$Ball")), 8, 1, 1, []),
  (⟨"LineBalls", "at", "(I)I"⟩, prog_1_method_11_code, 2, (some FieldType.int), 8, 1, 1, []),
  (⟨"LineBalls", "needCell", "(I)V"⟩, prog_1_method_63_code, 2, none, 8, 1, 1, []),
  (⟨"LineBalls", "post", "(II)I"⟩, prog_1_method_12_code, 4, (some FieldType.int), 8, 1, 2, []),
  (⟨"LineBalls", "needBarrier", "(I)LLineBalls$Barrier;"⟩, prog_1_method_65_code, 2, (some (FieldType.object "LineBalls$Barrier")), 8, 1, 1, []),
  (⟨"LineBalls", "wall", "(ZI)I"⟩, prog_1_method_13_code, 4, (some FieldType.int), 8, 1, 2, []),
  (⟨"LineBalls", "placed", "(I)I"⟩, prog_1_method_14_code, 2, (some FieldType.int), 8, 1, 1, []),
  (⟨"LineBalls$Ball", "<init>", "()V"⟩, prog_2_method_1_code, 1, none, 0, 2, 0, []),
  (⟨"LineBalls$Ball", "<init>", "()V"⟩, prog_2_method_1_code, 1, none, 0, 2, 0, []),
  (⟨"LineBalls", "hits", "(II)I"⟩, prog_1_method_17_code, 3, (some FieldType.int), 8, 1, 2, []),
  (⟨"LineBalls$Ball", "<init>", "()V"⟩, prog_2_method_1_code, 1, none, 0, 2, 0, []),
  (⟨"LineBalls$Ball", "<init>", "()V"⟩, prog_2_method_1_code, 1, none, 0, 2, 0, []),
  (⟨"LineBalls", "account", "(I)J"⟩, prog_1_method_20_code, 2, (some FieldType.long), 8, 1, 1, [])]
def mP_2 : List (List (Nat × Nat)) := [[(4, 175), (1, 8), (4, 174), (0, 17)], [(4, 191), (1, 8), (4, 189), (4, 190)], [(1, 33), (1, 1), (1, 32)], [(4, 72), (1, 1), (4, 70), (4, 71)], [(4, 222), (1, 1), (4, 220), (4, 221)], [(1, 156), (1, 7), (1, 155)], [(1, 156), (1, 7), (1, 155)], [(1, 156), (1, 7), (1, 155)], [(1, 156), (1, 7), (1, 155)], [(1, 156), (1, 7), (1, 155)], [(1, 156), (1, 7), (1, 155)], [(1, 156), (1, 7), (1, 155)], [(1, 156), (1, 7), (1, 155)], [(1, 156), (1, 7), (1, 155)], [(1, 156), (1, 7), (1, 155)], [(5, 135), (1, 1), (5, 133), (5, 134)], [(1, 156), (1, 7), (1, 155)], [(1, 156), (1, 7), (1, 155)], [(1, 156), (1, 7), (1, 155)], [(1, 156), (1, 7), (1, 155)], [(1, 156), (1, 7), (1, 155)], [(4, 44), (1, 1), (4, 42), (4, 43)], [(4, 63), (1, 1), (4, 62), (0, 1)], [(4, 68), (1, 1), (4, 66), (4, 67)], [(2, 122), (1, 1), (2, 121)], [(2, 119), (1, 1), (2, 117), (2, 118)], [(5, 150), (1, 1), (5, 148), (5, 149)], [(5, 52), (1, 1), (5, 51), (0, 22)], [(5, 161), (1, 1), (5, 159), (5, 160)], [(5, 98), (1, 1), (5, 97), (0, 24)], [(5, 157), (1, 1), (5, 155), (5, 156)], [(5, 86), (1, 1), (5, 85), (0, 23)], [(5, 174), (1, 1), (5, 172), (5, 173)], [(5, 185), (1, 1), (5, 183), (5, 184)], [(1, 156), (1, 7), (1, 155)], [(1, 156), (1, 7), (1, 155)], [(5, 169), (1, 1), (5, 167), (5, 168)], [(1, 156), (1, 7), (1, 155)], [(1, 156), (1, 7), (1, 155)], [(2, 198), (1, 1), (2, 196), (2, 197)]]
def mT_3 : List zMT := [(⟨"LineBalls", "count", "(I)I"⟩, prog_1_method_21_code, 2, (some FieldType.int), 8, 1, 1, []),
  (⟨"LineBalls$Ball", "<init>", "()V"⟩, prog_2_method_1_code, 1, none, 0, 2, 0, []),
  (⟨"LineBalls$Ball", "<init>", "()V"⟩, prog_2_method_1_code, 1, none, 0, 2, 0, []),
  (⟨"LineBalls$Ball", "<init>", "()V"⟩, prog_2_method_1_code, 1, none, 0, 2, 0, []),
  (⟨"LineBalls$Ball", "<init>", "()V"⟩, prog_2_method_1_code, 1, none, 0, 2, 0, []),
  (⟨"LineBalls$Ball", "<init>", "()V"⟩, prog_2_method_1_code, 1, none, 0, 2, 0, []),
  (⟨"LineBalls$Ball", "<init>", "()V"⟩, prog_2_method_1_code, 1, none, 0, 2, 0, []),
  (⟨"LineBalls$Ball", "<init>", "()V"⟩, prog_2_method_1_code, 1, none, 0, 2, 0, []),
  (⟨"LineBalls$Ball", "<init>", "()V"⟩, prog_2_method_1_code, 1, none, 0, 2, 0, []),
  (⟨"LineBalls$Ball", "<init>", "()V"⟩, prog_2_method_1_code, 1, none, 0, 2, 0, []),
  (⟨"LineBalls$Ball", "<init>", "()V"⟩, prog_2_method_1_code, 1, none, 0, 2, 0, []),
  (⟨"LineBalls$Ball", "<init>", "()V"⟩, prog_2_method_1_code, 1, none, 0, 2, 0, []),
  (⟨"LineBalls$Ball", "<init>", "()V"⟩, prog_2_method_1_code, 1, none, 0, 2, 0, []),
  (⟨"LineBalls", "pulse", "(I)I"⟩, prog_1_method_42_code, 2, (some FieldType.int), 8, 1, 1, []),
  (⟨"LineBalls", "tick", "(I)I"⟩, prog_1_method_43_code, 2, (some FieldType.int), 8, 1, 1, []),
  (⟨"LineBalls", "kick", "(II)I"⟩, prog_1_method_44_code, 5, (some FieldType.int), 8, 1, 2, []),
  (⟨"LineBalls", "setWeight", "(II)I"⟩, prog_1_method_45_code, 6, (some FieldType.int), 8, 1, 2, []),
  (⟨"LineBalls", "setSteal", "(II)I"⟩, prog_1_method_46_code, 5, (some FieldType.int), 8, 1, 2, []),
  (⟨"LineBalls", "addBall", "(III)I"⟩, prog_1_method_47_code, 5, (some FieldType.int), 8, 1, 3, []),
  (⟨"LineBalls", "removeBall", "(I)I"⟩, prog_1_method_48_code, 3, (some FieldType.int), 8, 1, 1, []),
  (⟨"LineBalls", "turn", "(I)I"⟩, prog_1_method_49_code, 4, (some FieldType.int), 8, 1, 1, []),
  (⟨"LineBalls", "place", "(II)I"⟩, prog_1_method_51_code, 5, (some FieldType.int), 8, 1, 2, []),
  (⟨"LineBalls$Ball", "<init>", "()V"⟩, prog_2_method_1_code, 1, none, 0, 2, 0, []),
  (⟨"LineBalls$Ball", "<init>", "()V"⟩, prog_2_method_1_code, 1, none, 0, 2, 0, []),
  (⟨"LineBalls$Ball", "<init>", "()V"⟩, prog_2_method_1_code, 1, none, 0, 2, 0, []),
  (⟨"LineBalls$Ball", "<init>", "()V"⟩, prog_2_method_1_code, 1, none, 0, 2, 0, []),
  (⟨"LineBalls$Ball", "<init>", "()V"⟩, prog_2_method_1_code, 1, none, 0, 2, 0, [])]
def mP_3 : List (List (Nat × Nat)) := [[(5, 178), (1, 1), (5, 176), (5, 177)], [(1, 156), (1, 7), (1, 155)], [(1, 156), (1, 7), (1, 155)], [(1, 156), (1, 7), (1, 155)], [(1, 156), (1, 7), (1, 155)], [(1, 156), (1, 7), (1, 155)], [(1, 156), (1, 7), (1, 155)], [(1, 156), (1, 7), (1, 155)], [(1, 156), (1, 7), (1, 155)], [(1, 156), (1, 7), (1, 155)], [(1, 156), (1, 7), (1, 155)], [(1, 156), (1, 7), (1, 155)], [(1, 156), (1, 7), (1, 155)], [(4, 230), (1, 1), (4, 228), (4, 229)], [(5, 44), (1, 1), (5, 42), (5, 43)], [(5, 48), (1, 1), (5, 46), (5, 47)], [(5, 78), (1, 1), (5, 76), (5, 77)], [(5, 82), (1, 1), (5, 80), (5, 81)], [(5, 94), (1, 1), (5, 92), (5, 93)], [(5, 104), (1, 1), (5, 102), (5, 103)], [(5, 131), (1, 1), (5, 129), (5, 130)], [(5, 142), (1, 1), (5, 140), (5, 141)], [(1, 156), (1, 7), (1, 155)], [(1, 156), (1, 7), (1, 155)], [(1, 156), (1, 7), (1, 155)], [(1, 156), (1, 7), (1, 155)], [(1, 156), (1, 7), (1, 155)]]
def mT_4 : List zMT := [(⟨"LineBallsLaw", "draw", "([III)I"⟩, method_2_code, 3, (some FieldType.int), 11, 0, 3, []),
  (⟨"LineBallsLaw", "four", "(Ljava/lang/String;I)I"⟩, method_3_code, 4, (some FieldType.int), 11, 0, 2, []),
  (⟨"LineBallsLaw", "feed", "(LLineBalls;Ljava/lang/String;)V"⟩, method_4_code, 4, none, 11, 0, 2, []),
  (⟨"LineBallsLaw", "name", "(I)C"⟩, method_5_code, 1, (some FieldType.char), 11, 0, 1, []),
  (⟨"LineBallsLaw", "load", "(LLineBalls;[I)Z"⟩, method_6_code, 10, (some FieldType.boolean), 11, 0, 2, []),
  (⟨"LineBallsLaw", "added", "(LLineBalls;III)I"⟩, method_7_code, 5, (some FieldType.int), 11, 0, 4, [(0, 7, 8, 101)]),
  (⟨"LineBallsLaw", "moved", "(LLineBalls;II)I"⟩, method_8_code, 4, (some FieldType.int), 11, 0, 3, [(0, 6, 7, 101)]),
  (⟨"LineBallsLaw", "act", "(LLineBalls;[II)I"⟩, method_9_code, 7, (some FieldType.int), 11, 0, 3, []),
  (⟨"LineBallsLaw", "isPost", "(LLineBalls;I)Z"⟩, method_11_code, 4, (some FieldType.boolean), 11, 0, 2, []),
  (⟨"LineBallsLaw", "stands", "(LLineBalls;J)Z"⟩, method_12_code, 13, (some FieldType.boolean), 11, 0, 2, []),
  (⟨"LineBallsLaw", "counts", "(LLineBalls;)Z"⟩, method_13_code, 8, (some FieldType.boolean), 11, 0, 1, []),
  (⟨"LineBallsLaw", "order", "(LLineBalls;)[I"⟩, method_14_code, 3, (some (FieldType.array FieldType.int)), 11, 0, 1, [])]
def mP_4 : List (List (Nat × Nat)) := [[(2, 217), (1, 0), (2, 216)], [(4, 25), (1, 0), (4, 24)], [(4, 21), (1, 0), (4, 20)], [(3, 173), (1, 0), (3, 172)], [(2, 221), (1, 0), (2, 220)], [(5, 89), (1, 0), (5, 88)], [(5, 138), (1, 0), (5, 137)], [(4, 225), (1, 0), (4, 224)], [(5, 153), (1, 0), (5, 152)], [(5, 146), (1, 0), (5, 145)], [(5, 165), (1, 0), (5, 164)], [(5, 181), (1, 0), (5, 180)]]
def mT_5 : List zMT := [(⟨"java/lang/StringBuilder", "<init>", "(Ljava/lang/String;)V"⟩, prog_27_method_3_code, 2, none, 9, 2, 1, []),
  (⟨"java/lang/StringBuilder", "append", "(C)Ljava/lang/StringBuilder;"⟩, prog_27_method_14_code, 2, (some (FieldType.object "java/lang/StringBuilder")), 9, 1, 1, []),
  (⟨"java/lang/StringBuilder", "append", "(I)Ljava/lang/StringBuilder;"⟩, prog_27_method_15_code, 2, (some (FieldType.object "java/lang/StringBuilder")), 9, 1, 1, []),
  (⟨"java/lang/StringBuilder", "append", "(Ljava/lang/String;)Ljava/lang/StringBuilder;"⟩, prog_27_method_7_code, 2, (some (FieldType.object "java/lang/StringBuilder")), 9, 1, 1, []),
  (⟨"java/lang/StringBuilder", "append", "(Ljava/lang/String;)Ljava/lang/AbstractStringBuilder;"⟩, prog_27_method_80_code, 2, (some (FieldType.object "java/lang/AbstractStringBuilder")), 9, 3, 1, []),
  (⟨"java/lang/StringBuilder", "toString", "()Ljava/lang/String;"⟩, prog_27_method_42_code, 1, (some (FieldType.object "java/lang/String")), 9, 1, 0, []),
  (⟨"java/lang/StringBuilder", "length", "()I"⟩, prog_27_method_93_code, 1, (some FieldType.int), 9, 3, 0, []),
  (⟨"java/lang/AbstractStringBuilder", "<init>", "(Ljava/lang/String;)V"⟩, prog_13_method_3_code, 5, none, 14, 2, 1, []),
  (⟨"java/lang/AbstractStringBuilder", "append", "(C)Ljava/lang/AbstractStringBuilder;"⟩, prog_13_method_31_code, 2, (some (FieldType.object "java/lang/AbstractStringBuilder")), 14, 3, 1, []),
  (⟨"java/lang/AbstractStringBuilder", "append", "(I)Ljava/lang/AbstractStringBuilder;"⟩, prog_13_method_32_code, 4, (some (FieldType.object "java/lang/AbstractStringBuilder")), 14, 3, 1, []),
  (⟨"java/lang/AbstractStringBuilder", "append", "(Ljava/lang/String;)Ljava/lang/AbstractStringBuilder;"⟩, prog_13_method_22_code, 3, (some (FieldType.object "java/lang/AbstractStringBuilder")), 14, 3, 1, []),
  (⟨"java/lang/AbstractStringBuilder", "ensureCapacityInternal", "(I)V"⟩, prog_13_method_9_code, 3, none, 14, 3, 1, []),
  (⟨"java/lang/AbstractStringBuilder", "newCapacity", "(I)I"⟩, prog_13_method_10_code, 6, (some FieldType.int), 14, 3, 1, []),
  (⟨"java/lang/AbstractStringBuilder", "putStringAt", "(ILjava/lang/String;)V"⟩, prog_13_method_73_code, 3, none, 14, 3, 2, []),
  (⟨"java/lang/AbstractStringBuilder", "inflateIfNeededFor", "(Ljava/lang/String;)V"⟩, prog_13_method_71_code, 2, none, 14, 3, 1, []),
  (⟨"java/lang/AbstractStringBuilder", "isLatin1", "()Z"⟩, prog_13_method_68_code, 1, (some FieldType.boolean), 14, 3, 0, []),
  (⟨"java/lang/AbstractStringBuilder", "getValue", "()[B"⟩, prog_13_method_64_code, 1, (some (FieldType.array FieldType.byte)), 14, 3, 0, []),
  (⟨"java/lang/AbstractStringBuilder", "length", "()I"⟩, prog_13_method_6_code, 1, (some FieldType.int), 14, 3, 0, []),
  (⟨"java/lang/String", "<init>", "(Ljava/lang/AbstractStringBuilder;Ljava/lang/Void;)V"⟩, prog_26_method_150_code, 5, none, 10, 2, 2, []),
  (⟨"java/lang/String", "<init>", "(Ljava/lang/StringBuilder;)V"⟩, prog_26_method_53_code, 2, none, 10, 2, 1, []),
  (⟨"java/lang/String", "getBytes", "([BIB)V"⟩, prog_26_method_147_code, 4, none, 10, 1, 3, []),
  (⟨"java/lang/StringLatin1", "canEncode", "(C)Z"⟩, prog_28_method_3_code, 1, (some FieldType.boolean), 12, 0, 1, []),
  (⟨"java/lang/Integer", "stringSize", "(I)I"⟩, prog_22_method_13_code, 4, (some FieldType.int), 15, 0, 1, []),
  (⟨"java/lang/Integer", "getChars", "(II[B)I"⟩, prog_22_method_12_code, 7, (some FieldType.int), 15, 0, 3, []),
  (⟨"java/util/Arrays", "copyOf", "([BI)[B"⟩, prog_34_method_121_code, 3, (some (FieldType.array FieldType.byte)), 16, 0, 2, []),
  (⟨"java/util/Arrays", "copyOfRange", "([BII)[B"⟩, prog_34_method_132_code, 3, (some (FieldType.array FieldType.byte)), 16, 0, 3, []),
  (⟨"java/util/Arrays", "copyOfRangeByte", "([BII)[B"⟩, prog_34_method_133_code, 5, (some (FieldType.array FieldType.byte)), 16, 0, 3, []),
  (⟨"java/util/Arrays", "checkLength", "(II)V"⟩, prog_34_method_131_code, 2, none, 16, 0, 2, []),
  (⟨"jdk/internal/util/ArraysSupport", "newLength", "(III)I"⟩, prog_36_method_27_code, 4, (some FieldType.int), 17, 0, 3, []),
  (⟨"java/lang/String", "length", "()I"⟩, prog_26_method_54_code, 1, (some FieldType.int), 10, 1, 0, []),
  (⟨"java/lang/String", "coder", "()B"⟩, prog_26_method_152_code, 1, (some FieldType.byte), 10, 1, 0, []),
  (⟨"java/lang/String", "charAt", "(I)C"⟩, prog_26_method_56_code, 2, (some FieldType.char), 10, 1, 1, []),
  (⟨"java/lang/String", "isLatin1", "()Z"⟩, prog_26_method_154_code, 1, (some FieldType.boolean), 10, 1, 0, []),
  (⟨"java/lang/String", "checkIndex", "(II)V"⟩, prog_26_method_155_code, 2, none, 10, 0, 2, []),
  (⟨"java/lang/StringLatin1", "charAt", "([BI)C"⟩, prog_28_method_2_code, 2, (some FieldType.char), 12, 0, 2, []),
  (⟨"jdk/internal/util/Preconditions", "checkIndex", "(IILjava/util/function/BiFunction;)I"⟩, prog_37_method_11_code, 3, (some FieldType.int), 13, 0, 3, [])]
def mP_5 : List (List (Nat × Nat)) := [[(2, 227), (1, 11), (2, 226)], [(3, 177), (1, 11), (3, 175), (3, 176)], [(3, 143), (1, 11), (3, 141), (3, 142)], [(3, 21), (1, 11), (3, 19), (3, 20)], [(3, 17), (1, 11), (3, 16)], [(3, 202), (1, 11), (3, 200), (3, 201)], [(3, 222), (1, 11), (3, 221)], [(2, 230), (1, 10), (2, 229)], [(3, 180), (1, 10), (3, 179)], [(3, 146), (1, 10), (3, 145)], [(3, 24), (1, 10), (3, 13)], [(3, 32), (1, 10), (3, 31)], [(3, 36), (1, 10), (3, 35)], [(3, 98), (1, 10), (3, 97)], [(3, 102), (1, 10), (3, 101)], [(3, 67), (1, 10), (3, 64)], [(3, 216), (1, 10), (3, 213)], [(3, 224), (1, 10), (3, 218)], [(3, 210), (1, 12), (3, 209)], [(3, 207), (1, 12), (3, 206)], [(3, 125), (1, 12), (3, 123), (3, 124)], [(3, 183), (1, 19), (3, 182)], [(3, 149), (1, 21), (3, 148)], [(3, 152), (1, 21), (3, 151)], [(3, 49), (1, 16), (3, 48)], [(3, 228), (1, 16), (3, 227)], [(3, 231), (1, 16), (3, 230)], [(3, 234), (1, 16), (3, 233)], [(3, 39), (1, 14), (3, 38)], [(2, 235), (1, 12), (2, 233), (2, 234)], [(2, 239), (1, 12), (2, 237), (2, 238)], [(4, 29), (1, 12), (4, 27), (4, 28)], [(4, 33), (1, 12), (4, 31), (4, 32)], [(3, 192), (1, 12), (3, 191)], [(4, 36), (1, 19), (4, 35)], [(3, 195), (1, 18), (3, 194)]]
def mLaw : zMT := (x, code, 12, ret, 11, 0, 1, [])
def mT : List zMT := mT_0 ++ (mT_1 ++ (mT_2 ++ (mT_3 ++ (mT_4 ++ (mT_5 ++ [mLaw])))))
def mLn (n : Nat) : zMT := mT.getD n mLaw
def mWd (m : zMT) : Cond := match m.2.2.2.2.2.2.2 with
  | [] => .code m.1 m.2.1 m.2.2.1 m.2.2.2.1
  | h :: t => .codeWith m.1 m.2.1 m.2.2.1 m.2.2.2.1 (h :: t)
def mWs (m : zMT) : List Cond := mWd m :: .initialized m.1.cls :: (match m.2.2.2.2.2.1 with
  | 0 => [.static m.1]
  | 1 => [.instanceMethod m.1, .selects m.1.cls m.1 m.1]
  | _ => [.instanceMethod m.1])
def mSg (m : zMT) : Bool := decide ((parseMethodDescriptor m.1.desc).map (fun d => d.parameters.length) = some m.2.2.2.2.2.2.1) && plainName m.1.cls && decide (m.1.cls ≠ "java/lang/invoke/MethodHandle") && decide (m.1.cls ≠ "java/lang/invoke/VarHandle") && decide (m.1.cls = zC m.2.2.2.2.1) && decide (m.2.2.2.2.2.1 = 2 → m.1.name = "<init>") && decide (m.2.2.1 ≤ 13)
def mCk : List zMT → List (List (Nat × Nat)) → Bool
  | [], _ => true
  | _ :: _, [] => false
  | m :: ms, p :: ps => chkW (mWs m) p && mSg m && mCk ms ps
theorem mCk_ok : ∀ (ms : List zMT) (ps : List (List (Nat × Nat))), mCk ms ps = true → ∀ m ∈ ms, (∀ w ∈ mWs m, w ∈ ALLW) ∧ mSg m = true
  | [], _, _ => fun _ h => by cases h
  | _ :: _, [], h => by simp [mCk] at h
  | m :: ms, p :: ps, h => by
    simp only [mCk, Bool.and_eq_true] at h
    intro x hx
    rcases List.mem_cons.mp hx with rfl | hx
    · exact ⟨chkW_ok _ _ h.1.1, h.1.2⟩
    · exact mCk_ok ms ps h.2 x hx

set_option maxRecDepth 100000 in
theorem mT_0_ok : ∀ m ∈ mT_0, (∀ w ∈ mWs m, w ∈ ALLW) ∧ mSg m = true := mCk_ok _ mP_0 (by decide +kernel)
set_option maxRecDepth 100000 in
theorem mT_1_ok : ∀ m ∈ mT_1, (∀ w ∈ mWs m, w ∈ ALLW) ∧ mSg m = true := mCk_ok _ mP_1 (by decide +kernel)
set_option maxRecDepth 100000 in
theorem mT_2_ok : ∀ m ∈ mT_2, (∀ w ∈ mWs m, w ∈ ALLW) ∧ mSg m = true := mCk_ok _ mP_2 (by decide +kernel)
set_option maxRecDepth 100000 in
theorem mT_3_ok : ∀ m ∈ mT_3, (∀ w ∈ mWs m, w ∈ ALLW) ∧ mSg m = true := mCk_ok _ mP_3 (by decide +kernel)
theorem mTh_0 : (∀ w ∈ mWs ((⟨"LineBallsLaw", "draw", "([III)I"⟩, method_2_code, 3, (some FieldType.int), 11, 0, 3, []) : zMT), w ∈ ALLW) ∧ mSg ((⟨"LineBallsLaw", "draw", "([III)I"⟩, method_2_code, 3, (some FieldType.int), 11, 0, 3, []) : zMT) = true := by
  refine ⟨fun w hw => ?_, by decide +kernel⟩
  simp only [mWs, mWd, List.mem_cons, List.not_mem_nil, or_false] at hw
  rcases hw with rfl | rfl | rfl
  · exact ALLW_in (tbw_in (q := (2, 217)) rfl) rfl
  · exact ALLW_in (tbw_in (q := (1, 0)) rfl) rfl
  · exact ALLW_in (tbw_in (q := (2, 216)) rfl) rfl
theorem mTh_1 : (∀ w ∈ mWs ((⟨"LineBallsLaw", "four", "(Ljava/lang/String;I)I"⟩, method_3_code, 4, (some FieldType.int), 11, 0, 2, []) : zMT), w ∈ ALLW) ∧ mSg ((⟨"LineBallsLaw", "four", "(Ljava/lang/String;I)I"⟩, method_3_code, 4, (some FieldType.int), 11, 0, 2, []) : zMT) = true := by
  refine ⟨fun w hw => ?_, by decide +kernel⟩
  simp only [mWs, mWd, List.mem_cons, List.not_mem_nil, or_false] at hw
  rcases hw with rfl | rfl | rfl
  · exact ALLW_in (tbw_in (q := (4, 25)) rfl) rfl
  · exact ALLW_in (tbw_in (q := (1, 0)) rfl) rfl
  · exact ALLW_in (tbw_in (q := (4, 24)) rfl) rfl
theorem mTh_2 : (∀ w ∈ mWs ((⟨"LineBallsLaw", "feed", "(LLineBalls;Ljava/lang/String;)V"⟩, method_4_code, 4, none, 11, 0, 2, []) : zMT), w ∈ ALLW) ∧ mSg ((⟨"LineBallsLaw", "feed", "(LLineBalls;Ljava/lang/String;)V"⟩, method_4_code, 4, none, 11, 0, 2, []) : zMT) = true := by
  refine ⟨fun w hw => ?_, by decide +kernel⟩
  simp only [mWs, mWd, List.mem_cons, List.not_mem_nil, or_false] at hw
  rcases hw with rfl | rfl | rfl
  · exact ALLW_in (tbw_in (q := (4, 21)) rfl) rfl
  · exact ALLW_in (tbw_in (q := (1, 0)) rfl) rfl
  · exact ALLW_in (tbw_in (q := (4, 20)) rfl) rfl
theorem mTh_3 : (∀ w ∈ mWs ((⟨"LineBallsLaw", "name", "(I)C"⟩, method_5_code, 1, (some FieldType.char), 11, 0, 1, []) : zMT), w ∈ ALLW) ∧ mSg ((⟨"LineBallsLaw", "name", "(I)C"⟩, method_5_code, 1, (some FieldType.char), 11, 0, 1, []) : zMT) = true := by
  refine ⟨fun w hw => ?_, by decide +kernel⟩
  simp only [mWs, mWd, List.mem_cons, List.not_mem_nil, or_false] at hw
  rcases hw with rfl | rfl | rfl
  · exact ALLW_in (tbw_in (q := (3, 173)) rfl) rfl
  · exact ALLW_in (tbw_in (q := (1, 0)) rfl) rfl
  · exact ALLW_in (tbw_in (q := (3, 172)) rfl) rfl
theorem mTh_4 : (∀ w ∈ mWs ((⟨"LineBallsLaw", "load", "(LLineBalls;[I)Z"⟩, method_6_code, 10, (some FieldType.boolean), 11, 0, 2, []) : zMT), w ∈ ALLW) ∧ mSg ((⟨"LineBallsLaw", "load", "(LLineBalls;[I)Z"⟩, method_6_code, 10, (some FieldType.boolean), 11, 0, 2, []) : zMT) = true := by
  refine ⟨fun w hw => ?_, by decide +kernel⟩
  simp only [mWs, mWd, List.mem_cons, List.not_mem_nil, or_false] at hw
  rcases hw with rfl | rfl | rfl
  · exact ALLW_in (tbw_in (q := (2, 221)) rfl) rfl
  · exact ALLW_in (tbw_in (q := (1, 0)) rfl) rfl
  · exact ALLW_in (tbw_in (q := (2, 220)) rfl) rfl
theorem mTh_5 : (∀ w ∈ mWs ((⟨"LineBallsLaw", "added", "(LLineBalls;III)I"⟩, method_7_code, 5, (some FieldType.int), 11, 0, 4, [(0, 7, 8, 101)]) : zMT), w ∈ ALLW) ∧ mSg ((⟨"LineBallsLaw", "added", "(LLineBalls;III)I"⟩, method_7_code, 5, (some FieldType.int), 11, 0, 4, [(0, 7, 8, 101)]) : zMT) = true := by
  refine ⟨fun w hw => ?_, by decide +kernel⟩
  simp only [mWs, mWd, List.mem_cons, List.not_mem_nil, or_false] at hw
  rcases hw with rfl | rfl | rfl
  · exact ALLW_in (tbw_in (q := (5, 89)) rfl) rfl
  · exact ALLW_in (tbw_in (q := (1, 0)) rfl) rfl
  · exact ALLW_in (tbw_in (q := (5, 88)) rfl) rfl
theorem mTh_6 : (∀ w ∈ mWs ((⟨"LineBallsLaw", "moved", "(LLineBalls;II)I"⟩, method_8_code, 4, (some FieldType.int), 11, 0, 3, [(0, 6, 7, 101)]) : zMT), w ∈ ALLW) ∧ mSg ((⟨"LineBallsLaw", "moved", "(LLineBalls;II)I"⟩, method_8_code, 4, (some FieldType.int), 11, 0, 3, [(0, 6, 7, 101)]) : zMT) = true := by
  refine ⟨fun w hw => ?_, by decide +kernel⟩
  simp only [mWs, mWd, List.mem_cons, List.not_mem_nil, or_false] at hw
  rcases hw with rfl | rfl | rfl
  · exact ALLW_in (tbw_in (q := (5, 138)) rfl) rfl
  · exact ALLW_in (tbw_in (q := (1, 0)) rfl) rfl
  · exact ALLW_in (tbw_in (q := (5, 137)) rfl) rfl
theorem mTh_7 : (∀ w ∈ mWs ((⟨"LineBallsLaw", "act", "(LLineBalls;[II)I"⟩, method_9_code, 7, (some FieldType.int), 11, 0, 3, []) : zMT), w ∈ ALLW) ∧ mSg ((⟨"LineBallsLaw", "act", "(LLineBalls;[II)I"⟩, method_9_code, 7, (some FieldType.int), 11, 0, 3, []) : zMT) = true := by
  refine ⟨fun w hw => ?_, by decide +kernel⟩
  simp only [mWs, mWd, List.mem_cons, List.not_mem_nil, or_false] at hw
  rcases hw with rfl | rfl | rfl
  · exact ALLW_in (tbw_in (q := (4, 225)) rfl) rfl
  · exact ALLW_in (tbw_in (q := (1, 0)) rfl) rfl
  · exact ALLW_in (tbw_in (q := (4, 224)) rfl) rfl
theorem mTh_8 : (∀ w ∈ mWs ((⟨"LineBallsLaw", "isPost", "(LLineBalls;I)Z"⟩, method_11_code, 4, (some FieldType.boolean), 11, 0, 2, []) : zMT), w ∈ ALLW) ∧ mSg ((⟨"LineBallsLaw", "isPost", "(LLineBalls;I)Z"⟩, method_11_code, 4, (some FieldType.boolean), 11, 0, 2, []) : zMT) = true := by
  refine ⟨fun w hw => ?_, by decide +kernel⟩
  simp only [mWs, mWd, List.mem_cons, List.not_mem_nil, or_false] at hw
  rcases hw with rfl | rfl | rfl
  · exact ALLW_in (tbw_in (q := (5, 153)) rfl) rfl
  · exact ALLW_in (tbw_in (q := (1, 0)) rfl) rfl
  · exact ALLW_in (tbw_in (q := (5, 152)) rfl) rfl
theorem mTh_9 : (∀ w ∈ mWs ((⟨"LineBallsLaw", "stands", "(LLineBalls;J)Z"⟩, method_12_code, 13, (some FieldType.boolean), 11, 0, 2, []) : zMT), w ∈ ALLW) ∧ mSg ((⟨"LineBallsLaw", "stands", "(LLineBalls;J)Z"⟩, method_12_code, 13, (some FieldType.boolean), 11, 0, 2, []) : zMT) = true := by
  refine ⟨fun w hw => ?_, by decide +kernel⟩
  simp only [mWs, mWd, List.mem_cons, List.not_mem_nil, or_false] at hw
  rcases hw with rfl | rfl | rfl
  · exact ALLW_in (tbw_in (q := (5, 146)) rfl) rfl
  · exact ALLW_in (tbw_in (q := (1, 0)) rfl) rfl
  · exact ALLW_in (tbw_in (q := (5, 145)) rfl) rfl
theorem mTh_10 : (∀ w ∈ mWs ((⟨"LineBallsLaw", "counts", "(LLineBalls;)Z"⟩, method_13_code, 8, (some FieldType.boolean), 11, 0, 1, []) : zMT), w ∈ ALLW) ∧ mSg ((⟨"LineBallsLaw", "counts", "(LLineBalls;)Z"⟩, method_13_code, 8, (some FieldType.boolean), 11, 0, 1, []) : zMT) = true := by
  refine ⟨fun w hw => ?_, by decide +kernel⟩
  simp only [mWs, mWd, List.mem_cons, List.not_mem_nil, or_false] at hw
  rcases hw with rfl | rfl | rfl
  · exact ALLW_in (tbw_in (q := (5, 165)) rfl) rfl
  · exact ALLW_in (tbw_in (q := (1, 0)) rfl) rfl
  · exact ALLW_in (tbw_in (q := (5, 164)) rfl) rfl
theorem mTh_11 : (∀ w ∈ mWs ((⟨"LineBallsLaw", "order", "(LLineBalls;)[I"⟩, method_14_code, 3, (some (FieldType.array FieldType.int)), 11, 0, 1, []) : zMT), w ∈ ALLW) ∧ mSg ((⟨"LineBallsLaw", "order", "(LLineBalls;)[I"⟩, method_14_code, 3, (some (FieldType.array FieldType.int)), 11, 0, 1, []) : zMT) = true := by
  refine ⟨fun w hw => ?_, by decide +kernel⟩
  simp only [mWs, mWd, List.mem_cons, List.not_mem_nil, or_false] at hw
  rcases hw with rfl | rfl | rfl
  · exact ALLW_in (tbw_in (q := (5, 181)) rfl) rfl
  · exact ALLW_in (tbw_in (q := (1, 0)) rfl) rfl
  · exact ALLW_in (tbw_in (q := (5, 180)) rfl) rfl
theorem mT_4_ok : ∀ m ∈ mT_4, (∀ w ∈ mWs m, w ∈ ALLW) ∧ mSg m = true := List.forall_mem_cons.mpr ⟨mTh_0, List.forall_mem_cons.mpr ⟨mTh_1, List.forall_mem_cons.mpr ⟨mTh_2, List.forall_mem_cons.mpr ⟨mTh_3, List.forall_mem_cons.mpr ⟨mTh_4, List.forall_mem_cons.mpr ⟨mTh_5, List.forall_mem_cons.mpr ⟨mTh_6, List.forall_mem_cons.mpr ⟨mTh_7, List.forall_mem_cons.mpr ⟨mTh_8, List.forall_mem_cons.mpr ⟨mTh_9, List.forall_mem_cons.mpr ⟨mTh_10, List.forall_mem_cons.mpr ⟨mTh_11, fun _ h => by cases h⟩⟩⟩⟩⟩⟩⟩⟩⟩⟩⟩⟩
set_option maxRecDepth 100000 in
theorem mT_5_ok : ∀ m ∈ mT_5, (∀ w ∈ mWs m, w ∈ ALLW) ∧ mSg m = true := mCk_ok _ mP_5 (by decide +kernel)
theorem mT_ok : ∀ m ∈ mT_0 ++ (mT_1 ++ (mT_2 ++ (mT_3 ++ (mT_4 ++ (mT_5))))), (∀ w ∈ mWs m, w ∈ ALLW) ∧ mSg m = true := by
  intro m h
  simp only [List.mem_append] at h
  rcases h with h | h | h | h | h | h
  · exact mT_0_ok m h
  · exact mT_1_ok m h
  · exact mT_2_ok m h
  · exact mT_3_ok m h
  · exact mT_4_ok m h
  · exact mT_5_ok m h
