/-! The static tables: classes by number, methods by number, links by (class, pool index). Made by wip/whole/gen/gen3.py. -/
def RX0 : String := "LineBalls$Ball"
def TX0 : u_T := fun k => match k with
  | 0 => ("LineBalls$Ball", "name", "I", false)
  | 1 => ("LineBalls$Ball", "cell", "I", false)
  | 2 => ("LineBalls$Ball", "speed", "I", false)
  | 3 => ("LineBalls$Ball", "weight", "I", false)
  | 4 => ("LineBalls$Ball", "saved", "I", false)
  | 5 => ("LineBalls$Ball", "went", "I", false)
  | 6 => ("LineBalls$Ball", "hits", "I", false)
  | 7 => ("LineBalls$Ball", "bounces", "I", false)
  | 8 => ("LineBalls$Ball", "waits", "I", false)
  | 9 => ("LineBalls$Ball", "dueSide", "I", false)
  | _ => ("LineBalls$Ball", "struck", "Z", false)
def tyX0 : Nat → FieldType := fun k => match k with
  | 0 => .int
  | 1 => .int
  | 2 => .int
  | 3 => .int
  | 4 => .int
  | 5 => .int
  | 6 => .int
  | 7 => .int
  | 8 => .int
  | 9 => .int
  | _ => .boolean
theorem nmX0 : ∀ a, a < 11 → ∀ b, b < 11 → a ≠ b → (TX0 a).2.1 ≠ (TX0 b).2.1 := by decide +kernel
theorem tyX0_ok : ∀ k, k < 11 → parseFieldDescriptor (TX0 k).2.2.1 = some (tyX0 k) := by decide +kernel
def RX1 : String := "LineBalls$Barrier"
def TX1 : u_T := fun k => match k with
  | 0 => ("LineBalls$Barrier", "cell", "I", false)
  | 1 => ("LineBalls$Barrier", "steals", "I", false)
  | _ => ("LineBalls$Barrier", "bounces", "I", false)
def tyX1 : Nat → FieldType := fun k => match k with
  | 0 => .int
  | 1 => .int
  | _ => .int
theorem nmX1 : ∀ a, a < 3 → ∀ b, b < 3 → a ≠ b → (TX1 a).2.1 ≠ (TX1 b).2.1 := by decide +kernel
theorem tyX1_ok : ∀ k, k < 3 → parseFieldDescriptor (TX1 k).2.2.1 = some (tyX1 k) := by decide +kernel
def RX2 : String := "LineBalls$Book"
def TX2 : u_T := fun k => match k with
  | 0 => ("LineBalls$Book", "pairs", "[I", true)
  | 1 => ("LineBalls$Book", "got", "J", false)
  | 2 => ("LineBalls$Book", "traded", "J", false)
  | 3 => ("LineBalls$Book", "pushed", "J", false)
  | 4 => ("LineBalls$Book", "hits", "I", false)
  | 5 => ("LineBalls$Book", "bounces", "I", false)
  | 6 => ("LineBalls$Book", "waits", "I", false)
  | _ => ("LineBalls$Book", "went", "I", false)
def tyX2 : Nat → FieldType := fun k => match k with
  | 0 => .array .int
  | 1 => .long
  | 2 => .long
  | 3 => .long
  | 4 => .int
  | 5 => .int
  | 6 => .int
  | _ => .int
theorem nmX2 : ∀ a, a < 8 → ∀ b, b < 8 → a ≠ b → (TX2 a).2.1 ≠ (TX2 b).2.1 := by decide +kernel
theorem tyX2_ok : ∀ k, k < 8 → parseFieldDescriptor (TX2 k).2.2.1 = some (tyX2 k) := by decide +kernel
def RX3 : String := "LineBalls$History"
def TX3 : u_T := fun k => match k with
  | 0 => ("LineBalls$History", "past", "[LLineBalls$Line;", true)
  | 1 => ("LineBalls$History", "first", "I", false)
  | _ => ("LineBalls$History", "count", "I", false)
def tyX3 : Nat → FieldType := fun k => match k with
  | 0 => .array (.object "LineBalls$Line")
  | 1 => .int
  | _ => .int
theorem nmX3 : ∀ a, a < 3 → ∀ b, b < 3 → a ≠ b → (TX3 a).2.1 ≠ (TX3 b).2.1 := by decide +kernel
theorem tyX3_ok : ∀ k, k < 3 → parseFieldDescriptor (TX3 k).2.2.1 = some (tyX3 k) := by decide +kernel
def RX4 : String := "LineBalls$Line"
def TX4 : u_T := fun k => match k with
  | 0 => ("LineBalls$Line", "cells", "I", false)
  | 1 => ("LineBalls$Line", "time", "I", false)
  | 2 => ("LineBalls$Line", "balls", "[LLineBalls$Ball;", true)
  | 3 => ("LineBalls$Line", "ballCount", "I", false)
  | 4 => ("LineBalls$Line", "order", "[I", true)
  | 5 => ("LineBalls$Line", "posts", "[LLineBalls$Barrier;", true)
  | 6 => ("LineBalls$Line", "postCount", "I", false)
  | 7 => ("LineBalls$Line", "leftWall", "LLineBalls$Barrier;", true)
  | 8 => ("LineBalls$Line", "rightWall", "LLineBalls$Barrier;", true)
  | 9 => ("LineBalls$Line", "log", "LLineBalls$Log;", true)
  | _ => ("LineBalls$Line", "book", "LLineBalls$Book;", true)
def tyX4 : Nat → FieldType := fun k => match k with
  | 0 => .int
  | 1 => .int
  | 2 => .array (.object "LineBalls$Ball")
  | 3 => .int
  | 4 => .array .int
  | 5 => .array (.object "LineBalls$Barrier")
  | 6 => .int
  | 7 => .object "LineBalls$Barrier"
  | 8 => .object "LineBalls$Barrier"
  | 9 => .object "LineBalls$Log"
  | _ => .object "LineBalls$Book"
theorem nmX4 : ∀ a, a < 11 → ∀ b, b < 11 → a ≠ b → (TX4 a).2.1 ≠ (TX4 b).2.1 := by decide +kernel
theorem tyX4_ok : ∀ k, k < 11 → parseFieldDescriptor (TX4 k).2.2.1 = some (tyX4 k) := by decide +kernel
def RX5 : String := "LineBalls$Log"
def TX5 : u_T := fun k => match k with
  | 0 => ("LineBalls$Log", "times", "[I", true)
  | 1 => ("LineBalls$Log", "movers", "[I", true)
  | 2 => ("LineBalls$Log", "others", "[I", true)
  | 3 => ("LineBalls$Log", "amounts", "[I", true)
  | 4 => ("LineBalls$Log", "next", "I", false)
  | _ => ("LineBalls$Log", "size", "I", false)
def tyX5 : Nat → FieldType := fun k => match k with
  | 0 => .array .int
  | 1 => .array .int
  | 2 => .array .int
  | 3 => .array .int
  | 4 => .int
  | _ => .int
theorem nmX5 : ∀ a, a < 6 → ∀ b, b < 6 → a ≠ b → (TX5 a).2.1 ≠ (TX5 b).2.1 := by decide +kernel
theorem tyX5_ok : ∀ k, k < 6 → parseFieldDescriptor (TX5 k).2.2.1 = some (tyX5 k) := by decide +kernel
def RX6 : String := "LineBalls$Output"
def TX6 : u_T := fun k => match k with
  | 0 => ("LineBalls$Output", "bytes", "[B", true)
  | _ => ("LineBalls$Output", "length", "I", false)
def tyX6 : Nat → FieldType := fun k => match k with
  | 0 => .array .byte
  | _ => .int
theorem nmX6 : ∀ a, a < 2 → ∀ b, b < 2 → a ≠ b → (TX6 a).2.1 ≠ (TX6 b).2.1 := by decide +kernel
theorem tyX6_ok : ∀ k, k < 2 → parseFieldDescriptor (TX6 k).2.2.1 = some (tyX6 k) := by decide +kernel
def RX7 : String := "LineBalls$Parser"
def TX7 : u_T := fun k => match k with
  | 0 => ("LineBalls$Parser", "text", "[B", true)
  | 1 => ("LineBalls$Parser", "line", "LLineBalls$Line;", true)
  | 2 => ("LineBalls$Parser", "length", "I", false)
  | 3 => ("LineBalls$Parser", "kind", "I", false)
  | 4 => ("LineBalls$Parser", "start", "I", false)
  | 5 => ("LineBalls$Parser", "end", "I", false)
  | _ => ("LineBalls$Parser", "error", "I", false)
def tyX7 : Nat → FieldType := fun k => match k with
  | 0 => .array .byte
  | 1 => .object "LineBalls$Line"
  | 2 => .int
  | 3 => .int
  | 4 => .int
  | 5 => .int
  | _ => .int
theorem nmX7 : ∀ a, a < 7 → ∀ b, b < 7 → a ≠ b → (TX7 a).2.1 ≠ (TX7 b).2.1 := by decide +kernel
theorem tyX7_ok : ∀ k, k < 7 → parseFieldDescriptor (TX7 k).2.2.1 = some (tyX7 k) := by decide +kernel
def RX8 : String := "LineBalls"
def TX8 : u_T := fun k => match k with
  | 0 => ("LineBalls", "input", "[B", true)
  | 1 => ("LineBalls", "inputLength", "I", false)
  | 2 => ("LineBalls", "output", "LLineBalls$Output;", true)
  | 3 => ("LineBalls", "errorCode", "I", false)
  | 4 => ("LineBalls", "errorPosition", "I", false)
  | 5 => ("LineBalls", "now", "LLineBalls$Line;", true)
  | 6 => ("LineBalls", "trial", "LLineBalls$Line;", true)
  | 7 => ("LineBalls", "parser", "LLineBalls$Parser;", true)
  | 8 => ("LineBalls", "history", "LLineBalls$History;", true)
  | 9 => ("LineBalls", "slots", "[LLineBalls$Line;", true)
  | _ => ("LineBalls", "kept", "[Z", true)
def tyX8 : Nat → FieldType := fun k => match k with
  | 0 => .array .byte
  | 1 => .int
  | 2 => .object "LineBalls$Output"
  | 3 => .int
  | 4 => .int
  | 5 => .object "LineBalls$Line"
  | 6 => .object "LineBalls$Line"
  | 7 => .object "LineBalls$Parser"
  | 8 => .object "LineBalls$History"
  | 9 => .array (.object "LineBalls$Line")
  | _ => .array .boolean
theorem nmX8 : ∀ a, a < 11 → ∀ b, b < 11 → a ≠ b → (TX8 a).2.1 ≠ (TX8 b).2.1 := by decide +kernel
theorem tyX8_ok : ∀ k, k < 11 → parseFieldDescriptor (TX8 k).2.2.1 = some (tyX8 k) := by decide +kernel
def RX9 : String := "LineBallsModel"
def TX9 : u_T := fun k => match k with
  | 0 => ("LineBallsModel", "thrown", "I", false)
  | 1 => ("LineBallsModel", "net", "[J", true)
  | 2 => ("LineBallsModel", "draft", "[J", true)
  | 3 => ("LineBallsModel", "row", "[J", false)
  | 4 => ("LineBallsModel", "partOfLeft", "I", false)
  | 5 => ("LineBallsModel", "partOfRight", "I", false)
  | 6 => ("LineBallsModel", "struck", "I", false)
  | 7 => ("LineBallsModel", "firstTurn", "I", false)
  | 8 => ("LineBallsModel", "firstOther", "I", false)
  | 9 => ("LineBallsModel", "dueLeft", "I", false)
  | 10 => ("LineBallsModel", "dueRight", "I", false)
  | 11 => ("LineBallsModel", "aside", "[J", true)
  | 12 => ("LineBallsModel", "input", "[B", true)
  | 13 => ("LineBallsModel", "inputSize", "I", false)
  | 14 => ("LineBallsModel", "textSize", "I", false)
  | 15 => ("LineBallsModel", "next", "I", false)
  | 16 => ("LineBallsModel", "start", "I", false)
  | 17 => ("LineBallsModel", "token", "I", false)
  | 18 => ("LineBallsModel", "value", "I", false)
  | 19 => ("LineBallsModel", "errorFound", "I", false)
  | 20 => ("LineBallsModel", "errorPlace", "I", false)
  | 21 => ("LineBallsModel", "keeps", "[J", true)
  | 22 => ("LineBallsModel", "isFull", "[Z", true)
  | 23 => ("LineBallsModel", "past", "[J", true)
  | 24 => ("LineBallsModel", "remembered", "I", false)
  | 25 => ("LineBallsModel", "output", "[B", true)
  | _ => ("LineBallsModel", "outputSize", "I", false)
def tyX9 : Nat → FieldType := fun k => match k with
  | 0 => .int
  | 1 => .array .long
  | 2 => .array .long
  | 3 => .array .long
  | 4 => .int
  | 5 => .int
  | 6 => .int
  | 7 => .int
  | 8 => .int
  | 9 => .int
  | 10 => .int
  | 11 => .array .long
  | 12 => .array .byte
  | 13 => .int
  | 14 => .int
  | 15 => .int
  | 16 => .int
  | 17 => .int
  | 18 => .int
  | 19 => .int
  | 20 => .int
  | 21 => .array .long
  | 22 => .array .boolean
  | 23 => .array .long
  | 24 => .int
  | 25 => .array .byte
  | _ => .int
theorem nmX9 : ∀ a, a < 27 → ∀ b, b < 27 → a ≠ b → (TX9 a).2.1 ≠ (TX9 b).2.1 := by decide +kernel
theorem tyX9_ok : ∀ k, k < 27 → parseFieldDescriptor (TX9 k).2.2.1 = some (tyX9 k) := by decide +kernel
abbrev vwCl : List vw_C := [(RX0, TX0, 11), (RX1, TX1, 3), (RX2, TX2, 8), (RX3, TX3, 3), (RX4, TX4, 11), (RX5, TX5, 6), (RX6, TX6, 2), (RX7, TX7, 7), (RX8, TX8, 11), (RX9, TX9, 27)]
def zTY (ci : Nat) : Nat → FieldType := match ci with
  | 0 => tyX0
  | 1 => tyX1
  | 2 => tyX2
  | 3 => tyX3
  | 4 => tyX4
  | 5 => tyX5
  | 6 => tyX6
  | 7 => tyX7
  | 8 => tyX8
  | _ => tyX9
def zT (ci : Nat) : u_T := match ci with
  | 0 => TX0
  | 1 => TX1
  | 2 => TX2
  | 3 => TX3
  | 4 => TX4
  | 5 => TX5
  | 6 => TX6
  | 7 => TX7
  | 8 => TX8
  | _ => TX9
def zN (ci : Nat) : Nat := match ci with
  | 0 => 11
  | 1 => 3
  | 2 => 8
  | 3 => 3
  | 4 => 11
  | 5 => 6
  | 6 => 2
  | 7 => 7
  | 8 => 11
  | _ => 27
def zC (ci : Nat) : String := match ci with
  | 0 => "LineBalls$Ball"
  | 1 => "LineBalls$Barrier"
  | 2 => "LineBalls$Book"
  | 3 => "LineBalls$History"
  | 4 => "LineBalls$Line"
  | 5 => "LineBalls$Log"
  | 6 => "LineBalls$Output"
  | 7 => "LineBalls$Parser"
  | 8 => "LineBalls"
  | 9 => "LineBallsModel"
  | 10 => "LineBallsLaw"
  | 11 => "java/lang/String"
  | 12 => "java/lang/StringLatin1"
  | _ => "jdk/internal/util/Preconditions"
def tbl (a : Nat) : List Cond := match a with
  | 0 => k2_sels lw_privs
  | 1 => tables_1_1
  | 2 => tables_1_2
  | 3 => tables_1_3
  | 4 => tables_1_4
  | 5 => tables_1_5
  | 6 => tables_1_6
  | 7 => tables_1_7
  | _ => tables_1_8
theorem tbl_in (a : Nat) : ∀ w ∈ tbl a, w ∈ lw_tbl := by
  intro w h
  have h1 : ∀ w ∈ tables_1, w ∈ lw_tbl := fun w h => List.mem_append_right _ h
  match a, h with
  | 0, h => exact List.mem_append_left _ h
  | 1, h => exact h1 _ (List.mem_append_left _ h)
  | 2, h => exact h1 _ (List.mem_append_right _ (List.mem_append_left _ h))
  | 3, h => exact h1 _ (List.mem_append_right _ (List.mem_append_right _ (List.mem_append_left _ h)))
  | 4, h => exact h1 _ (List.mem_append_right _ (List.mem_append_right _ (List.mem_append_right _ (List.mem_append_left _ h))))
  | 5, h => exact h1 _ (List.mem_append_right _ (List.mem_append_right _ (List.mem_append_right _ (List.mem_append_right _ (List.mem_append_left _ h)))))
  | 6, h => exact h1 _ (List.mem_append_right _ (List.mem_append_right _ (List.mem_append_right _ (List.mem_append_right _ (List.mem_append_right _ (List.mem_append_left _ h))))))
  | 7, h => exact h1 _ (List.mem_append_right _ (List.mem_append_right _ (List.mem_append_right _ (List.mem_append_right _ (List.mem_append_right _ (List.mem_append_right _ (List.mem_append_left _ h)))))))
  | n + 8, h => exact h1 _ (List.mem_append_right _ (List.mem_append_right _ (List.mem_append_right _ (List.mem_append_right _ (List.mem_append_right _ (List.mem_append_right _ (List.mem_append_right _ h)))))))
def tbw (q : Nat × Nat) : Option Cond := (tbl q.1)[q.2]?
theorem tbw_in {q : Nat × Nat} {w : Cond} (h : tbw q = some w) : w ∈ lw_tbl := tbl_in _ _ (List.mem_of_getElem? h)
/-- the words that last -/
def ALLW : List Cond := lw_tbl.filter goodWord
theorem ALLW_lw : ∀ w ∈ ALLW, w ∈ lw_tbl := fun _ h => (List.mem_filter.mp h).1
theorem ALLW_good : ∀ w ∈ ALLW, goodWord w = true := fun _ h => (List.mem_filter.mp h).2
theorem ALLW_in {w : Cond} (h : w ∈ lw_tbl) (hg : goodWord w = true) : w ∈ ALLW := List.mem_filter.mpr ⟨h, hg⟩
/-- each word of a list stands at its place, and lasts -/
def chkW (ws : List Cond) (ps : List (Nat × Nat)) : Bool := match ws, ps with
  | [], _ => true
  | _ :: _, [] => false
  | w :: ws, p :: ps => decide (tbw p = some w) && goodWord w && chkW ws ps
theorem chkW_ok : ∀ (ws : List Cond) (ps : List (Nat × Nat)), chkW ws ps = true → ∀ w ∈ ws, w ∈ ALLW
  | [], _, _ => fun _ h => by cases h
  | _ :: _, [], h => by simp [chkW] at h
  | w :: ws, p :: ps, h => by
    simp only [chkW, Bool.and_eq_true, decide_eq_true_eq] at h
    intro x hx
    rcases List.mem_cons.mp hx with rfl | hx
    · exact ALLW_in (tbw_in h.1.1) h.1.2
    · exact chkW_ok ws ps h.2 x hx

theorem inX0 : ∀ w ∈ u_ws RX0 TX0 11, w ∈ ALLW := chkW_ok _ [(1, 185), (1, 187), (1, 189), (1, 191), (1, 193), (1, 195), (1, 197), (1, 199), (1, 201), (1, 203), (1, 205)] (by decide +kernel)
theorem inX1 : ∀ w ∈ u_ws RX1 TX1 3, w ∈ ALLW := chkW_ok _ [(1, 72), (1, 74), (1, 76)] (by decide +kernel)
theorem inX2 : ∀ w ∈ u_ws RX2 TX2 8, w ∈ ALLW := chkW_ok _ [(1, 134), (1, 136), (1, 138), (1, 140), (1, 142), (1, 144), (1, 146), (1, 148)] (by decide +kernel)
theorem inX3 : ∀ w ∈ u_ws RX3 TX3 3, w ∈ ALLW := chkW_ok _ [(2, 73), (2, 75), (2, 77)] (by decide +kernel)
theorem inX4 : ∀ w ∈ u_ws RX4 TX4 11, w ∈ ALLW := chkW_ok _ [(2, 9), (2, 11), (2, 13), (2, 15), (2, 17), (2, 19), (2, 21), (2, 23), (2, 25), (2, 27), (2, 29)] (by decide +kernel)
theorem inX5 : ∀ w ∈ u_ws RX5 TX5 6, w ∈ ALLW := chkW_ok _ [(1, 93), (1, 95), (1, 97), (1, 99), (1, 101), (1, 103)] (by decide +kernel)
theorem inX6 : ∀ w ∈ u_ws RX6 TX6 2, w ∈ ALLW := chkW_ok _ [(1, 42), (1, 44)] (by decide +kernel)
theorem inX7 : ∀ w ∈ u_ws RX7 TX7 7, w ∈ ALLW := chkW_ok _ [(2, 45), (2, 47), (2, 49), (2, 51), (2, 53), (2, 55), (2, 57)] (by decide +kernel)
theorem inX8 : ∀ w ∈ u_ws RX8 TX8 11, w ∈ ALLW := chkW_ok _ [(2, 91), (2, 93), (2, 95), (2, 97), (2, 99), (2, 101), (2, 103), (2, 105), (2, 107), (2, 109), (2, 111)] (by decide +kernel)
theorem inX9 : ∀ w ∈ u_ws RX9 TX9 27, w ∈ ALLW := chkW_ok _ [(6, 43), (6, 45), (6, 47), (6, 49), (6, 51), (6, 53), (6, 55), (6, 57), (6, 59), (6, 61), (6, 63), (6, 65), (6, 67), (6, 69), (6, 71), (6, 73), (6, 75), (6, 77), (6, 79), (6, 81), (6, 83), (6, 85), (6, 87), (6, 89), (6, 91), (6, 93), (6, 95)] (by decide +kernel)
/-- a method: name, code, locals, what it returns, its class, kind (0 static, 1 virtual, 2 constructor), parameters, handlers -/
abbrev zMT : Type := MethodName × ByteArray × Nat × Option FieldType × Nat × Nat × Nat × List (Nat × Nat × Nat × Nat)
def mT_0 : List zMT := [(⟨"LineBalls$Ball", "<init>", "()V"⟩, prog_2_method_1_code, 1, none, 0, 2, 0, []),
  (⟨"LineBalls$Ball", "begin", "(IIII)V"⟩, prog_2_method_2_code, 5, none, 0, 1, 4, []),
  (⟨"LineBalls$Ball", "copyFrom", "(LLineBalls$Ball;)V"⟩, prog_2_method_3_code, 2, none, 0, 1, 1, []),
  (⟨"LineBalls$Ball", "pace", "()I"⟩, prog_2_method_4_code, 1, (some FieldType.int), 0, 1, 0, []),
  (⟨"LineBalls$Ball", "save", "()Z"⟩, prog_2_method_10_code, 1, (some FieldType.boolean), 0, 1, 0, []),
  (⟨"LineBalls$Ball", "push", "()I"⟩, prog_2_method_5_code, 1, (some FieldType.int), 0, 1, 0, []),
  (⟨"LineBalls$Ball", "speedBehindBounce", "(I)I"⟩, prog_2_method_7_code, 4, (some FieldType.int), 0, 1, 1, []),
  (⟨"LineBalls$Ball", "stepAgainst", "(LLineBalls$Ball;)I"⟩, prog_2_method_8_code, 3, (some FieldType.int), 0, 1, 1, []),
  (⟨"LineBalls$Ball", "energy", "()I"⟩, prog_2_method_6_code, 1, (some FieldType.int), 0, 1, 0, []),
  (⟨"LineBalls$Ball", "pulsesUntilDue", "()I"⟩, prog_2_method_9_code, 2, (some FieldType.int), 0, 1, 0, []),
  (⟨"LineBalls$Barrier", "<init>", "()V"⟩, prog_3_method_1_code, 1, none, 1, 2, 0, []),
  (⟨"LineBalls$Barrier", "begin", "(II)V"⟩, prog_3_method_2_code, 3, none, 1, 1, 2, []),
  (⟨"LineBalls$Barrier", "copyFrom", "(LLineBalls$Barrier;)V"⟩, prog_3_method_3_code, 2, none, 1, 1, 1, []),
  (⟨"LineBalls$Book", "<init>", "()V"⟩, prog_4_method_1_code, 1, none, 2, 2, 0, []),
  (⟨"LineBalls$Book", "clear", "()V"⟩, prog_4_method_2_code, 2, none, 2, 1, 0, []),
  (⟨"LineBalls$Book", "copyFrom", "(LLineBalls$Book;)V"⟩, prog_4_method_3_code, 2, none, 2, 1, 1, []),
  (⟨"LineBalls$Book", "noteHit", "(II)V"⟩, prog_4_method_5_code, 3, none, 2, 1, 2, []),
  (⟨"LineBalls$Book", "hitsOf", "(II)I"⟩, prog_4_method_4_code, 3, (some FieldType.int), 2, 1, 2, []),
  (⟨"LineBalls$Book", "dropBall", "(I)V"⟩, prog_4_method_6_code, 4, none, 2, 1, 1, []),
  (⟨"LineBalls$Book", "pairBehind", "(II)I"⟩, prog_4_method_7_code, 3, (some FieldType.int), 2, 1, 2, []),
  (⟨"LineBalls$History", "<init>", "()V"⟩, prog_5_method_1_code, 2, none, 3, 2, 0, []),
  (⟨"LineBalls$History", "remember", "(LLineBalls$Line;)V"⟩, prog_5_method_2_code, 2, none, 3, 1, 1, []),
  (⟨"LineBalls$History", "bringBack", "(LLineBalls$Line;)V"⟩, prog_5_method_3_code, 2, none, 3, 1, 1, []),
  (⟨"LineBalls$Line", "<init>", "()V"⟩, prog_6_method_1_code, 2, none, 4, 2, 0, []),
  (⟨"LineBalls$Line", "clear", "(III)V"⟩, prog_6_method_2_code, 4, none, 4, 1, 3, []),
  (⟨"LineBalls$Line", "taken", "(I)Z"⟩, prog_6_method_7_code, 2, (some FieldType.boolean), 4, 1, 1, []),
  (⟨"LineBalls$Line", "barrierAt", "(I)LLineBalls$Barrier;"⟩, prog_6_method_6_code, 3, (some (FieldType.object "LineBalls$Barrier")), 4, 1, 1, []),
  (⟨"LineBalls$Line", "ballAt", "(I)I"⟩, prog_6_method_4_code, 3, (some FieldType.int), 4, 1, 1, []),
  (⟨"LineBalls$Line", "putPost", "(II)V"⟩, prog_6_method_14_code, 3, none, 4, 1, 2, []),
  (⟨"LineBalls$Line", "ballNamed", "(I)I"⟩, prog_6_method_5_code, 3, (some FieldType.int), 4, 1, 1, []),
  (⟨"LineBalls$Line", "putBall", "(IIII)V"⟩, prog_6_method_15_code, 5, none, 4, 1, 4, []),
  (⟨"LineBalls$Line", "sortByCell", "()V"⟩, prog_6_method_17_code, 3, none, 4, 1, 0, []),
  (⟨"LineBalls$Line", "copyFrom", "(LLineBalls$Line;)V"⟩, prog_6_method_3_code, 3, none, 4, 1, 1, []),
  (⟨"LineBalls$Line", "passPulses", "(I)I"⟩, prog_6_method_18_code, 5, (some FieldType.int), 4, 1, 1, []),
  (⟨"LineBalls$Line", "beginPulse", "()Z"⟩, prog_6_method_19_code, 3, (some FieldType.boolean), 4, 1, 0, []),
  (⟨"LineBalls$Line", "takeTurn", "(II)V"⟩, prog_6_method_20_code, 8, none, 4, 1, 2, []),
  (⟨"LineBalls$Line", "bounce", "(ILLineBalls$Barrier;)V"⟩, prog_6_method_21_code, 6, none, 4, 1, 2, []),
  (⟨"LineBalls$Line", "meet", "(III)V"⟩, prog_6_method_22_code, 8, none, 4, 1, 3, []),
  (⟨"LineBalls$Line", "tradeSize", "(LLineBalls$Ball;LLineBalls$Ball;)I"⟩, prog_6_method_23_code, 7, (some FieldType.int), 4, 0, 2, []),
  (⟨"LineBalls$Line", "movingBalls", "()I"⟩, prog_6_method_9_code, 3, (some FieldType.int), 4, 1, 0, [])]
def mP_0 : List (List (Nat × Nat)) := [[(1, 154), (1, 7), (1, 153)], [(3, 37), (1, 7), (3, 35), (3, 36)], [(3, 57), (1, 7), (3, 55), (3, 56)], [(3, 96), (1, 7), (3, 94), (3, 95)], [(3, 120), (1, 7), (3, 118), (3, 119)], [(3, 134), (1, 7), (3, 132), (3, 133)], [(3, 138), (1, 7), (3, 136), (3, 137)], [(3, 154), (1, 7), (3, 152), (3, 153)], [(5, 27), (1, 7), (5, 25), (5, 26)], [(5, 62), (1, 7), (5, 60), (5, 61)], [(1, 61), (1, 4), (1, 60)], [(1, 215), (1, 4), (1, 213), (1, 214)], [(3, 61), (1, 4), (3, 59), (3, 60)], [(1, 110), (1, 6), (1, 109)], [(1, 223), (1, 6), (1, 221), (1, 222)], [(3, 72), (1, 6), (3, 70), (3, 71)], [(3, 161), (1, 6), (3, 159), (3, 160)], [(5, 1), (1, 6), (4, 239), (5, 0)], [(5, 189), (1, 6), (5, 187), (5, 188)], [(5, 193), (1, 6), (5, 192), (0, 29)], [(2, 64), (1, 9), (2, 63)], [(3, 49), (1, 9), (3, 47), (3, 48)], [(5, 237), (1, 9), (5, 235), (5, 236)], [(1, 52), (1, 3), (1, 51)], [(1, 211), (1, 3), (1, 209), (1, 210)], [(2, 230), (1, 3), (2, 228), (2, 229)], [(2, 234), (1, 3), (2, 232), (2, 233)], [(2, 238), (1, 3), (2, 236), (2, 237)], [(3, 2), (1, 3), (3, 0), (3, 1)], [(3, 25), (1, 3), (3, 23), (3, 24)], [(3, 33), (1, 3), (3, 31), (3, 32)], [(3, 41), (1, 3), (3, 39), (3, 40)], [(3, 53), (1, 3), (3, 51), (3, 52)], [(3, 112), (1, 3), (3, 110), (3, 111)], [(3, 116), (1, 3), (3, 115), (0, 17)], [(3, 125), (1, 3), (3, 124), (0, 18)], [(3, 129), (1, 3), (3, 128), (0, 19)], [(3, 147), (1, 3), (3, 146), (0, 20)], [(3, 150), (1, 3), (3, 149)], [(3, 197), (1, 3), (3, 195), (3, 196)]]
def mT_1 : List zMT := [(⟨"LineBalls$Line", "weights", "()I"⟩, prog_6_method_10_code, 3, (some FieldType.int), 4, 1, 0, []),
  (⟨"LineBalls$Line", "push", "()I"⟩, prog_6_method_11_code, 3, (some FieldType.int), 4, 1, 0, []),
  (⟨"LineBalls$Line", "notePushSince", "(I)V"⟩, prog_6_method_13_code, 2, none, 4, 1, 1, []),
  (⟨"LineBalls$Line", "freeCells", "(II)I"⟩, prog_6_method_8_code, 4, (some FieldType.int), 4, 1, 2, []),
  (⟨"LineBalls$Line", "energy", "()I"⟩, prog_6_method_12_code, 3, (some FieldType.int), 4, 1, 0, []),
  (⟨"LineBalls$Line", "dropBall", "(I)V"⟩, prog_6_method_16_code, 3, none, 4, 1, 1, []),
  (⟨"LineBalls$Log", "<init>", "()V"⟩, prog_7_method_1_code, 1, none, 5, 2, 0, []),
  (⟨"LineBalls$Log", "clear", "()V"⟩, prog_7_method_2_code, 1, none, 5, 1, 0, []),
  (⟨"LineBalls$Log", "copyFrom", "(LLineBalls$Log;)V"⟩, prog_7_method_3_code, 2, none, 5, 1, 1, []),
  (⟨"LineBalls$Log", "add", "(IIII)V"⟩, prog_7_method_4_code, 5, none, 5, 1, 4, []),
  (⟨"LineBalls$Log", "firstHitAt", "(I)I"⟩, prog_7_method_10_code, 3, (some FieldType.int), 5, 1, 1, []),
  (⟨"LineBalls$Log", "timeOf", "(I)I"⟩, prog_7_method_6_code, 2, (some FieldType.int), 5, 1, 1, []),
  (⟨"LineBalls$Log", "slotOf", "(I)I"⟩, prog_7_method_5_code, 2, (some FieldType.int), 5, 1, 1, []),
  (⟨"LineBalls$Log", "otherOf", "(I)I"⟩, prog_7_method_8_code, 2, (some FieldType.int), 5, 1, 1, []),
  (⟨"LineBalls$Log", "moverOf", "(I)I"⟩, prog_7_method_7_code, 2, (some FieldType.int), 5, 1, 1, []),
  (⟨"LineBalls$Log", "amountOf", "(I)I"⟩, prog_7_method_9_code, 2, (some FieldType.int), 5, 1, 1, []),
  (⟨"LineBalls$Log", "dropBall", "(I)V"⟩, prog_7_method_11_code, 3, none, 5, 1, 1, []),
  (⟨"LineBalls$Log", "renumbered", "(II)I"⟩, prog_7_method_12_code, 2, (some FieldType.int), 5, 0, 2, []),
  (⟨"LineBalls$Output", "<init>", "()V"⟩, prog_8_method_1_code, 1, none, 6, 2, 0, []),
  (⟨"LineBalls$Output", "putNumber", "(I)V"⟩, prog_8_method_4_code, 3, none, 6, 1, 1, []),
  (⟨"LineBalls$Output", "put", "(I)V"⟩, prog_8_method_2_code, 2, none, 6, 1, 1, []),
  (⟨"LineBalls$Output", "putSpaceBetween", "()V"⟩, prog_8_method_3_code, 1, none, 6, 1, 0, []),
  (⟨"LineBalls$Parser", "<init>", "([BLLineBalls$Line;)V"⟩, prog_9_method_1_code, 3, none, 7, 2, 2, []),
  (⟨"LineBalls$Parser", "parse", "(I)I"⟩, prog_9_method_2_code, 3, (some FieldType.int), 7, 1, 1, []),
  (⟨"LineBalls$Parser", "nextToken", "()V"⟩, prog_9_method_18_code, 1, none, 7, 1, 0, []),
  (⟨"LineBalls$Parser", "kindAt", "(I)I"⟩, prog_9_method_19_code, 3, (some FieldType.int), 7, 1, 1, []),
  (⟨"LineBalls$Parser", "parseBox", "()V"⟩, prog_9_method_4_code, 4, none, 7, 1, 0, []),
  (⟨"LineBalls$Parser", "takeWord", "(Ljava/lang/String;)V"⟩, prog_9_method_8_code, 2, none, 7, 1, 1, []),
  (⟨"LineBalls$Parser", "isWord", "(Ljava/lang/String;)Z"⟩, prog_9_method_16_code, 3, (some FieldType.boolean), 7, 1, 1, []),
  (⟨"LineBalls$Parser", "fail", "(I)V"⟩, prog_9_method_7_code, 2, none, 7, 1, 1, []),
  (⟨"LineBalls$Parser", "takeNumber", "(II)I"⟩, prog_9_method_10_code, 4, (some FieldType.int), 7, 1, 2, []),
  (⟨"LineBalls$Parser", "checkedNumber", "(II)I"⟩, prog_9_method_14_code, 5, (some FieldType.int), 7, 1, 2, []),
  (⟨"LineBalls$Parser", "takeSemicolon", "()V"⟩, prog_9_method_9_code, 1, none, 7, 1, 0, []),
  (⟨"LineBalls$Parser", "isSymbol", "(C)Z"⟩, prog_9_method_17_code, 2, (some FieldType.boolean), 7, 1, 1, []),
  (⟨"LineBalls$Parser", "parsePost", "()V"⟩, prog_9_method_5_code, 3, none, 7, 1, 0, []),
  (⟨"LineBalls$Parser", "takeCell", "()I"⟩, prog_9_method_11_code, 2, (some FieldType.int), 7, 1, 0, []),
  (⟨"LineBalls$Parser", "parseBall", "()V"⟩, prog_9_method_6_code, 5, none, 7, 1, 0, []),
  (⟨"LineBalls$Parser", "takeName", "()I"⟩, prog_9_method_13_code, 2, (some FieldType.int), 7, 1, 0, []),
  (⟨"LineBalls$Parser", "packName", "([BII)I"⟩, prog_9_method_20_code, 5, (some FieldType.int), 7, 0, 3, []),
  (⟨"LineBalls$Parser", "isKeyword", "()Z"⟩, prog_9_method_15_code, 1, (some FieldType.boolean), 7, 1, 0, [])]
def mP_1 : List (List (Nat × Nat)) := [[(3, 209), (1, 3), (3, 207), (3, 208)], [(3, 218), (1, 3), (3, 216), (3, 217)], [(3, 222), (1, 3), (3, 220), (3, 221)], [(4, 222), (1, 3), (4, 220), (4, 221)], [(5, 23), (1, 3), (5, 21), (5, 22)], [(5, 178), (1, 3), (5, 176), (5, 177)], [(1, 84), (1, 5), (1, 83)], [(1, 219), (1, 5), (1, 217), (1, 218)], [(3, 65), (1, 5), (3, 63), (3, 64)], [(3, 142), (1, 5), (3, 140), (3, 141)], [(3, 169), (1, 5), (3, 167), (3, 168)], [(3, 173), (1, 5), (3, 171), (3, 172)], [(3, 177), (1, 5), (3, 176), (0, 21)], [(3, 184), (1, 5), (3, 182), (3, 183)], [(3, 189), (1, 5), (3, 187), (3, 188)], [(4, 23), (1, 5), (4, 21), (4, 22)], [(5, 182), (1, 5), (5, 180), (5, 181)], [(5, 185), (1, 5), (5, 184)], [(1, 36), (1, 2), (1, 35)], [(3, 236), (1, 2), (3, 234), (3, 235)], [(4, 0), (1, 2), (3, 238), (3, 239)], [(4, 10), (1, 2), (4, 8), (4, 9)], [(2, 36), (1, 8), (2, 35)], [(2, 122), (1, 8), (2, 120), (2, 121)], [(2, 129), (1, 8), (2, 128), (0, 0)], [(2, 133), (1, 8), (2, 132), (0, 1)], [(2, 137), (1, 8), (2, 136), (0, 2)], [(2, 142), (1, 8), (2, 141), (0, 3)], [(2, 146), (1, 8), (2, 145), (0, 4)], [(2, 198), (1, 8), (2, 197), (0, 5)], [(2, 202), (1, 8), (2, 201), (0, 6)], [(2, 206), (1, 8), (2, 205), (0, 7)], [(2, 212), (1, 8), (2, 211), (0, 8)], [(2, 216), (1, 8), (2, 215), (0, 9)], [(2, 222), (1, 8), (2, 221), (0, 10)], [(2, 226), (1, 8), (2, 225), (0, 11)], [(3, 7), (1, 8), (3, 6), (0, 12)], [(3, 11), (1, 8), (3, 10), (0, 13)], [(3, 14), (1, 8), (3, 13)], [(3, 18), (1, 8), (3, 17), (0, 14)]]
def mT_2 : List zMT := [(⟨"LineBalls$Parser", "takeSpeed", "()I"⟩, prog_9_method_12_code, 3, (some FieldType.int), 7, 1, 0, []),
  (⟨"LineBalls$Parser", "position", "()I"⟩, prog_9_method_3_code, 1, (some FieldType.int), 7, 1, 0, []),
  (⟨"LineBalls", "<init>", "()V"⟩, prog_1_method_1_code, 2, none, 8, 2, 0, []),
  (⟨"LineBalls", "load", "()I"⟩, prog_1_method_5_code, 1, (some FieldType.int), 8, 1, 0, []),
  (⟨"LineBalls", "errorCode", "()I"⟩, prog_1_method_6_code, 1, (some FieldType.int), 8, 1, 0, []),
  (⟨"LineBalls", "errorPosition", "()I"⟩, prog_1_method_7_code, 1, (some FieldType.int), 8, 1, 0, []),
  (⟨"LineBalls", "find", "()I"⟩, prog_1_method_8_code, 2, (some FieldType.int), 8, 1, 0, []),
  (⟨"LineBalls", "fastest", "()I"⟩, prog_1_method_22_code, 5, (some FieldType.int), 8, 1, 0, []),
  (⟨"LineBalls", "going", "(Z)I"⟩, prog_1_method_23_code, 5, (some FieldType.int), 8, 1, 1, []),
  (⟨"LineBalls", "hitIn", "()I"⟩, prog_1_method_27_code, 1, (some FieldType.int), 8, 1, 0, []),
  (⟨"LineBalls", "tryUntilHit", "()I"⟩, prog_1_method_29_code, 2, (some FieldType.int), 8, 1, 0, []),
  (⟨"LineBalls", "nextHit", "(Z)I"⟩, prog_1_method_28_code, 3, (some FieldType.int), 8, 1, 1, []),
  (⟨"LineBalls", "calmIn", "()I"⟩, prog_1_method_37_code, 2, (some FieldType.int), 8, 1, 0, []),
  (⟨"LineBalls", "meanSpeed", "()D"⟩, prog_1_method_39_code, 3, (some FieldType.double), 8, 1, 0, []),
  (⟨"LineBalls", "middle", "()D"⟩, prog_1_method_41_code, 4, (some FieldType.double), 8, 1, 0, []),
  (⟨"LineBalls", "stop", "()I"⟩, prog_1_method_50_code, 4, (some FieldType.int), 8, 1, 0, []),
  (⟨"LineBalls", "undoCount", "()I"⟩, prog_1_method_55_code, 1, (some FieldType.int), 8, 1, 0, []),
  (⟨"LineBalls", "writeLine", "()I"⟩, prog_1_method_56_code, 3, (some FieldType.int), 8, 1, 0, []),
  (⟨"LineBalls", "writeBalls", "()I"⟩, prog_1_method_57_code, 3, (some FieldType.int), 8, 1, 0, []),
  (⟨"LineBalls", "writeLog", "()I"⟩, prog_1_method_58_code, 4, (some FieldType.int), 8, 1, 0, []),
  (⟨"LineBalls", "putLogged", "(I)V"⟩, prog_1_method_59_code, 2, none, 8, 1, 1, []),
  (⟨"LineBalls", "append", "(IIIII)I"⟩, prog_1_method_2_code, 6, (some FieldType.int), 8, 1, 5, []),
  (⟨"LineBalls", "appendBytes", "(I)V"⟩, prog_1_method_3_code, 3, none, 8, 1, 1, []),
  (⟨"LineBalls", "truncate", "(I)V"⟩, prog_1_method_4_code, 2, none, 8, 1, 1, []),
  (⟨"LineBalls", "needRange", "(III)V"⟩, prog_1_method_61_code, 3, none, 8, 0, 3, []),
  (⟨"LineBalls", "property", "(I)I"⟩, prog_1_method_9_code, 2, (some FieldType.int), 8, 1, 1, []),
  (⟨"LineBalls", "ball", "(II)I"⟩, prog_1_method_10_code, 4, (some FieldType.int), 8, 1, 2, []),
  (⟨"LineBalls", "needBall", "(I)LLineBalls$Ball;"⟩, prog_1_method_62_code, 2, (some (FieldType.object "LineBalls$Ball")), 8, 1, 1, []),
  (⟨"LineBalls", "at", "(I)I"⟩, prog_1_method_11_code, 2, (some FieldType.int), 8, 1, 1, []),
  (⟨"LineBalls", "needCell", "(I)V"⟩, prog_1_method_63_code, 2, none, 8, 1, 1, []),
  (⟨"LineBalls", "post", "(II)I"⟩, prog_1_method_12_code, 4, (some FieldType.int), 8, 1, 2, []),
  (⟨"LineBalls", "needBarrier", "(I)LLineBalls$Barrier;"⟩, prog_1_method_65_code, 2, (some (FieldType.object "LineBalls$Barrier")), 8, 1, 1, []),
  (⟨"LineBalls", "wall", "(ZI)I"⟩, prog_1_method_13_code, 4, (some FieldType.int), 8, 1, 2, []),
  (⟨"LineBalls", "placed", "(I)I"⟩, prog_1_method_14_code, 2, (some FieldType.int), 8, 1, 1, []),
  (⟨"LineBalls", "neighbour", "(IZ)I"⟩, prog_1_method_15_code, 5, (some FieldType.int), 8, 1, 2, []),
  (⟨"LineBalls", "room", "(IZ)I"⟩, prog_1_method_16_code, 4, (some FieldType.int), 8, 1, 2, []),
  (⟨"LineBalls", "hits", "(II)I"⟩, prog_1_method_17_code, 3, (some FieldType.int), 8, 1, 2, []),
  (⟨"LineBalls", "logged", "(II)I"⟩, prog_1_method_18_code, 3, (some FieldType.int), 8, 1, 2, []),
  (⟨"LineBalls", "ballOrNone", "(I)I"⟩, prog_1_method_19_code, 1, (some FieldType.int), 8, 0, 1, []),
  (⟨"LineBalls", "account", "(I)J"⟩, prog_1_method_20_code, 2, (some FieldType.long), 8, 1, 1, [])]
def mP_2 : List (List (Nat × Nat)) := [[(3, 29), (1, 8), (3, 28), (0, 15)], [(3, 45), (1, 8), (3, 43), (3, 44)], [(1, 28), (1, 1), (1, 27)], [(2, 118), (1, 1), (2, 116), (2, 117)], [(3, 78), (1, 1), (3, 76), (3, 77)], [(3, 82), (1, 1), (3, 80), (3, 81)], [(3, 86), (1, 1), (3, 84), (3, 85)], [(3, 92), (1, 1), (3, 90), (3, 91)], [(3, 100), (1, 1), (3, 98), (3, 99)], [(3, 104), (1, 1), (3, 102), (3, 103)], [(3, 108), (1, 1), (3, 107), (0, 16)], [(3, 165), (1, 1), (3, 163), (3, 164)], [(3, 193), (1, 1), (3, 191), (3, 192)], [(3, 201), (1, 1), (3, 199), (3, 200)], [(3, 205), (1, 1), (3, 203), (3, 204)], [(3, 214), (1, 1), (3, 212), (3, 213)], [(3, 227), (1, 1), (3, 225), (3, 226)], [(3, 231), (1, 1), (3, 229), (3, 230)], [(4, 6), (1, 1), (4, 4), (4, 5)], [(4, 14), (1, 1), (4, 12), (4, 13)], [(4, 19), (1, 1), (4, 18), (0, 22)], [(4, 31), (1, 1), (4, 29), (4, 30)], [(4, 99), (1, 1), (4, 98), (0, 24)], [(4, 107), (1, 1), (4, 105), (4, 106)], [(4, 110), (1, 1), (4, 109)], [(4, 132), (1, 1), (4, 130), (4, 131)], [(4, 140), (1, 1), (4, 138), (4, 139)], [(4, 144), (1, 1), (4, 143), (0, 25)], [(4, 166), (1, 1), (4, 164), (4, 165)], [(4, 170), (1, 1), (4, 169), (0, 26)], [(4, 177), (1, 1), (4, 175), (4, 176)], [(4, 181), (1, 1), (4, 180), (0, 27)], [(4, 188), (1, 1), (4, 186), (4, 187)], [(4, 196), (1, 1), (4, 194), (4, 195)], [(4, 218), (1, 1), (4, 216), (4, 217)], [(4, 230), (1, 1), (4, 228), (4, 229)], [(4, 237), (1, 1), (4, 235), (4, 236)], [(5, 8), (1, 1), (5, 6), (5, 7)], [(5, 12), (1, 1), (5, 11)], [(5, 19), (1, 1), (5, 17), (5, 18)]]
def mT_3 : List zMT := [(⟨"LineBalls", "count", "(I)I"⟩, prog_1_method_21_code, 2, (some FieldType.int), 8, 1, 1, []),
  (⟨"LineBalls", "traded", "(IIZ)I"⟩, prog_1_method_24_code, 11, (some FieldType.int), 8, 1, 3, []),
  (⟨"LineBalls", "bounced", "(II)I"⟩, prog_1_method_25_code, 4, (some FieldType.int), 8, 1, 2, []),
  (⟨"LineBalls", "dueIn", "(I)I"⟩, prog_1_method_26_code, 2, (some FieldType.int), 8, 1, 1, []),
  (⟨"LineBalls", "ballHitIn", "(I)I"⟩, prog_1_method_30_code, 4, (some FieldType.int), 8, 1, 1, []),
  (⟨"LineBalls", "cellIn", "(II)I"⟩, prog_1_method_31_code, 3, (some FieldType.int), 8, 1, 2, []),
  (⟨"LineBalls", "tryTicks", "(I)V"⟩, prog_1_method_36_code, 2, none, 8, 1, 1, []),
  (⟨"LineBalls", "speedIn", "(II)I"⟩, prog_1_method_32_code, 3, (some FieldType.int), 8, 1, 2, []),
  (⟨"LineBalls", "hitsIn", "(I)I"⟩, prog_1_method_33_code, 2, (some FieldType.int), 8, 1, 1, []),
  (⟨"LineBalls", "bouncesIn", "(I)I"⟩, prog_1_method_34_code, 2, (some FieldType.int), 8, 1, 1, []),
  (⟨"LineBalls", "energyIn", "(I)J"⟩, prog_1_method_35_code, 2, (some FieldType.long), 8, 1, 1, []),
  (⟨"LineBalls", "energyIf", "(ZII)J"⟩, prog_1_method_38_code, 5, (some FieldType.long), 8, 1, 3, []),
  (⟨"LineBalls", "share", "(I)F"⟩, prog_1_method_40_code, 4, (some FieldType.float), 8, 1, 1, []),
  (⟨"LineBalls", "pulse", "(I)I"⟩, prog_1_method_42_code, 2, (some FieldType.int), 8, 1, 1, []),
  (⟨"LineBalls", "tick", "(I)I"⟩, prog_1_method_43_code, 2, (some FieldType.int), 8, 1, 1, []),
  (⟨"LineBalls", "kick", "(II)I"⟩, prog_1_method_44_code, 5, (some FieldType.int), 8, 1, 2, []),
  (⟨"LineBalls", "setWeight", "(II)I"⟩, prog_1_method_45_code, 6, (some FieldType.int), 8, 1, 2, []),
  (⟨"LineBalls", "setSteal", "(II)I"⟩, prog_1_method_46_code, 5, (some FieldType.int), 8, 1, 2, []),
  (⟨"LineBalls", "addBall", "(III)I"⟩, prog_1_method_47_code, 5, (some FieldType.int), 8, 1, 3, []),
  (⟨"LineBalls", "removeBall", "(I)I"⟩, prog_1_method_48_code, 3, (some FieldType.int), 8, 1, 1, []),
  (⟨"LineBalls", "turn", "(I)I"⟩, prog_1_method_49_code, 4, (some FieldType.int), 8, 1, 1, []),
  (⟨"LineBalls", "place", "(II)I"⟩, prog_1_method_51_code, 5, (some FieldType.int), 8, 1, 2, []),
  (⟨"LineBalls", "keep", "(I)I"⟩, prog_1_method_52_code, 2, (some FieldType.int), 8, 1, 1, []),
  (⟨"LineBalls", "needSlot", "(I)V"⟩, prog_1_method_64_code, 1, none, 8, 0, 1, []),
  (⟨"LineBalls", "restore", "(I)I"⟩, prog_1_method_53_code, 2, (some FieldType.int), 8, 1, 1, []),
  (⟨"LineBalls", "undo", "()I"⟩, prog_1_method_54_code, 1, (some FieldType.int), 8, 1, 0, []),
  (⟨"LineBalls", "outputByte", "(I)I"⟩, prog_1_method_60_code, 2, (some FieldType.int), 8, 1, 1, []),
  (⟨"LineBallsModel", "thrown", "()I"⟩, prog_11_method_1_code, 1, (some FieldType.int), 9, 1, 0, []),
  (⟨"LineBallsModel", "<init>", "()V"⟩, prog_11_method_7_code, 1, none, 9, 2, 0, []),
  (⟨"LineBallsModel", "append", "(IIIII)I"⟩, prog_11_method_47_code, 6, (some FieldType.int), 9, 1, 5, []),
  (⟨"LineBallsModel", "passes", "(Z)Z"⟩, prog_11_method_6_code, 2, (some FieldType.boolean), 9, 1, 1, []),
  (⟨"LineBallsModel", "passes3", "(ZZZ)Z"⟩, prog_11_method_4_code, 4, (some FieldType.boolean), 9, 1, 3, []),
  (⟨"LineBallsModel", "appendFour", "(I)V"⟩, prog_11_method_46_code, 3, none, 9, 1, 1, []),
  (⟨"LineBallsModel", "truncate", "(I)V"⟩, prog_11_method_48_code, 2, none, 9, 1, 1, []),
  (⟨"LineBallsModel", "in", "(JJJ)Z"⟩, prog_11_method_2_code, 6, (some FieldType.boolean), 9, 0, 3, []),
  (⟨"LineBallsModel", "load", "()I"⟩, prog_11_method_71_code, 2, (some FieldType.int), 9, 1, 0, []),
  (⟨"LineBallsModel", "scan", "()V"⟩, prog_11_method_52_code, 2, none, 9, 1, 0, []),
  (⟨"LineBallsModel", "byteAt", "(I)I"⟩, prog_11_method_51_code, 2, (some FieldType.int), 9, 1, 1, []),
  (⟨"LineBallsModel", "parseBox", "()V"⟩, prog_11_method_64_code, 1, none, 9, 1, 0, []),
  (⟨"LineBallsModel", "takeWord", "(Ljava/lang/String;)V"⟩, prog_11_method_57_code, 2, none, 9, 1, 1, [])]
def mP_3 : List (List (Nat × Nat)) := [[(5, 34), (1, 1), (5, 32), (5, 33)], [(5, 41), (1, 1), (5, 39), (5, 40)], [(5, 50), (1, 1), (5, 48), (5, 49)], [(5, 58), (1, 1), (5, 56), (5, 57)], [(5, 69), (1, 1), (5, 67), (5, 68)], [(5, 76), (1, 1), (5, 74), (5, 75)], [(5, 80), (1, 1), (5, 79), (0, 28)], [(5, 87), (1, 1), (5, 85), (5, 86)], [(5, 94), (1, 1), (5, 92), (5, 93)], [(5, 101), (1, 1), (5, 99), (5, 100)], [(5, 108), (1, 1), (5, 106), (5, 107)], [(5, 115), (1, 1), (5, 113), (5, 114)], [(5, 122), (1, 1), (5, 120), (5, 121)], [(5, 130), (1, 1), (5, 128), (5, 129)], [(5, 137), (1, 1), (5, 135), (5, 136)], [(5, 144), (1, 1), (5, 142), (5, 143)], [(5, 152), (1, 1), (5, 150), (5, 151)], [(5, 159), (1, 1), (5, 157), (5, 158)], [(5, 166), (1, 1), (5, 164), (5, 165)], [(5, 174), (1, 1), (5, 172), (5, 173)], [(5, 201), (1, 1), (5, 199), (5, 200)], [(5, 208), (1, 1), (5, 206), (5, 207)], [(5, 216), (1, 1), (5, 214), (5, 215)], [(5, 219), (1, 1), (5, 218)], [(5, 226), (1, 1), (5, 224), (5, 225)], [(5, 233), (1, 1), (5, 231), (5, 232)], [(6, 4), (1, 1), (6, 2), (6, 3)], [(6, 8), (1, 10), (6, 6), (6, 7)], [(6, 13), (1, 10), (6, 12)], [(6, 102), (1, 10), (6, 100), (6, 101)], [(6, 106), (1, 10), (6, 105), (0, 30)], [(6, 110), (1, 10), (6, 109), (0, 31)], [(6, 114), (1, 10), (6, 113), (0, 32)], [(6, 118), (1, 10), (6, 116), (6, 117)], [(6, 121), (1, 10), (6, 120)], [(6, 125), (1, 10), (6, 123), (6, 124)], [(6, 129), (1, 10), (6, 128), (0, 33)], [(6, 133), (1, 10), (6, 132), (0, 34)], [(6, 142), (1, 10), (6, 141), (0, 35)], [(6, 147), (1, 10), (6, 146), (0, 36)]]
def mT_4 : List zMT := [(⟨"LineBallsModel", "isWord", "(Ljava/lang/String;)Z"⟩, prog_11_method_54_code, 4, (some FieldType.boolean), 9, 1, 1, []),
  (⟨"LineBallsModel", "good", "()Z"⟩, prog_11_method_49_code, 1, (some FieldType.boolean), 9, 1, 0, []),
  (⟨"LineBallsModel", "errs", "(I)V"⟩, prog_11_method_50_code, 2, none, 9, 1, 1, []),
  (⟨"LineBallsModel", "goOn", "()V"⟩, prog_11_method_53_code, 1, none, 9, 1, 0, []),
  (⟨"LineBallsModel", "number", "(II)I"⟩, prog_11_method_56_code, 4, (some FieldType.int), 9, 1, 2, []),
  (⟨"LineBallsModel", "numberHere", "(II)I"⟩, prog_11_method_55_code, 3, (some FieldType.int), 9, 1, 2, []),
  (⟨"LineBallsModel", "semicolon", "()V"⟩, prog_11_method_58_code, 1, none, 9, 1, 0, []),
  (⟨"LineBallsModel", "parseStatement", "()V"⟩, prog_11_method_70_code, 1, none, 9, 1, 0, []),
  (⟨"LineBallsModel", "parsePost", "()V"⟩, prog_11_method_66_code, 4, none, 9, 1, 0, []),
  (⟨"LineBallsModel", "posts", "()I"⟩, prog_11_method_10_code, 1, (some FieldType.int), 9, 1, 0, []),
  (⟨"LineBallsModel", "errsIf", "(ZI)V"⟩, prog_11_method_62_code, 3, none, 9, 1, 2, []),
  (⟨"LineBallsModel", "takeCell", "()I"⟩, prog_11_method_65_code, 2, (some FieldType.int), 9, 1, 0, []),
  (⟨"LineBallsModel", "cells", "()I"⟩, prog_11_method_8_code, 1, (some FieldType.int), 9, 1, 0, []),
  (⟨"LineBallsModel", "isFree", "(I)Z"⟩, prog_11_method_20_code, 2, (some FieldType.boolean), 9, 1, 1, []),
  (⟨"LineBallsModel", "isCell", "(I)Z"⟩, prog_11_method_17_code, 2, (some FieldType.boolean), 9, 1, 1, []),
  (⟨"LineBallsModel", "ballAt", "(I)I"⟩, prog_11_method_18_code, 3, (some FieldType.int), 9, 1, 1, []),
  (⟨"LineBallsModel", "balls", "()I"⟩, prog_11_method_9_code, 1, (some FieldType.int), 9, 1, 0, []),
  (⟨"LineBallsModel", "of", "(II)I"⟩, prog_11_method_12_code, 3, (some FieldType.int), 9, 1, 2, []),
  (⟨"LineBallsModel", "postAt", "(I)I"⟩, prog_11_method_19_code, 3, (some FieldType.int), 9, 1, 1, []),
  (⟨"LineBallsModel", "ofPost", "(II)I"⟩, prog_11_method_15_code, 3, (some FieldType.int), 9, 1, 2, []),
  (⟨"LineBallsModel", "numberAfter", "(Ljava/lang/String;II)I"⟩, prog_11_method_63_code, 4, (some FieldType.int), 9, 1, 3, []),
  (⟨"LineBallsModel", "parseBall", "()V"⟩, prog_11_method_69_code, 6, none, 9, 1, 0, []),
  (⟨"LineBallsModel", "isKeyword", "()Z"⟩, prog_11_method_59_code, 2, (some FieldType.boolean), 9, 1, 0, []),
  (⟨"LineBallsModel", "nameOf", "([BII)I"⟩, prog_11_method_60_code, 5, (some FieldType.int), 9, 0, 3, []),
  (⟨"LineBallsModel", "ballNamed", "(I)I"⟩, prog_11_method_61_code, 3, (some FieldType.int), 9, 1, 1, []),
  (⟨"LineBallsModel", "takeSpeed", "()I"⟩, prog_11_method_67_code, 3, (some FieldType.int), 9, 1, 0, []),
  (⟨"LineBallsModel", "addOne", "(IIII)I"⟩, prog_11_method_68_code, 7, (some FieldType.int), 9, 1, 4, []),
  (⟨"LineBallsModel", "put", "(IIJ)V"⟩, prog_11_method_13_code, 5, none, 9, 1, 3, []),
  (⟨"LineBallsModel", "remember", "()V"⟩, prog_11_method_132_code, 2, none, 9, 1, 0, []),
  (⟨"LineBallsModel", "errorCode", "()I"⟩, prog_11_method_72_code, 1, (some FieldType.int), 9, 1, 0, []),
  (⟨"LineBallsModel", "errorPosition", "()I"⟩, prog_11_method_73_code, 1, (some FieldType.int), 9, 1, 0, []),
  (⟨"LineBallsModel", "find", "()I"⟩, prog_11_method_74_code, 3, (some FieldType.int), 9, 1, 0, []),
  (⟨"LineBallsModel", "property", "(I)I"⟩, prog_11_method_77_code, 2, (some FieldType.int), 9, 1, 1, []),
  (⟨"LineBallsModel", "stills", "()I"⟩, prog_11_method_75_code, 3, (some FieldType.int), 9, 1, 0, []),
  (⟨"LineBallsModel", "speedOf", "(I)I"⟩, prog_11_method_22_code, 2, (some FieldType.int), 9, 1, 1, []),
  (⟨"LineBallsModel", "weights", "()I"⟩, prog_11_method_76_code, 3, (some FieldType.int), 9, 1, 0, []),
  (⟨"LineBallsModel", "ball", "(II)I"⟩, prog_11_method_78_code, 3, (some FieldType.int), 9, 1, 2, []),
  (⟨"LineBallsModel", "isBall", "(I)Z"⟩, prog_11_method_16_code, 2, (some FieldType.boolean), 9, 1, 1, []),
  (⟨"LineBallsModel", "passes2", "(ZZ)Z"⟩, prog_11_method_5_code, 3, (some FieldType.boolean), 9, 1, 2, []),
  (⟨"LineBallsModel", "at", "(I)I"⟩, prog_11_method_79_code, 2, (some FieldType.int), 9, 1, 1, [])]
def mP_4 : List (List (Nat × Nat)) := [[(6, 151), (1, 10), (6, 150), (0, 37)], [(6, 155), (1, 10), (6, 154), (0, 38)], [(6, 161), (1, 10), (6, 160), (0, 39)], [(6, 165), (1, 10), (6, 164), (0, 40)], [(6, 169), (1, 10), (6, 168), (0, 41)], [(6, 173), (1, 10), (6, 172), (0, 42)], [(6, 178), (1, 10), (6, 177), (0, 43)], [(6, 182), (1, 10), (6, 181), (0, 44)], [(6, 187), (1, 10), (6, 186), (0, 45)], [(6, 191), (1, 10), (6, 190), (0, 46)], [(6, 195), (1, 10), (6, 194), (0, 47)], [(6, 199), (1, 10), (6, 198), (0, 48)], [(6, 203), (1, 10), (6, 202), (0, 49)], [(6, 207), (1, 10), (6, 206), (0, 50)], [(6, 211), (1, 10), (6, 210), (0, 51)], [(6, 215), (1, 10), (6, 214), (0, 52)], [(6, 219), (1, 10), (6, 218), (0, 53)], [(6, 223), (1, 10), (6, 222), (0, 54)], [(6, 227), (1, 10), (6, 226), (0, 55)], [(6, 231), (1, 10), (6, 230), (0, 56)], [(6, 235), (1, 10), (6, 234), (0, 57)], [(7, 0), (1, 10), (6, 239), (0, 58)], [(7, 4), (1, 10), (7, 3), (0, 59)], [(7, 10), (1, 10), (7, 9)], [(7, 14), (1, 10), (7, 13), (0, 60)], [(7, 18), (1, 10), (7, 17), (0, 61)], [(7, 22), (1, 10), (7, 21), (0, 62)], [(7, 26), (1, 10), (7, 25), (0, 63)], [(7, 30), (1, 10), (7, 29), (0, 64)], [(7, 34), (1, 10), (7, 32), (7, 33)], [(7, 38), (1, 10), (7, 36), (7, 37)], [(7, 42), (1, 10), (7, 40), (7, 41)], [(7, 47), (1, 10), (7, 45), (7, 46)], [(7, 51), (1, 10), (7, 50), (0, 65)], [(7, 55), (1, 10), (7, 54), (0, 66)], [(7, 59), (1, 10), (7, 58), (0, 67)], [(7, 63), (1, 10), (7, 61), (7, 62)], [(7, 67), (1, 10), (7, 66), (0, 68)], [(7, 72), (1, 10), (7, 71), (0, 69)], [(7, 76), (1, 10), (7, 74), (7, 75)]]
def mT_5 : List zMT := [(⟨"LineBallsModel", "post", "(II)I"⟩, prog_11_method_80_code, 3, (some FieldType.int), 9, 1, 2, []),
  (⟨"LineBallsModel", "wall", "(ZI)I"⟩, prog_11_method_81_code, 3, (some FieldType.int), 9, 1, 2, []),
  (⟨"LineBallsModel", "placed", "(I)I"⟩, prog_11_method_83_code, 2, (some FieldType.int), 9, 1, 1, []),
  (⟨"LineBallsModel", "placedAt", "(I)I"⟩, prog_11_method_82_code, 5, (some FieldType.int), 9, 1, 1, []),
  (⟨"LineBallsModel", "firstOf", "(IZ)I"⟩, prog_11_method_38_code, 5, (some FieldType.int), 9, 1, 2, []),
  (⟨"LineBallsModel", "has", "(II)Z"⟩, prog_11_method_3_code, 2, (some FieldType.boolean), 9, 0, 2, []),
  (⟨"LineBallsModel", "neighbour", "(IZ)I"⟩, prog_11_method_85_code, 4, (some FieldType.int), 9, 1, 2, []),
  (⟨"LineBallsModel", "sideOf", "(Z)I"⟩, prog_11_method_21_code, 1, (some FieldType.int), 9, 0, 1, []),
  (⟨"LineBallsModel", "roomOf", "(IZ)I"⟩, prog_11_method_84_code, 5, (some FieldType.int), 9, 1, 2, []),
  (⟨"LineBallsModel", "room", "(IZ)I"⟩, prog_11_method_86_code, 3, (some FieldType.int), 9, 1, 2, []),
  (⟨"LineBallsModel", "hits", "(II)I"⟩, prog_11_method_87_code, 3, (some FieldType.int), 9, 1, 2, []),
  (⟨"LineBallsModel", "logged", "(II)I"⟩, prog_11_method_90_code, 4, (some FieldType.int), 9, 1, 2, []),
  (⟨"LineBallsModel", "logMany", "()I"⟩, prog_11_method_89_code, 1, (some FieldType.int), 9, 1, 0, []),
  (⟨"LineBallsModel", "ofLog", "(II)I"⟩, prog_11_method_88_code, 3, (some FieldType.int), 9, 1, 2, []),
  (⟨"LineBallsModel", "account", "(I)J"⟩, prog_11_method_91_code, 2, (some FieldType.long), 9, 1, 1, []),
  (⟨"LineBallsModel", "pushNow", "()J"⟩, prog_11_method_24_code, 4, (some FieldType.long), 9, 1, 0, []),
  (⟨"LineBallsModel", "energyNow", "()J"⟩, prog_11_method_26_code, 4, (some FieldType.long), 9, 1, 0, []),
  (⟨"LineBallsModel", "energyOf", "(I)I"⟩, prog_11_method_25_code, 2, (some FieldType.int), 9, 1, 1, []),
  (⟨"LineBallsModel", "count", "(I)I"⟩, prog_11_method_92_code, 2, (some FieldType.int), 9, 1, 1, []),
  (⟨"LineBallsModel", "fastest", "()I"⟩, prog_11_method_93_code, 3, (some FieldType.int), 9, 1, 0, []),
  (⟨"LineBallsModel", "fast", "(I)I"⟩, prog_11_method_23_code, 2, (some FieldType.int), 9, 1, 1, []),
  (⟨"LineBallsModel", "going", "(Z)I"⟩, prog_11_method_94_code, 4, (some FieldType.int), 9, 1, 1, []),
  (⟨"LineBallsModel", "traded", "(IIZ)I"⟩, prog_11_method_95_code, 8, (some FieldType.int), 9, 1, 3, []),
  (⟨"LineBallsModel", "trades", "(II)I"⟩, prog_11_method_33_code, 5, (some FieldType.int), 9, 1, 2, []),
  (⟨"LineBallsModel", "common", "(II)I"⟩, prog_11_method_32_code, 2, (some FieldType.int), 9, 0, 2, []),
  (⟨"LineBallsModel", "bounced", "(II)I"⟩, prog_11_method_97_code, 3, (some FieldType.int), 9, 1, 2, []),
  (⟨"LineBallsModel", "areSteals", "(I)Z"⟩, prog_11_method_96_code, 1, (some FieldType.boolean), 9, 0, 1, []),
  (⟨"LineBallsModel", "bouncedSpeed", "(II)I"⟩, prog_11_method_29_code, 3, (some FieldType.int), 9, 0, 2, []),
  (⟨"LineBallsModel", "stolen", "(II)I"⟩, prog_11_method_28_code, 2, (some FieldType.int), 9, 0, 2, []),
  (⟨"LineBallsModel", "dueIn", "(I)I"⟩, prog_11_method_98_code, 2, (some FieldType.int), 9, 1, 1, []),
  (⟨"LineBallsModel", "hitIn", "()I"⟩, prog_11_method_99_code, 1, (some FieldType.int), 9, 1, 0, []),
  (⟨"LineBallsModel", "nextHitOf", "(I)I"⟩, prog_11_method_45_code, 3, (some FieldType.int), 9, 1, 1, []),
  (⟨"LineBallsModel", "keepAside", "()V"⟩, prog_11_method_42_code, 2, none, 9, 1, 0, []),
  (⟨"LineBallsModel", "pulseOnce", "()V"⟩, prog_11_method_40_code, 1, none, 9, 1, 0, []),
  (⟨"LineBallsModel", "save", "()V"⟩, prog_11_method_37_code, 4, none, 9, 1, 0, []),
  (⟨"LineBallsModel", "takeTurns", "(IZ)V"⟩, prog_11_method_39_code, 5, none, 9, 1, 2, []),
  (⟨"LineBallsModel", "takeTurn", "(IZ)V"⟩, prog_11_method_36_code, 4, none, 9, 1, 2, []),
  (⟨"LineBallsModel", "add", "(II)V"⟩, prog_11_method_14_code, 3, none, 9, 1, 2, []),
  (⟨"LineBallsModel", "tells", "(I)V"⟩, prog_11_method_11_code, 2, none, 9, 1, 1, []),
  (⟨"LineBallsModel", "hit", "(IIZ)V"⟩, prog_11_method_35_code, 7, none, 9, 1, 3, [])]
def mP_5 : List (List (Nat × Nat)) := [[(7, 80), (1, 10), (7, 78), (7, 79)], [(7, 85), (1, 10), (7, 83), (7, 84)], [(7, 89), (1, 10), (7, 87), (7, 88)], [(7, 93), (1, 10), (7, 92), (0, 70)], [(7, 97), (1, 10), (7, 96), (0, 71)], [(7, 100), (1, 10), (7, 99)], [(7, 104), (1, 10), (7, 102), (7, 103)], [(7, 107), (1, 10), (7, 106)], [(7, 111), (1, 10), (7, 110), (0, 72)], [(7, 115), (1, 10), (7, 113), (7, 114)], [(7, 119), (1, 10), (7, 117), (7, 118)], [(7, 123), (1, 10), (7, 121), (7, 122)], [(7, 127), (1, 10), (7, 126), (0, 73)], [(7, 132), (1, 10), (7, 131), (0, 74)], [(7, 137), (1, 10), (7, 135), (7, 136)], [(7, 142), (1, 10), (7, 141), (0, 75)], [(7, 146), (1, 10), (7, 145), (0, 76)], [(7, 150), (1, 10), (7, 149), (0, 77)], [(7, 154), (1, 10), (7, 152), (7, 153)], [(7, 158), (1, 10), (7, 156), (7, 157)], [(7, 162), (1, 10), (7, 161), (0, 78)], [(7, 169), (1, 10), (7, 167), (7, 168)], [(7, 173), (1, 10), (7, 171), (7, 172)], [(7, 177), (1, 10), (7, 176), (0, 79)], [(7, 180), (1, 10), (7, 179)], [(7, 186), (1, 10), (7, 184), (7, 185)], [(7, 189), (1, 10), (7, 188)], [(7, 193), (1, 10), (7, 192)], [(7, 196), (1, 10), (7, 195)], [(7, 200), (1, 10), (7, 198), (7, 199)], [(7, 204), (1, 10), (7, 202), (7, 203)], [(7, 208), (1, 10), (7, 207), (0, 80)], [(7, 212), (1, 10), (7, 211), (0, 81)], [(7, 216), (1, 10), (7, 215), (0, 82)], [(7, 220), (1, 10), (7, 219), (0, 83)], [(7, 224), (1, 10), (7, 223), (0, 84)], [(7, 228), (1, 10), (7, 227), (0, 85)], [(7, 232), (1, 10), (7, 231), (0, 86)], [(7, 236), (1, 10), (7, 235), (0, 87)], [(8, 0), (1, 10), (7, 239), (0, 88)]]
def mT_6 : List zMT := [(⟨"LineBallsModel", "countHit", "(II)V"⟩, prog_11_method_34_code, 3, none, 9, 1, 2, []),
  (⟨"LineBallsModel", "log", "(III)V"⟩, prog_11_method_27_code, 5, none, 9, 1, 3, []),
  (⟨"LineBallsModel", "bounceAt", "(II)V"⟩, prog_11_method_31_code, 5, none, 9, 1, 2, []),
  (⟨"LineBallsModel", "bounce", "(II)V"⟩, prog_11_method_30_code, 5, none, 9, 1, 2, []),
  (⟨"LineBallsModel", "layBackInt", "(I)I"⟩, prog_11_method_44_code, 2, (some FieldType.int), 9, 1, 1, []),
  (⟨"LineBallsModel", "layBack", "(J)J"⟩, prog_11_method_43_code, 4, (some FieldType.long), 9, 1, 1, []),
  (⟨"LineBallsModel", "nextHit", "(Z)I"⟩, prog_11_method_100_code, 3, (some FieldType.int), 9, 1, 1, []),
  (⟨"LineBallsModel", "ballHitIn", "(I)I"⟩, prog_11_method_101_code, 2, (some FieldType.int), 9, 1, 1, []),
  (⟨"LineBallsModel", "cellIn", "(II)I"⟩, prog_11_method_104_code, 3, (some FieldType.int), 9, 1, 2, []),
  (⟨"LineBallsModel", "areTicks", "(I)Z"⟩, prog_11_method_102_code, 1, (some FieldType.boolean), 9, 0, 1, []),
  (⟨"LineBallsModel", "later", "(III)I"⟩, prog_11_method_103_code, 5, (some FieldType.int), 9, 1, 3, []),
  (⟨"LineBallsModel", "pulses", "(I)I"⟩, prog_11_method_41_code, 5, (some FieldType.int), 9, 1, 1, []),
  (⟨"LineBallsModel", "speedIn", "(II)I"⟩, prog_11_method_105_code, 3, (some FieldType.int), 9, 1, 2, []),
  (⟨"LineBallsModel", "hitsIn", "(I)I"⟩, prog_11_method_107_code, 2, (some FieldType.int), 9, 1, 1, []),
  (⟨"LineBallsModel", "growsIn", "(II)I"⟩, prog_11_method_106_code, 6, (some FieldType.int), 9, 1, 2, []),
  (⟨"LineBallsModel", "bouncesIn", "(I)I"⟩, prog_11_method_108_code, 2, (some FieldType.int), 9, 1, 1, []),
  (⟨"LineBallsModel", "energyIn", "(I)J"⟩, prog_11_method_109_code, 3, (some FieldType.long), 9, 1, 1, []),
  (⟨"LineBallsModel", "calmIn", "()I"⟩, prog_11_method_110_code, 3, (some FieldType.int), 9, 1, 0, []),
  (⟨"LineBallsModel", "energyIf", "(ZII)J"⟩, prog_11_method_111_code, 5, (some FieldType.long), 9, 1, 3, []),
  (⟨"LineBallsModel", "meanSpeed", "()D"⟩, prog_11_method_112_code, 3, (some FieldType.double), 9, 1, 0, []),
  (⟨"LineBallsModel", "share", "(I)F"⟩, prog_11_method_113_code, 4, (some FieldType.float), 9, 1, 1, []),
  (⟨"LineBallsModel", "middle", "()D"⟩, prog_11_method_114_code, 3, (some FieldType.double), 9, 1, 0, []),
  (⟨"LineBallsModel", "pulse", "(I)I"⟩, prog_11_method_115_code, 2, (some FieldType.int), 9, 1, 1, []),
  (⟨"LineBallsModel", "tick", "(I)I"⟩, prog_11_method_116_code, 2, (some FieldType.int), 9, 1, 1, []),
  (⟨"LineBallsModel", "kick", "(II)I"⟩, prog_11_method_119_code, 4, (some FieldType.int), 9, 1, 2, []),
  (⟨"LineBallsModel", "becomes", "(III)I"⟩, prog_11_method_118_code, 7, (some FieldType.int), 9, 1, 3, []),
  (⟨"LineBallsModel", "pushed", "(J)V"⟩, prog_11_method_117_code, 3, none, 9, 1, 1, []),
  (⟨"LineBallsModel", "setWeight", "(II)I"⟩, prog_11_method_120_code, 3, (some FieldType.int), 9, 1, 2, []),
  (⟨"LineBallsModel", "setSteal", "(II)I"⟩, prog_11_method_121_code, 5, (some FieldType.int), 9, 1, 2, []),
  (⟨"LineBallsModel", "addBall", "(III)I"⟩, prog_11_method_122_code, 7, (some FieldType.int), 9, 1, 3, []),
  (⟨"LineBallsModel", "removeBall", "(I)I"⟩, prog_11_method_125_code, 5, (some FieldType.int), 9, 1, 1, []),
  (⟨"LineBallsModel", "dropHits", "(I)V"⟩, prog_11_method_124_code, 6, none, 9, 1, 1, []),
  (⟨"LineBallsModel", "renumbered", "(II)I"⟩, prog_11_method_123_code, 2, (some FieldType.int), 9, 0, 2, []),
  (⟨"LineBallsModel", "turn", "(I)I"⟩, prog_11_method_126_code, 3, (some FieldType.int), 9, 1, 1, []),
  (⟨"LineBallsModel", "stop", "()I"⟩, prog_11_method_127_code, 5, (some FieldType.int), 9, 1, 0, []),
  (⟨"LineBallsModel", "place", "(II)I"⟩, prog_11_method_128_code, 4, (some FieldType.int), 9, 1, 2, []),
  (⟨"LineBallsModel", "keep", "(I)I"⟩, prog_11_method_130_code, 3, (some FieldType.int), 9, 1, 1, []),
  (⟨"LineBallsModel", "isKeep", "(I)Z"⟩, prog_11_method_129_code, 1, (some FieldType.boolean), 9, 0, 1, []),
  (⟨"LineBallsModel", "restore", "(I)I"⟩, prog_11_method_131_code, 3, (some FieldType.int), 9, 1, 1, []),
  (⟨"LineBallsModel", "undo", "()I"⟩, prog_11_method_133_code, 2, (some FieldType.int), 9, 1, 0, [])]
def mP_6 : List (List (Nat × Nat)) := [[(8, 4), (1, 10), (8, 3), (0, 89)], [(8, 8), (1, 10), (8, 7), (0, 90)], [(8, 16), (1, 10), (8, 15), (0, 91)], [(8, 20), (1, 10), (8, 19), (0, 92)], [(8, 24), (1, 10), (8, 23), (0, 93)], [(8, 28), (1, 10), (8, 27), (0, 94)], [(8, 32), (1, 10), (8, 30), (8, 31)], [(8, 36), (1, 10), (8, 34), (8, 35)], [(8, 40), (1, 10), (8, 38), (8, 39)], [(8, 43), (1, 10), (8, 42)], [(8, 48), (1, 10), (8, 47), (0, 95)], [(8, 52), (1, 10), (8, 51), (0, 96)], [(8, 56), (1, 10), (8, 54), (8, 55)], [(8, 60), (1, 10), (8, 58), (8, 59)], [(8, 64), (1, 10), (8, 63), (0, 97)], [(8, 68), (1, 10), (8, 66), (8, 67)], [(8, 72), (1, 10), (8, 70), (8, 71)], [(8, 76), (1, 10), (8, 74), (8, 75)], [(8, 80), (1, 10), (8, 78), (8, 79)], [(8, 84), (1, 10), (8, 82), (8, 83)], [(8, 88), (1, 10), (8, 86), (8, 87)], [(8, 92), (1, 10), (8, 90), (8, 91)], [(8, 97), (1, 10), (8, 95), (8, 96)], [(8, 102), (1, 10), (8, 100), (8, 101)], [(8, 106), (1, 10), (8, 104), (8, 105)], [(8, 110), (1, 10), (8, 109), (0, 98)], [(8, 114), (1, 10), (8, 113), (0, 99)], [(8, 118), (1, 10), (8, 116), (8, 117)], [(8, 123), (1, 10), (8, 121), (8, 122)], [(8, 128), (1, 10), (8, 126), (8, 127)], [(8, 132), (1, 10), (8, 130), (8, 131)], [(8, 136), (1, 10), (8, 135), (0, 100)], [(8, 139), (1, 10), (8, 138)], [(8, 143), (1, 10), (8, 141), (8, 142)], [(8, 147), (1, 10), (8, 145), (8, 146)], [(8, 151), (1, 10), (8, 149), (8, 150)], [(8, 155), (1, 10), (8, 153), (8, 154)], [(8, 158), (1, 10), (8, 157)], [(8, 162), (1, 10), (8, 160), (8, 161)], [(8, 166), (1, 10), (8, 164), (8, 165)]]
def mT_7 : List zMT := [(⟨"LineBallsModel", "undoCount", "()I"⟩, prog_11_method_134_code, 1, (some FieldType.int), 9, 1, 0, []),
  (⟨"LineBallsModel", "writeLine", "()I"⟩, prog_11_method_137_code, 3, (some FieldType.int), 9, 1, 0, []),
  (⟨"LineBallsModel", "write", "(I)V"⟩, prog_11_method_135_code, 2, none, 9, 1, 1, []),
  (⟨"LineBallsModel", "writeBalls", "()I"⟩, prog_11_method_139_code, 3, (some FieldType.int), 9, 1, 0, []),
  (⟨"LineBallsModel", "space", "()V"⟩, prog_11_method_138_code, 1, none, 9, 1, 0, []),
  (⟨"LineBallsModel", "writeInt", "(I)V"⟩, prog_11_method_136_code, 3, none, 9, 1, 1, []),
  (⟨"LineBallsModel", "writeLog", "()I"⟩, prog_11_method_141_code, 2, (some FieldType.int), 9, 1, 0, []),
  (⟨"LineBallsModel", "writeBall", "(I)V"⟩, prog_11_method_140_code, 2, none, 9, 1, 1, []),
  (⟨"LineBallsModel", "outputByte", "(I)I"⟩, prog_11_method_142_code, 2, (some FieldType.int), 9, 1, 1, []),
  (⟨"LineBallsLaw", "append", "(LLineBalls;IIIII[J)I"⟩, method_3_code, 8, (some FieldType.int), 10, 0, 7, [(0, 16, 19, 13)]),
  (⟨"LineBallsLaw", "truncate", "(LLineBalls;I)I"⟩, method_4_code, 3, (some FieldType.int), 10, 0, 2, [(0, 5, 8, 19)]),
  (⟨"LineBallsLaw", "property", "(LLineBalls;I[J)I"⟩, method_5_code, 4, (some FieldType.int), 10, 0, 3, [(0, 9, 12, 19)]),
  (⟨"LineBallsLaw", "ball", "(LLineBalls;II[J)I"⟩, method_6_code, 5, (some FieldType.int), 10, 0, 4, [(0, 10, 13, 29), (0, 10, 17, 19)]),
  (⟨"LineBallsLaw", "at", "(LLineBalls;I[J)I"⟩, method_7_code, 4, (some FieldType.int), 10, 0, 3, [(0, 9, 12, 29)]),
  (⟨"LineBallsLaw", "post", "(LLineBalls;II[J)I"⟩, method_8_code, 5, (some FieldType.int), 10, 0, 4, [(0, 10, 13, 29), (0, 10, 17, 19)]),
  (⟨"LineBallsLaw", "wall", "(LLineBalls;ZI[J)I"⟩, method_9_code, 5, (some FieldType.int), 10, 0, 4, [(0, 10, 13, 19)]),
  (⟨"LineBallsLaw", "placed", "(LLineBalls;I[J)I"⟩, method_10_code, 4, (some FieldType.int), 10, 0, 3, [(0, 9, 12, 44)]),
  (⟨"LineBallsLaw", "neighbour", "(LLineBalls;IZ[J)I"⟩, method_11_code, 5, (some FieldType.int), 10, 0, 4, [(0, 10, 13, 29)]),
  (⟨"LineBallsLaw", "room", "(LLineBalls;IZ[J)I"⟩, method_12_code, 5, (some FieldType.int), 10, 0, 4, [(0, 10, 13, 29)]),
  (⟨"LineBallsLaw", "hits", "(LLineBalls;II[J)I"⟩, method_13_code, 5, (some FieldType.int), 10, 0, 4, [(0, 10, 13, 29)]),
  (⟨"LineBallsLaw", "logged", "(LLineBalls;II[J)I"⟩, method_14_code, 5, (some FieldType.int), 10, 0, 4, [(0, 10, 13, 29), (0, 10, 17, 19)]),
  (⟨"LineBallsLaw", "account", "(LLineBalls;I[J)I"⟩, method_15_code, 4, (some FieldType.int), 10, 0, 3, [(0, 8, 11, 19)]),
  (⟨"LineBallsLaw", "count", "(LLineBalls;I[J)I"⟩, method_16_code, 4, (some FieldType.int), 10, 0, 3, [(0, 9, 12, 19)]),
  (⟨"LineBallsLaw", "traded", "(LLineBalls;IIZ[J)I"⟩, method_17_code, 6, (some FieldType.int), 10, 0, 5, [(0, 12, 15, 29), (0, 12, 19, 19)]),
  (⟨"LineBallsLaw", "bounced", "(LLineBalls;II[J)I"⟩, method_18_code, 5, (some FieldType.int), 10, 0, 4, [(0, 10, 13, 29), (0, 10, 17, 19)]),
  (⟨"LineBallsLaw", "dueIn", "(LLineBalls;I[J)I"⟩, method_19_code, 4, (some FieldType.int), 10, 0, 3, [(0, 9, 12, 29)]),
  (⟨"LineBallsLaw", "ballHitIn", "(LLineBalls;I[J)I"⟩, method_20_code, 4, (some FieldType.int), 10, 0, 3, [(0, 9, 12, 29)]),
  (⟨"LineBallsLaw", "cellIn", "(LLineBalls;II[J)I"⟩, method_21_code, 5, (some FieldType.int), 10, 0, 4, [(0, 10, 13, 29), (0, 10, 17, 19)]),
  (⟨"LineBallsLaw", "speedIn", "(LLineBalls;II[J)I"⟩, method_22_code, 5, (some FieldType.int), 10, 0, 4, [(0, 10, 13, 29), (0, 10, 17, 19)]),
  (⟨"LineBallsLaw", "hitsIn", "(LLineBalls;I[J)I"⟩, method_23_code, 4, (some FieldType.int), 10, 0, 3, [(0, 9, 12, 19)]),
  (⟨"LineBallsLaw", "bouncesIn", "(LLineBalls;I[J)I"⟩, method_24_code, 4, (some FieldType.int), 10, 0, 3, [(0, 9, 12, 19)]),
  (⟨"LineBallsLaw", "energyIn", "(LLineBalls;I[J)I"⟩, method_25_code, 4, (some FieldType.int), 10, 0, 3, [(0, 8, 11, 19)]),
  (⟨"LineBallsLaw", "energyIf", "(LLineBalls;ZII[J)I"⟩, method_26_code, 6, (some FieldType.int), 10, 0, 5, [(0, 11, 14, 19)]),
  (⟨"LineBallsLaw", "share", "(LLineBalls;I[D)I"⟩, method_27_code, 4, (some FieldType.int), 10, 0, 3, [(0, 9, 12, 29)]),
  (⟨"LineBallsLaw", "pulse", "(LLineBalls;I[J)I"⟩, method_28_code, 4, (some FieldType.int), 10, 0, 3, [(0, 9, 12, 19)]),
  (⟨"LineBallsLaw", "tick", "(LLineBalls;I[J)I"⟩, method_29_code, 4, (some FieldType.int), 10, 0, 3, [(0, 9, 12, 19)]),
  (⟨"LineBallsLaw", "kick", "(LLineBalls;II[J)I"⟩, method_30_code, 5, (some FieldType.int), 10, 0, 4, [(0, 10, 13, 29), (0, 10, 17, 19)]),
  (⟨"LineBallsLaw", "setWeight", "(LLineBalls;II[J)I"⟩, method_31_code, 5, (some FieldType.int), 10, 0, 4, [(0, 10, 13, 29), (0, 10, 17, 19)]),
  (⟨"LineBallsLaw", "setSteal", "(LLineBalls;II[J)I"⟩, method_32_code, 5, (some FieldType.int), 10, 0, 4, [(0, 10, 13, 29), (0, 10, 17, 19)]),
  (⟨"LineBallsLaw", "addBall", "(LLineBalls;III[J)I"⟩, method_33_code, 6, (some FieldType.int), 10, 0, 5, [(0, 12, 15, 29), (0, 12, 19, 19), (0, 12, 23, 13)])]
def mP_7 : List (List (Nat × Nat)) := [[(8, 170), (1, 10), (8, 168), (8, 169)], [(8, 174), (1, 10), (8, 172), (8, 173)], [(8, 178), (1, 10), (8, 177), (0, 101)], [(8, 182), (1, 10), (8, 180), (8, 181)], [(8, 186), (1, 10), (8, 185), (0, 102)], [(8, 190), (1, 10), (8, 189), (0, 103)], [(8, 194), (1, 10), (8, 192), (8, 193)], [(8, 198), (1, 10), (8, 197), (0, 104)], [(8, 202), (1, 10), (8, 200), (8, 201)], [(4, 26), (1, 0), (4, 25)], [(4, 102), (1, 0), (4, 101)], [(4, 128), (1, 0), (4, 127)], [(4, 135), (1, 0), (4, 134)], [(4, 162), (1, 0), (4, 161)], [(4, 173), (1, 0), (4, 172)], [(4, 184), (1, 0), (4, 183)], [(4, 191), (1, 0), (4, 190)], [(4, 214), (1, 0), (4, 213)], [(4, 226), (1, 0), (4, 225)], [(4, 233), (1, 0), (4, 232)], [(5, 4), (1, 0), (5, 3)], [(5, 15), (1, 0), (5, 14)], [(5, 30), (1, 0), (5, 29)], [(5, 37), (1, 0), (5, 36)], [(5, 46), (1, 0), (5, 45)], [(5, 54), (1, 0), (5, 53)], [(5, 65), (1, 0), (5, 64)], [(5, 72), (1, 0), (5, 71)], [(5, 83), (1, 0), (5, 82)], [(5, 90), (1, 0), (5, 89)], [(5, 97), (1, 0), (5, 96)], [(5, 104), (1, 0), (5, 103)], [(5, 111), (1, 0), (5, 110)], [(5, 118), (1, 0), (5, 117)], [(5, 126), (1, 0), (5, 125)], [(5, 133), (1, 0), (5, 132)], [(5, 140), (1, 0), (5, 139)], [(5, 148), (1, 0), (5, 147)], [(5, 155), (1, 0), (5, 154)], [(5, 162), (1, 0), (5, 161)]]
def mT_8 : List zMT := [(⟨"LineBallsLaw", "removeBall", "(LLineBalls;I[J)I"⟩, method_34_code, 4, (some FieldType.int), 10, 0, 3, [(0, 9, 12, 29)]),
  (⟨"LineBallsLaw", "turn", "(LLineBalls;I[J)I"⟩, method_35_code, 4, (some FieldType.int), 10, 0, 3, [(0, 9, 12, 29)]),
  (⟨"LineBallsLaw", "place", "(LLineBalls;II[J)I"⟩, method_36_code, 5, (some FieldType.int), 10, 0, 4, [(0, 10, 13, 29), (0, 10, 17, 13)]),
  (⟨"LineBallsLaw", "keep", "(LLineBalls;I[J)I"⟩, method_37_code, 4, (some FieldType.int), 10, 0, 3, [(0, 9, 12, 29)]),
  (⟨"LineBallsLaw", "restore", "(LLineBalls;I[J)I"⟩, method_38_code, 4, (some FieldType.int), 10, 0, 3, [(0, 9, 12, 29), (0, 9, 15, 13)]),
  (⟨"LineBallsLaw", "undo", "(LLineBalls;[J)I"⟩, method_39_code, 3, (some FieldType.int), 10, 0, 2, [(0, 8, 11, 13)]),
  (⟨"LineBallsLaw", "outputByte", "(LLineBalls;I[J)I"⟩, method_40_code, 4, (some FieldType.int), 10, 0, 3, [(0, 9, 12, 44)]),
  (⟨"java/lang/String", "length", "()I"⟩, prog_21_method_54_code, 1, (some FieldType.int), 11, 1, 0, []),
  (⟨"java/lang/String", "coder", "()B"⟩, prog_21_method_152_code, 1, (some FieldType.byte), 11, 1, 0, []),
  (⟨"java/lang/String", "charAt", "(I)C"⟩, prog_21_method_56_code, 2, (some FieldType.char), 11, 1, 1, []),
  (⟨"java/lang/String", "isLatin1", "()Z"⟩, prog_21_method_154_code, 1, (some FieldType.boolean), 11, 1, 0, []),
  (⟨"java/lang/String", "checkIndex", "(II)V"⟩, prog_21_method_155_code, 2, none, 11, 0, 2, []),
  (⟨"java/lang/StringLatin1", "charAt", "([BI)C"⟩, prog_22_method_2_code, 2, (some FieldType.char), 12, 0, 2, []),
  (⟨"jdk/internal/util/Preconditions", "checkIndex", "(IILjava/util/function/BiFunction;)I"⟩, prog_29_method_11_code, 3, (some FieldType.int), 13, 0, 3, [])]
def mP_8 : List (List (Nat × Nat)) := [[(5, 170), (1, 0), (5, 169)], [(5, 197), (1, 0), (5, 196)], [(5, 204), (1, 0), (5, 203)], [(5, 212), (1, 0), (5, 211)], [(5, 222), (1, 0), (5, 221)], [(5, 229), (1, 0), (5, 228)], [(6, 0), (1, 0), (5, 239)], [(2, 150), (1, 17), (2, 148), (2, 149)], [(2, 154), (1, 17), (2, 152), (2, 153)], [(2, 160), (1, 17), (2, 158), (2, 159)], [(2, 164), (1, 17), (2, 162), (2, 163)], [(2, 170), (1, 17), (2, 169)], [(2, 167), (1, 18), (2, 166)], [(2, 175), (1, 19), (2, 174)]]
def mLaw : zMT := (x, code, 10, ret, 10, 0, 1, [])
def mT : List zMT := mT_0 ++ (mT_1 ++ (mT_2 ++ (mT_3 ++ (mT_4 ++ (mT_5 ++ (mT_6 ++ (mT_7 ++ (mT_8 ++ [mLaw]))))))))
def mLn (n : Nat) : zMT := mT.getD n mLaw
def mWd (m : zMT) : Cond := match m.2.2.2.2.2.2.2 with
  | [] => .code m.1 m.2.1 m.2.2.1 m.2.2.2.1
  | h :: t => .codeWith m.1 m.2.1 m.2.2.1 m.2.2.2.1 (h :: t)
def mWs (m : zMT) : List Cond := mWd m :: .initialized m.1.cls :: (match m.2.2.2.2.2.1 with
  | 0 => [.static m.1]
  | 1 => [.instanceMethod m.1, .selects m.1.cls m.1 m.1]
  | _ => [.instanceMethod m.1])
def mSg (m : zMT) : Bool := decide ((parseMethodDescriptor m.1.desc).map (fun d => d.parameters.length) = some m.2.2.2.2.2.2.1) && plainName m.1.cls && decide (m.1.cls ≠ "java/lang/invoke/MethodHandle") && decide (m.1.cls ≠ "java/lang/invoke/VarHandle") && decide (m.1.cls = zC m.2.2.2.2.1) && decide (m.2.2.2.2.2.1 = 2 → m.1.name = "<init>") && decide (m.2.2.1 ≤ 12)
def mCk : List zMT → List (List (Nat × Nat)) → Bool
  | [], _ => true
  | _ :: _, [] => false
  | m :: ms, p :: ps => chkW (mWs m) p && mSg m && mCk ms ps
theorem mCk_ok : ∀ (ms : List zMT) (ps : List (List (Nat × Nat))), mCk ms ps = true → ∀ m ∈ ms, (∀ w ∈ mWs m, w ∈ ALLW) ∧ mSg m = true
  | [], _, _ => fun _ h => by cases h
  | _ :: _, [], h => by simp [mCk] at h
  | m :: ms, p :: ps, h => by
    simp only [mCk, Bool.and_eq_true] at h
    intro x hx
    rcases List.mem_cons.mp hx with rfl | hx
    · exact ⟨chkW_ok _ _ h.1.1, h.1.2⟩
    · exact mCk_ok ms ps h.2 x hx

set_option maxRecDepth 100000 in
theorem mT_0_ok : ∀ m ∈ mT_0, (∀ w ∈ mWs m, w ∈ ALLW) ∧ mSg m = true := mCk_ok _ mP_0 (by decide +kernel)
set_option maxRecDepth 100000 in
theorem mT_1_ok : ∀ m ∈ mT_1, (∀ w ∈ mWs m, w ∈ ALLW) ∧ mSg m = true := mCk_ok _ mP_1 (by decide +kernel)
set_option maxRecDepth 100000 in
theorem mT_2_ok : ∀ m ∈ mT_2, (∀ w ∈ mWs m, w ∈ ALLW) ∧ mSg m = true := mCk_ok _ mP_2 (by decide +kernel)
set_option maxRecDepth 100000 in
theorem mT_3_ok : ∀ m ∈ mT_3, (∀ w ∈ mWs m, w ∈ ALLW) ∧ mSg m = true := mCk_ok _ mP_3 (by decide +kernel)
set_option maxRecDepth 100000 in
theorem mT_4_ok : ∀ m ∈ mT_4, (∀ w ∈ mWs m, w ∈ ALLW) ∧ mSg m = true := mCk_ok _ mP_4 (by decide +kernel)
set_option maxRecDepth 100000 in
theorem mT_5_ok : ∀ m ∈ mT_5, (∀ w ∈ mWs m, w ∈ ALLW) ∧ mSg m = true := mCk_ok _ mP_5 (by decide +kernel)
set_option maxRecDepth 100000 in
theorem mT_6_ok : ∀ m ∈ mT_6, (∀ w ∈ mWs m, w ∈ ALLW) ∧ mSg m = true := mCk_ok _ mP_6 (by decide +kernel)
set_option maxRecDepth 100000 in
theorem mT_7_ok : ∀ m ∈ mT_7, (∀ w ∈ mWs m, w ∈ ALLW) ∧ mSg m = true := mCk_ok _ mP_7 (by decide +kernel)
set_option maxRecDepth 100000 in
theorem mT_8_ok : ∀ m ∈ mT_8, (∀ w ∈ mWs m, w ∈ ALLW) ∧ mSg m = true := mCk_ok _ mP_8 (by decide +kernel)
theorem mT_ok : ∀ m ∈ mT_0 ++ (mT_1 ++ (mT_2 ++ (mT_3 ++ (mT_4 ++ (mT_5 ++ (mT_6 ++ (mT_7 ++ (mT_8)))))))), (∀ w ∈ mWs m, w ∈ ALLW) ∧ mSg m = true := by
  intro m h
  simp only [List.mem_append] at h
  rcases h with h | h | h | h | h | h | h | h | h
  · exact mT_0_ok m h
  · exact mT_1_ok m h
  · exact mT_2_ok m h
  · exact mT_3_ok m h
  · exact mT_4_ok m h
  · exact mT_5_ok m h
  · exact mT_6_ok m h
  · exact mT_7_ok m h
  · exact mT_8_ok m h
