/-! THE MEMORY behind the constructors. Made by wip/p57/gen/gen22.py. Objects: 15 the class, 16 its input, 17 and 18 its output, 19 now, 46 trial, 73 the parser, 74 and 75 the history, 76 + 27 i its lines, 238 and 239 slots, 240 and 267 their lines, from 294 on the law's. -/
def KL : List (Nat × Nat) := [(9, 0), (13, 400), (7, 0), (13, 256), (5, 0), (16, 10), (11, 10), (17, 4), (2, 0), (2, 0), (6, 0), (11, 40), (11, 40), (11, 40), (11, 40), (3, 0), (11, 100), (1, 0), (1, 0), (1, 0), (1, 0), (1, 0), (1, 0), (1, 0), (1, 0), (1, 0), (1, 0), (2, 0), (2, 0), (2, 0), (2, 0), (5, 0), (16, 10), (11, 10), (17, 4), (2, 0), (2, 0), (6, 0), (11, 40), (11, 40), (11, 40), (11, 40), (3, 0), (11, 100), (1, 0), (1, 0), (1, 0), (1, 0), (1, 0), (1, 0), (1, 0), (1, 0), (1, 0), (1, 0), (2, 0), (2, 0), (2, 0), (2, 0), (8, 0), (4, 0), (18, 6), (5, 0), (16, 10), (11, 10), (17, 4), (2, 0), (2, 0), (6, 0), (11, 40), (11, 40), (11, 40), (11, 40), (3, 0), (11, 100), (1, 0), (1, 0), (1, 0), (1, 0), (1, 0), (1, 0), (1, 0), (1, 0), (1, 0), (1, 0), (2, 0), (2, 0), (2, 0), (2, 0), (5, 0), (16, 10), (11, 10), (17, 4), (2, 0), (2, 0), (6, 0), (11, 40), (11, 40), (11, 40), (11, 40), (3, 0), (11, 100), (1, 0), (1, 0), (1, 0), (1, 0), (1, 0), (1, 0), (1, 0), (1, 0), (1, 0), (1, 0), (2, 0), (2, 0), (2, 0), (2, 0), (5, 0), (16, 10), (11, 10), (17, 4), (2, 0), (2, 0), (6, 0), (11, 40), (11, 40), (11, 40), (11, 40), (3, 0), (11, 100), (1, 0), (1, 0), (1, 0), (1, 0), (1, 0), (1, 0), (1, 0), (1, 0), (1, 0), (1, 0), (2, 0), (2, 0), (2, 0), (2, 0), (5, 0), (16, 10), (11, 10), (17, 4), (2, 0), (2, 0), (6, 0), (11, 40), (11, 40), (11, 40), (11, 40), (3, 0), (11, 100), (1, 0), (1, 0), (1, 0), (1, 0), (1, 0), (1, 0), (1, 0), (1, 0), (1, 0), (1, 0), (2, 0), (2, 0), (2, 0), (2, 0), (5, 0), (16, 10), (11, 10), (17, 4), (2, 0), (2, 0), (6, 0), (11, 40), (11, 40), (11, 40), (11, 40), (3, 0), (11, 100), (1, 0), (1, 0), (1, 0), (1, 0), (1, 0), (1, 0), (1, 0), (1, 0), (1, 0), (1, 0), (2, 0), (2, 0), (2, 0), (2, 0), (5, 0), (16, 10), (11, 10), (17, 4), (2, 0), (2, 0), (6, 0), (11, 40), (11, 40), (11, 40), (11, 40), (3, 0), (11, 100), (1, 0), (1, 0), (1, 0), (1, 0), (1, 0), (1, 0), (1, 0), (1, 0), (1, 0), (1, 0), (2, 0), (2, 0), (2, 0), (2, 0), (18, 2), (14, 2), (5, 0), (16, 10), (11, 10), (17, 4), (2, 0), (2, 0), (6, 0), (11, 40), (11, 40), (11, 40), (11, 40), (3, 0), (11, 100), (1, 0), (1, 0), (1, 0), (1, 0), (1, 0), (1, 0), (1, 0), (1, 0), (1, 0), (1, 0), (2, 0), (2, 0), (2, 0), (2, 0), (5, 0), (16, 10), (11, 10), (17, 4), (2, 0), (2, 0), (6, 0), (11, 40), (11, 40), (11, 40), (11, 40), (3, 0), (11, 100), (1, 0), (1, 0), (1, 0), (1, 0), (1, 0), (1, 0), (1, 0), (1, 0), (1, 0), (1, 0), (2, 0), (2, 0), (2, 0), (2, 0)]
def KRl : List (List Nat) := [[17, 0, 18, 0, 0, 20, 47, 74, 75, 239, 240], [], [19, 0], [], [0, 0, 21, 0, 22, 23, 0, 24, 25, 26, 31], [33, 34, 35, 36, 37, 38, 39, 40, 41, 42], [], [43, 44, 45, 46], [0, 0, 0], [0, 0, 0], [27, 28, 29, 30, 0, 0], [], [], [], [], [32, 0, 0, 0, 0, 0, 0, 0], [], [0, 0, 0, 0, 0, 0, 0, 0, 0, 0, 0], [0, 0, 0, 0, 0, 0, 0, 0, 0, 0, 0], [0, 0, 0, 0, 0, 0, 0, 0, 0, 0, 0], [0, 0, 0, 0, 0, 0, 0, 0, 0, 0, 0], [0, 0, 0, 0, 0, 0, 0, 0, 0, 0, 0], [0, 0, 0, 0, 0, 0, 0, 0, 0, 0, 0], [0, 0, 0, 0, 0, 0, 0, 0, 0, 0, 0], [0, 0, 0, 0, 0, 0, 0, 0, 0, 0, 0], [0, 0, 0, 0, 0, 0, 0, 0, 0, 0, 0], [0, 0, 0, 0, 0, 0, 0, 0, 0, 0, 0], [0, 0, 0], [0, 0, 0], [0, 0, 0], [0, 0, 0], [0, 0, 48, 0, 49, 50, 0, 51, 52, 53, 58], [60, 61, 62, 63, 64, 65, 66, 67, 68, 69], [], [70, 71, 72, 73], [0, 0, 0], [0, 0, 0], [54, 55, 56, 57, 0, 0], [], [], [], [], [59, 0, 0, 0, 0, 0, 0, 0], [], [0, 0, 0, 0, 0, 0, 0, 0, 0, 0, 0], [0, 0, 0, 0, 0, 0, 0, 0, 0, 0, 0], [0, 0, 0, 0, 0, 0, 0, 0, 0, 0, 0], [0, 0, 0, 0, 0, 0, 0, 0, 0, 0, 0], [0, 0, 0, 0, 0, 0, 0, 0, 0, 0, 0], [0, 0, 0, 0, 0, 0, 0, 0, 0, 0, 0], [0, 0, 0, 0, 0, 0, 0, 0, 0, 0, 0], [0, 0, 0, 0, 0, 0, 0, 0, 0, 0, 0], [0, 0, 0, 0, 0, 0, 0, 0, 0, 0, 0], [0, 0, 0, 0, 0, 0, 0, 0, 0, 0, 0], [0, 0, 0], [0, 0, 0], [0, 0, 0], [0, 0, 0], [17, 47, 0, 0, 0, 0, 0], [76, 0, 0], [77, 104, 131, 158, 185, 212], [0, 0, 78, 0, 79, 80, 0, 81, 82, 83, 88], [90, 91, 92, 93, 94, 95, 96, 97, 98, 99], [], [100, 101, 102, 103], [0, 0, 0], [0, 0, 0], [84, 85, 86, 87, 0, 0], [], [], [], [], [89, 0, 0, 0, 0, 0, 0, 0], [], [0, 0, 0, 0, 0, 0, 0, 0, 0, 0, 0], [0, 0, 0, 0, 0, 0, 0, 0, 0, 0, 0], [0, 0, 0, 0, 0, 0, 0, 0, 0, 0, 0], [0, 0, 0, 0, 0, 0, 0, 0, 0, 0, 0], [0, 0, 0, 0, 0, 0, 0, 0, 0, 0, 0], [0, 0, 0, 0, 0, 0, 0, 0, 0, 0, 0], [0, 0, 0, 0, 0, 0, 0, 0, 0, 0, 0], [0, 0, 0, 0, 0, 0, 0, 0, 0, 0, 0], [0, 0, 0, 0, 0, 0, 0, 0, 0, 0, 0], [0, 0, 0, 0, 0, 0, 0, 0, 0, 0, 0], [0, 0, 0], [0, 0, 0], [0, 0, 0], [0, 0, 0], [0, 0, 105, 0, 106, 107, 0, 108, 109, 110, 115], [117, 118, 119, 120, 121, 122, 123, 124, 125, 126], [], [127, 128, 129, 130], [0, 0, 0], [0, 0, 0], [111, 112, 113, 114, 0, 0], [], [], [], [], [116, 0, 0, 0, 0, 0, 0, 0], [], [0, 0, 0, 0, 0, 0, 0, 0, 0, 0, 0], [0, 0, 0, 0, 0, 0, 0, 0, 0, 0, 0], [0, 0, 0, 0, 0, 0, 0, 0, 0, 0, 0], [0, 0, 0, 0, 0, 0, 0, 0, 0, 0, 0], [0, 0, 0, 0, 0, 0, 0, 0, 0, 0, 0], [0, 0, 0, 0, 0, 0, 0, 0, 0, 0, 0], [0, 0, 0, 0, 0, 0, 0, 0, 0, 0, 0], [0, 0, 0, 0, 0, 0, 0, 0, 0, 0, 0], [0, 0, 0, 0, 0, 0, 0, 0, 0, 0, 0], [0, 0, 0, 0, 0, 0, 0, 0, 0, 0, 0], [0, 0, 0], [0, 0, 0], [0, 0, 0], [0, 0, 0], [0, 0, 132, 0, 133, 134, 0, 135, 136, 137, 142], [144, 145, 146, 147, 148, 149, 150, 151, 152, 153], [], [154, 155, 156, 157], [0, 0, 0], [0, 0, 0], [138, 139, 140, 141, 0, 0], [], [], [], [], [143, 0, 0, 0, 0, 0, 0, 0], [], [0, 0, 0, 0, 0, 0, 0, 0, 0, 0, 0], [0, 0, 0, 0, 0, 0, 0, 0, 0, 0, 0], [0, 0, 0, 0, 0, 0, 0, 0, 0, 0, 0], [0, 0, 0, 0, 0, 0, 0, 0, 0, 0, 0], [0, 0, 0, 0, 0, 0, 0, 0, 0, 0, 0], [0, 0, 0, 0, 0, 0, 0, 0, 0, 0, 0], [0, 0, 0, 0, 0, 0, 0, 0, 0, 0, 0], [0, 0, 0, 0, 0, 0, 0, 0, 0, 0, 0], [0, 0, 0, 0, 0, 0, 0, 0, 0, 0, 0], [0, 0, 0, 0, 0, 0, 0, 0, 0, 0, 0], [0, 0, 0], [0, 0, 0], [0, 0, 0], [0, 0, 0], [0, 0, 159, 0, 160, 161, 0, 162, 163, 164, 169], [171, 172, 173, 174, 175, 176, 177, 178, 179, 180], [], [181, 182, 183, 184], [0, 0, 0], [0, 0, 0], [165, 166, 167, 168, 0, 0], [], [], [], [], [170, 0, 0, 0, 0, 0, 0, 0], [], [0, 0, 0, 0, 0, 0, 0, 0, 0, 0, 0], [0, 0, 0, 0, 0, 0, 0, 0, 0, 0, 0], [0, 0, 0, 0, 0, 0, 0, 0, 0, 0, 0], [0, 0, 0, 0, 0, 0, 0, 0, 0, 0, 0], [0, 0, 0, 0, 0, 0, 0, 0, 0, 0, 0], [0, 0, 0, 0, 0, 0, 0, 0, 0, 0, 0], [0, 0, 0, 0, 0, 0, 0, 0, 0, 0, 0], [0, 0, 0, 0, 0, 0, 0, 0, 0, 0, 0], [0, 0, 0, 0, 0, 0, 0, 0, 0, 0, 0], [0, 0, 0, 0, 0, 0, 0, 0, 0, 0, 0], [0, 0, 0], [0, 0, 0], [0, 0, 0], [0, 0, 0], [0, 0, 186, 0, 187, 188, 0, 189, 190, 191, 196], [198, 199, 200, 201, 202, 203, 204, 205, 206, 207], [], [208, 209, 210, 211], [0, 0, 0], [0, 0, 0], [192, 193, 194, 195, 0, 0], [], [], [], [], [197, 0, 0, 0, 0, 0, 0, 0], [], [0, 0, 0, 0, 0, 0, 0, 0, 0, 0, 0], [0, 0, 0, 0, 0, 0, 0, 0, 0, 0, 0], [0, 0, 0, 0, 0, 0, 0, 0, 0, 0, 0], [0, 0, 0, 0, 0, 0, 0, 0, 0, 0, 0], [0, 0, 0, 0, 0, 0, 0, 0, 0, 0, 0], [0, 0, 0, 0, 0, 0, 0, 0, 0, 0, 0], [0, 0, 0, 0, 0, 0, 0, 0, 0, 0, 0], [0, 0, 0, 0, 0, 0, 0, 0, 0, 0, 0], [0, 0, 0, 0, 0, 0, 0, 0, 0, 0, 0], [0, 0, 0, 0, 0, 0, 0, 0, 0, 0, 0], [0, 0, 0], [0, 0, 0], [0, 0, 0], [0, 0, 0], [0, 0, 213, 0, 214, 215, 0, 216, 217, 218, 223], [225, 226, 227, 228, 229, 230, 231, 232, 233, 234], [], [235, 236, 237, 238], [0, 0, 0], [0, 0, 0], [219, 220, 221, 222, 0, 0], [], [], [], [], [224, 0, 0, 0, 0, 0, 0, 0], [], [0, 0, 0, 0, 0, 0, 0, 0, 0, 0, 0], [0, 0, 0, 0, 0, 0, 0, 0, 0, 0, 0], [0, 0, 0, 0, 0, 0, 0, 0, 0, 0, 0], [0, 0, 0, 0, 0, 0, 0, 0, 0, 0, 0], [0, 0, 0, 0, 0, 0, 0, 0, 0, 0, 0], [0, 0, 0, 0, 0, 0, 0, 0, 0, 0, 0], [0, 0, 0, 0, 0, 0, 0, 0, 0, 0, 0], [0, 0, 0, 0, 0, 0, 0, 0, 0, 0, 0], [0, 0, 0, 0, 0, 0, 0, 0, 0, 0, 0], [0, 0, 0, 0, 0, 0, 0, 0, 0, 0, 0], [0, 0, 0], [0, 0, 0], [0, 0, 0], [0, 0, 0], [241, 268], [], [0, 0, 242, 0, 243, 244, 0, 245, 246, 247, 252], [254, 255, 256, 257, 258, 259, 260, 261, 262, 263], [], [264, 265, 266, 267], [0, 0, 0], [0, 0, 0], [248, 249, 250, 251, 0, 0], [], [], [], [], [253, 0, 0, 0, 0, 0, 0, 0], [], [0, 0, 0, 0, 0, 0, 0, 0, 0, 0, 0], [0, 0, 0, 0, 0, 0, 0, 0, 0, 0, 0], [0, 0, 0, 0, 0, 0, 0, 0, 0, 0, 0], [0, 0, 0, 0, 0, 0, 0, 0, 0, 0, 0], [0, 0, 0, 0, 0, 0, 0, 0, 0, 0, 0], [0, 0, 0, 0, 0, 0, 0, 0, 0, 0, 0], [0, 0, 0, 0, 0, 0, 0, 0, 0, 0, 0], [0, 0, 0, 0, 0, 0, 0, 0, 0, 0, 0], [0, 0, 0, 0, 0, 0, 0, 0, 0, 0, 0], [0, 0, 0, 0, 0, 0, 0, 0, 0, 0, 0], [0, 0, 0], [0, 0, 0], [0, 0, 0], [0, 0, 0], [0, 0, 269, 0, 270, 271, 0, 272, 273, 274, 279], [281, 282, 283, 284, 285, 286, 287, 288, 289, 290], [], [291, 292, 293, 294], [0, 0, 0], [0, 0, 0], [275, 276, 277, 278, 0, 0], [], [], [], [], [280, 0, 0, 0, 0, 0, 0, 0], [], [0, 0, 0, 0, 0, 0, 0, 0, 0, 0, 0], [0, 0, 0, 0, 0, 0, 0, 0, 0, 0, 0], [0, 0, 0, 0, 0, 0, 0, 0, 0, 0, 0], [0, 0, 0, 0, 0, 0, 0, 0, 0, 0, 0], [0, 0, 0, 0, 0, 0, 0, 0, 0, 0, 0], [0, 0, 0, 0, 0, 0, 0, 0, 0, 0, 0], [0, 0, 0, 0, 0, 0, 0, 0, 0, 0, 0], [0, 0, 0, 0, 0, 0, 0, 0, 0, 0, 0], [0, 0, 0, 0, 0, 0, 0, 0, 0, 0, 0], [0, 0, 0, 0, 0, 0, 0, 0, 0, 0, 0], [0, 0, 0], [0, 0, 0], [0, 0, 0], [0, 0, 0]]
/-- the script's length; objects, slots; the kinds of those from 294 on -/
abbrev NX : Type := Nat × Nat × Nat × (Nat → Nat × Nat)
abbrev WX : Type := Nat → Nat → Nat
def KH (N : NX) (a : Nat) : Nat × Nat := if a = 0 then (19, N.1) else if a < 8 then (20, 0) else if a < 15 then (21, sln.getD (a - 8) 0) else if a < 294 then KL.getD (a - 15) (0, 0) else N.2.2.2 a
def KR0 (a k : Nat) : Nat := if a < 15 then 0 else (KRl.getD (a - 15) []).getD k 0
def KR (w : WX) (a k : Nat) : Nat := if a < 294 then KR0 a k else w a k
/-- a state between the constructors' end and the law's: throws, references from 294 on, ints, longs, doubles -/
def mk (N : NX) (t : Nat) (w : WX) (I : Nat → Nat → Int32) (L : Nat → Nat → Int64) (D : Nat → Nat → UInt64) : St := ((N.2.1, N.2.2.1, t), KH N, KR w, I, L, D)
section S22
variable {N : NX} {w : WX} {t : Nat} {I : Nat → Nat → Int32} {L : Nat → Nat → Int64} {D : Nat → Nat → UInt64}
theorem zh_mk {a : Nat} : zh (mk N t w I L D) a = KH N a := nr rfl
theorem zR_mk {a k : Nat} : zR (mk N t w I L D) a k = KR w a k := nr rfl
theorem zI_mk {a k : Nat} : zI (mk N t w I L D) a k = I a k := nr rfl
theorem zL_mk {a k : Nat} : zL (mk N t w I L D) a k = L a k := nr rfl
theorem zD_mk {a k : Nat} : zD (mk N t w I L D) a k = D a k := nr rfl
theorem wI_mk {a k : Nat} {v : Int32} : wI (mk N t w I L D) a k v = mk N t w (up2 I a k v) L D := nr rfl
theorem wL_mk {a k : Nat} {v : Int64} : wL (mk N t w I L D) a k v = mk N t w I (up2 L a k v) D := nr rfl
theorem wD_mk {a k : Nat} {v : UInt64} : wD (mk N t w I L D) a k v = mk N t w I L (up2 D a k v) := nr rfl
theorem zT_mk : zThrow (mk N t w I L D) = mk N (t + 1) w I L D := nr rfl
def cpy2 (I : Nat → Nat → Int32) (s d sp dp n : Nat) : Nat → Nat → Int32 := fun b j => if b = d then va_cpy (I s) (I d) sp dp n j else I b j
theorem zC_mk {s d sp dp n : Nat} : zCpy (mk N t w I L D) s d sp dp n = mk N t w (cpy2 I s d sp dp n) L D := nr rfl
theorem zn_mk : zn (mk N t w I L D) = N.2.1 := nr rfl
theorem wR_mk {a k x : Nat} (h : 294 ≤ a) : wR (mk N t w I L D) a k x = mk N t (up2 w a k x) I L D := by
  unfold wR mk
  refine Prod.ext rfl (Prod.ext rfl (Prod.ext ?_ rfl))
  show up2 (KR w) a k x = KR (up2 w a k x)
  funext b j
  unfold up2 KR
  by_cases h2 : b < 294
  · rw [if_neg (by omega), if_pos h2, if_pos h2]
  · rw [if_neg h2, if_neg h2]
/-- one object more -/
def nwN (N : NX) (kd : Nat × Nat) (n : Nat) : NX := (N.1, N.2.1 + 1, N.2.2.1 + n, up1 N.2.2.2 N.2.1 kd)
theorem nwN_1 {kd : Nat × Nat} {n : Nat} : (nwN N kd n).1 = N.1 := nr rfl
theorem nwN_2 {kd : Nat × Nat} {n : Nat} : (nwN N kd n).2.1 = N.2.1 + 1 := nr rfl
theorem nwN_3 {kd : Nat × Nat} {n : Nat} : (nwN N kd n).2.2.1 = N.2.2.1 + n := nr rfl
theorem KH_new {kd : Nat × Nat} {n : Nat} (h : 294 ≤ N.2.1) : KH (nwN N kd n) N.2.1 = kd := by
  unfold KH nwN
  dsimp only
  rw [if_neg (by omega), if_neg (by omega), if_neg (by omega), if_neg (by omega)]
  exact if_pos rfl
theorem KH_old {a : Nat} {kd : Nat × Nat} {n : Nat} (h : a ≠ N.2.1) : KH (nwN N kd n) a = KH N a := by
  unfold KH nwN up1
  dsimp only
  rw [if_neg h]
theorem KH_up {kd : Nat × Nat} {n : Nat} (h : 294 ≤ N.2.1) : up1 (KH N) N.2.1 kd = KH (nwN N kd n) := by
  funext b
  by_cases hb : b = N.2.1
  · subst hb
    rw [KH_new h]
    exact if_pos rfl
  · rw [KH_old hb]
    exact if_neg hb
theorem zNew_mk {kd : Nat × Nat} {n : Nat} (h : 294 ≤ N.2.1) : zNew (mk N t w I L D) kd n = mk (nwN N kd n) t w I L D := by
  unfold zNew mk
  refine Prod.ext rfl (Prod.ext ?_ rfl)
  exact KH_up h
/-- row a's ints also at row b -/
def dupI (I : Nat → Nat → Int32) (a b : Nat) : Nat → Nat → Int32 := fun c j => if c = b then I a j else I c j
theorem zCln_mk {a n : Nat} (h : 294 ≤ N.2.1) : zCln (mk N t w I L D) a n = mk (nwN N (13, n) n) t w (dupI I a N.2.1) L D := by
  unfold zCln mk
  refine Prod.ext rfl (Prod.ext ?_ rfl)
  exact KH_up h
def cpk (I : Nat → Nat → Int32) (f : Nat → Int32) (d sp dp n : Nat) : Nat → Nat → Int32 := fun b j => if b = d then va_cpy f (I d) sp dp n j else I b j
theorem zCk_mk {f : Nat → Int32} {d sp dp n : Nat} : zCpk (mk N t w I L D) f d sp dp n = mk N t w (cpk I f d sp dp n) L D := nr rfl
end S22
/-! lines: the object's numbers -/
def LBs : List Nat := [19, 46, 76, 103, 130, 157, 184, 211, 240, 267]
def LB (b : Nat) : Prop := b ∈ LBs
def lineK : List (Nat × Nat) := [(5, 0), (16, 10), (11, 10), (17, 4), (2, 0), (2, 0), (6, 0), (11, 40), (11, 40), (11, 40), (11, 40), (3, 0), (11, 100), (1, 0), (1, 0), (1, 0), (1, 0), (1, 0), (1, 0), (1, 0), (1, 0), (1, 0), (1, 0), (2, 0), (2, 0), (2, 0), (2, 0)]
theorem KH_hi {N : NX} {a : Nat} (h : 15 ≤ a ∧ a < 294) : KH N a = KL.getD (a - 15) (0, 0) := by
  unfold KH
  rw [if_neg (by omega), if_neg (by omega), if_neg (by omega), if_pos (by omega)]
theorem KR_hi {w : WX} {a k : Nat} (h : 15 ≤ a) (h2 : a < 294) : KR w a k = (KRl.getD (a - 15) []).getD k 0 := by
  unfold KR KR0
  rw [if_pos h2, if_neg (by omega)]
theorem LB_rng : ∀ b ∈ LBs, 15 ≤ b ∧ b + 27 ≤ 294 := by decide +kernel
theorem LB_K : ∀ b ∈ LBs, ∀ o, o < 27 → KL.getD (b + o - 15) (0, 0) = lineK.getD o (0, 0) := by decide +kernel
theorem LB_R : ∀ b ∈ LBs, (∀ k, k < 11 → (KRl.getD (b - 15) []).getD k 0 = ([0, 0, b + 2, 0, b + 3, b + 4, 0, b + 5, b + 6, b + 7, b + 12].getD k 0)) ∧ (∀ i, i < 10 → (KRl.getD (b + 1 - 15) []).getD i 0 = b + 14 + i) ∧ (∀ i, i < 4 → (KRl.getD (b + 3 - 15) []).getD i 0 = b + 24 + i) ∧ (∀ i, i < 4 → (KRl.getD (b + 6 - 15) []).getD i 0 = b + 8 + i) ∧ (KRl.getD (b + 11 - 15) []).getD 0 0 = b + 13 := by decide +kernel
section S22b
variable {N : NX} {w : WX} {b : Nat}
theorem kh0 (hb : LB b) : KH N b = (5, 0) := by
  have h1 := LB_rng b hb
  rw [KH_hi (by omega)]
  exact LB_K b hb 0 (by omega)
theorem khO {o : Nat} (hb : LB b) (ho : o < 27) : KH N (b + o) = lineK.getD o (0, 0) := by
  have h1 := LB_rng b hb
  rw [KH_hi (by omega)]
  exact LB_K b hb o ho
theorem kh1 (hb : LB b) : KH N (b + 1) = (16, 10) := khO hb (by decide)
theorem kh2 (hb : LB b) : KH N (b + 2) = (11, 10) := khO hb (by decide)
theorem kh3 (hb : LB b) : KH N (b + 3) = (17, 4) := khO hb (by decide)
theorem kh4 (hb : LB b) : KH N (b + 4) = (2, 0) := khO hb (by decide)
theorem kh5 (hb : LB b) : KH N (b + 5) = (2, 0) := khO hb (by decide)
theorem kh6 (hb : LB b) : KH N (b + 6) = (6, 0) := khO hb (by decide)
theorem kh7 (hb : LB b) : KH N (b + 7) = (11, 40) := khO hb (by decide)
theorem kh8 (hb : LB b) : KH N (b + 8) = (11, 40) := khO hb (by decide)
theorem kh9 (hb : LB b) : KH N (b + 9) = (11, 40) := khO hb (by decide)
theorem kh10 (hb : LB b) : KH N (b + 10) = (11, 40) := khO hb (by decide)
theorem kh11 (hb : LB b) : KH N (b + 11) = (3, 0) := khO hb (by decide)
theorem kh12 (hb : LB b) : KH N (b + 12) = (11, 100) := khO hb (by decide)
theorem khB {i : Nat} (hb : LB b) (hi : i < 10) : KH N (b + (i + 13)) = (1, 0) := by
  rw [khO hb (by omega)]
  have : ∀ i, i < 10 → lineK.getD (i + 13) (0, 0) = (1, 0) := by decide
  exact this i hi
theorem khP {i : Nat} (hb : LB b) (hi : i < 4) : KH N (b + (i + 23)) = (2, 0) := by
  rw [khO hb (by omega)]
  have : ∀ i, i < 4 → lineK.getD (i + 23) (0, 0) = (2, 0) := by decide
  exact this i hi
theorem kr2 (hb : LB b) : rv (KR w b 2) = .ref (b + 1) := by
  have h1 := LB_rng b hb
  rw [KR_hi (by omega) (by omega), (LB_R b hb).1 2 (by decide)]
  rfl
theorem kr4 (hb : LB b) : rv (KR w b 4) = .ref (b + 2) := by
  have h1 := LB_rng b hb
  rw [KR_hi (by omega) (by omega), (LB_R b hb).1 4 (by decide)]
  rfl
theorem kr5 (hb : LB b) : rv (KR w b 5) = .ref (b + 3) := by
  have h1 := LB_rng b hb
  rw [KR_hi (by omega) (by omega), (LB_R b hb).1 5 (by decide)]
  rfl
theorem kr7 (hb : LB b) : rv (KR w b 7) = .ref (b + 4) := by
  have h1 := LB_rng b hb
  rw [KR_hi (by omega) (by omega), (LB_R b hb).1 7 (by decide)]
  rfl
theorem kr8 (hb : LB b) : rv (KR w b 8) = .ref (b + 5) := by
  have h1 := LB_rng b hb
  rw [KR_hi (by omega) (by omega), (LB_R b hb).1 8 (by decide)]
  rfl
theorem kr9 (hb : LB b) : rv (KR w b 9) = .ref (b + 6) := by
  have h1 := LB_rng b hb
  rw [KR_hi (by omega) (by omega), (LB_R b hb).1 9 (by decide)]
  rfl
theorem kr10 (hb : LB b) : rv (KR w b 10) = .ref (b + 11) := by
  have h1 := LB_rng b hb
  rw [KR_hi (by omega) (by omega), (LB_R b hb).1 10 (by decide)]
  rfl
theorem krB {i : Nat} (hb : LB b) (hi : i < 10) : rv (KR w (b + 1) i) = .ref (b + (i + 13)) := by
  have h1 := LB_rng b hb
  rw [KR_hi (by omega) (by omega), (LB_R b hb).2.1 i hi, show b + 14 + i = b + (i + 13) + 1 by omega]
  rfl
theorem krP {i : Nat} (hb : LB b) (hi : i < 4) : rv (KR w (b + 3) i) = .ref (b + (i + 23)) := by
  have h1 := LB_rng b hb
  rw [KR_hi (by omega) (by omega), (LB_R b hb).2.2.1 i hi, show b + 24 + i = b + (i + 23) + 1 by omega]
  rfl
theorem krG0 (hb : LB b) : rv (KR w (b + 6) 0) = .ref (b + 7) := by
  have h1 := LB_rng b hb
  rw [KR_hi (by omega) (by omega), (LB_R b hb).2.2.2.1 0 (by decide)]
  rfl
theorem krG1 (hb : LB b) : rv (KR w (b + 6) 1) = .ref (b + 8) := by
  have h1 := LB_rng b hb
  rw [KR_hi (by omega) (by omega), (LB_R b hb).2.2.2.1 1 (by decide)]
  rfl
theorem krG2 (hb : LB b) : rv (KR w (b + 6) 2) = .ref (b + 9) := by
  have h1 := LB_rng b hb
  rw [KR_hi (by omega) (by omega), (LB_R b hb).2.2.2.1 2 (by decide)]
  rfl
theorem krG3 (hb : LB b) : rv (KR w (b + 6) 3) = .ref (b + 10) := by
  have h1 := LB_rng b hb
  rw [KR_hi (by omega) (by omega), (LB_R b hb).2.2.2.1 3 (by decide)]
  rfl
theorem krK (hb : LB b) : rv (KR w (b + 11) 0) = .ref (b + 12) := by
  have h1 := LB_rng b hb
  rw [KR_hi (by omega) (by omega), (LB_R b hb).2.2.2.2]
  rfl
end S22b
/-! a line's own memory, by the place behind its first object -/
def gl {α : Type} (b : Nat) (I : Nat → Nat → α) : Nat → Nat → α := fun o k => I (b + o) k
def lay {α : Type} (b : Nat) (ℓ I : Nat → Nat → α) : Nat → Nat → α := fun a k => if b ≤ a ∧ a < b + 27 then ℓ (a - b) k else I a k
section S22c
variable {α : Type} {b : Nat} {ℓ I : Nat → Nat → α}
theorem lay_in {o k : Nat} (ho : o < 27) : lay b ℓ I (b + o) k = ℓ o k := by
  unfold lay
  rw [if_pos (by omega), show b + o - b = o by omega]
theorem lay_0 {k : Nat} : lay b ℓ I b k = ℓ 0 k := lay_in (o := 0) (by omega)
theorem lay_out {a k : Nat} (h : a < b ∨ b + 27 ≤ a) : lay b ℓ I a k = I a k := by
  unfold lay
  rw [if_neg (by omega)]
theorem lay_gl : lay b (gl b I) I = I := by
  funext a k
  unfold lay gl
  by_cases h : b ≤ a ∧ a < b + 27
  · rw [if_pos h, show b + (a - b) = a by omega]
  · rw [if_neg h]
theorem lay_lay {ℓ' : Nat → Nat → α} : lay b ℓ (lay b ℓ' I) = lay b ℓ I := by
  funext a k
  unfold lay
  by_cases h : b ≤ a ∧ a < b + 27
  · rw [if_pos h, if_pos h]
  · rw [if_neg h, if_neg h, if_neg h]
theorem up2_lay {o k : Nat} {v : α} (ho : o < 27) : up2 (lay b ℓ I) (b + o) k v = lay b (up2 ℓ o k v) I := by
  funext a j
  unfold up2 lay
  by_cases h : b ≤ a ∧ a < b + 27
  · simp only [h, and_self, if_true]
    by_cases h1 : a = b + o ∧ j = k
    · rw [if_pos h1, if_pos (by omega)]
    · rw [if_neg h1, if_neg (by omega)]
  · rw [if_neg (by omega), if_neg h, if_neg h]
theorem up2_lay0 {k : Nat} {v : α} : up2 (lay b ℓ I) b k v = lay b (up2 ℓ 0 k v) I := up2_lay (o := 0) (by omega)
theorem up2_same {f : Nat → Nat → α} {a k : Nat} {v : α} : up2 f a k v a k = v := by
  unfold up2
  rw [if_pos ⟨rfl, rfl⟩]
theorem up2_at {f : Nat → Nat → α} {a k b j : Nat} {v : α} : up2 f a k v b j = if b = a ∧ j = k then v else f b j := nr rfl
end S22c
/-! ints as numbers -/
section S22d
variable {a b z : Int} {i j n : Nat}
theorem o_add : Int32.ofInt a + Int32.ofInt b = Int32.ofInt (a + b) := (Int32.ofInt_add a b).symm
theorem o_sub : Int32.ofInt a - Int32.ofInt b = Int32.ofInt (a - b) := (Int32.ofInt_sub a b).symm
theorem o_mul : Int32.ofInt a * Int32.ofInt b = Int32.ofInt (a * b) := (Int32.ofInt_mul a b).symm
theorem o_neg : -Int32.ofInt a = Int32.ofInt (-a) := (Int32.ofInt_neg a).symm
theorem q_add : Int64.ofInt a + Int64.ofInt b = Int64.ofInt (a + b) := (Int64.ofInt_add a b).symm
theorem q_sub : Int64.ofInt a - Int64.ofInt b = Int64.ofInt (a - b) := (Int64.ofInt_sub a b).symm
theorem q_mul : Int64.ofInt a * Int64.ofInt b = Int64.ofInt (a * b) := (Int64.ofInt_mul a b).symm
theorem q_neg : -Int64.ofInt a = Int64.ofInt (-a) := (Int64.ofInt_neg a).symm
theorem o_ti (h : -2147483648 ≤ a ∧ a < 2147483648) : (Int32.ofInt a).toInt = a := Int32.toInt_ofInt_of_le h.1 h.2
theorem q_ti (h : -9223372036854775808 ≤ a ∧ a < 9223372036854775808) : (Int64.ofInt a).toInt = a := Int64.toInt_ofInt_of_le h.1 h.2
theorem o_lt (h : -2147483648 ≤ a ∧ a < 2147483648 ∧ -2147483648 ≤ b ∧ b < 2147483648) : (Int32.ofInt a < Int32.ofInt b) = (a < b) := by
  rw [Int32.lt_iff_toInt_lt, o_ti ⟨h.1, h.2.1⟩, o_ti ⟨h.2.2.1, h.2.2.2⟩]
theorem o_le (h : -2147483648 ≤ a ∧ a < 2147483648 ∧ -2147483648 ≤ b ∧ b < 2147483648) : (Int32.ofInt a ≤ Int32.ofInt b) = (a ≤ b) := by
  rw [Int32.le_iff_toInt_le, o_ti ⟨h.1, h.2.1⟩, o_ti ⟨h.2.2.1, h.2.2.2⟩]
theorem o_eq (h : -2147483648 ≤ a ∧ a < 2147483648 ∧ -2147483648 ≤ b ∧ b < 2147483648) : (Int32.ofInt a = Int32.ofInt b) = (a = b) := by
  rw [← Int32.toInt_inj, o_ti ⟨h.1, h.2.1⟩, o_ti ⟨h.2.2.1, h.2.2.2⟩]
theorem q_lt (h : -9223372036854775808 ≤ a ∧ a < 9223372036854775808 ∧ -9223372036854775808 ≤ b ∧ b < 9223372036854775808) : (Int64.ofInt a < Int64.ofInt b) = (a < b) := by
  rw [Int64.lt_iff_toInt_lt, q_ti ⟨h.1, h.2.1⟩, q_ti ⟨h.2.2.1, h.2.2.2⟩]
theorem q_le (h : -9223372036854775808 ≤ a ∧ a < 9223372036854775808 ∧ -9223372036854775808 ≤ b ∧ b < 9223372036854775808) : (Int64.ofInt a ≤ Int64.ofInt b) = (a ≤ b) := by
  rw [Int64.le_iff_toInt_le, q_ti ⟨h.1, h.2.1⟩, q_ti ⟨h.2.2.1, h.2.2.2⟩]
theorem q_eq (h : -9223372036854775808 ≤ a ∧ a < 9223372036854775808 ∧ -9223372036854775808 ≤ b ∧ b < 9223372036854775808) : (Int64.ofInt a = Int64.ofInt b) = (a = b) := by
  rw [← Int64.toInt_inj, q_ti ⟨h.1, h.2.1⟩, q_ti ⟨h.2.2.1, h.2.2.2⟩]
theorem o_div (h : -2147483648 ≤ a ∧ a < 2147483648 ∧ -2147483648 ≤ b ∧ b < 2147483648) : Int32.ofInt a / Int32.ofInt b = Int32.ofInt (a.tdiv b) := by
  have e1 : Int32.minValue.toInt = -2147483648 := by decide
  have e2 : Int32.maxValue.toInt = 2147483647 := by decide
  exact (Int32.ofInt_tdiv (by omega) (by omega) (by omega) (by omega)).symm
theorem o_32 : (Int64.ofInt z).toInt32 = Int32.ofInt z := Int64.toInt32_ofInt
theorem o_64 (h : -2147483648 ≤ z ∧ z < 2147483648) : (Int32.ofInt z).toInt64 = Int64.ofInt z := by
  have e1 : Int32.minValue.toInt = -2147483648 := by decide
  have e2 : Int32.maxValue.toInt = 2147483647 := by decide
  exact Int32.toInt64_ofInt (by omega) (by omega)
theorem o_nat : Int32.ofNat n = Int32.ofInt (n : Int) := Int32.ofInt_eq_ofNat.symm
theorem o_tn (h : 0 ≤ z ∧ z < 2147483648) : (Int32.ofInt z).toNatClampNeg = z.toNat := by
  show (Int32.ofInt z).toInt.toNat = _
  rw [o_ti (by omega)]
theorem o_ix (h : 0 ≤ z ∧ z < n ∧ n < 2147483648) : inx (Int32.ofInt z) n = true := by
  unfold inx
  have h1 : z.toNat < n := by omega
  have h2 : Int32.ofInt 0 ≤ Int32.ofInt z := by
    rw [o_le (by omega)]
    exact h.1
  rw [o_tn (by omega), ← o0]
  simp only [h2, h1, decide_true, Bool.and_self]
theorem o_tnn (h : j < 2147483648) : (Int32.ofInt (j : Int)).toNatClampNeg = j := by
  rw [o_tn (by omega), Int.toNat_natCast]
theorem o_ixn (h : j < n ∧ n < 2147483648) : inx (Int32.ofInt (j : Int)) n = true := o_ix (by omega)
theorem cast_s : ((i : Nat) : Int) + 1 = ((i + 1 : Nat) : Int) := nr rfl
theorem o_z (x : Int32) : ∃ z : Int, x = Int32.ofInt z ∧ -2147483648 ≤ z ∧ z < 2147483648 := ⟨x.toInt, (Int32.ofInt_toInt x).symm, Int32.le_toInt x, Int32.toInt_lt x⟩
theorem q_z (x : Int64) : ∃ z : Int, x = Int64.ofInt z ∧ -9223372036854775808 ≤ z ∧ z < 9223372036854775808 := ⟨x.toInt, (Int64.ofInt_toInt x).symm, Int64.le_toInt x, Int64.toInt_lt x⟩
end S22d
/-! truth values -/
def pI (P : Prop) [Decidable P] : Int32 := if P then Int32.ofInt 1 else Int32.ofInt 0
section S22e
theorem p1 : Int32.ofInt 1 = pI True := nr rfl
theorem p_0 {P : Prop} [Decidable P] : (pI P = Int32.ofInt 0) = ¬ P := by
  unfold pI
  by_cases h : P
  · simp only [h, if_true, not_true_eq_false, eq_iff_iff, iff_false]; decide
  · simp only [h, if_false, not_false_eq_true]
theorem p_1 {P : Prop} [Decidable P] : (pI P = Int32.ofInt 1) = P := by
  unfold pI
  by_cases h : P
  · simp only [h, if_true]
  · simp only [h, if_false, eq_iff_iff, iff_false]; decide
theorem p_n {P : Prop} [Decidable P] : narrow .boolean (.int (pI P)) = .int (pI P) := by
  unfold pI
  by_cases h : P
  · simp only [h, if_true]; rfl
  · simp only [h, if_false]; rfl
theorem p_n1 : narrow .boolean (.int (Int32.ofInt 1)) = .int (Int32.ofInt 1) := nr rfl
theorem p_n0 : narrow .boolean (.int (Int32.ofInt 0)) = .int (Int32.ofInt 0) := nr rfl
theorem p_o1 : okv .boolean (.int (Int32.ofInt 1)) = true := by decide +kernel
theorem p_o0 : okv .boolean (.int (Int32.ofInt 0)) = true := by decide +kernel
end S22e
/-! rows of longs -/
/-- the row of an array's longs, whole -/
def sR (L : Nat → Nat → Int64) (a : Nat) (f : Nat → Int64) : Nat → Nat → Int64 := fun b j => if b = a then f j else L b j
def r64 (α : Nat → Int) : Nat → Int64 := fun k => Int64.ofInt (α k)
section S22f
variable {L : Nat → Nat → Int64} {a b k : Nat} {f g : Nat → Int64} {α : Nat → Int} {z : Int}
theorem sR_at {j : Nat} : sR L a f a j = f j := by
  unfold sR
  rw [if_pos rfl]
theorem sR_ne {j : Nat} (h : b ≠ a) : sR L a f b j = L b j := by
  unfold sR
  rw [if_neg h]
theorem sR_sR : sR (sR L a f) a g = sR L a g := by
  funext b j
  unfold sR
  by_cases h : b = a <;> simp only [h, if_true, if_false]
theorem sR_self : sR L a (L a) = L := by
  funext b j
  unfold sR
  by_cases h : b = a
  · rw [if_pos h, h]
  · rw [if_neg h]
theorem r64_at : r64 α k = Int64.ofInt (α k) := nr rfl
theorem r64_of (f : Nat → Int64) : ∃ α : Nat → Int, f = r64 α ∧ ∀ k, -9223372036854775808 ≤ α k ∧ α k < 9223372036854775808 :=
  ⟨fun k => (f k).toInt, by funext k; exact (Int64.ofInt_toInt (f k)).symm, fun k => ⟨Int64.le_toInt _, Int64.toInt_lt _⟩⟩
theorem up1_r64 : up1 (r64 α) k (Int64.ofInt z) = r64 (up1 α k z) := by
  funext j
  unfold up1 r64
  by_cases h : j = k <;> simp only [h, if_true, if_false]
theorem up2_sR {v : Int64} : up2 (sR L a f) a k v = sR L a (up1 f k v) := by
  funext b j
  unfold up2 sR up1
  by_cases h : b = a
  · simp only [h, true_and, if_true]
  · simp only [h, false_and, if_false]
theorem up2_r64 : up2 (sR L a (r64 α)) a k (Int64.ofInt z) = sR L a (r64 (up1 α k z)) := by
  rw [up2_sR, up1_r64]
end S22f
