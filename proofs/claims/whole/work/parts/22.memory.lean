/-! THE MEMORY behind the constructors. Made by wip/whole/gen/gen22.py. Objects: 15 the class, 16 its input, 17 and 18 its output, 19 now, 46 trial, 73 the parser, 74 and 75 the history, 76 + 27 i its lines, 238 and 239 slots, 240 and 267 their lines, 294 the reference, 295 to 302 its rows, 303 and 304 the law's. -/
def KL : List (Nat × Nat) := [(9, 0), (13, 400), (7, 0), (13, 256), (5, 0), (16, 10), (11, 10), (17, 4), (2, 0), (2, 0), (6, 0), (11, 40), (11, 40), (11, 40), (11, 40), (3, 0), (11, 100), (1, 0), (1, 0), (1, 0), (1, 0), (1, 0), (1, 0), (1, 0), (1, 0), (1, 0), (1, 0), (2, 0), (2, 0), (2, 0), (2, 0), (5, 0), (16, 10), (11, 10), (17, 4), (2, 0), (2, 0), (6, 0), (11, 40), (11, 40), (11, 40), (11, 40), (3, 0), (11, 100), (1, 0), (1, 0), (1, 0), (1, 0), (1, 0), (1, 0), (1, 0), (1, 0), (1, 0), (1, 0), (2, 0), (2, 0), (2, 0), (2, 0), (8, 0), (4, 0), (18, 6), (5, 0), (16, 10), (11, 10), (17, 4), (2, 0), (2, 0), (6, 0), (11, 40), (11, 40), (11, 40), (11, 40), (3, 0), (11, 100), (1, 0), (1, 0), (1, 0), (1, 0), (1, 0), (1, 0), (1, 0), (1, 0), (1, 0), (1, 0), (2, 0), (2, 0), (2, 0), (2, 0), (5, 0), (16, 10), (11, 10), (17, 4), (2, 0), (2, 0), (6, 0), (11, 40), (11, 40), (11, 40), (11, 40), (3, 0), (11, 100), (1, 0), (1, 0), (1, 0), (1, 0), (1, 0), (1, 0), (1, 0), (1, 0), (1, 0), (1, 0), (2, 0), (2, 0), (2, 0), (2, 0), (5, 0), (16, 10), (11, 10), (17, 4), (2, 0), (2, 0), (6, 0), (11, 40), (11, 40), (11, 40), (11, 40), (3, 0), (11, 100), (1, 0), (1, 0), (1, 0), (1, 0), (1, 0), (1, 0), (1, 0), (1, 0), (1, 0), (1, 0), (2, 0), (2, 0), (2, 0), (2, 0), (5, 0), (16, 10), (11, 10), (17, 4), (2, 0), (2, 0), (6, 0), (11, 40), (11, 40), (11, 40), (11, 40), (3, 0), (11, 100), (1, 0), (1, 0), (1, 0), (1, 0), (1, 0), (1, 0), (1, 0), (1, 0), (1, 0), (1, 0), (2, 0), (2, 0), (2, 0), (2, 0), (5, 0), (16, 10), (11, 10), (17, 4), (2, 0), (2, 0), (6, 0), (11, 40), (11, 40), (11, 40), (11, 40), (3, 0), (11, 100), (1, 0), (1, 0), (1, 0), (1, 0), (1, 0), (1, 0), (1, 0), (1, 0), (1, 0), (1, 0), (2, 0), (2, 0), (2, 0), (2, 0), (5, 0), (16, 10), (11, 10), (17, 4), (2, 0), (2, 0), (6, 0), (11, 40), (11, 40), (11, 40), (11, 40), (3, 0), (11, 100), (1, 0), (1, 0), (1, 0), (1, 0), (1, 0), (1, 0), (1, 0), (1, 0), (1, 0), (1, 0), (2, 0), (2, 0), (2, 0), (2, 0), (18, 2), (14, 2), (5, 0), (16, 10), (11, 10), (17, 4), (2, 0), (2, 0), (6, 0), (11, 40), (11, 40), (11, 40), (11, 40), (3, 0), (11, 100), (1, 0), (1, 0), (1, 0), (1, 0), (1, 0), (1, 0), (1, 0), (1, 0), (1, 0), (1, 0), (2, 0), (2, 0), (2, 0), (2, 0), (5, 0), (16, 10), (11, 10), (17, 4), (2, 0), (2, 0), (6, 0), (11, 40), (11, 40), (11, 40), (11, 40), (3, 0), (11, 100), (1, 0), (1, 0), (1, 0), (1, 0), (1, 0), (1, 0), (1, 0), (1, 0), (1, 0), (1, 0), (2, 0), (2, 0), (2, 0), (2, 0), (10, 0), (12, 378), (12, 378), (12, 378), (13, 400), (12, 756), (14, 2), (12, 2268), (13, 300), (12, 1), (15, 1)]
def KRl : List (List Nat) := [[17, 0, 18, 0, 0, 20, 47, 74, 75, 239, 240], [], [19, 0], [], [0, 0, 21, 0, 22, 23, 0, 24, 25, 26, 31], [33, 34, 35, 36, 37, 38, 39, 40, 41, 42], [], [43, 44, 45, 46], [0, 0, 0], [0, 0, 0], [27, 28, 29, 30, 0, 0], [], [], [], [], [32, 0, 0, 0, 0, 0, 0, 0], [], [0, 0, 0, 0, 0, 0, 0, 0, 0, 0, 0], [0, 0, 0, 0, 0, 0, 0, 0, 0, 0, 0], [0, 0, 0, 0, 0, 0, 0, 0, 0, 0, 0], [0, 0, 0, 0, 0, 0, 0, 0, 0, 0, 0], [0, 0, 0, 0, 0, 0, 0, 0, 0, 0, 0], [0, 0, 0, 0, 0, 0, 0, 0, 0, 0, 0], [0, 0, 0, 0, 0, 0, 0, 0, 0, 0, 0], [0, 0, 0, 0, 0, 0, 0, 0, 0, 0, 0], [0, 0, 0, 0, 0, 0, 0, 0, 0, 0, 0], [0, 0, 0, 0, 0, 0, 0, 0, 0, 0, 0], [0, 0, 0], [0, 0, 0], [0, 0, 0], [0, 0, 0], [0, 0, 48, 0, 49, 50, 0, 51, 52, 53, 58], [60, 61, 62, 63, 64, 65, 66, 67, 68, 69], [], [70, 71, 72, 73], [0, 0, 0], [0, 0, 0], [54, 55, 56, 57, 0, 0], [], [], [], [], [59, 0, 0, 0, 0, 0, 0, 0], [], [0, 0, 0, 0, 0, 0, 0, 0, 0, 0, 0], [0, 0, 0, 0, 0, 0, 0, 0, 0, 0, 0], [0, 0, 0, 0, 0, 0, 0, 0, 0, 0, 0], [0, 0, 0, 0, 0, 0, 0, 0, 0, 0, 0], [0, 0, 0, 0, 0, 0, 0, 0, 0, 0, 0], [0, 0, 0, 0, 0, 0, 0, 0, 0, 0, 0], [0, 0, 0, 0, 0, 0, 0, 0, 0, 0, 0], [0, 0, 0, 0, 0, 0, 0, 0, 0, 0, 0], [0, 0, 0, 0, 0, 0, 0, 0, 0, 0, 0], [0, 0, 0, 0, 0, 0, 0, 0, 0, 0, 0], [0, 0, 0], [0, 0, 0], [0, 0, 0], [0, 0, 0], [17, 47, 0, 0, 0, 0, 0], [76, 0, 0], [77, 104, 131, 158, 185, 212], [0, 0, 78, 0, 79, 80, 0, 81, 82, 83, 88], [90, 91, 92, 93, 94, 95, 96, 97, 98, 99], [], [100, 101, 102, 103], [0, 0, 0], [0, 0, 0], [84, 85, 86, 87, 0, 0], [], [], [], [], [89, 0, 0, 0, 0, 0, 0, 0], [], [0, 0, 0, 0, 0, 0, 0, 0, 0, 0, 0], [0, 0, 0, 0, 0, 0, 0, 0, 0, 0, 0], [0, 0, 0, 0, 0, 0, 0, 0, 0, 0, 0], [0, 0, 0, 0, 0, 0, 0, 0, 0, 0, 0], [0, 0, 0, 0, 0, 0, 0, 0, 0, 0, 0], [0, 0, 0, 0, 0, 0, 0, 0, 0, 0, 0], [0, 0, 0, 0, 0, 0, 0, 0, 0, 0, 0], [0, 0, 0, 0, 0, 0, 0, 0, 0, 0, 0], [0, 0, 0, 0, 0, 0, 0, 0, 0, 0, 0], [0, 0, 0, 0, 0, 0, 0, 0, 0, 0, 0], [0, 0, 0], [0, 0, 0], [0, 0, 0], [0, 0, 0], [0, 0, 105, 0, 106, 107, 0, 108, 109, 110, 115], [117, 118, 119, 120, 121, 122, 123, 124, 125, 126], [], [127, 128, 129, 130], [0, 0, 0], [0, 0, 0], [111, 112, 113, 114, 0, 0], [], [], [], [], [116, 0, 0, 0, 0, 0, 0, 0], [], [0, 0, 0, 0, 0, 0, 0, 0, 0, 0, 0], [0, 0, 0, 0, 0, 0, 0, 0, 0, 0, 0], [0, 0, 0, 0, 0, 0, 0, 0, 0, 0, 0], [0, 0, 0, 0, 0, 0, 0, 0, 0, 0, 0], [0, 0, 0, 0, 0, 0, 0, 0, 0, 0, 0], [0, 0, 0, 0, 0, 0, 0, 0, 0, 0, 0], [0, 0, 0, 0, 0, 0, 0, 0, 0, 0, 0], [0, 0, 0, 0, 0, 0, 0, 0, 0, 0, 0], [0, 0, 0, 0, 0, 0, 0, 0, 0, 0, 0], [0, 0, 0, 0, 0, 0, 0, 0, 0, 0, 0], [0, 0, 0], [0, 0, 0], [0, 0, 0], [0, 0, 0], [0, 0, 132, 0, 133, 134, 0, 135, 136, 137, 142], [144, 145, 146, 147, 148, 149, 150, 151, 152, 153], [], [154, 155, 156, 157], [0, 0, 0], [0, 0, 0], [138, 139, 140, 141, 0, 0], [], [], [], [], [143, 0, 0, 0, 0, 0, 0, 0], [], [0, 0, 0, 0, 0, 0, 0, 0, 0, 0, 0], [0, 0, 0, 0, 0, 0, 0, 0, 0, 0, 0], [0, 0, 0, 0, 0, 0, 0, 0, 0, 0, 0], [0, 0, 0, 0, 0, 0, 0, 0, 0, 0, 0], [0, 0, 0, 0, 0, 0, 0, 0, 0, 0, 0], [0, 0, 0, 0, 0, 0, 0, 0, 0, 0, 0], [0, 0, 0, 0, 0, 0, 0, 0, 0, 0, 0], [0, 0, 0, 0, 0, 0, 0, 0, 0, 0, 0], [0, 0, 0, 0, 0, 0, 0, 0, 0, 0, 0], [0, 0, 0, 0, 0, 0, 0, 0, 0, 0, 0], [0, 0, 0], [0, 0, 0], [0, 0, 0], [0, 0, 0], [0, 0, 159, 0, 160, 161, 0, 162, 163, 164, 169], [171, 172, 173, 174, 175, 176, 177, 178, 179, 180], [], [181, 182, 183, 184], [0, 0, 0], [0, 0, 0], [165, 166, 167, 168, 0, 0], [], [], [], [], [170, 0, 0, 0, 0, 0, 0, 0], [], [0, 0, 0, 0, 0, 0, 0, 0, 0, 0, 0], [0, 0, 0, 0, 0, 0, 0, 0, 0, 0, 0], [0, 0, 0, 0, 0, 0, 0, 0, 0, 0, 0], [0, 0, 0, 0, 0, 0, 0, 0, 0, 0, 0], [0, 0, 0, 0, 0, 0, 0, 0, 0, 0, 0], [0, 0, 0, 0, 0, 0, 0, 0, 0, 0, 0], [0, 0, 0, 0, 0, 0, 0, 0, 0, 0, 0], [0, 0, 0, 0, 0, 0, 0, 0, 0, 0, 0], [0, 0, 0, 0, 0, 0, 0, 0, 0, 0, 0], [0, 0, 0, 0, 0, 0, 0, 0, 0, 0, 0], [0, 0, 0], [0, 0, 0], [0, 0, 0], [0, 0, 0], [0, 0, 186, 0, 187, 188, 0, 189, 190, 191, 196], [198, 199, 200, 201, 202, 203, 204, 205, 206, 207], [], [208, 209, 210, 211], [0, 0, 0], [0, 0, 0], [192, 193, 194, 195, 0, 0], [], [], [], [], [197, 0, 0, 0, 0, 0, 0, 0], [], [0, 0, 0, 0, 0, 0, 0, 0, 0, 0, 0], [0, 0, 0, 0, 0, 0, 0, 0, 0, 0, 0], [0, 0, 0, 0, 0, 0, 0, 0, 0, 0, 0], [0, 0, 0, 0, 0, 0, 0, 0, 0, 0, 0], [0, 0, 0, 0, 0, 0, 0, 0, 0, 0, 0], [0, 0, 0, 0, 0, 0, 0, 0, 0, 0, 0], [0, 0, 0, 0, 0, 0, 0, 0, 0, 0, 0], [0, 0, 0, 0, 0, 0, 0, 0, 0, 0, 0], [0, 0, 0, 0, 0, 0, 0, 0, 0, 0, 0], [0, 0, 0, 0, 0, 0, 0, 0, 0, 0, 0], [0, 0, 0], [0, 0, 0], [0, 0, 0], [0, 0, 0], [0, 0, 213, 0, 214, 215, 0, 216, 217, 218, 223], [225, 226, 227, 228, 229, 230, 231, 232, 233, 234], [], [235, 236, 237, 238], [0, 0, 0], [0, 0, 0], [219, 220, 221, 222, 0, 0], [], [], [], [], [224, 0, 0, 0, 0, 0, 0, 0], [], [0, 0, 0, 0, 0, 0, 0, 0, 0, 0, 0], [0, 0, 0, 0, 0, 0, 0, 0, 0, 0, 0], [0, 0, 0, 0, 0, 0, 0, 0, 0, 0, 0], [0, 0, 0, 0, 0, 0, 0, 0, 0, 0, 0], [0, 0, 0, 0, 0, 0, 0, 0, 0, 0, 0], [0, 0, 0, 0, 0, 0, 0, 0, 0, 0, 0], [0, 0, 0, 0, 0, 0, 0, 0, 0, 0, 0], [0, 0, 0, 0, 0, 0, 0, 0, 0, 0, 0], [0, 0, 0, 0, 0, 0, 0, 0, 0, 0, 0], [0, 0, 0, 0, 0, 0, 0, 0, 0, 0, 0], [0, 0, 0], [0, 0, 0], [0, 0, 0], [0, 0, 0], [241, 268], [], [0, 0, 242, 0, 243, 244, 0, 245, 246, 247, 252], [254, 255, 256, 257, 258, 259, 260, 261, 262, 263], [], [264, 265, 266, 267], [0, 0, 0], [0, 0, 0], [248, 249, 250, 251, 0, 0], [], [], [], [], [253, 0, 0, 0, 0, 0, 0, 0], [], [0, 0, 0, 0, 0, 0, 0, 0, 0, 0, 0], [0, 0, 0, 0, 0, 0, 0, 0, 0, 0, 0], [0, 0, 0, 0, 0, 0, 0, 0, 0, 0, 0], [0, 0, 0, 0, 0, 0, 0, 0, 0, 0, 0], [0, 0, 0, 0, 0, 0, 0, 0, 0, 0, 0], [0, 0, 0, 0, 0, 0, 0, 0, 0, 0, 0], [0, 0, 0, 0, 0, 0, 0, 0, 0, 0, 0], [0, 0, 0, 0, 0, 0, 0, 0, 0, 0, 0], [0, 0, 0, 0, 0, 0, 0, 0, 0, 0, 0], [0, 0, 0, 0, 0, 0, 0, 0, 0, 0, 0], [0, 0, 0], [0, 0, 0], [0, 0, 0], [0, 0, 0], [0, 0, 269, 0, 270, 271, 0, 272, 273, 274, 279], [281, 282, 283, 284, 285, 286, 287, 288, 289, 290], [], [291, 292, 293, 294], [0, 0, 0], [0, 0, 0], [275, 276, 277, 278, 0, 0], [], [], [], [], [280, 0, 0, 0, 0, 0, 0, 0], [], [0, 0, 0, 0, 0, 0, 0, 0, 0, 0, 0], [0, 0, 0, 0, 0, 0, 0, 0, 0, 0, 0], [0, 0, 0, 0, 0, 0, 0, 0, 0, 0, 0], [0, 0, 0, 0, 0, 0, 0, 0, 0, 0, 0], [0, 0, 0, 0, 0, 0, 0, 0, 0, 0, 0], [0, 0, 0, 0, 0, 0, 0, 0, 0, 0, 0], [0, 0, 0, 0, 0, 0, 0, 0, 0, 0, 0], [0, 0, 0, 0, 0, 0, 0, 0, 0, 0, 0], [0, 0, 0, 0, 0, 0, 0, 0, 0, 0, 0], [0, 0, 0, 0, 0, 0, 0, 0, 0, 0, 0], [0, 0, 0], [0, 0, 0], [0, 0, 0], [0, 0, 0], [0, 296, 297, 296, 0, 0, 0, 0, 0, 0, 0, 298, 299, 0, 0, 0, 0, 0, 0, 0, 0, 300, 301, 302, 0, 303, 0], [], [], [], [], [], [], [], [], [], []]
def KH (N a : Nat) : Nat × Nat := if a = 0 then (19, N) else if a < 8 then (20, 0) else if a < 15 then (21, sln.getD (a - 8) 0) else KL.getD (a - 15) (0, 0)
def KR0 (a k : Nat) : Nat := if a < 15 then 0 else (KRl.getD (a - 15) []).getD k 0
def KR (w a k : Nat) : Nat := if a = 294 ∧ k = 3 then w + 1 else KR0 a k
/-- a state between the constructors' end and the law's: throws, the reference's row, ints, longs, doubles -/
def mk (N t w : Nat) (I : Nat → Nat → Int32) (L : Nat → Nat → Int64) (D : Nat → Nat → UInt64) : St := ((305, 9948, t), KH N, KR w, I, L, D)
section S22
variable {N t w : Nat} {I : Nat → Nat → Int32} {L : Nat → Nat → Int64} {D : Nat → Nat → UInt64}
theorem zh_mk {a : Nat} : zh (mk N t w I L D) a = KH N a := rfl
theorem zR_mk {a k : Nat} : zR (mk N t w I L D) a k = KR w a k := rfl
theorem zI_mk {a k : Nat} : zI (mk N t w I L D) a k = I a k := rfl
theorem zL_mk {a k : Nat} : zL (mk N t w I L D) a k = L a k := rfl
theorem zD_mk {a k : Nat} : zD (mk N t w I L D) a k = D a k := rfl
theorem wI_mk {a k : Nat} {v : Int32} : wI (mk N t w I L D) a k v = mk N t w (up2 I a k v) L D := rfl
theorem wL_mk {a k : Nat} {v : Int64} : wL (mk N t w I L D) a k v = mk N t w I (up2 L a k v) D := rfl
theorem wD_mk {a k : Nat} {v : UInt64} : wD (mk N t w I L D) a k v = mk N t w I L (up2 D a k v) := rfl
theorem zT_mk : zThrow (mk N t w I L D) = mk N (t + 1) w I L D := rfl
def cpy2 (I : Nat → Nat → Int32) (s d sp dp n : Nat) : Nat → Nat → Int32 := fun b j => if b = d then va_cpy (I s) (I d) sp dp n j else I b j
theorem zC_mk {s d sp dp n : Nat} : zCpy (mk N t w I L D) s d sp dp n = mk N t w (cpy2 I s d sp dp n) L D := rfl
theorem wR_mk {x : Nat} : wR (mk N t w I L D) 294 3 (x + 1) = mk N t x I L D := by
  unfold wR mk
  refine Prod.ext rfl (Prod.ext rfl (Prod.ext ?_ rfl))
  show up2 (KR w) 294 3 (x + 1) = KR x
  funext a k
  unfold up2 KR
  by_cases h : a = 294 ∧ k = 3
  · simp only [h, and_self, if_true]
  · simp only [h, if_false]
end S22
/-! lines: the object's numbers -/
def LBs : List Nat := [19, 46, 76, 103, 130, 157, 184, 211, 240, 267]
def LB (b : Nat) : Prop := b ∈ LBs
def lineK : List (Nat × Nat) := [(5, 0), (16, 10), (11, 10), (17, 4), (2, 0), (2, 0), (6, 0), (11, 40), (11, 40), (11, 40), (11, 40), (3, 0), (11, 100), (1, 0), (1, 0), (1, 0), (1, 0), (1, 0), (1, 0), (1, 0), (1, 0), (1, 0), (1, 0), (2, 0), (2, 0), (2, 0), (2, 0)]
theorem KH_hi {N a : Nat} (h : 15 ≤ a) : KH N a = KL.getD (a - 15) (0, 0) := by
  unfold KH
  rw [if_neg (by omega), if_neg (by omega), if_neg (by omega)]
theorem KR_hi {w a k : Nat} (h : 15 ≤ a) (h2 : a ≠ 294) : KR w a k = (KRl.getD (a - 15) []).getD k 0 := by
  unfold KR KR0
  rw [if_neg (by omega), if_neg (by omega)]
theorem LB_rng : ∀ b ∈ LBs, 15 ≤ b ∧ b + 27 ≤ 294 := by decide +kernel
theorem LB_K : ∀ b ∈ LBs, ∀ o, o < 27 → KL.getD (b + o - 15) (0, 0) = lineK.getD o (0, 0) := by decide +kernel
theorem LB_R : ∀ b ∈ LBs, (∀ k, k < 11 → (KRl.getD (b - 15) []).getD k 0 = ([0, 0, b + 2, 0, b + 3, b + 4, 0, b + 5, b + 6, b + 7, b + 12].getD k 0)) ∧ (∀ i, i < 10 → (KRl.getD (b + 1 - 15) []).getD i 0 = b + 14 + i) ∧ (∀ i, i < 4 → (KRl.getD (b + 3 - 15) []).getD i 0 = b + 24 + i) ∧ (∀ i, i < 4 → (KRl.getD (b + 6 - 15) []).getD i 0 = b + 8 + i) ∧ (KRl.getD (b + 11 - 15) []).getD 0 0 = b + 13 := by decide +kernel
section S22b
variable {N w b : Nat}
theorem kh0 (hb : LB b) : KH N b = (5, 0) := by
  have h1 := LB_rng b hb
  rw [KH_hi (by omega)]
  exact LB_K b hb 0 (by omega)
theorem khO {o : Nat} (hb : LB b) (ho : o < 27) : KH N (b + o) = lineK.getD o (0, 0) := by
  have h1 := LB_rng b hb
  rw [KH_hi (by omega)]
  exact LB_K b hb o ho
theorem kh1 (hb : LB b) : KH N (b + 1) = (16, 10) := khO hb (by decide)
theorem kh2 (hb : LB b) : KH N (b + 2) = (11, 10) := khO hb (by decide)
theorem kh3 (hb : LB b) : KH N (b + 3) = (17, 4) := khO hb (by decide)
theorem kh4 (hb : LB b) : KH N (b + 4) = (2, 0) := khO hb (by decide)
theorem kh5 (hb : LB b) : KH N (b + 5) = (2, 0) := khO hb (by decide)
theorem kh6 (hb : LB b) : KH N (b + 6) = (6, 0) := khO hb (by decide)
theorem kh7 (hb : LB b) : KH N (b + 7) = (11, 40) := khO hb (by decide)
theorem kh8 (hb : LB b) : KH N (b + 8) = (11, 40) := khO hb (by decide)
theorem kh9 (hb : LB b) : KH N (b + 9) = (11, 40) := khO hb (by decide)
theorem kh10 (hb : LB b) : KH N (b + 10) = (11, 40) := khO hb (by decide)
theorem kh11 (hb : LB b) : KH N (b + 11) = (3, 0) := khO hb (by decide)
theorem kh12 (hb : LB b) : KH N (b + 12) = (11, 100) := khO hb (by decide)
theorem khB {i : Nat} (hb : LB b) (hi : i < 10) : KH N (b + (i + 13)) = (1, 0) := by
  rw [khO hb (by omega)]
  have : ∀ i, i < 10 → lineK.getD (i + 13) (0, 0) = (1, 0) := by decide
  exact this i hi
theorem khP {i : Nat} (hb : LB b) (hi : i < 4) : KH N (b + (i + 23)) = (2, 0) := by
  rw [khO hb (by omega)]
  have : ∀ i, i < 4 → lineK.getD (i + 23) (0, 0) = (2, 0) := by decide
  exact this i hi
theorem kr2 (hb : LB b) : rv (KR w b 2) = .ref (b + 1) := by
  have h1 := LB_rng b hb
  rw [KR_hi (by omega) (by omega), (LB_R b hb).1 2 (by decide)]
  rfl
theorem kr4 (hb : LB b) : rv (KR w b 4) = .ref (b + 2) := by
  have h1 := LB_rng b hb
  rw [KR_hi (by omega) (by omega), (LB_R b hb).1 4 (by decide)]
  rfl
theorem kr5 (hb : LB b) : rv (KR w b 5) = .ref (b + 3) := by
  have h1 := LB_rng b hb
  rw [KR_hi (by omega) (by omega), (LB_R b hb).1 5 (by decide)]
  rfl
theorem kr7 (hb : LB b) : rv (KR w b 7) = .ref (b + 4) := by
  have h1 := LB_rng b hb
  rw [KR_hi (by omega) (by omega), (LB_R b hb).1 7 (by decide)]
  rfl
theorem kr8 (hb : LB b) : rv (KR w b 8) = .ref (b + 5) := by
  have h1 := LB_rng b hb
  rw [KR_hi (by omega) (by omega), (LB_R b hb).1 8 (by decide)]
  rfl
theorem kr9 (hb : LB b) : rv (KR w b 9) = .ref (b + 6) := by
  have h1 := LB_rng b hb
  rw [KR_hi (by omega) (by omega), (LB_R b hb).1 9 (by decide)]
  rfl
theorem kr10 (hb : LB b) : rv (KR w b 10) = .ref (b + 11) := by
  have h1 := LB_rng b hb
  rw [KR_hi (by omega) (by omega), (LB_R b hb).1 10 (by decide)]
  rfl
theorem krB {i : Nat} (hb : LB b) (hi : i < 10) : rv (KR w (b + 1) i) = .ref (b + (i + 13)) := by
  have h1 := LB_rng b hb
  rw [KR_hi (by omega) (by omega), (LB_R b hb).2.1 i hi, show b + 14 + i = b + (i + 13) + 1 by omega]
  rfl
theorem krP {i : Nat} (hb : LB b) (hi : i < 4) : rv (KR w (b + 3) i) = .ref (b + (i + 23)) := by
  have h1 := LB_rng b hb
  rw [KR_hi (by omega) (by omega), (LB_R b hb).2.2.1 i hi, show b + 24 + i = b + (i + 23) + 1 by omega]
  rfl
theorem krG0 (hb : LB b) : rv (KR w (b + 6) 0) = .ref (b + 7) := by
  have h1 := LB_rng b hb
  rw [KR_hi (by omega) (by omega), (LB_R b hb).2.2.2.1 0 (by decide)]
  rfl
theorem krG1 (hb : LB b) : rv (KR w (b + 6) 1) = .ref (b + 8) := by
  have h1 := LB_rng b hb
  rw [KR_hi (by omega) (by omega), (LB_R b hb).2.2.2.1 1 (by decide)]
  rfl
theorem krG2 (hb : LB b) : rv (KR w (b + 6) 2) = .ref (b + 9) := by
  have h1 := LB_rng b hb
  rw [KR_hi (by omega) (by omega), (LB_R b hb).2.2.2.1 2 (by decide)]
  rfl
theorem krG3 (hb : LB b) : rv (KR w (b + 6) 3) = .ref (b + 10) := by
  have h1 := LB_rng b hb
  rw [KR_hi (by omega) (by omega), (LB_R b hb).2.2.2.1 3 (by decide)]
  rfl
theorem krK (hb : LB b) : rv (KR w (b + 11) 0) = .ref (b + 12) := by
  have h1 := LB_rng b hb
  rw [KR_hi (by omega) (by omega), (LB_R b hb).2.2.2.2]
  rfl
end S22b
/-! a line's own memory, by the place behind its first object -/
def gl {α : Type} (b : Nat) (I : Nat → Nat → α) : Nat → Nat → α := fun o k => I (b + o) k
def lay {α : Type} (b : Nat) (ℓ I : Nat → Nat → α) : Nat → Nat → α := fun a k => if b ≤ a ∧ a < b + 27 then ℓ (a - b) k else I a k
section S22c
variable {α : Type} {b : Nat} {ℓ I : Nat → Nat → α}
theorem lay_in {o k : Nat} (ho : o < 27) : lay b ℓ I (b + o) k = ℓ o k := by
  unfold lay
  rw [if_pos (by omega), show b + o - b = o by omega]
theorem lay_0 {k : Nat} : lay b ℓ I b k = ℓ 0 k := lay_in (o := 0) (by omega)
theorem lay_out {a k : Nat} (h : a < b ∨ b + 27 ≤ a) : lay b ℓ I a k = I a k := by
  unfold lay
  rw [if_neg (by omega)]
theorem lay_gl : lay b (gl b I) I = I := by
  funext a k
  unfold lay gl
  by_cases h : b ≤ a ∧ a < b + 27
  · rw [if_pos h, show b + (a - b) = a by omega]
  · rw [if_neg h]
theorem lay_lay {ℓ' : Nat → Nat → α} : lay b ℓ (lay b ℓ' I) = lay b ℓ I := by
  funext a k
  unfold lay
  by_cases h : b ≤ a ∧ a < b + 27
  · rw [if_pos h, if_pos h]
  · rw [if_neg h, if_neg h, if_neg h]
theorem up2_lay {o k : Nat} {v : α} (ho : o < 27) : up2 (lay b ℓ I) (b + o) k v = lay b (up2 ℓ o k v) I := by
  funext a j
  unfold up2 lay
  by_cases h : b ≤ a ∧ a < b + 27
  · simp only [h, and_self, if_true]
    by_cases h1 : a = b + o ∧ j = k
    · rw [if_pos h1, if_pos (by omega)]
    · rw [if_neg h1, if_neg (by omega)]
  · rw [if_neg (by omega), if_neg h, if_neg h]
theorem up2_lay0 {k : Nat} {v : α} : up2 (lay b ℓ I) b k v = lay b (up2 ℓ 0 k v) I := up2_lay (o := 0) (by omega)
theorem up2_eq {f : Nat → Nat → α} {a k : Nat} {v : α} : up2 f a k v a k = v := by
  unfold up2
  rw [if_pos ⟨rfl, rfl⟩]
theorem up2_at {f : Nat → Nat → α} {a k b j : Nat} {v : α} : up2 f a k v b j = if b = a ∧ j = k then v else f b j := rfl
end S22c
/-! ints that are small numbers -/
theorem ix {j n : Nat} (h : j < n) (hn : n < 2147483648) : inx (Int32.ofNat j) n = true := by
  unfold inx
  rw [Int32.toNatClampNeg_ofNat_of_lt (by omega)]
  have : (0 : Int32) ≤ Int32.ofNat j := (Int32.ofNat_le_iff_le (a := 0) (by decide) (by omega)).mpr (Nat.zero_le _)
  simp [h, this]
theorem tn {j : Nat} (h : j < 2147483648) : (Int32.ofNat j).toNatClampNeg = j := Int32.toNatClampNeg_ofNat_of_lt h
theorem onS {j : Nat} : Int32.ofNat j + 1 = Int32.ofNat (j + 1) := (Int32.ofNat_add j 1).symm
theorem onP {j : Nat} (h : 0 < j) : Int32.ofNat j - 1 = Int32.ofNat (j - 1) := by
  obtain ⟨i, rfl⟩ := Nat.exists_eq_add_of_le' h
  rw [Nat.add_sub_cancel, Int32.ofNat_add]
  exact Int32.add_sub_cancel _ _
theorem on_lt {a b : Nat} (ha : a < 2147483648) (hb : b < 2147483648) : (Int32.ofNat a < Int32.ofNat b) = (a < b) := propext (Int32.ofNat_lt_iff_lt ha hb)
theorem on_lt0 {a : Nat} (ha : a < 2147483648) : (Int32.ofNat a < 0) = False := by
  rw [show (0 : Int32) = Int32.ofNat 0 from rfl, on_lt ha (by decide)]
  simp
theorem on_eq {a b : Nat} (ha : a < 2147483648) (hb : b < 2147483648) : (Int32.ofNat a = Int32.ofNat b) = (a = b) := by
  apply propext
  constructor
  · intro h
    have := congrArg Int32.toNatClampNeg h
    rwa [tn ha, tn hb] at this
  · rintro rfl
    rfl
