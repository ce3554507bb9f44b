/-! The links of each class: (pool index, kind, a, b). Made by wip/p57/gen/gen3.py. Kinds: 0 field b of class a; 1 method a; 2 constructor a of a nest mate; 3 Object.<init>; 4 constructor of exception a; 5 class a; 6 exception class a; 7 String constant a; 8 int a; 9 long a (negative if b is 1); 11 arraycopy; 12, 13 Math; 19 COMPACT_STRINGS; 20 of Preconditions; 21 method a, found on a StringBuilder by the name of method b of the class above; 22 method a of the class above; 23 String constant a of the law; 24 the class of byte arrays; 25 clone; 26, 27 the digits of Integer -/
def lk_0 : List (Nat × Nat × Nat × Nat) := [(3, 3, 0, 0), (9, 0, 0, 0), (15, 0, 0, 1), (18, 0, 0, 2), (21, 0, 0, 3), (24, 0, 0, 4), (27, 0, 0, 5), (30, 0, 0, 6), (33, 0, 0, 7), (36, 0, 0, 8), (43, 0, 0, 9), (46, 0, 0, 10), (39, 1, 3, 0)]
def lp_0 : List (List (Nat × Nat)) := [[(1, 157)], [(1, 158)], [(1, 160)], [(1, 163)], [(1, 166)], [(1, 169)], [(1, 171)], [(1, 174)], [(1, 177)], [(1, 180)], [(1, 183)], [(1, 185)], [(5, 3)]]
def lk_1 : List (Nat × Nat × Nat × Nat) := [(1, 3, 0, 0), (7, 0, 1, 0), (13, 0, 1, 1), (16, 0, 1, 2)]
def lp_1 : List (List (Nat × Nat)) := [[(1, 64)], [(1, 65)], [(1, 68)], [(1, 71)]]
def lk_2 : List (Nat × Nat × Nat × Nat) := [(3, 3, 0, 0), (9, 0, 2, 0), (15, 0, 2, 1), (19, 0, 2, 2), (22, 0, 2, 3), (25, 0, 2, 4), (29, 0, 2, 5), (32, 0, 2, 6), (35, 0, 2, 7), (38, 11, 0, 0), (44, 1, 19, 0), (48, 1, 17, 0)]
def lp_2 : List (List (Nat × Nat)) := [[(1, 113)], [(1, 114)], [(1, 115)], [(1, 118)], [(1, 121)], [(1, 124)], [(1, 127)], [(1, 130)], [(1, 133)], [(4, 217)], [(5, 120)], [(5, 124)]]
def lk_3 : List (Nat × Nat × Nat × Nat) := [(3, 3, 0, 0), (9, 5, 4, 0), (17, 1, 23, 0), (11, 0, 3, 0), (18, 0, 3, 1), (22, 0, 3, 2), (25, 1, 32, 0)]
def lp_3 : List (List (Nat × Nat)) := [[(2, 67)], [(2, 68)], [(2, 70)], [(2, 71)], [(2, 72)], [(2, 73)], [(4, 196)]]
def lk_4 : List (Nat × Nat × Nat × Nat) := [(3, 3, 0, 0), (9, 5, 0, 0), (21, 5, 1, 0), (27, 2, 10, 0), (93, 0, 1, 0), (169, 0, 1, 1), (178, 0, 1, 2), (35, 5, 5, 0), (37, 2, 46, 0), (42, 5, 2, 0), (44, 2, 13, 0), (180, 0, 2, 1), (198, 0, 2, 2), (119, 0, 2, 3), (135, 0, 2, 4), (179, 0, 2, 5), (193, 0, 2, 6), (165, 0, 2, 7), (49, 2, 0, 0), (90, 0, 0, 0), (87, 0, 0, 1), (106, 0, 0, 2), (109, 0, 0, 3), (162, 0, 0, 5), (201, 0, 0, 6), (175, 0, 0, 7), (190, 0, 0, 8), (148, 0, 0, 9), (151, 0, 0, 10), (50, 1, 24, 0), (67, 1, 11, 0), (71, 1, 47, 0), (73, 1, 14, 0), (54, 0, 4, 0), (58, 0, 4, 1), (11, 0, 4, 2), (61, 0, 4, 3), (17, 0, 4, 4), (23, 0, 4, 5), (64, 0, 4, 6), (28, 0, 4, 7), (32, 0, 4, 8), (38, 0, 4, 9), (45, 0, 4, 10), (112, 1, 5, 0), (116, 1, 8, 0), (94, 1, 26, 0), (98, 1, 27, 0), (124, 1, 1, 0), (127, 1, 31, 0), (74, 1, 2, 0), (78, 1, 12, 0), (81, 1, 48, 0), (84, 1, 15, 0), (138, 1, 34, 0), (145, 1, 4, 0), (142, 1, 35, 0), (155, 1, 36, 0), (166, 1, 3, 0), (172, 1, 6, 0), (183, 1, 49, 0), (159, 1, 37, 0), (186, 1, 38, 0), (194, 1, 7, 0), (205, 13, 0, 0), (202, 1, 16, 0), (123, 1, 41, 0), (130, 1, 56, 0), (134, 1, 18, 0)]
def lp_4 : List (List (Nat × Nat)) := [[(1, 55)], [(1, 56)], [(1, 58)], [], [(1, 66)], [(1, 70)], [(1, 73)], [(1, 82)], [], [(1, 108)], [], [(1, 117)], [(1, 120)], [(1, 122)], [(1, 125)], [(1, 129)], [(1, 132)], [(1, 134)], [], [(1, 159)], [(1, 161)], [(1, 164)], [(1, 167)], [(1, 173)], [(1, 176)], [(1, 179)], [(1, 182)], [(1, 184)], [(1, 186)], [(1, 210)], [(1, 214)], [(1, 218)], [(1, 222)], [(1, 226)], [(1, 229)], [(1, 231)], [(1, 233)], [(1, 236)], [(1, 238)], [(2, 0)], [(2, 3)], [(2, 5)], [(2, 7)], [(2, 9)], [(2, 203)], [(2, 211)], [(4, 137)], [(4, 141)], [(4, 180)], [(4, 184)], [(4, 200)], [(4, 204)], [(4, 208)], [(4, 213)], [(4, 235)], [(4, 239)], [(5, 7)], [(5, 11)], [(5, 15)], [(5, 16)], [(5, 20)], [(5, 25)], [(5, 29)], [(5, 32)], [(5, 36)], [(5, 37)], [(5, 74)], [(5, 109)], [(5, 116)]]
def lk_5 : List (Nat × Nat × Nat × Nat) := [(3, 3, 0, 0), (9, 0, 5, 0), (15, 0, 5, 1), (18, 0, 5, 2), (21, 0, 5, 3), (24, 0, 5, 4), (28, 0, 5, 5), (31, 11, 0, 0), (37, 12, 0, 0), (56, 1, 57, 0)]
def lp_5 : List (List (Nat × Nat)) := [[(1, 87)], [(1, 88)], [(1, 89)], [(1, 90)], [(1, 91)], [(1, 92)], [(1, 93)], [(4, 212)], [(5, 24)], [(5, 113)]]
def lk_6 : List (Nat × Nat × Nat × Nat) := [(3, 3, 0, 0), (9, 0, 6, 0)]
def lp_6 : List (List (Nat × Nat)) := [[(1, 42)], [(1, 43)]]
def lk_7 : List (Nat × Nat × Nat × Nat) := [(122, 0, 4, 0), (96, 0, 4, 3), (85, 0, 4, 6), (3, 3, 0, 0), (9, 0, 7, 0), (15, 0, 7, 1), (25, 0, 7, 2), (41, 0, 7, 3), (62, 0, 7, 4), (32, 0, 7, 5), (29, 0, 7, 6), (19, 12, 0, 0), (35, 1, 64, 0), (150, 1, 65, 0), (38, 1, 66, 0), (65, 7, 0, 0), (67, 1, 67, 0), (46, 1, 68, 0), (142, 1, 188, 0), (146, 1, 190, 0), (58, 1, 69, 0), (71, 1, 70, 0), (119, 1, 71, 0), (141, 8, 1000000, 0), (74, 7, 1, 0), (76, 1, 72, 0), (115, 1, 73, 0), (79, 1, 24, 0), (44, 7, 2, 0), (50, 1, 74, 0), (88, 1, 75, 0), (125, 1, 25, 0), (92, 1, 28, 0), (53, 7, 3, 0), (55, 1, 76, 0), (99, 1, 77, 0), (129, 1, 78, 0), (133, 1, 79, 0), (102, 7, 4, 0), (104, 7, 5, 0), (109, 7, 6, 0), (137, 1, 29, 0), (106, 1, 80, 0), (111, 1, 30, 0)]
def lp_7 : List (List (Nat × Nat)) := [[(1, 228)], [(1, 235)], [(2, 1)], [(2, 39)], [(2, 40)], [(2, 41)], [(2, 42)], [(2, 43)], [(2, 44)], [(2, 45)], [(2, 46)], [(4, 77)], [(4, 78)], [(4, 82)], [(4, 86)], [], [(4, 91)], [(4, 95)], [(4, 99)], [(4, 100)], [(4, 101)], [(4, 105)], [(4, 109)], [(4, 113)], [], [(4, 115)], [(4, 119)], [(4, 123)], [], [(4, 125)], [(4, 129)], [(4, 133)], [(4, 145)], [], [(4, 150)], [(4, 154)], [(4, 158)], [(4, 161)], [], [], [], [(4, 168)], [(4, 172)], [(4, 176)]]
def lk_8 : List (Nat × Nat × Nat × Nat) := [(1, 3, 0, 0), (17, 5, 6, 0), (19, 2, 58, 0), (30, 5, 4, 0), (32, 1, 23, 0), (167, 0, 1, 0), (170, 0, 1, 1), (173, 0, 1, 2), (113, 0, 5, 5), (222, 0, 2, 1), (226, 0, 2, 2), (229, 0, 2, 3), (232, 0, 2, 4), (233, 0, 2, 5), (234, 0, 2, 6), (235, 0, 2, 7), (128, 0, 0, 1), (133, 0, 0, 2), (136, 0, 0, 3), (139, 0, 0, 4), (142, 0, 0, 5), (145, 0, 0, 6), (148, 0, 0, 7), (151, 0, 0, 8), (100, 0, 4, 0), (106, 0, 4, 1), (236, 0, 4, 2), (90, 0, 4, 3), (184, 0, 4, 4), (327, 0, 4, 5), (103, 0, 4, 6), (178, 0, 4, 7), (174, 0, 4, 8), (109, 0, 4, 9), (192, 0, 4, 10), (40, 5, 7, 0), (42, 1, 62, 0), (49, 5, 3, 0), (51, 1, 20, 0), (9, 0, 8, 0), (13, 0, 8, 1), (20, 0, 8, 2), (24, 0, 8, 3), (27, 0, 8, 4), (33, 0, 8, 5), (37, 0, 8, 6), (45, 0, 8, 7), (52, 0, 8, 8), (56, 0, 8, 9), (60, 0, 8, 10), (71, 1, 104, 0), (243, 6, 1, 0), (245, 4, 1, 0), (118, 1, 39, 0), (121, 1, 40, 0), (216, 1, 41, 0), (219, 1, 44, 0), (64, 6, 0, 0), (66, 4, 0, 0), (67, 1, 102, 0), (75, 1, 63, 0), (79, 1, 81, 0), (83, 1, 21, 0), (87, 1, 32, 0), (266, 1, 33, 0), (124, 1, 107, 0), (160, 6, 2, 0), (162, 4, 2, 0), (275, 12, 0, 0), (280, 13, 0, 0), (283, 1, 42, 0), (163, 1, 111, 0), (154, 1, 109, 0), (286, 1, 25, 0), (290, 1, 30, 0), (294, 1, 45, 0), (297, 1, 31, 0), (157, 1, 27, 0), (196, 1, 17, 0), (181, 6, 3, 0), (183, 4, 3, 0)]
def lp_8 : List (List (Nat × Nat)) := [[(1, 34)], [(1, 37)], [], [(1, 50)], [(1, 52)], [(1, 67)], [(1, 69)], [(1, 72)], [(1, 94)], [(1, 116)], [(1, 119)], [(1, 123)], [(1, 126)], [(1, 128)], [(1, 131)], [(1, 135)], [(1, 162)], [(1, 165)], [(1, 168)], [(1, 170)], [(1, 172)], [(1, 175)], [(1, 178)], [(1, 181)], [(1, 227)], [(1, 230)], [(1, 232)], [(1, 234)], [(1, 237)], [(1, 239)], [(2, 2)], [(2, 4)], [(2, 6)], [(2, 8)], [(2, 10)], [(2, 34)], [(2, 36)], [(2, 62)], [(2, 64)], [(2, 81)], [(2, 82)], [(2, 83)], [(2, 84)], [(2, 85)], [(2, 86)], [(2, 87)], [(2, 88)], [(2, 89)], [(2, 90)], [(2, 91)], [(2, 120)], [(2, 123)], [(2, 165)], [(2, 187)], [(2, 191)], [(2, 199)], [(2, 207)], [(4, 45)], [(4, 54)], [(4, 60)], [(4, 73)], [(4, 188)], [(4, 192)], [(4, 218)], [(4, 231)], [(5, 49)], [(5, 53)], [(5, 62)], [(5, 68)], [(5, 69)], [(5, 70)], [(5, 83)], [(5, 95)], [(5, 99)], [(5, 100)], [(5, 105)], [(5, 143)], [(5, 162)], [(5, 170)], [(5, 186)], [(5, 195)]]
def lk_9 : List (Nat × Nat × Nat × Nat) := [(7, 1, 166, 0), (23, 1, 162, 0), (29, 22, 169, 0), (53, 22, 168, 0), (50, 22, 167, 0), (18, 5, 10, 0), (137, 1, 178, 0), (343, 22, 176, 0)]
def lp_9 : List (List (Nat × Nat)) := [[(2, 228)], [(3, 18)], [(3, 22), (3, 14), (3, 23)], [(3, 144), (5, 208), (3, 23)], [(3, 178), (5, 209), (3, 23)], [(3, 203)], [(3, 205)], [(3, 223), (3, 219), (3, 23)]]
def lk_10 : List (Nat × Nat × Nat × Nat) := [(335, 1, 189, 0), (38, 19, 0, 0), (1053, 20, 0, 0), (212, 11, 0, 0), (1048, 0, 9, 2), (1059, 1, 194, 0), (489, 1, 177, 0), (1, 3, 0, 0), (552, 21, 175, 175), (549, 21, 165, 176), (1047, 21, 174, 174), (54, 1, 184, 0), (9, 0, 10, 0), (15, 0, 10, 1), (492, 1, 191, 0), (495, 1, 193, 0)]
def lp_10 : List (List (Nat × Nat)) := [[(2, 236)], [(3, 0)], [(3, 81)], [(3, 126)], [(3, 130)], [(3, 193)], [(3, 208)], [(3, 211)], [(3, 212), (3, 214), (3, 213), (3, 215)], [(3, 217), (3, 219), (3, 218), (3, 220)], [(3, 225), (3, 65), (3, 64), (3, 66)], [(3, 226)], [(4, 8)], [(4, 9)], [(4, 30)], [(4, 34)]]
def lk_11 : List (Nat × Nat × Nat × Nat) := [(25, 5, 8, 0), (180, 1, 82, 0), (93, 1, 105, 0), (145, 1, 119, 0), (40, 1, 147, 0), (7, 8, 2147483647, 0), (181, 1, 151, 0), (44, 5, 9, 0), (46, 23, 0, 0), (48, 1, 159, 0), (51, 1, 161, 0), (54, 23, 1, 0), (56, 1, 162, 0), (59, 23, 2, 0), (61, 23, 3, 0), (63, 23, 4, 0), (65, 23, 5, 0), (67, 1, 150, 0), (70, 1, 160, 0), (73, 23, 6, 0), (75, 23, 7, 0), (77, 23, 8, 0), (79, 1, 164, 0), (83, 1, 149, 0), (8, 1, 188, 0), (18, 1, 148, 0), (14, 1, 190, 0), (24, 1, 101, 0), (30, 12, 0, 0), (36, 1, 103, 0), (87, 1, 83, 0), (90, 1, 84, 0), (196, 1, 154, 0), (106, 8, 100000, 0), (107, 1, 133, 0), (110, 1, 134, 0), (113, 1, 135, 0), (116, 1, 136, 0), (119, 1, 137, 0), (122, 1, 152, 0), (101, 6, 0, 0), (97, 1, 138, 0), (126, 1, 139, 0), (129, 1, 140, 0), (132, 1, 95, 0), (135, 1, 153, 0), (103, 1, 141, 0), (184, 1, 156, 0), (152, 1, 106, 0), (170, 1, 155, 0), (160, 1, 110, 0), (174, 1, 108, 0), (188, 1, 157, 0), (157, 1, 116, 0), (163, 1, 112, 0), (149, 1, 120, 0), (192, 1, 158, 0), (177, 1, 113, 0)]
def lp_11 : List (List (Nat × Nat)) := [[(1, 29)], [(1, 31)], [(2, 116)], [(2, 195)], [(2, 215)], [(2, 218)], [(2, 219)], [(2, 222)], [], [(2, 225)], [(3, 140)], [], [(3, 166)], [], [], [], [], [(3, 171)], [(3, 174)], [], [], [], [(3, 199)], [(4, 19)], [(4, 22)], [(4, 23)], [(4, 26)], [(4, 41)], [(4, 64)], [(4, 65)], [(4, 69)], [(4, 219)], [(4, 223)], [(4, 226)], [(4, 227)], [(5, 41)], [(5, 45)], [(5, 75)], [(5, 79)], [(5, 87)], [(5, 90)], [(5, 91)], [(5, 101)], [(5, 128)], [(5, 132)], [(5, 136)], [(5, 139)], [(5, 144)], [(5, 147)], [(5, 151)], [(5, 154)], [(5, 158)], [(5, 163)], [(5, 166)], [(5, 171)], [(5, 175)], [(5, 179)], [(5, 182)]]
def lk_12 : List (Nat × Nat × Nat × Nat) := [(9, 1, 192, 0)]
def lp_12 : List (List (Nat × Nat)) := [[(4, 37)]]
def lk_13 : List (Nat × Nat × Nat × Nat) := []
def lp_13 : List (List (Nat × Nat)) := []
def lk_14 : List (Nat × Nat × Nat × Nat) := [(3, 3, 0, 0), (32, 1, 188, 0), (38, 8, 2147483631, 0), (39, 8, 2147483647, 0), (40, 1, 189, 0), (43, 21, 163, 169), (100, 21, 170, 170), (104, 21, 171, 171), (114, 1, 187, 0), (108, 1, 183, 0), (83, 21, 174, 174), (18, 19, 0, 0), (208, 21, 172, 172), (397, 21, 173, 173), (399, 1, 179, 0), (15, 0, 9, 0), (22, 0, 9, 1), (79, 0, 9, 3), (245, 1, 181, 0), (248, 1, 182, 0), (191, 1, 180, 0)]
def lp_14 : List (List (Nat × Nat)) := [[(2, 231)], [(2, 232)], [(3, 2)], [(3, 3)], [(3, 4)], [(3, 12), (3, 14), (3, 13), (3, 15)], [(3, 29), (5, 203), (3, 31), (6, 0)], [(3, 33), (5, 204), (3, 35), (6, 1)], [(3, 37)], [(3, 47)], [(3, 63), (3, 65), (3, 64), (3, 66)], [(3, 68)], [(3, 95), (5, 205), (3, 97), (6, 2)], [(3, 99), (5, 206), (3, 101), (6, 3)], [(3, 122)], [(3, 128)], [(3, 129)], [(3, 131)], [(3, 147)], [(3, 150)], [(3, 181)]]
def lk_15 : List (Nat × Nat × Nat × Nat) := [(83, 26, 0, 0), (87, 27, 0, 0)]
def lp_15 : List (List (Nat × Nat)) := [[(3, 153)], [(3, 155)]]
def lk_16 : List (Nat × Nat × Nat × Nat) := [(310, 25, 0, 0), (311, 24, 0, 0), (304, 12, 0, 0), (150, 11, 0, 0), (339, 1, 185, 0), (343, 1, 186, 0)]
def lp_16 : List (List (Nat × Nat)) := [[(3, 50), (3, 51)], [(3, 56)], [(3, 57)], [(3, 60)], [(3, 229)], [(3, 232)]]
def lk_17 : List (Nat × Nat × Nat × Nat) := [(194, 13, 0, 0), (200, 8, 2147483639, 0)]
def lp_17 : List (List (Nat × Nat)) := [[(3, 40)], [(3, 43)]]
def lk (own : Nat) : List (Nat × Nat × Nat × Nat) := match own with
  | 0 => lk_0
  | 1 => lk_1
  | 2 => lk_2
  | 3 => lk_3
  | 4 => lk_4
  | 5 => lk_5
  | 6 => lk_6
  | 7 => lk_7
  | 8 => lk_8
  | 9 => lk_9
  | 10 => lk_10
  | 11 => lk_11
  | 12 => lk_12
  | 13 => lk_13
  | 14 => lk_14
  | 15 => lk_15
  | 16 => lk_16
  | 17 => lk_17
  | _ => []
def zX (a : Nat) : String := match a with
  | 0 => "java/lang/IllegalStateException"
  | 1 => "java/lang/IllegalArgumentException"
  | 2 => "java/lang/IndexOutOfBoundsException"
  | _ => "java/util/NoSuchElementException"
def lkI (a b : Nat) : Int64 := if b = 1 then - Int64.ofNat a else Int64.ofNat a
def lWs (own : Nat) (e : Nat × Nat × Nat × Nat) : List Cond := match e.2.1 with
  | 0 => [.fieldLink (zC own) e.1 (zT e.2.2.1 e.2.2.2).1 (zT e.2.2.1 e.2.2.2).2.1 (zT e.2.2.1 e.2.2.2).2.2.1]
  | 1 => [.methodLink (zC own) e.1 (mLn e.2.2.1).1]
  | 3 => [.methodLink (zC own) e.1 Lib.objectInit]
  | 4 => [.methodLink (zC own) e.1 ⟨zX e.2.2.1, "<init>", "()V"⟩]
  | 5 => [.classLink (zC own) e.1 (zC e.2.2.1)]
  | 6 => [.classLink (zC own) e.1 (zX e.2.2.1)]
  | 8 => [.constant (zC own) e.1 (Int32.ofNat e.2.2.1)]
  | 11 => [.methodLink (zC own) e.1 arraycopyName]
  | 12 => [.methodLink (zC own) e.1 Lib.Math.min.name]
  | 13 => [.methodLink (zC own) e.1 Lib.Math.max.name]
  | 19 => [.fieldLink (zC own) e.1 "java/lang/String" "COMPACT_STRINGS" "Z"]
  | 20 => [.fieldLink (zC own) e.1 "jdk/internal/util/Preconditions" "SIOOBE_FORMATTER" "Ljava/util/function/BiFunction;"]
  | 21 => [.methodLink (zC own) e.1 (mLn e.2.2.2).1, .sameMethod (mLn e.2.2.2).1.cls (mLn e.2.2.2).1.cls (mLn e.2.2.2).1.name (mLn e.2.2.2).1.desc, .instanceMethod (mLn e.2.2.2).1, .selects "java/lang/StringBuilder" (mLn e.2.2.2).1 (mLn e.2.2.1).1]
  | 22 => [.methodLink (zC own) e.1 (mLn e.2.2.1).1, .sameMethod (mLn e.2.2.1).1.cls (mLn e.2.2.1).1.cls (mLn e.2.2.1).1.name (mLn e.2.2.1).1.desc, .superclass (zC own) (mLn e.2.2.1).1.cls]
  | 24 => [.classLink (zC own) e.1 "[B"]
  | 25 => [.methodLink (zC own) e.1 ⟨"[B", "clone", "()Ljava/lang/Object;"⟩, .sameMethod "[B" "java/lang/Object" "clone" "()Ljava/lang/Object;"]
  | 26 => [.fieldLink (zC own) e.1 "java/lang/Integer" "DigitOnes" "[B"]
  | 27 => [.fieldLink (zC own) e.1 "java/lang/Integer" "DigitTens" "[B"]
  | _ => []
/-- a link's class or method is one that the tables have; a final field is its own class's -/
def lSg (own : Nat) (e : Nat × Nat × Nat × Nat) : Bool := match e.2.1 with
  | 0 => decide (e.2.2.1 < 11) && decide (e.2.2.2 < zN e.2.2.1)
  | 1 => decide (e.2.2.1 < 195)
  | 2 => decide (e.2.2.1 < 195)
  | 5 => decide (e.2.2.1 < 11)
  | 6 => decide (e.2.2.1 < 4)
  | 7 => decide (e.2.2.1 < 7)
  | 21 => decide (e.2.2.1 < 195) && decide (e.2.2.2 < 195) && decide ((mLn e.2.2.2).2.2.2.2.2.1 = 3) && decide ((mLn e.2.2.1).2.2.2.2.2.1 = 3) && decide ((mLn e.2.2.2).2.2.2.2.2.2.1 = (mLn e.2.2.1).2.2.2.2.2.2.1) && decide ((mLn e.2.2.2).2.2.2.2.2.2.2 = [])
  | 22 => decide (e.2.2.1 < 195) && decide ((mLn e.2.2.1).2.2.2.2.2.1 = 3)
  | 23 => decide (e.2.2.1 < 9)
  | _ => true
def lCk (own : Nat) : List (Nat × Nat × Nat × Nat) → List (List (Nat × Nat)) → Bool
  | [], _ => true
  | _ :: _, [] => false
  | e :: es, p :: ps => chkW (lWs own e) p && lSg own e && lCk own es ps
theorem lCk_ok (own : Nat) : ∀ (es : List (Nat × Nat × Nat × Nat)) (ps : List (List (Nat × Nat))), lCk own es ps = true → ∀ e ∈ es, (∀ w ∈ lWs own e, w ∈ ALLW) ∧ lSg own e = true
  | [], _, _ => fun _ h => by cases h
  | _ :: _, [], h => by simp [lCk] at h
  | e :: es, p :: ps, h => by
    simp only [lCk, Bool.and_eq_true] at h
    intro x hx
    rcases List.mem_cons.mp hx with rfl | hx
    · exact ⟨chkW_ok _ _ h.1.1, h.1.2⟩
    · exact lCk_ok own es ps h.2 x hx
set_option maxRecDepth 100000 in
theorem lk_0_ok : ∀ e ∈ lk_0, (∀ w ∈ lWs 0 e, w ∈ ALLW) ∧ lSg 0 e = true := lCk_ok _ _ lp_0 (by decide +kernel)
set_option maxRecDepth 100000 in
theorem lk_1_ok : ∀ e ∈ lk_1, (∀ w ∈ lWs 1 e, w ∈ ALLW) ∧ lSg 1 e = true := lCk_ok _ _ lp_1 (by decide +kernel)
set_option maxRecDepth 100000 in
theorem lk_2_ok : ∀ e ∈ lk_2, (∀ w ∈ lWs 2 e, w ∈ ALLW) ∧ lSg 2 e = true := lCk_ok _ _ lp_2 (by decide +kernel)
set_option maxRecDepth 100000 in
theorem lk_3_ok : ∀ e ∈ lk_3, (∀ w ∈ lWs 3 e, w ∈ ALLW) ∧ lSg 3 e = true := lCk_ok _ _ lp_3 (by decide +kernel)
set_option maxRecDepth 100000 in
theorem lk_4_ok : ∀ e ∈ lk_4, (∀ w ∈ lWs 4 e, w ∈ ALLW) ∧ lSg 4 e = true := lCk_ok _ _ lp_4 (by decide +kernel)
set_option maxRecDepth 100000 in
theorem lk_5_ok : ∀ e ∈ lk_5, (∀ w ∈ lWs 5 e, w ∈ ALLW) ∧ lSg 5 e = true := lCk_ok _ _ lp_5 (by decide +kernel)
set_option maxRecDepth 100000 in
theorem lk_6_ok : ∀ e ∈ lk_6, (∀ w ∈ lWs 6 e, w ∈ ALLW) ∧ lSg 6 e = true := lCk_ok _ _ lp_6 (by decide +kernel)
set_option maxRecDepth 100000 in
theorem lk_7_ok : ∀ e ∈ lk_7, (∀ w ∈ lWs 7 e, w ∈ ALLW) ∧ lSg 7 e = true := lCk_ok _ _ lp_7 (by decide +kernel)
set_option maxRecDepth 100000 in
theorem lk_8_ok : ∀ e ∈ lk_8, (∀ w ∈ lWs 8 e, w ∈ ALLW) ∧ lSg 8 e = true := lCk_ok _ _ lp_8 (by decide +kernel)
set_option maxRecDepth 100000 in
theorem lk_9_ok : ∀ e ∈ lk_9, (∀ w ∈ lWs 9 e, w ∈ ALLW) ∧ lSg 9 e = true := lCk_ok _ _ lp_9 (by decide +kernel)
set_option maxRecDepth 100000 in
theorem lk_10_ok : ∀ e ∈ lk_10, (∀ w ∈ lWs 10 e, w ∈ ALLW) ∧ lSg 10 e = true := lCk_ok _ _ lp_10 (by decide +kernel)
set_option maxRecDepth 100000 in
theorem lk_11_ok : ∀ e ∈ lk_11, (∀ w ∈ lWs 11 e, w ∈ ALLW) ∧ lSg 11 e = true := lCk_ok _ _ lp_11 (by decide +kernel)
set_option maxRecDepth 100000 in
theorem lk_12_ok : ∀ e ∈ lk_12, (∀ w ∈ lWs 12 e, w ∈ ALLW) ∧ lSg 12 e = true := lCk_ok _ _ lp_12 (by decide +kernel)
set_option maxRecDepth 100000 in
theorem lk_13_ok : ∀ e ∈ lk_13, (∀ w ∈ lWs 13 e, w ∈ ALLW) ∧ lSg 13 e = true := lCk_ok _ _ lp_13 (by decide +kernel)
set_option maxRecDepth 100000 in
theorem lk_14_ok : ∀ e ∈ lk_14, (∀ w ∈ lWs 14 e, w ∈ ALLW) ∧ lSg 14 e = true := lCk_ok _ _ lp_14 (by decide +kernel)
set_option maxRecDepth 100000 in
theorem lk_15_ok : ∀ e ∈ lk_15, (∀ w ∈ lWs 15 e, w ∈ ALLW) ∧ lSg 15 e = true := lCk_ok _ _ lp_15 (by decide +kernel)
set_option maxRecDepth 100000 in
theorem lk_16_ok : ∀ e ∈ lk_16, (∀ w ∈ lWs 16 e, w ∈ ALLW) ∧ lSg 16 e = true := lCk_ok _ _ lp_16 (by decide +kernel)
set_option maxRecDepth 100000 in
theorem lk_17_ok : ∀ e ∈ lk_17, (∀ w ∈ lWs 17 e, w ∈ ALLW) ∧ lSg 17 e = true := lCk_ok _ _ lp_17 (by decide +kernel)
theorem lk_ok : ∀ (own : Nat), ∀ e ∈ lk own, (∀ w ∈ lWs own e, w ∈ ALLW) ∧ lSg own e = true := by
  intro own e h
  match own, h with
  | 0, h => exact lk_0_ok e h
  | 1, h => exact lk_1_ok e h
  | 2, h => exact lk_2_ok e h
  | 3, h => exact lk_3_ok e h
  | 4, h => exact lk_4_ok e h
  | 5, h => exact lk_5_ok e h
  | 6, h => exact lk_6_ok e h
  | 7, h => exact lk_7_ok e h
  | 8, h => exact lk_8_ok e h
  | 9, h => exact lk_9_ok e h
  | 10, h => exact lk_10_ok e h
  | 11, h => exact lk_11_ok e h
  | 12, h => exact lk_12_ok e h
  | 13, h => exact lk_13_ok e h
  | 14, h => exact lk_14_ok e h
  | 15, h => exact lk_15_ok e h
  | 16, h => exact lk_16_ok e h
  | 17, h => exact lk_17_ok e h
  | n + 18, h => cases h
def lkq (own idx : Nat) : Option (Nat × Nat × Nat) := ((lk own).find? (fun e => e.1 == idx)).map (fun e => e.2)
theorem lkq_ok {own idx : Nat} {e : Nat × Nat × Nat} (h : lkq own idx = some e) : (∀ w ∈ lWs own (idx, e), w ∈ ALLW) ∧ lSg own (idx, e) = true := by
  unfold lkq at h
  cases hf : (lk own).find? (fun e => e.1 == idx) with
  | none => rw [hf] at h; cases h
  | some x =>
    rw [hf] at h
    have hx : x.2 = e := Option.some.inj h
    have h1 : x.1 = idx := by simpa using List.find?_some hf
    have h2 := lk_ok own x (List.mem_of_find?_eq_some hf)
    have h3 : x = (idx, e) := by rw [← hx, ← h1]
    rw [h3] at h2
    exact h2
