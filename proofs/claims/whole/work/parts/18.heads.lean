/-! Each method: its instructions, its head. Made by wip/whole/gen/gen17.py. -/
def il0 : List (Nat × Instr) := [(0, .aload_n 0), (1, .invokespecial 3), (4, .return_)]
set_option maxRecDepth 100000 in
theorem id0 : scan (mCd 0).data.toList 0 il0 = true := by decide +kernel
theorem mm0 : mKd 0 = 2 ∧ mAr 0 = 0 ∧ mMx 0 = 1 := by decide +kernel
theorem mo0 : mOw 0 = 0 := by decide +kernel
theorem mr0 : mRt 0 = none := by decide +kernel
theorem mh0 : mHn 0 = [] := by decide +kernel
def il1 : List (Nat × Instr) := [(0, .aload_n 0), (1, .iload_n 1), (2, .putfield 9), (5, .aload_n 0), (6, .iload_n 2), (7, .putfield 15), (10, .aload_n 0), (11, .iload_n 3), (12, .putfield 18), (15, .aload_n 0), (16, .iload 4), (18, .putfield 21), (21, .aload_n 0), (22, .iconst 0), (23, .putfield 24), (26, .aload_n 0), (27, .iconst 0), (28, .putfield 27), (31, .aload_n 0), (32, .iconst 0), (33, .putfield 30), (36, .aload_n 0), (37, .iconst 0), (38, .putfield 33), (41, .aload_n 0), (42, .iconst 0), (43, .putfield 36), (46, .return_)]
set_option maxRecDepth 100000 in
theorem id1 : scan (mCd 1).data.toList 0 il1 = true := by decide +kernel
theorem mm1 : mKd 1 = 1 ∧ mAr 1 = 4 ∧ mMx 1 = 5 := by decide +kernel
theorem mo1 : mOw 1 = 0 := by decide +kernel
theorem mr1 : mRt 1 = none := by decide +kernel
theorem mh1 : mHn 1 = [] := by decide +kernel
def il2 : List (Nat × Instr) := [(0, .aload_n 0), (1, .aload_n 1), (2, .getfield 9), (5, .putfield 9), (8, .aload_n 0), (9, .aload_n 1), (10, .getfield 15), (13, .putfield 15), (16, .aload_n 0), (17, .aload_n 1), (18, .getfield 18), (21, .putfield 18), (24, .aload_n 0), (25, .aload_n 1), (26, .getfield 21), (29, .putfield 21), (32, .aload_n 0), (33, .aload_n 1), (34, .getfield 24), (37, .putfield 24), (40, .aload_n 0), (41, .aload_n 1), (42, .getfield 27), (45, .putfield 27), (48, .aload_n 0), (49, .aload_n 1), (50, .getfield 30), (53, .putfield 30), (56, .aload_n 0), (57, .aload_n 1), (58, .getfield 33), (61, .putfield 33), (64, .aload_n 0), (65, .aload_n 1), (66, .getfield 36), (69, .putfield 36), (72, .return_)]
set_option maxRecDepth 100000 in
theorem id2 : scan (mCd 2).data.toList 0 il2 = true := by decide +kernel
theorem mm2 : mKd 2 = 1 ∧ mAr 2 = 1 ∧ mMx 2 = 2 := by decide +kernel
theorem mo2 : mOw 2 = 0 := by decide +kernel
theorem mr2 : mRt 2 = none := by decide +kernel
theorem mh2 : mHn 2 = [] := by decide +kernel
def il3 : List (Nat × Instr) := [(0, .aload_n 0), (1, .getfield 18), (4, .ifCond .ge 11), (7, .aload_n 0), (8, .getfield 18), (11, .ineg), (12, .goto 7), (15, .aload_n 0), (16, .getfield 18), (19, .ireturn)]
set_option maxRecDepth 100000 in
theorem id3 : scan (mCd 3).data.toList 0 il3 = true := by decide +kernel
theorem mm3 : mKd 3 = 1 ∧ mAr 3 = 0 ∧ mMx 3 = 1 := by decide +kernel
theorem mo3 : mOw 3 = 0 := by decide +kernel
theorem mr3 : mRt 3 = some .int := by decide +kernel
theorem mh3 : mHn 3 = [] := by decide +kernel
def il4 : List (Nat × Instr) := [(0, .aload_n 0), (1, .iconst 0), (2, .putfield 43), (5, .aload_n 0), (6, .iconst 0), (7, .putfield 46), (10, .aload_n 0), (11, .dup), (12, .getfield 24), (15, .aload_n 0), (16, .invokevirtual 39), (19, .iadd), (20, .putfield 24), (23, .aload_n 0), (24, .getfield 24), (27, .bipush 60), (29, .if_icmp .ge 5), (32, .iconst 0), (33, .ireturn), (34, .aload_n 0), (35, .dup), (36, .getfield 24), (39, .bipush 60), (41, .isub), (42, .putfield 24), (45, .aload_n 0), (46, .aload_n 0), (47, .getfield 18), (50, .ifCond .le 7), (53, .iconst 1), (54, .goto 4), (57, .iconst (-1)), (58, .putfield 43), (61, .iconst 1), (62, .ireturn)]
set_option maxRecDepth 100000 in
theorem id4 : scan (mCd 4).data.toList 0 il4 = true := by decide +kernel
theorem mm4 : mKd 4 = 1 ∧ mAr 4 = 0 ∧ mMx 4 = 1 := by decide +kernel
theorem mo4 : mOw 4 = 0 := by decide +kernel
theorem mr4 : mRt 4 = some .boolean := by decide +kernel
theorem mh4 : mHn 4 = [] := by decide +kernel
def il5 : List (Nat × Instr) := [(0, .aload_n 0), (1, .getfield 21), (4, .aload_n 0), (5, .getfield 18), (8, .imul), (9, .ireturn)]
set_option maxRecDepth 100000 in
theorem id5 : scan (mCd 5).data.toList 0 il5 = true := by decide +kernel
theorem mm5 : mKd 5 = 1 ∧ mAr 5 = 0 ∧ mMx 5 = 1 := by decide +kernel
theorem mo5 : mOw 5 = 0 := by decide +kernel
theorem mr5 : mRt 5 = some .int := by decide +kernel
theorem mh5 : mHn 5 = [] := by decide +kernel
def il6 : List (Nat × Instr) := [(0, .aload_n 0), (1, .invokevirtual 39), (4, .istore_n 2), (5, .iload_n 2), (6, .iload_n 2), (7, .iload_n 1), (8, .imul), (9, .bipush 100), (11, .idiv), (12, .isub), (13, .istore_n 3), (14, .aload_n 0), (15, .getfield 18), (18, .ifCond .le 8), (21, .iload_n 3), (22, .ineg), (23, .goto 4), (26, .iload_n 3), (27, .ireturn)]
set_option maxRecDepth 100000 in
theorem id6 : scan (mCd 6).data.toList 0 il6 = true := by decide +kernel
theorem mm6 : mKd 6 = 1 ∧ mAr 6 = 1 ∧ mMx 6 = 4 := by decide +kernel
theorem mo6 : mOw 6 = 0 := by decide +kernel
theorem mr6 : mRt 6 = some .int := by decide +kernel
theorem mh6 : mHn 6 = [] := by decide +kernel
def il7 : List (Nat × Instr) := [(0, .aload_n 0), (1, .getfield 21), (4, .istore_n 2), (5, .iload_n 2), (6, .iconst 1), (7, .if_icmp .le 34), (10, .aload_n 0), (11, .getfield 21), (14, .iload_n 2), (15, .irem), (16, .ifCond .ne 19), (19, .aload_n 1), (20, .getfield 21), (23, .iload_n 2), (24, .irem), (25, .ifCond .ne 10), (28, .aload_n 1), (29, .getfield 21), (32, .iload_n 2), (33, .idiv), (34, .ireturn), (35, .iinc 2 (-1)), (38, .goto (-33)), (41, .aload_n 1), (42, .getfield 21), (45, .ireturn)]
set_option maxRecDepth 100000 in
theorem id7 : scan (mCd 7).data.toList 0 il7 = true := by decide +kernel
theorem mm7 : mKd 7 = 1 ∧ mAr 7 = 1 ∧ mMx 7 = 3 := by decide +kernel
theorem mo7 : mOw 7 = 0 := by decide +kernel
theorem mr7 : mRt 7 = some .int := by decide +kernel
theorem mh7 : mHn 7 = [] := by decide +kernel
def il8 : List (Nat × Instr) := [(0, .aload_n 0), (1, .getfield 21), (4, .aload_n 0), (5, .getfield 18), (8, .imul), (9, .aload_n 0), (10, .getfield 18), (13, .imul), (14, .ireturn)]
set_option maxRecDepth 100000 in
theorem id8 : scan (mCd 8).data.toList 0 il8 = true := by decide +kernel
theorem mm8 : mKd 8 = 1 ∧ mAr 8 = 0 ∧ mMx 8 = 1 := by decide +kernel
theorem mo8 : mOw 8 = 0 := by decide +kernel
theorem mr8 : mRt 8 = some .int := by decide +kernel
theorem mh8 : mHn 8 = [] := by decide +kernel
def il9 : List (Nat × Instr) := [(0, .aload_n 0), (1, .invokevirtual 39), (4, .istore_n 1), (5, .iload_n 1), (6, .ifCond .ne 5), (9, .iconst (-1)), (10, .ireturn), (11, .bipush 60), (13, .aload_n 0), (14, .getfield 24), (17, .isub), (18, .iload_n 1), (19, .iadd), (20, .iconst 1), (21, .isub), (22, .iload_n 1), (23, .idiv), (24, .ireturn)]
set_option maxRecDepth 100000 in
theorem id9 : scan (mCd 9).data.toList 0 il9 = true := by decide +kernel
theorem mm9 : mKd 9 = 1 ∧ mAr 9 = 0 ∧ mMx 9 = 2 := by decide +kernel
theorem mo9 : mOw 9 = 0 := by decide +kernel
theorem mr9 : mRt 9 = some .int := by decide +kernel
theorem mh9 : mHn 9 = [] := by decide +kernel
def il10 : List (Nat × Instr) := [(0, .aload_n 0), (1, .invokespecial 1), (4, .return_)]
set_option maxRecDepth 100000 in
theorem id10 : scan (mCd 10).data.toList 0 il10 = true := by decide +kernel
theorem mm10 : mKd 10 = 2 ∧ mAr 10 = 0 ∧ mMx 10 = 1 := by decide +kernel
theorem mo10 : mOw 10 = 1 := by decide +kernel
theorem mr10 : mRt 10 = none := by decide +kernel
theorem mh10 : mHn 10 = [] := by decide +kernel
def il11 : List (Nat × Instr) := [(0, .aload_n 0), (1, .iload_n 1), (2, .putfield 7), (5, .aload_n 0), (6, .iload_n 2), (7, .putfield 13), (10, .aload_n 0), (11, .iconst 0), (12, .putfield 16), (15, .return_)]
set_option maxRecDepth 100000 in
theorem id11 : scan (mCd 11).data.toList 0 il11 = true := by decide +kernel
theorem mm11 : mKd 11 = 1 ∧ mAr 11 = 2 ∧ mMx 11 = 3 := by decide +kernel
theorem mo11 : mOw 11 = 1 := by decide +kernel
theorem mr11 : mRt 11 = none := by decide +kernel
theorem mh11 : mHn 11 = [] := by decide +kernel
def il12 : List (Nat × Instr) := [(0, .aload_n 0), (1, .aload_n 1), (2, .getfield 7), (5, .putfield 7), (8, .aload_n 0), (9, .aload_n 1), (10, .getfield 13), (13, .putfield 13), (16, .aload_n 0), (17, .aload_n 1), (18, .getfield 16), (21, .putfield 16), (24, .return_)]
set_option maxRecDepth 100000 in
theorem id12 : scan (mCd 12).data.toList 0 il12 = true := by decide +kernel
theorem mm12 : mKd 12 = 1 ∧ mAr 12 = 1 ∧ mMx 12 = 2 := by decide +kernel
theorem mo12 : mOw 12 = 1 := by decide +kernel
theorem mr12 : mRt 12 = none := by decide +kernel
theorem mh12 : mHn 12 = [] := by decide +kernel
def il13 : List (Nat × Instr) := [(0, .aload_n 0), (1, .invokespecial 3), (4, .aload_n 0), (5, .bipush 100), (7, .newarray .int), (9, .putfield 9), (12, .return_)]
set_option maxRecDepth 100000 in
theorem id13 : scan (mCd 13).data.toList 0 il13 = true := by decide +kernel
theorem mm13 : mKd 13 = 2 ∧ mAr 13 = 0 ∧ mMx 13 = 1 := by decide +kernel
theorem mo13 : mOw 13 = 2 := by decide +kernel
theorem mr13 : mRt 13 = none := by decide +kernel
theorem mh13 : mHn 13 = [] := by decide +kernel
def il14 : List (Nat × Instr) := [(0, .iconst 0), (1, .istore_n 1), (2, .iload_n 1), (3, .aload_n 0), (4, .getfield 9), (7, .arraylength), (8, .if_icmp .ge 16), (11, .aload_n 0), (12, .getfield 9), (15, .iload_n 1), (16, .iconst 0), (17, .iastore), (18, .iinc 1 1), (21, .goto (-19)), (24, .aload_n 0), (25, .lconst 0), (26, .putfield 15), (29, .aload_n 0), (30, .lconst 0), (31, .putfield 19), (34, .aload_n 0), (35, .lconst 0), (36, .putfield 22), (39, .aload_n 0), (40, .iconst 0), (41, .putfield 25), (44, .aload_n 0), (45, .iconst 0), (46, .putfield 29), (49, .aload_n 0), (50, .iconst 0), (51, .putfield 32), (54, .aload_n 0), (55, .iconst 0), (56, .putfield 35), (59, .return_)]
set_option maxRecDepth 100000 in
theorem id14 : scan (mCd 14).data.toList 0 il14 = true := by decide +kernel
theorem mm14 : mKd 14 = 1 ∧ mAr 14 = 0 ∧ mMx 14 = 2 := by decide +kernel
theorem mo14 : mOw 14 = 2 := by decide +kernel
theorem mr14 : mRt 14 = none := by decide +kernel
theorem mh14 : mHn 14 = [] := by decide +kernel
def il15 : List (Nat × Instr) := [(0, .aload_n 1), (1, .getfield 9), (4, .iconst 0), (5, .aload_n 0), (6, .getfield 9), (9, .iconst 0), (10, .aload_n 0), (11, .getfield 9), (14, .arraylength), (15, .invokestatic 38), (18, .aload_n 0), (19, .aload_n 1), (20, .getfield 15), (23, .putfield 15), (26, .aload_n 0), (27, .aload_n 1), (28, .getfield 19), (31, .putfield 19), (34, .aload_n 0), (35, .aload_n 1), (36, .getfield 22), (39, .putfield 22), (42, .aload_n 0), (43, .aload_n 1), (44, .getfield 25), (47, .putfield 25), (50, .aload_n 0), (51, .aload_n 1), (52, .getfield 29), (55, .putfield 29), (58, .aload_n 0), (59, .aload_n 1), (60, .getfield 32), (63, .putfield 32), (66, .aload_n 0), (67, .aload_n 1), (68, .getfield 35), (71, .putfield 35), (74, .return_)]
set_option maxRecDepth 100000 in
theorem id15 : scan (mCd 15).data.toList 0 il15 = true := by decide +kernel
theorem mm15 : mKd 15 = 1 ∧ mAr 15 = 1 ∧ mMx 15 = 2 := by decide +kernel
theorem mo15 : mOw 15 = 2 := by decide +kernel
theorem mr15 : mRt 15 = none := by decide +kernel
theorem mh15 : mHn 15 = [] := by decide +kernel
def il16 : List (Nat × Instr) := [(0, .aload_n 0), (1, .dup), (2, .getfield 25), (5, .iconst 1), (6, .iadd), (7, .putfield 25), (10, .aload_n 0), (11, .getfield 9), (14, .iload_n 1), (15, .bipush 10), (17, .imul), (18, .iload_n 2), (19, .iadd), (20, .dup2), (21, .iaload), (22, .iconst 1), (23, .iadd), (24, .iastore), (25, .aload_n 0), (26, .getfield 9), (29, .iload_n 2), (30, .bipush 10), (32, .imul), (33, .iload_n 1), (34, .iadd), (35, .dup2), (36, .iaload), (37, .iconst 1), (38, .iadd), (39, .iastore), (40, .return_)]
set_option maxRecDepth 100000 in
theorem id16 : scan (mCd 16).data.toList 0 il16 = true := by decide +kernel
theorem mm16 : mKd 16 = 1 ∧ mAr 16 = 2 ∧ mMx 16 = 3 := by decide +kernel
theorem mo16 : mOw 16 = 2 := by decide +kernel
theorem mr16 : mRt 16 = none := by decide +kernel
theorem mh16 : mHn 16 = [] := by decide +kernel
def il17 : List (Nat × Instr) := [(0, .aload_n 0), (1, .getfield 9), (4, .iload_n 1), (5, .bipush 10), (7, .imul), (8, .iload_n 2), (9, .iadd), (10, .iaload), (11, .ireturn)]
set_option maxRecDepth 100000 in
theorem id17 : scan (mCd 17).data.toList 0 il17 = true := by decide +kernel
theorem mm17 : mKd 17 = 1 ∧ mAr 17 = 2 ∧ mMx 17 = 3 := by decide +kernel
theorem mo17 : mOw 17 = 2 := by decide +kernel
theorem mr17 : mRt 17 = some .int := by decide +kernel
theorem mh17 : mHn 17 = [] := by decide +kernel
def il18 : List (Nat × Instr) := [(0, .iconst 0), (1, .istore_n 2), (2, .iload_n 2), (3, .bipush 10), (5, .if_icmp .ge 62), (8, .iconst 0), (9, .istore_n 3), (10, .iload_n 3), (11, .bipush 10), (13, .if_icmp .ge 48), (16, .aload_n 0), (17, .getfield 9), (20, .iload_n 2), (21, .bipush 10), (23, .imul), (24, .iload_n 3), (25, .iadd), (26, .aload_n 0), (27, .iload_n 2), (28, .iload_n 1), (29, .if_icmp .ge 7), (32, .iload_n 2), (33, .goto 6), (36, .iload_n 2), (37, .iconst 1), (38, .iadd), (39, .iload_n 3), (40, .iload_n 1), (41, .if_icmp .ge 7), (44, .iload_n 3), (45, .goto 6), (48, .iload_n 3), (49, .iconst 1), (50, .iadd), (51, .invokevirtual 44), (54, .iastore), (55, .iinc 3 1), (58, .goto (-48)), (61, .iinc 2 1), (64, .goto (-62)), (67, .return_)]
set_option maxRecDepth 100000 in
theorem id18 : scan (mCd 18).data.toList 0 il18 = true := by decide +kernel
theorem mm18 : mKd 18 = 1 ∧ mAr 18 = 1 ∧ mMx 18 = 4 := by decide +kernel
theorem mo18 : mOw 18 = 2 := by decide +kernel
theorem mr18 : mRt 18 = none := by decide +kernel
theorem mh18 : mHn 18 = [] := by decide +kernel
def il19 : List (Nat × Instr) := [(0, .iload_n 1), (1, .bipush 10), (3, .if_icmp .ge 18), (6, .iload_n 2), (7, .bipush 10), (9, .if_icmp .ge 12), (12, .aload_n 0), (13, .iload_n 1), (14, .iload_n 2), (15, .invokevirtual 48), (18, .goto 4), (21, .iconst 0), (22, .ireturn)]
set_option maxRecDepth 100000 in
theorem id19 : scan (mCd 19).data.toList 0 il19 = true := by decide +kernel
theorem mm19 : mKd 19 = 1 ∧ mAr 19 = 2 ∧ mMx 19 = 3 := by decide +kernel
theorem mo19 : mOw 19 = 2 := by decide +kernel
theorem mr19 : mRt 19 = some .int := by decide +kernel
theorem mh19 : mHn 19 = [] := by decide +kernel
def il20 : List (Nat × Instr) := [(0, .aload_n 0), (1, .invokespecial 3), (4, .aload_n 0), (5, .bipush 6), (7, .anewarray 9), (10, .putfield 11), (13, .iconst 0), (14, .istore_n 1), (15, .iload_n 1), (16, .bipush 6), (18, .if_icmp .ge 22), (21, .aload_n 0), (22, .getfield 11), (25, .iload_n 1), (26, .new 9), (29, .dup), (30, .invokespecial 17), (33, .aastore), (34, .iinc 1 1), (37, .goto (-22)), (40, .return_)]
set_option maxRecDepth 100000 in
theorem id20 : scan (mCd 20).data.toList 0 il20 = true := by decide +kernel
theorem mm20 : mKd 20 = 2 ∧ mAr 20 = 0 ∧ mMx 20 = 2 := by decide +kernel
theorem mo20 : mOw 20 = 3 := by decide +kernel
theorem mr20 : mRt 20 = none := by decide +kernel
theorem mh20 : mHn 20 = [] := by decide +kernel
def il21 : List (Nat × Instr) := [(0, .aload_n 0), (1, .getfield 11), (4, .aload_n 0), (5, .getfield 18), (8, .aload_n 0), (9, .getfield 22), (12, .iadd), (13, .bipush 6), (15, .irem), (16, .aaload), (17, .aload_n 1), (18, .invokevirtual 25), (21, .aload_n 0), (22, .getfield 22), (25, .bipush 6), (27, .if_icmp .ge 16), (30, .aload_n 0), (31, .dup), (32, .getfield 22), (35, .iconst 1), (36, .iadd), (37, .putfield 22), (40, .goto 16), (43, .aload_n 0), (44, .aload_n 0), (45, .getfield 18), (48, .iconst 1), (49, .iadd), (50, .bipush 6), (52, .irem), (53, .putfield 18), (56, .return_)]
set_option maxRecDepth 100000 in
theorem id21 : scan (mCd 21).data.toList 0 il21 = true := by decide +kernel
theorem mm21 : mKd 21 = 1 ∧ mAr 21 = 1 ∧ mMx 21 = 2 := by decide +kernel
theorem mo21 : mOw 21 = 3 := by decide +kernel
theorem mr21 : mRt 21 = none := by decide +kernel
theorem mh21 : mHn 21 = [] := by decide +kernel
def il22 : List (Nat × Instr) := [(0, .aload_n 0), (1, .getfield 22), (4, .ifCond .le 34), (7, .aload_n 0), (8, .dup), (9, .getfield 22), (12, .iconst 1), (13, .isub), (14, .putfield 22), (17, .aload_n 1), (18, .aload_n 0), (19, .getfield 11), (22, .aload_n 0), (23, .getfield 18), (26, .aload_n 0), (27, .getfield 22), (30, .iadd), (31, .bipush 6), (33, .irem), (34, .aaload), (35, .invokevirtual 25), (38, .return_)]
set_option maxRecDepth 100000 in
theorem id22 : scan (mCd 22).data.toList 0 il22 = true := by decide +kernel
theorem mm22 : mKd 22 = 1 ∧ mAr 22 = 1 ∧ mMx 22 = 2 := by decide +kernel
theorem mo22 : mOw 22 = 3 := by decide +kernel
theorem mr22 : mRt 22 = none := by decide +kernel
theorem mh22 : mHn 22 = [] := by decide +kernel
def il23 : List (Nat × Instr) := [(0, .aload_n 0), (1, .invokespecial 3), (4, .aload_n 0), (5, .bipush 10), (7, .anewarray 9), (10, .putfield 11), (13, .aload_n 0), (14, .bipush 10), (16, .newarray .int), (18, .putfield 17), (21, .aload_n 0), (22, .iconst 4), (23, .anewarray 21), (26, .putfield 23), (29, .aload_n 0), (30, .new 21), (33, .dup), (34, .invokespecial 27), (37, .putfield 28), (40, .aload_n 0), (41, .new 21), (44, .dup), (45, .invokespecial 27), (48, .putfield 32), (51, .aload_n 0), (52, .new 35), (55, .dup), (56, .invokespecial 37), (59, .putfield 38), (62, .aload_n 0), (63, .new 42), (66, .dup), (67, .invokespecial 44), (70, .putfield 45), (73, .iconst 0), (74, .istore_n 1), (75, .iload_n 1), (76, .bipush 10), (78, .if_icmp .ge 22), (81, .aload_n 0), (82, .getfield 11), (85, .iload_n 1), (86, .new 9), (89, .dup), (90, .invokespecial 49), (93, .aastore), (94, .iinc 1 1), (97, .goto (-22)), (100, .iconst 0), (101, .istore_n 1), (102, .iload_n 1), (103, .iconst 4), (104, .if_icmp .ge 22), (107, .aload_n 0), (108, .getfield 23), (111, .iload_n 1), (112, .new 21), (115, .dup), (116, .invokespecial 27), (119, .aastore), (120, .iinc 1 1), (123, .goto (-21)), (126, .aload_n 0), (127, .bipush 10), (129, .iconst 0), (130, .iconst 0), (131, .invokevirtual 50), (134, .return_)]
set_option maxRecDepth 100000 in
theorem id23 : scan (mCd 23).data.toList 0 il23 = true := by decide +kernel
theorem mm23 : mKd 23 = 2 ∧ mAr 23 = 0 ∧ mMx 23 = 2 := by decide +kernel
theorem mo23 : mOw 23 = 4 := by decide +kernel
theorem mr23 : mRt 23 = none := by decide +kernel
theorem mh23 : mHn 23 = [] := by decide +kernel
def il24 : List (Nat × Instr) := [(0, .aload_n 0), (1, .iload_n 1), (2, .putfield 54), (5, .aload_n 0), (6, .iconst 0), (7, .putfield 58), (10, .aload_n 0), (11, .iconst 0), (12, .putfield 61), (15, .aload_n 0), (16, .iconst 0), (17, .putfield 64), (20, .aload_n 0), (21, .getfield 28), (24, .iconst (-1)), (25, .iload_n 2), (26, .invokevirtual 67), (29, .aload_n 0), (30, .getfield 32), (33, .iload_n 1), (34, .iload_n 3), (35, .invokevirtual 67), (38, .aload_n 0), (39, .getfield 38), (42, .invokevirtual 71), (45, .aload_n 0), (46, .getfield 45), (49, .invokevirtual 73), (52, .return_)]
set_option maxRecDepth 100000 in
theorem id24 : scan (mCd 24).data.toList 0 il24 = true := by decide +kernel
theorem mm24 : mKd 24 = 1 ∧ mAr 24 = 3 ∧ mMx 24 = 4 := by decide +kernel
theorem mo24 : mOw 24 = 4 := by decide +kernel
theorem mr24 : mRt 24 = none := by decide +kernel
theorem mh24 : mHn 24 = [] := by decide +kernel
def il25 : List (Nat × Instr) := [(0, .aload_n 0), (1, .iload_n 1), (2, .invokevirtual 94), (5, .ifnonnull 12), (8, .aload_n 0), (9, .iload_n 1), (10, .invokevirtual 98), (13, .iconst (-1)), (14, .if_icmp .eq 7), (17, .iconst 1), (18, .goto 4), (21, .iconst 0), (22, .ireturn)]
set_option maxRecDepth 100000 in
theorem id25 : scan (mCd 25).data.toList 0 il25 = true := by decide +kernel
theorem mm25 : mKd 25 = 1 ∧ mAr 25 = 1 ∧ mMx 25 = 2 := by decide +kernel
theorem mo25 : mOw 25 = 4 := by decide +kernel
theorem mr25 : mRt 25 = some .boolean := by decide +kernel
theorem mh25 : mHn 25 = [] := by decide +kernel
def il26 : List (Nat × Instr) := [(0, .iload_n 1), (1, .ifCond .ge 8), (4, .aload_n 0), (5, .getfield 28), (8, .areturn), (9, .iload_n 1), (10, .aload_n 0), (11, .getfield 54), (14, .if_icmp .lt 8), (17, .aload_n 0), (18, .getfield 32), (21, .areturn), (22, .iconst 0), (23, .istore_n 2), (24, .iload_n 2), (25, .aload_n 0), (26, .getfield 64), (29, .if_icmp .ge 29), (32, .aload_n 0), (33, .getfield 23), (36, .iload_n 2), (37, .aaload), (38, .getfield 93), (41, .iload_n 1), (42, .if_icmp .ne 10), (45, .aload_n 0), (46, .getfield 23), (49, .iload_n 2), (50, .aaload), (51, .areturn), (52, .iinc 2 1), (55, .goto (-31)), (58, .aconst_null), (59, .areturn)]
set_option maxRecDepth 100000 in
theorem id26 : scan (mCd 26).data.toList 0 il26 = true := by decide +kernel
theorem mm26 : mKd 26 = 1 ∧ mAr 26 = 1 ∧ mMx 26 = 3 := by decide +kernel
theorem mo26 : mOw 26 = 4 := by decide +kernel
theorem mr26 : mRt 26 = some (.object "LineBalls$Barrier") := by decide +kernel
theorem mh26 : mHn 26 = [] := by decide +kernel
def il27 : List (Nat × Instr) := [(0, .iconst 0), (1, .istore_n 2), (2, .iload_n 2), (3, .aload_n 0), (4, .getfield 61), (7, .if_icmp .ge 24), (10, .aload_n 0), (11, .getfield 11), (14, .iload_n 2), (15, .aaload), (16, .getfield 87), (19, .iload_n 1), (20, .if_icmp .ne 5), (23, .iload_n 2), (24, .ireturn), (25, .iinc 2 1), (28, .goto (-26)), (31, .iconst (-1)), (32, .ireturn)]
set_option maxRecDepth 100000 in
theorem id27 : scan (mCd 27).data.toList 0 il27 = true := by decide +kernel
theorem mm27 : mKd 27 = 1 ∧ mAr 27 = 1 ∧ mMx 27 = 3 := by decide +kernel
theorem mo27 : mOw 27 = 4 := by decide +kernel
theorem mr27 : mRt 27 = some .int := by decide +kernel
theorem mh27 : mHn 27 = [] := by decide +kernel
def il28 : List (Nat × Instr) := [(0, .aload_n 0), (1, .getfield 64), (4, .iconst 4), (5, .if_icmp .ge 27), (8, .aload_n 0), (9, .getfield 23), (12, .aload_n 0), (13, .getfield 64), (16, .aaload), (17, .iload_n 1), (18, .iload_n 2), (19, .invokevirtual 67), (22, .aload_n 0), (23, .dup), (24, .getfield 64), (27, .iconst 1), (28, .iadd), (29, .putfield 64), (32, .return_)]
set_option maxRecDepth 100000 in
theorem id28 : scan (mCd 28).data.toList 0 il28 = true := by decide +kernel
theorem mm28 : mKd 28 = 1 ∧ mAr 28 = 2 ∧ mMx 28 = 3 := by decide +kernel
theorem mo28 : mOw 28 = 4 := by decide +kernel
theorem mr28 : mRt 28 = none := by decide +kernel
theorem mh28 : mHn 28 = [] := by decide +kernel
def il29 : List (Nat × Instr) := [(0, .iconst 0), (1, .istore_n 2), (2, .iload_n 2), (3, .aload_n 0), (4, .getfield 61), (7, .if_icmp .ge 28), (10, .iload_n 1), (11, .ifCond .eq 24), (14, .aload_n 0), (15, .getfield 11), (18, .iload_n 2), (19, .aaload), (20, .getfield 90), (23, .iload_n 1), (24, .if_icmp .ne 5), (27, .iload_n 2), (28, .ireturn), (29, .iinc 2 1), (32, .goto (-30)), (35, .iconst (-1)), (36, .ireturn)]
set_option maxRecDepth 100000 in
theorem id29 : scan (mCd 29).data.toList 0 il29 = true := by decide +kernel
theorem mm29 : mKd 29 = 1 ∧ mAr 29 = 1 ∧ mMx 29 = 3 := by decide +kernel
theorem mo29 : mOw 29 = 4 := by decide +kernel
theorem mr29 : mRt 29 = some .int := by decide +kernel
theorem mh29 : mHn 29 = [] := by decide +kernel
def il30 : List (Nat × Instr) := [(0, .aload_n 0), (1, .getfield 61), (4, .bipush 10), (6, .if_icmp .ge 34), (9, .aload_n 0), (10, .getfield 11), (13, .aload_n 0), (14, .getfield 61), (17, .aaload), (18, .iload_n 1), (19, .iload_n 2), (20, .iload_n 3), (21, .iload 4), (23, .invokevirtual 124), (26, .aload_n 0), (27, .dup), (28, .getfield 61), (31, .iconst 1), (32, .iadd), (33, .putfield 61), (36, .aload_n 0), (37, .invokevirtual 127), (40, .return_)]
set_option maxRecDepth 100000 in
theorem id30 : scan (mCd 30).data.toList 0 il30 = true := by decide +kernel
theorem mm30 : mKd 30 = 1 ∧ mAr 30 = 4 ∧ mMx 30 = 5 := by decide +kernel
theorem mo30 : mOw 30 = 4 := by decide +kernel
theorem mr30 : mRt 30 = none := by decide +kernel
theorem mh30 : mHn 30 = [] := by decide +kernel
def il31 : List (Nat × Instr) := [(0, .iconst 0), (1, .istore_n 1), (2, .iload_n 1), (3, .aload_n 0), (4, .getfield 61), (7, .if_icmp .ge 70), (10, .iload_n 1), (11, .istore_n 2), (12, .iload_n 2), (13, .ifCond .le 51), (16, .aload_n 0), (17, .getfield 11), (20, .aload_n 0), (21, .getfield 17), (24, .iload_n 2), (25, .iconst 1), (26, .isub), (27, .iaload), (28, .aaload), (29, .getfield 87), (32, .aload_n 0), (33, .getfield 11), (36, .iload_n 1), (37, .aaload), (38, .getfield 87), (41, .if_icmp .le 23), (44, .aload_n 0), (45, .getfield 17), (48, .iload_n 2), (49, .aload_n 0), (50, .getfield 17), (53, .iload_n 2), (54, .iconst 1), (55, .isub), (56, .iaload), (57, .iastore), (58, .iinc 2 (-1)), (61, .goto (-49)), (64, .aload_n 0), (65, .getfield 17), (68, .iload_n 2), (69, .iload_n 1), (70, .iastore), (71, .iinc 1 1), (74, .goto (-72)), (77, .return_)]
set_option maxRecDepth 100000 in
theorem id31 : scan (mCd 31).data.toList 0 il31 = true := by decide +kernel
theorem mm31 : mKd 31 = 1 ∧ mAr 31 = 0 ∧ mMx 31 = 3 := by decide +kernel
theorem mo31 : mOw 31 = 4 := by decide +kernel
theorem mr31 : mRt 31 = none := by decide +kernel
theorem mh31 : mHn 31 = [] := by decide +kernel
def il32 : List (Nat × Instr) := [(0, .aload_n 0), (1, .aload_n 1), (2, .getfield 54), (5, .putfield 54), (8, .aload_n 0), (9, .aload_n 1), (10, .getfield 58), (13, .putfield 58), (16, .aload_n 0), (17, .aload_n 1), (18, .getfield 61), (21, .putfield 61), (24, .iconst 0), (25, .istore_n 2), (26, .iload_n 2), (27, .bipush 10), (29, .if_icmp .ge 36), (32, .aload_n 0), (33, .getfield 11), (36, .iload_n 2), (37, .aaload), (38, .aload_n 1), (39, .getfield 11), (42, .iload_n 2), (43, .aaload), (44, .invokevirtual 74), (47, .aload_n 0), (48, .getfield 17), (51, .iload_n 2), (52, .aload_n 1), (53, .getfield 17), (56, .iload_n 2), (57, .iaload), (58, .iastore), (59, .iinc 2 1), (62, .goto (-36)), (65, .aload_n 0), (66, .aload_n 1), (67, .getfield 64), (70, .putfield 64), (73, .iconst 0), (74, .istore_n 2), (75, .iload_n 2), (76, .iconst 4), (77, .if_icmp .ge 24), (80, .aload_n 0), (81, .getfield 23), (84, .iload_n 2), (85, .aaload), (86, .aload_n 1), (87, .getfield 23), (90, .iload_n 2), (91, .aaload), (92, .invokevirtual 78), (95, .iinc 2 1), (98, .goto (-23)), (101, .aload_n 0), (102, .getfield 28), (105, .aload_n 1), (106, .getfield 28), (109, .invokevirtual 78), (112, .aload_n 0), (113, .getfield 32), (116, .aload_n 1), (117, .getfield 32), (120, .invokevirtual 78), (123, .aload_n 0), (124, .getfield 38), (127, .aload_n 1), (128, .getfield 38), (131, .invokevirtual 81), (134, .aload_n 0), (135, .getfield 45), (138, .aload_n 1), (139, .getfield 45), (142, .invokevirtual 84), (145, .return_)]
set_option maxRecDepth 100000 in
theorem id32 : scan (mCd 32).data.toList 0 il32 = true := by decide +kernel
theorem mm32 : mKd 32 = 1 ∧ mAr 32 = 1 ∧ mMx 32 = 3 := by decide +kernel
theorem mo32 : mOw 32 = 4 := by decide +kernel
theorem mr32 : mRt 32 = none := by decide +kernel
theorem mh32 : mHn 32 = [] := by decide +kernel
def il33 : List (Nat × Instr) := [(0, .aload_n 0), (1, .getfield 45), (4, .getfield 135), (7, .istore_n 2), (8, .iconst 0), (9, .istore_n 3), (10, .iload_n 3), (11, .iload_n 1), (12, .if_icmp .ge 77), (15, .aload_n 0), (16, .invokevirtual 138), (19, .ifCond .eq 54), (22, .iconst 0), (23, .istore 4), (25, .iload 4), (27, .aload_n 0), (28, .getfield 61), (31, .if_icmp .ge 16), (34, .aload_n 0), (35, .iload 4), (37, .iconst (-1)), (38, .invokevirtual 142), (41, .iinc 4 1), (44, .goto (-19)), (47, .aload_n 0), (48, .getfield 61), (51, .iconst 1), (52, .isub), (53, .istore 4), (55, .iload 4), (57, .ifCond .lt 16), (60, .aload_n 0), (61, .iload 4), (63, .iconst 1), (64, .invokevirtual 142), (67, .iinc 4 (-1)), (70, .goto (-15)), (73, .aload_n 0), (74, .dup), (75, .getfield 58), (78, .iconst 1), (79, .iadd), (80, .putfield 58), (83, .iinc 3 1), (86, .goto (-76)), (89, .aload_n 0), (90, .getfield 45), (93, .getfield 135), (96, .iload_n 2), (97, .isub), (98, .ireturn)]
set_option maxRecDepth 100000 in
theorem id33 : scan (mCd 33).data.toList 0 il33 = true := by decide +kernel
theorem mm33 : mKd 33 = 1 ∧ mAr 33 = 1 ∧ mMx 33 = 5 := by decide +kernel
theorem mo33 : mOw 33 = 4 := by decide +kernel
theorem mr33 : mRt 33 = some .int := by decide +kernel
theorem mh33 : mHn 33 = [] := by decide +kernel
def il34 : List (Nat × Instr) := [(0, .iconst 0), (1, .istore_n 1), (2, .iconst 0), (3, .istore_n 2), (4, .iload_n 2), (5, .aload_n 0), (6, .getfield 61), (9, .if_icmp .ge 23), (12, .aload_n 0), (13, .getfield 11), (16, .iload_n 2), (17, .aaload), (18, .invokevirtual 145), (21, .ifCond .eq 5), (24, .iconst 1), (25, .istore_n 1), (26, .iinc 2 1), (29, .goto (-25)), (32, .iload_n 1), (33, .ireturn)]
set_option maxRecDepth 100000 in
theorem id34 : scan (mCd 34).data.toList 0 il34 = true := by decide +kernel
theorem mm34 : mKd 34 = 1 ∧ mAr 34 = 0 ∧ mMx 34 = 3 := by decide +kernel
theorem mo34 : mOw 34 = 4 := by decide +kernel
theorem mr34 : mRt 34 = some .boolean := by decide +kernel
theorem mh34 : mHn 34 = [] := by decide +kernel
def il35 : List (Nat × Instr) := [(0, .aload_n 0), (1, .getfield 17), (4, .iload_n 1), (5, .iaload), (6, .istore_n 3), (7, .aload_n 0), (8, .getfield 11), (11, .iload_n 3), (12, .aaload), (13, .astore 4), (15, .aload 4), (17, .getfield 148), (20, .iload_n 2), (21, .if_icmp .ne 11), (24, .aload 4), (26, .getfield 151), (29, .ifCond .eq 4), (32, .return_), (33, .aload 4), (35, .getfield 87), (38, .iload_n 2), (39, .iadd), (40, .istore 5), (42, .aload_n 0), (43, .iload 5), (45, .invokevirtual 94), (48, .astore 6), (50, .aload 6), (52, .ifnull 11), (55, .aload_n 0), (56, .iload_n 3), (57, .aload 6), (59, .invokevirtual 155), (62, .return_), (63, .iload_n 1), (64, .iload_n 2), (65, .iadd), (66, .istore 7), (68, .iload 7), (70, .ifCond .lt 46), (73, .iload 7), (75, .aload_n 0), (76, .getfield 61), (79, .if_icmp .ge 37), (82, .aload_n 0), (83, .getfield 11), (86, .aload_n 0), (87, .getfield 17), (90, .iload 7), (92, .iaload), (93, .aaload), (94, .getfield 87), (97, .iload 5), (99, .if_icmp .ne 17), (102, .aload_n 0), (103, .iload_n 3), (104, .aload_n 0), (105, .getfield 17), (108, .iload 7), (110, .iaload), (111, .iload_n 2), (112, .invokevirtual 159), (115, .return_), (116, .aload 4), (118, .iload 5), (120, .putfield 87), (123, .aload 4), (125, .dup), (126, .getfield 162), (129, .iconst 1), (130, .iadd), (131, .putfield 162), (134, .aload_n 0), (135, .getfield 45), (138, .dup), (139, .getfield 165), (142, .iconst 1), (143, .iadd), (144, .putfield 165), (147, .return_)]
set_option maxRecDepth 100000 in
theorem id35 : scan (mCd 35).data.toList 0 il35 = true := by decide +kernel
theorem mm35 : mKd 35 = 1 ∧ mAr 35 = 2 ∧ mMx 35 = 8 := by decide +kernel
theorem mo35 : mOw 35 = 4 := by decide +kernel
theorem mr35 : mRt 35 = none := by decide +kernel
theorem mh35 : mHn 35 = [] := by decide +kernel
def il36 : List (Nat × Instr) := [(0, .aload_n 0), (1, .getfield 11), (4, .iload_n 1), (5, .aaload), (6, .astore_n 3), (7, .aload_n 3), (8, .invokevirtual 166), (11, .istore 4), (13, .aload_n 3), (14, .invokevirtual 112), (17, .istore 5), (19, .aload_n 3), (20, .aload_n 3), (21, .aload_n 2), (22, .getfield 169), (25, .invokevirtual 172), (28, .putfield 106), (31, .aload_n 3), (32, .dup), (33, .getfield 175), (36, .iconst 1), (37, .iadd), (38, .putfield 175), (41, .aload_n 2), (42, .dup), (43, .getfield 178), (46, .iconst 1), (47, .iadd), (48, .putfield 178), (51, .aload_n 0), (52, .getfield 45), (55, .dup), (56, .getfield 179), (59, .iconst 1), (60, .iadd), (61, .putfield 179), (64, .aload_n 0), (65, .getfield 45), (68, .dup), (69, .getfield 180), (72, .iload 5), (74, .aload_n 3), (75, .invokevirtual 112), (78, .isub), (79, .i2l), (80, .ladd), (81, .putfield 180), (84, .aload_n 0), (85, .getfield 38), (88, .aload_n 0), (89, .getfield 58), (92, .iload_n 1), (93, .iconst (-1)), (94, .iload 4), (96, .aload_n 3), (97, .invokevirtual 166), (100, .isub), (101, .invokevirtual 183), (104, .return_)]
set_option maxRecDepth 100000 in
theorem id36 : scan (mCd 36).data.toList 0 il36 = true := by decide +kernel
theorem mm36 : mKd 36 = 1 ∧ mAr 36 = 2 ∧ mMx 36 = 6 := by decide +kernel
theorem mo36 : mOw 36 = 4 := by decide +kernel
theorem mr36 : mRt 36 = none := by decide +kernel
theorem mh36 : mHn 36 = [] := by decide +kernel
def il37 : List (Nat × Instr) := [(0, .aload_n 0), (1, .getfield 11), (4, .iload_n 3), (5, .ifCond .le 7), (8, .iload_n 1), (9, .goto 4), (12, .iload_n 2), (13, .aaload), (14, .astore 4), (16, .aload_n 0), (17, .getfield 11), (20, .iload_n 3), (21, .ifCond .le 7), (24, .iload_n 2), (25, .goto 4), (28, .iload_n 1), (29, .aaload), (30, .astore 5), (32, .aload 4), (34, .aload 5), (36, .invokestatic 186), (39, .istore 6), (41, .iload 6), (43, .iconst (-1)), (44, .if_icmp .ne 32), (47, .aload_n 0), (48, .getfield 11), (51, .iload_n 1), (52, .aaload), (53, .dup), (54, .getfield 190), (57, .iconst 1), (58, .iadd), (59, .putfield 190), (62, .aload_n 0), (63, .getfield 45), (66, .dup), (67, .getfield 193), (70, .iconst 1), (71, .iadd), (72, .putfield 193), (75, .return_), (76, .aload 5), (78, .invokevirtual 112), (81, .istore 7), (83, .aload 4), (85, .dup), (86, .getfield 106), (89, .iload 6), (91, .aload 4), (93, .aload 5), (95, .invokevirtual 194), (98, .imul), (99, .isub), (100, .putfield 106), (103, .aload 5), (105, .dup), (106, .getfield 106), (109, .iload 6), (111, .aload 5), (113, .aload 4), (115, .invokevirtual 194), (118, .imul), (119, .iadd), (120, .putfield 106), (123, .aload_n 0), (124, .getfield 45), (127, .dup), (128, .getfield 198), (131, .aload 5), (133, .invokevirtual 112), (136, .iload 7), (138, .isub), (139, .i2l), (140, .ladd), (141, .putfield 198), (144, .aload 4), (146, .dup), (147, .getfield 201), (150, .iconst 1), (151, .iadd), (152, .putfield 201), (155, .aload 5), (157, .dup), (158, .getfield 201), (161, .iconst 1), (162, .iadd), (163, .putfield 201), (166, .aload 4), (168, .iconst 1), (169, .putfield 151), (172, .aload 5), (174, .iconst 1), (175, .putfield 151), (178, .aload_n 0), (179, .getfield 45), (182, .iload_n 1), (183, .iload_n 2), (184, .invokevirtual 202), (187, .aload_n 0), (188, .getfield 38), (191, .aload_n 0), (192, .getfield 58), (195, .iload_n 1), (196, .iload_n 2), (197, .iload 6), (199, .invokevirtual 183), (202, .return_)]
set_option maxRecDepth 100000 in
theorem id37 : scan (mCd 37).data.toList 0 il37 = true := by decide +kernel
theorem mm37 : mKd 37 = 1 ∧ mAr 37 = 3 ∧ mMx 37 = 8 := by decide +kernel
theorem mo37 : mOw 37 = 4 := by decide +kernel
theorem mr37 : mRt 37 = none := by decide +kernel
theorem mh37 : mHn 37 = [] := by decide +kernel
def il38 : List (Nat × Instr) := [(0, .aload_n 0), (1, .getfield 106), (4, .aload_n 1), (5, .getfield 106), (8, .isub), (9, .istore_n 2), (10, .iload_n 2), (11, .ifCond .gt 5), (14, .iconst (-1)), (15, .ireturn), (16, .aload_n 0), (17, .aload_n 1), (18, .invokevirtual 194), (21, .istore_n 3), (22, .aload_n 1), (23, .aload_n 0), (24, .invokevirtual 194), (27, .istore 4), (29, .iload_n 3), (30, .iload 4), (32, .iadd), (33, .istore 5), (35, .iload 5), (37, .ifCond .le 16), (40, .iconst 1), (41, .iconst 2), (42, .iload_n 2), (43, .imul), (44, .iload 5), (46, .idiv), (47, .invokestatic 205), (50, .goto 4), (53, .iconst 1), (54, .istore 6), (56, .iload 6), (58, .ifCond .le 38), (61, .aload_n 0), (62, .getfield 106), (65, .iload 6), (67, .iload_n 3), (68, .imul), (69, .isub), (70, .bipush (-60)), (72, .if_icmp .lt 18), (75, .aload_n 1), (76, .getfield 106), (79, .iload 6), (81, .iload 4), (83, .imul), (84, .iadd), (85, .bipush 60), (87, .if_icmp .le 9), (90, .iinc 6 (-1)), (93, .goto (-37)), (96, .iload 6), (98, .ireturn)]
set_option maxRecDepth 100000 in
theorem id38 : scan (mCd 38).data.toList 0 il38 = true := by decide +kernel
theorem mm38 : mKd 38 = 0 ∧ mAr 38 = 2 ∧ mMx 38 = 7 := by decide +kernel
theorem mo38 : mOw 38 = 4 := by decide +kernel
theorem mr38 : mRt 38 = some .int := by decide +kernel
theorem mh38 : mHn 38 = [] := by decide +kernel
def il39 : List (Nat × Instr) := [(0, .iconst 0), (1, .istore_n 1), (2, .iconst 0), (3, .istore_n 2), (4, .iload_n 2), (5, .aload_n 0), (6, .getfield 61), (9, .if_icmp .ge 24), (12, .aload_n 0), (13, .getfield 11), (16, .iload_n 2), (17, .aaload), (18, .getfield 106), (21, .ifCond .eq 6), (24, .iinc 1 1), (27, .iinc 2 1), (30, .goto (-26)), (33, .iload_n 1), (34, .ireturn)]
set_option maxRecDepth 100000 in
theorem id39 : scan (mCd 39).data.toList 0 il39 = true := by decide +kernel
theorem mm39 : mKd 39 = 1 ∧ mAr 39 = 0 ∧ mMx 39 = 3 := by decide +kernel
theorem mo39 : mOw 39 = 4 := by decide +kernel
theorem mr39 : mRt 39 = some .int := by decide +kernel
theorem mh39 : mHn 39 = [] := by decide +kernel
def il40 : List (Nat × Instr) := [(0, .iconst 0), (1, .istore_n 1), (2, .iconst 0), (3, .istore_n 2), (4, .iload_n 2), (5, .aload_n 0), (6, .getfield 61), (9, .if_icmp .ge 21), (12, .iload_n 1), (13, .aload_n 0), (14, .getfield 11), (17, .iload_n 2), (18, .aaload), (19, .getfield 109), (22, .iadd), (23, .istore_n 1), (24, .iinc 2 1), (27, .goto (-23)), (30, .iload_n 1), (31, .ireturn)]
set_option maxRecDepth 100000 in
theorem id40 : scan (mCd 40).data.toList 0 il40 = true := by decide +kernel
theorem mm40 : mKd 40 = 1 ∧ mAr 40 = 0 ∧ mMx 40 = 3 := by decide +kernel
theorem mo40 : mOw 40 = 4 := by decide +kernel
theorem mr40 : mRt 40 = some .int := by decide +kernel
theorem mh40 : mHn 40 = [] := by decide +kernel
def il41 : List (Nat × Instr) := [(0, .iconst 0), (1, .istore_n 1), (2, .iconst 0), (3, .istore_n 2), (4, .iload_n 2), (5, .aload_n 0), (6, .getfield 61), (9, .if_icmp .ge 21), (12, .iload_n 1), (13, .aload_n 0), (14, .getfield 11), (17, .iload_n 2), (18, .aaload), (19, .invokevirtual 112), (22, .iadd), (23, .istore_n 1), (24, .iinc 2 1), (27, .goto (-23)), (30, .iload_n 1), (31, .ireturn)]
set_option maxRecDepth 100000 in
theorem id41 : scan (mCd 41).data.toList 0 il41 = true := by decide +kernel
theorem mm41 : mKd 41 = 1 ∧ mAr 41 = 0 ∧ mMx 41 = 3 := by decide +kernel
theorem mo41 : mOw 41 = 4 := by decide +kernel
theorem mr41 : mRt 41 = some .int := by decide +kernel
theorem mh41 : mHn 41 = [] := by decide +kernel
def il42 : List (Nat × Instr) := [(0, .aload_n 0), (1, .getfield 45), (4, .dup), (5, .getfield 119), (8, .aload_n 0), (9, .invokevirtual 123), (12, .iload_n 1), (13, .isub), (14, .i2l), (15, .ladd), (16, .putfield 119), (19, .return_)]
set_option maxRecDepth 100000 in
theorem id42 : scan (mCd 42).data.toList 0 il42 = true := by decide +kernel
theorem mm42 : mKd 42 = 1 ∧ mAr 42 = 1 ∧ mMx 42 = 2 := by decide +kernel
theorem mo42 : mOw 42 = 4 := by decide +kernel
theorem mr42 : mRt 42 = none := by decide +kernel
theorem mh42 : mHn 42 = [] := by decide +kernel
def il43 : List (Nat × Instr) := [(0, .iconst 0), (1, .istore_n 3), (2, .iload_n 3), (3, .aload_n 0), (4, .getfield 54), (7, .if_icmp .ge 23), (10, .aload_n 0), (11, .iload_n 1), (12, .iload_n 2), (13, .iload_n 3), (14, .iconst 1), (15, .iadd), (16, .imul), (17, .iadd), (18, .invokevirtual 102), (21, .ifCond .ne 9), (24, .iinc 3 1), (27, .goto (-25)), (30, .iload_n 3), (31, .ireturn)]
set_option maxRecDepth 100000 in
theorem id43 : scan (mCd 43).data.toList 0 il43 = true := by decide +kernel
theorem mm43 : mKd 43 = 1 ∧ mAr 43 = 2 ∧ mMx 43 = 4 := by decide +kernel
theorem mo43 : mOw 43 = 4 := by decide +kernel
theorem mr43 : mRt 43 = some .int := by decide +kernel
theorem mh43 : mHn 43 = [] := by decide +kernel
def il44 : List (Nat × Instr) := [(0, .iconst 0), (1, .istore_n 1), (2, .iconst 0), (3, .istore_n 2), (4, .iload_n 2), (5, .aload_n 0), (6, .getfield 61), (9, .if_icmp .ge 21), (12, .iload_n 1), (13, .aload_n 0), (14, .getfield 11), (17, .iload_n 2), (18, .aaload), (19, .invokevirtual 116), (22, .iadd), (23, .istore_n 1), (24, .iinc 2 1), (27, .goto (-23)), (30, .iload_n 1), (31, .ireturn)]
set_option maxRecDepth 100000 in
theorem id44 : scan (mCd 44).data.toList 0 il44 = true := by decide +kernel
theorem mm44 : mKd 44 = 1 ∧ mAr 44 = 0 ∧ mMx 44 = 3 := by decide +kernel
theorem mo44 : mOw 44 = 4 := by decide +kernel
theorem mr44 : mRt 44 = some .int := by decide +kernel
theorem mh44 : mHn 44 = [] := by decide +kernel
def il45 : List (Nat × Instr) := [(0, .iload_n 1), (1, .istore_n 2), (2, .iload_n 2), (3, .iconst 1), (4, .iadd), (5, .aload_n 0), (6, .getfield 61), (9, .if_icmp .ge 26), (12, .aload_n 0), (13, .getfield 11), (16, .iload_n 2), (17, .aaload), (18, .aload_n 0), (19, .getfield 11), (22, .iload_n 2), (23, .iconst 1), (24, .iadd), (25, .aaload), (26, .invokevirtual 74), (29, .iinc 2 1), (32, .goto (-30)), (35, .aload_n 0), (36, .dup), (37, .getfield 61), (40, .iconst 1), (41, .isub), (42, .putfield 61), (45, .aload_n 0), (46, .invokevirtual 127), (49, .aload_n 0), (50, .getfield 38), (53, .iload_n 1), (54, .invokevirtual 130), (57, .aload_n 0), (58, .getfield 45), (61, .iload_n 1), (62, .invokevirtual 134), (65, .return_)]
set_option maxRecDepth 100000 in
theorem id45 : scan (mCd 45).data.toList 0 il45 = true := by decide +kernel
theorem mm45 : mKd 45 = 1 ∧ mAr 45 = 1 ∧ mMx 45 = 3 := by decide +kernel
theorem mo45 : mOw 45 = 4 := by decide +kernel
theorem mr45 : mRt 45 = none := by decide +kernel
theorem mh45 : mHn 45 = [] := by decide +kernel
def il46 : List (Nat × Instr) := [(0, .aload_n 0), (1, .invokespecial 3), (4, .aload_n 0), (5, .bipush 40), (7, .newarray .int), (9, .putfield 9), (12, .aload_n 0), (13, .bipush 40), (15, .newarray .int), (17, .putfield 15), (20, .aload_n 0), (21, .bipush 40), (23, .newarray .int), (25, .putfield 18), (28, .aload_n 0), (29, .bipush 40), (31, .newarray .int), (33, .putfield 21), (36, .return_)]
set_option maxRecDepth 100000 in
theorem id46 : scan (mCd 46).data.toList 0 il46 = true := by decide +kernel
theorem mm46 : mKd 46 = 2 ∧ mAr 46 = 0 ∧ mMx 46 = 1 := by decide +kernel
theorem mo46 : mOw 46 = 5 := by decide +kernel
theorem mr46 : mRt 46 = none := by decide +kernel
theorem mh46 : mHn 46 = [] := by decide +kernel
def il47 : List (Nat × Instr) := [(0, .aload_n 0), (1, .iconst 0), (2, .putfield 24), (5, .aload_n 0), (6, .iconst 0), (7, .putfield 28), (10, .return_)]
set_option maxRecDepth 100000 in
theorem id47 : scan (mCd 47).data.toList 0 il47 = true := by decide +kernel
theorem mm47 : mKd 47 = 1 ∧ mAr 47 = 0 ∧ mMx 47 = 1 := by decide +kernel
theorem mo47 : mOw 47 = 5 := by decide +kernel
theorem mr47 : mRt 47 = none := by decide +kernel
theorem mh47 : mHn 47 = [] := by decide +kernel
def il48 : List (Nat × Instr) := [(0, .aload_n 1), (1, .getfield 9), (4, .iconst 0), (5, .aload_n 0), (6, .getfield 9), (9, .iconst 0), (10, .bipush 40), (12, .invokestatic 31), (15, .aload_n 1), (16, .getfield 15), (19, .iconst 0), (20, .aload_n 0), (21, .getfield 15), (24, .iconst 0), (25, .bipush 40), (27, .invokestatic 31), (30, .aload_n 1), (31, .getfield 18), (34, .iconst 0), (35, .aload_n 0), (36, .getfield 18), (39, .iconst 0), (40, .bipush 40), (42, .invokestatic 31), (45, .aload_n 1), (46, .getfield 21), (49, .iconst 0), (50, .aload_n 0), (51, .getfield 21), (54, .iconst 0), (55, .bipush 40), (57, .invokestatic 31), (60, .aload_n 0), (61, .aload_n 1), (62, .getfield 24), (65, .putfield 24), (68, .aload_n 0), (69, .aload_n 1), (70, .getfield 28), (73, .putfield 28), (76, .return_)]
set_option maxRecDepth 100000 in
theorem id48 : scan (mCd 48).data.toList 0 il48 = true := by decide +kernel
theorem mm48 : mKd 48 = 1 ∧ mAr 48 = 1 ∧ mMx 48 = 2 := by decide +kernel
theorem mo48 : mOw 48 = 5 := by decide +kernel
theorem mr48 : mRt 48 = none := by decide +kernel
theorem mh48 : mHn 48 = [] := by decide +kernel
def il49 : List (Nat × Instr) := [(0, .aload_n 0), (1, .getfield 9), (4, .aload_n 0), (5, .getfield 24), (8, .iload_n 1), (9, .iastore), (10, .aload_n 0), (11, .getfield 15), (14, .aload_n 0), (15, .getfield 24), (18, .iload_n 2), (19, .iastore), (20, .aload_n 0), (21, .getfield 18), (24, .aload_n 0), (25, .getfield 24), (28, .iload_n 3), (29, .iastore), (30, .aload_n 0), (31, .getfield 21), (34, .aload_n 0), (35, .getfield 24), (38, .iload 4), (40, .iastore), (41, .aload_n 0), (42, .aload_n 0), (43, .getfield 24), (46, .iconst 1), (47, .iadd), (48, .bipush 40), (50, .irem), (51, .putfield 24), (54, .aload_n 0), (55, .aload_n 0), (56, .getfield 28), (59, .iconst 1), (60, .iadd), (61, .bipush 40), (63, .invokestatic 37), (66, .putfield 28), (69, .return_)]
set_option maxRecDepth 100000 in
theorem id49 : scan (mCd 49).data.toList 0 il49 = true := by decide +kernel
theorem mm49 : mKd 49 = 1 ∧ mAr 49 = 4 ∧ mMx 49 = 5 := by decide +kernel
theorem mo49 : mOw 49 = 5 := by decide +kernel
theorem mr49 : mRt 49 = none := by decide +kernel
theorem mh49 : mHn 49 = [] := by decide +kernel
def il50 : List (Nat × Instr) := [(0, .aload_n 0), (1, .getfield 28), (4, .iconst 1), (5, .isub), (6, .istore_n 2), (7, .iload_n 2), (8, .ifCond .lt 28), (11, .aload_n 0), (12, .iload_n 2), (13, .invokevirtual 50), (16, .iload_n 1), (17, .if_icmp .ne 13), (20, .aload_n 0), (21, .iload_n 2), (22, .invokevirtual 53), (25, .ifCond .lt 5), (28, .iload_n 2), (29, .ireturn), (30, .iinc 2 (-1)), (33, .goto (-26)), (36, .iconst (-1)), (37, .ireturn)]
set_option maxRecDepth 100000 in
theorem id50 : scan (mCd 50).data.toList 0 il50 = true := by decide +kernel
theorem mm50 : mKd 50 = 1 ∧ mAr 50 = 1 ∧ mMx 50 = 3 := by decide +kernel
theorem mo50 : mOw 50 = 5 := by decide +kernel
theorem mr50 : mRt 50 = some .int := by decide +kernel
theorem mh50 : mHn 50 = [] := by decide +kernel
def il51 : List (Nat × Instr) := [(0, .aload_n 0), (1, .getfield 9), (4, .aload_n 0), (5, .iload_n 1), (6, .invokevirtual 46), (9, .iaload), (10, .ireturn)]
set_option maxRecDepth 100000 in
theorem id51 : scan (mCd 51).data.toList 0 il51 = true := by decide +kernel
theorem mm51 : mKd 51 = 1 ∧ mAr 51 = 1 ∧ mMx 51 = 2 := by decide +kernel
theorem mo51 : mOw 51 = 5 := by decide +kernel
theorem mr51 : mRt 51 = some .int := by decide +kernel
theorem mh51 : mHn 51 = [] := by decide +kernel
def il52 : List (Nat × Instr) := [(0, .aload_n 0), (1, .getfield 24), (4, .iconst 1), (5, .isub), (6, .iload_n 1), (7, .isub), (8, .bipush 40), (10, .invokestatic 43), (13, .ireturn)]
set_option maxRecDepth 100000 in
theorem id52 : scan (mCd 52).data.toList 0 il52 = true := by decide +kernel
theorem mm52 : mKd 52 = 1 ∧ mAr 52 = 1 ∧ mMx 52 = 2 := by decide +kernel
theorem mo52 : mOw 52 = 5 := by decide +kernel
theorem mr52 : mRt 52 = some .int := by decide +kernel
theorem mh52 : mHn 52 = [] := by decide +kernel
def il53 : List (Nat × Instr) := [(0, .aload_n 0), (1, .getfield 18), (4, .aload_n 0), (5, .iload_n 1), (6, .invokevirtual 46), (9, .iaload), (10, .ireturn)]
set_option maxRecDepth 100000 in
theorem id53 : scan (mCd 53).data.toList 0 il53 = true := by decide +kernel
theorem mm53 : mKd 53 = 1 ∧ mAr 53 = 1 ∧ mMx 53 = 2 := by decide +kernel
theorem mo53 : mOw 53 = 5 := by decide +kernel
theorem mr53 : mRt 53 = some .int := by decide +kernel
theorem mh53 : mHn 53 = [] := by decide +kernel
def il54 : List (Nat × Instr) := [(0, .aload_n 0), (1, .getfield 15), (4, .aload_n 0), (5, .iload_n 1), (6, .invokevirtual 46), (9, .iaload), (10, .ireturn)]
set_option maxRecDepth 100000 in
theorem id54 : scan (mCd 54).data.toList 0 il54 = true := by decide +kernel
theorem mm54 : mKd 54 = 1 ∧ mAr 54 = 1 ∧ mMx 54 = 2 := by decide +kernel
theorem mo54 : mOw 54 = 5 := by decide +kernel
theorem mr54 : mRt 54 = some .int := by decide +kernel
theorem mh54 : mHn 54 = [] := by decide +kernel
def il55 : List (Nat × Instr) := [(0, .aload_n 0), (1, .getfield 21), (4, .aload_n 0), (5, .iload_n 1), (6, .invokevirtual 46), (9, .iaload), (10, .ireturn)]
set_option maxRecDepth 100000 in
theorem id55 : scan (mCd 55).data.toList 0 il55 = true := by decide +kernel
theorem mm55 : mKd 55 = 1 ∧ mAr 55 = 1 ∧ mMx 55 = 2 := by decide +kernel
theorem mo55 : mOw 55 = 5 := by decide +kernel
theorem mr55 : mRt 55 = some .int := by decide +kernel
theorem mh55 : mHn 55 = [] := by decide +kernel
def il56 : List (Nat × Instr) := [(0, .iconst 0), (1, .istore_n 2), (2, .iload_n 2), (3, .bipush 40), (5, .if_icmp .ge 41), (8, .aload_n 0), (9, .getfield 15), (12, .iload_n 2), (13, .aload_n 0), (14, .getfield 15), (17, .iload_n 2), (18, .iaload), (19, .iload_n 1), (20, .invokestatic 56), (23, .iastore), (24, .aload_n 0), (25, .getfield 18), (28, .iload_n 2), (29, .aload_n 0), (30, .getfield 18), (33, .iload_n 2), (34, .iaload), (35, .iload_n 1), (36, .invokestatic 56), (39, .iastore), (40, .iinc 2 1), (43, .goto (-41)), (46, .return_)]
set_option maxRecDepth 100000 in
theorem id56 : scan (mCd 56).data.toList 0 il56 = true := by decide +kernel
theorem mm56 : mKd 56 = 1 ∧ mAr 56 = 1 ∧ mMx 56 = 3 := by decide +kernel
theorem mo56 : mOw 56 = 5 := by decide +kernel
theorem mr56 : mRt 56 = none := by decide +kernel
theorem mh56 : mHn 56 = [] := by decide +kernel
def il57 : List (Nat × Instr) := [(0, .iload_n 0), (1, .iload_n 1), (2, .if_icmp .ne 6), (5, .bipush (-2)), (7, .ireturn), (8, .iload_n 0), (9, .iload_n 1), (10, .if_icmp .le 9), (13, .iload_n 0), (14, .iconst 1), (15, .isub), (16, .goto 4), (19, .iload_n 0), (20, .ireturn)]
set_option maxRecDepth 100000 in
theorem id57 : scan (mCd 57).data.toList 0 il57 = true := by decide +kernel
theorem mm57 : mKd 57 = 0 ∧ mAr 57 = 2 ∧ mMx 57 = 2 := by decide +kernel
theorem mo57 : mOw 57 = 5 := by decide +kernel
theorem mr57 : mRt 57 = some .int := by decide +kernel
theorem mh57 : mHn 57 = [] := by decide +kernel
def il58 : List (Nat × Instr) := [(0, .aload_n 0), (1, .invokespecial 3), (4, .aload_n 0), (5, .sipush 256), (8, .newarray .byte), (10, .putfield 9), (13, .return_)]
set_option maxRecDepth 100000 in
theorem id58 : scan (mCd 58).data.toList 0 il58 = true := by decide +kernel
theorem mm58 : mKd 58 = 2 ∧ mAr 58 = 0 ∧ mMx 58 = 1 := by decide +kernel
theorem mo58 : mOw 58 = 6 := by decide +kernel
theorem mr58 : mRt 58 = none := by decide +kernel
theorem mh58 : mHn 58 = [] := by decide +kernel
def il59 : List (Nat × Instr) := [(0, .iload_n 1), (1, .ifCond .ge 9), (4, .aload_n 0), (5, .bipush 45), (7, .invokevirtual 19), (10, .iload_n 1), (11, .ifCond .ge 8), (14, .iload_n 1), (15, .ineg), (16, .goto 4), (19, .iload_n 1), (20, .istore_n 2), (21, .iload_n 2), (22, .bipush 100), (24, .if_icmp .lt 17), (27, .aload_n 0), (28, .bipush 48), (30, .iload_n 2), (31, .bipush 100), (33, .idiv), (34, .bipush 10), (36, .irem), (37, .iadd), (38, .invokevirtual 19), (41, .iload_n 2), (42, .bipush 10), (44, .if_icmp .lt 17), (47, .aload_n 0), (48, .bipush 48), (50, .iload_n 2), (51, .bipush 10), (53, .idiv), (54, .bipush 10), (56, .irem), (57, .iadd), (58, .invokevirtual 19), (61, .aload_n 0), (62, .bipush 48), (64, .iload_n 2), (65, .bipush 10), (67, .irem), (68, .iadd), (69, .invokevirtual 19), (72, .return_)]
set_option maxRecDepth 100000 in
theorem id59 : scan (mCd 59).data.toList 0 il59 = true := by decide +kernel
theorem mm59 : mKd 59 = 1 ∧ mAr 59 = 1 ∧ mMx 59 = 3 := by decide +kernel
theorem mo59 : mOw 59 = 6 := by decide +kernel
theorem mr59 : mRt 59 = none := by decide +kernel
theorem mh59 : mHn 59 = [] := by decide +kernel
def il60 : List (Nat × Instr) := [(0, .aload_n 0), (1, .getfield 15), (4, .aload_n 0), (5, .getfield 9), (8, .arraylength), (9, .if_icmp .ge 24), (12, .aload_n 0), (13, .getfield 9), (16, .aload_n 0), (17, .getfield 15), (20, .iload_n 1), (21, .i2b), (22, .bastore), (23, .aload_n 0), (24, .dup), (25, .getfield 15), (28, .iconst 1), (29, .iadd), (30, .putfield 15), (33, .return_)]
set_option maxRecDepth 100000 in
theorem id60 : scan (mCd 60).data.toList 0 il60 = true := by decide +kernel
theorem mm60 : mKd 60 = 1 ∧ mAr 60 = 1 ∧ mMx 60 = 2 := by decide +kernel
theorem mo60 : mOw 60 = 6 := by decide +kernel
theorem mr60 : mRt 60 = none := by decide +kernel
theorem mh60 : mHn 60 = [] := by decide +kernel
def il61 : List (Nat × Instr) := [(0, .aload_n 0), (1, .getfield 15), (4, .ifCond .le 9), (7, .aload_n 0), (8, .bipush 32), (10, .invokevirtual 19), (13, .return_)]
set_option maxRecDepth 100000 in
theorem id61 : scan (mCd 61).data.toList 0 il61 = true := by decide +kernel
theorem mm61 : mKd 61 = 1 ∧ mAr 61 = 0 ∧ mMx 61 = 1 := by decide +kernel
theorem mo61 : mOw 61 = 6 := by decide +kernel
theorem mr61 : mRt 61 = none := by decide +kernel
theorem mh61 : mHn 61 = [] := by decide +kernel
def il62 : List (Nat × Instr) := [(0, .aload_n 0), (1, .invokespecial 3), (4, .aload_n 0), (5, .aload_n 1), (6, .putfield 9), (9, .aload_n 0), (10, .aload_n 2), (11, .putfield 15), (14, .return_)]
set_option maxRecDepth 100000 in
theorem id62 : scan (mCd 62).data.toList 0 il62 = true := by decide +kernel
theorem mm62 : mKd 62 = 2 ∧ mAr 62 = 2 ∧ mMx 62 = 3 := by decide +kernel
theorem mo62 : mOw 62 = 7 := by decide +kernel
theorem mr62 : mRt 62 = none := by decide +kernel
theorem mh62 : mHn 62 = [] := by decide +kernel
def il63 : List (Nat × Instr) := [(0, .aload_n 0), (1, .iload_n 1), (2, .aload_n 0), (3, .getfield 9), (6, .arraylength), (7, .invokestatic 19), (10, .putfield 25), (13, .aload_n 0), (14, .iconst 0), (15, .putfield 29), (18, .aload_n 0), (19, .iconst 0), (20, .putfield 32), (23, .aload_n 0), (24, .invokevirtual 35), (27, .aload_n 0), (28, .invokevirtual 38), (31, .iconst 0), (32, .istore_n 2), (33, .iload_n 2), (34, .aload_n 0), (35, .getfield 25), (38, .if_icmp .ge 60), (41, .aload_n 0), (42, .getfield 29), (45, .ifCond .ne 53), (48, .aload_n 0), (49, .getfield 41), (52, .ifCond .eq 46), (55, .aload_n 0), (56, .ldc 44), (58, .invokevirtual 46), (61, .ifCond .eq 10), (64, .aload_n 0), (65, .invokevirtual 50), (68, .goto 24), (71, .aload_n 0), (72, .ldc 53), (74, .invokevirtual 46), (77, .ifCond .eq 10), (80, .aload_n 0), (81, .invokevirtual 55), (84, .goto 8), (87, .aload_n 0), (88, .iconst 1), (89, .invokevirtual 58), (92, .iinc 2 1), (95, .goto (-62)), (98, .aload_n 0), (99, .getfield 29), (102, .ireturn)]
set_option maxRecDepth 100000 in
theorem id63 : scan (mCd 63).data.toList 0 il63 = true := by decide +kernel
theorem mm63 : mKd 63 = 1 ∧ mAr 63 = 1 ∧ mMx 63 = 3 := by decide +kernel
theorem mo63 : mOw 63 = 7 := by decide +kernel
theorem mr63 : mRt 63 = some .int := by decide +kernel
theorem mh63 : mHn 63 = [] := by decide +kernel
def il64 : List (Nat × Instr) := [(0, .aload_n 0), (1, .getfield 29), (4, .ifCond .eq 4), (7, .return_), (8, .aload_n 0), (9, .aload_n 0), (10, .getfield 32), (13, .putfield 62), (16, .aload_n 0), (17, .getfield 62), (20, .aload_n 0), (21, .getfield 25), (24, .if_icmp .ge 28), (27, .aload_n 0), (28, .aload_n 0), (29, .getfield 62), (32, .invokevirtual 150), (35, .iconst 4), (36, .if_icmp .ne 16), (39, .aload_n 0), (40, .dup), (41, .getfield 62), (44, .iconst 1), (45, .iadd), (46, .putfield 62), (49, .goto (-33)), (52, .aload_n 0), (53, .aload_n 0), (54, .aload_n 0), (55, .getfield 62), (58, .invokevirtual 150), (61, .putfield 41), (64, .aload_n 0), (65, .aload_n 0), (66, .getfield 62), (69, .iconst 1), (70, .iadd), (71, .aload_n 0), (72, .getfield 25), (75, .invokestatic 19), (78, .putfield 32), (81, .aload_n 0), (82, .getfield 32), (85, .aload_n 0), (86, .getfield 25), (89, .if_icmp .ge 39), (92, .aload_n 0), (93, .getfield 41), (96, .iconst 3), (97, .if_icmp .eq 31), (100, .aload_n 0), (101, .aload_n 0), (102, .getfield 32), (105, .invokevirtual 150), (108, .aload_n 0), (109, .getfield 41), (112, .if_icmp .ne 16), (115, .aload_n 0), (116, .dup), (117, .getfield 32), (120, .iconst 1), (121, .iadd), (122, .putfield 32), (125, .goto (-44)), (128, .return_)]
set_option maxRecDepth 100000 in
theorem id64 : scan (mCd 64).data.toList 0 il64 = true := by decide +kernel
theorem mm64 : mKd 64 = 1 ∧ mAr 64 = 0 ∧ mMx 64 = 1 := by decide +kernel
theorem mo64 : mOw 64 = 7 := by decide +kernel
theorem mr64 : mRt 64 = none := by decide +kernel
theorem mh64 : mHn 64 = [] := by decide +kernel
def il65 : List (Nat × Instr) := [(0, .iload_n 1), (1, .ifCond .lt 11), (4, .iload_n 1), (5, .aload_n 0), (6, .getfield 25), (9, .if_icmp .lt 5), (12, .iconst 0), (13, .ireturn), (14, .aload_n 0), (15, .getfield 9), (18, .iload_n 1), (19, .baload), (20, .istore_n 2), (21, .iload_n 2), (22, .bipush 32), (24, .if_icmp .eq 9), (27, .iload_n 2), (28, .bipush 10), (30, .if_icmp .ne 5), (33, .iconst 4), (34, .ireturn), (35, .iload_n 2), (36, .bipush 97), (38, .if_icmp .lt 11), (41, .iload_n 2), (42, .bipush 122), (44, .if_icmp .gt 5), (47, .iconst 1), (48, .ireturn), (49, .iload_n 2), (50, .bipush 48), (52, .if_icmp .lt 13), (55, .iload_n 2), (56, .bipush 57), (58, .if_icmp .gt 7), (61, .iconst 2), (62, .goto 4), (65, .iconst 3), (66, .ireturn)]
set_option maxRecDepth 100000 in
theorem id65 : scan (mCd 65).data.toList 0 il65 = true := by decide +kernel
theorem mm65 : mKd 65 = 1 ∧ mAr 65 = 1 ∧ mMx 65 = 3 := by decide +kernel
theorem mo65 : mOw 65 = 7 := by decide +kernel
theorem mr65 : mRt 65 = some .int := by decide +kernel
theorem mh65 : mHn 65 = [] := by decide +kernel
def il66 : List (Nat × Instr) := [(0, .aload_n 0), (1, .ldc 65), (3, .invokevirtual 67), (6, .aload_n 0), (7, .bipush 10), (9, .sipush 200), (12, .invokevirtual 71), (15, .istore_n 1), (16, .iconst 0), (17, .istore_n 2), (18, .iconst 0), (19, .istore_n 3), (20, .aload_n 0), (21, .ldc 74), (23, .invokevirtual 46), (26, .ifCond .eq 25), (29, .aload_n 0), (30, .ldc 74), (32, .invokevirtual 67), (35, .aload_n 0), (36, .iconst 0), (37, .bipush 100), (39, .invokevirtual 71), (42, .istore_n 2), (43, .aload_n 0), (44, .iconst 0), (45, .bipush 100), (47, .invokevirtual 71), (50, .istore_n 3), (51, .aload_n 0), (52, .invokevirtual 76), (55, .aload_n 0), (56, .getfield 29), (59, .ifCond .ne 13), (62, .aload_n 0), (63, .getfield 15), (66, .iload_n 1), (67, .iload_n 2), (68, .iload_n 3), (69, .invokevirtual 79), (72, .return_)]
set_option maxRecDepth 100000 in
theorem id66 : scan (mCd 66).data.toList 0 il66 = true := by decide +kernel
theorem mm66 : mKd 66 = 1 ∧ mAr 66 = 0 ∧ mMx 66 = 4 := by decide +kernel
theorem mo66 : mOw 66 = 7 := by decide +kernel
theorem mr66 : mRt 66 = none := by decide +kernel
theorem mh66 : mHn 66 = [] := by decide +kernel
def il67 : List (Nat × Instr) := [(0, .aload_n 0), (1, .aload_n 1), (2, .invokevirtual 46), (5, .ifCond .ne 8), (8, .aload_n 0), (9, .iconst 1), (10, .invokevirtual 58), (13, .aload_n 0), (14, .invokevirtual 35), (17, .return_)]
set_option maxRecDepth 100000 in
theorem id67 : scan (mCd 67).data.toList 0 il67 = true := by decide +kernel
theorem mm67 : mKd 67 = 1 ∧ mAr 67 = 1 ∧ mMx 67 = 2 := by decide +kernel
theorem mo67 : mOw 67 = 7 := by decide +kernel
theorem mr67 : mRt 67 = none := by decide +kernel
theorem mh67 : mHn 67 = [] := by decide +kernel
def il68 : List (Nat × Instr) := [(0, .aload_n 0), (1, .getfield 41), (4, .iconst 1), (5, .if_icmp .ne 19), (8, .aload_n 0), (9, .getfield 32), (12, .aload_n 0), (13, .getfield 62), (16, .isub), (17, .aload_n 1), (18, .invokevirtual 142), (21, .if_icmp .eq 5), (24, .iconst 0), (25, .ireturn), (26, .aload_n 0), (27, .getfield 62), (30, .istore_n 2), (31, .iload_n 2), (32, .aload_n 0), (33, .getfield 32), (36, .if_icmp .ge 30), (39, .aload_n 0), (40, .getfield 9), (43, .iload_n 2), (44, .baload), (45, .aload_n 1), (46, .iload_n 2), (47, .aload_n 0), (48, .getfield 62), (51, .isub), (52, .invokevirtual 146), (55, .if_icmp .eq 5), (58, .iconst 0), (59, .ireturn), (60, .iinc 2 1), (63, .goto (-32)), (66, .iconst 1), (67, .ireturn)]
set_option maxRecDepth 100000 in
theorem id68 : scan (mCd 68).data.toList 0 il68 = true := by decide +kernel
theorem mm68 : mKd 68 = 1 ∧ mAr 68 = 1 ∧ mMx 68 = 3 := by decide +kernel
theorem mo68 : mOw 68 = 7 := by decide +kernel
theorem mr68 : mRt 68 = some .boolean := by decide +kernel
theorem mh68 : mHn 68 = [] := by decide +kernel
def il69 : List (Nat × Instr) := [(0, .aload_n 0), (1, .getfield 29), (4, .ifCond .ne 8), (7, .aload_n 0), (8, .iload_n 1), (9, .putfield 29), (12, .return_)]
set_option maxRecDepth 100000 in
theorem id69 : scan (mCd 69).data.toList 0 il69 = true := by decide +kernel
theorem mm69 : mKd 69 = 1 ∧ mAr 69 = 1 ∧ mMx 69 = 2 := by decide +kernel
theorem mo69 : mOw 69 = 7 := by decide +kernel
theorem mr69 : mRt 69 = none := by decide +kernel
theorem mh69 : mHn 69 = [] := by decide +kernel
def il70 : List (Nat × Instr) := [(0, .aload_n 0), (1, .iload_n 1), (2, .iload_n 2), (3, .invokevirtual 119), (6, .istore_n 3), (7, .aload_n 0), (8, .invokevirtual 35), (11, .iload_n 3), (12, .ireturn)]
set_option maxRecDepth 100000 in
theorem id70 : scan (mCd 70).data.toList 0 il70 = true := by decide +kernel
theorem mm70 : mKd 70 = 1 ∧ mAr 70 = 2 ∧ mMx 70 = 4 := by decide +kernel
theorem mo70 : mOw 70 = 7 := by decide +kernel
theorem mr70 : mRt 70 = some .int := by decide +kernel
theorem mh70 : mHn 70 = [] := by decide +kernel
def il71 : List (Nat × Instr) := [(0, .aload_n 0), (1, .getfield 41), (4, .iconst 2), (5, .if_icmp .eq 10), (8, .aload_n 0), (9, .iconst 1), (10, .invokevirtual 58), (13, .iload_n 1), (14, .ireturn), (15, .iconst 0), (16, .istore_n 3), (17, .aload_n 0), (18, .getfield 62), (21, .istore 4), (23, .iload 4), (25, .aload_n 0), (26, .getfield 32), (29, .if_icmp .ge 31), (32, .iload_n 3), (33, .ldc 141), (35, .if_icmp .ge 25), (38, .iload_n 3), (39, .bipush 10), (41, .imul), (42, .aload_n 0), (43, .getfield 9), (46, .iload 4), (48, .baload), (49, .iadd), (50, .bipush 48), (52, .isub), (53, .istore_n 3), (54, .iinc 4 1), (57, .goto (-34)), (60, .iload_n 3), (61, .iload_n 1), (62, .if_icmp .lt 8), (65, .iload_n 3), (66, .iload_n 2), (67, .if_icmp .le 8), (70, .aload_n 0), (71, .iconst 2), (72, .invokevirtual 58), (75, .iload_n 3), (76, .ireturn)]
set_option maxRecDepth 100000 in
theorem id71 : scan (mCd 71).data.toList 0 il71 = true := by decide +kernel
theorem mm71 : mKd 71 = 1 ∧ mAr 71 = 2 ∧ mMx 71 = 5 := by decide +kernel
theorem mo71 : mOw 71 = 7 := by decide +kernel
theorem mr71 : mRt 71 = some .int := by decide +kernel
theorem mh71 : mHn 71 = [] := by decide +kernel
def il72 : List (Nat × Instr) := [(0, .aload_n 0), (1, .bipush 59), (3, .invokevirtual 115), (6, .ifCond .ne 8), (9, .aload_n 0), (10, .iconst 1), (11, .invokevirtual 58), (14, .aload_n 0), (15, .invokevirtual 35), (18, .return_)]
set_option maxRecDepth 100000 in
theorem id72 : scan (mCd 72).data.toList 0 il72 = true := by decide +kernel
theorem mm72 : mKd 72 = 1 ∧ mAr 72 = 0 ∧ mMx 72 = 1 := by decide +kernel
theorem mo72 : mOw 72 = 7 := by decide +kernel
theorem mr72 : mRt 72 = none := by decide +kernel
theorem mh72 : mHn 72 = [] := by decide +kernel
def il73 : List (Nat × Instr) := [(0, .aload_n 0), (1, .getfield 41), (4, .iconst 3), (5, .if_icmp .ne 31), (8, .aload_n 0), (9, .getfield 62), (12, .aload_n 0), (13, .getfield 25), (16, .if_icmp .ge 20), (19, .aload_n 0), (20, .getfield 9), (23, .aload_n 0), (24, .getfield 62), (27, .baload), (28, .iload_n 1), (29, .if_icmp .ne 7), (32, .iconst 1), (33, .goto 4), (36, .iconst 0), (37, .ireturn)]
set_option maxRecDepth 100000 in
theorem id73 : scan (mCd 73).data.toList 0 il73 = true := by decide +kernel
theorem mm73 : mKd 73 = 1 ∧ mAr 73 = 1 ∧ mMx 73 = 2 := by decide +kernel
theorem mo73 : mOw 73 = 7 := by decide +kernel
theorem mr73 : mRt 73 = some .boolean := by decide +kernel
theorem mh73 : mHn 73 = [] := by decide +kernel
def il74 : List (Nat × Instr) := [(0, .aload_n 0), (1, .getfield 15), (4, .getfield 85), (7, .iconst 4), (8, .if_icmp .lt 8), (11, .aload_n 0), (12, .iconst 5), (13, .invokevirtual 58), (16, .aload_n 0), (17, .ldc 44), (19, .invokevirtual 67), (22, .aload_n 0), (23, .invokevirtual 88), (26, .istore_n 1), (27, .aload_n 0), (28, .ldc 74), (30, .invokevirtual 67), (33, .aload_n 0), (34, .iconst 0), (35, .bipush 100), (37, .invokevirtual 71), (40, .istore_n 2), (41, .aload_n 0), (42, .invokevirtual 76), (45, .aload_n 0), (46, .getfield 29), (49, .ifCond .ne 12), (52, .aload_n 0), (53, .getfield 15), (56, .iload_n 1), (57, .iload_n 2), (58, .invokevirtual 92), (61, .return_)]
set_option maxRecDepth 100000 in
theorem id74 : scan (mCd 74).data.toList 0 il74 = true := by decide +kernel
theorem mm74 : mKd 74 = 1 ∧ mAr 74 = 0 ∧ mMx 74 = 3 := by decide +kernel
theorem mo74 : mOw 74 = 7 := by decide +kernel
theorem mr74 : mRt 74 = none := by decide +kernel
theorem mh74 : mHn 74 = [] := by decide +kernel
def il75 : List (Nat × Instr) := [(0, .aload_n 0), (1, .iconst 0), (2, .aload_n 0), (3, .getfield 15), (6, .getfield 122), (9, .iconst 1), (10, .isub), (11, .invokevirtual 119), (14, .istore_n 1), (15, .aload_n 0), (16, .getfield 15), (19, .iload_n 1), (20, .invokevirtual 125), (23, .ifCond .eq 8), (26, .aload_n 0), (27, .iconst 4), (28, .invokevirtual 58), (31, .aload_n 0), (32, .invokevirtual 35), (35, .iload_n 1), (36, .ireturn)]
set_option maxRecDepth 100000 in
theorem id75 : scan (mCd 75).data.toList 0 il75 = true := by decide +kernel
theorem mm75 : mKd 75 = 1 ∧ mAr 75 = 0 ∧ mMx 75 = 2 := by decide +kernel
theorem mo75 : mOw 75 = 7 := by decide +kernel
theorem mr75 : mRt 75 = some .int := by decide +kernel
theorem mh75 : mHn 75 = [] := by decide +kernel
def il76 : List (Nat × Instr) := [(0, .aload_n 0), (1, .getfield 15), (4, .getfield 96), (7, .bipush 10), (9, .if_icmp .lt 8), (12, .aload_n 0), (13, .iconst 5), (14, .invokevirtual 58), (17, .aload_n 0), (18, .ldc 53), (20, .invokevirtual 67), (23, .aload_n 0), (24, .invokevirtual 99), (27, .istore_n 1), (28, .aload_n 0), (29, .ldc 102), (31, .invokevirtual 67), (34, .aload_n 0), (35, .invokevirtual 88), (38, .istore_n 2), (39, .aload_n 0), (40, .ldc 104), (42, .invokevirtual 67), (45, .aload_n 0), (46, .invokevirtual 106), (49, .istore_n 3), (50, .aload_n 0), (51, .ldc 109), (53, .invokevirtual 67), (56, .aload_n 0), (57, .iconst 1), (58, .bipush 20), (60, .invokevirtual 71), (63, .istore 4), (65, .aload_n 0), (66, .invokevirtual 76), (69, .aload_n 0), (70, .getfield 29), (73, .ifCond .ne 15), (76, .aload_n 0), (77, .getfield 15), (80, .iload_n 1), (81, .iload_n 2), (82, .iload_n 3), (83, .iload 4), (85, .invokevirtual 111), (88, .return_)]
set_option maxRecDepth 100000 in
theorem id76 : scan (mCd 76).data.toList 0 il76 = true := by decide +kernel
theorem mm76 : mKd 76 = 1 ∧ mAr 76 = 0 ∧ mMx 76 = 5 := by decide +kernel
theorem mo76 : mOw 76 = 7 := by decide +kernel
theorem mr76 : mRt 76 = none := by decide +kernel
theorem mh76 : mHn 76 = [] := by decide +kernel
def il77 : List (Nat × Instr) := [(0, .aload_n 0), (1, .getfield 9), (4, .aload_n 0), (5, .getfield 62), (8, .aload_n 0), (9, .getfield 32), (12, .invokestatic 129), (15, .istore_n 1), (16, .iload_n 1), (17, .ifCond .eq 10), (20, .aload_n 0), (21, .invokevirtual 133), (24, .ifCond .eq 8), (27, .aload_n 0), (28, .iconst 1), (29, .invokevirtual 58), (32, .aload_n 0), (33, .getfield 15), (36, .iload_n 1), (37, .invokevirtual 137), (40, .iconst (-1)), (41, .if_icmp .eq 8), (44, .aload_n 0), (45, .iconst 3), (46, .invokevirtual 58), (49, .aload_n 0), (50, .invokevirtual 35), (53, .iload_n 1), (54, .ireturn)]
set_option maxRecDepth 100000 in
theorem id77 : scan (mCd 77).data.toList 0 il77 = true := by decide +kernel
theorem mm77 : mKd 77 = 1 ∧ mAr 77 = 0 ∧ mMx 77 = 2 := by decide +kernel
theorem mo77 : mOw 77 = 7 := by decide +kernel
theorem mr77 : mRt 77 = some .int := by decide +kernel
theorem mh77 : mHn 77 = [] := by decide +kernel
def il78 : List (Nat × Instr) := [(0, .iload_n 1), (1, .ifCond .lt 17), (4, .iload_n 2), (5, .aload_n 0), (6, .arraylength), (7, .if_icmp .gt 11), (10, .iload_n 2), (11, .iload_n 1), (12, .isub), (13, .bipush 6), (15, .if_icmp .le 5), (18, .iconst 0), (19, .ireturn), (20, .iconst 0), (21, .istore_n 3), (22, .iload_n 1), (23, .istore 4), (25, .iload 4), (27, .iload_n 2), (28, .if_icmp .ge 44), (31, .aload_n 0), (32, .iload 4), (34, .baload), (35, .bipush 97), (37, .if_icmp .lt 12), (40, .aload_n 0), (41, .iload 4), (43, .baload), (44, .bipush 122), (46, .if_icmp .le 5), (49, .iconst 0), (50, .ireturn), (51, .iload_n 3), (52, .bipush 27), (54, .imul), (55, .aload_n 0), (56, .iload 4), (58, .baload), (59, .iadd), (60, .bipush 97), (62, .isub), (63, .iconst 1), (64, .iadd), (65, .istore_n 3), (66, .iinc 4 1), (69, .goto (-44)), (72, .iload_n 3), (73, .ireturn)]
set_option maxRecDepth 100000 in
theorem id78 : scan (mCd 78).data.toList 0 il78 = true := by decide +kernel
theorem mm78 : mKd 78 = 0 ∧ mAr 78 = 3 ∧ mMx 78 = 5 := by decide +kernel
theorem mo78 : mOw 78 = 7 := by decide +kernel
theorem mr78 : mRt 78 = some .int := by decide +kernel
theorem mh78 : mHn 78 = [] := by decide +kernel
def il79 : List (Nat × Instr) := [(0, .aload_n 0), (1, .ldc 65), (3, .invokevirtual 46), (6, .ifCond .ne 57), (9, .aload_n 0), (10, .ldc 74), (12, .invokevirtual 46), (15, .ifCond .ne 48), (18, .aload_n 0), (19, .ldc 44), (21, .invokevirtual 46), (24, .ifCond .ne 39), (27, .aload_n 0), (28, .ldc 53), (30, .invokevirtual 46), (33, .ifCond .ne 30), (36, .aload_n 0), (37, .ldc 102), (39, .invokevirtual 46), (42, .ifCond .ne 21), (45, .aload_n 0), (46, .ldc 104), (48, .invokevirtual 46), (51, .ifCond .ne 12), (54, .aload_n 0), (55, .ldc 109), (57, .invokevirtual 46), (60, .ifCond .eq 7), (63, .iconst 1), (64, .goto 4), (67, .iconst 0), (68, .ireturn)]
set_option maxRecDepth 100000 in
theorem id79 : scan (mCd 79).data.toList 0 il79 = true := by decide +kernel
theorem mm79 : mKd 79 = 1 ∧ mAr 79 = 0 ∧ mMx 79 = 1 := by decide +kernel
theorem mo79 : mOw 79 = 7 := by decide +kernel
theorem mr79 : mRt 79 = some .boolean := by decide +kernel
theorem mh79 : mHn 79 = [] := by decide +kernel
def il80 : List (Nat × Instr) := [(0, .aload_n 0), (1, .bipush 45), (3, .invokevirtual 115), (6, .istore_n 1), (7, .iload_n 1), (8, .ifCond .eq 7), (11, .aload_n 0), (12, .invokevirtual 35), (15, .aload_n 0), (16, .iconst 0), (17, .bipush 60), (19, .invokevirtual 71), (22, .istore_n 2), (23, .iload_n 1), (24, .ifCond .eq 8), (27, .iload_n 2), (28, .ineg), (29, .goto 4), (32, .iload_n 2), (33, .ireturn)]
set_option maxRecDepth 100000 in
theorem id80 : scan (mCd 80).data.toList 0 il80 = true := by decide +kernel
theorem mm80 : mKd 80 = 1 ∧ mAr 80 = 0 ∧ mMx 80 = 3 := by decide +kernel
theorem mo80 : mOw 80 = 7 := by decide +kernel
theorem mr80 : mRt 80 = some .int := by decide +kernel
theorem mh80 : mHn 80 = [] := by decide +kernel
def il81 : List (Nat × Instr) := [(0, .aload_n 0), (1, .getfield 62), (4, .ireturn)]
set_option maxRecDepth 100000 in
theorem id81 : scan (mCd 81).data.toList 0 il81 = true := by decide +kernel
theorem mm81 : mKd 81 = 1 ∧ mAr 81 = 0 ∧ mMx 81 = 1 := by decide +kernel
theorem mo81 : mOw 81 = 7 := by decide +kernel
theorem mr81 : mRt 81 = some .int := by decide +kernel
theorem mh81 : mHn 81 = [] := by decide +kernel
def il82 : List (Nat × Instr) := [(0, .aload_n 0), (1, .invokespecial 1), (4, .aload_n 0), (5, .sipush 400), (8, .newarray .byte), (10, .putfield 9), (13, .aload_n 0), (14, .iconst 0), (15, .putfield 13), (18, .aload_n 0), (19, .new 17), (22, .dup), (23, .invokespecial 19), (26, .putfield 20), (29, .aload_n 0), (30, .iconst 0), (31, .putfield 24), (34, .aload_n 0), (35, .iconst (-1)), (36, .putfield 27), (39, .aload_n 0), (40, .new 30), (43, .dup), (44, .invokespecial 32), (47, .putfield 33), (50, .aload_n 0), (51, .new 30), (54, .dup), (55, .invokespecial 32), (58, .putfield 37), (61, .aload_n 0), (62, .new 40), (65, .dup), (66, .aload_n 0), (67, .getfield 9), (70, .aload_n 0), (71, .getfield 37), (74, .invokespecial 42), (77, .putfield 45), (80, .aload_n 0), (81, .new 49), (84, .dup), (85, .invokespecial 51), (88, .putfield 52), (91, .aload_n 0), (92, .iconst 2), (93, .anewarray 30), (96, .putfield 56), (99, .aload_n 0), (100, .iconst 2), (101, .newarray .boolean), (103, .putfield 60), (106, .iconst 0), (107, .istore_n 1), (108, .iload_n 1), (109, .iconst 2), (110, .if_icmp .ge 22), (113, .aload_n 0), (114, .getfield 56), (117, .iload_n 1), (118, .new 30), (121, .dup), (122, .invokespecial 32), (125, .aastore), (126, .iinc 1 1), (129, .goto (-21)), (132, .return_)]
set_option maxRecDepth 100000 in
theorem id82 : scan (mCd 82).data.toList 0 il82 = true := by decide +kernel
theorem mm82 : mKd 82 = 2 ∧ mAr 82 = 0 ∧ mMx 82 = 2 := by decide +kernel
theorem mo82 : mOw 82 = 8 := by decide +kernel
theorem mr82 : mRt 82 = none := by decide +kernel
theorem mh82 : mHn 82 = [] := by decide +kernel
def il83 : List (Nat × Instr) := [(0, .aload_n 0), (1, .aload_n 0), (2, .getfield 45), (5, .aload_n 0), (6, .getfield 13), (9, .invokevirtual 75), (12, .putfield 24), (15, .aload_n 0), (16, .aload_n 0), (17, .getfield 24), (20, .ifCond .ne 7), (23, .iconst (-1)), (24, .goto 10), (27, .aload_n 0), (28, .getfield 45), (31, .invokevirtual 79), (34, .putfield 27), (37, .aload_n 0), (38, .iconst 0), (39, .putfield 13), (42, .aload_n 0), (43, .getfield 24), (46, .ifCond .eq 6), (49, .bipush (-4)), (51, .ireturn), (52, .aload_n 0), (53, .getfield 52), (56, .aload_n 0), (57, .getfield 33), (60, .invokevirtual 83), (63, .aload_n 0), (64, .getfield 33), (67, .aload_n 0), (68, .getfield 37), (71, .invokevirtual 87), (74, .aload_n 0), (75, .getfield 33), (78, .getfield 90), (81, .ireturn)]
set_option maxRecDepth 100000 in
theorem id83 : scan (mCd 83).data.toList 0 il83 = true := by decide +kernel
theorem mm83 : mKd 83 = 1 ∧ mAr 83 = 0 ∧ mMx 83 = 1 := by decide +kernel
theorem mo83 : mOw 83 = 8 := by decide +kernel
theorem mr83 : mRt 83 = some .int := by decide +kernel
theorem mh83 : mHn 83 = [] := by decide +kernel
def il84 : List (Nat × Instr) := [(0, .aload_n 0), (1, .getfield 24), (4, .ireturn)]
set_option maxRecDepth 100000 in
theorem id84 : scan (mCd 84).data.toList 0 il84 = true := by decide +kernel
theorem mm84 : mKd 84 = 1 ∧ mAr 84 = 0 ∧ mMx 84 = 1 := by decide +kernel
theorem mo84 : mOw 84 = 8 := by decide +kernel
theorem mr84 : mRt 84 = some .int := by decide +kernel
theorem mh84 : mHn 84 = [] := by decide +kernel
def il85 : List (Nat × Instr) := [(0, .aload_n 0), (1, .getfield 27), (4, .ireturn)]
set_option maxRecDepth 100000 in
theorem id85 : scan (mCd 85).data.toList 0 il85 = true := by decide +kernel
theorem mm85 : mKd 85 = 1 ∧ mAr 85 = 0 ∧ mMx 85 = 1 := by decide +kernel
theorem mo85 : mOw 85 = 8 := by decide +kernel
theorem mr85 : mRt 85 = some .int := by decide +kernel
theorem mh85 : mHn 85 = [] := by decide +kernel
def il86 : List (Nat × Instr) := [(0, .aload_n 0), (1, .getfield 9), (4, .iconst 0), (5, .aload_n 0), (6, .getfield 13), (9, .invokestatic 93), (12, .istore_n 1), (13, .aload_n 0), (14, .iconst 0), (15, .putfield 13), (18, .aload_n 0), (19, .getfield 33), (22, .iload_n 1), (23, .invokevirtual 97), (26, .ireturn)]
set_option maxRecDepth 100000 in
theorem id86 : scan (mCd 86).data.toList 0 il86 = true := by decide +kernel
theorem mm86 : mKd 86 = 1 ∧ mAr 86 = 0 ∧ mMx 86 = 2 := by decide +kernel
theorem mo86 : mOw 86 = 8 := by decide +kernel
theorem mr86 : mRt 86 = some .int := by decide +kernel
theorem mh86 : mHn 86 = [] := by decide +kernel
def il87 : List (Nat × Instr) := [(0, .iconst (-1)), (1, .istore_n 1), (2, .iconst (-1)), (3, .istore_n 2), (4, .iconst 0), (5, .istore_n 3), (6, .iload_n 3), (7, .aload_n 0), (8, .getfield 33), (11, .getfield 90), (14, .if_icmp .ge 34), (17, .aload_n 0), (18, .getfield 33), (21, .getfield 236), (24, .iload_n 3), (25, .aaload), (26, .invokevirtual 240), (29, .istore 4), (31, .iload 4), (33, .iload_n 2), (34, .if_icmp .le 8), (37, .iload_n 3), (38, .istore_n 1), (39, .iload 4), (41, .istore_n 2), (42, .iinc 3 1), (45, .goto (-39)), (48, .iload_n 1), (49, .ireturn)]
set_option maxRecDepth 100000 in
theorem id87 : scan (mCd 87).data.toList 0 il87 = true := by decide +kernel
theorem mm87 : mKd 87 = 1 ∧ mAr 87 = 0 ∧ mMx 87 = 5 := by decide +kernel
theorem mo87 : mOw 87 = 8 := by decide +kernel
theorem mr87 : mRt 87 = some .int := by decide +kernel
theorem mh87 : mHn 87 = [] := by decide +kernel
def il88 : List (Nat × Instr) := [(0, .iconst 0), (1, .istore_n 2), (2, .iconst 0), (3, .istore_n 3), (4, .iload_n 3), (5, .aload_n 0), (6, .getfield 33), (9, .getfield 90), (12, .if_icmp .ge 46), (15, .aload_n 0), (16, .getfield 33), (19, .getfield 236), (22, .iload_n 3), (23, .aaload), (24, .getfield 133), (27, .istore 4), (29, .iload_n 1), (30, .ifCond .eq 11), (33, .iload 4), (35, .ifCond .le 17), (38, .goto 8), (41, .iload 4), (43, .ifCond .ge 9), (46, .iload_n 2), (47, .iconst 1), (48, .iload_n 3), (49, .ishl), (50, .ior), (51, .istore_n 2), (52, .iinc 3 1), (55, .goto (-51)), (58, .iload_n 2), (59, .ireturn)]
set_option maxRecDepth 100000 in
theorem id88 : scan (mCd 88).data.toList 0 il88 = true := by decide +kernel
theorem mm88 : mKd 88 = 1 ∧ mAr 88 = 1 ∧ mMx 88 = 5 := by decide +kernel
theorem mo88 : mOw 88 = 8 := by decide +kernel
theorem mr88 : mRt 88 = some .int := by decide +kernel
theorem mh88 : mHn 88 = [] := by decide +kernel
def il89 : List (Nat × Instr) := [(0, .aload_n 0), (1, .invokevirtual 260), (4, .ireturn)]
set_option maxRecDepth 100000 in
theorem id89 : scan (mCd 89).data.toList 0 il89 = true := by decide +kernel
theorem mm89 : mKd 89 = 1 ∧ mAr 89 = 0 ∧ mMx 89 = 1 := by decide +kernel
theorem mo89 : mOw 89 = 8 := by decide +kernel
theorem mr89 : mRt 89 = some .int := by decide +kernel
theorem mh89 : mHn 89 = [] := by decide +kernel
def il90 : List (Nat × Instr) := [(0, .aload_n 0), (1, .getfield 37), (4, .aload_n 0), (5, .getfield 33), (8, .invokevirtual 87), (11, .iconst 1), (12, .istore_n 1), (13, .iload_n 1), (14, .sipush 3000), (17, .if_icmp .gt 22), (20, .aload_n 0), (21, .getfield 37), (24, .iconst 1), (25, .invokevirtual 266), (28, .ifCond .le 5), (31, .iload_n 1), (32, .ireturn), (33, .iinc 1 1), (36, .goto (-23)), (39, .iconst (-1)), (40, .ireturn)]
set_option maxRecDepth 100000 in
theorem id90 : scan (mCd 90).data.toList 0 il90 = true := by decide +kernel
theorem mm90 : mKd 90 = 1 ∧ mAr 90 = 0 ∧ mMx 90 = 2 := by decide +kernel
theorem mo90 : mOw 90 = 8 := by decide +kernel
theorem mr90 : mRt 90 = some .int := by decide +kernel
theorem mh90 : mHn 90 = [] := by decide +kernel
def il91 : List (Nat × Instr) := [(0, .aload_n 0), (1, .invokevirtual 260), (4, .iconst (-1)), (5, .if_icmp .ne 5), (8, .iconst (-1)), (9, .ireturn), (10, .aload_n 0), (11, .getfield 37), (14, .getfield 109), (17, .aload_n 0), (18, .getfield 37), (21, .getfield 106), (24, .iconst 1), (25, .isub), (26, .invokevirtual 263), (29, .istore_n 2), (30, .iload_n 2), (31, .iconst (-1)), (32, .if_icmp .ne 5), (35, .iconst (-1)), (36, .ireturn), (37, .iload_n 1), (38, .ifCond .eq 17), (41, .aload_n 0), (42, .getfield 37), (45, .getfield 109), (48, .iload_n 2), (49, .invokevirtual 210), (52, .goto 14), (55, .aload_n 0), (56, .getfield 37), (59, .getfield 109), (62, .iload_n 2), (63, .invokevirtual 204), (66, .ireturn)]
set_option maxRecDepth 100000 in
theorem id91 : scan (mCd 91).data.toList 0 il91 = true := by decide +kernel
theorem mm91 : mKd 91 = 1 ∧ mAr 91 = 1 ∧ mMx 91 = 3 := by decide +kernel
theorem mo91 : mOw 91 = 8 := by decide +kernel
theorem mr91 : mRt 91 = some .int := by decide +kernel
theorem mh91 : mHn 91 = [] := by decide +kernel
def il92 : List (Nat × Instr) := [(0, .aload_n 0), (1, .getfield 37), (4, .aload_n 0), (5, .getfield 33), (8, .invokevirtual 87), (11, .iconst 0), (12, .istore_n 1), (13, .iload_n 1), (14, .bipush 50), (16, .if_icmp .gt 31), (19, .aload_n 0), (20, .getfield 37), (23, .invokevirtual 118), (26, .ifCond .ne 5), (29, .iload_n 1), (30, .ireturn), (31, .aload_n 0), (32, .getfield 37), (35, .bipush 60), (37, .invokevirtual 266), (40, .pop), (41, .iinc 1 1), (44, .goto (-31)), (47, .iconst (-1)), (48, .ireturn)]
set_option maxRecDepth 100000 in
theorem id92 : scan (mCd 92).data.toList 0 il92 = true := by decide +kernel
theorem mm92 : mKd 92 = 1 ∧ mAr 92 = 0 ∧ mMx 92 = 2 := by decide +kernel
theorem mo92 : mOw 92 = 8 := by decide +kernel
theorem mr92 : mRt 92 = some .int := by decide +kernel
theorem mh92 : mHn 92 = [] := by decide +kernel
def il93 : List (Nat × Instr) := [(0, .aload_n 0), (1, .getfield 33), (4, .getfield 90), (7, .ifCond .ne 5), (10, .dconst 0), (11, .dreturn), (12, .iconst 0), (13, .istore_n 1), (14, .iconst 0), (15, .istore_n 2), (16, .iload_n 2), (17, .aload_n 0), (18, .getfield 33), (21, .getfield 90), (24, .if_icmp .ge 24), (27, .iload_n 1), (28, .aload_n 0), (29, .getfield 33), (32, .getfield 236), (35, .iload_n 2), (36, .aaload), (37, .invokevirtual 240), (40, .iadd), (41, .istore_n 1), (42, .iinc 2 1), (45, .goto (-29)), (48, .iload_n 1), (49, .i2d), (50, .aload_n 0), (51, .getfield 33), (54, .getfield 90), (57, .i2d), (58, .ddiv), (59, .dreturn)]
set_option maxRecDepth 100000 in
theorem id93 : scan (mCd 93).data.toList 0 il93 = true := by decide +kernel
theorem mm93 : mKd 93 = 1 ∧ mAr 93 = 0 ∧ mMx 93 = 3 := by decide +kernel
theorem mo93 : mOw 93 = 8 := by decide +kernel
theorem mr93 : mRt 93 = some .double := by decide +kernel
theorem mh93 : mHn 93 = [] := by decide +kernel
def il94 : List (Nat × Instr) := [(0, .aload_n 0), (1, .getfield 33), (4, .invokevirtual 121), (7, .istore_n 1), (8, .iload_n 1), (9, .ifCond .ne 7), (12, .ldc2_w 273), (15, .dreturn), (16, .iconst 0), (17, .istore_n 2), (18, .iconst 0), (19, .istore_n 3), (20, .iload_n 3), (21, .aload_n 0), (22, .getfield 33), (25, .getfield 90), (28, .if_icmp .ge 37), (31, .iload_n 2), (32, .aload_n 0), (33, .getfield 33), (36, .getfield 236), (39, .iload_n 3), (40, .aaload), (41, .getfield 128), (44, .aload_n 0), (45, .getfield 33), (48, .getfield 236), (51, .iload_n 3), (52, .aaload), (53, .getfield 136), (56, .imul), (57, .iadd), (58, .istore_n 2), (59, .iinc 3 1), (62, .goto (-42)), (65, .iload_n 2), (66, .i2d), (67, .iload_n 1), (68, .i2d), (69, .ddiv), (70, .dreturn)]
set_option maxRecDepth 100000 in
theorem id94 : scan (mCd 94).data.toList 0 il94 = true := by decide +kernel
theorem mm94 : mKd 94 = 1 ∧ mAr 94 = 0 ∧ mMx 94 = 4 := by decide +kernel
theorem mo94 : mOw 94 = 8 := by decide +kernel
theorem mr94 : mRt 94 = some .double := by decide +kernel
theorem mh94 : mHn 94 = [] := by decide +kernel
def il95 : List (Nat × Instr) := [(0, .aload_n 0), (1, .getfield 52), (4, .aload_n 0), (5, .getfield 33), (8, .invokevirtual 83), (11, .aload_n 0), (12, .getfield 33), (15, .invokevirtual 216), (18, .istore_n 1), (19, .aload_n 0), (20, .getfield 33), (23, .invokevirtual 118), (26, .istore_n 2), (27, .iconst 0), (28, .istore_n 3), (29, .iload_n 3), (30, .aload_n 0), (31, .getfield 33), (34, .getfield 90), (37, .if_icmp .ge 22), (40, .aload_n 0), (41, .getfield 33), (44, .getfield 236), (47, .iload_n 3), (48, .aaload), (49, .iconst 0), (50, .putfield 133), (53, .iinc 3 1), (56, .goto (-27)), (59, .aload_n 0), (60, .getfield 33), (63, .iload_n 1), (64, .invokevirtual 283), (67, .iload_n 2), (68, .ireturn)]
set_option maxRecDepth 100000 in
theorem id95 : scan (mCd 95).data.toList 0 il95 = true := by decide +kernel
theorem mm95 : mKd 95 = 1 ∧ mAr 95 = 0 ∧ mMx 95 = 4 := by decide +kernel
theorem mo95 : mOw 95 = 8 := by decide +kernel
theorem mr95 : mRt 95 = some .int := by decide +kernel
theorem mh95 : mHn 95 = [] := by decide +kernel
def il96 : List (Nat × Instr) := [(0, .aload_n 0), (1, .getfield 52), (4, .getfield 303), (7, .ireturn)]
set_option maxRecDepth 100000 in
theorem id96 : scan (mCd 96).data.toList 0 il96 = true := by decide +kernel
theorem mm96 : mKd 96 = 1 ∧ mAr 96 = 0 ∧ mMx 96 = 1 := by decide +kernel
theorem mo96 : mOw 96 = 8 := by decide +kernel
theorem mr96 : mRt 96 = some .int := by decide +kernel
theorem mh96 : mHn 96 = [] := by decide +kernel
def il97 : List (Nat × Instr) := [(0, .aload_n 0), (1, .getfield 20), (4, .iconst 0), (5, .putfield 309), (8, .iconst 0), (9, .istore_n 1), (10, .iload_n 1), (11, .aload_n 0), (12, .getfield 33), (15, .getfield 100), (18, .if_icmp .ge 59), (21, .aload_n 0), (22, .getfield 33), (25, .iload_n 1), (26, .invokevirtual 157), (29, .istore_n 2), (30, .iload_n 2), (31, .iconst (-1)), (32, .if_icmp .eq 14), (35, .aload_n 0), (36, .getfield 20), (39, .iload_n 2), (40, .invokevirtual 312), (43, .goto 28), (46, .aload_n 0), (47, .getfield 20), (50, .aload_n 0), (51, .getfield 33), (54, .iload_n 1), (55, .invokevirtual 286), (58, .ifCond .eq 8), (61, .bipush 35), (63, .goto 5), (66, .bipush 46), (68, .invokevirtual 315), (71, .iinc 1 1), (74, .goto (-64)), (77, .aload_n 0), (78, .getfield 20), (81, .getfield 309), (84, .ireturn)]
set_option maxRecDepth 100000 in
theorem id97 : scan (mCd 97).data.toList 0 il97 = true := by decide +kernel
theorem mm97 : mKd 97 = 1 ∧ mAr 97 = 0 ∧ mMx 97 = 3 := by decide +kernel
theorem mo97 : mOw 97 = 8 := by decide +kernel
theorem mr97 : mRt 97 = some .int := by decide +kernel
theorem mh97 : mHn 97 = [] := by decide +kernel
def il98 : List (Nat × Instr) := [(0, .aload_n 0), (1, .getfield 20), (4, .iconst 0), (5, .putfield 309), (8, .iconst 0), (9, .istore_n 1), (10, .iload_n 1), (11, .aload_n 0), (12, .getfield 33), (15, .getfield 90), (18, .if_icmp .ge 90), (21, .aload_n 0), (22, .getfield 20), (25, .invokevirtual 318), (28, .aload_n 0), (29, .getfield 33), (32, .getfield 236), (35, .aload_n 0), (36, .getfield 33), (39, .getfield 184), (42, .iload_n 1), (43, .iaload), (44, .aaload), (45, .astore_n 2), (46, .aload_n 0), (47, .getfield 20), (50, .aload_n 0), (51, .getfield 33), (54, .getfield 184), (57, .iload_n 1), (58, .iaload), (59, .invokevirtual 312), (62, .aload_n 0), (63, .getfield 20), (66, .bipush 64), (68, .invokevirtual 315), (71, .aload_n 0), (72, .getfield 20), (75, .aload_n 2), (76, .getfield 128), (79, .invokevirtual 312), (82, .aload_n 0), (83, .getfield 20), (86, .bipush 58), (88, .invokevirtual 315), (91, .aload_n 0), (92, .getfield 20), (95, .aload_n 2), (96, .getfield 133), (99, .invokevirtual 312), (102, .iinc 1 1), (105, .goto (-95)), (108, .aload_n 0), (109, .getfield 20), (112, .getfield 309), (115, .ireturn)]
set_option maxRecDepth 100000 in
theorem id98 : scan (mCd 98).data.toList 0 il98 = true := by decide +kernel
theorem mm98 : mKd 98 = 1 ∧ mAr 98 = 0 ∧ mMx 98 = 3 := by decide +kernel
theorem mo98 : mOw 98 = 8 := by decide +kernel
theorem mr98 : mRt 98 = some .int := by decide +kernel
theorem mh98 : mHn 98 = [] := by decide +kernel
def il99 : List (Nat × Instr) := [(0, .aload_n 0), (1, .getfield 20), (4, .iconst 0), (5, .putfield 309), (8, .aload_n 0), (9, .getfield 33), (12, .getfield 109), (15, .astore_n 1), (16, .aload_n 1), (17, .getfield 113), (20, .bipush 10), (22, .invokestatic 275), (25, .iconst 1), (26, .isub), (27, .istore_n 2), (28, .iload_n 2), (29, .ifCond .lt 83), (32, .aload_n 0), (33, .getfield 20), (36, .invokevirtual 318), (39, .aload_n 0), (40, .aload_n 1), (41, .iload_n 2), (42, .invokevirtual 204), (45, .invokevirtual 321), (48, .aload_n 1), (49, .iload_n 2), (50, .invokevirtual 210), (53, .istore_n 3), (54, .iload_n 3), (55, .iconst (-1)), (56, .if_icmp .ne 15), (59, .aload_n 0), (60, .getfield 20), (63, .bipush 124), (65, .invokevirtual 315), (68, .goto 17), (71, .aload_n 0), (72, .getfield 20), (75, .bipush 120), (77, .invokevirtual 315), (80, .aload_n 0), (81, .iload_n 3), (82, .invokevirtual 321), (85, .aload_n 0), (86, .getfield 20), (89, .bipush 47), (91, .invokevirtual 315), (94, .aload_n 0), (95, .getfield 20), (98, .aload_n 1), (99, .iload_n 2), (100, .invokevirtual 213), (103, .invokevirtual 312), (106, .iinc 2 (-1)), (109, .goto (-81)), (112, .aload_n 0), (113, .getfield 20), (116, .getfield 309), (119, .ireturn)]
set_option maxRecDepth 100000 in
theorem id99 : scan (mCd 99).data.toList 0 il99 = true := by decide +kernel
theorem mm99 : mKd 99 = 1 ∧ mAr 99 = 0 ∧ mMx 99 = 4 := by decide +kernel
theorem mo99 : mOw 99 = 8 := by decide +kernel
theorem mr99 : mRt 99 = some .int := by decide +kernel
theorem mh99 : mHn 99 = [] := by decide +kernel
def il100 : List (Nat × Instr) := [(0, .iload_n 1), (1, .ifCond .ge 15), (4, .aload_n 0), (5, .getfield 20), (8, .bipush 63), (10, .invokevirtual 315), (13, .goto 11), (16, .aload_n 0), (17, .getfield 20), (20, .iload_n 1), (21, .invokevirtual 312), (24, .return_)]
set_option maxRecDepth 100000 in
theorem id100 : scan (mCd 100).data.toList 0 il100 = true := by decide +kernel
theorem mm100 : mKd 100 = 1 ∧ mAr 100 = 1 ∧ mMx 100 = 2 := by decide +kernel
theorem mo100 : mOw 100 = 8 := by decide +kernel
theorem mr100 : mRt 100 = none := by decide +kernel
theorem mh100 : mHn 100 = [] := by decide +kernel
def il101 : List (Nat × Instr) := [(0, .aload_n 0), (1, .getfield 13), (4, .sipush 380), (7, .if_icmp .le 11), (10, .new 64), (13, .dup), (14, .invokespecial 66), (17, .athrow), (18, .aload_n 0), (19, .iload_n 1), (20, .invokevirtual 67), (23, .aload_n 0), (24, .iload_n 2), (25, .invokevirtual 67), (28, .aload_n 0), (29, .iload_n 3), (30, .invokevirtual 67), (33, .aload_n 0), (34, .iload 4), (36, .invokevirtual 67), (39, .aload_n 0), (40, .iload 5), (42, .invokevirtual 67), (45, .aload_n 0), (46, .getfield 13), (49, .ireturn)]
set_option maxRecDepth 100000 in
theorem id101 : scan (mCd 101).data.toList 0 il101 = true := by decide +kernel
theorem mm101 : mKd 101 = 1 ∧ mAr 101 = 5 ∧ mMx 101 = 6 := by decide +kernel
theorem mo101 : mOw 101 = 8 := by decide +kernel
theorem mr101 : mRt 101 = some .int := by decide +kernel
theorem mh101 : mHn 101 = [] := by decide +kernel
def il102 : List (Nat × Instr) := [(0, .bipush 24), (2, .istore_n 2), (3, .iload_n 2), (4, .ifCond .lt 42), (7, .aload_n 0), (8, .getfield 13), (11, .sipush 400), (14, .if_icmp .ge 32), (17, .aload_n 0), (18, .getfield 9), (21, .aload_n 0), (22, .getfield 13), (25, .iload_n 1), (26, .iload_n 2), (27, .ishr), (28, .i2b), (29, .bastore), (30, .aload_n 0), (31, .dup), (32, .getfield 13), (35, .iconst 1), (36, .iadd), (37, .putfield 13), (40, .iinc 2 (-8)), (43, .goto (-40)), (46, .return_)]
set_option maxRecDepth 100000 in
theorem id102 : scan (mCd 102).data.toList 0 il102 = true := by decide +kernel
theorem mm102 : mKd 102 = 1 ∧ mAr 102 = 1 ∧ mMx 102 = 3 := by decide +kernel
theorem mo102 : mOw 102 = 8 := by decide +kernel
theorem mr102 : mRt 102 = none := by decide +kernel
theorem mh102 : mHn 102 = [] := by decide +kernel
def il103 : List (Nat × Instr) := [(0, .iload_n 1), (1, .iconst 0), (2, .aload_n 0), (3, .getfield 13), (6, .invokestatic 71), (9, .aload_n 0), (10, .iload_n 1), (11, .putfield 13), (14, .return_)]
set_option maxRecDepth 100000 in
theorem id103 : scan (mCd 103).data.toList 0 il103 = true := by decide +kernel
theorem mm103 : mKd 103 = 1 ∧ mAr 103 = 1 ∧ mMx 103 = 2 := by decide +kernel
theorem mo103 : mOw 103 = 8 := by decide +kernel
theorem mr103 : mRt 103 = none := by decide +kernel
theorem mh103 : mHn 103 = [] := by decide +kernel
def il104 : List (Nat × Instr) := [(0, .iload_n 0), (1, .iload_n 1), (2, .if_icmp .lt 8), (5, .iload_n 0), (6, .iload_n 2), (7, .if_icmp .le 11), (10, .new 243), (13, .dup), (14, .invokespecial 245), (17, .athrow), (18, .return_)]
set_option maxRecDepth 100000 in
theorem id104 : scan (mCd 104).data.toList 0 il104 = true := by decide +kernel
theorem mm104 : mKd 104 = 0 ∧ mAr 104 = 3 ∧ mMx 104 = 3 := by decide +kernel
theorem mo104 : mOw 104 = 8 := by decide +kernel
theorem mr104 : mRt 104 = none := by decide +kernel
theorem mh104 : mHn 104 = [] := by decide +kernel
def il105 : List (Nat × Instr) := [(0, .iload_n 1), (1, .iconst 0), (2, .bipush 6), (4, .invokestatic 71), (7, .iload_n 1), (8, .tableswitch 99 0 5 #[40, 48, 56, 64, 72, 83]), (48, .aload_n 0), (49, .getfield 33), (52, .getfield 100), (55, .ireturn), (56, .aload_n 0), (57, .getfield 33), (60, .getfield 90), (63, .ireturn), (64, .aload_n 0), (65, .getfield 33), (68, .getfield 103), (71, .ireturn), (72, .aload_n 0), (73, .getfield 33), (76, .getfield 106), (79, .ireturn), (80, .aload_n 0), (81, .getfield 33), (84, .getfield 109), (87, .getfield 113), (90, .ireturn), (91, .aload_n 0), (92, .getfield 33), (95, .getfield 90), (98, .aload_n 0), (99, .getfield 33), (102, .invokevirtual 118), (105, .isub), (106, .ireturn), (107, .aload_n 0), (108, .getfield 33), (111, .invokevirtual 121), (114, .ireturn)]
set_option maxRecDepth 100000 in
theorem id105 : scan (mCd 105).data.toList 0 il105 = true := by decide +kernel
theorem mm105 : mKd 105 = 1 ∧ mAr 105 = 1 ∧ mMx 105 = 2 := by decide +kernel
theorem mo105 : mOw 105 = 8 := by decide +kernel
theorem mr105 : mRt 105 = some .int := by decide +kernel
theorem mh105 : mHn 105 = [] := by decide +kernel
def il106 : List (Nat × Instr) := [(0, .aload_n 0), (1, .iload_n 1), (2, .invokevirtual 124), (5, .astore_n 3), (6, .iload_n 2), (7, .iconst 0), (8, .bipush 7), (10, .invokestatic 71), (13, .iload_n 2), (14, .tableswitch 77 0 6 #[42, 47, 52, 57, 62, 67, 72]), (56, .aload_n 3), (57, .getfield 128), (60, .ireturn), (61, .aload_n 3), (62, .getfield 133), (65, .ireturn), (66, .aload_n 3), (67, .getfield 136), (70, .ireturn), (71, .aload_n 3), (72, .getfield 139), (75, .ireturn), (76, .aload_n 3), (77, .getfield 142), (80, .ireturn), (81, .aload_n 3), (82, .getfield 145), (85, .ireturn), (86, .aload_n 3), (87, .getfield 148), (90, .ireturn), (91, .aload_n 3), (92, .getfield 151), (95, .ireturn)]
set_option maxRecDepth 100000 in
theorem id106 : scan (mCd 106).data.toList 0 il106 = true := by decide +kernel
theorem mm106 : mKd 106 = 1 ∧ mAr 106 = 2 ∧ mMx 106 = 4 := by decide +kernel
theorem mo106 : mOw 106 = 8 := by decide +kernel
theorem mr106 : mRt 106 = some .int := by decide +kernel
theorem mh106 : mHn 106 = [] := by decide +kernel
def il107 : List (Nat × Instr) := [(0, .iload_n 1), (1, .ifCond .lt 14), (4, .iload_n 1), (5, .aload_n 0), (6, .getfield 33), (9, .getfield 90), (12, .if_icmp .lt 11), (15, .new 160), (18, .dup), (19, .invokespecial 162), (22, .athrow), (23, .aload_n 0), (24, .getfield 33), (27, .getfield 236), (30, .iload_n 1), (31, .aaload), (32, .areturn)]
set_option maxRecDepth 100000 in
theorem id107 : scan (mCd 107).data.toList 0 il107 = true := by decide +kernel
theorem mm107 : mKd 107 = 1 ∧ mAr 107 = 1 ∧ mMx 107 = 2 := by decide +kernel
theorem mo107 : mOw 107 = 8 := by decide +kernel
theorem mr107 : mRt 107 = some (.object "LineBalls$Ball") := by decide +kernel
theorem mh107 : mHn 107 = [] := by decide +kernel
def il108 : List (Nat × Instr) := [(0, .aload_n 0), (1, .iload_n 1), (2, .invokevirtual 154), (5, .aload_n 0), (6, .getfield 33), (9, .iload_n 1), (10, .invokevirtual 157), (13, .ireturn)]
set_option maxRecDepth 100000 in
theorem id108 : scan (mCd 108).data.toList 0 il108 = true := by decide +kernel
theorem mm108 : mKd 108 = 1 ∧ mAr 108 = 1 ∧ mMx 108 = 2 := by decide +kernel
theorem mo108 : mOw 108 = 8 := by decide +kernel
theorem mr108 : mRt 108 = some .int := by decide +kernel
theorem mh108 : mHn 108 = [] := by decide +kernel
def il109 : List (Nat × Instr) := [(0, .iload_n 1), (1, .ifCond .lt 14), (4, .iload_n 1), (5, .aload_n 0), (6, .getfield 33), (9, .getfield 100), (12, .if_icmp .lt 11), (15, .new 160), (18, .dup), (19, .invokespecial 162), (22, .athrow), (23, .return_)]
set_option maxRecDepth 100000 in
theorem id109 : scan (mCd 109).data.toList 0 il109 = true := by decide +kernel
theorem mm109 : mKd 109 = 1 ∧ mAr 109 = 1 ∧ mMx 109 = 2 := by decide +kernel
theorem mo109 : mOw 109 = 8 := by decide +kernel
theorem mr109 : mRt 109 = none := by decide +kernel
theorem mh109 : mHn 109 = [] := by decide +kernel
def il110 : List (Nat × Instr) := [(0, .iload_n 1), (1, .ifCond .ge 11), (4, .new 160), (7, .dup), (8, .invokespecial 162), (11, .athrow), (12, .aload_n 0), (13, .iload_n 1), (14, .invokevirtual 163), (17, .astore_n 3), (18, .iload_n 2), (19, .iconst 0), (20, .iconst 2), (21, .invokestatic 71), (24, .iload_n 2), (25, .ifCond .ne 8), (28, .aload_n 3), (29, .getfield 167), (32, .ireturn), (33, .iload_n 2), (34, .iconst 1), (35, .if_icmp .ne 10), (38, .aload_n 3), (39, .getfield 170), (42, .goto 7), (45, .aload_n 3), (46, .getfield 173), (49, .ireturn)]
set_option maxRecDepth 100000 in
theorem id110 : scan (mCd 110).data.toList 0 il110 = true := by decide +kernel
theorem mm110 : mKd 110 = 1 ∧ mAr 110 = 2 ∧ mMx 110 = 4 := by decide +kernel
theorem mo110 : mOw 110 = 8 := by decide +kernel
theorem mr110 : mRt 110 = some .int := by decide +kernel
theorem mh110 : mHn 110 = [] := by decide +kernel
def il111 : List (Nat × Instr) := [(0, .iload_n 1), (1, .bipush (-2)), (3, .if_icmp .lt 14), (6, .iload_n 1), (7, .aload_n 0), (8, .getfield 33), (11, .getfield 103), (14, .if_icmp .lt 11), (17, .new 160), (20, .dup), (21, .invokespecial 162), (24, .athrow), (25, .iload_n 1), (26, .ifCond .lt 13), (29, .aload_n 0), (30, .getfield 33), (33, .getfield 327), (36, .iload_n 1), (37, .aaload), (38, .areturn), (39, .iload_n 1), (40, .iconst (-1)), (41, .if_icmp .ne 13), (44, .aload_n 0), (45, .getfield 33), (48, .getfield 178), (51, .goto 10), (54, .aload_n 0), (55, .getfield 33), (58, .getfield 174), (61, .areturn)]
set_option maxRecDepth 100000 in
theorem id111 : scan (mCd 111).data.toList 0 il111 = true := by decide +kernel
theorem mm111 : mKd 111 = 1 ∧ mAr 111 = 1 ∧ mMx 111 = 2 := by decide +kernel
theorem mo111 : mOw 111 = 8 := by decide +kernel
theorem mr111 : mRt 111 = some (.object "LineBalls$Barrier") := by decide +kernel
theorem mh111 : mHn 111 = [] := by decide +kernel
def il112 : List (Nat × Instr) := [(0, .iload_n 2), (1, .iconst 0), (2, .iconst 1), (3, .invokestatic 71), (6, .iload_n 1), (7, .ifCond .eq 13), (10, .aload_n 0), (11, .getfield 33), (14, .getfield 174), (17, .goto 10), (20, .aload_n 0), (21, .getfield 33), (24, .getfield 178), (27, .astore_n 3), (28, .iload_n 2), (29, .ifCond .ne 10), (32, .aload_n 3), (33, .getfield 170), (36, .goto 7), (39, .aload_n 3), (40, .getfield 173), (43, .ireturn)]
set_option maxRecDepth 100000 in
theorem id112 : scan (mCd 112).data.toList 0 il112 = true := by decide +kernel
theorem mm112 : mKd 112 = 1 ∧ mAr 112 = 2 ∧ mMx 112 = 4 := by decide +kernel
theorem mo112 : mOw 112 = 8 := by decide +kernel
theorem mr112 : mRt 112 = some .int := by decide +kernel
theorem mh112 : mHn 112 = [] := by decide +kernel
def il113 : List (Nat × Instr) := [(0, .iload_n 1), (1, .ifCond .lt 14), (4, .iload_n 1), (5, .aload_n 0), (6, .getfield 33), (9, .getfield 90), (12, .if_icmp .lt 11), (15, .new 181), (18, .dup), (19, .invokespecial 183), (22, .athrow), (23, .aload_n 0), (24, .getfield 33), (27, .getfield 184), (30, .iload_n 1), (31, .iaload), (32, .ireturn)]
set_option maxRecDepth 100000 in
theorem id113 : scan (mCd 113).data.toList 0 il113 = true := by decide +kernel
theorem mm113 : mKd 113 = 1 ∧ mAr 113 = 1 ∧ mMx 113 = 2 := by decide +kernel
theorem mo113 : mOw 113 = 8 := by decide +kernel
theorem mr113 : mRt 113 = some .int := by decide +kernel
theorem mh113 : mHn 113 = [] := by decide +kernel
def il114 : List (Nat × Instr) := [(0, .aload_n 0), (1, .iload_n 1), (2, .invokevirtual 124), (5, .astore_n 3), (6, .iload_n 2), (7, .ifCond .eq 7), (10, .iconst 1), (11, .goto 4), (14, .iconst (-1)), (15, .istore 4), (17, .aload_n 0), (18, .getfield 33), (21, .aload_n 3), (22, .getfield 128), (25, .iload 4), (27, .aload_n 0), (28, .getfield 33), (31, .aload_n 3), (32, .getfield 128), (35, .iload 4), (37, .invokevirtual 188), (40, .iconst 1), (41, .iadd), (42, .imul), (43, .iadd), (44, .invokevirtual 157), (47, .ireturn)]
set_option maxRecDepth 100000 in
theorem id114 : scan (mCd 114).data.toList 0 il114 = true := by decide +kernel
theorem mm114 : mKd 114 = 1 ∧ mAr 114 = 2 ∧ mMx 114 = 5 := by decide +kernel
theorem mo114 : mOw 114 = 8 := by decide +kernel
theorem mr114 : mRt 114 = some .int := by decide +kernel
theorem mh114 : mHn 114 = [] := by decide +kernel
def il115 : List (Nat × Instr) := [(0, .aload_n 0), (1, .iload_n 1), (2, .invokevirtual 124), (5, .astore_n 3), (6, .aload_n 0), (7, .getfield 33), (10, .aload_n 3), (11, .getfield 128), (14, .iload_n 2), (15, .ifCond .eq 7), (18, .iconst 1), (19, .goto 4), (22, .iconst (-1)), (23, .invokevirtual 188), (26, .ireturn)]
set_option maxRecDepth 100000 in
theorem id115 : scan (mCd 115).data.toList 0 il115 = true := by decide +kernel
theorem mm115 : mKd 115 = 1 ∧ mAr 115 = 2 ∧ mMx 115 = 4 := by decide +kernel
theorem mo115 : mOw 115 = 8 := by decide +kernel
theorem mr115 : mRt 115 = some .int := by decide +kernel
theorem mh115 : mHn 115 = [] := by decide +kernel
def il116 : List (Nat × Instr) := [(0, .aload_n 0), (1, .iload_n 1), (2, .invokevirtual 124), (5, .pop), (6, .aload_n 0), (7, .iload_n 2), (8, .invokevirtual 124), (11, .pop), (12, .aload_n 0), (13, .getfield 33), (16, .getfield 192), (19, .iload_n 1), (20, .iload_n 2), (21, .invokevirtual 196), (24, .ireturn)]
set_option maxRecDepth 100000 in
theorem id116 : scan (mCd 116).data.toList 0 il116 = true := by decide +kernel
theorem mm116 : mKd 116 = 1 ∧ mAr 116 = 2 ∧ mMx 116 = 3 := by decide +kernel
theorem mo116 : mOw 116 = 8 := by decide +kernel
theorem mr116 : mRt 116 = some .int := by decide +kernel
theorem mh116 : mHn 116 = [] := by decide +kernel
def il117 : List (Nat × Instr) := [(0, .iload_n 1), (1, .ifCond .lt 17), (4, .iload_n 1), (5, .aload_n 0), (6, .getfield 33), (9, .getfield 109), (12, .getfield 113), (15, .if_icmp .lt 11), (18, .new 160), (21, .dup), (22, .invokespecial 162), (25, .athrow), (26, .iload_n 2), (27, .iconst 0), (28, .iconst 3), (29, .invokestatic 71), (32, .iload_n 2), (33, .tableswitch 69 0 2 #[27, 39, 54]), (60, .aload_n 0), (61, .getfield 33), (64, .getfield 109), (67, .iload_n 1), (68, .invokevirtual 201), (71, .ireturn), (72, .aload_n 0), (73, .getfield 33), (76, .getfield 109), (79, .iload_n 1), (80, .invokevirtual 204), (83, .invokestatic 207), (86, .ireturn), (87, .aload_n 0), (88, .getfield 33), (91, .getfield 109), (94, .iload_n 1), (95, .invokevirtual 210), (98, .invokestatic 207), (101, .ireturn), (102, .aload_n 0), (103, .getfield 33), (106, .getfield 109), (109, .iload_n 1), (110, .invokevirtual 213), (113, .ireturn)]
set_option maxRecDepth 100000 in
theorem id117 : scan (mCd 117).data.toList 0 il117 = true := by decide +kernel
theorem mm117 : mKd 117 = 1 ∧ mAr 117 = 2 ∧ mMx 117 = 3 := by decide +kernel
theorem mo117 : mOw 117 = 8 := by decide +kernel
theorem mr117 : mRt 117 = some .int := by decide +kernel
theorem mh117 : mHn 117 = [] := by decide +kernel
def il118 : List (Nat × Instr) := [(0, .iload_n 0), (1, .ifCond .ge 7), (4, .iconst (-1)), (5, .goto 4), (8, .iload_n 0), (9, .ireturn)]
set_option maxRecDepth 100000 in
theorem id118 : scan (mCd 118).data.toList 0 il118 = true := by decide +kernel
theorem mm118 : mKd 118 = 0 ∧ mAr 118 = 1 ∧ mMx 118 = 1 := by decide +kernel
theorem mo118 : mOw 118 = 8 := by decide +kernel
theorem mr118 : mRt 118 = some .int := by decide +kernel
theorem mh118 : mHn 118 = [] := by decide +kernel
def il119 : List (Nat × Instr) := [(0, .iload_n 1), (1, .iconst 0), (2, .iconst 4), (3, .invokestatic 71), (6, .iload_n 1), (7, .tableswitch 69 0 3 #[29, 38, 47, 58]), (36, .aload_n 0), (37, .getfield 33), (40, .invokevirtual 216), (43, .i2l), (44, .lreturn), (45, .aload_n 0), (46, .getfield 33), (49, .invokevirtual 219), (52, .i2l), (53, .lreturn), (54, .aload_n 0), (55, .getfield 33), (58, .getfield 192), (61, .getfield 222), (64, .lreturn), (65, .aload_n 0), (66, .getfield 33), (69, .getfield 192), (72, .getfield 226), (75, .lreturn), (76, .aload_n 0), (77, .getfield 33), (80, .getfield 192), (83, .getfield 229), (86, .lreturn)]
set_option maxRecDepth 100000 in
theorem id119 : scan (mCd 119).data.toList 0 il119 = true := by decide +kernel
theorem mm119 : mKd 119 = 1 ∧ mAr 119 = 1 ∧ mMx 119 = 2 := by decide +kernel
theorem mo119 : mOw 119 = 8 := by decide +kernel
theorem mr119 : mRt 119 = some .long := by decide +kernel
theorem mh119 : mHn 119 = [] := by decide +kernel
def il120 : List (Nat × Instr) := [(0, .iload_n 1), (1, .iconst 0), (2, .iconst 3), (3, .invokestatic 71), (6, .iload_n 1), (7, .tableswitch 58 0 2 #[25, 36, 47]), (32, .aload_n 0), (33, .getfield 33), (36, .getfield 192), (39, .getfield 232), (42, .ireturn), (43, .aload_n 0), (44, .getfield 33), (47, .getfield 192), (50, .getfield 233), (53, .ireturn), (54, .aload_n 0), (55, .getfield 33), (58, .getfield 192), (61, .getfield 234), (64, .ireturn), (65, .aload_n 0), (66, .getfield 33), (69, .getfield 192), (72, .getfield 235), (75, .ireturn)]
set_option maxRecDepth 100000 in
theorem id120 : scan (mCd 120).data.toList 0 il120 = true := by decide +kernel
theorem mm120 : mKd 120 = 1 ∧ mAr 120 = 1 ∧ mMx 120 = 2 := by decide +kernel
theorem mo120 : mOw 120 = 8 := by decide +kernel
theorem mr120 : mRt 120 = some .int := by decide +kernel
theorem mh120 : mHn 120 = [] := by decide +kernel
def il121 : List (Nat × Instr) := [(0, .aload_n 0), (1, .iload_n 1), (2, .invokevirtual 124), (5, .astore 4), (7, .aload_n 0), (8, .iload_n 2), (9, .invokevirtual 124), (12, .astore 5), (14, .iload_n 1), (15, .iload_n 2), (16, .if_icmp .ne 11), (19, .new 243), (22, .dup), (23, .invokespecial 245), (26, .athrow), (27, .aload 4), (29, .getfield 128), (32, .aload 5), (34, .getfield 128), (37, .if_icmp .ge 7), (40, .iconst 1), (41, .goto 4), (44, .iconst 0), (45, .istore 6), (47, .iload 6), (49, .ifCond .eq 8), (52, .aload 4), (54, .goto 5), (57, .aload 5), (59, .astore 7), (61, .iload 6), (63, .ifCond .eq 8), (66, .aload 5), (68, .goto 5), (71, .aload 4), (73, .astore 8), (75, .aload 7), (77, .aload 8), (79, .invokestatic 246), (82, .istore 9), (84, .iload 9), (86, .iconst (-1)), (87, .if_icmp .ne 6), (90, .bipush (-100)), (92, .ireturn), (93, .iload 6), (95, .iload_n 3), (96, .if_icmp .eq 7), (99, .iconst 1), (100, .goto 4), (103, .iconst 0), (104, .istore 10), (106, .iload 10), (108, .ifCond .eq 22), (111, .aload 7), (113, .getfield 133), (116, .iload 9), (118, .aload 7), (120, .aload 8), (122, .invokevirtual 250), (125, .imul), (126, .isub), (127, .goto 19), (130, .aload 8), (132, .getfield 133), (135, .iload 9), (137, .aload 8), (139, .aload 7), (141, .invokevirtual 250), (144, .imul), (145, .iadd), (146, .ireturn)]
set_option maxRecDepth 100000 in
theorem id121 : scan (mCd 121).data.toList 0 il121 = true := by decide +kernel
theorem mm121 : mKd 121 = 1 ∧ mAr 121 = 3 ∧ mMx 121 = 11 := by decide +kernel
theorem mo121 : mOw 121 = 8 := by decide +kernel
theorem mr121 : mRt 121 = some .int := by decide +kernel
theorem mh121 : mHn 121 = [] := by decide +kernel
def il122 : List (Nat × Instr) := [(0, .aload_n 0), (1, .iload_n 1), (2, .invokevirtual 124), (5, .astore_n 3), (6, .iload_n 2), (7, .iconst 0), (8, .bipush 100), (10, .invokestatic 71), (13, .aload_n 3), (14, .iload_n 2), (15, .invokevirtual 254), (18, .ireturn)]
set_option maxRecDepth 100000 in
theorem id122 : scan (mCd 122).data.toList 0 il122 = true := by decide +kernel
theorem mm122 : mKd 122 = 1 ∧ mAr 122 = 2 ∧ mMx 122 = 4 := by decide +kernel
theorem mo122 : mOw 122 = 8 := by decide +kernel
theorem mr122 : mRt 122 = some .int := by decide +kernel
theorem mh122 : mHn 122 = [] := by decide +kernel
def il123 : List (Nat × Instr) := [(0, .aload_n 0), (1, .iload_n 1), (2, .invokevirtual 124), (5, .invokevirtual 257), (8, .ireturn)]
set_option maxRecDepth 100000 in
theorem id123 : scan (mCd 123).data.toList 0 il123 = true := by decide +kernel
theorem mm123 : mKd 123 = 1 ∧ mAr 123 = 1 ∧ mMx 123 = 2 := by decide +kernel
theorem mo123 : mOw 123 = 8 := by decide +kernel
theorem mr123 : mRt 123 = some .int := by decide +kernel
theorem mh123 : mHn 123 = [] := by decide +kernel
def il124 : List (Nat × Instr) := [(0, .aload_n 0), (1, .iload_n 1), (2, .invokevirtual 124), (5, .astore_n 2), (6, .aload_n 0), (7, .getfield 37), (10, .aload_n 0), (11, .getfield 33), (14, .invokevirtual 87), (17, .iconst 1), (18, .istore_n 3), (19, .iload_n 3), (20, .sipush 3000), (23, .if_icmp .gt 39), (26, .aload_n 0), (27, .getfield 37), (30, .iconst 1), (31, .invokevirtual 266), (34, .pop), (35, .aload_n 0), (36, .getfield 37), (39, .getfield 236), (42, .iload_n 1), (43, .aaload), (44, .getfield 145), (47, .aload_n 2), (48, .getfield 145), (51, .if_icmp .eq 5), (54, .iload_n 3), (55, .ireturn), (56, .iinc 3 1), (59, .goto (-40)), (62, .iconst (-1)), (63, .ireturn)]
set_option maxRecDepth 100000 in
theorem id124 : scan (mCd 124).data.toList 0 il124 = true := by decide +kernel
theorem mm124 : mKd 124 = 1 ∧ mAr 124 = 1 ∧ mMx 124 = 4 := by decide +kernel
theorem mo124 : mOw 124 = 8 := by decide +kernel
theorem mr124 : mRt 124 = some .int := by decide +kernel
theorem mh124 : mHn 124 = [] := by decide +kernel
def il125 : List (Nat × Instr) := [(0, .aload_n 0), (1, .iload_n 1), (2, .invokevirtual 124), (5, .pop), (6, .aload_n 0), (7, .iload_n 2), (8, .invokevirtual 269), (11, .aload_n 0), (12, .getfield 37), (15, .getfield 236), (18, .iload_n 1), (19, .aaload), (20, .getfield 128), (23, .ireturn)]
set_option maxRecDepth 100000 in
theorem id125 : scan (mCd 125).data.toList 0 il125 = true := by decide +kernel
theorem mm125 : mKd 125 = 1 ∧ mAr 125 = 2 ∧ mMx 125 = 3 := by decide +kernel
theorem mo125 : mOw 125 = 8 := by decide +kernel
theorem mr125 : mRt 125 = some .int := by decide +kernel
theorem mh125 : mHn 125 = [] := by decide +kernel
def il126 : List (Nat × Instr) := [(0, .iload_n 1), (1, .iconst 0), (2, .bipush 50), (4, .invokestatic 71), (7, .aload_n 0), (8, .getfield 37), (11, .aload_n 0), (12, .getfield 33), (15, .invokevirtual 87), (18, .aload_n 0), (19, .getfield 37), (22, .iload_n 1), (23, .bipush 60), (25, .imul), (26, .invokevirtual 266), (29, .pop), (30, .return_)]
set_option maxRecDepth 100000 in
theorem id126 : scan (mCd 126).data.toList 0 il126 = true := by decide +kernel
theorem mm126 : mKd 126 = 1 ∧ mAr 126 = 1 ∧ mMx 126 = 2 := by decide +kernel
theorem mo126 : mOw 126 = 8 := by decide +kernel
theorem mr126 : mRt 126 = none := by decide +kernel
theorem mh126 : mHn 126 = [] := by decide +kernel
def il127 : List (Nat × Instr) := [(0, .aload_n 0), (1, .iload_n 1), (2, .invokevirtual 124), (5, .pop), (6, .aload_n 0), (7, .iload_n 2), (8, .invokevirtual 269), (11, .aload_n 0), (12, .getfield 37), (15, .getfield 236), (18, .iload_n 1), (19, .aaload), (20, .getfield 133), (23, .ireturn)]
set_option maxRecDepth 100000 in
theorem id127 : scan (mCd 127).data.toList 0 il127 = true := by decide +kernel
theorem mm127 : mKd 127 = 1 ∧ mAr 127 = 2 ∧ mMx 127 = 3 := by decide +kernel
theorem mo127 : mOw 127 = 8 := by decide +kernel
theorem mr127 : mRt 127 = some .int := by decide +kernel
theorem mh127 : mHn 127 = [] := by decide +kernel
def il128 : List (Nat × Instr) := [(0, .aload_n 0), (1, .iload_n 1), (2, .invokevirtual 269), (5, .aload_n 0), (6, .getfield 37), (9, .getfield 192), (12, .getfield 232), (15, .aload_n 0), (16, .getfield 33), (19, .getfield 192), (22, .getfield 232), (25, .isub), (26, .ireturn)]
set_option maxRecDepth 100000 in
theorem id128 : scan (mCd 128).data.toList 0 il128 = true := by decide +kernel
theorem mm128 : mKd 128 = 1 ∧ mAr 128 = 1 ∧ mMx 128 = 2 := by decide +kernel
theorem mo128 : mOw 128 = 8 := by decide +kernel
theorem mr128 : mRt 128 = some .int := by decide +kernel
theorem mh128 : mHn 128 = [] := by decide +kernel
def il129 : List (Nat × Instr) := [(0, .aload_n 0), (1, .iload_n 1), (2, .invokevirtual 269), (5, .aload_n 0), (6, .getfield 37), (9, .getfield 192), (12, .getfield 233), (15, .aload_n 0), (16, .getfield 33), (19, .getfield 192), (22, .getfield 233), (25, .isub), (26, .ireturn)]
set_option maxRecDepth 100000 in
theorem id129 : scan (mCd 129).data.toList 0 il129 = true := by decide +kernel
theorem mm129 : mKd 129 = 1 ∧ mAr 129 = 1 ∧ mMx 129 = 2 := by decide +kernel
theorem mo129 : mOw 129 = 8 := by decide +kernel
theorem mr129 : mRt 129 = some .int := by decide +kernel
theorem mh129 : mHn 129 = [] := by decide +kernel
def il130 : List (Nat × Instr) := [(0, .aload_n 0), (1, .iload_n 1), (2, .invokevirtual 269), (5, .aload_n 0), (6, .getfield 37), (9, .invokevirtual 219), (12, .i2l), (13, .lreturn)]
set_option maxRecDepth 100000 in
theorem id130 : scan (mCd 130).data.toList 0 il130 = true := by decide +kernel
theorem mm130 : mKd 130 = 1 ∧ mAr 130 = 1 ∧ mMx 130 = 2 := by decide +kernel
theorem mo130 : mOw 130 = 8 := by decide +kernel
theorem mr130 : mRt 130 = some .long := by decide +kernel
theorem mh130 : mHn 130 = [] := by decide +kernel
def il131 : List (Nat × Instr) := [(0, .iload_n 2), (1, .iconst 0), (2, .bipush 100), (4, .invokestatic 71), (7, .iload_n 3), (8, .iconst 0), (9, .bipush 50), (11, .invokestatic 71), (14, .aload_n 0), (15, .getfield 37), (18, .aload_n 0), (19, .getfield 33), (22, .invokevirtual 87), (25, .iload_n 1), (26, .ifCond .eq 13), (29, .aload_n 0), (30, .getfield 37), (33, .getfield 174), (36, .goto 10), (39, .aload_n 0), (40, .getfield 37), (43, .getfield 178), (46, .astore 4), (48, .aload 4), (50, .iload_n 2), (51, .putfield 170), (54, .aload_n 0), (55, .getfield 37), (58, .iload_n 3), (59, .bipush 60), (61, .imul), (62, .invokevirtual 266), (65, .pop), (66, .aload_n 0), (67, .getfield 37), (70, .invokevirtual 219), (73, .i2l), (74, .lreturn)]
set_option maxRecDepth 100000 in
theorem id131 : scan (mCd 131).data.toList 0 il131 = true := by decide +kernel
theorem mm131 : mKd 131 = 1 ∧ mAr 131 = 3 ∧ mMx 131 = 5 := by decide +kernel
theorem mo131 : mOw 131 = 8 := by decide +kernel
theorem mr131 : mRt 131 = some .long := by decide +kernel
theorem mh131 : mHn 131 = [] := by decide +kernel
def il132 : List (Nat × Instr) := [(0, .aload_n 0), (1, .iload_n 1), (2, .invokevirtual 124), (5, .astore_n 2), (6, .aload_n 0), (7, .getfield 33), (10, .invokevirtual 219), (13, .istore_n 3), (14, .iload_n 3), (15, .ifCond .ne 5), (18, .fconst 0), (19, .freturn), (20, .aload_n 2), (21, .invokevirtual 272), (24, .i2f), (25, .iload_n 3), (26, .i2f), (27, .fdiv), (28, .freturn)]
set_option maxRecDepth 100000 in
theorem id132 : scan (mCd 132).data.toList 0 il132 = true := by decide +kernel
theorem mm132 : mKd 132 = 1 ∧ mAr 132 = 1 ∧ mMx 132 = 4 := by decide +kernel
theorem mo132 : mOw 132 = 8 := by decide +kernel
theorem mr132 : mRt 132 = some .float := by decide +kernel
theorem mh132 : mHn 132 = [] := by decide +kernel
def il133 : List (Nat × Instr) := [(0, .iload_n 1), (1, .iconst 1), (2, .sipush 600), (5, .invokestatic 71), (8, .aload_n 0), (9, .getfield 52), (12, .aload_n 0), (13, .getfield 33), (16, .invokevirtual 83), (19, .aload_n 0), (20, .getfield 33), (23, .iload_n 1), (24, .invokevirtual 266), (27, .ireturn)]
set_option maxRecDepth 100000 in
theorem id133 : scan (mCd 133).data.toList 0 il133 = true := by decide +kernel
theorem mm133 : mKd 133 = 1 ∧ mAr 133 = 1 ∧ mMx 133 = 2 := by decide +kernel
theorem mo133 : mOw 133 = 8 := by decide +kernel
theorem mr133 : mRt 133 = some .int := by decide +kernel
theorem mh133 : mHn 133 = [] := by decide +kernel
def il134 : List (Nat × Instr) := [(0, .iload_n 1), (1, .iconst 1), (2, .bipush 50), (4, .invokestatic 71), (7, .aload_n 0), (8, .getfield 52), (11, .aload_n 0), (12, .getfield 33), (15, .invokevirtual 83), (18, .aload_n 0), (19, .getfield 33), (22, .iload_n 1), (23, .bipush 60), (25, .imul), (26, .invokevirtual 266), (29, .ireturn)]
set_option maxRecDepth 100000 in
theorem id134 : scan (mCd 134).data.toList 0 il134 = true := by decide +kernel
theorem mm134 : mKd 134 = 1 ∧ mAr 134 = 1 ∧ mMx 134 = 2 := by decide +kernel
theorem mo134 : mOw 134 = 8 := by decide +kernel
theorem mr134 : mRt 134 = some .int := by decide +kernel
theorem mh134 : mHn 134 = [] := by decide +kernel
def il135 : List (Nat × Instr) := [(0, .aload_n 0), (1, .iload_n 1), (2, .invokevirtual 124), (5, .astore_n 3), (6, .iload_n 2), (7, .bipush (-60)), (9, .bipush 60), (11, .invokestatic 71), (14, .aload_n 0), (15, .getfield 52), (18, .aload_n 0), (19, .getfield 33), (22, .invokevirtual 83), (25, .aload_n 0), (26, .getfield 33), (29, .invokevirtual 216), (32, .istore 4), (34, .aload_n 3), (35, .bipush (-60)), (37, .bipush 60), (39, .aload_n 3), (40, .getfield 133), (43, .iload_n 2), (44, .iadd), (45, .invokestatic 275), (48, .invokestatic 280), (51, .putfield 133), (54, .aload_n 0), (55, .getfield 33), (58, .iload 4), (60, .invokevirtual 283), (63, .aload_n 3), (64, .getfield 133), (67, .ireturn)]
set_option maxRecDepth 100000 in
theorem id135 : scan (mCd 135).data.toList 0 il135 = true := by decide +kernel
theorem mm135 : mKd 135 = 1 ∧ mAr 135 = 2 ∧ mMx 135 = 5 := by decide +kernel
theorem mo135 : mOw 135 = 8 := by decide +kernel
theorem mr135 : mRt 135 = some .int := by decide +kernel
theorem mh135 : mHn 135 = [] := by decide +kernel
def il136 : List (Nat × Instr) := [(0, .aload_n 0), (1, .iload_n 1), (2, .invokevirtual 124), (5, .astore_n 3), (6, .iload_n 2), (7, .iconst 1), (8, .bipush 20), (10, .invokestatic 71), (13, .aload_n 0), (14, .getfield 52), (17, .aload_n 0), (18, .getfield 33), (21, .invokevirtual 83), (24, .aload_n 0), (25, .getfield 33), (28, .invokevirtual 216), (31, .istore 4), (33, .aload_n 3), (34, .getfield 136), (37, .istore 5), (39, .aload_n 3), (40, .iload_n 2), (41, .putfield 136), (44, .aload_n 0), (45, .getfield 33), (48, .iload 4), (50, .invokevirtual 283), (53, .iload 5), (55, .ireturn)]
set_option maxRecDepth 100000 in
theorem id136 : scan (mCd 136).data.toList 0 il136 = true := by decide +kernel
theorem mm136 : mKd 136 = 1 ∧ mAr 136 = 2 ∧ mMx 136 = 6 := by decide +kernel
theorem mo136 : mOw 136 = 8 := by decide +kernel
theorem mr136 : mRt 136 = some .int := by decide +kernel
theorem mh136 : mHn 136 = [] := by decide +kernel
def il137 : List (Nat × Instr) := [(0, .aload_n 0), (1, .iload_n 1), (2, .invokevirtual 163), (5, .astore_n 3), (6, .iload_n 2), (7, .iconst 0), (8, .bipush 100), (10, .invokestatic 71), (13, .aload_n 0), (14, .getfield 52), (17, .aload_n 0), (18, .getfield 33), (21, .invokevirtual 83), (24, .aload_n 3), (25, .getfield 170), (28, .istore 4), (30, .aload_n 3), (31, .iload_n 2), (32, .putfield 170), (35, .iload 4), (37, .ireturn)]
set_option maxRecDepth 100000 in
theorem id137 : scan (mCd 137).data.toList 0 il137 = true := by decide +kernel
theorem mm137 : mKd 137 = 1 ∧ mAr 137 = 2 ∧ mMx 137 = 5 := by decide +kernel
theorem mo137 : mOw 137 = 8 := by decide +kernel
theorem mr137 : mRt 137 = some .int := by decide +kernel
theorem mh137 : mHn 137 = [] := by decide +kernel
def il138 : List (Nat × Instr) := [(0, .aload_n 0), (1, .iload_n 1), (2, .invokevirtual 154), (5, .iload_n 2), (6, .bipush (-60)), (8, .bipush 60), (10, .invokestatic 71), (13, .iload_n 3), (14, .iconst 1), (15, .bipush 20), (17, .invokestatic 71), (20, .aload_n 0), (21, .getfield 33), (24, .getfield 90), (27, .bipush 10), (29, .if_icmp .ge 14), (32, .aload_n 0), (33, .getfield 33), (36, .iload_n 1), (37, .invokevirtual 286), (40, .ifCond .eq 11), (43, .new 64), (46, .dup), (47, .invokespecial 66), (50, .athrow), (51, .aload_n 0), (52, .getfield 52), (55, .aload_n 0), (56, .getfield 33), (59, .invokevirtual 83), (62, .aload_n 0), (63, .getfield 33), (66, .invokevirtual 216), (69, .istore 4), (71, .aload_n 0), (72, .getfield 33), (75, .iconst 0), (76, .iload_n 1), (77, .iload_n 2), (78, .iload_n 3), (79, .invokevirtual 290), (82, .aload_n 0), (83, .getfield 33), (86, .iload 4), (88, .invokevirtual 283), (91, .aload_n 0), (92, .getfield 33), (95, .getfield 90), (98, .iconst 1), (99, .isub), (100, .ireturn)]
set_option maxRecDepth 100000 in
theorem id138 : scan (mCd 138).data.toList 0 il138 = true := by decide +kernel
theorem mm138 : mKd 138 = 1 ∧ mAr 138 = 3 ∧ mMx 138 = 5 := by decide +kernel
theorem mo138 : mOw 138 = 8 := by decide +kernel
theorem mr138 : mRt 138 = some .int := by decide +kernel
theorem mh138 : mHn 138 = [] := by decide +kernel
def il139 : List (Nat × Instr) := [(0, .aload_n 0), (1, .iload_n 1), (2, .invokevirtual 124), (5, .pop), (6, .aload_n 0), (7, .getfield 52), (10, .aload_n 0), (11, .getfield 33), (14, .invokevirtual 83), (17, .aload_n 0), (18, .getfield 33), (21, .invokevirtual 216), (24, .istore_n 2), (25, .aload_n 0), (26, .getfield 33), (29, .iload_n 1), (30, .invokevirtual 294), (33, .aload_n 0), (34, .getfield 33), (37, .iload_n 2), (38, .invokevirtual 283), (41, .aload_n 0), (42, .getfield 33), (45, .getfield 90), (48, .ireturn)]
set_option maxRecDepth 100000 in
theorem id139 : scan (mCd 139).data.toList 0 il139 = true := by decide +kernel
theorem mm139 : mKd 139 = 1 ∧ mAr 139 = 1 ∧ mMx 139 = 3 := by decide +kernel
theorem mo139 : mOw 139 = 8 := by decide +kernel
theorem mr139 : mRt 139 = some .int := by decide +kernel
theorem mh139 : mHn 139 = [] := by decide +kernel
def il140 : List (Nat × Instr) := [(0, .aload_n 0), (1, .iload_n 1), (2, .invokevirtual 124), (5, .astore_n 2), (6, .aload_n 0), (7, .getfield 52), (10, .aload_n 0), (11, .getfield 33), (14, .invokevirtual 83), (17, .aload_n 0), (18, .getfield 33), (21, .invokevirtual 216), (24, .istore_n 3), (25, .aload_n 2), (26, .aload_n 2), (27, .getfield 133), (30, .ineg), (31, .putfield 133), (34, .aload_n 0), (35, .getfield 33), (38, .iload_n 3), (39, .invokevirtual 283), (42, .aload_n 2), (43, .getfield 133), (46, .ireturn)]
set_option maxRecDepth 100000 in
theorem id140 : scan (mCd 140).data.toList 0 il140 = true := by decide +kernel
theorem mm140 : mKd 140 = 1 ∧ mAr 140 = 1 ∧ mMx 140 = 4 := by decide +kernel
theorem mo140 : mOw 140 = 8 := by decide +kernel
theorem mr140 : mRt 140 = some .int := by decide +kernel
theorem mh140 : mHn 140 = [] := by decide +kernel
def il141 : List (Nat × Instr) := [(0, .aload_n 0), (1, .iload_n 1), (2, .invokevirtual 124), (5, .astore_n 3), (6, .aload_n 0), (7, .iload_n 2), (8, .invokevirtual 154), (11, .iload_n 2), (12, .aload_n 3), (13, .getfield 128), (16, .if_icmp .eq 22), (19, .aload_n 0), (20, .getfield 33), (23, .iload_n 2), (24, .invokevirtual 286), (27, .ifCond .eq 11), (30, .new 64), (33, .dup), (34, .invokespecial 66), (37, .athrow), (38, .aload_n 0), (39, .getfield 52), (42, .aload_n 0), (43, .getfield 33), (46, .invokevirtual 83), (49, .aload_n 3), (50, .getfield 128), (53, .istore 4), (55, .aload_n 3), (56, .iload_n 2), (57, .putfield 128), (60, .aload_n 0), (61, .getfield 33), (64, .invokevirtual 297), (67, .iload 4), (69, .ireturn)]
set_option maxRecDepth 100000 in
theorem id141 : scan (mCd 141).data.toList 0 il141 = true := by decide +kernel
theorem mm141 : mKd 141 = 1 ∧ mAr 141 = 2 ∧ mMx 141 = 5 := by decide +kernel
theorem mo141 : mOw 141 = 8 := by decide +kernel
theorem mr141 : mRt 141 = some .int := by decide +kernel
theorem mh141 : mHn 141 = [] := by decide +kernel
def il142 : List (Nat × Instr) := [(0, .iload_n 1), (1, .invokestatic 300), (4, .aload_n 0), (5, .getfield 56), (8, .iload_n 1), (9, .aaload), (10, .aload_n 0), (11, .getfield 33), (14, .invokevirtual 87), (17, .aload_n 0), (18, .getfield 60), (21, .iload_n 1), (22, .iconst 1), (23, .bastore), (24, .aload_n 0), (25, .getfield 33), (28, .getfield 106), (31, .ireturn)]
set_option maxRecDepth 100000 in
theorem id142 : scan (mCd 142).data.toList 0 il142 = true := by decide +kernel
theorem mm142 : mKd 142 = 1 ∧ mAr 142 = 1 ∧ mMx 142 = 2 := by decide +kernel
theorem mo142 : mOw 142 = 8 := by decide +kernel
theorem mr142 : mRt 142 = some .int := by decide +kernel
theorem mh142 : mHn 142 = [] := by decide +kernel
def il143 : List (Nat × Instr) := [(0, .iload_n 0), (1, .ifCond .lt 8), (4, .iload_n 0), (5, .iconst 2), (6, .if_icmp .lt 11), (9, .new 160), (12, .dup), (13, .invokespecial 162), (16, .athrow), (17, .return_)]
set_option maxRecDepth 100000 in
theorem id143 : scan (mCd 143).data.toList 0 il143 = true := by decide +kernel
theorem mm143 : mKd 143 = 0 ∧ mAr 143 = 1 ∧ mMx 143 = 1 := by decide +kernel
theorem mo143 : mOw 143 = 8 := by decide +kernel
theorem mr143 : mRt 143 = none := by decide +kernel
theorem mh143 : mHn 143 = [] := by decide +kernel
def il144 : List (Nat × Instr) := [(0, .iload_n 1), (1, .invokestatic 300), (4, .aload_n 0), (5, .getfield 60), (8, .iload_n 1), (9, .baload), (10, .ifCond .ne 11), (13, .new 64), (16, .dup), (17, .invokespecial 66), (20, .athrow), (21, .aload_n 0), (22, .getfield 52), (25, .aload_n 0), (26, .getfield 33), (29, .invokevirtual 83), (32, .aload_n 0), (33, .getfield 33), (36, .aload_n 0), (37, .getfield 56), (40, .iload_n 1), (41, .aaload), (42, .invokevirtual 87), (45, .aload_n 0), (46, .getfield 33), (49, .getfield 106), (52, .ireturn)]
set_option maxRecDepth 100000 in
theorem id144 : scan (mCd 144).data.toList 0 il144 = true := by decide +kernel
theorem mm144 : mKd 144 = 1 ∧ mAr 144 = 1 ∧ mMx 144 = 2 := by decide +kernel
theorem mo144 : mOw 144 = 8 := by decide +kernel
theorem mr144 : mRt 144 = some .int := by decide +kernel
theorem mh144 : mHn 144 = [] := by decide +kernel
def il145 : List (Nat × Instr) := [(0, .aload_n 0), (1, .getfield 52), (4, .getfield 303), (7, .ifCond .ne 11), (10, .new 64), (13, .dup), (14, .invokespecial 66), (17, .athrow), (18, .aload_n 0), (19, .getfield 52), (22, .aload_n 0), (23, .getfield 33), (26, .invokevirtual 306), (29, .aload_n 0), (30, .getfield 52), (33, .getfield 303), (36, .ireturn)]
set_option maxRecDepth 100000 in
theorem id145 : scan (mCd 145).data.toList 0 il145 = true := by decide +kernel
theorem mm145 : mKd 145 = 1 ∧ mAr 145 = 0 ∧ mMx 145 = 1 := by decide +kernel
theorem mo145 : mOw 145 = 8 := by decide +kernel
theorem mr145 : mRt 145 = some .int := by decide +kernel
theorem mh145 : mHn 145 = [] := by decide +kernel
def il146 : List (Nat × Instr) := [(0, .iload_n 1), (1, .ifCond .lt 14), (4, .iload_n 1), (5, .aload_n 0), (6, .getfield 20), (9, .getfield 309), (12, .if_icmp .lt 11), (15, .new 181), (18, .dup), (19, .invokespecial 183), (22, .athrow), (23, .aload_n 0), (24, .getfield 20), (27, .getfield 324), (30, .iload_n 1), (31, .baload), (32, .ireturn)]
set_option maxRecDepth 100000 in
theorem id146 : scan (mCd 146).data.toList 0 il146 = true := by decide +kernel
theorem mm146 : mKd 146 = 1 ∧ mAr 146 = 1 ∧ mMx 146 = 2 := by decide +kernel
theorem mo146 : mOw 146 = 8 := by decide +kernel
theorem mr146 : mRt 146 = some .int := by decide +kernel
theorem mh146 : mHn 146 = [] := by decide +kernel
def il147 : List (Nat × Instr) := [(0, .aload_n 0), (1, .getfield 3), (4, .ireturn)]
set_option maxRecDepth 100000 in
theorem id147 : scan (mCd 147).data.toList 0 il147 = true := by decide +kernel
theorem mm147 : mKd 147 = 1 ∧ mAr 147 = 0 ∧ mMx 147 = 1 := by decide +kernel
theorem mo147 : mOw 147 = 9 := by decide +kernel
theorem mr147 : mRt 147 = some .int := by decide +kernel
theorem mh147 : mHn 147 = [] := by decide +kernel
def il148 : List (Nat × Instr) := [(0, .aload_n 0), (1, .invokespecial 11), (4, .aload_n 0), (5, .sipush 378), (8, .newarray .long), (10, .putfield 17), (13, .aload_n 0), (14, .sipush 378), (17, .newarray .long), (19, .putfield 21), (22, .aload_n 0), (23, .aload_n 0), (24, .getfield 17), (27, .putfield 24), (30, .aload_n 0), (31, .sipush 378), (34, .newarray .long), (36, .putfield 27), (39, .aload_n 0), (40, .sipush 400), (43, .newarray .byte), (45, .putfield 30), (48, .aload_n 0), (49, .iconst (-1)), (50, .putfield 34), (53, .aload_n 0), (54, .sipush 756), (57, .newarray .long), (59, .putfield 37), (62, .aload_n 0), (63, .iconst 2), (64, .newarray .boolean), (66, .putfield 40), (69, .aload_n 0), (70, .sipush 2268), (73, .newarray .long), (75, .putfield 44), (78, .aload_n 0), (79, .sipush 300), (82, .newarray .byte), (84, .putfield 47), (87, .aload_n 0), (88, .getfield 24), (91, .iconst 0), (92, .ldc2_w 50), (95, .lastore), (96, .return_)]
set_option maxRecDepth 100000 in
theorem id148 : scan (mCd 148).data.toList 0 il148 = true := by decide +kernel
theorem mm148 : mKd 148 = 2 ∧ mAr 148 = 0 ∧ mMx 148 = 1 := by decide +kernel
theorem mo148 : mOw 148 = 9 := by decide +kernel
theorem mr148 : mRt 148 = none := by decide +kernel
theorem mh148 : mHn 148 = [] := by decide +kernel
def il149 : List (Nat × Instr) := [(0, .aload_n 0), (1, .aload_n 0), (2, .getfield 211), (5, .bipush 20), (7, .iadd), (8, .sipush 400), (11, .if_icmp .gt 7), (14, .iconst 1), (15, .goto 4), (18, .iconst 0), (19, .invokevirtual 214), (22, .ifCond .ne 5), (25, .iconst 0), (26, .ireturn), (27, .aload_n 0), (28, .iload_n 1), (29, .invokevirtual 218), (32, .aload_n 0), (33, .iload_n 2), (34, .invokevirtual 218), (37, .aload_n 0), (38, .iload_n 3), (39, .invokevirtual 218), (42, .aload_n 0), (43, .iload 4), (45, .invokevirtual 218), (48, .aload_n 0), (49, .iload 5), (51, .invokevirtual 218), (54, .aload_n 0), (55, .getfield 211), (58, .ireturn)]
set_option maxRecDepth 100000 in
theorem id149 : scan (mCd 149).data.toList 0 il149 = true := by decide +kernel
theorem mm149 : mKd 149 = 1 ∧ mAr 149 = 5 ∧ mMx 149 = 6 := by decide +kernel
theorem mo149 : mOw 149 = 9 := by decide +kernel
theorem mr149 : mRt 149 = some .int := by decide +kernel
theorem mh149 : mHn 149 = [] := by decide +kernel
def il150 : List (Nat × Instr) := [(0, .aload_n 0), (1, .iload_n 1), (2, .iconst 1), (3, .iconst 1), (4, .invokevirtual 7), (7, .ireturn)]
set_option maxRecDepth 100000 in
theorem id150 : scan (mCd 150).data.toList 0 il150 = true := by decide +kernel
theorem mm150 : mKd 150 = 1 ∧ mAr 150 = 1 ∧ mMx 150 = 2 := by decide +kernel
theorem mo150 : mOw 150 = 9 := by decide +kernel
theorem mr150 : mRt 150 = some .boolean := by decide +kernel
theorem mh150 : mHn 150 = [] := by decide +kernel
def il151 : List (Nat × Instr) := [(0, .aload_n 0), (1, .iload_n 1), (2, .ifCond .ne 7), (5, .iconst 1), (6, .goto 20), (9, .iload_n 2), (10, .ifCond .ne 7), (13, .iconst 2), (14, .goto 12), (17, .iload_n 3), (18, .ifCond .ne 7), (21, .iconst 3), (22, .goto 4), (25, .iconst 0), (26, .putfield 3), (29, .aload_n 0), (30, .getfield 3), (33, .ifCond .ne 7), (36, .iconst 1), (37, .goto 4), (40, .iconst 0), (41, .ireturn)]
set_option maxRecDepth 100000 in
theorem id151 : scan (mCd 151).data.toList 0 il151 = true := by decide +kernel
theorem mm151 : mKd 151 = 1 ∧ mAr 151 = 3 ∧ mMx 151 = 4 := by decide +kernel
theorem mo151 : mOw 151 = 9 := by decide +kernel
theorem mr151 : mRt 151 = some .boolean := by decide +kernel
theorem mh151 : mHn 151 = [] := by decide +kernel
def il152 : List (Nat × Instr) := [(0, .bipush 24), (2, .istore_n 2), (3, .iload_n 2), (4, .ifCond .lt 32), (7, .aload_n 0), (8, .getfield 30), (11, .aload_n 0), (12, .getfield 211), (15, .iload_n 1), (16, .iload_n 2), (17, .ishr), (18, .i2b), (19, .bastore), (20, .aload_n 0), (21, .dup), (22, .getfield 211), (25, .iconst 1), (26, .iadd), (27, .putfield 211), (30, .iinc 2 (-8)), (33, .goto (-30)), (36, .return_)]
set_option maxRecDepth 100000 in
theorem id152 : scan (mCd 152).data.toList 0 il152 = true := by decide +kernel
theorem mm152 : mKd 152 = 1 ∧ mAr 152 = 1 ∧ mMx 152 = 3 := by decide +kernel
theorem mo152 : mOw 152 = 9 := by decide +kernel
theorem mr152 : mRt 152 = none := by decide +kernel
theorem mh152 : mHn 152 = [] := by decide +kernel
def il153 : List (Nat × Instr) := [(0, .aload_n 0), (1, .iload_n 1), (2, .i2l), (3, .lconst 0), (4, .aload_n 0), (5, .getfield 211), (8, .i2l), (9, .invokestatic 56), (12, .invokevirtual 214), (15, .ifCond .eq 8), (18, .aload_n 0), (19, .iload_n 1), (20, .putfield 211), (23, .return_)]
set_option maxRecDepth 100000 in
theorem id153 : scan (mCd 153).data.toList 0 il153 = true := by decide +kernel
theorem mm153 : mKd 153 = 1 ∧ mAr 153 = 1 ∧ mMx 153 = 2 := by decide +kernel
theorem mo153 : mOw 153 = 9 := by decide +kernel
theorem mr153 : mRt 153 = none := by decide +kernel
theorem mh153 : mHn 153 = [] := by decide +kernel
def il154 : List (Nat × Instr) := [(0, .lload_n 0), (1, .lload_n 2), (2, .lcmp), (3, .ifCond .lt 14), (6, .lload_n 0), (7, .lload 4), (9, .lcmp), (10, .ifCond .gt 7), (13, .iconst 1), (14, .goto 4), (17, .iconst 0), (18, .ireturn)]
set_option maxRecDepth 100000 in
theorem id154 : scan (mCd 154).data.toList 0 il154 = true := by decide +kernel
theorem mm154 : mKd 154 = 0 ∧ mAr 154 = 3 ∧ mMx 154 = 6 := by decide +kernel
theorem mo154 : mOw 154 = 9 := by decide +kernel
theorem mr154 : mRt 154 = some .boolean := by decide +kernel
theorem mh154 : mHn 154 = [] := by decide +kernel
def il155 : List (Nat × Instr) := [(0, .aload_n 0), (1, .iconst 0), (2, .putfield 3), (5, .aload_n 0), (6, .aload_n 0), (7, .getfield 211), (10, .putfield 231), (13, .aload_n 0), (14, .iconst 0), (15, .putfield 211), (18, .aload_n 0), (19, .iconst 0), (20, .putfield 234), (23, .aload_n 0), (24, .iconst 0), (25, .putfield 221), (28, .aload_n 0), (29, .iconst (-1)), (30, .putfield 34), (33, .iconst 0), (34, .istore_n 1), (35, .iload_n 1), (36, .sipush 378), (39, .if_icmp .ge 16), (42, .aload_n 0), (43, .getfield 21), (46, .iload_n 1), (47, .lconst 0), (48, .lastore), (49, .iinc 1 1), (52, .goto (-17)), (55, .aload_n 0), (56, .aload_n 0), (57, .getfield 21), (60, .putfield 24), (63, .aload_n 0), (64, .invokevirtual 256), (67, .aload_n 0), (68, .invokevirtual 339), (71, .aload_n 0), (72, .invokevirtual 224), (75, .ifCond .eq 17), (78, .aload_n 0), (79, .getfield 240), (82, .ifCond .eq 10), (85, .aload_n 0), (86, .invokevirtual 342), (89, .goto (-18)), (92, .aload_n 0), (93, .aload_n 0), (94, .getfield 17), (97, .putfield 24), (100, .aload_n 0), (101, .invokevirtual 224), (104, .ifCond .ne 6), (107, .bipush (-4)), (109, .ireturn), (110, .aload_n 0), (111, .invokevirtual 345), (114, .iconst 0), (115, .istore_n 1), (116, .iload_n 1), (117, .sipush 378), (120, .if_icmp .ge 21), (123, .aload_n 0), (124, .getfield 17), (127, .iload_n 1), (128, .aload_n 0), (129, .getfield 21), (132, .iload_n 1), (133, .laload), (134, .lastore), (135, .iinc 1 1), (138, .goto (-22)), (141, .aload_n 0), (142, .invokevirtual 52), (145, .ireturn)]
set_option maxRecDepth 100000 in
theorem id155 : scan (mCd 155).data.toList 0 il155 = true := by decide +kernel
theorem mm155 : mKd 155 = 1 ∧ mAr 155 = 0 ∧ mMx 155 = 2 := by decide +kernel
theorem mo155 : mOw 155 = 9 := by decide +kernel
theorem mr155 : mRt 155 = some .int := by decide +kernel
theorem mh155 : mHn 155 = [] := by decide +kernel
def il156 : List (Nat × Instr) := [(0, .aload_n 0), (1, .aload_n 0), (2, .getfield 234), (5, .invokevirtual 237), (8, .bipush 32), (10, .if_icmp .eq 16), (13, .aload_n 0), (14, .aload_n 0), (15, .getfield 234), (18, .invokevirtual 237), (21, .bipush 10), (23, .if_icmp .ne 16), (26, .aload_n 0), (27, .dup), (28, .getfield 234), (31, .iconst 1), (32, .iadd), (33, .putfield 234), (36, .goto (-36)), (39, .aload_n 0), (40, .aload_n 0), (41, .getfield 234), (44, .putfield 228), (47, .aload_n 0), (48, .aload_n 0), (49, .getfield 234), (52, .invokevirtual 237), (55, .istore_n 1), (56, .iload_n 1), (57, .iconst (-1)), (58, .if_icmp .ne 11), (61, .aload_n 0), (62, .iconst 0), (63, .putfield 240), (66, .goto 169), (69, .iload_n 1), (70, .i2l), (71, .ldc2_w 243), (74, .ldc2_w 245), (77, .invokestatic 56), (80, .ifCond .eq 45), (83, .aload_n 0), (84, .aload_n 0), (85, .getfield 234), (88, .invokevirtual 237), (91, .i2l), (92, .ldc2_w 243), (95, .ldc2_w 245), (98, .invokestatic 56), (101, .ifCond .eq 16), (104, .aload_n 0), (105, .dup), (106, .getfield 234), (109, .iconst 1), (110, .iadd), (111, .putfield 234), (114, .goto (-31)), (117, .aload_n 0), (118, .iconst 1), (119, .putfield 240), (122, .goto 113), (125, .iload_n 1), (126, .i2l), (127, .ldc2_w 247), (130, .ldc2_w 249), (133, .invokestatic 56), (136, .ifCond .eq 79), (139, .aload_n 0), (140, .iconst 0), (141, .putfield 251), (144, .aload_n 0), (145, .aload_n 0), (146, .getfield 234), (149, .invokevirtual 237), (152, .i2l), (153, .ldc2_w 247), (156, .ldc2_w 249), (159, .invokestatic 56), (162, .ifCond .eq 45), (165, .aload_n 0), (166, .sipush 9999), (169, .bipush 10), (171, .aload_n 0), (172, .getfield 251), (175, .imul), (176, .aload_n 0), (177, .aload_n 0), (178, .getfield 234), (181, .invokevirtual 237), (184, .iadd), (185, .bipush 48), (187, .isub), (188, .invokestatic 254), (191, .putfield 251), (194, .aload_n 0), (195, .dup), (196, .getfield 234), (199, .iconst 1), (200, .iadd), (201, .putfield 234), (204, .goto (-60)), (207, .aload_n 0), (208, .iconst 2), (209, .putfield 240), (212, .goto 23), (215, .aload_n 0), (216, .iconst 3), (217, .putfield 240), (220, .aload_n 0), (221, .iload_n 1), (222, .putfield 251), (225, .aload_n 0), (226, .dup), (227, .getfield 234), (230, .iconst 1), (231, .iadd), (232, .putfield 234), (235, .return_)]
set_option maxRecDepth 100000 in
theorem id156 : scan (mCd 156).data.toList 0 il156 = true := by decide +kernel
theorem mm156 : mKd 156 = 1 ∧ mAr 156 = 0 ∧ mMx 156 = 2 := by decide +kernel
theorem mo156 : mOw 156 = 9 := by decide +kernel
theorem mr156 : mRt 156 = none := by decide +kernel
theorem mh156 : mHn 156 = [] := by decide +kernel
def il157 : List (Nat × Instr) := [(0, .iload_n 1), (1, .aload_n 0), (2, .getfield 231), (5, .if_icmp .ge 16), (8, .aload_n 0), (9, .getfield 30), (12, .iload_n 1), (13, .baload), (14, .sipush 255), (17, .iand), (18, .goto 4), (21, .iconst (-1)), (22, .ireturn)]
set_option maxRecDepth 100000 in
theorem id157 : scan (mCd 157).data.toList 0 il157 = true := by decide +kernel
theorem mm157 : mKd 157 = 1 ∧ mAr 157 = 1 ∧ mMx 157 = 2 := by decide +kernel
theorem mo157 : mOw 157 = 9 := by decide +kernel
theorem mr157 : mRt 157 = some .int := by decide +kernel
theorem mh157 : mHn 157 = [] := by decide +kernel
def il158 : List (Nat × Instr) := [(0, .aload_n 0), (1, .ldc_w 281), (4, .invokevirtual 295), (7, .aload_n 0), (8, .getfield 24), (11, .iconst 0), (12, .aload_n 0), (13, .bipush 10), (15, .sipush 200), (18, .invokevirtual 299), (21, .i2l), (22, .lastore), (23, .aload_n 0), (24, .ldc_w 283), (27, .invokevirtual 277), (30, .ifCond .eq 37), (33, .aload_n 0), (34, .invokevirtual 274), (37, .aload_n 0), (38, .getfield 24), (41, .bipush 8), (43, .aload_n 0), (44, .iconst 0), (45, .bipush 100), (47, .invokevirtual 299), (50, .i2l), (51, .lastore), (52, .aload_n 0), (53, .getfield 24), (56, .bipush 9), (58, .aload_n 0), (59, .iconst 0), (60, .bipush 100), (62, .invokevirtual 299), (65, .i2l), (66, .lastore), (67, .aload_n 0), (68, .invokevirtual 302), (71, .return_)]
set_option maxRecDepth 100000 in
theorem id158 : scan (mCd 158).data.toList 0 il158 = true := by decide +kernel
theorem mm158 : mKd 158 = 1 ∧ mAr 158 = 0 ∧ mMx 158 = 1 := by decide +kernel
theorem mo158 : mOw 158 = 9 := by decide +kernel
theorem mr158 : mRt 158 = none := by decide +kernel
theorem mh158 : mHn 158 = [] := by decide +kernel
def il159 : List (Nat × Instr) := [(0, .aload_n 0), (1, .aload_n 1), (2, .invokevirtual 277), (5, .ifCond .ne 8), (8, .aload_n 0), (9, .iconst 1), (10, .invokevirtual 268), (13, .aload_n 0), (14, .invokevirtual 274), (17, .return_)]
set_option maxRecDepth 100000 in
theorem id159 : scan (mCd 159).data.toList 0 il159 = true := by decide +kernel
theorem mm159 : mKd 159 = 1 ∧ mAr 159 = 1 ∧ mMx 159 = 2 := by decide +kernel
theorem mo159 : mOw 159 = 9 := by decide +kernel
theorem mr159 : mRt 159 = none := by decide +kernel
theorem mh159 : mHn 159 = [] := by decide +kernel
def il160 : List (Nat × Instr) := [(0, .aload_n 0), (1, .invokevirtual 224), (4, .ifCond .eq 31), (7, .aload_n 0), (8, .getfield 240), (11, .iconst 1), (12, .if_icmp .ne 23), (15, .aload_n 0), (16, .getfield 234), (19, .aload_n 0), (20, .getfield 228), (23, .isub), (24, .aload_n 1), (25, .invokevirtual 259), (28, .if_icmp .ne 7), (31, .iconst 1), (32, .goto 4), (35, .iconst 0), (36, .istore_n 2), (37, .iconst 0), (38, .istore_n 3), (39, .iload_n 3), (40, .aload_n 1), (41, .invokevirtual 259), (44, .if_icmp .ge 38), (47, .iload_n 2), (48, .ifCond .eq 34), (51, .aload_n 0), (52, .getfield 30), (55, .aload_n 0), (56, .getfield 228), (59, .iload_n 3), (60, .iadd), (61, .baload), (62, .aload_n 1), (63, .iload_n 3), (64, .invokevirtual 264), (67, .if_icmp .ne 7), (70, .iconst 1), (71, .goto 4), (74, .iconst 0), (75, .istore_n 2), (76, .iinc 3 1), (79, .goto (-40)), (82, .iload_n 2), (83, .ireturn)]
set_option maxRecDepth 100000 in
theorem id160 : scan (mCd 160).data.toList 0 il160 = true := by decide +kernel
theorem mm160 : mKd 160 = 1 ∧ mAr 160 = 1 ∧ mMx 160 = 4 := by decide +kernel
theorem mo160 : mOw 160 = 9 := by decide +kernel
theorem mr160 : mRt 160 = some .boolean := by decide +kernel
theorem mh160 : mHn 160 = [] := by decide +kernel
def il161 : List (Nat × Instr) := [(0, .aload_n 0), (1, .getfield 221), (4, .ifCond .ne 7), (7, .iconst 1), (8, .goto 4), (11, .iconst 0), (12, .ireturn)]
set_option maxRecDepth 100000 in
theorem id161 : scan (mCd 161).data.toList 0 il161 = true := by decide +kernel
theorem mm161 : mKd 161 = 1 ∧ mAr 161 = 0 ∧ mMx 161 = 1 := by decide +kernel
theorem mo161 : mOw 161 = 9 := by decide +kernel
theorem mr161 : mRt 161 = some .boolean := by decide +kernel
theorem mh161 : mHn 161 = [] := by decide +kernel
def il162 : List (Nat × Instr) := [(0, .aload_n 0), (1, .invokevirtual 224), (4, .ifCond .ne 4), (7, .return_), (8, .aload_n 0), (9, .iload_n 1), (10, .putfield 221), (13, .aload_n 0), (14, .aload_n 0), (15, .getfield 228), (18, .putfield 34), (21, .return_)]
set_option maxRecDepth 100000 in
theorem id162 : scan (mCd 162).data.toList 0 il162 = true := by decide +kernel
theorem mm162 : mKd 162 = 1 ∧ mAr 162 = 1 ∧ mMx 162 = 2 := by decide +kernel
theorem mo162 : mOw 162 = 9 := by decide +kernel
theorem mr162 : mRt 162 = none := by decide +kernel
theorem mh162 : mHn 162 = [] := by decide +kernel
def il163 : List (Nat × Instr) := [(0, .aload_n 0), (1, .invokevirtual 224), (4, .ifCond .eq 7), (7, .aload_n 0), (8, .invokevirtual 256), (11, .return_)]
set_option maxRecDepth 100000 in
theorem id163 : scan (mCd 163).data.toList 0 il163 = true := by decide +kernel
theorem mm163 : mKd 163 = 1 ∧ mAr 163 = 0 ∧ mMx 163 = 1 := by decide +kernel
theorem mo163 : mOw 163 = 9 := by decide +kernel
theorem mr163 : mRt 163 = none := by decide +kernel
theorem mh163 : mHn 163 = [] := by decide +kernel
def il164 : List (Nat × Instr) := [(0, .aload_n 0), (1, .iload_n 1), (2, .iload_n 2), (3, .invokevirtual 271), (6, .istore_n 3), (7, .aload_n 0), (8, .invokevirtual 274), (11, .iload_n 3), (12, .ireturn)]
set_option maxRecDepth 100000 in
theorem id164 : scan (mCd 164).data.toList 0 il164 = true := by decide +kernel
theorem mm164 : mKd 164 = 1 ∧ mAr 164 = 2 ∧ mMx 164 = 4 := by decide +kernel
theorem mo164 : mOw 164 = 9 := by decide +kernel
theorem mr164 : mRt 164 = some .int := by decide +kernel
theorem mh164 : mHn 164 = [] := by decide +kernel
def il165 : List (Nat × Instr) := [(0, .aload_n 0), (1, .invokevirtual 224), (4, .ifCond .eq 16), (7, .aload_n 0), (8, .getfield 240), (11, .iconst 2), (12, .if_icmp .eq 8), (15, .aload_n 0), (16, .iconst 1), (17, .invokevirtual 268), (20, .aload_n 0), (21, .invokevirtual 224), (24, .ifCond .eq 23), (27, .aload_n 0), (28, .getfield 251), (31, .i2l), (32, .iload_n 1), (33, .i2l), (34, .iload_n 2), (35, .i2l), (36, .invokestatic 56), (39, .ifCond .ne 8), (42, .aload_n 0), (43, .iconst 2), (44, .invokevirtual 268), (47, .aload_n 0), (48, .invokevirtual 224), (51, .ifCond .eq 10), (54, .aload_n 0), (55, .getfield 251), (58, .goto 4), (61, .iload_n 1), (62, .ireturn)]
set_option maxRecDepth 100000 in
theorem id165 : scan (mCd 165).data.toList 0 il165 = true := by decide +kernel
theorem mm165 : mKd 165 = 1 ∧ mAr 165 = 2 ∧ mMx 165 = 3 := by decide +kernel
theorem mo165 : mOw 165 = 9 := by decide +kernel
theorem mr165 : mRt 165 = some .int := by decide +kernel
theorem mh165 : mHn 165 = [] := by decide +kernel
def il166 : List (Nat × Instr) := [(0, .aload_n 0), (1, .invokevirtual 224), (4, .ifCond .eq 20), (7, .aload_n 0), (8, .getfield 240), (11, .iconst 3), (12, .if_icmp .ne 12), (15, .aload_n 0), (16, .getfield 251), (19, .bipush 59), (21, .if_icmp .eq 8), (24, .aload_n 0), (25, .iconst 1), (26, .invokevirtual 268), (29, .aload_n 0), (30, .invokevirtual 274), (33, .return_)]
set_option maxRecDepth 100000 in
theorem id166 : scan (mCd 166).data.toList 0 il166 = true := by decide +kernel
theorem mm166 : mKd 166 = 1 ∧ mAr 166 = 0 ∧ mMx 166 = 1 := by decide +kernel
theorem mo166 : mOw 166 = 9 := by decide +kernel
theorem mr166 : mRt 166 = none := by decide +kernel
theorem mh166 : mHn 166 = [] := by decide +kernel
def il167 : List (Nat × Instr) := [(0, .aload_n 0), (1, .ldc_w 285), (4, .invokevirtual 277), (7, .ifCond .eq 10), (10, .aload_n 0), (11, .invokevirtual 333), (14, .goto 25), (17, .aload_n 0), (18, .ldc_w 287), (21, .invokevirtual 277), (24, .ifCond .eq 10), (27, .aload_n 0), (28, .invokevirtual 336), (31, .goto 8), (34, .aload_n 0), (35, .iconst 1), (36, .invokevirtual 268), (39, .return_)]
set_option maxRecDepth 100000 in
theorem id167 : scan (mCd 167).data.toList 0 il167 = true := by decide +kernel
theorem mm167 : mKd 167 = 1 ∧ mAr 167 = 0 ∧ mMx 167 = 1 := by decide +kernel
theorem mo167 : mOw 167 = 9 := by decide +kernel
theorem mr167 : mRt 167 = none := by decide +kernel
theorem mh167 : mHn 167 = [] := by decide +kernel
def il168 : List (Nat × Instr) := [(0, .aload_n 0), (1, .aload_n 0), (2, .invokevirtual 67), (5, .iconst 4), (6, .if_icmp .ne 7), (9, .iconst 1), (10, .goto 4), (13, .iconst 0), (14, .iconst 5), (15, .invokevirtual 305), (18, .aload_n 0), (19, .invokevirtual 274), (22, .aload_n 0), (23, .invokevirtual 309), (26, .istore_n 1), (27, .aload_n 0), (28, .ldc_w 283), (31, .iconst 0), (32, .bipush 100), (34, .invokevirtual 312), (37, .istore_n 2), (38, .aload_n 0), (39, .invokevirtual 302), (42, .aload_n 0), (43, .invokevirtual 224), (46, .ifCond .ne 4), (49, .return_), (50, .bipush 16), (52, .iconst 3), (53, .aload_n 0), (54, .invokevirtual 67), (57, .imul), (58, .iadd), (59, .istore_n 3), (60, .aload_n 0), (61, .getfield 24), (64, .iconst 2), (65, .dup2), (66, .laload), (67, .lconst 1), (68, .ladd), (69, .lastore), (70, .aload_n 0), (71, .getfield 24), (74, .iload_n 3), (75, .iconst 0), (76, .iadd), (77, .iload_n 1), (78, .i2l), (79, .lastore), (80, .aload_n 0), (81, .getfield 24), (84, .iload_n 3), (85, .iconst 1), (86, .iadd), (87, .iload_n 2), (88, .i2l), (89, .lastore), (90, .return_)]
set_option maxRecDepth 100000 in
theorem id168 : scan (mCd 168).data.toList 0 il168 = true := by decide +kernel
theorem mm168 : mKd 168 = 1 ∧ mAr 168 = 0 ∧ mMx 168 = 4 := by decide +kernel
theorem mo168 : mOw 168 = 9 := by decide +kernel
theorem mr168 : mRt 168 = none := by decide +kernel
theorem mh168 : mHn 168 = [] := by decide +kernel
def il169 : List (Nat × Instr) := [(0, .aload_n 0), (1, .getfield 24), (4, .iconst 2), (5, .laload), (6, .l2i), (7, .ireturn)]
set_option maxRecDepth 100000 in
theorem id169 : scan (mCd 169).data.toList 0 il169 = true := by decide +kernel
theorem mm169 : mKd 169 = 1 ∧ mAr 169 = 0 ∧ mMx 169 = 1 := by decide +kernel
theorem mo169 : mOw 169 = 9 := by decide +kernel
theorem mr169 : mRt 169 = some .int := by decide +kernel
theorem mh169 : mHn 169 = [] := by decide +kernel
def il170 : List (Nat × Instr) := [(0, .aload_n 0), (1, .invokevirtual 224), (4, .ifCond .eq 12), (7, .iload_n 1), (8, .ifCond .eq 8), (11, .aload_n 0), (12, .iload_n 2), (13, .invokevirtual 268), (16, .return_)]
set_option maxRecDepth 100000 in
theorem id170 : scan (mCd 170).data.toList 0 il170 = true := by decide +kernel
theorem mm170 : mKd 170 = 1 ∧ mAr 170 = 2 ∧ mMx 170 = 3 := by decide +kernel
theorem mo170 : mOw 170 = 9 := by decide +kernel
theorem mr170 : mRt 170 = none := by decide +kernel
theorem mh170 : mHn 170 = [] := by decide +kernel
def il171 : List (Nat × Instr) := [(0, .aload_n 0), (1, .iconst 0), (2, .aload_n 0), (3, .invokevirtual 60), (6, .iconst 1), (7, .isub), (8, .invokevirtual 271), (11, .istore_n 1), (12, .aload_n 0), (13, .aload_n 0), (14, .iload_n 1), (15, .invokevirtual 165), (18, .ifCond .ne 7), (21, .iconst 1), (22, .goto 4), (25, .iconst 0), (26, .iconst 4), (27, .invokevirtual 305), (30, .aload_n 0), (31, .invokevirtual 274), (34, .iload_n 1), (35, .ireturn)]
set_option maxRecDepth 100000 in
theorem id171 : scan (mCd 171).data.toList 0 il171 = true := by decide +kernel
theorem mm171 : mKd 171 = 1 ∧ mAr 171 = 0 ∧ mMx 171 = 2 := by decide +kernel
theorem mo171 : mOw 171 = 9 := by decide +kernel
theorem mr171 : mRt 171 = some .int := by decide +kernel
theorem mh171 : mHn 171 = [] := by decide +kernel
def il172 : List (Nat × Instr) := [(0, .aload_n 0), (1, .getfield 24), (4, .iconst 0), (5, .laload), (6, .l2i), (7, .ireturn)]
set_option maxRecDepth 100000 in
theorem id172 : scan (mCd 172).data.toList 0 il172 = true := by decide +kernel
theorem mm172 : mKd 172 = 1 ∧ mAr 172 = 0 ∧ mMx 172 = 1 := by decide +kernel
theorem mo172 : mOw 172 = 9 := by decide +kernel
theorem mr172 : mRt 172 = some .int := by decide +kernel
theorem mh172 : mHn 172 = [] := by decide +kernel
def il173 : List (Nat × Instr) := [(0, .aload_n 0), (1, .iload_n 1), (2, .invokevirtual 73), (5, .ifCond .eq 25), (8, .aload_n 0), (9, .iload_n 1), (10, .invokevirtual 77), (13, .iconst (-1)), (14, .if_icmp .ne 16), (17, .aload_n 0), (18, .iload_n 1), (19, .invokevirtual 81), (22, .iconst (-1)), (23, .if_icmp .ne 7), (26, .iconst 1), (27, .goto 4), (30, .iconst 0), (31, .ireturn)]
set_option maxRecDepth 100000 in
theorem id173 : scan (mCd 173).data.toList 0 il173 = true := by decide +kernel
theorem mm173 : mKd 173 = 1 ∧ mAr 173 = 1 ∧ mMx 173 = 2 := by decide +kernel
theorem mo173 : mOw 173 = 9 := by decide +kernel
theorem mr173 : mRt 173 = some .boolean := by decide +kernel
theorem mh173 : mHn 173 = [] := by decide +kernel
def il174 : List (Nat × Instr) := [(0, .iload_n 1), (1, .i2l), (2, .lconst 0), (3, .aload_n 0), (4, .invokevirtual 60), (7, .iconst 1), (8, .isub), (9, .i2l), (10, .invokestatic 56), (13, .ireturn)]
set_option maxRecDepth 100000 in
theorem id174 : scan (mCd 174).data.toList 0 il174 = true := by decide +kernel
theorem mm174 : mKd 174 = 1 ∧ mAr 174 = 1 ∧ mMx 174 = 2 := by decide +kernel
theorem mo174 : mOw 174 = 9 := by decide +kernel
theorem mr174 : mRt 174 = some .boolean := by decide +kernel
theorem mh174 : mHn 174 = [] := by decide +kernel
def il175 : List (Nat × Instr) := [(0, .iconst 0), (1, .istore_n 2), (2, .iload_n 2), (3, .aload_n 0), (4, .invokevirtual 52), (7, .if_icmp .ge 21), (10, .aload_n 0), (11, .iload_n 2), (12, .iconst 0), (13, .invokevirtual 63), (16, .iload_n 1), (17, .if_icmp .ne 5), (20, .iload_n 2), (21, .ireturn), (22, .iinc 2 1), (25, .goto (-23)), (28, .iconst (-1)), (29, .ireturn)]
set_option maxRecDepth 100000 in
theorem id175 : scan (mCd 175).data.toList 0 il175 = true := by decide +kernel
theorem mm175 : mKd 175 = 1 ∧ mAr 175 = 1 ∧ mMx 175 = 3 := by decide +kernel
theorem mo175 : mOw 175 = 9 := by decide +kernel
theorem mr175 : mRt 175 = some .int := by decide +kernel
theorem mh175 : mHn 175 = [] := by decide +kernel
def il176 : List (Nat × Instr) := [(0, .aload_n 0), (1, .getfield 24), (4, .iconst 1), (5, .laload), (6, .l2i), (7, .ireturn)]
set_option maxRecDepth 100000 in
theorem id176 : scan (mCd 176).data.toList 0 il176 = true := by decide +kernel
theorem mm176 : mKd 176 = 1 ∧ mAr 176 = 0 ∧ mMx 176 = 1 := by decide +kernel
theorem mo176 : mOw 176 = 9 := by decide +kernel
theorem mr176 : mRt 176 = some .int := by decide +kernel
theorem mh176 : mHn 176 = [] := by decide +kernel
def il177 : List (Nat × Instr) := [(0, .aload_n 0), (1, .getfield 24), (4, .bipush 28), (6, .bipush 9), (8, .iload_n 1), (9, .imul), (10, .iadd), (11, .iload_n 2), (12, .iadd), (13, .laload), (14, .l2i), (15, .ireturn)]
set_option maxRecDepth 100000 in
theorem id177 : scan (mCd 177).data.toList 0 il177 = true := by decide +kernel
theorem mm177 : mKd 177 = 1 ∧ mAr 177 = 2 ∧ mMx 177 = 3 := by decide +kernel
theorem mo177 : mOw 177 = 9 := by decide +kernel
theorem mr177 : mRt 177 = some .int := by decide +kernel
theorem mh177 : mHn 177 = [] := by decide +kernel
def il178 : List (Nat × Instr) := [(0, .iconst 0), (1, .istore_n 2), (2, .iload_n 2), (3, .aload_n 0), (4, .invokevirtual 67), (7, .if_icmp .ge 21), (10, .aload_n 0), (11, .iload_n 2), (12, .iconst 0), (13, .invokevirtual 70), (16, .iload_n 1), (17, .if_icmp .ne 5), (20, .iload_n 2), (21, .ireturn), (22, .iinc 2 1), (25, .goto (-23)), (28, .iconst (-1)), (29, .ireturn)]
set_option maxRecDepth 100000 in
theorem id178 : scan (mCd 178).data.toList 0 il178 = true := by decide +kernel
theorem mm178 : mKd 178 = 1 ∧ mAr 178 = 1 ∧ mMx 178 = 3 := by decide +kernel
theorem mo178 : mOw 178 = 9 := by decide +kernel
theorem mr178 : mRt 178 = some .int := by decide +kernel
theorem mh178 : mHn 178 = [] := by decide +kernel
def il179 : List (Nat × Instr) := [(0, .aload_n 0), (1, .getfield 24), (4, .bipush 16), (6, .iconst 3), (7, .iload_n 1), (8, .imul), (9, .iadd), (10, .iload_n 2), (11, .iadd), (12, .laload), (13, .l2i), (14, .ireturn)]
set_option maxRecDepth 100000 in
theorem id179 : scan (mCd 179).data.toList 0 il179 = true := by decide +kernel
theorem mm179 : mKd 179 = 1 ∧ mAr 179 = 2 ∧ mMx 179 = 3 := by decide +kernel
theorem mo179 : mOw 179 = 9 := by decide +kernel
theorem mr179 : mRt 179 = some .int := by decide +kernel
theorem mh179 : mHn 179 = [] := by decide +kernel
def il180 : List (Nat × Instr) := [(0, .aload_n 0), (1, .aload_n 1), (2, .invokevirtual 295), (5, .aload_n 0), (6, .iload_n 2), (7, .iload_n 3), (8, .invokevirtual 299), (11, .ireturn)]
set_option maxRecDepth 100000 in
theorem id180 : scan (mCd 180).data.toList 0 il180 = true := by decide +kernel
theorem mm180 : mKd 180 = 1 ∧ mAr 180 = 3 ∧ mMx 180 = 4 := by decide +kernel
theorem mo180 : mOw 180 = 9 := by decide +kernel
theorem mr180 : mRt 180 = some .int := by decide +kernel
theorem mh180 : mHn 180 = [] := by decide +kernel
def il181 : List (Nat × Instr) := [(0, .aload_n 0), (1, .aload_n 0), (2, .invokevirtual 52), (5, .bipush 10), (7, .if_icmp .ne 7), (10, .iconst 1), (11, .goto 4), (14, .iconst 0), (15, .iconst 5), (16, .invokevirtual 305), (19, .aload_n 0), (20, .invokevirtual 274), (23, .aload_n 0), (24, .aload_n 0), (25, .invokevirtual 224), (28, .ifCond .eq 36), (31, .aload_n 0), (32, .getfield 240), (35, .iconst 1), (36, .if_icmp .ne 24), (39, .aload_n 0), (40, .getfield 234), (43, .aload_n 0), (44, .getfield 228), (47, .isub), (48, .bipush 6), (50, .if_icmp .gt 10), (53, .aload_n 0), (54, .invokevirtual 316), (57, .ifCond .eq 7), (60, .iconst 1), (61, .goto 4), (64, .iconst 0), (65, .iconst 1), (66, .invokevirtual 305), (69, .aload_n 0), (70, .invokevirtual 224), (73, .ifCond .eq 21), (76, .aload_n 0), (77, .getfield 30), (80, .aload_n 0), (81, .getfield 228), (84, .aload_n 0), (85, .getfield 234), (88, .invokestatic 319), (91, .goto 4), (94, .iconst 0), (95, .istore_n 1), (96, .aload_n 0), (97, .aload_n 0), (98, .iload_n 1), (99, .invokevirtual 323), (102, .iconst (-1)), (103, .if_icmp .eq 7), (106, .iconst 1), (107, .goto 4), (110, .iconst 0), (111, .iconst 3), (112, .invokevirtual 305), (115, .aload_n 0), (116, .invokevirtual 274), (119, .aload_n 0), (120, .ldc_w 289), (123, .invokevirtual 295), (126, .aload_n 0), (127, .invokevirtual 309), (130, .istore_n 2), (131, .aload_n 0), (132, .invokevirtual 326), (135, .istore_n 3), (136, .aload_n 0), (137, .ldc_w 293), (140, .iconst 1), (141, .bipush 20), (143, .invokevirtual 312), (146, .istore 4), (148, .aload_n 0), (149, .invokevirtual 302), (152, .aload_n 0), (153, .invokevirtual 224), (156, .ifCond .eq 14), (159, .aload_n 0), (160, .iload_n 2), (161, .iload_n 3), (162, .iload 4), (164, .iload_n 1), (165, .invokevirtual 329), (168, .istore 5), (170, .return_)]
set_option maxRecDepth 100000 in
theorem id181 : scan (mCd 181).data.toList 0 il181 = true := by decide +kernel
theorem mm181 : mKd 181 = 1 ∧ mAr 181 = 0 ∧ mMx 181 = 6 := by decide +kernel
theorem mo181 : mOw 181 = 9 := by decide +kernel
theorem mr181 : mRt 181 = none := by decide +kernel
theorem mh181 : mHn 181 = [] := by decide +kernel
def il182 : List (Nat × Instr) := [(0, .aload_n 0), (1, .ldc_w 281), (4, .invokevirtual 277), (7, .ifCond .ne 33), (10, .aload_n 0), (11, .ldc_w 283), (14, .invokevirtual 277), (17, .ifCond .ne 23), (20, .aload_n 0), (21, .ldc_w 285), (24, .invokevirtual 277), (27, .ifCond .ne 13), (30, .aload_n 0), (31, .ldc_w 287), (34, .invokevirtual 277), (37, .ifCond .eq 7), (40, .iconst 1), (41, .goto 4), (44, .iconst 0), (45, .istore_n 1), (46, .iload_n 1), (47, .ifCond .ne 33), (50, .aload_n 0), (51, .ldc_w 289), (54, .invokevirtual 277), (57, .ifCond .ne 23), (60, .aload_n 0), (61, .ldc_w 291), (64, .invokevirtual 277), (67, .ifCond .ne 13), (70, .aload_n 0), (71, .ldc_w 293), (74, .invokevirtual 277), (77, .ifCond .eq 7), (80, .iconst 1), (81, .goto 4), (84, .iconst 0), (85, .ireturn)]
set_option maxRecDepth 100000 in
theorem id182 : scan (mCd 182).data.toList 0 il182 = true := by decide +kernel
theorem mm182 : mKd 182 = 1 ∧ mAr 182 = 0 ∧ mMx 182 = 2 := by decide +kernel
theorem mo182 : mOw 182 = 9 := by decide +kernel
theorem mr182 : mRt 182 = some .boolean := by decide +kernel
theorem mh182 : mHn 182 = [] := by decide +kernel
def il183 : List (Nat × Instr) := [(0, .iconst 0), (1, .istore_n 3), (2, .iload_n 1), (3, .istore 4), (5, .iload 4), (7, .iload_n 2), (8, .if_icmp .ge 22), (11, .bipush 27), (13, .iload_n 3), (14, .imul), (15, .aload_n 0), (16, .iload 4), (18, .baload), (19, .iadd), (20, .bipush 96), (22, .isub), (23, .istore_n 3), (24, .iinc 4 1), (27, .goto (-22)), (30, .iload_n 3), (31, .ireturn)]
set_option maxRecDepth 100000 in
theorem id183 : scan (mCd 183).data.toList 0 il183 = true := by decide +kernel
theorem mm183 : mKd 183 = 0 ∧ mAr 183 = 3 ∧ mMx 183 = 5 := by decide +kernel
theorem mo183 : mOw 183 = 9 := by decide +kernel
theorem mr183 : mRt 183 = some .int := by decide +kernel
theorem mh183 : mHn 183 = [] := by decide +kernel
def il184 : List (Nat × Instr) := [(0, .iconst 0), (1, .istore_n 2), (2, .iload_n 2), (3, .aload_n 0), (4, .invokevirtual 52), (7, .if_icmp .ge 26), (10, .iload_n 1), (11, .ifCond .le 16), (14, .aload_n 0), (15, .iload_n 2), (16, .bipush 8), (18, .invokevirtual 63), (21, .iload_n 1), (22, .if_icmp .ne 5), (25, .iload_n 2), (26, .ireturn), (27, .iinc 2 1), (30, .goto (-28)), (33, .iconst (-1)), (34, .ireturn)]
set_option maxRecDepth 100000 in
theorem id184 : scan (mCd 184).data.toList 0 il184 = true := by decide +kernel
theorem mm184 : mKd 184 = 1 ∧ mAr 184 = 1 ∧ mMx 184 = 3 := by decide +kernel
theorem mo184 : mOw 184 = 9 := by decide +kernel
theorem mr184 : mRt 184 = some .int := by decide +kernel
theorem mh184 : mHn 184 = [] := by decide +kernel
def il185 : List (Nat × Instr) := [(0, .aload_n 0), (1, .ldc_w 291), (4, .invokevirtual 295), (7, .aload_n 0), (8, .invokevirtual 224), (11, .ifCond .eq 24), (14, .aload_n 0), (15, .getfield 240), (18, .iconst 3), (19, .if_icmp .ne 16), (22, .aload_n 0), (23, .getfield 251), (26, .bipush 45), (28, .if_icmp .ne 7), (31, .iconst 1), (32, .goto 4), (35, .iconst 0), (36, .istore_n 1), (37, .iload_n 1), (38, .ifCond .eq 7), (41, .aload_n 0), (42, .invokevirtual 274), (45, .aload_n 0), (46, .iconst 0), (47, .bipush 60), (49, .invokevirtual 299), (52, .istore_n 2), (53, .iload_n 1), (54, .ifCond .eq 8), (57, .iload_n 2), (58, .ineg), (59, .goto 4), (62, .iload_n 2), (63, .ireturn)]
set_option maxRecDepth 100000 in
theorem id185 : scan (mCd 185).data.toList 0 il185 = true := by decide +kernel
theorem mm185 : mKd 185 = 1 ∧ mAr 185 = 0 ∧ mMx 185 = 3 := by decide +kernel
theorem mo185 : mOw 185 = 9 := by decide +kernel
theorem mr185 : mRt 185 = some .int := by decide +kernel
theorem mh185 : mHn 185 = [] := by decide +kernel
def il186 : List (Nat × Instr) := [(0, .aload_n 0), (1, .invokevirtual 52), (4, .istore 5), (6, .aload_n 0), (7, .getfield 24), (10, .iconst 1), (11, .dup2), (12, .laload), (13, .lconst 1), (14, .ladd), (15, .lastore), (16, .iconst 0), (17, .istore 6), (19, .iload 6), (21, .bipush 9), (23, .if_icmp .ge 18), (26, .aload_n 0), (27, .iload 5), (29, .iload 6), (31, .lconst 0), (32, .invokevirtual 107), (35, .iinc 6 1), (38, .goto (-19)), (41, .aload_n 0), (42, .iload 5), (44, .iconst 0), (45, .iload_n 1), (46, .i2l), (47, .invokevirtual 107), (50, .aload_n 0), (51, .iload 5), (53, .iconst 1), (54, .iload_n 2), (55, .i2l), (56, .invokevirtual 107), (59, .aload_n 0), (60, .iload 5), (62, .iconst 2), (63, .iload_n 3), (64, .i2l), (65, .invokevirtual 107), (68, .aload_n 0), (69, .iload 5), (71, .bipush 8), (73, .iload 4), (75, .i2l), (76, .invokevirtual 107), (79, .iload 5), (81, .ireturn)]
set_option maxRecDepth 100000 in
theorem id186 : scan (mCd 186).data.toList 0 il186 = true := by decide +kernel
theorem mm186 : mKd 186 = 1 ∧ mAr 186 = 4 ∧ mMx 186 = 7 := by decide +kernel
theorem mo186 : mOw 186 = 9 := by decide +kernel
theorem mr186 : mRt 186 = some .int := by decide +kernel
theorem mh186 : mHn 186 = [] := by decide +kernel
def il187 : List (Nat × Instr) := [(0, .aload_n 0), (1, .getfield 24), (4, .bipush 28), (6, .bipush 9), (8, .iload_n 1), (9, .imul), (10, .iadd), (11, .iload_n 2), (12, .iadd), (13, .lload_n 3), (14, .lastore), (15, .return_)]
set_option maxRecDepth 100000 in
theorem id187 : scan (mCd 187).data.toList 0 il187 = true := by decide +kernel
theorem mm187 : mKd 187 = 1 ∧ mAr 187 = 3 ∧ mMx 187 = 5 := by decide +kernel
theorem mo187 : mOw 187 = 9 := by decide +kernel
theorem mr187 : mRt 187 = none := by decide +kernel
theorem mh187 : mHn 187 = [] := by decide +kernel
def il188 : List (Nat × Instr) := [(0, .aload_n 0), (1, .getfield 437), (4, .bipush 6), (6, .if_icmp .ne 46), (9, .sipush 378), (12, .istore_n 1), (13, .iload_n 1), (14, .sipush 2268), (17, .if_icmp .ge 25), (20, .aload_n 0), (21, .getfield 44), (24, .iload_n 1), (25, .sipush 378), (28, .isub), (29, .aload_n 0), (30, .getfield 44), (33, .iload_n 1), (34, .laload), (35, .lastore), (36, .iinc 1 1), (39, .goto (-26)), (42, .aload_n 0), (43, .dup), (44, .getfield 437), (47, .iconst 1), (48, .isub), (49, .putfield 437), (52, .iconst 0), (53, .istore_n 1), (54, .iload_n 1), (55, .sipush 378), (58, .if_icmp .ge 30), (61, .aload_n 0), (62, .getfield 44), (65, .sipush 378), (68, .aload_n 0), (69, .getfield 437), (72, .imul), (73, .iload_n 1), (74, .iadd), (75, .aload_n 0), (76, .getfield 17), (79, .iload_n 1), (80, .laload), (81, .lastore), (82, .iinc 1 1), (85, .goto (-31)), (88, .aload_n 0), (89, .dup), (90, .getfield 437), (93, .iconst 1), (94, .iadd), (95, .putfield 437), (98, .return_)]
set_option maxRecDepth 100000 in
theorem id188 : scan (mCd 188).data.toList 0 il188 = true := by decide +kernel
theorem mm188 : mKd 188 = 1 ∧ mAr 188 = 0 ∧ mMx 188 = 2 := by decide +kernel
theorem mo188 : mOw 188 = 9 := by decide +kernel
theorem mr188 : mRt 188 = none := by decide +kernel
theorem mh188 : mHn 188 = [] := by decide +kernel
def il189 : List (Nat × Instr) := [(0, .aload_n 0), (1, .iconst 0), (2, .putfield 3), (5, .aload_n 0), (6, .getfield 221), (9, .ireturn)]
set_option maxRecDepth 100000 in
theorem id189 : scan (mCd 189).data.toList 0 il189 = true := by decide +kernel
theorem mm189 : mKd 189 = 1 ∧ mAr 189 = 0 ∧ mMx 189 = 1 := by decide +kernel
theorem mo189 : mOw 189 = 9 := by decide +kernel
theorem mr189 : mRt 189 = some .int := by decide +kernel
theorem mh189 : mHn 189 = [] := by decide +kernel
def il190 : List (Nat × Instr) := [(0, .aload_n 0), (1, .iconst 0), (2, .putfield 3), (5, .aload_n 0), (6, .getfield 34), (9, .ireturn)]
set_option maxRecDepth 100000 in
theorem id190 : scan (mCd 190).data.toList 0 il190 = true := by decide +kernel
theorem mm190 : mKd 190 = 1 ∧ mAr 190 = 0 ∧ mMx 190 = 1 := by decide +kernel
theorem mo190 : mOw 190 = 9 := by decide +kernel
theorem mr190 : mRt 190 = some .int := by decide +kernel
theorem mh190 : mHn 190 = [] := by decide +kernel
def il191 : List (Nat × Instr) := [(0, .aload_n 0), (1, .iconst 0), (2, .putfield 3), (5, .aload_n 0), (6, .getfield 211), (9, .i2l), (10, .lconst 1), (11, .ldc2_w 348), (14, .invokestatic 56), (17, .istore_n 1), (18, .iconst 0), (19, .istore_n 2), (20, .iload_n 2), (21, .aload_n 0), (22, .getfield 211), (25, .if_icmp .ge 30), (28, .iload_n 1), (29, .ifCond .eq 26), (32, .aload_n 0), (33, .getfield 30), (36, .iload_n 2), (37, .baload), (38, .i2l), (39, .ldc2_w 243), (42, .ldc2_w 245), (45, .invokestatic 56), (48, .istore_n 1), (49, .iinc 2 1), (52, .goto (-32)), (55, .iload_n 1), (56, .ifCond .eq 18), (59, .aload_n 0), (60, .getfield 30), (63, .iconst 0), (64, .aload_n 0), (65, .getfield 211), (68, .invokestatic 319), (71, .goto 4), (74, .iconst 0), (75, .istore_n 2), (76, .aload_n 0), (77, .iconst 0), (78, .putfield 211), (81, .aload_n 0), (82, .iload_n 2), (83, .invokevirtual 323), (86, .ireturn)]
set_option maxRecDepth 100000 in
theorem id191 : scan (mCd 191).data.toList 0 il191 = true := by decide +kernel
theorem mm191 : mKd 191 = 1 ∧ mAr 191 = 0 ∧ mMx 191 = 3 := by decide +kernel
theorem mo191 : mOw 191 = 9 := by decide +kernel
theorem mr191 : mRt 191 = some .int := by decide +kernel
theorem mh191 : mHn 191 = [] := by decide +kernel
def il192 : List (Nat × Instr) := [(0, .aload_n 0), (1, .iload_n 1), (2, .i2l), (3, .lconst 0), (4, .ldc2_w 348), (7, .invokestatic 56), (10, .invokevirtual 214), (13, .ifCond .ne 5), (16, .iconst 0), (17, .ireturn), (18, .iload_n 1), (19, .iconst 5), (20, .if_icmp .ne 10), (23, .aload_n 0), (24, .invokevirtual 350), (27, .goto 23), (30, .iload_n 1), (31, .bipush 6), (33, .if_icmp .ne 10), (36, .aload_n 0), (37, .invokevirtual 353), (40, .goto 10), (43, .aload_n 0), (44, .getfield 17), (47, .iload_n 1), (48, .laload), (49, .l2i), (50, .ireturn)]
set_option maxRecDepth 100000 in
theorem id192 : scan (mCd 192).data.toList 0 il192 = true := by decide +kernel
theorem mm192 : mKd 192 = 1 ∧ mAr 192 = 1 ∧ mMx 192 = 2 := by decide +kernel
theorem mo192 : mOw 192 = 9 := by decide +kernel
theorem mr192 : mRt 192 = some .int := by decide +kernel
theorem mh192 : mHn 192 = [] := by decide +kernel
def il193 : List (Nat × Instr) := [(0, .iconst 0), (1, .istore_n 1), (2, .iconst 0), (3, .istore_n 2), (4, .iload_n 2), (5, .aload_n 0), (6, .invokevirtual 52), (9, .if_icmp .ge 25), (12, .iload_n 1), (13, .aload_n 0), (14, .iload_n 2), (15, .invokevirtual 84), (18, .ifCond .ne 7), (21, .iconst 1), (22, .goto 4), (25, .iconst 0), (26, .iadd), (27, .istore_n 1), (28, .iinc 2 1), (31, .goto (-27)), (34, .iload_n 1), (35, .ireturn)]
set_option maxRecDepth 100000 in
theorem id193 : scan (mCd 193).data.toList 0 il193 = true := by decide +kernel
theorem mm193 : mKd 193 = 1 ∧ mAr 193 = 0 ∧ mMx 193 = 3 := by decide +kernel
theorem mo193 : mOw 193 = 9 := by decide +kernel
theorem mr193 : mRt 193 = some .int := by decide +kernel
theorem mh193 : mHn 193 = [] := by decide +kernel
def il194 : List (Nat × Instr) := [(0, .aload_n 0), (1, .iload_n 1), (2, .iconst 1), (3, .invokevirtual 63), (6, .ireturn)]
set_option maxRecDepth 100000 in
theorem id194 : scan (mCd 194).data.toList 0 il194 = true := by decide +kernel
theorem mm194 : mKd 194 = 1 ∧ mAr 194 = 1 ∧ mMx 194 = 2 := by decide +kernel
theorem mo194 : mOw 194 = 9 := by decide +kernel
theorem mr194 : mRt 194 = some .int := by decide +kernel
theorem mh194 : mHn 194 = [] := by decide +kernel
def il195 : List (Nat × Instr) := [(0, .iconst 0), (1, .istore_n 1), (2, .iconst 0), (3, .istore_n 2), (4, .iload_n 2), (5, .aload_n 0), (6, .invokevirtual 52), (9, .if_icmp .ge 18), (12, .iload_n 1), (13, .aload_n 0), (14, .iload_n 2), (15, .iconst 2), (16, .invokevirtual 63), (19, .iadd), (20, .istore_n 1), (21, .iinc 2 1), (24, .goto (-20)), (27, .iload_n 1), (28, .ireturn)]
set_option maxRecDepth 100000 in
theorem id195 : scan (mCd 195).data.toList 0 il195 = true := by decide +kernel
theorem mm195 : mKd 195 = 1 ∧ mAr 195 = 0 ∧ mMx 195 = 3 := by decide +kernel
theorem mo195 : mOw 195 = 9 := by decide +kernel
theorem mr195 : mRt 195 = some .int := by decide +kernel
theorem mh195 : mHn 195 = [] := by decide +kernel
def il196 : List (Nat × Instr) := [(0, .aload_n 0), (1, .aload_n 0), (2, .iload_n 1), (3, .invokevirtual 356), (6, .iload_n 2), (7, .i2l), (8, .lconst 0), (9, .ldc2_w 359), (12, .invokestatic 56), (15, .invokevirtual 361), (18, .ifCond .eq 12), (21, .aload_n 0), (22, .iload_n 1), (23, .iload_n 2), (24, .invokevirtual 63), (27, .goto 4), (30, .iconst 0), (31, .ireturn)]
set_option maxRecDepth 100000 in
theorem id196 : scan (mCd 196).data.toList 0 il196 = true := by decide +kernel
theorem mm196 : mKd 196 = 1 ∧ mAr 196 = 2 ∧ mMx 196 = 3 := by decide +kernel
theorem mo196 : mOw 196 = 9 := by decide +kernel
theorem mr196 : mRt 196 = some .int := by decide +kernel
theorem mh196 : mHn 196 = [] := by decide +kernel
def il197 : List (Nat × Instr) := [(0, .iload_n 1), (1, .i2l), (2, .lconst 0), (3, .aload_n 0), (4, .invokevirtual 52), (7, .iconst 1), (8, .isub), (9, .i2l), (10, .invokestatic 56), (13, .ireturn)]
set_option maxRecDepth 100000 in
theorem id197 : scan (mCd 197).data.toList 0 il197 = true := by decide +kernel
theorem mm197 : mKd 197 = 1 ∧ mAr 197 = 1 ∧ mMx 197 = 2 := by decide +kernel
theorem mo197 : mOw 197 = 9 := by decide +kernel
theorem mr197 : mRt 197 = some .boolean := by decide +kernel
theorem mh197 : mHn 197 = [] := by decide +kernel
def il198 : List (Nat × Instr) := [(0, .aload_n 0), (1, .iload_n 1), (2, .iload_n 2), (3, .iconst 1), (4, .invokevirtual 7), (7, .ireturn)]
set_option maxRecDepth 100000 in
theorem id198 : scan (mCd 198).data.toList 0 il198 = true := by decide +kernel
theorem mm198 : mKd 198 = 1 ∧ mAr 198 = 2 ∧ mMx 198 = 3 := by decide +kernel
theorem mo198 : mOw 198 = 9 := by decide +kernel
theorem mr198 : mRt 198 = some .boolean := by decide +kernel
theorem mh198 : mHn 198 = [] := by decide +kernel
def il199 : List (Nat × Instr) := [(0, .aload_n 0), (1, .aload_n 0), (2, .iload_n 1), (3, .invokevirtual 73), (6, .invokevirtual 214), (9, .ifCond .eq 11), (12, .aload_n 0), (13, .iload_n 1), (14, .invokevirtual 77), (17, .goto 4), (20, .iconst 0), (21, .ireturn)]
set_option maxRecDepth 100000 in
theorem id199 : scan (mCd 199).data.toList 0 il199 = true := by decide +kernel
theorem mm199 : mKd 199 = 1 ∧ mAr 199 = 1 ∧ mMx 199 = 2 := by decide +kernel
theorem mo199 : mOw 199 = 9 := by decide +kernel
theorem mr199 : mRt 199 = some .int := by decide +kernel
theorem mh199 : mHn 199 = [] := by decide +kernel
def il200 : List (Nat × Instr) := [(0, .aload_n 0), (1, .iload_n 1), (2, .i2l), (3, .lconst 0), (4, .aload_n 0), (5, .invokevirtual 67), (8, .iconst 1), (9, .isub), (10, .i2l), (11, .invokestatic 56), (14, .iload_n 2), (15, .i2l), (16, .lconst 0), (17, .ldc2_w 365), (20, .invokestatic 56), (23, .invokevirtual 361), (26, .ifCond .eq 12), (29, .aload_n 0), (30, .iload_n 1), (31, .iload_n 2), (32, .invokevirtual 70), (35, .goto 4), (38, .iconst 0), (39, .ireturn)]
set_option maxRecDepth 100000 in
theorem id200 : scan (mCd 200).data.toList 0 il200 = true := by decide +kernel
theorem mm200 : mKd 200 = 1 ∧ mAr 200 = 2 ∧ mMx 200 = 3 := by decide +kernel
theorem mo200 : mOw 200 = 9 := by decide +kernel
theorem mr200 : mRt 200 = some .int := by decide +kernel
theorem mh200 : mHn 200 = [] := by decide +kernel
def il201 : List (Nat × Instr) := [(0, .aload_n 0), (1, .iload_n 2), (2, .i2l), (3, .lconst 0), (4, .lconst 1), (5, .invokestatic 56), (8, .invokevirtual 214), (11, .ifCond .ne 5), (14, .iconst 0), (15, .ireturn), (16, .aload_n 0), (17, .getfield 17), (20, .iload_n 2), (21, .ifCond .ne 8), (24, .bipush 8), (26, .goto 5), (29, .bipush 10), (31, .iload_n 1), (32, .ifCond .eq 7), (35, .iconst 1), (36, .goto 4), (39, .iconst 0), (40, .iadd), (41, .laload), (42, .l2i), (43, .ireturn)]
set_option maxRecDepth 100000 in
theorem id201 : scan (mCd 201).data.toList 0 il201 = true := by decide +kernel
theorem mm201 : mKd 201 = 1 ∧ mAr 201 = 2 ∧ mMx 201 = 3 := by decide +kernel
theorem mo201 : mOw 201 = 9 := by decide +kernel
theorem mr201 : mRt 201 = some .int := by decide +kernel
theorem mh201 : mHn 201 = [] := by decide +kernel
def il202 : List (Nat × Instr) := [(0, .aload_n 0), (1, .aload_n 0), (2, .iload_n 1), (3, .invokevirtual 356), (6, .invokevirtual 214), (9, .ifCond .eq 11), (12, .aload_n 0), (13, .iload_n 1), (14, .invokevirtual 367), (17, .goto 4), (20, .iconst 0), (21, .ireturn)]
set_option maxRecDepth 100000 in
theorem id202 : scan (mCd 202).data.toList 0 il202 = true := by decide +kernel
theorem mm202 : mKd 202 = 1 ∧ mAr 202 = 1 ∧ mMx 202 = 2 := by decide +kernel
theorem mo202 : mOw 202 = 9 := by decide +kernel
theorem mr202 : mRt 202 = some .int := by decide +kernel
theorem mh202 : mHn 202 = [] := by decide +kernel
def il203 : List (Nat × Instr) := [(0, .iconst 1), (1, .aload_n 0), (2, .invokevirtual 52), (5, .ishl), (6, .iconst 1), (7, .isub), (8, .istore_n 2), (9, .aload_n 0), (10, .iload_n 2), (11, .iconst 0), (12, .invokevirtual 184), (15, .istore_n 3), (16, .iconst 0), (17, .istore 4), (19, .iload 4), (21, .iload_n 1), (22, .if_icmp .ge 24), (25, .iload_n 2), (26, .iconst 1), (27, .iload_n 3), (28, .ishl), (29, .iconst (-1)), (30, .ixor), (31, .iand), (32, .istore_n 2), (33, .aload_n 0), (34, .iload_n 2), (35, .iconst 0), (36, .invokevirtual 184), (39, .istore_n 3), (40, .iinc 4 1), (43, .goto (-24)), (46, .iload_n 3), (47, .ireturn)]
set_option maxRecDepth 100000 in
theorem id203 : scan (mCd 203).data.toList 0 il203 = true := by decide +kernel
theorem mm203 : mKd 203 = 1 ∧ mAr 203 = 1 ∧ mMx 203 = 5 := by decide +kernel
theorem mo203 : mOw 203 = 9 := by decide +kernel
theorem mr203 : mRt 203 = some .int := by decide +kernel
theorem mh203 : mHn 203 = [] := by decide +kernel
def il204 : List (Nat × Instr) := [(0, .iconst (-1)), (1, .istore_n 3), (2, .iconst 0), (3, .istore 4), (5, .iload 4), (7, .aload_n 0), (8, .invokevirtual 52), (11, .if_icmp .ge 51), (14, .iload_n 1), (15, .iload 4), (17, .invokestatic 157), (20, .ifCond .eq 36), (23, .iload_n 3), (24, .iconst (-1)), (25, .if_icmp .eq 28), (28, .aload_n 0), (29, .iload 4), (31, .iconst 0), (32, .invokevirtual 63), (35, .aload_n 0), (36, .iload_n 3), (37, .iconst 0), (38, .invokevirtual 63), (41, .if_icmp .le 7), (44, .iconst 1), (45, .goto 4), (48, .iconst 0), (49, .iload_n 2), (50, .if_icmp .ne 6), (53, .iload 4), (55, .istore_n 3), (56, .iinc 4 1), (59, .goto (-54)), (62, .iload_n 3), (63, .ireturn)]
set_option maxRecDepth 100000 in
theorem id204 : scan (mCd 204).data.toList 0 il204 = true := by decide +kernel
theorem mm204 : mKd 204 = 1 ∧ mAr 204 = 2 ∧ mMx 204 = 5 := by decide +kernel
theorem mo204 : mOw 204 = 9 := by decide +kernel
theorem mr204 : mRt 204 = some .int := by decide +kernel
theorem mh204 : mHn 204 = [] := by decide +kernel
def il205 : List (Nat × Instr) := [(0, .iload_n 0), (1, .iload_n 1), (2, .ishr), (3, .iconst 1), (4, .iand), (5, .iconst 1), (6, .if_icmp .ne 7), (9, .iconst 1), (10, .goto 4), (13, .iconst 0), (14, .ireturn)]
set_option maxRecDepth 100000 in
theorem id205 : scan (mCd 205).data.toList 0 il205 = true := by decide +kernel
theorem mm205 : mKd 205 = 0 ∧ mAr 205 = 2 ∧ mMx 205 = 2 := by decide +kernel
theorem mo205 : mOw 205 = 9 := by decide +kernel
theorem mr205 : mRt 205 = some .boolean := by decide +kernel
theorem mh205 : mHn 205 = [] := by decide +kernel
def il206 : List (Nat × Instr) := [(0, .aload_n 0), (1, .aload_n 0), (2, .iload_n 1), (3, .invokevirtual 356), (6, .invokevirtual 214), (9, .ifCond .ne 5), (12, .iconst 0), (13, .ireturn), (14, .aload_n 0), (15, .iload_n 1), (16, .iconst 0), (17, .invokevirtual 63), (20, .iload_n 2), (21, .invokestatic 161), (24, .aload_n 0), (25, .iload_n 1), (26, .iload_n 2), (27, .invokevirtual 370), (30, .iconst 1), (31, .iadd), (32, .imul), (33, .iadd), (34, .istore_n 3), (35, .aload_n 0), (36, .iload_n 3), (37, .invokevirtual 73), (40, .ifCond .eq 11), (43, .aload_n 0), (44, .iload_n 3), (45, .invokevirtual 77), (48, .goto 4), (51, .iconst (-1)), (52, .ireturn)]
set_option maxRecDepth 100000 in
theorem id206 : scan (mCd 206).data.toList 0 il206 = true := by decide +kernel
theorem mm206 : mKd 206 = 1 ∧ mAr 206 = 2 ∧ mMx 206 = 4 := by decide +kernel
theorem mo206 : mOw 206 = 9 := by decide +kernel
theorem mr206 : mRt 206 = some .int := by decide +kernel
theorem mh206 : mHn 206 = [] := by decide +kernel
def il207 : List (Nat × Instr) := [(0, .iload_n 0), (1, .ifCond .eq 7), (4, .iconst 1), (5, .goto 4), (8, .iconst (-1)), (9, .ireturn)]
set_option maxRecDepth 100000 in
theorem id207 : scan (mCd 207).data.toList 0 il207 = true := by decide +kernel
theorem mm207 : mKd 207 = 0 ∧ mAr 207 = 1 ∧ mMx 207 = 1 := by decide +kernel
theorem mo207 : mOw 207 = 9 := by decide +kernel
theorem mr207 : mRt 207 = some .int := by decide +kernel
theorem mh207 : mHn 207 = [] := by decide +kernel
def il208 : List (Nat × Instr) := [(0, .iconst 0), (1, .istore_n 3), (2, .aload_n 0), (3, .iload_n 1), (4, .iconst 0), (5, .invokevirtual 63), (8, .iload_n 2), (9, .invokestatic 161), (12, .iadd), (13, .istore 4), (15, .aload_n 0), (16, .iload 4), (18, .invokevirtual 165), (21, .ifCond .eq 18), (24, .iinc 3 1), (27, .iload 4), (29, .iload_n 2), (30, .invokestatic 161), (33, .iadd), (34, .istore 4), (36, .goto (-21)), (39, .iload_n 3), (40, .ireturn)]
set_option maxRecDepth 100000 in
theorem id208 : scan (mCd 208).data.toList 0 il208 = true := by decide +kernel
theorem mm208 : mKd 208 = 1 ∧ mAr 208 = 2 ∧ mMx 208 = 5 := by decide +kernel
theorem mo208 : mOw 208 = 9 := by decide +kernel
theorem mr208 : mRt 208 = some .int := by decide +kernel
theorem mh208 : mHn 208 = [] := by decide +kernel
def il209 : List (Nat × Instr) := [(0, .aload_n 0), (1, .aload_n 0), (2, .iload_n 1), (3, .invokevirtual 356), (6, .invokevirtual 214), (9, .ifCond .eq 12), (12, .aload_n 0), (13, .iload_n 1), (14, .iload_n 2), (15, .invokevirtual 370), (18, .goto 4), (21, .iconst 0), (22, .ireturn)]
set_option maxRecDepth 100000 in
theorem id209 : scan (mCd 209).data.toList 0 il209 = true := by decide +kernel
theorem mm209 : mKd 209 = 1 ∧ mAr 209 = 2 ∧ mMx 209 = 3 := by decide +kernel
theorem mo209 : mOw 209 = 9 := by decide +kernel
theorem mr209 : mRt 209 = some .int := by decide +kernel
theorem mh209 : mHn 209 = [] := by decide +kernel
def il210 : List (Nat × Instr) := [(0, .aload_n 0), (1, .aload_n 0), (2, .iload_n 1), (3, .invokevirtual 356), (6, .ifCond .eq 15), (9, .aload_n 0), (10, .iload_n 2), (11, .invokevirtual 356), (14, .ifCond .eq 7), (17, .iconst 1), (18, .goto 4), (21, .iconst 0), (22, .invokevirtual 214), (25, .ifCond .eq 21), (28, .aload_n 0), (29, .getfield 17), (32, .bipush 118), (34, .bipush 10), (36, .iload_n 1), (37, .imul), (38, .iadd), (39, .iload_n 2), (40, .iadd), (41, .laload), (42, .l2i), (43, .goto 4), (46, .iconst 0), (47, .ireturn)]
set_option maxRecDepth 100000 in
theorem id210 : scan (mCd 210).data.toList 0 il210 = true := by decide +kernel
theorem mm210 : mKd 210 = 1 ∧ mAr 210 = 2 ∧ mMx 210 = 3 := by decide +kernel
theorem mo210 : mOw 210 = 9 := by decide +kernel
theorem mr210 : mRt 210 = some .int := by decide +kernel
theorem mh210 : mHn 210 = [] := by decide +kernel
def il211 : List (Nat × Instr) := [(0, .aload_n 0), (1, .iload_n 1), (2, .i2l), (3, .lconst 0), (4, .aload_n 0), (5, .invokevirtual 373), (8, .iconst 1), (9, .isub), (10, .i2l), (11, .invokestatic 56), (14, .iload_n 2), (15, .i2l), (16, .lconst 0), (17, .ldc2_w 376), (20, .invokestatic 56), (23, .invokevirtual 361), (26, .ifCond .ne 5), (29, .iconst 0), (30, .ireturn), (31, .aload_n 0), (32, .iload_n 1), (33, .iload_n 2), (34, .invokevirtual 378), (37, .istore_n 3), (38, .iload_n 2), (39, .iconst 1), (40, .if_icmp .eq 8), (43, .iload_n 2), (44, .iconst 2), (45, .if_icmp .ne 11), (48, .iconst (-1)), (49, .iload_n 3), (50, .invokestatic 135), (53, .goto 4), (56, .iload_n 3), (57, .ireturn)]
set_option maxRecDepth 100000 in
theorem id211 : scan (mCd 211).data.toList 0 il211 = true := by decide +kernel
theorem mm211 : mKd 211 = 1 ∧ mAr 211 = 2 ∧ mMx 211 = 4 := by decide +kernel
theorem mo211 : mOw 211 = 9 := by decide +kernel
theorem mr211 : mRt 211 = some .int := by decide +kernel
theorem mh211 : mHn 211 = [] := by decide +kernel
def il212 : List (Nat × Instr) := [(0, .aload_n 0), (1, .getfield 17), (4, .iconst 4), (5, .laload), (6, .l2i), (7, .ireturn)]
set_option maxRecDepth 100000 in
theorem id212 : scan (mCd 212).data.toList 0 il212 = true := by decide +kernel
theorem mm212 : mKd 212 = 1 ∧ mAr 212 = 0 ∧ mMx 212 = 1 := by decide +kernel
theorem mo212 : mOw 212 = 9 := by decide +kernel
theorem mr212 : mRt 212 = some .int := by decide +kernel
theorem mh212 : mHn 212 = [] := by decide +kernel
def il213 : List (Nat × Instr) := [(0, .aload_n 0), (1, .getfield 17), (4, .sipush 218), (7, .iconst 4), (8, .iload_n 1), (9, .imul), (10, .iadd), (11, .iload_n 2), (12, .iadd), (13, .laload), (14, .l2i), (15, .ireturn)]
set_option maxRecDepth 100000 in
theorem id213 : scan (mCd 213).data.toList 0 il213 = true := by decide +kernel
theorem mm213 : mKd 213 = 1 ∧ mAr 213 = 2 ∧ mMx 213 = 3 := by decide +kernel
theorem mo213 : mOw 213 = 9 := by decide +kernel
theorem mr213 : mRt 213 = some .int := by decide +kernel
theorem mh213 : mHn 213 = [] := by decide +kernel
def il214 : List (Nat × Instr) := [(0, .aload_n 0), (1, .iload_n 1), (2, .i2l), (3, .lconst 0), (4, .ldc2_w 381), (7, .invokestatic 56), (10, .invokevirtual 214), (13, .ifCond .ne 5), (16, .lconst 0), (17, .lreturn), (18, .iload_n 1), (19, .tableswitch 54 0 3 #[29, 34, 39, 46]), (48, .aload_n 0), (49, .invokevirtual 383), (52, .lreturn), (53, .aload_n 0), (54, .invokevirtual 387), (57, .lreturn), (58, .aload_n 0), (59, .getfield 17), (62, .iconst 5), (63, .laload), (64, .lreturn), (65, .aload_n 0), (66, .getfield 17), (69, .bipush 6), (71, .laload), (72, .lreturn), (73, .aload_n 0), (74, .getfield 17), (77, .bipush 7), (79, .laload), (80, .lreturn)]
set_option maxRecDepth 100000 in
theorem id214 : scan (mCd 214).data.toList 0 il214 = true := by decide +kernel
theorem mm214 : mKd 214 = 1 ∧ mAr 214 = 1 ∧ mMx 214 = 2 := by decide +kernel
theorem mo214 : mOw 214 = 9 := by decide +kernel
theorem mr214 : mRt 214 = some .long := by decide +kernel
theorem mh214 : mHn 214 = [] := by decide +kernel
def il215 : List (Nat × Instr) := [(0, .lconst 0), (1, .lstore_n 1), (2, .iconst 0), (3, .istore_n 3), (4, .iload_n 3), (5, .aload_n 0), (6, .invokevirtual 52), (9, .if_icmp .ge 25), (12, .lload_n 1), (13, .aload_n 0), (14, .iload_n 3), (15, .iconst 2), (16, .invokevirtual 63), (19, .aload_n 0), (20, .iload_n 3), (21, .invokevirtual 84), (24, .imul), (25, .i2l), (26, .ladd), (27, .lstore_n 1), (28, .iinc 3 1), (31, .goto (-27)), (34, .lload_n 1), (35, .lreturn)]
set_option maxRecDepth 100000 in
theorem id215 : scan (mCd 215).data.toList 0 il215 = true := by decide +kernel
theorem mm215 : mKd 215 = 1 ∧ mAr 215 = 0 ∧ mMx 215 = 4 := by decide +kernel
theorem mo215 : mOw 215 = 9 := by decide +kernel
theorem mr215 : mRt 215 = some .long := by decide +kernel
theorem mh215 : mHn 215 = [] := by decide +kernel
def il216 : List (Nat × Instr) := [(0, .lconst 0), (1, .lstore_n 1), (2, .iconst 0), (3, .istore_n 3), (4, .iload_n 3), (5, .aload_n 0), (6, .invokevirtual 52), (9, .if_icmp .ge 18), (12, .lload_n 1), (13, .aload_n 0), (14, .iload_n 3), (15, .invokevirtual 92), (18, .i2l), (19, .ladd), (20, .lstore_n 1), (21, .iinc 3 1), (24, .goto (-20)), (27, .lload_n 1), (28, .lreturn)]
set_option maxRecDepth 100000 in
theorem id216 : scan (mCd 216).data.toList 0 il216 = true := by decide +kernel
theorem mm216 : mKd 216 = 1 ∧ mAr 216 = 0 ∧ mMx 216 = 4 := by decide +kernel
theorem mo216 : mOw 216 = 9 := by decide +kernel
theorem mr216 : mRt 216 = some .long := by decide +kernel
theorem mh216 : mHn 216 = [] := by decide +kernel
def il217 : List (Nat × Instr) := [(0, .aload_n 0), (1, .iload_n 1), (2, .iconst 2), (3, .invokevirtual 63), (6, .aload_n 0), (7, .iload_n 1), (8, .invokevirtual 84), (11, .imul), (12, .aload_n 0), (13, .iload_n 1), (14, .invokevirtual 84), (17, .imul), (18, .ireturn)]
set_option maxRecDepth 100000 in
theorem id217 : scan (mCd 217).data.toList 0 il217 = true := by decide +kernel
theorem mm217 : mKd 217 = 1 ∧ mAr 217 = 1 ∧ mMx 217 = 2 := by decide +kernel
theorem mo217 : mOw 217 = 9 := by decide +kernel
theorem mr217 : mRt 217 = some .int := by decide +kernel
theorem mh217 : mHn 217 = [] := by decide +kernel
def il218 : List (Nat × Instr) := [(0, .aload_n 0), (1, .iload_n 1), (2, .i2l), (3, .lconst 0), (4, .ldc2_w 376), (7, .invokestatic 56), (10, .invokevirtual 214), (13, .ifCond .eq 16), (16, .aload_n 0), (17, .getfield 17), (20, .bipush 12), (22, .iload_n 1), (23, .iadd), (24, .laload), (25, .l2i), (26, .goto 4), (29, .iconst 0), (30, .ireturn)]
set_option maxRecDepth 100000 in
theorem id218 : scan (mCd 218).data.toList 0 il218 = true := by decide +kernel
theorem mm218 : mKd 218 = 1 ∧ mAr 218 = 1 ∧ mMx 218 = 2 := by decide +kernel
theorem mo218 : mOw 218 = 9 := by decide +kernel
theorem mr218 : mRt 218 = some .int := by decide +kernel
theorem mh218 : mHn 218 = [] := by decide +kernel
def il219 : List (Nat × Instr) := [(0, .aload_n 0), (1, .iconst 0), (2, .putfield 3), (5, .iconst (-1)), (6, .istore_n 1), (7, .iconst 0), (8, .istore_n 2), (9, .iload_n 2), (10, .aload_n 0), (11, .invokevirtual 52), (14, .if_icmp .ge 33), (17, .iload_n 1), (18, .iconst (-1)), (19, .if_icmp .eq 16), (22, .aload_n 0), (23, .iload_n 2), (24, .invokevirtual 181), (27, .aload_n 0), (28, .iload_n 1), (29, .invokevirtual 181), (32, .if_icmp .le 7), (35, .iload_n 2), (36, .goto 4), (39, .iload_n 1), (40, .istore_n 1), (41, .iinc 2 1), (44, .goto (-35)), (47, .iload_n 1), (48, .ireturn)]
set_option maxRecDepth 100000 in
theorem id219 : scan (mCd 219).data.toList 0 il219 = true := by decide +kernel
theorem mm219 : mKd 219 = 1 ∧ mAr 219 = 0 ∧ mMx 219 = 3 := by decide +kernel
theorem mo219 : mOw 219 = 9 := by decide +kernel
theorem mr219 : mRt 219 = some .int := by decide +kernel
theorem mh219 : mHn 219 = [] := by decide +kernel
def il220 : List (Nat × Instr) := [(0, .aload_n 0), (1, .iload_n 1), (2, .invokevirtual 84), (5, .invokestatic 87), (8, .ireturn)]
set_option maxRecDepth 100000 in
theorem id220 : scan (mCd 220).data.toList 0 il220 = true := by decide +kernel
theorem mm220 : mKd 220 = 1 ∧ mAr 220 = 1 ∧ mMx 220 = 2 := by decide +kernel
theorem mo220 : mOw 220 = 9 := by decide +kernel
theorem mr220 : mRt 220 = some .int := by decide +kernel
theorem mh220 : mHn 220 = [] := by decide +kernel
def il221 : List (Nat × Instr) := [(0, .aload_n 0), (1, .iconst 0), (2, .putfield 3), (5, .iconst 0), (6, .istore_n 2), (7, .iconst 0), (8, .istore_n 3), (9, .iload_n 3), (10, .aload_n 0), (11, .invokevirtual 52), (14, .if_icmp .ge 43), (17, .iload_n 2), (18, .iload_n 1), (19, .ifCond .eq 11), (22, .aload_n 0), (23, .iload_n 3), (24, .invokevirtual 84), (27, .ifCond .gt 15), (30, .iload_n 1), (31, .ifCond .ne 17), (34, .aload_n 0), (35, .iload_n 3), (36, .invokevirtual 84), (39, .ifCond .ge 9), (42, .iconst 1), (43, .iload_n 3), (44, .ishl), (45, .goto 4), (48, .iconst 0), (49, .ior), (50, .istore_n 2), (51, .iinc 3 1), (54, .goto (-45)), (57, .iload_n 2), (58, .ireturn)]
set_option maxRecDepth 100000 in
theorem id221 : scan (mCd 221).data.toList 0 il221 = true := by decide +kernel
theorem mm221 : mKd 221 = 1 ∧ mAr 221 = 1 ∧ mMx 221 = 4 := by decide +kernel
theorem mo221 : mOw 221 = 9 := by decide +kernel
theorem mr221 : mRt 221 = some .int := by decide +kernel
theorem mh221 : mHn 221 = [] := by decide +kernel
def il222 : List (Nat × Instr) := [(0, .aload_n 0), (1, .aload_n 0), (2, .iload_n 1), (3, .invokevirtual 356), (6, .ifCond .eq 15), (9, .aload_n 0), (10, .iload_n 2), (11, .invokevirtual 356), (14, .ifCond .eq 7), (17, .iconst 1), (18, .goto 4), (21, .iconst 0), (22, .iload_n 1), (23, .iload_n 2), (24, .if_icmp .eq 7), (27, .iconst 1), (28, .goto 4), (31, .iconst 0), (32, .invokevirtual 361), (35, .ifCond .ne 5), (38, .iconst 0), (39, .ireturn), (40, .aload_n 0), (41, .iload_n 1), (42, .iconst 0), (43, .invokevirtual 63), (46, .aload_n 0), (47, .iload_n 2), (48, .iconst 0), (49, .invokevirtual 63), (52, .if_icmp .ge 7), (55, .iconst 1), (56, .goto 4), (59, .iconst 0), (60, .istore 4), (62, .iload 4), (64, .ifCond .eq 7), (67, .iload_n 1), (68, .goto 4), (71, .iload_n 2), (72, .istore 5), (74, .iload 4), (76, .ifCond .eq 7), (79, .iload_n 2), (80, .goto 4), (83, .iload_n 1), (84, .istore 6), (86, .aload_n 0), (87, .iload 5), (89, .invokevirtual 84), (92, .aload_n 0), (93, .iload 6), (95, .invokevirtual 84), (98, .if_icmp .gt 6), (101, .bipush (-100)), (103, .ireturn), (104, .aload_n 0), (105, .iload 5), (107, .iload 6), (109, .invokevirtual 145), (112, .istore 7), (114, .iload 4), (116, .iload_n 3), (117, .if_icmp .eq 20), (120, .aload_n 0), (121, .iload 5), (123, .invokevirtual 84), (126, .iload 7), (128, .aload_n 0), (129, .getfield 129), (132, .imul), (133, .isub), (134, .goto 17), (137, .aload_n 0), (138, .iload 6), (140, .invokevirtual 84), (143, .iload 7), (145, .aload_n 0), (146, .getfield 132), (149, .imul), (150, .iadd), (151, .ireturn)]
set_option maxRecDepth 100000 in
theorem id222 : scan (mCd 222).data.toList 0 il222 = true := by decide +kernel
theorem mm222 : mKd 222 = 1 ∧ mAr 222 = 3 ∧ mMx 222 = 8 := by decide +kernel
theorem mo222 : mOw 222 = 9 := by decide +kernel
theorem mr222 : mRt 222 = some .int := by decide +kernel
theorem mh222 : mHn 222 = [] := by decide +kernel
def il223 : List (Nat × Instr) := [(0, .aload_n 0), (1, .iload_n 1), (2, .iconst 2), (3, .invokevirtual 63), (6, .aload_n 0), (7, .iload_n 2), (8, .iconst 2), (9, .invokevirtual 63), (12, .invokestatic 126), (15, .istore_n 3), (16, .aload_n 0), (17, .aload_n 0), (18, .iload_n 2), (19, .iconst 2), (20, .invokevirtual 63), (23, .iload_n 3), (24, .idiv), (25, .putfield 129), (28, .aload_n 0), (29, .aload_n 0), (30, .iload_n 1), (31, .iconst 2), (32, .invokevirtual 63), (35, .iload_n 3), (36, .idiv), (37, .putfield 132), (40, .iconst 1), (41, .iconst 2), (42, .aload_n 0), (43, .iload_n 1), (44, .invokevirtual 84), (47, .aload_n 0), (48, .iload_n 2), (49, .invokevirtual 84), (52, .isub), (53, .imul), (54, .aload_n 0), (55, .getfield 129), (58, .aload_n 0), (59, .getfield 132), (62, .iadd), (63, .idiv), (64, .invokestatic 135), (67, .istore 4), (69, .aload_n 0), (70, .iload_n 1), (71, .invokevirtual 84), (74, .iload 4), (76, .aload_n 0), (77, .getfield 129), (80, .imul), (81, .isub), (82, .i2l), (83, .ldc2_w 138), (86, .ldc2_w 140), (89, .invokestatic 56), (92, .ifCond .eq 29), (95, .aload_n 0), (96, .iload_n 2), (97, .invokevirtual 84), (100, .iload 4), (102, .aload_n 0), (103, .getfield 132), (106, .imul), (107, .iadd), (108, .i2l), (109, .ldc2_w 138), (112, .ldc2_w 140), (115, .invokestatic 56), (118, .ifCond .ne 9), (121, .iinc 4 (-1)), (124, .goto (-55)), (127, .iload 4), (129, .ireturn)]
set_option maxRecDepth 100000 in
theorem id223 : scan (mCd 223).data.toList 0 il223 = true := by decide +kernel
theorem mm223 : mKd 223 = 1 ∧ mAr 223 = 2 ∧ mMx 223 = 5 := by decide +kernel
theorem mo223 : mOw 223 = 9 := by decide +kernel
theorem mr223 : mRt 223 = some .int := by decide +kernel
theorem mh223 : mHn 223 = [] := by decide +kernel
def il224 : List (Nat × Instr) := [(0, .iload_n 1), (1, .ifCond .ne 7), (4, .iload_n 0), (5, .goto 10), (8, .iload_n 1), (9, .iload_n 0), (10, .iload_n 1), (11, .irem), (12, .invokestatic 126), (15, .ireturn)]
set_option maxRecDepth 100000 in
theorem id224 : scan (mCd 224).data.toList 0 il224 = true := by decide +kernel
theorem mm224 : mKd 224 = 0 ∧ mAr 224 = 2 ∧ mMx 224 = 2 := by decide +kernel
theorem mo224 : mOw 224 = 9 := by decide +kernel
theorem mr224 : mRt 224 = some .int := by decide +kernel
theorem mh224 : mHn 224 = [] := by decide +kernel
def il225 : List (Nat × Instr) := [(0, .aload_n 0), (1, .aload_n 0), (2, .iload_n 1), (3, .invokevirtual 356), (6, .iload_n 2), (7, .invokestatic 392), (10, .invokevirtual 361), (13, .ifCond .eq 15), (16, .aload_n 0), (17, .iload_n 1), (18, .invokevirtual 84), (21, .iload_n 2), (22, .invokestatic 104), (25, .goto 4), (28, .iconst 0), (29, .ireturn)]
set_option maxRecDepth 100000 in
theorem id225 : scan (mCd 225).data.toList 0 il225 = true := by decide +kernel
theorem mm225 : mKd 225 = 1 ∧ mAr 225 = 2 ∧ mMx 225 = 3 := by decide +kernel
theorem mo225 : mOw 225 = 9 := by decide +kernel
theorem mr225 : mRt 225 = some .int := by decide +kernel
theorem mh225 : mHn 225 = [] := by decide +kernel
def il226 : List (Nat × Instr) := [(0, .iload_n 0), (1, .i2l), (2, .lconst 0), (3, .ldc2_w 390), (6, .invokestatic 56), (9, .ireturn)]
set_option maxRecDepth 100000 in
theorem id226 : scan (mCd 226).data.toList 0 il226 = true := by decide +kernel
theorem mm226 : mKd 226 = 0 ∧ mAr 226 = 1 ∧ mMx 226 = 1 := by decide +kernel
theorem mo226 : mOw 226 = 9 := by decide +kernel
theorem mr226 : mRt 226 = some .boolean := by decide +kernel
theorem mh226 : mHn 226 = [] := by decide +kernel
def il227 : List (Nat × Instr) := [(0, .iload_n 0), (1, .invokestatic 87), (4, .iload_n 0), (5, .iload_n 1), (6, .invokestatic 101), (9, .isub), (10, .istore_n 2), (11, .iload_n 0), (12, .ifCond .le 8), (15, .iload_n 2), (16, .ineg), (17, .goto 4), (20, .iload_n 2), (21, .ireturn)]
set_option maxRecDepth 100000 in
theorem id227 : scan (mCd 227).data.toList 0 il227 = true := by decide +kernel
theorem mm227 : mKd 227 = 0 ∧ mAr 227 = 2 ∧ mMx 227 = 3 := by decide +kernel
theorem mo227 : mOw 227 = 9 := by decide +kernel
theorem mr227 : mRt 227 = some .int := by decide +kernel
theorem mh227 : mHn 227 = [] := by decide +kernel
def il228 : List (Nat × Instr) := [(0, .iload_n 0), (1, .invokestatic 87), (4, .iload_n 1), (5, .imul), (6, .bipush 100), (8, .idiv), (9, .ireturn)]
set_option maxRecDepth 100000 in
theorem id228 : scan (mCd 228).data.toList 0 il228 = true := by decide +kernel
theorem mm228 : mKd 228 = 0 ∧ mAr 228 = 2 ∧ mMx 228 = 2 := by decide +kernel
theorem mo228 : mOw 228 = 9 := by decide +kernel
theorem mr228 : mRt 228 = some .int := by decide +kernel
theorem mh228 : mHn 228 = [] := by decide +kernel
def il229 : List (Nat × Instr) := [(0, .aload_n 0), (1, .aload_n 0), (2, .iload_n 1), (3, .invokevirtual 356), (6, .invokevirtual 214), (9, .ifCond .ne 5), (12, .iconst 0), (13, .ireturn), (14, .aload_n 0), (15, .iload_n 1), (16, .invokevirtual 181), (19, .ifCond .ne 7), (22, .iconst (-1)), (23, .goto 26), (26, .bipush 60), (28, .aload_n 0), (29, .iload_n 1), (30, .iconst 3), (31, .invokevirtual 63), (34, .isub), (35, .aload_n 0), (36, .iload_n 1), (37, .invokevirtual 181), (40, .iadd), (41, .iconst 1), (42, .isub), (43, .aload_n 0), (44, .iload_n 1), (45, .invokevirtual 181), (48, .idiv), (49, .ireturn)]
set_option maxRecDepth 100000 in
theorem id229 : scan (mCd 229).data.toList 0 il229 = true := by decide +kernel
theorem mm229 : mKd 229 = 1 ∧ mAr 229 = 1 ∧ mMx 229 = 2 := by decide +kernel
theorem mo229 : mOw 229 = 9 := by decide +kernel
theorem mr229 : mRt 229 = some .int := by decide +kernel
theorem mh229 : mHn 229 = [] := by decide +kernel
def il230 : List (Nat × Instr) := [(0, .aload_n 0), (1, .iconst 0), (2, .putfield 3), (5, .aload_n 0), (6, .iconst (-1)), (7, .invokevirtual 395), (10, .ireturn)]
set_option maxRecDepth 100000 in
theorem id230 : scan (mCd 230).data.toList 0 il230 = true := by decide +kernel
theorem mm230 : mKd 230 = 1 ∧ mAr 230 = 0 ∧ mMx 230 = 1 := by decide +kernel
theorem mo230 : mOw 230 = 9 := by decide +kernel
theorem mr230 : mRt 230 = some .int := by decide +kernel
theorem mh230 : mHn 230 = [] := by decide +kernel
def il231 : List (Nat × Instr) := [(0, .aload_n 0), (1, .invokevirtual 205), (4, .iconst 1), (5, .istore_n 2), (6, .iload_n 2), (7, .sipush 3000), (10, .if_icmp .gt 46), (13, .aload_n 0), (14, .invokevirtual 198), (17, .iload_n 1), (18, .iconst (-1)), (19, .if_icmp .ne 14), (22, .aload_n 0), (23, .getfield 151), (26, .iconst (-1)), (27, .if_icmp .eq 23), (30, .goto 14), (33, .aload_n 0), (34, .getfield 142), (37, .iload_n 1), (38, .invokestatic 157), (41, .ifCond .eq 9), (44, .aload_n 0), (45, .iload_n 2), (46, .invokevirtual 208), (49, .ireturn), (50, .iinc 2 1), (53, .goto (-47)), (56, .aload_n 0), (57, .iconst (-1)), (58, .invokevirtual 208), (61, .ireturn)]
set_option maxRecDepth 100000 in
theorem id231 : scan (mCd 231).data.toList 0 il231 = true := by decide +kernel
theorem mm231 : mKd 231 = 1 ∧ mAr 231 = 1 ∧ mMx 231 = 3 := by decide +kernel
theorem mo231 : mOw 231 = 9 := by decide +kernel
theorem mr231 : mRt 231 = some .int := by decide +kernel
theorem mh231 : mHn 231 = [] := by decide +kernel
def il232 : List (Nat × Instr) := [(0, .iconst 0), (1, .istore_n 1), (2, .iload_n 1), (3, .sipush 378), (6, .if_icmp .ge 21), (9, .aload_n 0), (10, .getfield 27), (13, .iload_n 1), (14, .aload_n 0), (15, .getfield 17), (18, .iload_n 1), (19, .laload), (20, .lastore), (21, .iinc 1 1), (24, .goto (-22)), (27, .return_)]
set_option maxRecDepth 100000 in
theorem id232 : scan (mCd 232).data.toList 0 il232 = true := by decide +kernel
theorem mm232 : mKd 232 = 1 ∧ mAr 232 = 0 ∧ mMx 232 = 2 := by decide +kernel
theorem mo232 : mOw 232 = 9 := by decide +kernel
theorem mr232 : mRt 232 = none := by decide +kernel
theorem mh232 : mHn 232 = [] := by decide +kernel
def il233 : List (Nat × Instr) := [(0, .aload_n 0), (1, .iconst 0), (2, .putfield 142), (5, .aload_n 0), (6, .iconst (-1)), (7, .putfield 151), (10, .aload_n 0), (11, .iconst (-1)), (12, .putfield 154), (15, .aload_n 0), (16, .invokevirtual 192), (19, .aload_n 0), (20, .aload_n 0), (21, .getfield 175), (24, .iconst 0), (25, .invokevirtual 195), (28, .aload_n 0), (29, .aload_n 0), (30, .getfield 178), (33, .iconst 1), (34, .invokevirtual 195), (37, .aload_n 0), (38, .getfield 24), (41, .iconst 3), (42, .dup2), (43, .laload), (44, .lconst 1), (45, .ladd), (46, .lastore), (47, .return_)]
set_option maxRecDepth 100000 in
theorem id233 : scan (mCd 233).data.toList 0 il233 = true := by decide +kernel
theorem mm233 : mKd 233 = 1 ∧ mAr 233 = 0 ∧ mMx 233 = 1 := by decide +kernel
theorem mo233 : mOw 233 = 9 := by decide +kernel
theorem mr233 : mRt 233 = none := by decide +kernel
theorem mh233 : mHn 233 = [] := by decide +kernel
def il234 : List (Nat × Instr) := [(0, .aload_n 0), (1, .iconst 0), (2, .putfield 175), (5, .aload_n 0), (6, .iconst 0), (7, .putfield 178), (10, .iconst 0), (11, .istore_n 1), (12, .iload_n 1), (13, .aload_n 0), (14, .invokevirtual 52), (17, .if_icmp .ge 110), (20, .aload_n 0), (21, .iload_n 1), (22, .iconst 3), (23, .invokevirtual 63), (26, .aload_n 0), (27, .iload_n 1), (28, .invokevirtual 181), (31, .iadd), (32, .istore_n 2), (33, .iload_n 2), (34, .bipush 60), (36, .if_icmp .lt 7), (39, .iconst 1), (40, .goto 4), (43, .iconst 0), (44, .istore_n 3), (45, .aload_n 0), (46, .iload_n 1), (47, .iconst 3), (48, .iload_n 3), (49, .ifCond .eq 11), (52, .iload_n 2), (53, .bipush 60), (55, .isub), (56, .i2l), (57, .goto 5), (60, .iload_n 2), (61, .i2l), (62, .invokevirtual 107), (65, .aload_n 0), (66, .dup), (67, .getfield 175), (70, .iload_n 3), (71, .ifCond .eq 17), (74, .aload_n 0), (75, .iload_n 1), (76, .invokevirtual 84), (79, .ifCond .ge 9), (82, .iconst 1), (83, .iload_n 1), (84, .ishl), (85, .goto 4), (88, .iconst 0), (89, .ior), (90, .putfield 175), (93, .aload_n 0), (94, .dup), (95, .getfield 178), (98, .iload_n 3), (99, .ifCond .eq 17), (102, .aload_n 0), (103, .iload_n 1), (104, .invokevirtual 84), (107, .ifCond .le 9), (110, .iconst 1), (111, .iload_n 1), (112, .ishl), (113, .goto 4), (116, .iconst 0), (117, .ior), (118, .putfield 178), (121, .iinc 1 1), (124, .goto (-112)), (127, .return_)]
set_option maxRecDepth 100000 in
theorem id234 : scan (mCd 234).data.toList 0 il234 = true := by decide +kernel
theorem mm234 : mKd 234 = 1 ∧ mAr 234 = 0 ∧ mMx 234 = 4 := by decide +kernel
theorem mo234 : mOw 234 = 9 := by decide +kernel
theorem mr234 : mRt 234 = none := by decide +kernel
theorem mh234 : mHn 234 = [] := by decide +kernel
def il235 : List (Nat × Instr) := [(0, .iload_n 1), (1, .istore_n 3), (2, .iload_n 3), (3, .ifCond .eq 30), (6, .aload_n 0), (7, .iload_n 3), (8, .iload_n 2), (9, .invokevirtual 184), (12, .istore 4), (14, .iload_n 3), (15, .iconst 1), (16, .iload 4), (18, .ishl), (19, .iconst (-1)), (20, .ixor), (21, .iand), (22, .istore_n 3), (23, .aload_n 0), (24, .iload 4), (26, .iload_n 2), (27, .invokevirtual 188), (30, .goto (-28)), (33, .return_)]
set_option maxRecDepth 100000 in
theorem id235 : scan (mCd 235).data.toList 0 il235 = true := by decide +kernel
theorem mm235 : mKd 235 = 1 ∧ mAr 235 = 2 ∧ mMx 235 = 5 := by decide +kernel
theorem mo235 : mOw 235 = 9 := by decide +kernel
theorem mr235 : mRt 235 = none := by decide +kernel
theorem mh235 : mHn 235 = [] := by decide +kernel
def il236 : List (Nat × Instr) := [(0, .aload_n 0), (1, .getfield 142), (4, .iload_n 1), (5, .invokestatic 157), (8, .ifCond .eq 4), (11, .return_), (12, .aload_n 0), (13, .iload_n 1), (14, .iconst 0), (15, .invokevirtual 63), (18, .iload_n 2), (19, .invokestatic 161), (22, .iadd), (23, .istore_n 3), (24, .aload_n 0), (25, .iload_n 3), (26, .invokevirtual 165), (29, .ifCond .eq 25), (32, .aload_n 0), (33, .iload_n 1), (34, .iconst 0), (35, .iload_n 3), (36, .i2l), (37, .invokevirtual 107), (40, .aload_n 0), (41, .iload_n 1), (42, .iconst 4), (43, .invokevirtual 111), (46, .aload_n 0), (47, .iconst 3), (48, .invokevirtual 115), (51, .goto 40), (54, .aload_n 0), (55, .iload_n 3), (56, .invokevirtual 73), (59, .ifCond .eq 26), (62, .aload_n 0), (63, .iload_n 3), (64, .invokevirtual 77), (67, .iconst (-1)), (68, .if_icmp .eq 17), (71, .aload_n 0), (72, .iload_n 1), (73, .aload_n 0), (74, .iload_n 3), (75, .invokevirtual 77), (78, .iload_n 2), (79, .invokevirtual 168), (82, .goto 9), (85, .aload_n 0), (86, .iload_n 1), (87, .iload_n 3), (88, .invokevirtual 172), (91, .return_)]
set_option maxRecDepth 100000 in
theorem id236 : scan (mCd 236).data.toList 0 il236 = true := by decide +kernel
theorem mm236 : mKd 236 = 1 ∧ mAr 236 = 2 ∧ mMx 236 = 4 := by decide +kernel
theorem mo236 : mOw 236 = 9 := by decide +kernel
theorem mr236 : mRt 236 = none := by decide +kernel
theorem mh236 : mHn 236 = [] := by decide +kernel
def il237 : List (Nat × Instr) := [(0, .aload_n 0), (1, .getfield 24), (4, .bipush 28), (6, .bipush 9), (8, .iload_n 1), (9, .imul), (10, .iadd), (11, .iload_n 2), (12, .iadd), (13, .dup2), (14, .laload), (15, .lconst 1), (16, .ladd), (17, .lastore), (18, .return_)]
set_option maxRecDepth 100000 in
theorem id237 : scan (mCd 237).data.toList 0 il237 = true := by decide +kernel
theorem mm237 : mKd 237 = 1 ∧ mAr 237 = 2 ∧ mMx 237 = 3 := by decide +kernel
theorem mo237 : mOw 237 = 9 := by decide +kernel
theorem mr237 : mRt 237 = none := by decide +kernel
theorem mh237 : mHn 237 = [] := by decide +kernel
def il238 : List (Nat × Instr) := [(0, .aload_n 0), (1, .getfield 24), (4, .bipush 12), (6, .iload_n 1), (7, .iadd), (8, .dup2), (9, .laload), (10, .lconst 1), (11, .ladd), (12, .lastore), (13, .return_)]
set_option maxRecDepth 100000 in
theorem id238 : scan (mCd 238).data.toList 0 il238 = true := by decide +kernel
theorem mm238 : mKd 238 = 1 ∧ mAr 238 = 1 ∧ mMx 238 = 2 := by decide +kernel
theorem mo238 : mOw 238 = 9 := by decide +kernel
theorem mr238 : mRt 238 = none := by decide +kernel
theorem mh238 : mHn 238 = [] := by decide +kernel
def il239 : List (Nat × Instr) := [(0, .iload_n 3), (1, .ifCond .eq 7), (4, .iload_n 1), (5, .goto 4), (8, .iload_n 2), (9, .istore 4), (11, .iload_n 3), (12, .ifCond .eq 7), (15, .iload_n 2), (16, .goto 4), (19, .iload_n 1), (20, .istore 5), (22, .aload_n 0), (23, .iload 4), (25, .invokevirtual 84), (28, .aload_n 0), (29, .iload 5), (31, .invokevirtual 84), (34, .if_icmp .gt 16), (37, .aload_n 0), (38, .iload_n 1), (39, .bipush 7), (41, .invokevirtual 111), (44, .aload_n 0), (45, .iconst 2), (46, .invokevirtual 115), (49, .return_), (50, .aload_n 0), (51, .iload 4), (53, .iload 5), (55, .invokevirtual 145), (58, .istore 6), (60, .aload_n 0), (61, .iload 4), (63, .iconst 1), (64, .aload_n 0), (65, .iload 4), (67, .invokevirtual 84), (70, .iload 6), (72, .aload_n 0), (73, .getfield 129), (76, .imul), (77, .isub), (78, .i2l), (79, .invokevirtual 107), (82, .aload_n 0), (83, .iload 5), (85, .iconst 1), (86, .aload_n 0), (87, .iload 5), (89, .invokevirtual 84), (92, .iload 6), (94, .aload_n 0), (95, .getfield 132), (98, .imul), (99, .iadd), (100, .i2l), (101, .invokevirtual 107), (104, .aload_n 0), (105, .getfield 24), (108, .bipush 6), (110, .dup2), (111, .laload), (112, .aload_n 0), (113, .iload 5), (115, .iconst 2), (116, .invokevirtual 63), (119, .iload 6), (121, .imul), (122, .aload_n 0), (123, .getfield 132), (126, .imul), (127, .i2l), (128, .ladd), (129, .lastore), (130, .aload_n 0), (131, .iload_n 1), (132, .iload_n 2), (133, .invokevirtual 148), (136, .aload_n 0), (137, .iload_n 1), (138, .iload_n 2), (139, .iload 6), (141, .invokevirtual 119), (144, .aload_n 0), (145, .getfield 151), (148, .iconst (-1)), (149, .if_icmp .ne 13), (152, .aload_n 0), (153, .iload_n 1), (154, .putfield 151), (157, .aload_n 0), (158, .iload_n 2), (159, .putfield 154), (162, .return_)]
set_option maxRecDepth 100000 in
theorem id239 : scan (mCd 239).data.toList 0 il239 = true := by decide +kernel
theorem mm239 : mKd 239 = 1 ∧ mAr 239 = 3 ∧ mMx 239 = 7 := by decide +kernel
theorem mo239 : mOw 239 = 9 := by decide +kernel
theorem mr239 : mRt 239 = none := by decide +kernel
theorem mh239 : mHn 239 = [] := by decide +kernel
def il240 : List (Nat × Instr) := [(0, .aload_n 0), (1, .iload_n 1), (2, .iconst 5), (3, .invokevirtual 111), (6, .aload_n 0), (7, .iload_n 2), (8, .iconst 5), (9, .invokevirtual 111), (12, .aload_n 0), (13, .getfield 24), (16, .bipush 118), (18, .bipush 10), (20, .iload_n 1), (21, .imul), (22, .iadd), (23, .iload_n 2), (24, .iadd), (25, .dup2), (26, .laload), (27, .lconst 1), (28, .ladd), (29, .lastore), (30, .aload_n 0), (31, .getfield 24), (34, .bipush 118), (36, .bipush 10), (38, .iload_n 2), (39, .imul), (40, .iadd), (41, .iload_n 1), (42, .iadd), (43, .dup2), (44, .laload), (45, .lconst 1), (46, .ladd), (47, .lastore), (48, .aload_n 0), (49, .iconst 0), (50, .invokevirtual 115), (53, .aload_n 0), (54, .dup), (55, .getfield 142), (58, .iconst 1), (59, .iload_n 1), (60, .ishl), (61, .iconst 1), (62, .iload_n 2), (63, .ishl), (64, .ior), (65, .ior), (66, .putfield 142), (69, .return_)]
set_option maxRecDepth 100000 in
theorem id240 : scan (mCd 240).data.toList 0 il240 = true := by decide +kernel
theorem mm240 : mKd 240 = 1 ∧ mAr 240 = 2 ∧ mMx 240 = 3 := by decide +kernel
theorem mo240 : mOw 240 = 9 := by decide +kernel
theorem mr240 : mRt 240 = none := by decide +kernel
theorem mh240 : mHn 240 = [] := by decide +kernel
def il241 : List (Nat × Instr) := [(0, .sipush 377), (3, .istore 4), (5, .iload 4), (7, .sipush 222), (10, .if_icmp .lt 25), (13, .aload_n 0), (14, .getfield 24), (17, .iload 4), (19, .aload_n 0), (20, .getfield 24), (23, .iload 4), (25, .iconst 4), (26, .isub), (27, .laload), (28, .lastore), (29, .iinc 4 (-1)), (32, .goto (-27)), (35, .aload_n 0), (36, .getfield 24), (39, .sipush 218), (42, .aload_n 0), (43, .getfield 24), (46, .iconst 3), (47, .laload), (48, .lastore), (49, .aload_n 0), (50, .getfield 24), (53, .sipush 219), (56, .iload_n 1), (57, .i2l), (58, .lastore), (59, .aload_n 0), (60, .getfield 24), (63, .sipush 220), (66, .iload_n 2), (67, .i2l), (68, .lastore), (69, .aload_n 0), (70, .getfield 24), (73, .sipush 221), (76, .iload_n 3), (77, .i2l), (78, .lastore), (79, .aload_n 0), (80, .getfield 24), (83, .iconst 4), (84, .ldc2_w 95), (87, .aload_n 0), (88, .getfield 24), (91, .iconst 4), (92, .laload), (93, .lconst 1), (94, .ladd), (95, .invokestatic 97), (98, .lastore), (99, .return_)]
set_option maxRecDepth 100000 in
theorem id241 : scan (mCd 241).data.toList 0 il241 = true := by decide +kernel
theorem mm241 : mKd 241 = 1 ∧ mAr 241 = 3 ∧ mMx 241 = 5 := by decide +kernel
theorem mo241 : mOw 241 = 9 := by decide +kernel
theorem mr241 : mRt 241 = none := by decide +kernel
theorem mh241 : mHn 241 = [] := by decide +kernel
def il242 : List (Nat × Instr) := [(0, .aload_n 0), (1, .iload_n 2), (2, .invokevirtual 81), (5, .istore_n 3), (6, .iload_n 3), (7, .iconst (-1)), (8, .if_icmp .eq 34), (11, .aload_n 0), (12, .getfield 24), (15, .bipush 16), (17, .iconst 3), (18, .iload_n 3), (19, .imul), (20, .iadd), (21, .iconst 2), (22, .iadd), (23, .dup2), (24, .laload), (25, .lconst 1), (26, .ladd), (27, .lastore), (28, .aload_n 0), (29, .iload_n 1), (30, .aload_n 0), (31, .iload_n 3), (32, .iconst 1), (33, .invokevirtual 70), (36, .invokevirtual 123), (39, .goto 44), (42, .iload_n 2), (43, .ifCond .ge 7), (46, .iconst 0), (47, .goto 4), (50, .iconst 1), (51, .istore 4), (53, .aload_n 0), (54, .getfield 24), (57, .bipush 10), (59, .iload 4), (61, .iadd), (62, .dup2), (63, .laload), (64, .lconst 1), (65, .ladd), (66, .lastore), (67, .aload_n 0), (68, .iload_n 1), (69, .aload_n 0), (70, .getfield 24), (73, .bipush 8), (75, .iload 4), (77, .iadd), (78, .laload), (79, .l2i), (80, .invokevirtual 123), (83, .return_)]
set_option maxRecDepth 100000 in
theorem id242 : scan (mCd 242).data.toList 0 il242 = true := by decide +kernel
theorem mm242 : mKd 242 = 1 ∧ mAr 242 = 2 ∧ mMx 242 = 5 := by decide +kernel
theorem mo242 : mOw 242 = 9 := by decide +kernel
theorem mr242 : mRt 242 = none := by decide +kernel
theorem mh242 : mHn 242 = [] := by decide +kernel
def il243 : List (Nat × Instr) := [(0, .aload_n 0), (1, .iload_n 1), (2, .invokevirtual 84), (5, .istore_n 3), (6, .iload_n 3), (7, .iload_n 2), (8, .invokestatic 104), (11, .istore 4), (13, .aload_n 0), (14, .iload_n 1), (15, .iconst 1), (16, .iload 4), (18, .i2l), (19, .invokevirtual 107), (22, .aload_n 0), (23, .iload_n 1), (24, .bipush 6), (26, .invokevirtual 111), (29, .aload_n 0), (30, .iconst 1), (31, .invokevirtual 115), (34, .aload_n 0), (35, .getfield 24), (38, .iconst 5), (39, .dup2), (40, .laload), (41, .aload_n 0), (42, .iload_n 1), (43, .iconst 2), (44, .invokevirtual 63), (47, .iload_n 3), (48, .iload 4), (50, .isub), (51, .imul), (52, .i2l), (53, .ladd), (54, .lastore), (55, .aload_n 0), (56, .iload_n 1), (57, .iconst (-1)), (58, .iload_n 3), (59, .iload_n 2), (60, .invokestatic 101), (63, .invokevirtual 119), (66, .return_)]
set_option maxRecDepth 100000 in
theorem id243 : scan (mCd 243).data.toList 0 il243 = true := by decide +kernel
theorem mm243 : mKd 243 = 1 ∧ mAr 243 = 2 ∧ mMx 243 = 5 := by decide +kernel
theorem mo243 : mOw 243 = 9 := by decide +kernel
theorem mr243 : mRt 243 = none := by decide +kernel
theorem mh243 : mHn 243 = [] := by decide +kernel
def il244 : List (Nat × Instr) := [(0, .aload_n 0), (1, .iload_n 1), (2, .i2l), (3, .invokevirtual 201), (6, .l2i), (7, .ireturn)]
set_option maxRecDepth 100000 in
theorem id244 : scan (mCd 244).data.toList 0 il244 = true := by decide +kernel
theorem mm244 : mKd 244 = 1 ∧ mAr 244 = 1 ∧ mMx 244 = 2 := by decide +kernel
theorem mo244 : mOw 244 = 9 := by decide +kernel
theorem mr244 : mRt 244 = some .int := by decide +kernel
theorem mh244 : mHn 244 = [] := by decide +kernel
def il245 : List (Nat × Instr) := [(0, .iconst 0), (1, .istore_n 3), (2, .iload_n 3), (3, .sipush 378), (6, .if_icmp .ge 21), (9, .aload_n 0), (10, .getfield 17), (13, .iload_n 3), (14, .aload_n 0), (15, .getfield 27), (18, .iload_n 3), (19, .laload), (20, .lastore), (21, .iinc 3 1), (24, .goto (-22)), (27, .lload_n 1), (28, .lreturn)]
set_option maxRecDepth 100000 in
theorem id245 : scan (mCd 245).data.toList 0 il245 = true := by decide +kernel
theorem mm245 : mKd 245 = 1 ∧ mAr 245 = 1 ∧ mMx 245 = 4 := by decide +kernel
theorem mo245 : mOw 245 = 9 := by decide +kernel
theorem mr245 : mRt 245 = some .long := by decide +kernel
theorem mh245 : mHn 245 = [] := by decide +kernel
def il246 : List (Nat × Instr) := [(0, .aload_n 0), (1, .iconst 0), (2, .putfield 3), (5, .aload_n 0), (6, .iconst (-1)), (7, .invokevirtual 395), (10, .istore_n 2), (11, .iload_n 2), (12, .iconst (-1)), (13, .if_icmp .ne 7), (16, .iconst (-1)), (17, .goto 18), (20, .iload_n 1), (21, .ifCond .eq 10), (24, .aload_n 0), (25, .getfield 154), (28, .goto 7), (31, .aload_n 0), (32, .getfield 151), (35, .ireturn)]
set_option maxRecDepth 100000 in
theorem id246 : scan (mCd 246).data.toList 0 il246 = true := by decide +kernel
theorem mm246 : mKd 246 = 1 ∧ mAr 246 = 1 ∧ mMx 246 = 3 := by decide +kernel
theorem mo246 : mOw 246 = 9 := by decide +kernel
theorem mr246 : mRt 246 = some .int := by decide +kernel
theorem mh246 : mHn 246 = [] := by decide +kernel
def il247 : List (Nat × Instr) := [(0, .aload_n 0), (1, .aload_n 0), (2, .iload_n 1), (3, .invokevirtual 356), (6, .invokevirtual 214), (9, .ifCond .eq 11), (12, .aload_n 0), (13, .iload_n 1), (14, .invokevirtual 395), (17, .goto 4), (20, .iconst 0), (21, .ireturn)]
set_option maxRecDepth 100000 in
theorem id247 : scan (mCd 247).data.toList 0 il247 = true := by decide +kernel
theorem mm247 : mKd 247 = 1 ∧ mAr 247 = 1 ∧ mMx 247 = 2 := by decide +kernel
theorem mo247 : mOw 247 = 9 := by decide +kernel
theorem mr247 : mRt 247 = some .int := by decide +kernel
theorem mh247 : mHn 247 = [] := by decide +kernel
def il248 : List (Nat × Instr) := [(0, .aload_n 0), (1, .aload_n 0), (2, .iload_n 1), (3, .invokevirtual 356), (6, .iload_n 2), (7, .invokestatic 403), (10, .invokevirtual 361), (13, .ifCond .eq 13), (16, .aload_n 0), (17, .iload_n 1), (18, .iload_n 2), (19, .iconst 0), (20, .invokevirtual 406), (23, .goto 4), (26, .iconst 0), (27, .ireturn)]
set_option maxRecDepth 100000 in
theorem id248 : scan (mCd 248).data.toList 0 il248 = true := by decide +kernel
theorem mm248 : mKd 248 = 1 ∧ mAr 248 = 2 ∧ mMx 248 = 3 := by decide +kernel
theorem mo248 : mOw 248 = 9 := by decide +kernel
theorem mr248 : mRt 248 = some .int := by decide +kernel
theorem mh248 : mHn 248 = [] := by decide +kernel
def il249 : List (Nat × Instr) := [(0, .iload_n 0), (1, .i2l), (2, .lconst 0), (3, .ldc2_w 398), (6, .invokestatic 56), (9, .ireturn)]
set_option maxRecDepth 100000 in
theorem id249 : scan (mCd 249).data.toList 0 il249 = true := by decide +kernel
theorem mm249 : mKd 249 = 0 ∧ mAr 249 = 1 ∧ mMx 249 = 1 := by decide +kernel
theorem mo249 : mOw 249 = 9 := by decide +kernel
theorem mr249 : mRt 249 = some .boolean := by decide +kernel
theorem mh249 : mHn 249 = [] := by decide +kernel
def il250 : List (Nat × Instr) := [(0, .aload_n 0), (1, .invokevirtual 205), (4, .aload_n 0), (5, .bipush 60), (7, .iload_n 2), (8, .imul), (9, .invokevirtual 400), (12, .istore 4), (14, .aload_n 0), (15, .aload_n 0), (16, .iload_n 1), (17, .iload_n 3), (18, .invokevirtual 63), (21, .invokevirtual 208), (24, .ireturn)]
set_option maxRecDepth 100000 in
theorem id250 : scan (mCd 250).data.toList 0 il250 = true := by decide +kernel
theorem mm250 : mKd 250 = 1 ∧ mAr 250 = 3 ∧ mMx 250 = 5 := by decide +kernel
theorem mo250 : mOw 250 = 9 := by decide +kernel
theorem mr250 : mRt 250 = some .int := by decide +kernel
theorem mh250 : mHn 250 = [] := by decide +kernel
def il251 : List (Nat × Instr) := [(0, .aload_n 0), (1, .getfield 24), (4, .bipush 12), (6, .laload), (7, .lstore_n 2), (8, .iconst 0), (9, .istore 4), (11, .iload 4), (13, .iload_n 1), (14, .if_icmp .ge 13), (17, .aload_n 0), (18, .invokevirtual 198), (21, .iinc 4 1), (24, .goto (-13)), (27, .aload_n 0), (28, .getfield 24), (31, .bipush 12), (33, .laload), (34, .lload_n 2), (35, .lsub), (36, .l2i), (37, .ireturn)]
set_option maxRecDepth 100000 in
theorem id251 : scan (mCd 251).data.toList 0 il251 = true := by decide +kernel
theorem mm251 : mKd 251 = 1 ∧ mAr 251 = 1 ∧ mMx 251 = 5 := by decide +kernel
theorem mo251 : mOw 251 = 9 := by decide +kernel
theorem mr251 : mRt 251 = some .int := by decide +kernel
theorem mh251 : mHn 251 = [] := by decide +kernel
def il252 : List (Nat × Instr) := [(0, .aload_n 0), (1, .aload_n 0), (2, .iload_n 1), (3, .invokevirtual 356), (6, .iload_n 2), (7, .invokestatic 403), (10, .invokevirtual 361), (13, .ifCond .eq 13), (16, .aload_n 0), (17, .iload_n 1), (18, .iload_n 2), (19, .iconst 1), (20, .invokevirtual 406), (23, .goto 4), (26, .iconst 0), (27, .ireturn)]
set_option maxRecDepth 100000 in
theorem id252 : scan (mCd 252).data.toList 0 il252 = true := by decide +kernel
theorem mm252 : mKd 252 = 1 ∧ mAr 252 = 2 ∧ mMx 252 = 3 := by decide +kernel
theorem mo252 : mOw 252 = 9 := by decide +kernel
theorem mr252 : mRt 252 = some .int := by decide +kernel
theorem mh252 : mHn 252 = [] := by decide +kernel
def il253 : List (Nat × Instr) := [(0, .aload_n 0), (1, .iload_n 1), (2, .invokestatic 403), (5, .invokevirtual 214), (8, .ifCond .eq 12), (11, .aload_n 0), (12, .iload_n 1), (13, .iconst 0), (14, .invokevirtual 410), (17, .goto 4), (20, .iconst 0), (21, .ireturn)]
set_option maxRecDepth 100000 in
theorem id253 : scan (mCd 253).data.toList 0 il253 = true := by decide +kernel
theorem mm253 : mKd 253 = 1 ∧ mAr 253 = 1 ∧ mMx 253 = 2 := by decide +kernel
theorem mo253 : mOw 253 = 9 := by decide +kernel
theorem mr253 : mRt 253 = some .int := by decide +kernel
theorem mh253 : mHn 253 = [] := by decide +kernel
def il254 : List (Nat × Instr) := [(0, .aload_n 0), (1, .invokevirtual 205), (4, .aload_n 0), (5, .getfield 24), (8, .bipush 12), (10, .iload_n 2), (11, .iadd), (12, .laload), (13, .lstore_n 3), (14, .aload_n 0), (15, .bipush 60), (17, .iload_n 1), (18, .imul), (19, .invokevirtual 400), (22, .istore 5), (24, .aload_n 0), (25, .aload_n 0), (26, .getfield 24), (29, .bipush 12), (31, .iload_n 2), (32, .iadd), (33, .laload), (34, .lload_n 3), (35, .lsub), (36, .l2i), (37, .invokevirtual 208), (40, .ireturn)]
set_option maxRecDepth 100000 in
theorem id254 : scan (mCd 254).data.toList 0 il254 = true := by decide +kernel
theorem mm254 : mKd 254 = 1 ∧ mAr 254 = 2 ∧ mMx 254 = 6 := by decide +kernel
theorem mo254 : mOw 254 = 9 := by decide +kernel
theorem mr254 : mRt 254 = some .int := by decide +kernel
theorem mh254 : mHn 254 = [] := by decide +kernel
def il255 : List (Nat × Instr) := [(0, .aload_n 0), (1, .iload_n 1), (2, .invokestatic 403), (5, .invokevirtual 214), (8, .ifCond .eq 12), (11, .aload_n 0), (12, .iload_n 1), (13, .iconst 1), (14, .invokevirtual 410), (17, .goto 4), (20, .iconst 0), (21, .ireturn)]
set_option maxRecDepth 100000 in
theorem id255 : scan (mCd 255).data.toList 0 il255 = true := by decide +kernel
theorem mm255 : mKd 255 = 1 ∧ mAr 255 = 1 ∧ mMx 255 = 2 := by decide +kernel
theorem mo255 : mOw 255 = 9 := by decide +kernel
theorem mr255 : mRt 255 = some .int := by decide +kernel
theorem mh255 : mHn 255 = [] := by decide +kernel
def il256 : List (Nat × Instr) := [(0, .aload_n 0), (1, .iload_n 1), (2, .invokestatic 403), (5, .invokevirtual 214), (8, .ifCond .ne 5), (11, .lconst 0), (12, .lreturn), (13, .aload_n 0), (14, .invokevirtual 205), (17, .aload_n 0), (18, .bipush 60), (20, .iload_n 1), (21, .imul), (22, .invokevirtual 400), (25, .istore_n 2), (26, .aload_n 0), (27, .aload_n 0), (28, .invokevirtual 387), (31, .invokevirtual 201), (34, .lreturn)]
set_option maxRecDepth 100000 in
theorem id256 : scan (mCd 256).data.toList 0 il256 = true := by decide +kernel
theorem mm256 : mKd 256 = 1 ∧ mAr 256 = 1 ∧ mMx 256 = 3 := by decide +kernel
theorem mo256 : mOw 256 = 9 := by decide +kernel
theorem mr256 : mRt 256 = some .long := by decide +kernel
theorem mh256 : mHn 256 = [] := by decide +kernel
def il257 : List (Nat × Instr) := [(0, .aload_n 0), (1, .iconst 0), (2, .putfield 3), (5, .aload_n 0), (6, .invokevirtual 205), (9, .iconst 0), (10, .istore_n 1), (11, .iload_n 1), (12, .bipush 50), (14, .if_icmp .gt 33), (17, .aload_n 0), (18, .invokevirtual 350), (21, .aload_n 0), (22, .invokevirtual 52), (25, .if_icmp .ne 9), (28, .aload_n 0), (29, .iload_n 1), (30, .invokevirtual 208), (33, .ireturn), (34, .aload_n 0), (35, .bipush 60), (37, .invokevirtual 400), (40, .istore_n 2), (41, .iinc 1 1), (44, .goto (-33)), (47, .aload_n 0), (48, .iconst (-1)), (49, .invokevirtual 208), (52, .ireturn)]
set_option maxRecDepth 100000 in
theorem id257 : scan (mCd 257).data.toList 0 il257 = true := by decide +kernel
theorem mm257 : mKd 257 = 1 ∧ mAr 257 = 0 ∧ mMx 257 = 3 := by decide +kernel
theorem mo257 : mOw 257 = 9 := by decide +kernel
theorem mr257 : mRt 257 = some .int := by decide +kernel
theorem mh257 : mHn 257 = [] := by decide +kernel
def il258 : List (Nat × Instr) := [(0, .aload_n 0), (1, .iload_n 2), (2, .invokestatic 392), (5, .ifCond .eq 14), (8, .iload_n 3), (9, .invokestatic 403), (12, .ifCond .eq 7), (15, .iconst 1), (16, .goto 4), (19, .iconst 0), (20, .invokevirtual 214), (23, .ifCond .ne 5), (26, .lconst 0), (27, .lreturn), (28, .aload_n 0), (29, .invokevirtual 205), (32, .aload_n 0), (33, .getfield 24), (36, .bipush 8), (38, .iload_n 1), (39, .ifCond .eq 7), (42, .iconst 1), (43, .goto 4), (46, .iconst 0), (47, .iadd), (48, .iload_n 2), (49, .i2l), (50, .lastore), (51, .aload_n 0), (52, .bipush 60), (54, .iload_n 3), (55, .imul), (56, .invokevirtual 400), (59, .istore 4), (61, .aload_n 0), (62, .aload_n 0), (63, .invokevirtual 387), (66, .invokevirtual 201), (69, .lreturn)]
set_option maxRecDepth 100000 in
theorem id258 : scan (mCd 258).data.toList 0 il258 = true := by decide +kernel
theorem mm258 : mKd 258 = 1 ∧ mAr 258 = 3 ∧ mMx 258 = 5 := by decide +kernel
theorem mo258 : mOw 258 = 9 := by decide +kernel
theorem mr258 : mRt 258 = some .long := by decide +kernel
theorem mh258 : mHn 258 = [] := by decide +kernel
def il259 : List (Nat × Instr) := [(0, .aload_n 0), (1, .iconst 0), (2, .putfield 3), (5, .iconst 0), (6, .istore_n 1), (7, .iconst 0), (8, .istore_n 2), (9, .iload_n 2), (10, .aload_n 0), (11, .invokevirtual 52), (14, .if_icmp .ge 17), (17, .iload_n 1), (18, .aload_n 0), (19, .iload_n 2), (20, .invokevirtual 181), (23, .iadd), (24, .istore_n 1), (25, .iinc 2 1), (28, .goto (-19)), (31, .aload_n 0), (32, .invokevirtual 52), (35, .ifCond .ne 7), (38, .dconst 0), (39, .goto 11), (42, .iload_n 1), (43, .i2d), (44, .aload_n 0), (45, .invokevirtual 52), (48, .i2d), (49, .ddiv), (50, .dreturn)]
set_option maxRecDepth 100000 in
theorem id259 : scan (mCd 259).data.toList 0 il259 = true := by decide +kernel
theorem mm259 : mKd 259 = 1 ∧ mAr 259 = 0 ∧ mMx 259 = 3 := by decide +kernel
theorem mo259 : mOw 259 = 9 := by decide +kernel
theorem mr259 : mRt 259 = some .double := by decide +kernel
theorem mh259 : mHn 259 = [] := by decide +kernel
def il260 : List (Nat × Instr) := [(0, .aload_n 0), (1, .aload_n 0), (2, .iload_n 1), (3, .invokevirtual 356), (6, .invokevirtual 214), (9, .ifCond .ne 5), (12, .fconst 0), (13, .freturn), (14, .aload_n 0), (15, .invokevirtual 387), (18, .lstore_n 2), (19, .lload_n 2), (20, .lconst 0), (21, .lcmp), (22, .ifCond .ne 7), (25, .fconst 0), (26, .goto 12), (29, .aload_n 0), (30, .iload_n 1), (31, .invokevirtual 92), (34, .i2f), (35, .lload_n 2), (36, .l2f), (37, .fdiv), (38, .freturn)]
set_option maxRecDepth 100000 in
theorem id260 : scan (mCd 260).data.toList 0 il260 = true := by decide +kernel
theorem mm260 : mKd 260 = 1 ∧ mAr 260 = 1 ∧ mMx 260 = 4 := by decide +kernel
theorem mo260 : mOw 260 = 9 := by decide +kernel
theorem mr260 : mRt 260 = some .float := by decide +kernel
theorem mh260 : mHn 260 = [] := by decide +kernel
def il261 : List (Nat × Instr) := [(0, .aload_n 0), (1, .iconst 0), (2, .putfield 3), (5, .iconst 0), (6, .istore_n 1), (7, .iconst 0), (8, .istore_n 2), (9, .iload_n 2), (10, .aload_n 0), (11, .invokevirtual 52), (14, .if_icmp .ge 25), (17, .iload_n 1), (18, .aload_n 0), (19, .iload_n 2), (20, .iconst 0), (21, .invokevirtual 63), (24, .aload_n 0), (25, .iload_n 2), (26, .iconst 2), (27, .invokevirtual 63), (30, .imul), (31, .iadd), (32, .istore_n 1), (33, .iinc 2 1), (36, .goto (-27)), (39, .aload_n 0), (40, .invokevirtual 52), (43, .ifCond .ne 9), (46, .ldc2_w 413), (49, .goto 11), (52, .iload_n 1), (53, .i2d), (54, .aload_n 0), (55, .invokevirtual 353), (58, .i2d), (59, .ddiv), (60, .dreturn)]
set_option maxRecDepth 100000 in
theorem id261 : scan (mCd 261).data.toList 0 il261 = true := by decide +kernel
theorem mm261 : mKd 261 = 1 ∧ mAr 261 = 0 ∧ mMx 261 = 3 := by decide +kernel
theorem mo261 : mOw 261 = 9 := by decide +kernel
theorem mr261 : mRt 261 = some .double := by decide +kernel
theorem mh261 : mHn 261 = [] := by decide +kernel
def il262 : List (Nat × Instr) := [(0, .aload_n 0), (1, .iload_n 1), (2, .i2l), (3, .lconst 1), (4, .ldc2_w 415), (7, .invokestatic 56), (10, .invokevirtual 214), (13, .ifCond .ne 5), (16, .iconst 0), (17, .ireturn), (18, .aload_n 0), (19, .invokevirtual 345), (22, .aload_n 0), (23, .iload_n 1), (24, .invokevirtual 400), (27, .ireturn)]
set_option maxRecDepth 100000 in
theorem id262 : scan (mCd 262).data.toList 0 il262 = true := by decide +kernel
theorem mm262 : mKd 262 = 1 ∧ mAr 262 = 1 ∧ mMx 262 = 2 := by decide +kernel
theorem mo262 : mOw 262 = 9 := by decide +kernel
theorem mr262 : mRt 262 = some .int := by decide +kernel
theorem mh262 : mHn 262 = [] := by decide +kernel
def il263 : List (Nat × Instr) := [(0, .aload_n 0), (1, .iload_n 1), (2, .i2l), (3, .lconst 1), (4, .ldc2_w 398), (7, .invokestatic 56), (10, .invokevirtual 214), (13, .ifCond .ne 5), (16, .iconst 0), (17, .ireturn), (18, .aload_n 0), (19, .invokevirtual 345), (22, .aload_n 0), (23, .bipush 60), (25, .iload_n 1), (26, .imul), (27, .invokevirtual 400), (30, .ireturn)]
set_option maxRecDepth 100000 in
theorem id263 : scan (mCd 263).data.toList 0 il263 = true := by decide +kernel
theorem mm263 : mKd 263 = 1 ∧ mAr 263 = 1 ∧ mMx 263 = 2 := by decide +kernel
theorem mo263 : mOw 263 = 9 := by decide +kernel
theorem mr263 : mRt 263 = some .int := by decide +kernel
theorem mh263 : mHn 263 = [] := by decide +kernel
def il264 : List (Nat × Instr) := [(0, .aload_n 0), (1, .aload_n 0), (2, .iload_n 1), (3, .invokevirtual 356), (6, .iload_n 2), (7, .i2l), (8, .ldc2_w 138), (11, .ldc2_w 140), (14, .invokestatic 56), (17, .invokevirtual 361), (20, .ifCond .ne 5), (23, .iconst 0), (24, .ireturn), (25, .aload_n 0), (26, .iload_n 1), (27, .iconst 1), (28, .bipush (-60)), (30, .bipush 60), (32, .aload_n 0), (33, .iload_n 1), (34, .invokevirtual 84), (37, .iload_n 2), (38, .iadd), (39, .invokestatic 254), (42, .invokestatic 135), (45, .invokevirtual 421), (48, .istore_n 3), (49, .aload_n 0), (50, .iload_n 1), (51, .invokevirtual 84), (54, .ireturn)]
set_option maxRecDepth 100000 in
theorem id264 : scan (mCd 264).data.toList 0 il264 = true := by decide +kernel
theorem mm264 : mKd 264 = 1 ∧ mAr 264 = 2 ∧ mMx 264 = 4 := by decide +kernel
theorem mo264 : mOw 264 = 9 := by decide +kernel
theorem mr264 : mRt 264 = some .int := by decide +kernel
theorem mh264 : mHn 264 = [] := by decide +kernel
def il265 : List (Nat × Instr) := [(0, .aload_n 0), (1, .invokevirtual 345), (4, .aload_n 0), (5, .invokevirtual 383), (8, .lstore 4), (10, .aload_n 0), (11, .iload_n 1), (12, .iload_n 2), (13, .invokevirtual 63), (16, .istore 6), (18, .aload_n 0), (19, .iload_n 1), (20, .iload_n 2), (21, .iload_n 3), (22, .i2l), (23, .invokevirtual 107), (26, .aload_n 0), (27, .lload 4), (29, .invokevirtual 417), (32, .iload 6), (34, .ireturn)]
set_option maxRecDepth 100000 in
theorem id265 : scan (mCd 265).data.toList 0 il265 = true := by decide +kernel
theorem mm265 : mKd 265 = 1 ∧ mAr 265 = 3 ∧ mMx 265 = 7 := by decide +kernel
theorem mo265 : mOw 265 = 9 := by decide +kernel
theorem mr265 : mRt 265 = some .int := by decide +kernel
theorem mh265 : mHn 265 = [] := by decide +kernel
def il266 : List (Nat × Instr) := [(0, .aload_n 0), (1, .getfield 24), (4, .bipush 7), (6, .dup2), (7, .laload), (8, .aload_n 0), (9, .invokevirtual 383), (12, .lload_n 1), (13, .lsub), (14, .ladd), (15, .lastore), (16, .return_)]
set_option maxRecDepth 100000 in
theorem id266 : scan (mCd 266).data.toList 0 il266 = true := by decide +kernel
theorem mm266 : mKd 266 = 1 ∧ mAr 266 = 1 ∧ mMx 266 = 3 := by decide +kernel
theorem mo266 : mOw 266 = 9 := by decide +kernel
theorem mr266 : mRt 266 = none := by decide +kernel
theorem mh266 : mHn 266 = [] := by decide +kernel
def il267 : List (Nat × Instr) := [(0, .aload_n 0), (1, .aload_n 0), (2, .iload_n 1), (3, .invokevirtual 356), (6, .iload_n 2), (7, .i2l), (8, .lconst 1), (9, .ldc2_w 424), (12, .invokestatic 56), (15, .invokevirtual 361), (18, .ifCond .eq 13), (21, .aload_n 0), (22, .iload_n 1), (23, .iconst 2), (24, .iload_n 2), (25, .invokevirtual 421), (28, .goto 4), (31, .iconst 0), (32, .ireturn)]
set_option maxRecDepth 100000 in
theorem id267 : scan (mCd 267).data.toList 0 il267 = true := by decide +kernel
theorem mm267 : mKd 267 = 1 ∧ mAr 267 = 2 ∧ mMx 267 = 3 := by decide +kernel
theorem mo267 : mOw 267 = 9 := by decide +kernel
theorem mr267 : mRt 267 = some .int := by decide +kernel
theorem mh267 : mHn 267 = [] := by decide +kernel
def il268 : List (Nat × Instr) := [(0, .aload_n 0), (1, .iload_n 1), (2, .i2l), (3, .ldc2_w 426), (6, .aload_n 0), (7, .invokevirtual 67), (10, .iconst 1), (11, .isub), (12, .i2l), (13, .invokestatic 56), (16, .iload_n 2), (17, .invokestatic 392), (20, .invokevirtual 361), (23, .ifCond .ne 5), (26, .iconst 0), (27, .ireturn), (28, .aload_n 0), (29, .invokevirtual 345), (32, .iload_n 1), (33, .ifCond .ge 20), (36, .bipush 8), (38, .iload_n 1), (39, .bipush (-2)), (41, .if_icmp .ne 7), (44, .iconst 1), (45, .goto 4), (48, .iconst 0), (49, .iadd), (50, .goto 11), (53, .bipush 16), (55, .iconst 3), (56, .iload_n 1), (57, .imul), (58, .iadd), (59, .iconst 1), (60, .iadd), (61, .istore_n 3), (62, .aload_n 0), (63, .getfield 17), (66, .iload_n 3), (67, .laload), (68, .l2i), (69, .istore 4), (71, .aload_n 0), (72, .getfield 17), (75, .iload_n 3), (76, .iload_n 2), (77, .i2l), (78, .lastore), (79, .iload 4), (81, .ireturn)]
set_option maxRecDepth 100000 in
theorem id268 : scan (mCd 268).data.toList 0 il268 = true := by decide +kernel
theorem mm268 : mKd 268 = 1 ∧ mAr 268 = 2 ∧ mMx 268 = 5 := by decide +kernel
theorem mo268 : mOw 268 = 9 := by decide +kernel
theorem mr268 : mRt 268 = some .int := by decide +kernel
theorem mh268 : mHn 268 = [] := by decide +kernel
def il269 : List (Nat × Instr) := [(0, .aload_n 0), (1, .aload_n 0), (2, .iload_n 1), (3, .invokevirtual 73), (6, .iload_n 2), (7, .i2l), (8, .ldc2_w 138), (11, .ldc2_w 140), (14, .invokestatic 56), (17, .ifCond .eq 19), (20, .iload_n 3), (21, .i2l), (22, .lconst 1), (23, .ldc2_w 424), (26, .invokestatic 56), (29, .ifCond .eq 7), (32, .iconst 1), (33, .goto 4), (36, .iconst 0), (37, .aload_n 0), (38, .invokevirtual 52), (41, .bipush 10), (43, .if_icmp .ge 15), (46, .aload_n 0), (47, .iload_n 1), (48, .invokevirtual 165), (51, .ifCond .eq 7), (54, .iconst 1), (55, .goto 4), (58, .iconst 0), (59, .invokevirtual 7), (62, .ifCond .ne 5), (65, .iconst 0), (66, .ireturn), (67, .aload_n 0), (68, .invokevirtual 345), (71, .aload_n 0), (72, .invokevirtual 383), (75, .lstore 4), (77, .aload_n 0), (78, .iload_n 1), (79, .iload_n 2), (80, .iload_n 3), (81, .iconst 0), (82, .invokevirtual 329), (85, .istore 6), (87, .aload_n 0), (88, .lload 4), (90, .invokevirtual 417), (93, .iload 6), (95, .ireturn)]
set_option maxRecDepth 100000 in
theorem id269 : scan (mCd 269).data.toList 0 il269 = true := by decide +kernel
theorem mm269 : mKd 269 = 1 ∧ mAr 269 = 3 ∧ mMx 269 = 7 := by decide +kernel
theorem mo269 : mOw 269 = 9 := by decide +kernel
theorem mr269 : mRt 269 = some .int := by decide +kernel
theorem mh269 : mHn 269 = [] := by decide +kernel
def il270 : List (Nat × Instr) := [(0, .aload_n 0), (1, .aload_n 0), (2, .iload_n 1), (3, .invokevirtual 356), (6, .invokevirtual 214), (9, .ifCond .ne 5), (12, .iconst 0), (13, .ireturn), (14, .aload_n 0), (15, .invokevirtual 345), (18, .aload_n 0), (19, .invokevirtual 383), (22, .lstore_n 2), (23, .bipush 28), (25, .bipush 9), (27, .iload_n 1), (28, .imul), (29, .iadd), (30, .istore 4), (32, .iload 4), (34, .bipush 28), (36, .bipush 9), (38, .aload_n 0), (39, .invokevirtual 52), (42, .iconst 1), (43, .isub), (44, .imul), (45, .iadd), (46, .if_icmp .ge 26), (49, .aload_n 0), (50, .getfield 17), (53, .iload 4), (55, .aload_n 0), (56, .getfield 17), (59, .iload 4), (61, .bipush 9), (63, .iadd), (64, .laload), (65, .lastore), (66, .iinc 4 1), (69, .goto (-37)), (72, .aload_n 0), (73, .getfield 17), (76, .iconst 1), (77, .dup2), (78, .laload), (79, .lconst 1), (80, .lsub), (81, .lastore), (82, .aload_n 0), (83, .iload_n 1), (84, .invokevirtual 428), (87, .iconst 0), (88, .istore 4), (90, .iload 4), (92, .aload_n 0), (93, .invokevirtual 373), (96, .if_icmp .ge 63), (99, .aload_n 0), (100, .getfield 17), (103, .sipush 218), (106, .iconst 4), (107, .iload 4), (109, .imul), (110, .iadd), (111, .iconst 1), (112, .iadd), (113, .aload_n 0), (114, .iload 4), (116, .iconst 1), (117, .invokevirtual 378), (120, .iload_n 1), (121, .invokestatic 431), (124, .i2l), (125, .lastore), (126, .aload_n 0), (127, .getfield 17), (130, .sipush 218), (133, .iconst 4), (134, .iload 4), (136, .imul), (137, .iadd), (138, .iconst 2), (139, .iadd), (140, .aload_n 0), (141, .iload 4), (143, .iconst 2), (144, .invokevirtual 378), (147, .iload_n 1), (148, .invokestatic 431), (151, .i2l), (152, .lastore), (153, .iinc 4 1), (156, .goto (-66)), (159, .aload_n 0), (160, .lload_n 2), (161, .invokevirtual 417), (164, .aload_n 0), (165, .invokevirtual 52), (168, .ireturn)]
set_option maxRecDepth 100000 in
theorem id270 : scan (mCd 270).data.toList 0 il270 = true := by decide +kernel
theorem mm270 : mKd 270 = 1 ∧ mAr 270 = 1 ∧ mMx 270 = 5 := by decide +kernel
theorem mo270 : mOw 270 = 9 := by decide +kernel
theorem mr270 : mRt 270 = some .int := by decide +kernel
theorem mh270 : mHn 270 = [] := by decide +kernel
def il271 : List (Nat × Instr) := [(0, .iconst 0), (1, .istore_n 2), (2, .iload_n 2), (3, .bipush 10), (5, .if_icmp .ge 99), (8, .iconst 0), (9, .istore_n 3), (10, .iload_n 3), (11, .bipush 10), (13, .if_icmp .ge 85), (16, .iload_n 2), (17, .iload_n 1), (18, .if_icmp .ge 7), (21, .iload_n 2), (22, .goto 6), (25, .iload_n 2), (26, .iconst 1), (27, .iadd), (28, .istore 4), (30, .iload_n 3), (31, .iload_n 1), (32, .if_icmp .ge 7), (35, .iload_n 3), (36, .goto 6), (39, .iload_n 3), (40, .iconst 1), (41, .iadd), (42, .istore 5), (44, .aload_n 0), (45, .getfield 24), (48, .bipush 118), (50, .bipush 10), (52, .iload_n 2), (53, .imul), (54, .iadd), (55, .iload_n 3), (56, .iadd), (57, .iload 4), (59, .bipush 10), (61, .if_icmp .ge 29), (64, .iload 5), (66, .bipush 10), (68, .if_icmp .ge 22), (71, .aload_n 0), (72, .getfield 24), (75, .bipush 118), (77, .bipush 10), (79, .iload 4), (81, .imul), (82, .iadd), (83, .iload 5), (85, .iadd), (86, .laload), (87, .goto 4), (90, .lconst 0), (91, .lastore), (92, .iinc 3 1), (95, .goto (-85)), (98, .iinc 2 1), (101, .goto (-99)), (104, .return_)]
set_option maxRecDepth 100000 in
theorem id271 : scan (mCd 271).data.toList 0 il271 = true := by decide +kernel
theorem mm271 : mKd 271 = 1 ∧ mAr 271 = 1 ∧ mMx 271 = 6 := by decide +kernel
theorem mo271 : mOw 271 = 9 := by decide +kernel
theorem mr271 : mRt 271 = none := by decide +kernel
theorem mh271 : mHn 271 = [] := by decide +kernel
def il272 : List (Nat × Instr) := [(0, .iload_n 0), (1, .iload_n 1), (2, .if_icmp .ne 8), (5, .bipush (-2)), (7, .goto 15), (10, .iload_n 0), (11, .iload_n 1), (12, .if_icmp .le 9), (15, .iload_n 0), (16, .iconst 1), (17, .isub), (18, .goto 4), (21, .iload_n 0), (22, .ireturn)]
set_option maxRecDepth 100000 in
theorem id272 : scan (mCd 272).data.toList 0 il272 = true := by decide +kernel
theorem mm272 : mKd 272 = 0 ∧ mAr 272 = 2 ∧ mMx 272 = 2 := by decide +kernel
theorem mo272 : mOw 272 = 9 := by decide +kernel
theorem mr272 : mRt 272 = some .int := by decide +kernel
theorem mh272 : mHn 272 = [] := by decide +kernel
def il273 : List (Nat × Instr) := [(0, .aload_n 0), (1, .aload_n 0), (2, .iload_n 1), (3, .invokevirtual 356), (6, .invokevirtual 214), (9, .ifCond .ne 5), (12, .iconst 0), (13, .ireturn), (14, .aload_n 0), (15, .iload_n 1), (16, .iconst 1), (17, .aload_n 0), (18, .iload_n 1), (19, .invokevirtual 84), (22, .ineg), (23, .invokevirtual 421), (26, .istore_n 2), (27, .aload_n 0), (28, .iload_n 1), (29, .invokevirtual 84), (32, .ireturn)]
set_option maxRecDepth 100000 in
theorem id273 : scan (mCd 273).data.toList 0 il273 = true := by decide +kernel
theorem mm273 : mKd 273 = 1 ∧ mAr 273 = 1 ∧ mMx 273 = 3 := by decide +kernel
theorem mo273 : mOw 273 = 9 := by decide +kernel
theorem mr273 : mRt 273 = some .int := by decide +kernel
theorem mh273 : mHn 273 = [] := by decide +kernel
def il274 : List (Nat × Instr) := [(0, .aload_n 0), (1, .iconst 0), (2, .putfield 3), (5, .aload_n 0), (6, .invokevirtual 345), (9, .aload_n 0), (10, .invokevirtual 383), (13, .lstore_n 1), (14, .aload_n 0), (15, .invokevirtual 52), (18, .aload_n 0), (19, .invokevirtual 350), (22, .isub), (23, .istore_n 3), (24, .iconst 0), (25, .istore 4), (27, .iload 4), (29, .aload_n 0), (30, .invokevirtual 52), (33, .if_icmp .ge 17), (36, .aload_n 0), (37, .iload 4), (39, .iconst 1), (40, .lconst 0), (41, .invokevirtual 107), (44, .iinc 4 1), (47, .goto (-20)), (50, .aload_n 0), (51, .lload_n 1), (52, .invokevirtual 417), (55, .iload_n 3), (56, .ireturn)]
set_option maxRecDepth 100000 in
theorem id274 : scan (mCd 274).data.toList 0 il274 = true := by decide +kernel
theorem mm274 : mKd 274 = 1 ∧ mAr 274 = 0 ∧ mMx 274 = 5 := by decide +kernel
theorem mo274 : mOw 274 = 9 := by decide +kernel
theorem mr274 : mRt 274 = some .int := by decide +kernel
theorem mh274 : mHn 274 = [] := by decide +kernel
def il275 : List (Nat × Instr) := [(0, .aload_n 0), (1, .iload_n 1), (2, .invokevirtual 356), (5, .ifCond .eq 15), (8, .aload_n 0), (9, .iload_n 2), (10, .invokevirtual 73), (13, .ifCond .eq 7), (16, .iconst 1), (17, .goto 4), (20, .iconst 0), (21, .istore_n 3), (22, .aload_n 0), (23, .iload_n 3), (24, .iload_n 3), (25, .ifCond .eq 24), (28, .aload_n 0), (29, .iload_n 2), (30, .invokevirtual 165), (33, .ifCond .ne 12), (36, .aload_n 0), (37, .iload_n 2), (38, .invokevirtual 77), (41, .iload_n 1), (42, .if_icmp .ne 7), (45, .iconst 1), (46, .goto 4), (49, .iconst 0), (50, .invokevirtual 361), (53, .ifCond .ne 5), (56, .iconst 0), (57, .ireturn), (58, .aload_n 0), (59, .iload_n 1), (60, .iconst 0), (61, .iload_n 2), (62, .invokevirtual 421), (65, .ireturn)]
set_option maxRecDepth 100000 in
theorem id275 : scan (mCd 275).data.toList 0 il275 = true := by decide +kernel
theorem mm275 : mKd 275 = 1 ∧ mAr 275 = 2 ∧ mMx 275 = 4 := by decide +kernel
theorem mo275 : mOw 275 = 9 := by decide +kernel
theorem mr275 : mRt 275 = some .int := by decide +kernel
theorem mh275 : mHn 275 = [] := by decide +kernel
def il276 : List (Nat × Instr) := [(0, .aload_n 0), (1, .iload_n 1), (2, .invokestatic 434), (5, .invokevirtual 214), (8, .ifCond .ne 5), (11, .iconst 0), (12, .ireturn), (13, .iconst 0), (14, .istore_n 2), (15, .iload_n 2), (16, .sipush 378), (19, .if_icmp .ge 27), (22, .aload_n 0), (23, .getfield 37), (26, .sipush 378), (29, .iload_n 1), (30, .imul), (31, .iload_n 2), (32, .iadd), (33, .aload_n 0), (34, .getfield 17), (37, .iload_n 2), (38, .laload), (39, .lastore), (40, .iinc 2 1), (43, .goto (-28)), (46, .aload_n 0), (47, .getfield 40), (50, .iload_n 1), (51, .iconst 1), (52, .bastore), (53, .aload_n 0), (54, .getfield 17), (57, .iconst 3), (58, .laload), (59, .l2i), (60, .ireturn)]
set_option maxRecDepth 100000 in
theorem id276 : scan (mCd 276).data.toList 0 il276 = true := by decide +kernel
theorem mm276 : mKd 276 = 1 ∧ mAr 276 = 1 ∧ mMx 276 = 3 := by decide +kernel
theorem mo276 : mOw 276 = 9 := by decide +kernel
theorem mr276 : mRt 276 = some .int := by decide +kernel
theorem mh276 : mHn 276 = [] := by decide +kernel
def il277 : List (Nat × Instr) := [(0, .iload_n 0), (1, .i2l), (2, .lconst 0), (3, .lconst 1), (4, .invokestatic 56), (7, .ireturn)]
set_option maxRecDepth 100000 in
theorem id277 : scan (mCd 277).data.toList 0 il277 = true := by decide +kernel
theorem mm277 : mKd 277 = 0 ∧ mAr 277 = 1 ∧ mMx 277 = 1 := by decide +kernel
theorem mo277 : mOw 277 = 9 := by decide +kernel
theorem mr277 : mRt 277 = some .boolean := by decide +kernel
theorem mh277 : mHn 277 = [] := by decide +kernel
def il278 : List (Nat × Instr) := [(0, .aload_n 0), (1, .iload_n 1), (2, .invokestatic 434), (5, .iload_n 1), (6, .invokestatic 434), (9, .ifCond .eq 12), (12, .aload_n 0), (13, .getfield 40), (16, .iload_n 1), (17, .baload), (18, .ifCond .eq 7), (21, .iconst 1), (22, .goto 4), (25, .iconst 0), (26, .invokevirtual 361), (29, .ifCond .ne 5), (32, .iconst 0), (33, .ireturn), (34, .aload_n 0), (35, .invokevirtual 345), (38, .iconst 0), (39, .istore_n 2), (40, .iload_n 2), (41, .sipush 378), (44, .if_icmp .ge 27), (47, .aload_n 0), (48, .getfield 17), (51, .iload_n 2), (52, .aload_n 0), (53, .getfield 37), (56, .sipush 378), (59, .iload_n 1), (60, .imul), (61, .iload_n 2), (62, .iadd), (63, .laload), (64, .lastore), (65, .iinc 2 1), (68, .goto (-28)), (71, .aload_n 0), (72, .getfield 17), (75, .iconst 3), (76, .laload), (77, .l2i), (78, .ireturn)]
set_option maxRecDepth 100000 in
theorem id278 : scan (mCd 278).data.toList 0 il278 = true := by decide +kernel
theorem mm278 : mKd 278 = 1 ∧ mAr 278 = 1 ∧ mMx 278 = 3 := by decide +kernel
theorem mo278 : mOw 278 = 9 := by decide +kernel
theorem mr278 : mRt 278 = some .int := by decide +kernel
theorem mh278 : mHn 278 = [] := by decide +kernel
def il279 : List (Nat × Instr) := [(0, .aload_n 0), (1, .aload_n 0), (2, .getfield 437), (5, .ifCond .le 7), (8, .iconst 1), (9, .goto 4), (12, .iconst 0), (13, .invokevirtual 214), (16, .ifCond .ne 5), (19, .iconst 0), (20, .ireturn), (21, .aload_n 0), (22, .dup), (23, .getfield 437), (26, .iconst 1), (27, .isub), (28, .putfield 437), (31, .iconst 0), (32, .istore_n 1), (33, .iload_n 1), (34, .sipush 378), (37, .if_icmp .ge 30), (40, .aload_n 0), (41, .getfield 17), (44, .iload_n 1), (45, .aload_n 0), (46, .getfield 44), (49, .sipush 378), (52, .aload_n 0), (53, .getfield 437), (56, .imul), (57, .iload_n 1), (58, .iadd), (59, .laload), (60, .lastore), (61, .iinc 1 1), (64, .goto (-31)), (67, .aload_n 0), (68, .getfield 437), (71, .ireturn)]
set_option maxRecDepth 100000 in
theorem id279 : scan (mCd 279).data.toList 0 il279 = true := by decide +kernel
theorem mm279 : mKd 279 = 1 ∧ mAr 279 = 0 ∧ mMx 279 = 2 := by decide +kernel
theorem mo279 : mOw 279 = 9 := by decide +kernel
theorem mr279 : mRt 279 = some .int := by decide +kernel
theorem mh279 : mHn 279 = [] := by decide +kernel
def il280 : List (Nat × Instr) := [(0, .aload_n 0), (1, .iconst 0), (2, .putfield 3), (5, .aload_n 0), (6, .getfield 437), (9, .ireturn)]
set_option maxRecDepth 100000 in
theorem id280 : scan (mCd 280).data.toList 0 il280 = true := by decide +kernel
theorem mm280 : mKd 280 = 1 ∧ mAr 280 = 0 ∧ mMx 280 = 1 := by decide +kernel
theorem mo280 : mOw 280 = 9 := by decide +kernel
theorem mr280 : mRt 280 = some .int := by decide +kernel
theorem mh280 : mHn 280 = [] := by decide +kernel
def il281 : List (Nat × Instr) := [(0, .aload_n 0), (1, .iconst 0), (2, .putfield 3), (5, .aload_n 0), (6, .iconst 0), (7, .putfield 440), (10, .iconst 0), (11, .istore_n 1), (12, .iload_n 1), (13, .aload_n 0), (14, .invokevirtual 60), (17, .if_icmp .ge 47), (20, .aload_n 0), (21, .iload_n 1), (22, .invokevirtual 77), (25, .istore_n 2), (26, .aload_n 0), (27, .iload_n 2), (28, .iconst (-1)), (29, .if_icmp .eq 10), (32, .bipush 48), (34, .iload_n 2), (35, .iadd), (36, .goto 19), (39, .aload_n 0), (40, .iload_n 1), (41, .invokevirtual 81), (44, .iconst (-1)), (45, .if_icmp .eq 8), (48, .bipush 35), (50, .goto 5), (53, .bipush 46), (55, .invokevirtual 443), (58, .iinc 1 1), (61, .goto (-49)), (64, .aload_n 0), (65, .getfield 440), (68, .ireturn)]
set_option maxRecDepth 100000 in
theorem id281 : scan (mCd 281).data.toList 0 il281 = true := by decide +kernel
theorem mm281 : mKd 281 = 1 ∧ mAr 281 = 0 ∧ mMx 281 = 3 := by decide +kernel
theorem mo281 : mOw 281 = 9 := by decide +kernel
theorem mr281 : mRt 281 = some .int := by decide +kernel
theorem mh281 : mHn 281 = [] := by decide +kernel
def il282 : List (Nat × Instr) := [(0, .aload_n 0), (1, .getfield 47), (4, .aload_n 0), (5, .getfield 440), (8, .iload_n 1), (9, .i2b), (10, .bastore), (11, .aload_n 0), (12, .dup), (13, .getfield 440), (16, .iconst 1), (17, .iadd), (18, .putfield 440), (21, .return_)]
set_option maxRecDepth 100000 in
theorem id282 : scan (mCd 282).data.toList 0 il282 = true := by decide +kernel
theorem mm282 : mKd 282 = 1 ∧ mAr 282 = 1 ∧ mMx 282 = 2 := by decide +kernel
theorem mo282 : mOw 282 = 9 := by decide +kernel
theorem mr282 : mRt 282 = none := by decide +kernel
theorem mh282 : mHn 282 = [] := by decide +kernel
def il283 : List (Nat × Instr) := [(0, .aload_n 0), (1, .iconst 0), (2, .putfield 3), (5, .aload_n 0), (6, .iconst 0), (7, .putfield 440), (10, .iconst 0), (11, .istore_n 1), (12, .iload_n 1), (13, .aload_n 0), (14, .invokevirtual 52), (17, .if_icmp .ge 55), (20, .aload_n 0), (21, .iload_n 1), (22, .invokevirtual 367), (25, .istore_n 2), (26, .aload_n 0), (27, .invokevirtual 446), (30, .aload_n 0), (31, .iload_n 2), (32, .invokevirtual 449), (35, .aload_n 0), (36, .bipush 64), (38, .invokevirtual 443), (41, .aload_n 0), (42, .aload_n 0), (43, .iload_n 2), (44, .iconst 0), (45, .invokevirtual 63), (48, .invokevirtual 449), (51, .aload_n 0), (52, .bipush 58), (54, .invokevirtual 443), (57, .aload_n 0), (58, .aload_n 0), (59, .iload_n 2), (60, .invokevirtual 84), (63, .invokevirtual 449), (66, .iinc 1 1), (69, .goto (-57)), (72, .aload_n 0), (73, .getfield 440), (76, .ireturn)]
set_option maxRecDepth 100000 in
theorem id283 : scan (mCd 283).data.toList 0 il283 = true := by decide +kernel
theorem mm283 : mKd 283 = 1 ∧ mAr 283 = 0 ∧ mMx 283 = 3 := by decide +kernel
theorem mo283 : mOw 283 = 9 := by decide +kernel
theorem mr283 : mRt 283 = some .int := by decide +kernel
theorem mh283 : mHn 283 = [] := by decide +kernel
def il284 : List (Nat × Instr) := [(0, .aload_n 0), (1, .getfield 440), (4, .ifCond .le 9), (7, .aload_n 0), (8, .bipush 32), (10, .invokevirtual 443), (13, .return_)]
set_option maxRecDepth 100000 in
theorem id284 : scan (mCd 284).data.toList 0 il284 = true := by decide +kernel
theorem mm284 : mKd 284 = 1 ∧ mAr 284 = 0 ∧ mMx 284 = 1 := by decide +kernel
theorem mo284 : mOw 284 = 9 := by decide +kernel
theorem mr284 : mRt 284 = none := by decide +kernel
theorem mh284 : mHn 284 = [] := by decide +kernel
def il285 : List (Nat × Instr) := [(0, .iload_n 1), (1, .ifCond .ge 9), (4, .aload_n 0), (5, .bipush 45), (7, .invokevirtual 443), (10, .iload_n 1), (11, .invokestatic 87), (14, .istore_n 2), (15, .iload_n 2), (16, .bipush 99), (18, .if_icmp .le 14), (21, .aload_n 0), (22, .bipush 48), (24, .iload_n 2), (25, .bipush 100), (27, .idiv), (28, .iadd), (29, .invokevirtual 443), (32, .iload_n 2), (33, .bipush 9), (35, .if_icmp .le 17), (38, .aload_n 0), (39, .bipush 48), (41, .iload_n 2), (42, .bipush 10), (44, .idiv), (45, .bipush 10), (47, .irem), (48, .iadd), (49, .invokevirtual 443), (52, .aload_n 0), (53, .bipush 48), (55, .iload_n 2), (56, .bipush 10), (58, .irem), (59, .iadd), (60, .invokevirtual 443), (63, .return_)]
set_option maxRecDepth 100000 in
theorem id285 : scan (mCd 285).data.toList 0 il285 = true := by decide +kernel
theorem mm285 : mKd 285 = 1 ∧ mAr 285 = 1 ∧ mMx 285 = 3 := by decide +kernel
theorem mo285 : mOw 285 = 9 := by decide +kernel
theorem mr285 : mRt 285 = none := by decide +kernel
theorem mh285 : mHn 285 = [] := by decide +kernel
def il286 : List (Nat × Instr) := [(0, .aload_n 0), (1, .iconst 0), (2, .putfield 3), (5, .aload_n 0), (6, .iconst 0), (7, .putfield 440), (10, .bipush 10), (12, .aload_n 0), (13, .invokevirtual 373), (16, .invokestatic 254), (19, .iconst 1), (20, .isub), (21, .istore_n 1), (22, .iload_n 1), (23, .ifCond .lt 74), (26, .aload_n 0), (27, .invokevirtual 446), (30, .aload_n 0), (31, .aload_n 0), (32, .iload_n 1), (33, .iconst 1), (34, .invokevirtual 378), (37, .invokevirtual 452), (40, .aload_n 0), (41, .iload_n 1), (42, .iconst 2), (43, .invokevirtual 378), (46, .iconst (-1)), (47, .if_icmp .ne 12), (50, .aload_n 0), (51, .bipush 124), (53, .invokevirtual 443), (56, .goto 19), (59, .aload_n 0), (60, .bipush 120), (62, .invokevirtual 443), (65, .aload_n 0), (66, .aload_n 0), (67, .iload_n 1), (68, .iconst 2), (69, .invokevirtual 378), (72, .invokevirtual 452), (75, .aload_n 0), (76, .bipush 47), (78, .invokevirtual 443), (81, .aload_n 0), (82, .aload_n 0), (83, .iload_n 1), (84, .iconst 3), (85, .invokevirtual 378), (88, .invokevirtual 449), (91, .iinc 1 (-1)), (94, .goto (-72)), (97, .aload_n 0), (98, .getfield 440), (101, .ireturn)]
set_option maxRecDepth 100000 in
theorem id286 : scan (mCd 286).data.toList 0 il286 = true := by decide +kernel
theorem mm286 : mKd 286 = 1 ∧ mAr 286 = 0 ∧ mMx 286 = 2 := by decide +kernel
theorem mo286 : mOw 286 = 9 := by decide +kernel
theorem mr286 : mRt 286 = some .int := by decide +kernel
theorem mh286 : mHn 286 = [] := by decide +kernel
def il287 : List (Nat × Instr) := [(0, .aload_n 0), (1, .iload_n 1), (2, .bipush (-2)), (4, .if_icmp .ne 8), (7, .bipush 63), (9, .goto 7), (12, .bipush 48), (14, .iload_n 1), (15, .iadd), (16, .invokevirtual 443), (19, .return_)]
set_option maxRecDepth 100000 in
theorem id287 : scan (mCd 287).data.toList 0 il287 = true := by decide +kernel
theorem mm287 : mKd 287 = 1 ∧ mAr 287 = 1 ∧ mMx 287 = 2 := by decide +kernel
theorem mo287 : mOw 287 = 9 := by decide +kernel
theorem mr287 : mRt 287 = none := by decide +kernel
theorem mh287 : mHn 287 = [] := by decide +kernel
def il288 : List (Nat × Instr) := [(0, .aload_n 0), (1, .iload_n 1), (2, .i2l), (3, .lconst 0), (4, .aload_n 0), (5, .getfield 440), (8, .iconst 1), (9, .isub), (10, .i2l), (11, .invokestatic 56), (14, .invokevirtual 214), (17, .ifCond .eq 12), (20, .aload_n 0), (21, .getfield 47), (24, .iload_n 1), (25, .baload), (26, .goto 4), (29, .iconst 0), (30, .ireturn)]
set_option maxRecDepth 100000 in
theorem id288 : scan (mCd 288).data.toList 0 il288 = true := by decide +kernel
theorem mm288 : mKd 288 = 1 ∧ mAr 288 = 1 ∧ mMx 288 = 2 := by decide +kernel
theorem mo288 : mOw 288 = 9 := by decide +kernel
theorem mr288 : mRt 288 = some .int := by decide +kernel
theorem mh288 : mHn 288 = [] := by decide +kernel
def il289 : List (Nat × Instr) := [(0, .aload 6), (2, .iconst 0), (3, .aload_n 0), (4, .iload_n 1), (5, .iload_n 2), (6, .iload_n 3), (7, .iload 4), (9, .iload 5), (11, .invokevirtual 7), (14, .i2l), (15, .lastore), (16, .goto 7), (19, .astore 7), (21, .iconst 1), (22, .ireturn), (23, .iconst 0), (24, .ireturn)]
set_option maxRecDepth 100000 in
theorem id289 : scan (mCd 289).data.toList 0 il289 = true := by decide +kernel
theorem mm289 : mKd 289 = 0 ∧ mAr 289 = 7 ∧ mMx 289 = 8 := by decide +kernel
theorem mo289 : mOw 289 = 10 := by decide +kernel
theorem mr289 : mRt 289 = some .int := by decide +kernel
def il290 : List (Nat × Instr) := [(0, .aload_n 0), (1, .iload_n 1), (2, .invokevirtual 15), (5, .goto 6), (8, .astore_n 2), (9, .iconst 1), (10, .ireturn), (11, .iconst 0), (12, .ireturn)]
set_option maxRecDepth 100000 in
theorem id290 : scan (mCd 290).data.toList 0 il290 = true := by decide +kernel
theorem mm290 : mKd 290 = 0 ∧ mAr 290 = 2 ∧ mMx 290 = 3 := by decide +kernel
theorem mo290 : mOw 290 = 10 := by decide +kernel
theorem mr290 : mRt 290 = some .int := by decide +kernel
def il291 : List (Nat × Instr) := [(0, .aload_n 2), (1, .iconst 0), (2, .aload_n 0), (3, .iload_n 1), (4, .invokevirtual 21), (7, .i2l), (8, .lastore), (9, .goto 6), (12, .astore_n 3), (13, .iconst 1), (14, .ireturn), (15, .iconst 0), (16, .ireturn)]
set_option maxRecDepth 100000 in
theorem id291 : scan (mCd 291).data.toList 0 il291 = true := by decide +kernel
theorem mm291 : mKd 291 = 0 ∧ mAr 291 = 3 ∧ mMx 291 = 4 := by decide +kernel
theorem mo291 : mOw 291 = 10 := by decide +kernel
theorem mr291 : mRt 291 = some .int := by decide +kernel
def il292 : List (Nat × Instr) := [(0, .aload_n 3), (1, .iconst 0), (2, .aload_n 0), (3, .iload_n 1), (4, .iload_n 2), (5, .invokevirtual 25), (8, .i2l), (9, .lastore), (10, .goto 11), (13, .astore 4), (15, .iconst 1), (16, .ireturn), (17, .astore 4), (19, .iconst 2), (20, .ireturn), (21, .iconst 0), (22, .ireturn)]
set_option maxRecDepth 100000 in
theorem id292 : scan (mCd 292).data.toList 0 il292 = true := by decide +kernel
theorem mm292 : mKd 292 = 0 ∧ mAr 292 = 4 ∧ mMx 292 = 5 := by decide +kernel
theorem mo292 : mOw 292 = 10 := by decide +kernel
theorem mr292 : mRt 292 = some .int := by decide +kernel
def il293 : List (Nat × Instr) := [(0, .aload_n 2), (1, .iconst 0), (2, .aload_n 0), (3, .iload_n 1), (4, .invokevirtual 31), (7, .i2l), (8, .lastore), (9, .goto 6), (12, .astore_n 3), (13, .iconst 1), (14, .ireturn), (15, .iconst 0), (16, .ireturn)]
set_option maxRecDepth 100000 in
theorem id293 : scan (mCd 293).data.toList 0 il293 = true := by decide +kernel
theorem mm293 : mKd 293 = 0 ∧ mAr 293 = 3 ∧ mMx 293 = 4 := by decide +kernel
theorem mo293 : mOw 293 = 10 := by decide +kernel
theorem mr293 : mRt 293 = some .int := by decide +kernel
def il294 : List (Nat × Instr) := [(0, .aload_n 3), (1, .iconst 0), (2, .aload_n 0), (3, .iload_n 1), (4, .iload_n 2), (5, .invokevirtual 34), (8, .i2l), (9, .lastore), (10, .goto 11), (13, .astore 4), (15, .iconst 1), (16, .ireturn), (17, .astore 4), (19, .iconst 2), (20, .ireturn), (21, .iconst 0), (22, .ireturn)]
set_option maxRecDepth 100000 in
theorem id294 : scan (mCd 294).data.toList 0 il294 = true := by decide +kernel
theorem mm294 : mKd 294 = 0 ∧ mAr 294 = 4 ∧ mMx 294 = 5 := by decide +kernel
theorem mo294 : mOw 294 = 10 := by decide +kernel
theorem mr294 : mRt 294 = some .int := by decide +kernel
def il295 : List (Nat × Instr) := [(0, .aload_n 3), (1, .iconst 0), (2, .aload_n 0), (3, .iload_n 1), (4, .iload_n 2), (5, .invokevirtual 37), (8, .i2l), (9, .lastore), (10, .goto 7), (13, .astore 4), (15, .iconst 1), (16, .ireturn), (17, .iconst 0), (18, .ireturn)]
set_option maxRecDepth 100000 in
theorem id295 : scan (mCd 295).data.toList 0 il295 = true := by decide +kernel
theorem mm295 : mKd 295 = 0 ∧ mAr 295 = 4 ∧ mMx 295 = 5 := by decide +kernel
theorem mo295 : mOw 295 = 10 := by decide +kernel
theorem mr295 : mRt 295 = some .int := by decide +kernel
def il296 : List (Nat × Instr) := [(0, .aload_n 2), (1, .iconst 0), (2, .aload_n 0), (3, .iload_n 1), (4, .invokevirtual 41), (7, .i2l), (8, .lastore), (9, .goto 6), (12, .astore_n 3), (13, .iconst 1), (14, .ireturn), (15, .iconst 0), (16, .ireturn)]
set_option maxRecDepth 100000 in
theorem id296 : scan (mCd 296).data.toList 0 il296 = true := by decide +kernel
theorem mm296 : mKd 296 = 0 ∧ mAr 296 = 3 ∧ mMx 296 = 4 := by decide +kernel
theorem mo296 : mOw 296 = 10 := by decide +kernel
theorem mr296 : mRt 296 = some .int := by decide +kernel
def il297 : List (Nat × Instr) := [(0, .aload_n 3), (1, .iconst 0), (2, .aload_n 0), (3, .iload_n 1), (4, .iload_n 2), (5, .invokevirtual 46), (8, .i2l), (9, .lastore), (10, .goto 7), (13, .astore 4), (15, .iconst 1), (16, .ireturn), (17, .iconst 0), (18, .ireturn)]
set_option maxRecDepth 100000 in
theorem id297 : scan (mCd 297).data.toList 0 il297 = true := by decide +kernel
theorem mm297 : mKd 297 = 0 ∧ mAr 297 = 4 ∧ mMx 297 = 5 := by decide +kernel
theorem mo297 : mOw 297 = 10 := by decide +kernel
theorem mr297 : mRt 297 = some .int := by decide +kernel
def il298 : List (Nat × Instr) := [(0, .aload_n 3), (1, .iconst 0), (2, .aload_n 0), (3, .iload_n 1), (4, .iload_n 2), (5, .invokevirtual 50), (8, .i2l), (9, .lastore), (10, .goto 7), (13, .astore 4), (15, .iconst 1), (16, .ireturn), (17, .iconst 0), (18, .ireturn)]
set_option maxRecDepth 100000 in
theorem id298 : scan (mCd 298).data.toList 0 il298 = true := by decide +kernel
theorem mm298 : mKd 298 = 0 ∧ mAr 298 = 4 ∧ mMx 298 = 5 := by decide +kernel
theorem mo298 : mOw 298 = 10 := by decide +kernel
theorem mr298 : mRt 298 = some .int := by decide +kernel
def il299 : List (Nat × Instr) := [(0, .aload_n 3), (1, .iconst 0), (2, .aload_n 0), (3, .iload_n 1), (4, .iload_n 2), (5, .invokevirtual 53), (8, .i2l), (9, .lastore), (10, .goto 7), (13, .astore 4), (15, .iconst 1), (16, .ireturn), (17, .iconst 0), (18, .ireturn)]
set_option maxRecDepth 100000 in
theorem id299 : scan (mCd 299).data.toList 0 il299 = true := by decide +kernel
theorem mm299 : mKd 299 = 0 ∧ mAr 299 = 4 ∧ mMx 299 = 5 := by decide +kernel
theorem mo299 : mOw 299 = 10 := by decide +kernel
theorem mr299 : mRt 299 = some .int := by decide +kernel
def il300 : List (Nat × Instr) := [(0, .aload_n 3), (1, .iconst 0), (2, .aload_n 0), (3, .iload_n 1), (4, .iload_n 2), (5, .invokevirtual 56), (8, .i2l), (9, .lastore), (10, .goto 11), (13, .astore 4), (15, .iconst 1), (16, .ireturn), (17, .astore 4), (19, .iconst 2), (20, .ireturn), (21, .iconst 0), (22, .ireturn)]
set_option maxRecDepth 100000 in
theorem id300 : scan (mCd 300).data.toList 0 il300 = true := by decide +kernel
theorem mm300 : mKd 300 = 0 ∧ mAr 300 = 4 ∧ mMx 300 = 5 := by decide +kernel
theorem mo300 : mOw 300 = 10 := by decide +kernel
theorem mr300 : mRt 300 = some .int := by decide +kernel
def il301 : List (Nat × Instr) := [(0, .aload_n 2), (1, .iconst 0), (2, .aload_n 0), (3, .iload_n 1), (4, .invokevirtual 59), (7, .lastore), (8, .goto 6), (11, .astore_n 3), (12, .iconst 1), (13, .ireturn), (14, .iconst 0), (15, .ireturn)]
set_option maxRecDepth 100000 in
theorem id301 : scan (mCd 301).data.toList 0 il301 = true := by decide +kernel
theorem mm301 : mKd 301 = 0 ∧ mAr 301 = 3 ∧ mMx 301 = 4 := by decide +kernel
theorem mo301 : mOw 301 = 10 := by decide +kernel
theorem mr301 : mRt 301 = some .int := by decide +kernel
def il302 : List (Nat × Instr) := [(0, .aload_n 2), (1, .iconst 0), (2, .aload_n 0), (3, .iload_n 1), (4, .invokevirtual 63), (7, .i2l), (8, .lastore), (9, .goto 6), (12, .astore_n 3), (13, .iconst 1), (14, .ireturn), (15, .iconst 0), (16, .ireturn)]
set_option maxRecDepth 100000 in
theorem id302 : scan (mCd 302).data.toList 0 il302 = true := by decide +kernel
theorem mm302 : mKd 302 = 0 ∧ mAr 302 = 3 ∧ mMx 302 = 4 := by decide +kernel
theorem mo302 : mOw 302 = 10 := by decide +kernel
theorem mr302 : mRt 302 = some .int := by decide +kernel
def il303 : List (Nat × Instr) := [(0, .aload 4), (2, .iconst 0), (3, .aload_n 0), (4, .iload_n 1), (5, .iload_n 2), (6, .iload_n 3), (7, .invokevirtual 66), (10, .i2l), (11, .lastore), (12, .goto 11), (15, .astore 5), (17, .iconst 1), (18, .ireturn), (19, .astore 5), (21, .iconst 2), (22, .ireturn), (23, .iconst 0), (24, .ireturn)]
set_option maxRecDepth 100000 in
theorem id303 : scan (mCd 303).data.toList 0 il303 = true := by decide +kernel
theorem mm303 : mKd 303 = 0 ∧ mAr 303 = 5 ∧ mMx 303 = 6 := by decide +kernel
theorem mo303 : mOw 303 = 10 := by decide +kernel
theorem mr303 : mRt 303 = some .int := by decide +kernel
def il304 : List (Nat × Instr) := [(0, .aload_n 3), (1, .iconst 0), (2, .aload_n 0), (3, .iload_n 1), (4, .iload_n 2), (5, .invokevirtual 70), (8, .i2l), (9, .lastore), (10, .goto 11), (13, .astore 4), (15, .iconst 1), (16, .ireturn), (17, .astore 4), (19, .iconst 2), (20, .ireturn), (21, .iconst 0), (22, .ireturn)]
set_option maxRecDepth 100000 in
theorem id304 : scan (mCd 304).data.toList 0 il304 = true := by decide +kernel
theorem mm304 : mKd 304 = 0 ∧ mAr 304 = 4 ∧ mMx 304 = 5 := by decide +kernel
theorem mo304 : mOw 304 = 10 := by decide +kernel
theorem mr304 : mRt 304 = some .int := by decide +kernel
def il305 : List (Nat × Instr) := [(0, .aload_n 2), (1, .iconst 0), (2, .aload_n 0), (3, .iload_n 1), (4, .invokevirtual 73), (7, .i2l), (8, .lastore), (9, .goto 6), (12, .astore_n 3), (13, .iconst 1), (14, .ireturn), (15, .iconst 0), (16, .ireturn)]
set_option maxRecDepth 100000 in
theorem id305 : scan (mCd 305).data.toList 0 il305 = true := by decide +kernel
theorem mm305 : mKd 305 = 0 ∧ mAr 305 = 3 ∧ mMx 305 = 4 := by decide +kernel
theorem mo305 : mOw 305 = 10 := by decide +kernel
theorem mr305 : mRt 305 = some .int := by decide +kernel
def il306 : List (Nat × Instr) := [(0, .aload_n 2), (1, .iconst 0), (2, .aload_n 0), (3, .iload_n 1), (4, .invokevirtual 76), (7, .i2l), (8, .lastore), (9, .goto 6), (12, .astore_n 3), (13, .iconst 1), (14, .ireturn), (15, .iconst 0), (16, .ireturn)]
set_option maxRecDepth 100000 in
theorem id306 : scan (mCd 306).data.toList 0 il306 = true := by decide +kernel
theorem mm306 : mKd 306 = 0 ∧ mAr 306 = 3 ∧ mMx 306 = 4 := by decide +kernel
theorem mo306 : mOw 306 = 10 := by decide +kernel
theorem mr306 : mRt 306 = some .int := by decide +kernel
def il307 : List (Nat × Instr) := [(0, .aload_n 3), (1, .iconst 0), (2, .aload_n 0), (3, .iload_n 1), (4, .iload_n 2), (5, .invokevirtual 79), (8, .i2l), (9, .lastore), (10, .goto 11), (13, .astore 4), (15, .iconst 1), (16, .ireturn), (17, .astore 4), (19, .iconst 2), (20, .ireturn), (21, .iconst 0), (22, .ireturn)]
set_option maxRecDepth 100000 in
theorem id307 : scan (mCd 307).data.toList 0 il307 = true := by decide +kernel
theorem mm307 : mKd 307 = 0 ∧ mAr 307 = 4 ∧ mMx 307 = 5 := by decide +kernel
theorem mo307 : mOw 307 = 10 := by decide +kernel
theorem mr307 : mRt 307 = some .int := by decide +kernel
def il308 : List (Nat × Instr) := [(0, .aload_n 3), (1, .iconst 0), (2, .aload_n 0), (3, .iload_n 1), (4, .iload_n 2), (5, .invokevirtual 82), (8, .i2l), (9, .lastore), (10, .goto 11), (13, .astore 4), (15, .iconst 1), (16, .ireturn), (17, .astore 4), (19, .iconst 2), (20, .ireturn), (21, .iconst 0), (22, .ireturn)]
set_option maxRecDepth 100000 in
theorem id308 : scan (mCd 308).data.toList 0 il308 = true := by decide +kernel
theorem mm308 : mKd 308 = 0 ∧ mAr 308 = 4 ∧ mMx 308 = 5 := by decide +kernel
theorem mo308 : mOw 308 = 10 := by decide +kernel
theorem mr308 : mRt 308 = some .int := by decide +kernel
def il309 : List (Nat × Instr) := [(0, .aload_n 2), (1, .iconst 0), (2, .aload_n 0), (3, .iload_n 1), (4, .invokevirtual 85), (7, .i2l), (8, .lastore), (9, .goto 6), (12, .astore_n 3), (13, .iconst 1), (14, .ireturn), (15, .iconst 0), (16, .ireturn)]
set_option maxRecDepth 100000 in
theorem id309 : scan (mCd 309).data.toList 0 il309 = true := by decide +kernel
theorem mm309 : mKd 309 = 0 ∧ mAr 309 = 3 ∧ mMx 309 = 4 := by decide +kernel
theorem mo309 : mOw 309 = 10 := by decide +kernel
theorem mr309 : mRt 309 = some .int := by decide +kernel
def il310 : List (Nat × Instr) := [(0, .aload_n 2), (1, .iconst 0), (2, .aload_n 0), (3, .iload_n 1), (4, .invokevirtual 88), (7, .i2l), (8, .lastore), (9, .goto 6), (12, .astore_n 3), (13, .iconst 1), (14, .ireturn), (15, .iconst 0), (16, .ireturn)]
set_option maxRecDepth 100000 in
theorem id310 : scan (mCd 310).data.toList 0 il310 = true := by decide +kernel
theorem mm310 : mKd 310 = 0 ∧ mAr 310 = 3 ∧ mMx 310 = 4 := by decide +kernel
theorem mo310 : mOw 310 = 10 := by decide +kernel
theorem mr310 : mRt 310 = some .int := by decide +kernel
def il311 : List (Nat × Instr) := [(0, .aload_n 2), (1, .iconst 0), (2, .aload_n 0), (3, .iload_n 1), (4, .invokevirtual 91), (7, .lastore), (8, .goto 6), (11, .astore_n 3), (12, .iconst 1), (13, .ireturn), (14, .iconst 0), (15, .ireturn)]
set_option maxRecDepth 100000 in
theorem id311 : scan (mCd 311).data.toList 0 il311 = true := by decide +kernel
theorem mm311 : mKd 311 = 0 ∧ mAr 311 = 3 ∧ mMx 311 = 4 := by decide +kernel
theorem mo311 : mOw 311 = 10 := by decide +kernel
theorem mr311 : mRt 311 = some .int := by decide +kernel
def il312 : List (Nat × Instr) := [(0, .aload 4), (2, .iconst 0), (3, .aload_n 0), (4, .iload_n 1), (5, .iload_n 2), (6, .iload_n 3), (7, .invokevirtual 94), (10, .lastore), (11, .goto 7), (14, .astore 5), (16, .iconst 1), (17, .ireturn), (18, .iconst 0), (19, .ireturn)]
set_option maxRecDepth 100000 in
theorem id312 : scan (mCd 312).data.toList 0 il312 = true := by decide +kernel
theorem mm312 : mKd 312 = 0 ∧ mAr 312 = 5 ∧ mMx 312 = 6 := by decide +kernel
theorem mo312 : mOw 312 = 10 := by decide +kernel
theorem mr312 : mRt 312 = some .int := by decide +kernel
def il313 : List (Nat × Instr) := [(0, .aload_n 2), (1, .iconst 0), (2, .aload_n 0), (3, .iload_n 1), (4, .invokevirtual 98), (7, .f2d), (8, .dastore), (9, .goto 6), (12, .astore_n 3), (13, .iconst 1), (14, .ireturn), (15, .iconst 0), (16, .ireturn)]
set_option maxRecDepth 100000 in
theorem id313 : scan (mCd 313).data.toList 0 il313 = true := by decide +kernel
theorem mm313 : mKd 313 = 0 ∧ mAr 313 = 3 ∧ mMx 313 = 4 := by decide +kernel
theorem mo313 : mOw 313 = 10 := by decide +kernel
theorem mr313 : mRt 313 = some .int := by decide +kernel
def il314 : List (Nat × Instr) := [(0, .aload_n 2), (1, .iconst 0), (2, .aload_n 0), (3, .iload_n 1), (4, .invokevirtual 102), (7, .i2l), (8, .lastore), (9, .goto 6), (12, .astore_n 3), (13, .iconst 1), (14, .ireturn), (15, .iconst 0), (16, .ireturn)]
set_option maxRecDepth 100000 in
theorem id314 : scan (mCd 314).data.toList 0 il314 = true := by decide +kernel
theorem mm314 : mKd 314 = 0 ∧ mAr 314 = 3 ∧ mMx 314 = 4 := by decide +kernel
theorem mo314 : mOw 314 = 10 := by decide +kernel
theorem mr314 : mRt 314 = some .int := by decide +kernel
def il315 : List (Nat × Instr) := [(0, .aload_n 2), (1, .iconst 0), (2, .aload_n 0), (3, .iload_n 1), (4, .invokevirtual 105), (7, .i2l), (8, .lastore), (9, .goto 6), (12, .astore_n 3), (13, .iconst 1), (14, .ireturn), (15, .iconst 0), (16, .ireturn)]
set_option maxRecDepth 100000 in
theorem id315 : scan (mCd 315).data.toList 0 il315 = true := by decide +kernel
theorem mm315 : mKd 315 = 0 ∧ mAr 315 = 3 ∧ mMx 315 = 4 := by decide +kernel
theorem mo315 : mOw 315 = 10 := by decide +kernel
theorem mr315 : mRt 315 = some .int := by decide +kernel
def il316 : List (Nat × Instr) := [(0, .aload_n 3), (1, .iconst 0), (2, .aload_n 0), (3, .iload_n 1), (4, .iload_n 2), (5, .invokevirtual 108), (8, .i2l), (9, .lastore), (10, .goto 11), (13, .astore 4), (15, .iconst 1), (16, .ireturn), (17, .astore 4), (19, .iconst 2), (20, .ireturn), (21, .iconst 0), (22, .ireturn)]
set_option maxRecDepth 100000 in
theorem id316 : scan (mCd 316).data.toList 0 il316 = true := by decide +kernel
theorem mm316 : mKd 316 = 0 ∧ mAr 316 = 4 ∧ mMx 316 = 5 := by decide +kernel
theorem mo316 : mOw 316 = 10 := by decide +kernel
theorem mr316 : mRt 316 = some .int := by decide +kernel
def il317 : List (Nat × Instr) := [(0, .aload_n 3), (1, .iconst 0), (2, .aload_n 0), (3, .iload_n 1), (4, .iload_n 2), (5, .invokevirtual 111), (8, .i2l), (9, .lastore), (10, .goto 11), (13, .astore 4), (15, .iconst 1), (16, .ireturn), (17, .astore 4), (19, .iconst 2), (20, .ireturn), (21, .iconst 0), (22, .ireturn)]
set_option maxRecDepth 100000 in
theorem id317 : scan (mCd 317).data.toList 0 il317 = true := by decide +kernel
theorem mm317 : mKd 317 = 0 ∧ mAr 317 = 4 ∧ mMx 317 = 5 := by decide +kernel
theorem mo317 : mOw 317 = 10 := by decide +kernel
theorem mr317 : mRt 317 = some .int := by decide +kernel
def il318 : List (Nat × Instr) := [(0, .aload_n 3), (1, .iconst 0), (2, .aload_n 0), (3, .iload_n 1), (4, .iload_n 2), (5, .invokevirtual 114), (8, .i2l), (9, .lastore), (10, .goto 11), (13, .astore 4), (15, .iconst 1), (16, .ireturn), (17, .astore 4), (19, .iconst 2), (20, .ireturn), (21, .iconst 0), (22, .ireturn)]
set_option maxRecDepth 100000 in
theorem id318 : scan (mCd 318).data.toList 0 il318 = true := by decide +kernel
theorem mm318 : mKd 318 = 0 ∧ mAr 318 = 4 ∧ mMx 318 = 5 := by decide +kernel
theorem mo318 : mOw 318 = 10 := by decide +kernel
theorem mr318 : mRt 318 = some .int := by decide +kernel
def il319 : List (Nat × Instr) := [(0, .aload 4), (2, .iconst 0), (3, .aload_n 0), (4, .iload_n 1), (5, .iload_n 2), (6, .iload_n 3), (7, .invokevirtual 117), (10, .i2l), (11, .lastore), (12, .goto 15), (15, .astore 5), (17, .iconst 1), (18, .ireturn), (19, .astore 5), (21, .iconst 2), (22, .ireturn), (23, .astore 5), (25, .iconst 3), (26, .ireturn), (27, .iconst 0), (28, .ireturn)]
set_option maxRecDepth 100000 in
theorem id319 : scan (mCd 319).data.toList 0 il319 = true := by decide +kernel
theorem mm319 : mKd 319 = 0 ∧ mAr 319 = 5 ∧ mMx 319 = 6 := by decide +kernel
theorem mo319 : mOw 319 = 10 := by decide +kernel
theorem mr319 : mRt 319 = some .int := by decide +kernel
def il320 : List (Nat × Instr) := [(0, .aload_n 2), (1, .iconst 0), (2, .aload_n 0), (3, .iload_n 1), (4, .invokevirtual 121), (7, .i2l), (8, .lastore), (9, .goto 6), (12, .astore_n 3), (13, .iconst 1), (14, .ireturn), (15, .iconst 0), (16, .ireturn)]
set_option maxRecDepth 100000 in
theorem id320 : scan (mCd 320).data.toList 0 il320 = true := by decide +kernel
theorem mm320 : mKd 320 = 0 ∧ mAr 320 = 3 ∧ mMx 320 = 4 := by decide +kernel
theorem mo320 : mOw 320 = 10 := by decide +kernel
theorem mr320 : mRt 320 = some .int := by decide +kernel
def il321 : List (Nat × Instr) := [(0, .aload_n 2), (1, .iconst 0), (2, .aload_n 0), (3, .iload_n 1), (4, .invokevirtual 124), (7, .i2l), (8, .lastore), (9, .goto 6), (12, .astore_n 3), (13, .iconst 1), (14, .ireturn), (15, .iconst 0), (16, .ireturn)]
set_option maxRecDepth 100000 in
theorem id321 : scan (mCd 321).data.toList 0 il321 = true := by decide +kernel
theorem mm321 : mKd 321 = 0 ∧ mAr 321 = 3 ∧ mMx 321 = 4 := by decide +kernel
theorem mo321 : mOw 321 = 10 := by decide +kernel
theorem mr321 : mRt 321 = some .int := by decide +kernel
def il322 : List (Nat × Instr) := [(0, .aload_n 3), (1, .iconst 0), (2, .aload_n 0), (3, .iload_n 1), (4, .iload_n 2), (5, .invokevirtual 127), (8, .i2l), (9, .lastore), (10, .goto 11), (13, .astore 4), (15, .iconst 1), (16, .ireturn), (17, .astore 4), (19, .iconst 2), (20, .ireturn), (21, .iconst 0), (22, .ireturn)]
set_option maxRecDepth 100000 in
theorem id322 : scan (mCd 322).data.toList 0 il322 = true := by decide +kernel
theorem mm322 : mKd 322 = 0 ∧ mAr 322 = 4 ∧ mMx 322 = 5 := by decide +kernel
theorem mo322 : mOw 322 = 10 := by decide +kernel
theorem mr322 : mRt 322 = some .int := by decide +kernel
def il323 : List (Nat × Instr) := [(0, .aload_n 2), (1, .iconst 0), (2, .aload_n 0), (3, .iload_n 1), (4, .invokevirtual 130), (7, .i2l), (8, .lastore), (9, .goto 6), (12, .astore_n 3), (13, .iconst 1), (14, .ireturn), (15, .iconst 0), (16, .ireturn)]
set_option maxRecDepth 100000 in
theorem id323 : scan (mCd 323).data.toList 0 il323 = true := by decide +kernel
theorem mm323 : mKd 323 = 0 ∧ mAr 323 = 3 ∧ mMx 323 = 4 := by decide +kernel
theorem mo323 : mOw 323 = 10 := by decide +kernel
theorem mr323 : mRt 323 = some .int := by decide +kernel
def il324 : List (Nat × Instr) := [(0, .aload_n 2), (1, .iconst 0), (2, .aload_n 0), (3, .iload_n 1), (4, .invokevirtual 133), (7, .i2l), (8, .lastore), (9, .goto 9), (12, .astore_n 3), (13, .iconst 1), (14, .ireturn), (15, .astore_n 3), (16, .iconst 2), (17, .ireturn), (18, .iconst 0), (19, .ireturn)]
set_option maxRecDepth 100000 in
theorem id324 : scan (mCd 324).data.toList 0 il324 = true := by decide +kernel
theorem mm324 : mKd 324 = 0 ∧ mAr 324 = 3 ∧ mMx 324 = 4 := by decide +kernel
theorem mo324 : mOw 324 = 10 := by decide +kernel
theorem mr324 : mRt 324 = some .int := by decide +kernel
def il325 : List (Nat × Instr) := [(0, .aload_n 1), (1, .iconst 0), (2, .aload_n 0), (3, .invokevirtual 136), (6, .i2l), (7, .lastore), (8, .goto 6), (11, .astore_n 2), (12, .iconst 1), (13, .ireturn), (14, .iconst 0), (15, .ireturn)]
set_option maxRecDepth 100000 in
theorem id325 : scan (mCd 325).data.toList 0 il325 = true := by decide +kernel
theorem mm325 : mKd 325 = 0 ∧ mAr 325 = 2 ∧ mMx 325 = 3 := by decide +kernel
theorem mo325 : mOw 325 = 10 := by decide +kernel
theorem mr325 : mRt 325 = some .int := by decide +kernel
def il326 : List (Nat × Instr) := [(0, .aload_n 2), (1, .iconst 0), (2, .aload_n 0), (3, .iload_n 1), (4, .invokevirtual 140), (7, .i2l), (8, .lastore), (9, .goto 6), (12, .astore_n 3), (13, .iconst 1), (14, .ireturn), (15, .iconst 0), (16, .ireturn)]
set_option maxRecDepth 100000 in
theorem id326 : scan (mCd 326).data.toList 0 il326 = true := by decide +kernel
theorem mm326 : mKd 326 = 0 ∧ mAr 326 = 3 ∧ mMx 326 = 4 := by decide +kernel
theorem mo326 : mOw 326 = 10 := by decide +kernel
theorem mr326 : mRt 326 = some .int := by decide +kernel
def il327 : List (Nat × Instr) := [(0, .aload_n 0), (1, .getfield 9), (4, .arraylength), (5, .aload_n 0), (6, .invokevirtual 335), (9, .ishr), (10, .ireturn)]
set_option maxRecDepth 100000 in
theorem id327 : scan (mCd 327).data.toList 0 il327 = true := by decide +kernel
theorem mm327 : mKd 327 = 1 ∧ mAr 327 = 0 ∧ mMx 327 = 1 := by decide +kernel
theorem mo327 : mOw 327 = 11 := by decide +kernel
theorem mr327 : mRt 327 = some .int := by decide +kernel
theorem mh327 : mHn 327 = [] := by decide +kernel
def il328 : List (Nat × Instr) := [(0, .getstatic 38), (3, .ifCond .eq 10), (6, .aload_n 0), (7, .getfield 15), (10, .goto 4), (13, .iconst 1), (14, .ireturn)]
set_option maxRecDepth 100000 in
theorem id328 : scan (mCd 328).data.toList 0 il328 = true := by decide +kernel
theorem mm328 : mKd 328 = 1 ∧ mAr 328 = 0 ∧ mMx 328 = 1 := by decide +kernel
theorem mo328 : mOw 328 = 11 := by decide +kernel
theorem mr328 : mRt 328 = some .byte := by decide +kernel
theorem mh328 : mHn 328 = [] := by decide +kernel
def il329 : List (Nat × Instr) := [(0, .aload_n 0), (1, .invokevirtual 492), (4, .ifCond .eq 12), (7, .aload_n 0), (8, .getfield 9), (11, .iload_n 1), (12, .invokestatic 495), (15, .ireturn), (16, .aload_n 0), (17, .getfield 9), (20, .iload_n 1), (21, .invokestatic 498), (24, .ireturn)]
set_option maxRecDepth 100000 in
theorem id329 : scan (mCd 329).data.toList 0 il329 = true := by decide +kernel
theorem mm329 : mKd 329 = 1 ∧ mAr 329 = 1 ∧ mMx 329 = 2 := by decide +kernel
theorem mo329 : mOw 329 = 11 := by decide +kernel
theorem mr329 : mRt 329 = some .char := by decide +kernel
theorem mh329 : mHn 329 = [] := by decide +kernel
def il330 : List (Nat × Instr) := [(0, .getstatic 38), (3, .ifCond .eq 14), (6, .aload_n 0), (7, .getfield 15), (10, .ifCond .ne 7), (13, .iconst 1), (14, .goto 4), (17, .iconst 0), (18, .ireturn)]
set_option maxRecDepth 100000 in
theorem id330 : scan (mCd 330).data.toList 0 il330 = true := by decide +kernel
theorem mm330 : mKd 330 = 1 ∧ mAr 330 = 0 ∧ mMx 330 = 1 := by decide +kernel
theorem mo330 : mOw 330 = 11 := by decide +kernel
theorem mr330 : mRt 330 = some .boolean := by decide +kernel
theorem mh330 : mHn 330 = [] := by decide +kernel
def il331 : List (Nat × Instr) := [(0, .iload_n 0), (1, .iload_n 1), (2, .getstatic 1053), (5, .invokestatic 1059), (8, .pop), (9, .return_)]
set_option maxRecDepth 100000 in
theorem id331 : scan (mCd 331).data.toList 0 il331 = true := by decide +kernel
theorem mm331 : mKd 331 = 0 ∧ mAr 331 = 2 ∧ mMx 331 = 2 := by decide +kernel
theorem mo331 : mOw 331 = 11 := by decide +kernel
theorem mr331 : mRt 331 = none := by decide +kernel
theorem mh331 : mHn 331 = [] := by decide +kernel
def il332 : List (Nat × Instr) := [(0, .iload_n 1), (1, .aload_n 0), (2, .arraylength), (3, .invokestatic 9), (6, .aload_n 0), (7, .iload_n 1), (8, .baload), (9, .sipush 255), (12, .iand), (13, .i2c), (14, .ireturn)]
set_option maxRecDepth 100000 in
theorem id332 : scan (mCd 332).data.toList 0 il332 = true := by decide +kernel
theorem mm332 : mKd 332 = 0 ∧ mAr 332 = 2 ∧ mMx 332 = 2 := by decide +kernel
theorem mo332 : mOw 332 = 12 := by decide +kernel
theorem mr332 : mRt 332 = some .char := by decide +kernel
theorem mh332 : mHn 332 = [] := by decide +kernel
def il333 : List (Nat × Instr) := [(0, .iload_n 0), (1, .ifCond .lt 8), (4, .iload_n 0), (5, .iload_n 1), (6, .if_icmp .lt 10), (9, .aload_n 2), (10, .iload_n 0), (11, .iload_n 1), (12, .invokestatic 95), (15, .athrow), (16, .iload_n 0), (17, .ireturn)]
set_option maxRecDepth 100000 in
theorem id333 : scan (mCd 333).data.toList 0 il333 = true := by decide +kernel
theorem mm333 : mKd 333 = 0 ∧ mAr 333 = 3 ∧ mMx 333 = 3 := by decide +kernel
theorem mo333 : mOw 333 = 13 := by decide +kernel
theorem mr333 : mRt 333 = some .int := by decide +kernel
theorem mh333 : mHn 333 = [] := by decide +kernel
set_option maxRecDepth 100000 in
def il334 : List (Nat × Instr) := [(0, .new 8), (3, .dup), (4, .invokespecial 143), (7, .astore_n 1), (8, .new 144), (11, .dup), (12, .invokespecial 146), (15, .astore_n 2), (16, .iconst 1), (17, .newarray .long), (19, .astore_n 3), (20, .iconst 1), (21, .newarray .double), (23, .astore 4), (25, .iconst 0), (26, .istore 5), (28, .iload 5), (30, .aload_n 0), (31, .arraylength), (32, .bipush 6), (34, .isub), (35, .if_icmp .gt 3050), (38, .aload_n 0), (39, .iload 5), (41, .iaload), (42, .bipush 63), (44, .iand), (45, .tableswitch 3034 0 53 #[231, 335, 371, 384, 397, 410, 423, 479, 547, 603, 671, 755, 811, 895, 979, 1047, 1115, 1170, 1226, 1239, 1280, 1376, 1444, 1500, 1513, 1554, 1610, 1678, 1746, 1802, 1858, 1913, 1926, 2021, 2062, 2140, 2181, 2237, 2293, 2361, 2429, 2497, 2577, 2633, 2689, 2702, 2770, 2826, 2882, 2926, 2939, 2952, 2965, 2978]), (276, .aload_n 1), (277, .aload_n 0), (278, .iload 5), (280, .iconst 1), (281, .iadd), (282, .iaload), (283, .aload_n 0), (284, .iload 5), (286, .iconst 2), (287, .iadd), (288, .iaload), (289, .aload_n 0), (290, .iload 5), (292, .iconst 3), (293, .iadd), (294, .iaload), (295, .aload_n 0), (296, .iload 5), (298, .iconst 4), (299, .iadd), (300, .iaload), (301, .aload_n 0), (302, .iload 5), (304, .iconst 5), (305, .iadd), (306, .iaload), (307, .aload_n 3), (308, .invokestatic 147), (311, .istore 6), (313, .aload_n 2), (314, .aload_n 0), (315, .iload 5), (317, .iconst 1), (318, .iadd), (319, .iaload), (320, .aload_n 0), (321, .iload 5), (323, .iconst 2), (324, .iadd), (325, .iaload), (326, .aload_n 0), (327, .iload 5), (329, .iconst 3), (330, .iadd), (331, .iaload), (332, .aload_n 0), (333, .iload 5), (335, .iconst 4), (336, .iadd), (337, .iaload), (338, .aload_n 0), (339, .iload 5), (341, .iconst 5), (342, .iadd), (343, .iaload), (344, .invokevirtual 152), (347, .istore 7), (349, .aload_n 2), (350, .invokevirtual 153), (353, .iload 6), (355, .if_icmp .eq 5), (358, .iconst 0), (359, .ireturn), (360, .iload 6), (362, .ifCond .ne 15), (365, .aload_n 3), (366, .iconst 0), (367, .laload), (368, .iload 7), (370, .i2l), (371, .lcmp), (372, .ifCond .eq 5), (375, .iconst 0), (376, .ireturn), (377, .goto 2702), (380, .aload_n 1), (381, .aload_n 0), (382, .iload 5), (384, .iconst 1), (385, .iadd), (386, .iaload), (387, .invokestatic 156), (390, .istore 6), (392, .aload_n 2), (393, .aload_n 0), (394, .iload 5), (396, .iconst 1), (397, .iadd), (398, .iaload), (399, .invokevirtual 159), (402, .aload_n 2), (403, .invokevirtual 153), (406, .iload 6), (408, .if_icmp .eq 5), (411, .iconst 0), (412, .ireturn), (413, .goto 2666), (416, .aload_n 1), (417, .invokevirtual 160), (420, .aload_n 2), (421, .invokevirtual 163), (424, .if_icmp .eq 2655), (427, .iconst 0), (428, .ireturn), (429, .aload_n 1), (430, .invokevirtual 164), (433, .aload_n 2), (434, .invokevirtual 167), (437, .if_icmp .eq 2642), (440, .iconst 0), (441, .ireturn), (442, .aload_n 1), (443, .invokevirtual 168), (446, .aload_n 2), (447, .invokevirtual 171), (450, .if_icmp .eq 2629), (453, .iconst 0), (454, .ireturn), (455, .aload_n 1), (456, .invokevirtual 172), (459, .aload_n 2), (460, .invokevirtual 175), (463, .if_icmp .eq 2616), (466, .iconst 0), (467, .ireturn), (468, .aload_n 1), (469, .aload_n 0), (470, .iload 5), (472, .iconst 1), (473, .iadd), (474, .iaload), (475, .aload_n 3), (476, .invokestatic 176), (479, .istore 6), (481, .aload_n 2), (482, .aload_n 0), (483, .iload 5), (485, .iconst 1), (486, .iadd), (487, .iaload), (488, .invokevirtual 179), (491, .istore 7), (493, .aload_n 2), (494, .invokevirtual 153), (497, .iload 6), (499, .if_icmp .eq 5), (502, .iconst 0), (503, .ireturn), (504, .iload 6), (506, .ifCond .ne 15), (509, .aload_n 3), (510, .iconst 0), (511, .laload), (512, .iload 7), (514, .i2l), (515, .lcmp), (516, .ifCond .eq 5), (519, .iconst 0), (520, .ireturn), (521, .goto 2558), (524, .aload_n 1), (525, .aload_n 0), (526, .iload 5), (528, .iconst 1), (529, .iadd), (530, .iaload), (531, .aload_n 0), (532, .iload 5), (534, .iconst 2), (535, .iadd), (536, .iaload), (537, .aload_n 3), (538, .invokestatic 180), (541, .istore 6), (543, .aload_n 2), (544, .aload_n 0), (545, .iload 5), (547, .iconst 1), (548, .iadd), (549, .iaload), (550, .aload_n 0), (551, .iload 5), (553, .iconst 2), (554, .iadd), (555, .iaload), (556, .invokevirtual 183), (559, .istore 7), (561, .aload_n 2), (562, .invokevirtual 153), (565, .iload 6), (567, .if_icmp .eq 5), (570, .iconst 0), (571, .ireturn), (572, .iload 6), (574, .ifCond .ne 15), (577, .aload_n 3), (578, .iconst 0), (579, .laload), (580, .iload 7), (582, .i2l), (583, .lcmp), (584, .ifCond .eq 5), (587, .iconst 0), (588, .ireturn), (589, .goto 2490), (592, .aload_n 1), (593, .aload_n 0), (594, .iload 5), (596, .iconst 1), (597, .iadd), (598, .iaload), (599, .aload_n 3), (600, .invokestatic 184), (603, .istore 6), (605, .aload_n 2), (606, .aload_n 0), (607, .iload 5), (609, .iconst 1), (610, .iadd), (611, .iaload), (612, .invokevirtual 186), (615, .istore 7), (617, .aload_n 2), (618, .invokevirtual 153), (621, .iload 6), (623, .if_icmp .eq 5), (626, .iconst 0), (627, .ireturn), (628, .iload 6), (630, .ifCond .ne 15), (633, .aload_n 3), (634, .iconst 0), (635, .laload), (636, .iload 7), (638, .i2l), (639, .lcmp), (640, .ifCond .eq 5), (643, .iconst 0), (644, .ireturn), (645, .goto 2434), (648, .aload_n 1), (649, .aload_n 0), (650, .iload 5), (652, .iconst 1), (653, .iadd), (654, .iaload), (655, .aload_n 0), (656, .iload 5), (658, .iconst 2), (659, .iadd), (660, .iaload), (661, .aload_n 3), (662, .invokestatic 187), (665, .istore 6), (667, .aload_n 2), (668, .aload_n 0), (669, .iload 5), (671, .iconst 1), (672, .iadd), (673, .iaload), (674, .aload_n 0), (675, .iload 5), (677, .iconst 2), (678, .iadd), (679, .iaload), (680, .invokevirtual 189), (683, .istore 7), (685, .aload_n 2), (686, .invokevirtual 153), (689, .iload 6), (691, .if_icmp .eq 5), (694, .iconst 0), (695, .ireturn), (696, .iload 6), (698, .ifCond .ne 15), (701, .aload_n 3), (702, .iconst 0), (703, .laload), (704, .iload 7), (706, .i2l), (707, .lcmp), (708, .ifCond .eq 5), (711, .iconst 0), (712, .ireturn), (713, .goto 2366), (716, .aload_n 1), (717, .aload_n 0), (718, .iload 5), (720, .iconst 1), (721, .iadd), (722, .iaload), (723, .ifCond .eq 7), (726, .iconst 1), (727, .goto 4), (730, .iconst 0), (731, .aload_n 0), (732, .iload 5), (734, .iconst 2), (735, .iadd), (736, .iaload), (737, .aload_n 3), (738, .invokestatic 190), (741, .istore 6), (743, .aload_n 2), (744, .aload_n 0), (745, .iload 5), (747, .iconst 1), (748, .iadd), (749, .iaload), (750, .ifCond .eq 7), (753, .iconst 1), (754, .goto 4), (757, .iconst 0), (758, .aload_n 0), (759, .iload 5), (761, .iconst 2), (762, .iadd), (763, .iaload), (764, .invokevirtual 193), (767, .istore 7), (769, .aload_n 2), (770, .invokevirtual 153), (773, .iload 6), (775, .if_icmp .eq 5), (778, .iconst 0), (779, .ireturn), (780, .iload 6), (782, .ifCond .ne 15), (785, .aload_n 3), (786, .iconst 0), (787, .laload), (788, .iload 7), (790, .i2l), (791, .lcmp), (792, .ifCond .eq 5), (795, .iconst 0), (796, .ireturn), (797, .goto 2282), (800, .aload_n 1), (801, .aload_n 0), (802, .iload 5), (804, .iconst 1), (805, .iadd), (806, .iaload), (807, .aload_n 3), (808, .invokestatic 194), (811, .istore 6), (813, .aload_n 2), (814, .aload_n 0), (815, .iload 5), (817, .iconst 1), (818, .iadd), (819, .iaload), (820, .invokevirtual 196), (823, .istore 7), (825, .aload_n 2), (826, .invokevirtual 153), (829, .iload 6), (831, .if_icmp .eq 5), (834, .iconst 0), (835, .ireturn), (836, .iload 6), (838, .ifCond .ne 15), (841, .aload_n 3), (842, .iconst 0), (843, .laload), (844, .iload 7), (846, .i2l), (847, .lcmp), (848, .ifCond .eq 5), (851, .iconst 0), (852, .ireturn), (853, .goto 2226), (856, .aload_n 1), (857, .aload_n 0), (858, .iload 5), (860, .iconst 1), (861, .iadd), (862, .iaload), (863, .aload_n 0), (864, .iload 5), (866, .iconst 2), (867, .iadd), (868, .iaload), (869, .ifCond .eq 7), (872, .iconst 1), (873, .goto 4), (876, .iconst 0), (877, .aload_n 3), (878, .invokestatic 197), (881, .istore 6), (883, .aload_n 2), (884, .aload_n 0), (885, .iload 5), (887, .iconst 1), (888, .iadd), (889, .iaload), (890, .aload_n 0), (891, .iload 5), (893, .iconst 2), (894, .iadd), (895, .iaload), (896, .ifCond .eq 7), (899, .iconst 1), (900, .goto 4), (903, .iconst 0), (904, .invokevirtual 200), (907, .istore 7), (909, .aload_n 2), (910, .invokevirtual 153), (913, .iload 6), (915, .if_icmp .eq 5), (918, .iconst 0), (919, .ireturn), (920, .iload 6), (922, .ifCond .ne 15), (925, .aload_n 3), (926, .iconst 0), (927, .laload), (928, .iload 7), (930, .i2l), (931, .lcmp), (932, .ifCond .eq 5), (935, .iconst 0), (936, .ireturn), (937, .goto 2142), (940, .aload_n 1), (941, .aload_n 0), (942, .iload 5), (944, .iconst 1), (945, .iadd), (946, .iaload), (947, .aload_n 0), (948, .iload 5), (950, .iconst 2), (951, .iadd), (952, .iaload), (953, .ifCond .eq 7), (956, .iconst 1), (957, .goto 4), (960, .iconst 0), (961, .aload_n 3), (962, .invokestatic 201), (965, .istore 6), (967, .aload_n 2), (968, .aload_n 0), (969, .iload 5), (971, .iconst 1), (972, .iadd), (973, .iaload), (974, .aload_n 0), (975, .iload 5), (977, .iconst 2), (978, .iadd), (979, .iaload), (980, .ifCond .eq 7), (983, .iconst 1), (984, .goto 4), (987, .iconst 0), (988, .invokevirtual 203), (991, .istore 7), (993, .aload_n 2), (994, .invokevirtual 153), (997, .iload 6), (999, .if_icmp .eq 5), (1002, .iconst 0), (1003, .ireturn), (1004, .iload 6), (1006, .ifCond .ne 15), (1009, .aload_n 3), (1010, .iconst 0), (1011, .laload), (1012, .iload 7), (1014, .i2l), (1015, .lcmp), (1016, .ifCond .eq 5), (1019, .iconst 0), (1020, .ireturn), (1021, .goto 2058), (1024, .aload_n 1), (1025, .aload_n 0), (1026, .iload 5), (1028, .iconst 1), (1029, .iadd), (1030, .iaload), (1031, .aload_n 0), (1032, .iload 5), (1034, .iconst 2), (1035, .iadd), (1036, .iaload), (1037, .aload_n 3), (1038, .invokestatic 204), (1041, .istore 6), (1043, .aload_n 2), (1044, .aload_n 0), (1045, .iload 5), (1047, .iconst 1), (1048, .iadd), (1049, .iaload), (1050, .aload_n 0), (1051, .iload 5), (1053, .iconst 2), (1054, .iadd), (1055, .iaload), (1056, .invokevirtual 206), (1059, .istore 7), (1061, .aload_n 2), (1062, .invokevirtual 153), (1065, .iload 6), (1067, .if_icmp .eq 5), (1070, .iconst 0), (1071, .ireturn), (1072, .iload 6), (1074, .ifCond .ne 15), (1077, .aload_n 3), (1078, .iconst 0), (1079, .laload), (1080, .iload 7), (1082, .i2l), (1083, .lcmp), (1084, .ifCond .eq 5), (1087, .iconst 0), (1088, .ireturn), (1089, .goto 1990), (1092, .aload_n 1), (1093, .aload_n 0), (1094, .iload 5), (1096, .iconst 1), (1097, .iadd), (1098, .iaload), (1099, .aload_n 0), (1100, .iload 5), (1102, .iconst 2), (1103, .iadd), (1104, .iaload), (1105, .aload_n 3), (1106, .invokestatic 207), (1109, .istore 6), (1111, .aload_n 2), (1112, .aload_n 0), (1113, .iload 5), (1115, .iconst 1), (1116, .iadd), (1117, .iaload), (1118, .aload_n 0), (1119, .iload 5), (1121, .iconst 2), (1122, .iadd), (1123, .iaload), (1124, .invokevirtual 209), (1127, .istore 7), (1129, .aload_n 2), (1130, .invokevirtual 153), (1133, .iload 6), (1135, .if_icmp .eq 5), (1138, .iconst 0), (1139, .ireturn), (1140, .iload 6), (1142, .ifCond .ne 15), (1145, .aload_n 3), (1146, .iconst 0), (1147, .laload), (1148, .iload 7), (1150, .i2l), (1151, .lcmp), (1152, .ifCond .eq 5), (1155, .iconst 0), (1156, .ireturn), (1157, .goto 1922), (1160, .aload_n 1), (1161, .aload_n 0), (1162, .iload 5), (1164, .iconst 1), (1165, .iadd), (1166, .iaload), (1167, .aload_n 3), (1168, .invokestatic 210), (1171, .istore 6), (1173, .aload_n 2), (1174, .aload_n 0), (1175, .iload 5), (1177, .iconst 1), (1178, .iadd), (1179, .iaload), (1180, .invokevirtual 212), (1183, .lstore 7), (1185, .aload_n 2), (1186, .invokevirtual 153), (1189, .iload 6), (1191, .if_icmp .eq 5), (1194, .iconst 0), (1195, .ireturn), (1196, .iload 6), (1198, .ifCond .ne 14), (1201, .aload_n 3), (1202, .iconst 0), (1203, .laload), (1204, .lload 7), (1206, .lcmp), (1207, .ifCond .eq 5), (1210, .iconst 0), (1211, .ireturn), (1212, .goto 1867), (1215, .aload_n 1), (1216, .aload_n 0), (1217, .iload 5), (1219, .iconst 1), (1220, .iadd), (1221, .iaload), (1222, .aload_n 3), (1223, .invokestatic 213), (1226, .istore 6), (1228, .aload_n 2), (1229, .aload_n 0), (1230, .iload 5), (1232, .iconst 1), (1233, .iadd), (1234, .iaload), (1235, .invokevirtual 215), (1238, .istore 7), (1240, .aload_n 2), (1241, .invokevirtual 153), (1244, .iload 6), (1246, .if_icmp .eq 5), (1249, .iconst 0), (1250, .ireturn), (1251, .iload 6), (1253, .ifCond .ne 15), (1256, .aload_n 3), (1257, .iconst 0), (1258, .laload), (1259, .iload 7), (1261, .i2l), (1262, .lcmp), (1263, .ifCond .eq 5), (1266, .iconst 0), (1267, .ireturn), (1268, .goto 1811), (1271, .aload_n 1), (1272, .invokevirtual 216), (1275, .aload_n 2), (1276, .invokevirtual 219), (1279, .if_icmp .eq 1800), (1282, .iconst 0), (1283, .ireturn), (1284, .aload_n 1), (1285, .aload_n 0), (1286, .iload 5), (1288, .iconst 1), (1289, .iadd), (1290, .iaload), (1291, .ifCond .eq 7), (1294, .iconst 1), (1295, .goto 4), (1298, .iconst 0), (1299, .invokevirtual 220), (1302, .aload_n 2), (1303, .aload_n 0), (1304, .iload 5), (1306, .iconst 1), (1307, .iadd), (1308, .iaload), (1309, .ifCond .eq 7), (1312, .iconst 1), (1313, .goto 4), (1316, .iconst 0), (1317, .invokevirtual 224), (1320, .if_icmp .eq 1759), (1323, .iconst 0), (1324, .ireturn), (1325, .aload_n 1), (1326, .aload_n 0), (1327, .iload 5), (1329, .iconst 1), (1330, .iadd), (1331, .iaload), (1332, .aload_n 0), (1333, .iload 5), (1335, .iconst 2), (1336, .iadd), (1337, .iaload), (1338, .aload_n 0), (1339, .iload 5), (1341, .iconst 3), (1342, .iadd), (1343, .iaload), (1344, .ifCond .eq 7), (1347, .iconst 1), (1348, .goto 4), (1351, .iconst 0), (1352, .aload_n 3), (1353, .invokestatic 225), (1356, .istore 6), (1358, .aload_n 2), (1359, .aload_n 0), (1360, .iload 5), (1362, .iconst 1), (1363, .iadd), (1364, .iaload), (1365, .aload_n 0), (1366, .iload 5), (1368, .iconst 2), (1369, .iadd), (1370, .iaload), (1371, .aload_n 0), (1372, .iload 5), (1374, .iconst 3), (1375, .iadd), (1376, .iaload), (1377, .ifCond .eq 7), (1380, .iconst 1), (1381, .goto 4), (1384, .iconst 0), (1385, .invokevirtual 228), (1388, .istore 7), (1390, .aload_n 2), (1391, .invokevirtual 153), (1394, .iload 6), (1396, .if_icmp .eq 5), (1399, .iconst 0), (1400, .ireturn), (1401, .iload 6), (1403, .ifCond .ne 15), (1406, .aload_n 3), (1407, .iconst 0), (1408, .laload), (1409, .iload 7), (1411, .i2l), (1412, .lcmp), (1413, .ifCond .eq 5), (1416, .iconst 0), (1417, .ireturn), (1418, .goto 1661), (1421, .aload_n 1), (1422, .aload_n 0), (1423, .iload 5), (1425, .iconst 1), (1426, .iadd), (1427, .iaload), (1428, .aload_n 0), (1429, .iload 5), (1431, .iconst 2), (1432, .iadd), (1433, .iaload), (1434, .aload_n 3), (1435, .invokestatic 229), (1438, .istore 6), (1440, .aload_n 2), (1441, .aload_n 0), (1442, .iload 5), (1444, .iconst 1), (1445, .iadd), (1446, .iaload), (1447, .aload_n 0), (1448, .iload 5), (1450, .iconst 2), (1451, .iadd), (1452, .iaload), (1453, .invokevirtual 231), (1456, .istore 7), (1458, .aload_n 2), (1459, .invokevirtual 153), (1462, .iload 6), (1464, .if_icmp .eq 5), (1467, .iconst 0), (1468, .ireturn), (1469, .iload 6), (1471, .ifCond .ne 15), (1474, .aload_n 3), (1475, .iconst 0), (1476, .laload), (1477, .iload 7), (1479, .i2l), (1480, .lcmp), (1481, .ifCond .eq 5), (1484, .iconst 0), (1485, .ireturn), (1486, .goto 1593), (1489, .aload_n 1), (1490, .aload_n 0), (1491, .iload 5), (1493, .iconst 1), (1494, .iadd), (1495, .iaload), (1496, .aload_n 3), (1497, .invokestatic 232), (1500, .istore 6), (1502, .aload_n 2), (1503, .aload_n 0), (1504, .iload 5), (1506, .iconst 1), (1507, .iadd), (1508, .iaload), (1509, .invokevirtual 234), (1512, .istore 7), (1514, .aload_n 2), (1515, .invokevirtual 153), (1518, .iload 6), (1520, .if_icmp .eq 5), (1523, .iconst 0), (1524, .ireturn), (1525, .iload 6), (1527, .ifCond .ne 15), (1530, .aload_n 3), (1531, .iconst 0), (1532, .laload), (1533, .iload 7), (1535, .i2l), (1536, .lcmp), (1537, .ifCond .eq 5), (1540, .iconst 0), (1541, .ireturn), (1542, .goto 1537), (1545, .aload_n 1), (1546, .invokevirtual 235), (1549, .aload_n 2), (1550, .invokevirtual 238), (1553, .if_icmp .eq 1526), (1556, .iconst 0), (1557, .ireturn), (1558, .aload_n 1), (1559, .aload_n 0), (1560, .iload 5), (1562, .iconst 1), (1563, .iadd), (1564, .iaload), (1565, .ifCond .eq 7), (1568, .iconst 1), (1569, .goto 4), (1572, .iconst 0), (1573, .invokevirtual 239), (1576, .aload_n 2), (1577, .aload_n 0), (1578, .iload 5), (1580, .iconst 1), (1581, .iadd), (1582, .iaload), (1583, .ifCond .eq 7), (1586, .iconst 1), (1587, .goto 4), (1590, .iconst 0), (1591, .invokevirtual 242), (1594, .if_icmp .eq 1485), (1597, .iconst 0), (1598, .ireturn), (1599, .aload_n 1), (1600, .aload_n 0), (1601, .iload 5), (1603, .iconst 1), (1604, .iadd), (1605, .iaload), (1606, .aload_n 3), (1607, .invokestatic 243), (1610, .istore 6), (1612, .aload_n 2), (1613, .aload_n 0), (1614, .iload 5), (1616, .iconst 1), (1617, .iadd), (1618, .iaload), (1619, .invokevirtual 245), (1622, .istore 7), (1624, .aload_n 2), (1625, .invokevirtual 153), (1628, .iload 6), (1630, .if_icmp .eq 5), (1633, .iconst 0), (1634, .ireturn), (1635, .iload 6), (1637, .ifCond .ne 15), (1640, .aload_n 3), (1641, .iconst 0), (1642, .laload), (1643, .iload 7), (1645, .i2l), (1646, .lcmp), (1647, .ifCond .eq 5), (1650, .iconst 0), (1651, .ireturn), (1652, .goto 1427), (1655, .aload_n 1), (1656, .aload_n 0), (1657, .iload 5), (1659, .iconst 1), (1660, .iadd), (1661, .iaload), (1662, .aload_n 0), (1663, .iload 5), (1665, .iconst 2), (1666, .iadd), (1667, .iaload), (1668, .aload_n 3), (1669, .invokestatic 246), (1672, .istore 6), (1674, .aload_n 2), (1675, .aload_n 0), (1676, .iload 5), (1678, .iconst 1), (1679, .iadd), (1680, .iaload), (1681, .aload_n 0), (1682, .iload 5), (1684, .iconst 2), (1685, .iadd), (1686, .iaload), (1687, .invokevirtual 248), (1690, .istore 7), (1692, .aload_n 2), (1693, .invokevirtual 153), (1696, .iload 6), (1698, .if_icmp .eq 5), (1701, .iconst 0), (1702, .ireturn), (1703, .iload 6), (1705, .ifCond .ne 15), (1708, .aload_n 3), (1709, .iconst 0), (1710, .laload), (1711, .iload 7), (1713, .i2l), (1714, .lcmp), (1715, .ifCond .eq 5), (1718, .iconst 0), (1719, .ireturn), (1720, .goto 1359), (1723, .aload_n 1), (1724, .aload_n 0), (1725, .iload 5), (1727, .iconst 1), (1728, .iadd), (1729, .iaload), (1730, .aload_n 0), (1731, .iload 5), (1733, .iconst 2), (1734, .iadd), (1735, .iaload), (1736, .aload_n 3), (1737, .invokestatic 249), (1740, .istore 6), (1742, .aload_n 2), (1743, .aload_n 0), (1744, .iload 5), (1746, .iconst 1), (1747, .iadd), (1748, .iaload), (1749, .aload_n 0), (1750, .iload 5), (1752, .iconst 2), (1753, .iadd), (1754, .iaload), (1755, .invokevirtual 251), (1758, .istore 7), (1760, .aload_n 2), (1761, .invokevirtual 153), (1764, .iload 6), (1766, .if_icmp .eq 5), (1769, .iconst 0), (1770, .ireturn), (1771, .iload 6), (1773, .ifCond .ne 15), (1776, .aload_n 3), (1777, .iconst 0), (1778, .laload), (1779, .iload 7), (1781, .i2l), (1782, .lcmp), (1783, .ifCond .eq 5), (1786, .iconst 0), (1787, .ireturn), (1788, .goto 1291), (1791, .aload_n 1), (1792, .aload_n 0), (1793, .iload 5), (1795, .iconst 1), (1796, .iadd), (1797, .iaload), (1798, .aload_n 3), (1799, .invokestatic 252), (1802, .istore 6), (1804, .aload_n 2), (1805, .aload_n 0), (1806, .iload 5), (1808, .iconst 1), (1809, .iadd), (1810, .iaload), (1811, .invokevirtual 254), (1814, .istore 7), (1816, .aload_n 2), (1817, .invokevirtual 153), (1820, .iload 6), (1822, .if_icmp .eq 5), (1825, .iconst 0), (1826, .ireturn), (1827, .iload 6), (1829, .ifCond .ne 15), (1832, .aload_n 3), (1833, .iconst 0), (1834, .laload), (1835, .iload 7), (1837, .i2l), (1838, .lcmp), (1839, .ifCond .eq 5), (1842, .iconst 0), (1843, .ireturn), (1844, .goto 1235), (1847, .aload_n 1), (1848, .aload_n 0), (1849, .iload 5), (1851, .iconst 1), (1852, .iadd), (1853, .iaload), (1854, .aload_n 3), (1855, .invokestatic 255), (1858, .istore 6), (1860, .aload_n 2), (1861, .aload_n 0), (1862, .iload 5), (1864, .iconst 1), (1865, .iadd), (1866, .iaload), (1867, .invokevirtual 257), (1870, .istore 7), (1872, .aload_n 2), (1873, .invokevirtual 153), (1876, .iload 6), (1878, .if_icmp .eq 5), (1881, .iconst 0), (1882, .ireturn), (1883, .iload 6), (1885, .ifCond .ne 15), (1888, .aload_n 3), (1889, .iconst 0), (1890, .laload), (1891, .iload 7), (1893, .i2l), (1894, .lcmp), (1895, .ifCond .eq 5), (1898, .iconst 0), (1899, .ireturn), (1900, .goto 1179), (1903, .aload_n 1), (1904, .aload_n 0), (1905, .iload 5), (1907, .iconst 1), (1908, .iadd), (1909, .iaload), (1910, .aload_n 3), (1911, .invokestatic 258), (1914, .istore 6), (1916, .aload_n 2), (1917, .aload_n 0), (1918, .iload 5), (1920, .iconst 1), (1921, .iadd), (1922, .iaload), (1923, .invokevirtual 260), (1926, .lstore 7), (1928, .aload_n 2), (1929, .invokevirtual 153), (1932, .iload 6), (1934, .if_icmp .eq 5), (1937, .iconst 0), (1938, .ireturn), (1939, .iload 6), (1941, .ifCond .ne 14), (1944, .aload_n 3), (1945, .iconst 0), (1946, .laload), (1947, .lload 7), (1949, .lcmp), (1950, .ifCond .eq 5), (1953, .iconst 0), (1954, .ireturn), (1955, .goto 1124), (1958, .aload_n 1), (1959, .invokevirtual 261), (1962, .aload_n 2), (1963, .invokevirtual 264), (1966, .if_icmp .eq 1113), (1969, .iconst 0), (1970, .ireturn), (1971, .aload_n 1), (1972, .aload_n 0), (1973, .iload 5), (1975, .iconst 1), (1976, .iadd), (1977, .iaload), (1978, .ifCond .eq 7), (1981, .iconst 1), (1982, .goto 4), (1985, .iconst 0), (1986, .aload_n 0), (1987, .iload 5), (1989, .iconst 2), (1990, .iadd), (1991, .iaload), (1992, .aload_n 0), (1993, .iload 5), (1995, .iconst 3), (1996, .iadd), (1997, .iaload), (1998, .aload_n 3), (1999, .invokestatic 265), (2002, .istore 6), (2004, .aload_n 2), (2005, .aload_n 0), (2006, .iload 5), (2008, .iconst 1), (2009, .iadd), (2010, .iaload), (2011, .ifCond .eq 7), (2014, .iconst 1), (2015, .goto 4), (2018, .iconst 0), (2019, .aload_n 0), (2020, .iload 5), (2022, .iconst 2), (2023, .iadd), (2024, .iaload), (2025, .aload_n 0), (2026, .iload 5), (2028, .iconst 3), (2029, .iadd), (2030, .iaload), (2031, .invokevirtual 268), (2034, .lstore 7), (2036, .aload_n 2), (2037, .invokevirtual 153), (2040, .iload 6), (2042, .if_icmp .eq 5), (2045, .iconst 0), (2046, .ireturn), (2047, .iload 6), (2049, .ifCond .ne 14), (2052, .aload_n 3), (2053, .iconst 0), (2054, .laload), (2055, .lload 7), (2057, .lcmp), (2058, .ifCond .eq 5), (2061, .iconst 0), (2062, .ireturn), (2063, .goto 1016), (2066, .aload_n 1), (2067, .invokevirtual 269), (2070, .dstore 6), (2072, .aload_n 2), (2073, .invokevirtual 273), (2076, .dstore 8), (2078, .dload 6), (2080, .dload 8), (2082, .dcmp .l), (2083, .ifCond .eq 21), (2086, .dload 6), (2088, .dload 6), (2090, .dcmp .l), (2091, .ifCond .eq 11), (2094, .dload 8), (2096, .dload 8), (2098, .dcmp .l), (2099, .ifCond .ne 5), (2102, .iconst 0), (2103, .ireturn), (2104, .goto 975), (2107, .aload_n 1), (2108, .aload_n 0), (2109, .iload 5), (2111, .iconst 1), (2112, .iadd), (2113, .iaload), (2114, .aload 4), (2116, .invokestatic 274), (2119, .istore 6), (2121, .aload_n 2), (2122, .aload_n 0), (2123, .iload 5), (2125, .iconst 1), (2126, .iadd), (2127, .iaload), (2128, .invokevirtual 277), (2131, .fstore 7), (2133, .aload_n 2), (2134, .invokevirtual 153), (2137, .iload 6), (2139, .if_icmp .eq 5), (2142, .iconst 0), (2143, .ireturn), (2144, .iload 6), (2146, .ifCond .ne 36), (2149, .aload 4), (2151, .iconst 0), (2152, .daload), (2153, .fload 7), (2155, .f2d), (2156, .dcmp .l), (2157, .ifCond .eq 25), (2160, .aload 4), (2162, .iconst 0), (2163, .daload), (2164, .aload 4), (2166, .iconst 0), (2167, .daload), (2168, .dcmp .l), (2169, .ifCond .eq 11), (2172, .fload 7), (2174, .fload 7), (2176, .fcmp .l), (2177, .ifCond .ne 5), (2180, .iconst 0), (2181, .ireturn), (2182, .goto 897), (2185, .aload_n 1), (2186, .invokevirtual 278), (2189, .dstore 6), (2191, .aload_n 2), (2192, .invokevirtual 281), (2195, .dstore 8), (2197, .dload 6), (2199, .dload 8), (2201, .dcmp .l), (2202, .ifCond .eq 21), (2205, .dload 6), (2207, .dload 6), (2209, .dcmp .l), (2210, .ifCond .eq 11), (2213, .dload 8), (2215, .dload 8), (2217, .dcmp .l), (2218, .ifCond .ne 5), (2221, .iconst 0), (2222, .ireturn), (2223, .goto 856), (2226, .aload_n 1), (2227, .aload_n 0), (2228, .iload 5), (2230, .iconst 1), (2231, .iadd), (2232, .iaload), (2233, .aload_n 3), (2234, .invokestatic 282), (2237, .istore 6), (2239, .aload_n 2), (2240, .aload_n 0), (2241, .iload 5), (2243, .iconst 1), (2244, .iadd), (2245, .iaload), (2246, .invokevirtual 284), (2249, .istore 7), (2251, .aload_n 2), (2252, .invokevirtual 153), (2255, .iload 6), (2257, .if_icmp .eq 5), (2260, .iconst 0), (2261, .ireturn), (2262, .iload 6), (2264, .ifCond .ne 15), (2267, .aload_n 3), (2268, .iconst 0), (2269, .laload), (2270, .iload 7), (2272, .i2l), (2273, .lcmp), (2274, .ifCond .eq 5), (2277, .iconst 0), (2278, .ireturn), (2279, .goto 800), (2282, .aload_n 1), (2283, .aload_n 0), (2284, .iload 5), (2286, .iconst 1), (2287, .iadd), (2288, .iaload), (2289, .aload_n 3), (2290, .invokestatic 285), (2293, .istore 6), (2295, .aload_n 2), (2296, .aload_n 0), (2297, .iload 5), (2299, .iconst 1), (2300, .iadd), (2301, .iaload), (2302, .invokevirtual 287), (2305, .istore 7), (2307, .aload_n 2), (2308, .invokevirtual 153), (2311, .iload 6), (2313, .if_icmp .eq 5), (2316, .iconst 0), (2317, .ireturn), (2318, .iload 6), (2320, .ifCond .ne 15), (2323, .aload_n 3), (2324, .iconst 0), (2325, .laload), (2326, .iload 7), (2328, .i2l), (2329, .lcmp), (2330, .ifCond .eq 5), (2333, .iconst 0), (2334, .ireturn), (2335, .goto 744), (2338, .aload_n 1), (2339, .aload_n 0), (2340, .iload 5), (2342, .iconst 1), (2343, .iadd), (2344, .iaload), (2345, .aload_n 0), (2346, .iload 5), (2348, .iconst 2), (2349, .iadd), (2350, .iaload), (2351, .aload_n 3), (2352, .invokestatic 288), (2355, .istore 6), (2357, .aload_n 2), (2358, .aload_n 0), (2359, .iload 5), (2361, .iconst 1), (2362, .iadd), (2363, .iaload), (2364, .aload_n 0), (2365, .iload 5), (2367, .iconst 2), (2368, .iadd), (2369, .iaload), (2370, .invokevirtual 290), (2373, .istore 7), (2375, .aload_n 2), (2376, .invokevirtual 153), (2379, .iload 6), (2381, .if_icmp .eq 5), (2384, .iconst 0), (2385, .ireturn), (2386, .iload 6), (2388, .ifCond .ne 15), (2391, .aload_n 3), (2392, .iconst 0), (2393, .laload), (2394, .iload 7), (2396, .i2l), (2397, .lcmp), (2398, .ifCond .eq 5), (2401, .iconst 0), (2402, .ireturn), (2403, .goto 676), (2406, .aload_n 1), (2407, .aload_n 0), (2408, .iload 5), (2410, .iconst 1), (2411, .iadd), (2412, .iaload), (2413, .aload_n 0), (2414, .iload 5), (2416, .iconst 2), (2417, .iadd), (2418, .iaload), (2419, .aload_n 3), (2420, .invokestatic 291), (2423, .istore 6), (2425, .aload_n 2), (2426, .aload_n 0), (2427, .iload 5), (2429, .iconst 1), (2430, .iadd), (2431, .iaload), (2432, .aload_n 0), (2433, .iload 5), (2435, .iconst 2), (2436, .iadd), (2437, .iaload), (2438, .invokevirtual 293), (2441, .istore 7), (2443, .aload_n 2), (2444, .invokevirtual 153), (2447, .iload 6), (2449, .if_icmp .eq 5), (2452, .iconst 0), (2453, .ireturn), (2454, .iload 6), (2456, .ifCond .ne 15), (2459, .aload_n 3), (2460, .iconst 0), (2461, .laload), (2462, .iload 7), (2464, .i2l), (2465, .lcmp), (2466, .ifCond .eq 5), (2469, .iconst 0), (2470, .ireturn), (2471, .goto 608), (2474, .aload_n 1), (2475, .aload_n 0), (2476, .iload 5), (2478, .iconst 1), (2479, .iadd), (2480, .iaload), (2481, .aload_n 0), (2482, .iload 5), (2484, .iconst 2), (2485, .iadd), (2486, .iaload), (2487, .aload_n 3), (2488, .invokestatic 294), (2491, .istore 6), (2493, .aload_n 2), (2494, .aload_n 0), (2495, .iload 5), (2497, .iconst 1), (2498, .iadd), (2499, .iaload), (2500, .aload_n 0), (2501, .iload 5), (2503, .iconst 2), (2504, .iadd), (2505, .iaload), (2506, .invokevirtual 296), (2509, .istore 7), (2511, .aload_n 2), (2512, .invokevirtual 153), (2515, .iload 6), (2517, .if_icmp .eq 5), (2520, .iconst 0), (2521, .ireturn), (2522, .iload 6), (2524, .ifCond .ne 15), (2527, .aload_n 3), (2528, .iconst 0), (2529, .laload), (2530, .iload 7), (2532, .i2l), (2533, .lcmp), (2534, .ifCond .eq 5), (2537, .iconst 0), (2538, .ireturn), (2539, .goto 540), (2542, .aload_n 1), (2543, .aload_n 0), (2544, .iload 5), (2546, .iconst 1), (2547, .iadd), (2548, .iaload), (2549, .aload_n 0), (2550, .iload 5), (2552, .iconst 2), (2553, .iadd), (2554, .iaload), (2555, .aload_n 0), (2556, .iload 5), (2558, .iconst 3), (2559, .iadd), (2560, .iaload), (2561, .aload_n 3), (2562, .invokestatic 297), (2565, .istore 6), (2567, .aload_n 2), (2568, .aload_n 0), (2569, .iload 5), (2571, .iconst 1), (2572, .iadd), (2573, .iaload), (2574, .aload_n 0), (2575, .iload 5), (2577, .iconst 2), (2578, .iadd), (2579, .iaload), (2580, .aload_n 0), (2581, .iload 5), (2583, .iconst 3), (2584, .iadd), (2585, .iaload), (2586, .invokevirtual 300), (2589, .istore 7), (2591, .aload_n 2), (2592, .invokevirtual 153), (2595, .iload 6), (2597, .if_icmp .eq 5), (2600, .iconst 0), (2601, .ireturn), (2602, .iload 6), (2604, .ifCond .ne 15), (2607, .aload_n 3), (2608, .iconst 0), (2609, .laload), (2610, .iload 7), (2612, .i2l), (2613, .lcmp), (2614, .ifCond .eq 5), (2617, .iconst 0), (2618, .ireturn), (2619, .goto 460), (2622, .aload_n 1), (2623, .aload_n 0), (2624, .iload 5), (2626, .iconst 1), (2627, .iadd), (2628, .iaload), (2629, .aload_n 3), (2630, .invokestatic 301), (2633, .istore 6), (2635, .aload_n 2), (2636, .aload_n 0), (2637, .iload 5), (2639, .iconst 1), (2640, .iadd), (2641, .iaload), (2642, .invokevirtual 303), (2645, .istore 7), (2647, .aload_n 2), (2648, .invokevirtual 153), (2651, .iload 6), (2653, .if_icmp .eq 5), (2656, .iconst 0), (2657, .ireturn), (2658, .iload 6), (2660, .ifCond .ne 15), (2663, .aload_n 3), (2664, .iconst 0), (2665, .laload), (2666, .iload 7), (2668, .i2l), (2669, .lcmp), (2670, .ifCond .eq 5), (2673, .iconst 0), (2674, .ireturn), (2675, .goto 404), (2678, .aload_n 1), (2679, .aload_n 0), (2680, .iload 5), (2682, .iconst 1), (2683, .iadd), (2684, .iaload), (2685, .aload_n 3), (2686, .invokestatic 304), (2689, .istore 6), (2691, .aload_n 2), (2692, .aload_n 0), (2693, .iload 5), (2695, .iconst 1), (2696, .iadd), (2697, .iaload), (2698, .invokevirtual 306), (2701, .istore 7), (2703, .aload_n 2), (2704, .invokevirtual 153), (2707, .iload 6), (2709, .if_icmp .eq 5), (2712, .iconst 0), (2713, .ireturn), (2714, .iload 6), (2716, .ifCond .ne 15), (2719, .aload_n 3), (2720, .iconst 0), (2721, .laload), (2722, .iload 7), (2724, .i2l), (2725, .lcmp), (2726, .ifCond .eq 5), (2729, .iconst 0), (2730, .ireturn), (2731, .goto 348), (2734, .aload_n 1), (2735, .invokevirtual 307), (2738, .aload_n 2), (2739, .invokevirtual 310), (2742, .if_icmp .eq 337), (2745, .iconst 0), (2746, .ireturn), (2747, .aload_n 1), (2748, .aload_n 0), (2749, .iload 5), (2751, .iconst 1), (2752, .iadd), (2753, .iaload), (2754, .aload_n 0), (2755, .iload 5), (2757, .iconst 2), (2758, .iadd), (2759, .iaload), (2760, .aload_n 3), (2761, .invokestatic 311), (2764, .istore 6), (2766, .aload_n 2), (2767, .aload_n 0), (2768, .iload 5), (2770, .iconst 1), (2771, .iadd), (2772, .iaload), (2773, .aload_n 0), (2774, .iload 5), (2776, .iconst 2), (2777, .iadd), (2778, .iaload), (2779, .invokevirtual 313), (2782, .istore 7), (2784, .aload_n 2), (2785, .invokevirtual 153), (2788, .iload 6), (2790, .if_icmp .eq 5), (2793, .iconst 0), (2794, .ireturn), (2795, .iload 6), (2797, .ifCond .ne 15), (2800, .aload_n 3), (2801, .iconst 0), (2802, .laload), (2803, .iload 7), (2805, .i2l), (2806, .lcmp), (2807, .ifCond .eq 5), (2810, .iconst 0), (2811, .ireturn), (2812, .goto 267), (2815, .aload_n 1), (2816, .aload_n 0), (2817, .iload 5), (2819, .iconst 1), (2820, .iadd), (2821, .iaload), (2822, .aload_n 3), (2823, .invokestatic 314), (2826, .istore 6), (2828, .aload_n 2), (2829, .aload_n 0), (2830, .iload 5), (2832, .iconst 1), (2833, .iadd), (2834, .iaload), (2835, .invokevirtual 316), (2838, .istore 7), (2840, .aload_n 2), (2841, .invokevirtual 153), (2844, .iload 6), (2846, .if_icmp .eq 5), (2849, .iconst 0), (2850, .ireturn), (2851, .iload 6), (2853, .ifCond .ne 15), (2856, .aload_n 3), (2857, .iconst 0), (2858, .laload), (2859, .iload 7), (2861, .i2l), (2862, .lcmp), (2863, .ifCond .eq 5), (2866, .iconst 0), (2867, .ireturn), (2868, .goto 211), (2871, .aload_n 1), (2872, .aload_n 0), (2873, .iload 5), (2875, .iconst 1), (2876, .iadd), (2877, .iaload), (2878, .aload_n 3), (2879, .invokestatic 317), (2882, .istore 6), (2884, .aload_n 2), (2885, .aload_n 0), (2886, .iload 5), (2888, .iconst 1), (2889, .iadd), (2890, .iaload), (2891, .invokevirtual 319), (2894, .istore 7), (2896, .aload_n 2), (2897, .invokevirtual 153), (2900, .iload 6), (2902, .if_icmp .eq 5), (2905, .iconst 0), (2906, .ireturn), (2907, .iload 6), (2909, .ifCond .ne 15), (2912, .aload_n 3), (2913, .iconst 0), (2914, .laload), (2915, .iload 7), (2917, .i2l), (2918, .lcmp), (2919, .ifCond .eq 5), (2922, .iconst 0), (2923, .ireturn), (2924, .goto 155), (2927, .aload_n 1), (2928, .aload_n 3), (2929, .invokestatic 320), (2932, .istore 6), (2934, .aload_n 2), (2935, .invokevirtual 323), (2938, .istore 7), (2940, .aload_n 2), (2941, .invokevirtual 153), (2944, .iload 6), (2946, .if_icmp .eq 5), (2949, .iconst 0), (2950, .ireturn), (2951, .iload 6), (2953, .ifCond .ne 15), (2956, .aload_n 3), (2957, .iconst 0), (2958, .laload), (2959, .iload 7), (2961, .i2l), (2962, .lcmp), (2963, .ifCond .eq 5), (2966, .iconst 0), (2967, .ireturn), (2968, .goto 111), (2971, .aload_n 1), (2972, .invokevirtual 324), (2975, .aload_n 2), (2976, .invokevirtual 327), (2979, .if_icmp .eq 100), (2982, .iconst 0), (2983, .ireturn), (2984, .aload_n 1), (2985, .invokevirtual 328), (2988, .aload_n 2), (2989, .invokevirtual 331), (2992, .if_icmp .eq 87), (2995, .iconst 0), (2996, .ireturn), (2997, .aload_n 1), (2998, .invokevirtual 332), (3001, .aload_n 2), (3002, .invokevirtual 335), (3005, .if_icmp .eq 74), (3008, .iconst 0), (3009, .ireturn), (3010, .aload_n 1), (3011, .invokevirtual 336), (3014, .aload_n 2), (3015, .invokevirtual 339), (3018, .if_icmp .eq 61), (3021, .iconst 0), (3022, .ireturn), (3023, .aload_n 1), (3024, .aload_n 0), (3025, .iload 5), (3027, .iconst 1), (3028, .iadd), (3029, .iaload), (3030, .aload_n 3), (3031, .invokestatic 340), (3034, .istore 6), (3036, .aload_n 2), (3037, .aload_n 0), (3038, .iload 5), (3040, .iconst 1), (3041, .iadd), (3042, .iaload), (3043, .invokevirtual 342), (3046, .istore 7), (3048, .aload_n 2), (3049, .invokevirtual 153), (3052, .iload 6), (3054, .if_icmp .eq 5), (3057, .iconst 0), (3058, .ireturn), (3059, .iload 6), (3061, .ifCond .ne 15), (3064, .aload_n 3), (3065, .iconst 0), (3066, .laload), (3067, .iload 7), (3069, .i2l), (3070, .lcmp), (3071, .ifCond .eq 5), (3074, .iconst 0), (3075, .ireturn), (3076, .goto 3), (3079, .iinc 5 6), (3082, .goto (-3054)), (3085, .iconst 1), (3086, .ireturn)]
set_option maxRecDepth 100000 in
theorem id334 : scan (mCd 334).data.toList 0 il334 = true := by decide +kernel
theorem mm334 : mKd 334 = 0 ∧ mAr 334 = 1 ∧ mMx 334 = 10 := by decide +kernel
theorem mo334 : mOw 334 = 10 := by decide +kernel
theorem mr334 : mRt 334 = some .boolean := by decide +kernel
theorem mh334 : mHn 334 = [] := by decide +kernel
