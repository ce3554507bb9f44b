/-! Each method: its instructions, its head. Made by wip/p57/gen/gen17.py. -/
def il0 : List (Nat × Instr) := [(0, .aload_n 0), (1, .invokespecial 3), (4, .return_)]
set_option maxRecDepth 100000 in
theorem id0 : scan (mCd 0).data.toList 0 il0 = true := by decide +kernel
theorem mm0 : mKd 0 = 2 ∧ mAr 0 = 0 ∧ mMx 0 = 1 := by decide +kernel
theorem mo0 : mOw 0 = 0 := by decide +kernel
theorem mr0 : mRt 0 = none := by decide +kernel
theorem mh0 : mHn 0 = [] := by decide +kernel
def il1 : List (Nat × Instr) := [(0, .aload_n 0), (1, .iload_n 1), (2, .putfield 9), (5, .aload_n 0), (6, .iload_n 2), (7, .putfield 15), (10, .aload_n 0), (11, .iload_n 3), (12, .putfield 18), (15, .aload_n 0), (16, .iload 4), (18, .putfield 21), (21, .aload_n 0), (22, .iconst 0), (23, .putfield 24), (26, .aload_n 0), (27, .iconst 0), (28, .putfield 27), (31, .aload_n 0), (32, .iconst 0), (33, .putfield 30), (36, .aload_n 0), (37, .iconst 0), (38, .putfield 33), (41, .aload_n 0), (42, .iconst 0), (43, .putfield 36), (46, .return_)]
set_option maxRecDepth 100000 in
theorem id1 : scan (mCd 1).data.toList 0 il1 = true := by decide +kernel
theorem mm1 : mKd 1 = 1 ∧ mAr 1 = 4 ∧ mMx 1 = 5 := by decide +kernel
theorem mo1 : mOw 1 = 0 := by decide +kernel
theorem mr1 : mRt 1 = none := by decide +kernel
theorem mh1 : mHn 1 = [] := by decide +kernel
def il2 : List (Nat × Instr) := [(0, .aload_n 0), (1, .aload_n 1), (2, .getfield 9), (5, .putfield 9), (8, .aload_n 0), (9, .aload_n 1), (10, .getfield 15), (13, .putfield 15), (16, .aload_n 0), (17, .aload_n 1), (18, .getfield 18), (21, .putfield 18), (24, .aload_n 0), (25, .aload_n 1), (26, .getfield 21), (29, .putfield 21), (32, .aload_n 0), (33, .aload_n 1), (34, .getfield 24), (37, .putfield 24), (40, .aload_n 0), (41, .aload_n 1), (42, .getfield 27), (45, .putfield 27), (48, .aload_n 0), (49, .aload_n 1), (50, .getfield 30), (53, .putfield 30), (56, .aload_n 0), (57, .aload_n 1), (58, .getfield 33), (61, .putfield 33), (64, .aload_n 0), (65, .aload_n 1), (66, .getfield 36), (69, .putfield 36), (72, .return_)]
set_option maxRecDepth 100000 in
theorem id2 : scan (mCd 2).data.toList 0 il2 = true := by decide +kernel
theorem mm2 : mKd 2 = 1 ∧ mAr 2 = 1 ∧ mMx 2 = 2 := by decide +kernel
theorem mo2 : mOw 2 = 0 := by decide +kernel
theorem mr2 : mRt 2 = none := by decide +kernel
theorem mh2 : mHn 2 = [] := by decide +kernel
def il3 : List (Nat × Instr) := [(0, .aload_n 0), (1, .getfield 18), (4, .ifCond .ge 11), (7, .aload_n 0), (8, .getfield 18), (11, .ineg), (12, .goto 7), (15, .aload_n 0), (16, .getfield 18), (19, .ireturn)]
set_option maxRecDepth 100000 in
theorem id3 : scan (mCd 3).data.toList 0 il3 = true := by decide +kernel
theorem mm3 : mKd 3 = 1 ∧ mAr 3 = 0 ∧ mMx 3 = 1 := by decide +kernel
theorem mo3 : mOw 3 = 0 := by decide +kernel
theorem mr3 : mRt 3 = some .int := by decide +kernel
theorem mh3 : mHn 3 = [] := by decide +kernel
def il4 : List (Nat × Instr) := [(0, .aload_n 0), (1, .iconst 0), (2, .putfield 43), (5, .aload_n 0), (6, .iconst 0), (7, .putfield 46), (10, .aload_n 0), (11, .dup), (12, .getfield 24), (15, .aload_n 0), (16, .invokevirtual 39), (19, .iadd), (20, .putfield 24), (23, .aload_n 0), (24, .getfield 24), (27, .bipush 60), (29, .if_icmp .ge 5), (32, .iconst 0), (33, .ireturn), (34, .aload_n 0), (35, .dup), (36, .getfield 24), (39, .bipush 60), (41, .isub), (42, .putfield 24), (45, .aload_n 0), (46, .aload_n 0), (47, .getfield 18), (50, .ifCond .le 7), (53, .iconst 1), (54, .goto 4), (57, .iconst (-1)), (58, .putfield 43), (61, .iconst 1), (62, .ireturn)]
set_option maxRecDepth 100000 in
theorem id4 : scan (mCd 4).data.toList 0 il4 = true := by decide +kernel
theorem mm4 : mKd 4 = 1 ∧ mAr 4 = 0 ∧ mMx 4 = 1 := by decide +kernel
theorem mo4 : mOw 4 = 0 := by decide +kernel
theorem mr4 : mRt 4 = some .boolean := by decide +kernel
theorem mh4 : mHn 4 = [] := by decide +kernel
def il5 : List (Nat × Instr) := [(0, .aload_n 0), (1, .getfield 21), (4, .aload_n 0), (5, .getfield 18), (8, .imul), (9, .ireturn)]
set_option maxRecDepth 100000 in
theorem id5 : scan (mCd 5).data.toList 0 il5 = true := by decide +kernel
theorem mm5 : mKd 5 = 1 ∧ mAr 5 = 0 ∧ mMx 5 = 1 := by decide +kernel
theorem mo5 : mOw 5 = 0 := by decide +kernel
theorem mr5 : mRt 5 = some .int := by decide +kernel
theorem mh5 : mHn 5 = [] := by decide +kernel
def il6 : List (Nat × Instr) := [(0, .aload_n 0), (1, .invokevirtual 39), (4, .istore_n 2), (5, .iload_n 2), (6, .iload_n 2), (7, .iload_n 1), (8, .imul), (9, .bipush 100), (11, .idiv), (12, .isub), (13, .istore_n 3), (14, .aload_n 0), (15, .getfield 18), (18, .ifCond .le 8), (21, .iload_n 3), (22, .ineg), (23, .goto 4), (26, .iload_n 3), (27, .ireturn)]
set_option maxRecDepth 100000 in
theorem id6 : scan (mCd 6).data.toList 0 il6 = true := by decide +kernel
theorem mm6 : mKd 6 = 1 ∧ mAr 6 = 1 ∧ mMx 6 = 4 := by decide +kernel
theorem mo6 : mOw 6 = 0 := by decide +kernel
theorem mr6 : mRt 6 = some .int := by decide +kernel
theorem mh6 : mHn 6 = [] := by decide +kernel
def il7 : List (Nat × Instr) := [(0, .aload_n 0), (1, .getfield 21), (4, .istore_n 2), (5, .iload_n 2), (6, .iconst 1), (7, .if_icmp .le 34), (10, .aload_n 0), (11, .getfield 21), (14, .iload_n 2), (15, .irem), (16, .ifCond .ne 19), (19, .aload_n 1), (20, .getfield 21), (23, .iload_n 2), (24, .irem), (25, .ifCond .ne 10), (28, .aload_n 1), (29, .getfield 21), (32, .iload_n 2), (33, .idiv), (34, .ireturn), (35, .iinc 2 (-1)), (38, .goto (-33)), (41, .aload_n 1), (42, .getfield 21), (45, .ireturn)]
set_option maxRecDepth 100000 in
theorem id7 : scan (mCd 7).data.toList 0 il7 = true := by decide +kernel
theorem mm7 : mKd 7 = 1 ∧ mAr 7 = 1 ∧ mMx 7 = 3 := by decide +kernel
theorem mo7 : mOw 7 = 0 := by decide +kernel
theorem mr7 : mRt 7 = some .int := by decide +kernel
theorem mh7 : mHn 7 = [] := by decide +kernel
def il8 : List (Nat × Instr) := [(0, .aload_n 0), (1, .getfield 21), (4, .aload_n 0), (5, .getfield 18), (8, .imul), (9, .aload_n 0), (10, .getfield 18), (13, .imul), (14, .ireturn)]
set_option maxRecDepth 100000 in
theorem id8 : scan (mCd 8).data.toList 0 il8 = true := by decide +kernel
theorem mm8 : mKd 8 = 1 ∧ mAr 8 = 0 ∧ mMx 8 = 1 := by decide +kernel
theorem mo8 : mOw 8 = 0 := by decide +kernel
theorem mr8 : mRt 8 = some .int := by decide +kernel
theorem mh8 : mHn 8 = [] := by decide +kernel
def il9 : List (Nat × Instr) := [(0, .aload_n 0), (1, .invokespecial 3), (4, .return_)]
set_option maxRecDepth 100000 in
theorem id9 : scan (mCd 9).data.toList 0 il9 = true := by decide +kernel
theorem mm9 : mKd 9 = 2 ∧ mAr 9 = 0 ∧ mMx 9 = 1 := by decide +kernel
theorem mo9 : mOw 9 = 0 := by decide +kernel
theorem mr9 : mRt 9 = none := by decide +kernel
theorem mh9 : mHn 9 = [] := by decide +kernel
def il10 : List (Nat × Instr) := [(0, .aload_n 0), (1, .invokespecial 1), (4, .return_)]
set_option maxRecDepth 100000 in
theorem id10 : scan (mCd 10).data.toList 0 il10 = true := by decide +kernel
theorem mm10 : mKd 10 = 2 ∧ mAr 10 = 0 ∧ mMx 10 = 1 := by decide +kernel
theorem mo10 : mOw 10 = 1 := by decide +kernel
theorem mr10 : mRt 10 = none := by decide +kernel
theorem mh10 : mHn 10 = [] := by decide +kernel
def il11 : List (Nat × Instr) := [(0, .aload_n 0), (1, .iload_n 1), (2, .putfield 7), (5, .aload_n 0), (6, .iload_n 2), (7, .putfield 13), (10, .aload_n 0), (11, .iconst 0), (12, .putfield 16), (15, .return_)]
set_option maxRecDepth 100000 in
theorem id11 : scan (mCd 11).data.toList 0 il11 = true := by decide +kernel
theorem mm11 : mKd 11 = 1 ∧ mAr 11 = 2 ∧ mMx 11 = 3 := by decide +kernel
theorem mo11 : mOw 11 = 1 := by decide +kernel
theorem mr11 : mRt 11 = none := by decide +kernel
theorem mh11 : mHn 11 = [] := by decide +kernel
def il12 : List (Nat × Instr) := [(0, .aload_n 0), (1, .aload_n 1), (2, .getfield 7), (5, .putfield 7), (8, .aload_n 0), (9, .aload_n 1), (10, .getfield 13), (13, .putfield 13), (16, .aload_n 0), (17, .aload_n 1), (18, .getfield 16), (21, .putfield 16), (24, .return_)]
set_option maxRecDepth 100000 in
theorem id12 : scan (mCd 12).data.toList 0 il12 = true := by decide +kernel
theorem mm12 : mKd 12 = 1 ∧ mAr 12 = 1 ∧ mMx 12 = 2 := by decide +kernel
theorem mo12 : mOw 12 = 1 := by decide +kernel
theorem mr12 : mRt 12 = none := by decide +kernel
theorem mh12 : mHn 12 = [] := by decide +kernel
def il13 : List (Nat × Instr) := [(0, .aload_n 0), (1, .invokespecial 3), (4, .aload_n 0), (5, .bipush 100), (7, .newarray .int), (9, .putfield 9), (12, .return_)]
set_option maxRecDepth 100000 in
theorem id13 : scan (mCd 13).data.toList 0 il13 = true := by decide +kernel
theorem mm13 : mKd 13 = 2 ∧ mAr 13 = 0 ∧ mMx 13 = 1 := by decide +kernel
theorem mo13 : mOw 13 = 2 := by decide +kernel
theorem mr13 : mRt 13 = none := by decide +kernel
theorem mh13 : mHn 13 = [] := by decide +kernel
def il14 : List (Nat × Instr) := [(0, .iconst 0), (1, .istore_n 1), (2, .iload_n 1), (3, .aload_n 0), (4, .getfield 9), (7, .arraylength), (8, .if_icmp .ge 16), (11, .aload_n 0), (12, .getfield 9), (15, .iload_n 1), (16, .iconst 0), (17, .iastore), (18, .iinc 1 1), (21, .goto (-19)), (24, .aload_n 0), (25, .lconst 0), (26, .putfield 15), (29, .aload_n 0), (30, .lconst 0), (31, .putfield 19), (34, .aload_n 0), (35, .lconst 0), (36, .putfield 22), (39, .aload_n 0), (40, .iconst 0), (41, .putfield 25), (44, .aload_n 0), (45, .iconst 0), (46, .putfield 29), (49, .aload_n 0), (50, .iconst 0), (51, .putfield 32), (54, .aload_n 0), (55, .iconst 0), (56, .putfield 35), (59, .return_)]
set_option maxRecDepth 100000 in
theorem id14 : scan (mCd 14).data.toList 0 il14 = true := by decide +kernel
theorem mm14 : mKd 14 = 1 ∧ mAr 14 = 0 ∧ mMx 14 = 2 := by decide +kernel
theorem mo14 : mOw 14 = 2 := by decide +kernel
theorem mr14 : mRt 14 = none := by decide +kernel
theorem mh14 : mHn 14 = [] := by decide +kernel
def il15 : List (Nat × Instr) := [(0, .aload_n 1), (1, .getfield 9), (4, .iconst 0), (5, .aload_n 0), (6, .getfield 9), (9, .iconst 0), (10, .aload_n 0), (11, .getfield 9), (14, .arraylength), (15, .invokestatic 38), (18, .aload_n 0), (19, .aload_n 1), (20, .getfield 15), (23, .putfield 15), (26, .aload_n 0), (27, .aload_n 1), (28, .getfield 19), (31, .putfield 19), (34, .aload_n 0), (35, .aload_n 1), (36, .getfield 22), (39, .putfield 22), (42, .aload_n 0), (43, .aload_n 1), (44, .getfield 25), (47, .putfield 25), (50, .aload_n 0), (51, .aload_n 1), (52, .getfield 29), (55, .putfield 29), (58, .aload_n 0), (59, .aload_n 1), (60, .getfield 32), (63, .putfield 32), (66, .aload_n 0), (67, .aload_n 1), (68, .getfield 35), (71, .putfield 35), (74, .return_)]
set_option maxRecDepth 100000 in
theorem id15 : scan (mCd 15).data.toList 0 il15 = true := by decide +kernel
theorem mm15 : mKd 15 = 1 ∧ mAr 15 = 1 ∧ mMx 15 = 2 := by decide +kernel
theorem mo15 : mOw 15 = 2 := by decide +kernel
theorem mr15 : mRt 15 = none := by decide +kernel
theorem mh15 : mHn 15 = [] := by decide +kernel
def il16 : List (Nat × Instr) := [(0, .aload_n 0), (1, .dup), (2, .getfield 25), (5, .iconst 1), (6, .iadd), (7, .putfield 25), (10, .aload_n 0), (11, .getfield 9), (14, .iload_n 1), (15, .bipush 10), (17, .imul), (18, .iload_n 2), (19, .iadd), (20, .dup2), (21, .iaload), (22, .iconst 1), (23, .iadd), (24, .iastore), (25, .aload_n 0), (26, .getfield 9), (29, .iload_n 2), (30, .bipush 10), (32, .imul), (33, .iload_n 1), (34, .iadd), (35, .dup2), (36, .iaload), (37, .iconst 1), (38, .iadd), (39, .iastore), (40, .return_)]
set_option maxRecDepth 100000 in
theorem id16 : scan (mCd 16).data.toList 0 il16 = true := by decide +kernel
theorem mm16 : mKd 16 = 1 ∧ mAr 16 = 2 ∧ mMx 16 = 3 := by decide +kernel
theorem mo16 : mOw 16 = 2 := by decide +kernel
theorem mr16 : mRt 16 = none := by decide +kernel
theorem mh16 : mHn 16 = [] := by decide +kernel
def il17 : List (Nat × Instr) := [(0, .aload_n 0), (1, .getfield 9), (4, .iload_n 1), (5, .bipush 10), (7, .imul), (8, .iload_n 2), (9, .iadd), (10, .iaload), (11, .ireturn)]
set_option maxRecDepth 100000 in
theorem id17 : scan (mCd 17).data.toList 0 il17 = true := by decide +kernel
theorem mm17 : mKd 17 = 1 ∧ mAr 17 = 2 ∧ mMx 17 = 3 := by decide +kernel
theorem mo17 : mOw 17 = 2 := by decide +kernel
theorem mr17 : mRt 17 = some .int := by decide +kernel
theorem mh17 : mHn 17 = [] := by decide +kernel
def il18 : List (Nat × Instr) := [(0, .iconst 0), (1, .istore_n 2), (2, .iload_n 2), (3, .bipush 10), (5, .if_icmp .ge 62), (8, .iconst 0), (9, .istore_n 3), (10, .iload_n 3), (11, .bipush 10), (13, .if_icmp .ge 48), (16, .aload_n 0), (17, .getfield 9), (20, .iload_n 2), (21, .bipush 10), (23, .imul), (24, .iload_n 3), (25, .iadd), (26, .aload_n 0), (27, .iload_n 2), (28, .iload_n 1), (29, .if_icmp .ge 7), (32, .iload_n 2), (33, .goto 6), (36, .iload_n 2), (37, .iconst 1), (38, .iadd), (39, .iload_n 3), (40, .iload_n 1), (41, .if_icmp .ge 7), (44, .iload_n 3), (45, .goto 6), (48, .iload_n 3), (49, .iconst 1), (50, .iadd), (51, .invokevirtual 44), (54, .iastore), (55, .iinc 3 1), (58, .goto (-48)), (61, .iinc 2 1), (64, .goto (-62)), (67, .return_)]
set_option maxRecDepth 100000 in
theorem id18 : scan (mCd 18).data.toList 0 il18 = true := by decide +kernel
theorem mm18 : mKd 18 = 1 ∧ mAr 18 = 1 ∧ mMx 18 = 4 := by decide +kernel
theorem mo18 : mOw 18 = 2 := by decide +kernel
theorem mr18 : mRt 18 = none := by decide +kernel
theorem mh18 : mHn 18 = [] := by decide +kernel
def il19 : List (Nat × Instr) := [(0, .iload_n 1), (1, .bipush 10), (3, .if_icmp .ge 18), (6, .iload_n 2), (7, .bipush 10), (9, .if_icmp .ge 12), (12, .aload_n 0), (13, .iload_n 1), (14, .iload_n 2), (15, .invokevirtual 48), (18, .goto 4), (21, .iconst 0), (22, .ireturn)]
set_option maxRecDepth 100000 in
theorem id19 : scan (mCd 19).data.toList 0 il19 = true := by decide +kernel
theorem mm19 : mKd 19 = 1 ∧ mAr 19 = 2 ∧ mMx 19 = 3 := by decide +kernel
theorem mo19 : mOw 19 = 2 := by decide +kernel
theorem mr19 : mRt 19 = some .int := by decide +kernel
theorem mh19 : mHn 19 = [] := by decide +kernel
def il20 : List (Nat × Instr) := [(0, .aload_n 0), (1, .invokespecial 3), (4, .aload_n 0), (5, .bipush 6), (7, .anewarray 9), (10, .putfield 11), (13, .iconst 0), (14, .istore_n 1), (15, .iload_n 1), (16, .bipush 6), (18, .if_icmp .ge 22), (21, .aload_n 0), (22, .getfield 11), (25, .iload_n 1), (26, .new 9), (29, .dup), (30, .invokespecial 17), (33, .aastore), (34, .iinc 1 1), (37, .goto (-22)), (40, .return_)]
set_option maxRecDepth 100000 in
theorem id20 : scan (mCd 20).data.toList 0 il20 = true := by decide +kernel
theorem mm20 : mKd 20 = 2 ∧ mAr 20 = 0 ∧ mMx 20 = 2 := by decide +kernel
theorem mo20 : mOw 20 = 3 := by decide +kernel
theorem mr20 : mRt 20 = none := by decide +kernel
theorem mh20 : mHn 20 = [] := by decide +kernel
def il21 : List (Nat × Instr) := [(0, .aload_n 0), (1, .getfield 11), (4, .aload_n 0), (5, .getfield 18), (8, .aload_n 0), (9, .getfield 22), (12, .iadd), (13, .bipush 6), (15, .irem), (16, .aaload), (17, .aload_n 1), (18, .invokevirtual 25), (21, .aload_n 0), (22, .getfield 22), (25, .bipush 6), (27, .if_icmp .ge 16), (30, .aload_n 0), (31, .dup), (32, .getfield 22), (35, .iconst 1), (36, .iadd), (37, .putfield 22), (40, .goto 16), (43, .aload_n 0), (44, .aload_n 0), (45, .getfield 18), (48, .iconst 1), (49, .iadd), (50, .bipush 6), (52, .irem), (53, .putfield 18), (56, .return_)]
set_option maxRecDepth 100000 in
theorem id21 : scan (mCd 21).data.toList 0 il21 = true := by decide +kernel
theorem mm21 : mKd 21 = 1 ∧ mAr 21 = 1 ∧ mMx 21 = 2 := by decide +kernel
theorem mo21 : mOw 21 = 3 := by decide +kernel
theorem mr21 : mRt 21 = none := by decide +kernel
theorem mh21 : mHn 21 = [] := by decide +kernel
def il22 : List (Nat × Instr) := [(0, .aload_n 0), (1, .invokespecial 3), (4, .return_)]
set_option maxRecDepth 100000 in
theorem id22 : scan (mCd 22).data.toList 0 il22 = true := by decide +kernel
theorem mm22 : mKd 22 = 2 ∧ mAr 22 = 0 ∧ mMx 22 = 1 := by decide +kernel
theorem mo22 : mOw 22 = 0 := by decide +kernel
theorem mr22 : mRt 22 = none := by decide +kernel
theorem mh22 : mHn 22 = [] := by decide +kernel
def il23 : List (Nat × Instr) := [(0, .aload_n 0), (1, .invokespecial 3), (4, .aload_n 0), (5, .bipush 10), (7, .anewarray 9), (10, .putfield 11), (13, .aload_n 0), (14, .bipush 10), (16, .newarray .int), (18, .putfield 17), (21, .aload_n 0), (22, .iconst 4), (23, .anewarray 21), (26, .putfield 23), (29, .aload_n 0), (30, .new 21), (33, .dup), (34, .invokespecial 27), (37, .putfield 28), (40, .aload_n 0), (41, .new 21), (44, .dup), (45, .invokespecial 27), (48, .putfield 32), (51, .aload_n 0), (52, .new 35), (55, .dup), (56, .invokespecial 37), (59, .putfield 38), (62, .aload_n 0), (63, .new 42), (66, .dup), (67, .invokespecial 44), (70, .putfield 45), (73, .iconst 0), (74, .istore_n 1), (75, .iload_n 1), (76, .bipush 10), (78, .if_icmp .ge 22), (81, .aload_n 0), (82, .getfield 11), (85, .iload_n 1), (86, .new 9), (89, .dup), (90, .invokespecial 49), (93, .aastore), (94, .iinc 1 1), (97, .goto (-22)), (100, .iconst 0), (101, .istore_n 1), (102, .iload_n 1), (103, .iconst 4), (104, .if_icmp .ge 22), (107, .aload_n 0), (108, .getfield 23), (111, .iload_n 1), (112, .new 21), (115, .dup), (116, .invokespecial 27), (119, .aastore), (120, .iinc 1 1), (123, .goto (-21)), (126, .aload_n 0), (127, .bipush 10), (129, .iconst 0), (130, .iconst 0), (131, .invokevirtual 50), (134, .return_)]
set_option maxRecDepth 100000 in
theorem id23 : scan (mCd 23).data.toList 0 il23 = true := by decide +kernel
theorem mm23 : mKd 23 = 2 ∧ mAr 23 = 0 ∧ mMx 23 = 2 := by decide +kernel
theorem mo23 : mOw 23 = 4 := by decide +kernel
theorem mr23 : mRt 23 = none := by decide +kernel
theorem mh23 : mHn 23 = [] := by decide +kernel
def il24 : List (Nat × Instr) := [(0, .aload_n 0), (1, .iload_n 1), (2, .putfield 54), (5, .aload_n 0), (6, .iconst 0), (7, .putfield 58), (10, .aload_n 0), (11, .iconst 0), (12, .putfield 61), (15, .aload_n 0), (16, .iconst 0), (17, .putfield 64), (20, .aload_n 0), (21, .getfield 28), (24, .iconst (-1)), (25, .iload_n 2), (26, .invokevirtual 67), (29, .aload_n 0), (30, .getfield 32), (33, .iload_n 1), (34, .iload_n 3), (35, .invokevirtual 67), (38, .aload_n 0), (39, .getfield 38), (42, .invokevirtual 71), (45, .aload_n 0), (46, .getfield 45), (49, .invokevirtual 73), (52, .return_)]
set_option maxRecDepth 100000 in
theorem id24 : scan (mCd 24).data.toList 0 il24 = true := by decide +kernel
theorem mm24 : mKd 24 = 1 ∧ mAr 24 = 3 ∧ mMx 24 = 4 := by decide +kernel
theorem mo24 : mOw 24 = 4 := by decide +kernel
theorem mr24 : mRt 24 = none := by decide +kernel
theorem mh24 : mHn 24 = [] := by decide +kernel
def il25 : List (Nat × Instr) := [(0, .aload_n 0), (1, .iload_n 1), (2, .invokevirtual 94), (5, .ifnonnull 12), (8, .aload_n 0), (9, .iload_n 1), (10, .invokevirtual 98), (13, .iconst (-1)), (14, .if_icmp .eq 7), (17, .iconst 1), (18, .goto 4), (21, .iconst 0), (22, .ireturn)]
set_option maxRecDepth 100000 in
theorem id25 : scan (mCd 25).data.toList 0 il25 = true := by decide +kernel
theorem mm25 : mKd 25 = 1 ∧ mAr 25 = 1 ∧ mMx 25 = 2 := by decide +kernel
theorem mo25 : mOw 25 = 4 := by decide +kernel
theorem mr25 : mRt 25 = some .boolean := by decide +kernel
theorem mh25 : mHn 25 = [] := by decide +kernel
def il26 : List (Nat × Instr) := [(0, .iload_n 1), (1, .ifCond .ge 8), (4, .aload_n 0), (5, .getfield 28), (8, .areturn), (9, .iload_n 1), (10, .aload_n 0), (11, .getfield 54), (14, .if_icmp .lt 8), (17, .aload_n 0), (18, .getfield 32), (21, .areturn), (22, .iconst 0), (23, .istore_n 2), (24, .iload_n 2), (25, .aload_n 0), (26, .getfield 64), (29, .if_icmp .ge 29), (32, .aload_n 0), (33, .getfield 23), (36, .iload_n 2), (37, .aaload), (38, .getfield 93), (41, .iload_n 1), (42, .if_icmp .ne 10), (45, .aload_n 0), (46, .getfield 23), (49, .iload_n 2), (50, .aaload), (51, .areturn), (52, .iinc 2 1), (55, .goto (-31)), (58, .aconst_null), (59, .areturn)]
set_option maxRecDepth 100000 in
theorem id26 : scan (mCd 26).data.toList 0 il26 = true := by decide +kernel
theorem mm26 : mKd 26 = 1 ∧ mAr 26 = 1 ∧ mMx 26 = 3 := by decide +kernel
theorem mo26 : mOw 26 = 4 := by decide +kernel
theorem mr26 : mRt 26 = some (.object "LineBalls$Barrier") := by decide +kernel
theorem mh26 : mHn 26 = [] := by decide +kernel
def il27 : List (Nat × Instr) := [(0, .iconst 0), (1, .istore_n 2), (2, .iload_n 2), (3, .aload_n 0), (4, .getfield 61), (7, .if_icmp .ge 24), (10, .aload_n 0), (11, .getfield 11), (14, .iload_n 2), (15, .aaload), (16, .getfield 87), (19, .iload_n 1), (20, .if_icmp .ne 5), (23, .iload_n 2), (24, .ireturn), (25, .iinc 2 1), (28, .goto (-26)), (31, .iconst (-1)), (32, .ireturn)]
set_option maxRecDepth 100000 in
theorem id27 : scan (mCd 27).data.toList 0 il27 = true := by decide +kernel
theorem mm27 : mKd 27 = 1 ∧ mAr 27 = 1 ∧ mMx 27 = 3 := by decide +kernel
theorem mo27 : mOw 27 = 4 := by decide +kernel
theorem mr27 : mRt 27 = some .int := by decide +kernel
theorem mh27 : mHn 27 = [] := by decide +kernel
def il28 : List (Nat × Instr) := [(0, .aload_n 0), (1, .getfield 64), (4, .iconst 4), (5, .if_icmp .ge 27), (8, .aload_n 0), (9, .getfield 23), (12, .aload_n 0), (13, .getfield 64), (16, .aaload), (17, .iload_n 1), (18, .iload_n 2), (19, .invokevirtual 67), (22, .aload_n 0), (23, .dup), (24, .getfield 64), (27, .iconst 1), (28, .iadd), (29, .putfield 64), (32, .return_)]
set_option maxRecDepth 100000 in
theorem id28 : scan (mCd 28).data.toList 0 il28 = true := by decide +kernel
theorem mm28 : mKd 28 = 1 ∧ mAr 28 = 2 ∧ mMx 28 = 3 := by decide +kernel
theorem mo28 : mOw 28 = 4 := by decide +kernel
theorem mr28 : mRt 28 = none := by decide +kernel
theorem mh28 : mHn 28 = [] := by decide +kernel
def il29 : List (Nat × Instr) := [(0, .iconst 0), (1, .istore_n 2), (2, .iload_n 2), (3, .aload_n 0), (4, .getfield 61), (7, .if_icmp .ge 28), (10, .iload_n 1), (11, .ifCond .eq 24), (14, .aload_n 0), (15, .getfield 11), (18, .iload_n 2), (19, .aaload), (20, .getfield 90), (23, .iload_n 1), (24, .if_icmp .ne 5), (27, .iload_n 2), (28, .ireturn), (29, .iinc 2 1), (32, .goto (-30)), (35, .iconst (-1)), (36, .ireturn)]
set_option maxRecDepth 100000 in
theorem id29 : scan (mCd 29).data.toList 0 il29 = true := by decide +kernel
theorem mm29 : mKd 29 = 1 ∧ mAr 29 = 1 ∧ mMx 29 = 3 := by decide +kernel
theorem mo29 : mOw 29 = 4 := by decide +kernel
theorem mr29 : mRt 29 = some .int := by decide +kernel
theorem mh29 : mHn 29 = [] := by decide +kernel
def il30 : List (Nat × Instr) := [(0, .aload_n 0), (1, .getfield 61), (4, .bipush 10), (6, .if_icmp .ge 34), (9, .aload_n 0), (10, .getfield 11), (13, .aload_n 0), (14, .getfield 61), (17, .aaload), (18, .iload_n 1), (19, .iload_n 2), (20, .iload_n 3), (21, .iload 4), (23, .invokevirtual 124), (26, .aload_n 0), (27, .dup), (28, .getfield 61), (31, .iconst 1), (32, .iadd), (33, .putfield 61), (36, .aload_n 0), (37, .invokevirtual 127), (40, .return_)]
set_option maxRecDepth 100000 in
theorem id30 : scan (mCd 30).data.toList 0 il30 = true := by decide +kernel
theorem mm30 : mKd 30 = 1 ∧ mAr 30 = 4 ∧ mMx 30 = 5 := by decide +kernel
theorem mo30 : mOw 30 = 4 := by decide +kernel
theorem mr30 : mRt 30 = none := by decide +kernel
theorem mh30 : mHn 30 = [] := by decide +kernel
def il31 : List (Nat × Instr) := [(0, .iconst 0), (1, .istore_n 1), (2, .iload_n 1), (3, .aload_n 0), (4, .getfield 61), (7, .if_icmp .ge 70), (10, .iload_n 1), (11, .istore_n 2), (12, .iload_n 2), (13, .ifCond .le 51), (16, .aload_n 0), (17, .getfield 11), (20, .aload_n 0), (21, .getfield 17), (24, .iload_n 2), (25, .iconst 1), (26, .isub), (27, .iaload), (28, .aaload), (29, .getfield 87), (32, .aload_n 0), (33, .getfield 11), (36, .iload_n 1), (37, .aaload), (38, .getfield 87), (41, .if_icmp .le 23), (44, .aload_n 0), (45, .getfield 17), (48, .iload_n 2), (49, .aload_n 0), (50, .getfield 17), (53, .iload_n 2), (54, .iconst 1), (55, .isub), (56, .iaload), (57, .iastore), (58, .iinc 2 (-1)), (61, .goto (-49)), (64, .aload_n 0), (65, .getfield 17), (68, .iload_n 2), (69, .iload_n 1), (70, .iastore), (71, .iinc 1 1), (74, .goto (-72)), (77, .return_)]
set_option maxRecDepth 100000 in
theorem id31 : scan (mCd 31).data.toList 0 il31 = true := by decide +kernel
theorem mm31 : mKd 31 = 1 ∧ mAr 31 = 0 ∧ mMx 31 = 3 := by decide +kernel
theorem mo31 : mOw 31 = 4 := by decide +kernel
theorem mr31 : mRt 31 = none := by decide +kernel
theorem mh31 : mHn 31 = [] := by decide +kernel
def il32 : List (Nat × Instr) := [(0, .aload_n 0), (1, .aload_n 1), (2, .getfield 54), (5, .putfield 54), (8, .aload_n 0), (9, .aload_n 1), (10, .getfield 58), (13, .putfield 58), (16, .aload_n 0), (17, .aload_n 1), (18, .getfield 61), (21, .putfield 61), (24, .iconst 0), (25, .istore_n 2), (26, .iload_n 2), (27, .bipush 10), (29, .if_icmp .ge 36), (32, .aload_n 0), (33, .getfield 11), (36, .iload_n 2), (37, .aaload), (38, .aload_n 1), (39, .getfield 11), (42, .iload_n 2), (43, .aaload), (44, .invokevirtual 74), (47, .aload_n 0), (48, .getfield 17), (51, .iload_n 2), (52, .aload_n 1), (53, .getfield 17), (56, .iload_n 2), (57, .iaload), (58, .iastore), (59, .iinc 2 1), (62, .goto (-36)), (65, .aload_n 0), (66, .aload_n 1), (67, .getfield 64), (70, .putfield 64), (73, .iconst 0), (74, .istore_n 2), (75, .iload_n 2), (76, .iconst 4), (77, .if_icmp .ge 24), (80, .aload_n 0), (81, .getfield 23), (84, .iload_n 2), (85, .aaload), (86, .aload_n 1), (87, .getfield 23), (90, .iload_n 2), (91, .aaload), (92, .invokevirtual 78), (95, .iinc 2 1), (98, .goto (-23)), (101, .aload_n 0), (102, .getfield 28), (105, .aload_n 1), (106, .getfield 28), (109, .invokevirtual 78), (112, .aload_n 0), (113, .getfield 32), (116, .aload_n 1), (117, .getfield 32), (120, .invokevirtual 78), (123, .aload_n 0), (124, .getfield 38), (127, .aload_n 1), (128, .getfield 38), (131, .invokevirtual 81), (134, .aload_n 0), (135, .getfield 45), (138, .aload_n 1), (139, .getfield 45), (142, .invokevirtual 84), (145, .return_)]
set_option maxRecDepth 100000 in
theorem id32 : scan (mCd 32).data.toList 0 il32 = true := by decide +kernel
theorem mm32 : mKd 32 = 1 ∧ mAr 32 = 1 ∧ mMx 32 = 3 := by decide +kernel
theorem mo32 : mOw 32 = 4 := by decide +kernel
theorem mr32 : mRt 32 = none := by decide +kernel
theorem mh32 : mHn 32 = [] := by decide +kernel
def il33 : List (Nat × Instr) := [(0, .aload_n 0), (1, .getfield 45), (4, .getfield 135), (7, .istore_n 2), (8, .iconst 0), (9, .istore_n 3), (10, .iload_n 3), (11, .iload_n 1), (12, .if_icmp .ge 77), (15, .aload_n 0), (16, .invokevirtual 138), (19, .ifCond .eq 54), (22, .iconst 0), (23, .istore 4), (25, .iload 4), (27, .aload_n 0), (28, .getfield 61), (31, .if_icmp .ge 16), (34, .aload_n 0), (35, .iload 4), (37, .iconst (-1)), (38, .invokevirtual 142), (41, .iinc 4 1), (44, .goto (-19)), (47, .aload_n 0), (48, .getfield 61), (51, .iconst 1), (52, .isub), (53, .istore 4), (55, .iload 4), (57, .ifCond .lt 16), (60, .aload_n 0), (61, .iload 4), (63, .iconst 1), (64, .invokevirtual 142), (67, .iinc 4 (-1)), (70, .goto (-15)), (73, .aload_n 0), (74, .dup), (75, .getfield 58), (78, .iconst 1), (79, .iadd), (80, .putfield 58), (83, .iinc 3 1), (86, .goto (-76)), (89, .aload_n 0), (90, .getfield 45), (93, .getfield 135), (96, .iload_n 2), (97, .isub), (98, .ireturn)]
set_option maxRecDepth 100000 in
theorem id33 : scan (mCd 33).data.toList 0 il33 = true := by decide +kernel
theorem mm33 : mKd 33 = 1 ∧ mAr 33 = 1 ∧ mMx 33 = 5 := by decide +kernel
theorem mo33 : mOw 33 = 4 := by decide +kernel
theorem mr33 : mRt 33 = some .int := by decide +kernel
theorem mh33 : mHn 33 = [] := by decide +kernel
def il34 : List (Nat × Instr) := [(0, .iconst 0), (1, .istore_n 1), (2, .iconst 0), (3, .istore_n 2), (4, .iload_n 2), (5, .aload_n 0), (6, .getfield 61), (9, .if_icmp .ge 23), (12, .aload_n 0), (13, .getfield 11), (16, .iload_n 2), (17, .aaload), (18, .invokevirtual 145), (21, .ifCond .eq 5), (24, .iconst 1), (25, .istore_n 1), (26, .iinc 2 1), (29, .goto (-25)), (32, .iload_n 1), (33, .ireturn)]
set_option maxRecDepth 100000 in
theorem id34 : scan (mCd 34).data.toList 0 il34 = true := by decide +kernel
theorem mm34 : mKd 34 = 1 ∧ mAr 34 = 0 ∧ mMx 34 = 3 := by decide +kernel
theorem mo34 : mOw 34 = 4 := by decide +kernel
theorem mr34 : mRt 34 = some .boolean := by decide +kernel
theorem mh34 : mHn 34 = [] := by decide +kernel
def il35 : List (Nat × Instr) := [(0, .aload_n 0), (1, .getfield 17), (4, .iload_n 1), (5, .iaload), (6, .istore_n 3), (7, .aload_n 0), (8, .getfield 11), (11, .iload_n 3), (12, .aaload), (13, .astore 4), (15, .aload 4), (17, .getfield 148), (20, .iload_n 2), (21, .if_icmp .ne 11), (24, .aload 4), (26, .getfield 151), (29, .ifCond .eq 4), (32, .return_), (33, .aload 4), (35, .getfield 87), (38, .iload_n 2), (39, .iadd), (40, .istore 5), (42, .aload_n 0), (43, .iload 5), (45, .invokevirtual 94), (48, .astore 6), (50, .aload 6), (52, .ifnull 11), (55, .aload_n 0), (56, .iload_n 3), (57, .aload 6), (59, .invokevirtual 155), (62, .return_), (63, .iload_n 1), (64, .iload_n 2), (65, .iadd), (66, .istore 7), (68, .iload 7), (70, .ifCond .lt 46), (73, .iload 7), (75, .aload_n 0), (76, .getfield 61), (79, .if_icmp .ge 37), (82, .aload_n 0), (83, .getfield 11), (86, .aload_n 0), (87, .getfield 17), (90, .iload 7), (92, .iaload), (93, .aaload), (94, .getfield 87), (97, .iload 5), (99, .if_icmp .ne 17), (102, .aload_n 0), (103, .iload_n 3), (104, .aload_n 0), (105, .getfield 17), (108, .iload 7), (110, .iaload), (111, .iload_n 2), (112, .invokevirtual 159), (115, .return_), (116, .aload 4), (118, .iload 5), (120, .putfield 87), (123, .aload 4), (125, .dup), (126, .getfield 162), (129, .iconst 1), (130, .iadd), (131, .putfield 162), (134, .aload_n 0), (135, .getfield 45), (138, .dup), (139, .getfield 165), (142, .iconst 1), (143, .iadd), (144, .putfield 165), (147, .return_)]
set_option maxRecDepth 100000 in
theorem id35 : scan (mCd 35).data.toList 0 il35 = true := by decide +kernel
theorem mm35 : mKd 35 = 1 ∧ mAr 35 = 2 ∧ mMx 35 = 8 := by decide +kernel
theorem mo35 : mOw 35 = 4 := by decide +kernel
theorem mr35 : mRt 35 = none := by decide +kernel
theorem mh35 : mHn 35 = [] := by decide +kernel
def il36 : List (Nat × Instr) := [(0, .aload_n 0), (1, .getfield 11), (4, .iload_n 1), (5, .aaload), (6, .astore_n 3), (7, .aload_n 3), (8, .invokevirtual 166), (11, .istore 4), (13, .aload_n 3), (14, .invokevirtual 112), (17, .istore 5), (19, .aload_n 3), (20, .aload_n 3), (21, .aload_n 2), (22, .getfield 169), (25, .invokevirtual 172), (28, .putfield 106), (31, .aload_n 3), (32, .dup), (33, .getfield 175), (36, .iconst 1), (37, .iadd), (38, .putfield 175), (41, .aload_n 2), (42, .dup), (43, .getfield 178), (46, .iconst 1), (47, .iadd), (48, .putfield 178), (51, .aload_n 0), (52, .getfield 45), (55, .dup), (56, .getfield 179), (59, .iconst 1), (60, .iadd), (61, .putfield 179), (64, .aload_n 0), (65, .getfield 45), (68, .dup), (69, .getfield 180), (72, .iload 5), (74, .aload_n 3), (75, .invokevirtual 112), (78, .isub), (79, .i2l), (80, .ladd), (81, .putfield 180), (84, .aload_n 0), (85, .getfield 38), (88, .aload_n 0), (89, .getfield 58), (92, .iload_n 1), (93, .iconst (-1)), (94, .iload 4), (96, .aload_n 3), (97, .invokevirtual 166), (100, .isub), (101, .invokevirtual 183), (104, .return_)]
set_option maxRecDepth 100000 in
theorem id36 : scan (mCd 36).data.toList 0 il36 = true := by decide +kernel
theorem mm36 : mKd 36 = 1 ∧ mAr 36 = 2 ∧ mMx 36 = 6 := by decide +kernel
theorem mo36 : mOw 36 = 4 := by decide +kernel
theorem mr36 : mRt 36 = none := by decide +kernel
theorem mh36 : mHn 36 = [] := by decide +kernel
def il37 : List (Nat × Instr) := [(0, .aload_n 0), (1, .getfield 11), (4, .iload_n 3), (5, .ifCond .le 7), (8, .iload_n 1), (9, .goto 4), (12, .iload_n 2), (13, .aaload), (14, .astore 4), (16, .aload_n 0), (17, .getfield 11), (20, .iload_n 3), (21, .ifCond .le 7), (24, .iload_n 2), (25, .goto 4), (28, .iload_n 1), (29, .aaload), (30, .astore 5), (32, .aload 4), (34, .aload 5), (36, .invokestatic 186), (39, .istore 6), (41, .iload 6), (43, .iconst (-1)), (44, .if_icmp .ne 32), (47, .aload_n 0), (48, .getfield 11), (51, .iload_n 1), (52, .aaload), (53, .dup), (54, .getfield 190), (57, .iconst 1), (58, .iadd), (59, .putfield 190), (62, .aload_n 0), (63, .getfield 45), (66, .dup), (67, .getfield 193), (70, .iconst 1), (71, .iadd), (72, .putfield 193), (75, .return_), (76, .aload 5), (78, .invokevirtual 112), (81, .istore 7), (83, .aload 4), (85, .dup), (86, .getfield 106), (89, .iload 6), (91, .aload 4), (93, .aload 5), (95, .invokevirtual 194), (98, .imul), (99, .isub), (100, .putfield 106), (103, .aload 5), (105, .dup), (106, .getfield 106), (109, .iload 6), (111, .aload 5), (113, .aload 4), (115, .invokevirtual 194), (118, .imul), (119, .iadd), (120, .putfield 106), (123, .aload_n 0), (124, .getfield 45), (127, .dup), (128, .getfield 198), (131, .aload 5), (133, .invokevirtual 112), (136, .iload 7), (138, .isub), (139, .i2l), (140, .ladd), (141, .putfield 198), (144, .aload 4), (146, .dup), (147, .getfield 201), (150, .iconst 1), (151, .iadd), (152, .putfield 201), (155, .aload 5), (157, .dup), (158, .getfield 201), (161, .iconst 1), (162, .iadd), (163, .putfield 201), (166, .aload 4), (168, .iconst 1), (169, .putfield 151), (172, .aload 5), (174, .iconst 1), (175, .putfield 151), (178, .aload_n 0), (179, .getfield 45), (182, .iload_n 1), (183, .iload_n 2), (184, .invokevirtual 202), (187, .aload_n 0), (188, .getfield 38), (191, .aload_n 0), (192, .getfield 58), (195, .iload_n 1), (196, .iload_n 2), (197, .iload 6), (199, .invokevirtual 183), (202, .return_)]
set_option maxRecDepth 100000 in
theorem id37 : scan (mCd 37).data.toList 0 il37 = true := by decide +kernel
theorem mm37 : mKd 37 = 1 ∧ mAr 37 = 3 ∧ mMx 37 = 8 := by decide +kernel
theorem mo37 : mOw 37 = 4 := by decide +kernel
theorem mr37 : mRt 37 = none := by decide +kernel
theorem mh37 : mHn 37 = [] := by decide +kernel
def il38 : List (Nat × Instr) := [(0, .aload_n 0), (1, .getfield 106), (4, .aload_n 1), (5, .getfield 106), (8, .isub), (9, .istore_n 2), (10, .iload_n 2), (11, .ifCond .gt 5), (14, .iconst (-1)), (15, .ireturn), (16, .aload_n 0), (17, .aload_n 1), (18, .invokevirtual 194), (21, .istore_n 3), (22, .aload_n 1), (23, .aload_n 0), (24, .invokevirtual 194), (27, .istore 4), (29, .iload_n 3), (30, .iload 4), (32, .iadd), (33, .istore 5), (35, .iload 5), (37, .ifCond .le 16), (40, .iconst 1), (41, .iconst 2), (42, .iload_n 2), (43, .imul), (44, .iload 5), (46, .idiv), (47, .invokestatic 205), (50, .goto 4), (53, .iconst 1), (54, .istore 6), (56, .iload 6), (58, .ifCond .le 38), (61, .aload_n 0), (62, .getfield 106), (65, .iload 6), (67, .iload_n 3), (68, .imul), (69, .isub), (70, .bipush (-60)), (72, .if_icmp .lt 18), (75, .aload_n 1), (76, .getfield 106), (79, .iload 6), (81, .iload 4), (83, .imul), (84, .iadd), (85, .bipush 60), (87, .if_icmp .le 9), (90, .iinc 6 (-1)), (93, .goto (-37)), (96, .iload 6), (98, .ireturn)]
set_option maxRecDepth 100000 in
theorem id38 : scan (mCd 38).data.toList 0 il38 = true := by decide +kernel
theorem mm38 : mKd 38 = 0 ∧ mAr 38 = 2 ∧ mMx 38 = 7 := by decide +kernel
theorem mo38 : mOw 38 = 4 := by decide +kernel
theorem mr38 : mRt 38 = some .int := by decide +kernel
theorem mh38 : mHn 38 = [] := by decide +kernel
def il39 : List (Nat × Instr) := [(0, .iconst 0), (1, .istore_n 1), (2, .iconst 0), (3, .istore_n 2), (4, .iload_n 2), (5, .aload_n 0), (6, .getfield 61), (9, .if_icmp .ge 24), (12, .aload_n 0), (13, .getfield 11), (16, .iload_n 2), (17, .aaload), (18, .getfield 106), (21, .ifCond .eq 6), (24, .iinc 1 1), (27, .iinc 2 1), (30, .goto (-26)), (33, .iload_n 1), (34, .ireturn)]
set_option maxRecDepth 100000 in
theorem id39 : scan (mCd 39).data.toList 0 il39 = true := by decide +kernel
theorem mm39 : mKd 39 = 1 ∧ mAr 39 = 0 ∧ mMx 39 = 3 := by decide +kernel
theorem mo39 : mOw 39 = 4 := by decide +kernel
theorem mr39 : mRt 39 = some .int := by decide +kernel
theorem mh39 : mHn 39 = [] := by decide +kernel
def il40 : List (Nat × Instr) := [(0, .iconst 0), (1, .istore_n 1), (2, .iconst 0), (3, .istore_n 2), (4, .iload_n 2), (5, .aload_n 0), (6, .getfield 61), (9, .if_icmp .ge 21), (12, .iload_n 1), (13, .aload_n 0), (14, .getfield 11), (17, .iload_n 2), (18, .aaload), (19, .getfield 109), (22, .iadd), (23, .istore_n 1), (24, .iinc 2 1), (27, .goto (-23)), (30, .iload_n 1), (31, .ireturn)]
set_option maxRecDepth 100000 in
theorem id40 : scan (mCd 40).data.toList 0 il40 = true := by decide +kernel
theorem mm40 : mKd 40 = 1 ∧ mAr 40 = 0 ∧ mMx 40 = 3 := by decide +kernel
theorem mo40 : mOw 40 = 4 := by decide +kernel
theorem mr40 : mRt 40 = some .int := by decide +kernel
theorem mh40 : mHn 40 = [] := by decide +kernel
def il41 : List (Nat × Instr) := [(0, .iconst 0), (1, .istore_n 1), (2, .iconst 0), (3, .istore_n 2), (4, .iload_n 2), (5, .aload_n 0), (6, .getfield 61), (9, .if_icmp .ge 21), (12, .iload_n 1), (13, .aload_n 0), (14, .getfield 11), (17, .iload_n 2), (18, .aaload), (19, .invokevirtual 112), (22, .iadd), (23, .istore_n 1), (24, .iinc 2 1), (27, .goto (-23)), (30, .iload_n 1), (31, .ireturn)]
set_option maxRecDepth 100000 in
theorem id41 : scan (mCd 41).data.toList 0 il41 = true := by decide +kernel
theorem mm41 : mKd 41 = 1 ∧ mAr 41 = 0 ∧ mMx 41 = 3 := by decide +kernel
theorem mo41 : mOw 41 = 4 := by decide +kernel
theorem mr41 : mRt 41 = some .int := by decide +kernel
theorem mh41 : mHn 41 = [] := by decide +kernel
def il42 : List (Nat × Instr) := [(0, .aload_n 0), (1, .getfield 45), (4, .dup), (5, .getfield 119), (8, .aload_n 0), (9, .invokevirtual 123), (12, .iload_n 1), (13, .isub), (14, .i2l), (15, .ladd), (16, .putfield 119), (19, .return_)]
set_option maxRecDepth 100000 in
theorem id42 : scan (mCd 42).data.toList 0 il42 = true := by decide +kernel
theorem mm42 : mKd 42 = 1 ∧ mAr 42 = 1 ∧ mMx 42 = 2 := by decide +kernel
theorem mo42 : mOw 42 = 4 := by decide +kernel
theorem mr42 : mRt 42 = none := by decide +kernel
theorem mh42 : mHn 42 = [] := by decide +kernel
def il43 : List (Nat × Instr) := [(0, .aload_n 0), (1, .invokespecial 3), (4, .return_)]
set_option maxRecDepth 100000 in
theorem id43 : scan (mCd 43).data.toList 0 il43 = true := by decide +kernel
theorem mm43 : mKd 43 = 2 ∧ mAr 43 = 0 ∧ mMx 43 = 1 := by decide +kernel
theorem mo43 : mOw 43 = 0 := by decide +kernel
theorem mr43 : mRt 43 = none := by decide +kernel
theorem mh43 : mHn 43 = [] := by decide +kernel
def il44 : List (Nat × Instr) := [(0, .iconst 0), (1, .istore_n 1), (2, .iconst 0), (3, .istore_n 2), (4, .iload_n 2), (5, .aload_n 0), (6, .getfield 61), (9, .if_icmp .ge 21), (12, .iload_n 1), (13, .aload_n 0), (14, .getfield 11), (17, .iload_n 2), (18, .aaload), (19, .invokevirtual 116), (22, .iadd), (23, .istore_n 1), (24, .iinc 2 1), (27, .goto (-23)), (30, .iload_n 1), (31, .ireturn)]
set_option maxRecDepth 100000 in
theorem id44 : scan (mCd 44).data.toList 0 il44 = true := by decide +kernel
theorem mm44 : mKd 44 = 1 ∧ mAr 44 = 0 ∧ mMx 44 = 3 := by decide +kernel
theorem mo44 : mOw 44 = 4 := by decide +kernel
theorem mr44 : mRt 44 = some .int := by decide +kernel
theorem mh44 : mHn 44 = [] := by decide +kernel
def il45 : List (Nat × Instr) := [(0, .iload_n 1), (1, .istore_n 2), (2, .iload_n 2), (3, .iconst 1), (4, .iadd), (5, .aload_n 0), (6, .getfield 61), (9, .if_icmp .ge 26), (12, .aload_n 0), (13, .getfield 11), (16, .iload_n 2), (17, .aaload), (18, .aload_n 0), (19, .getfield 11), (22, .iload_n 2), (23, .iconst 1), (24, .iadd), (25, .aaload), (26, .invokevirtual 74), (29, .iinc 2 1), (32, .goto (-30)), (35, .aload_n 0), (36, .dup), (37, .getfield 61), (40, .iconst 1), (41, .isub), (42, .putfield 61), (45, .aload_n 0), (46, .invokevirtual 127), (49, .aload_n 0), (50, .getfield 38), (53, .iload_n 1), (54, .invokevirtual 130), (57, .aload_n 0), (58, .getfield 45), (61, .iload_n 1), (62, .invokevirtual 134), (65, .return_)]
set_option maxRecDepth 100000 in
theorem id45 : scan (mCd 45).data.toList 0 il45 = true := by decide +kernel
theorem mm45 : mKd 45 = 1 ∧ mAr 45 = 1 ∧ mMx 45 = 3 := by decide +kernel
theorem mo45 : mOw 45 = 4 := by decide +kernel
theorem mr45 : mRt 45 = none := by decide +kernel
theorem mh45 : mHn 45 = [] := by decide +kernel
def il46 : List (Nat × Instr) := [(0, .aload_n 0), (1, .invokespecial 3), (4, .aload_n 0), (5, .bipush 40), (7, .newarray .int), (9, .putfield 9), (12, .aload_n 0), (13, .bipush 40), (15, .newarray .int), (17, .putfield 15), (20, .aload_n 0), (21, .bipush 40), (23, .newarray .int), (25, .putfield 18), (28, .aload_n 0), (29, .bipush 40), (31, .newarray .int), (33, .putfield 21), (36, .return_)]
set_option maxRecDepth 100000 in
theorem id46 : scan (mCd 46).data.toList 0 il46 = true := by decide +kernel
theorem mm46 : mKd 46 = 2 ∧ mAr 46 = 0 ∧ mMx 46 = 1 := by decide +kernel
theorem mo46 : mOw 46 = 5 := by decide +kernel
theorem mr46 : mRt 46 = none := by decide +kernel
theorem mh46 : mHn 46 = [] := by decide +kernel
def il47 : List (Nat × Instr) := [(0, .aload_n 0), (1, .iconst 0), (2, .putfield 24), (5, .aload_n 0), (6, .iconst 0), (7, .putfield 28), (10, .return_)]
set_option maxRecDepth 100000 in
theorem id47 : scan (mCd 47).data.toList 0 il47 = true := by decide +kernel
theorem mm47 : mKd 47 = 1 ∧ mAr 47 = 0 ∧ mMx 47 = 1 := by decide +kernel
theorem mo47 : mOw 47 = 5 := by decide +kernel
theorem mr47 : mRt 47 = none := by decide +kernel
theorem mh47 : mHn 47 = [] := by decide +kernel
def il48 : List (Nat × Instr) := [(0, .aload_n 1), (1, .getfield 9), (4, .iconst 0), (5, .aload_n 0), (6, .getfield 9), (9, .iconst 0), (10, .bipush 40), (12, .invokestatic 31), (15, .aload_n 1), (16, .getfield 15), (19, .iconst 0), (20, .aload_n 0), (21, .getfield 15), (24, .iconst 0), (25, .bipush 40), (27, .invokestatic 31), (30, .aload_n 1), (31, .getfield 18), (34, .iconst 0), (35, .aload_n 0), (36, .getfield 18), (39, .iconst 0), (40, .bipush 40), (42, .invokestatic 31), (45, .aload_n 1), (46, .getfield 21), (49, .iconst 0), (50, .aload_n 0), (51, .getfield 21), (54, .iconst 0), (55, .bipush 40), (57, .invokestatic 31), (60, .aload_n 0), (61, .aload_n 1), (62, .getfield 24), (65, .putfield 24), (68, .aload_n 0), (69, .aload_n 1), (70, .getfield 28), (73, .putfield 28), (76, .return_)]
set_option maxRecDepth 100000 in
theorem id48 : scan (mCd 48).data.toList 0 il48 = true := by decide +kernel
theorem mm48 : mKd 48 = 1 ∧ mAr 48 = 1 ∧ mMx 48 = 2 := by decide +kernel
theorem mo48 : mOw 48 = 5 := by decide +kernel
theorem mr48 : mRt 48 = none := by decide +kernel
theorem mh48 : mHn 48 = [] := by decide +kernel
def il49 : List (Nat × Instr) := [(0, .aload_n 0), (1, .getfield 9), (4, .aload_n 0), (5, .getfield 24), (8, .iload_n 1), (9, .iastore), (10, .aload_n 0), (11, .getfield 15), (14, .aload_n 0), (15, .getfield 24), (18, .iload_n 2), (19, .iastore), (20, .aload_n 0), (21, .getfield 18), (24, .aload_n 0), (25, .getfield 24), (28, .iload_n 3), (29, .iastore), (30, .aload_n 0), (31, .getfield 21), (34, .aload_n 0), (35, .getfield 24), (38, .iload 4), (40, .iastore), (41, .aload_n 0), (42, .aload_n 0), (43, .getfield 24), (46, .iconst 1), (47, .iadd), (48, .bipush 40), (50, .irem), (51, .putfield 24), (54, .aload_n 0), (55, .aload_n 0), (56, .getfield 28), (59, .iconst 1), (60, .iadd), (61, .bipush 40), (63, .invokestatic 37), (66, .putfield 28), (69, .return_)]
set_option maxRecDepth 100000 in
theorem id49 : scan (mCd 49).data.toList 0 il49 = true := by decide +kernel
theorem mm49 : mKd 49 = 1 ∧ mAr 49 = 4 ∧ mMx 49 = 5 := by decide +kernel
theorem mo49 : mOw 49 = 5 := by decide +kernel
theorem mr49 : mRt 49 = none := by decide +kernel
theorem mh49 : mHn 49 = [] := by decide +kernel
def il50 : List (Nat × Instr) := [(0, .aload_n 0), (1, .invokespecial 3), (4, .return_)]
set_option maxRecDepth 100000 in
theorem id50 : scan (mCd 50).data.toList 0 il50 = true := by decide +kernel
theorem mm50 : mKd 50 = 2 ∧ mAr 50 = 0 ∧ mMx 50 = 1 := by decide +kernel
theorem mo50 : mOw 50 = 0 := by decide +kernel
theorem mr50 : mRt 50 = none := by decide +kernel
theorem mh50 : mHn 50 = [] := by decide +kernel
def il51 : List (Nat × Instr) := [(0, .aload_n 0), (1, .invokespecial 3), (4, .return_)]
set_option maxRecDepth 100000 in
theorem id51 : scan (mCd 51).data.toList 0 il51 = true := by decide +kernel
theorem mm51 : mKd 51 = 2 ∧ mAr 51 = 0 ∧ mMx 51 = 1 := by decide +kernel
theorem mo51 : mOw 51 = 0 := by decide +kernel
theorem mr51 : mRt 51 = none := by decide +kernel
theorem mh51 : mHn 51 = [] := by decide +kernel
def il52 : List (Nat × Instr) := [(0, .aload_n 0), (1, .invokespecial 3), (4, .return_)]
set_option maxRecDepth 100000 in
theorem id52 : scan (mCd 52).data.toList 0 il52 = true := by decide +kernel
theorem mm52 : mKd 52 = 2 ∧ mAr 52 = 0 ∧ mMx 52 = 1 := by decide +kernel
theorem mo52 : mOw 52 = 0 := by decide +kernel
theorem mr52 : mRt 52 = none := by decide +kernel
theorem mh52 : mHn 52 = [] := by decide +kernel
def il53 : List (Nat × Instr) := [(0, .aload_n 0), (1, .invokespecial 3), (4, .return_)]
set_option maxRecDepth 100000 in
theorem id53 : scan (mCd 53).data.toList 0 il53 = true := by decide +kernel
theorem mm53 : mKd 53 = 2 ∧ mAr 53 = 0 ∧ mMx 53 = 1 := by decide +kernel
theorem mo53 : mOw 53 = 0 := by decide +kernel
theorem mr53 : mRt 53 = none := by decide +kernel
theorem mh53 : mHn 53 = [] := by decide +kernel
def il54 : List (Nat × Instr) := [(0, .aload_n 0), (1, .invokespecial 3), (4, .return_)]
set_option maxRecDepth 100000 in
theorem id54 : scan (mCd 54).data.toList 0 il54 = true := by decide +kernel
theorem mm54 : mKd 54 = 2 ∧ mAr 54 = 0 ∧ mMx 54 = 1 := by decide +kernel
theorem mo54 : mOw 54 = 0 := by decide +kernel
theorem mr54 : mRt 54 = none := by decide +kernel
theorem mh54 : mHn 54 = [] := by decide +kernel
def il55 : List (Nat × Instr) := [(0, .aload_n 0), (1, .invokespecial 3), (4, .return_)]
set_option maxRecDepth 100000 in
theorem id55 : scan (mCd 55).data.toList 0 il55 = true := by decide +kernel
theorem mm55 : mKd 55 = 2 ∧ mAr 55 = 0 ∧ mMx 55 = 1 := by decide +kernel
theorem mo55 : mOw 55 = 0 := by decide +kernel
theorem mr55 : mRt 55 = none := by decide +kernel
theorem mh55 : mHn 55 = [] := by decide +kernel
def il56 : List (Nat × Instr) := [(0, .iconst 0), (1, .istore_n 2), (2, .iload_n 2), (3, .bipush 40), (5, .if_icmp .ge 41), (8, .aload_n 0), (9, .getfield 15), (12, .iload_n 2), (13, .aload_n 0), (14, .getfield 15), (17, .iload_n 2), (18, .iaload), (19, .iload_n 1), (20, .invokestatic 56), (23, .iastore), (24, .aload_n 0), (25, .getfield 18), (28, .iload_n 2), (29, .aload_n 0), (30, .getfield 18), (33, .iload_n 2), (34, .iaload), (35, .iload_n 1), (36, .invokestatic 56), (39, .iastore), (40, .iinc 2 1), (43, .goto (-41)), (46, .return_)]
set_option maxRecDepth 100000 in
theorem id56 : scan (mCd 56).data.toList 0 il56 = true := by decide +kernel
theorem mm56 : mKd 56 = 1 ∧ mAr 56 = 1 ∧ mMx 56 = 3 := by decide +kernel
theorem mo56 : mOw 56 = 5 := by decide +kernel
theorem mr56 : mRt 56 = none := by decide +kernel
theorem mh56 : mHn 56 = [] := by decide +kernel
def il57 : List (Nat × Instr) := [(0, .iload_n 0), (1, .iload_n 1), (2, .if_icmp .ne 6), (5, .bipush (-2)), (7, .ireturn), (8, .iload_n 0), (9, .iload_n 1), (10, .if_icmp .le 9), (13, .iload_n 0), (14, .iconst 1), (15, .isub), (16, .goto 4), (19, .iload_n 0), (20, .ireturn)]
set_option maxRecDepth 100000 in
theorem id57 : scan (mCd 57).data.toList 0 il57 = true := by decide +kernel
theorem mm57 : mKd 57 = 0 ∧ mAr 57 = 2 ∧ mMx 57 = 2 := by decide +kernel
theorem mo57 : mOw 57 = 5 := by decide +kernel
theorem mr57 : mRt 57 = some .int := by decide +kernel
theorem mh57 : mHn 57 = [] := by decide +kernel
def il58 : List (Nat × Instr) := [(0, .aload_n 0), (1, .invokespecial 3), (4, .aload_n 0), (5, .sipush 256), (8, .newarray .byte), (10, .putfield 9), (13, .return_)]
set_option maxRecDepth 100000 in
theorem id58 : scan (mCd 58).data.toList 0 il58 = true := by decide +kernel
theorem mm58 : mKd 58 = 2 ∧ mAr 58 = 0 ∧ mMx 58 = 1 := by decide +kernel
theorem mo58 : mOw 58 = 6 := by decide +kernel
theorem mr58 : mRt 58 = none := by decide +kernel
theorem mh58 : mHn 58 = [] := by decide +kernel
def il59 : List (Nat × Instr) := [(0, .aload_n 0), (1, .invokespecial 3), (4, .return_)]
set_option maxRecDepth 100000 in
theorem id59 : scan (mCd 59).data.toList 0 il59 = true := by decide +kernel
theorem mm59 : mKd 59 = 2 ∧ mAr 59 = 0 ∧ mMx 59 = 1 := by decide +kernel
theorem mo59 : mOw 59 = 0 := by decide +kernel
theorem mr59 : mRt 59 = none := by decide +kernel
theorem mh59 : mHn 59 = [] := by decide +kernel
def il60 : List (Nat × Instr) := [(0, .aload_n 0), (1, .invokespecial 3), (4, .return_)]
set_option maxRecDepth 100000 in
theorem id60 : scan (mCd 60).data.toList 0 il60 = true := by decide +kernel
theorem mm60 : mKd 60 = 2 ∧ mAr 60 = 0 ∧ mMx 60 = 1 := by decide +kernel
theorem mo60 : mOw 60 = 0 := by decide +kernel
theorem mr60 : mRt 60 = none := by decide +kernel
theorem mh60 : mHn 60 = [] := by decide +kernel
def il61 : List (Nat × Instr) := [(0, .aload_n 0), (1, .invokespecial 3), (4, .return_)]
set_option maxRecDepth 100000 in
theorem id61 : scan (mCd 61).data.toList 0 il61 = true := by decide +kernel
theorem mm61 : mKd 61 = 2 ∧ mAr 61 = 0 ∧ mMx 61 = 1 := by decide +kernel
theorem mo61 : mOw 61 = 0 := by decide +kernel
theorem mr61 : mRt 61 = none := by decide +kernel
theorem mh61 : mHn 61 = [] := by decide +kernel
def il62 : List (Nat × Instr) := [(0, .aload_n 0), (1, .invokespecial 3), (4, .aload_n 0), (5, .aload_n 1), (6, .putfield 9), (9, .aload_n 0), (10, .aload_n 2), (11, .putfield 15), (14, .return_)]
set_option maxRecDepth 100000 in
theorem id62 : scan (mCd 62).data.toList 0 il62 = true := by decide +kernel
theorem mm62 : mKd 62 = 2 ∧ mAr 62 = 2 ∧ mMx 62 = 3 := by decide +kernel
theorem mo62 : mOw 62 = 7 := by decide +kernel
theorem mr62 : mRt 62 = none := by decide +kernel
theorem mh62 : mHn 62 = [] := by decide +kernel
def il63 : List (Nat × Instr) := [(0, .aload_n 0), (1, .iload_n 1), (2, .aload_n 0), (3, .getfield 9), (6, .arraylength), (7, .invokestatic 19), (10, .putfield 25), (13, .aload_n 0), (14, .iconst 0), (15, .putfield 29), (18, .aload_n 0), (19, .iconst 0), (20, .putfield 32), (23, .aload_n 0), (24, .invokevirtual 35), (27, .aload_n 0), (28, .invokevirtual 38), (31, .iconst 0), (32, .istore_n 2), (33, .iload_n 2), (34, .aload_n 0), (35, .getfield 25), (38, .if_icmp .ge 60), (41, .aload_n 0), (42, .getfield 29), (45, .ifCond .ne 53), (48, .aload_n 0), (49, .getfield 41), (52, .ifCond .eq 46), (55, .aload_n 0), (56, .ldc 44), (58, .invokevirtual 46), (61, .ifCond .eq 10), (64, .aload_n 0), (65, .invokevirtual 50), (68, .goto 24), (71, .aload_n 0), (72, .ldc 53), (74, .invokevirtual 46), (77, .ifCond .eq 10), (80, .aload_n 0), (81, .invokevirtual 55), (84, .goto 8), (87, .aload_n 0), (88, .iconst 1), (89, .invokevirtual 58), (92, .iinc 2 1), (95, .goto (-62)), (98, .aload_n 0), (99, .getfield 29), (102, .ireturn)]
set_option maxRecDepth 100000 in
theorem id63 : scan (mCd 63).data.toList 0 il63 = true := by decide +kernel
theorem mm63 : mKd 63 = 1 ∧ mAr 63 = 1 ∧ mMx 63 = 3 := by decide +kernel
theorem mo63 : mOw 63 = 7 := by decide +kernel
theorem mr63 : mRt 63 = some .int := by decide +kernel
theorem mh63 : mHn 63 = [] := by decide +kernel
def il64 : List (Nat × Instr) := [(0, .aload_n 0), (1, .getfield 29), (4, .ifCond .eq 4), (7, .return_), (8, .aload_n 0), (9, .aload_n 0), (10, .getfield 32), (13, .putfield 62), (16, .aload_n 0), (17, .getfield 62), (20, .aload_n 0), (21, .getfield 25), (24, .if_icmp .ge 28), (27, .aload_n 0), (28, .aload_n 0), (29, .getfield 62), (32, .invokevirtual 150), (35, .iconst 4), (36, .if_icmp .ne 16), (39, .aload_n 0), (40, .dup), (41, .getfield 62), (44, .iconst 1), (45, .iadd), (46, .putfield 62), (49, .goto (-33)), (52, .aload_n 0), (53, .aload_n 0), (54, .aload_n 0), (55, .getfield 62), (58, .invokevirtual 150), (61, .putfield 41), (64, .aload_n 0), (65, .aload_n 0), (66, .getfield 62), (69, .iconst 1), (70, .iadd), (71, .aload_n 0), (72, .getfield 25), (75, .invokestatic 19), (78, .putfield 32), (81, .aload_n 0), (82, .getfield 32), (85, .aload_n 0), (86, .getfield 25), (89, .if_icmp .ge 39), (92, .aload_n 0), (93, .getfield 41), (96, .iconst 3), (97, .if_icmp .eq 31), (100, .aload_n 0), (101, .aload_n 0), (102, .getfield 32), (105, .invokevirtual 150), (108, .aload_n 0), (109, .getfield 41), (112, .if_icmp .ne 16), (115, .aload_n 0), (116, .dup), (117, .getfield 32), (120, .iconst 1), (121, .iadd), (122, .putfield 32), (125, .goto (-44)), (128, .return_)]
set_option maxRecDepth 100000 in
theorem id64 : scan (mCd 64).data.toList 0 il64 = true := by decide +kernel
theorem mm64 : mKd 64 = 1 ∧ mAr 64 = 0 ∧ mMx 64 = 1 := by decide +kernel
theorem mo64 : mOw 64 = 7 := by decide +kernel
theorem mr64 : mRt 64 = none := by decide +kernel
theorem mh64 : mHn 64 = [] := by decide +kernel
def il65 : List (Nat × Instr) := [(0, .iload_n 1), (1, .ifCond .lt 11), (4, .iload_n 1), (5, .aload_n 0), (6, .getfield 25), (9, .if_icmp .lt 5), (12, .iconst 0), (13, .ireturn), (14, .aload_n 0), (15, .getfield 9), (18, .iload_n 1), (19, .baload), (20, .istore_n 2), (21, .iload_n 2), (22, .bipush 32), (24, .if_icmp .eq 9), (27, .iload_n 2), (28, .bipush 10), (30, .if_icmp .ne 5), (33, .iconst 4), (34, .ireturn), (35, .iload_n 2), (36, .bipush 97), (38, .if_icmp .lt 11), (41, .iload_n 2), (42, .bipush 122), (44, .if_icmp .gt 5), (47, .iconst 1), (48, .ireturn), (49, .iload_n 2), (50, .bipush 48), (52, .if_icmp .lt 13), (55, .iload_n 2), (56, .bipush 57), (58, .if_icmp .gt 7), (61, .iconst 2), (62, .goto 4), (65, .iconst 3), (66, .ireturn)]
set_option maxRecDepth 100000 in
theorem id65 : scan (mCd 65).data.toList 0 il65 = true := by decide +kernel
theorem mm65 : mKd 65 = 1 ∧ mAr 65 = 1 ∧ mMx 65 = 3 := by decide +kernel
theorem mo65 : mOw 65 = 7 := by decide +kernel
theorem mr65 : mRt 65 = some .int := by decide +kernel
theorem mh65 : mHn 65 = [] := by decide +kernel
def il66 : List (Nat × Instr) := [(0, .aload_n 0), (1, .ldc 65), (3, .invokevirtual 67), (6, .aload_n 0), (7, .bipush 10), (9, .sipush 200), (12, .invokevirtual 71), (15, .istore_n 1), (16, .iconst 0), (17, .istore_n 2), (18, .iconst 0), (19, .istore_n 3), (20, .aload_n 0), (21, .ldc 74), (23, .invokevirtual 46), (26, .ifCond .eq 25), (29, .aload_n 0), (30, .ldc 74), (32, .invokevirtual 67), (35, .aload_n 0), (36, .iconst 0), (37, .bipush 100), (39, .invokevirtual 71), (42, .istore_n 2), (43, .aload_n 0), (44, .iconst 0), (45, .bipush 100), (47, .invokevirtual 71), (50, .istore_n 3), (51, .aload_n 0), (52, .invokevirtual 76), (55, .aload_n 0), (56, .getfield 29), (59, .ifCond .ne 13), (62, .aload_n 0), (63, .getfield 15), (66, .iload_n 1), (67, .iload_n 2), (68, .iload_n 3), (69, .invokevirtual 79), (72, .return_)]
set_option maxRecDepth 100000 in
theorem id66 : scan (mCd 66).data.toList 0 il66 = true := by decide +kernel
theorem mm66 : mKd 66 = 1 ∧ mAr 66 = 0 ∧ mMx 66 = 4 := by decide +kernel
theorem mo66 : mOw 66 = 7 := by decide +kernel
theorem mr66 : mRt 66 = none := by decide +kernel
theorem mh66 : mHn 66 = [] := by decide +kernel
def il67 : List (Nat × Instr) := [(0, .aload_n 0), (1, .aload_n 1), (2, .invokevirtual 46), (5, .ifCond .ne 8), (8, .aload_n 0), (9, .iconst 1), (10, .invokevirtual 58), (13, .aload_n 0), (14, .invokevirtual 35), (17, .return_)]
set_option maxRecDepth 100000 in
theorem id67 : scan (mCd 67).data.toList 0 il67 = true := by decide +kernel
theorem mm67 : mKd 67 = 1 ∧ mAr 67 = 1 ∧ mMx 67 = 2 := by decide +kernel
theorem mo67 : mOw 67 = 7 := by decide +kernel
theorem mr67 : mRt 67 = none := by decide +kernel
theorem mh67 : mHn 67 = [] := by decide +kernel
def il68 : List (Nat × Instr) := [(0, .aload_n 0), (1, .getfield 41), (4, .iconst 1), (5, .if_icmp .ne 19), (8, .aload_n 0), (9, .getfield 32), (12, .aload_n 0), (13, .getfield 62), (16, .isub), (17, .aload_n 1), (18, .invokevirtual 142), (21, .if_icmp .eq 5), (24, .iconst 0), (25, .ireturn), (26, .aload_n 0), (27, .getfield 62), (30, .istore_n 2), (31, .iload_n 2), (32, .aload_n 0), (33, .getfield 32), (36, .if_icmp .ge 30), (39, .aload_n 0), (40, .getfield 9), (43, .iload_n 2), (44, .baload), (45, .aload_n 1), (46, .iload_n 2), (47, .aload_n 0), (48, .getfield 62), (51, .isub), (52, .invokevirtual 146), (55, .if_icmp .eq 5), (58, .iconst 0), (59, .ireturn), (60, .iinc 2 1), (63, .goto (-32)), (66, .iconst 1), (67, .ireturn)]
set_option maxRecDepth 100000 in
theorem id68 : scan (mCd 68).data.toList 0 il68 = true := by decide +kernel
theorem mm68 : mKd 68 = 1 ∧ mAr 68 = 1 ∧ mMx 68 = 3 := by decide +kernel
theorem mo68 : mOw 68 = 7 := by decide +kernel
theorem mr68 : mRt 68 = some .boolean := by decide +kernel
theorem mh68 : mHn 68 = [] := by decide +kernel
def il69 : List (Nat × Instr) := [(0, .aload_n 0), (1, .getfield 29), (4, .ifCond .ne 8), (7, .aload_n 0), (8, .iload_n 1), (9, .putfield 29), (12, .return_)]
set_option maxRecDepth 100000 in
theorem id69 : scan (mCd 69).data.toList 0 il69 = true := by decide +kernel
theorem mm69 : mKd 69 = 1 ∧ mAr 69 = 1 ∧ mMx 69 = 2 := by decide +kernel
theorem mo69 : mOw 69 = 7 := by decide +kernel
theorem mr69 : mRt 69 = none := by decide +kernel
theorem mh69 : mHn 69 = [] := by decide +kernel
def il70 : List (Nat × Instr) := [(0, .aload_n 0), (1, .iload_n 1), (2, .iload_n 2), (3, .invokevirtual 119), (6, .istore_n 3), (7, .aload_n 0), (8, .invokevirtual 35), (11, .iload_n 3), (12, .ireturn)]
set_option maxRecDepth 100000 in
theorem id70 : scan (mCd 70).data.toList 0 il70 = true := by decide +kernel
theorem mm70 : mKd 70 = 1 ∧ mAr 70 = 2 ∧ mMx 70 = 4 := by decide +kernel
theorem mo70 : mOw 70 = 7 := by decide +kernel
theorem mr70 : mRt 70 = some .int := by decide +kernel
theorem mh70 : mHn 70 = [] := by decide +kernel
def il71 : List (Nat × Instr) := [(0, .aload_n 0), (1, .getfield 41), (4, .iconst 2), (5, .if_icmp .eq 10), (8, .aload_n 0), (9, .iconst 1), (10, .invokevirtual 58), (13, .iload_n 1), (14, .ireturn), (15, .iconst 0), (16, .istore_n 3), (17, .aload_n 0), (18, .getfield 62), (21, .istore 4), (23, .iload 4), (25, .aload_n 0), (26, .getfield 32), (29, .if_icmp .ge 31), (32, .iload_n 3), (33, .ldc 141), (35, .if_icmp .ge 25), (38, .iload_n 3), (39, .bipush 10), (41, .imul), (42, .aload_n 0), (43, .getfield 9), (46, .iload 4), (48, .baload), (49, .iadd), (50, .bipush 48), (52, .isub), (53, .istore_n 3), (54, .iinc 4 1), (57, .goto (-34)), (60, .iload_n 3), (61, .iload_n 1), (62, .if_icmp .lt 8), (65, .iload_n 3), (66, .iload_n 2), (67, .if_icmp .le 8), (70, .aload_n 0), (71, .iconst 2), (72, .invokevirtual 58), (75, .iload_n 3), (76, .ireturn)]
set_option maxRecDepth 100000 in
theorem id71 : scan (mCd 71).data.toList 0 il71 = true := by decide +kernel
theorem mm71 : mKd 71 = 1 ∧ mAr 71 = 2 ∧ mMx 71 = 5 := by decide +kernel
theorem mo71 : mOw 71 = 7 := by decide +kernel
theorem mr71 : mRt 71 = some .int := by decide +kernel
theorem mh71 : mHn 71 = [] := by decide +kernel
def il72 : List (Nat × Instr) := [(0, .aload_n 0), (1, .bipush 59), (3, .invokevirtual 115), (6, .ifCond .ne 8), (9, .aload_n 0), (10, .iconst 1), (11, .invokevirtual 58), (14, .aload_n 0), (15, .invokevirtual 35), (18, .return_)]
set_option maxRecDepth 100000 in
theorem id72 : scan (mCd 72).data.toList 0 il72 = true := by decide +kernel
theorem mm72 : mKd 72 = 1 ∧ mAr 72 = 0 ∧ mMx 72 = 1 := by decide +kernel
theorem mo72 : mOw 72 = 7 := by decide +kernel
theorem mr72 : mRt 72 = none := by decide +kernel
theorem mh72 : mHn 72 = [] := by decide +kernel
def il73 : List (Nat × Instr) := [(0, .aload_n 0), (1, .getfield 41), (4, .iconst 3), (5, .if_icmp .ne 31), (8, .aload_n 0), (9, .getfield 62), (12, .aload_n 0), (13, .getfield 25), (16, .if_icmp .ge 20), (19, .aload_n 0), (20, .getfield 9), (23, .aload_n 0), (24, .getfield 62), (27, .baload), (28, .iload_n 1), (29, .if_icmp .ne 7), (32, .iconst 1), (33, .goto 4), (36, .iconst 0), (37, .ireturn)]
set_option maxRecDepth 100000 in
theorem id73 : scan (mCd 73).data.toList 0 il73 = true := by decide +kernel
theorem mm73 : mKd 73 = 1 ∧ mAr 73 = 1 ∧ mMx 73 = 2 := by decide +kernel
theorem mo73 : mOw 73 = 7 := by decide +kernel
theorem mr73 : mRt 73 = some .boolean := by decide +kernel
theorem mh73 : mHn 73 = [] := by decide +kernel
def il74 : List (Nat × Instr) := [(0, .aload_n 0), (1, .getfield 15), (4, .getfield 85), (7, .iconst 4), (8, .if_icmp .lt 8), (11, .aload_n 0), (12, .iconst 5), (13, .invokevirtual 58), (16, .aload_n 0), (17, .ldc 44), (19, .invokevirtual 67), (22, .aload_n 0), (23, .invokevirtual 88), (26, .istore_n 1), (27, .aload_n 0), (28, .ldc 74), (30, .invokevirtual 67), (33, .aload_n 0), (34, .iconst 0), (35, .bipush 100), (37, .invokevirtual 71), (40, .istore_n 2), (41, .aload_n 0), (42, .invokevirtual 76), (45, .aload_n 0), (46, .getfield 29), (49, .ifCond .ne 12), (52, .aload_n 0), (53, .getfield 15), (56, .iload_n 1), (57, .iload_n 2), (58, .invokevirtual 92), (61, .return_)]
set_option maxRecDepth 100000 in
theorem id74 : scan (mCd 74).data.toList 0 il74 = true := by decide +kernel
theorem mm74 : mKd 74 = 1 ∧ mAr 74 = 0 ∧ mMx 74 = 3 := by decide +kernel
theorem mo74 : mOw 74 = 7 := by decide +kernel
theorem mr74 : mRt 74 = none := by decide +kernel
theorem mh74 : mHn 74 = [] := by decide +kernel
def il75 : List (Nat × Instr) := [(0, .aload_n 0), (1, .iconst 0), (2, .aload_n 0), (3, .getfield 15), (6, .getfield 122), (9, .iconst 1), (10, .isub), (11, .invokevirtual 119), (14, .istore_n 1), (15, .aload_n 0), (16, .getfield 15), (19, .iload_n 1), (20, .invokevirtual 125), (23, .ifCond .eq 8), (26, .aload_n 0), (27, .iconst 4), (28, .invokevirtual 58), (31, .aload_n 0), (32, .invokevirtual 35), (35, .iload_n 1), (36, .ireturn)]
set_option maxRecDepth 100000 in
theorem id75 : scan (mCd 75).data.toList 0 il75 = true := by decide +kernel
theorem mm75 : mKd 75 = 1 ∧ mAr 75 = 0 ∧ mMx 75 = 2 := by decide +kernel
theorem mo75 : mOw 75 = 7 := by decide +kernel
theorem mr75 : mRt 75 = some .int := by decide +kernel
theorem mh75 : mHn 75 = [] := by decide +kernel
def il76 : List (Nat × Instr) := [(0, .aload_n 0), (1, .getfield 15), (4, .getfield 96), (7, .bipush 10), (9, .if_icmp .lt 8), (12, .aload_n 0), (13, .iconst 5), (14, .invokevirtual 58), (17, .aload_n 0), (18, .ldc 53), (20, .invokevirtual 67), (23, .aload_n 0), (24, .invokevirtual 99), (27, .istore_n 1), (28, .aload_n 0), (29, .ldc 102), (31, .invokevirtual 67), (34, .aload_n 0), (35, .invokevirtual 88), (38, .istore_n 2), (39, .aload_n 0), (40, .ldc 104), (42, .invokevirtual 67), (45, .aload_n 0), (46, .invokevirtual 106), (49, .istore_n 3), (50, .aload_n 0), (51, .ldc 109), (53, .invokevirtual 67), (56, .aload_n 0), (57, .iconst 1), (58, .bipush 20), (60, .invokevirtual 71), (63, .istore 4), (65, .aload_n 0), (66, .invokevirtual 76), (69, .aload_n 0), (70, .getfield 29), (73, .ifCond .ne 15), (76, .aload_n 0), (77, .getfield 15), (80, .iload_n 1), (81, .iload_n 2), (82, .iload_n 3), (83, .iload 4), (85, .invokevirtual 111), (88, .return_)]
set_option maxRecDepth 100000 in
theorem id76 : scan (mCd 76).data.toList 0 il76 = true := by decide +kernel
theorem mm76 : mKd 76 = 1 ∧ mAr 76 = 0 ∧ mMx 76 = 5 := by decide +kernel
theorem mo76 : mOw 76 = 7 := by decide +kernel
theorem mr76 : mRt 76 = none := by decide +kernel
theorem mh76 : mHn 76 = [] := by decide +kernel
def il77 : List (Nat × Instr) := [(0, .aload_n 0), (1, .getfield 9), (4, .aload_n 0), (5, .getfield 62), (8, .aload_n 0), (9, .getfield 32), (12, .invokestatic 129), (15, .istore_n 1), (16, .iload_n 1), (17, .ifCond .eq 10), (20, .aload_n 0), (21, .invokevirtual 133), (24, .ifCond .eq 8), (27, .aload_n 0), (28, .iconst 1), (29, .invokevirtual 58), (32, .aload_n 0), (33, .getfield 15), (36, .iload_n 1), (37, .invokevirtual 137), (40, .iconst (-1)), (41, .if_icmp .eq 8), (44, .aload_n 0), (45, .iconst 3), (46, .invokevirtual 58), (49, .aload_n 0), (50, .invokevirtual 35), (53, .iload_n 1), (54, .ireturn)]
set_option maxRecDepth 100000 in
theorem id77 : scan (mCd 77).data.toList 0 il77 = true := by decide +kernel
theorem mm77 : mKd 77 = 1 ∧ mAr 77 = 0 ∧ mMx 77 = 2 := by decide +kernel
theorem mo77 : mOw 77 = 7 := by decide +kernel
theorem mr77 : mRt 77 = some .int := by decide +kernel
theorem mh77 : mHn 77 = [] := by decide +kernel
def il78 : List (Nat × Instr) := [(0, .iload_n 1), (1, .ifCond .lt 17), (4, .iload_n 2), (5, .aload_n 0), (6, .arraylength), (7, .if_icmp .gt 11), (10, .iload_n 2), (11, .iload_n 1), (12, .isub), (13, .bipush 6), (15, .if_icmp .le 5), (18, .iconst 0), (19, .ireturn), (20, .iconst 0), (21, .istore_n 3), (22, .iload_n 1), (23, .istore 4), (25, .iload 4), (27, .iload_n 2), (28, .if_icmp .ge 44), (31, .aload_n 0), (32, .iload 4), (34, .baload), (35, .bipush 97), (37, .if_icmp .lt 12), (40, .aload_n 0), (41, .iload 4), (43, .baload), (44, .bipush 122), (46, .if_icmp .le 5), (49, .iconst 0), (50, .ireturn), (51, .iload_n 3), (52, .bipush 27), (54, .imul), (55, .aload_n 0), (56, .iload 4), (58, .baload), (59, .iadd), (60, .bipush 97), (62, .isub), (63, .iconst 1), (64, .iadd), (65, .istore_n 3), (66, .iinc 4 1), (69, .goto (-44)), (72, .iload_n 3), (73, .ireturn)]
set_option maxRecDepth 100000 in
theorem id78 : scan (mCd 78).data.toList 0 il78 = true := by decide +kernel
theorem mm78 : mKd 78 = 0 ∧ mAr 78 = 3 ∧ mMx 78 = 5 := by decide +kernel
theorem mo78 : mOw 78 = 7 := by decide +kernel
theorem mr78 : mRt 78 = some .int := by decide +kernel
theorem mh78 : mHn 78 = [] := by decide +kernel
def il79 : List (Nat × Instr) := [(0, .aload_n 0), (1, .ldc 65), (3, .invokevirtual 46), (6, .ifCond .ne 57), (9, .aload_n 0), (10, .ldc 74), (12, .invokevirtual 46), (15, .ifCond .ne 48), (18, .aload_n 0), (19, .ldc 44), (21, .invokevirtual 46), (24, .ifCond .ne 39), (27, .aload_n 0), (28, .ldc 53), (30, .invokevirtual 46), (33, .ifCond .ne 30), (36, .aload_n 0), (37, .ldc 102), (39, .invokevirtual 46), (42, .ifCond .ne 21), (45, .aload_n 0), (46, .ldc 104), (48, .invokevirtual 46), (51, .ifCond .ne 12), (54, .aload_n 0), (55, .ldc 109), (57, .invokevirtual 46), (60, .ifCond .eq 7), (63, .iconst 1), (64, .goto 4), (67, .iconst 0), (68, .ireturn)]
set_option maxRecDepth 100000 in
theorem id79 : scan (mCd 79).data.toList 0 il79 = true := by decide +kernel
theorem mm79 : mKd 79 = 1 ∧ mAr 79 = 0 ∧ mMx 79 = 1 := by decide +kernel
theorem mo79 : mOw 79 = 7 := by decide +kernel
theorem mr79 : mRt 79 = some .boolean := by decide +kernel
theorem mh79 : mHn 79 = [] := by decide +kernel
def il80 : List (Nat × Instr) := [(0, .aload_n 0), (1, .bipush 45), (3, .invokevirtual 115), (6, .istore_n 1), (7, .iload_n 1), (8, .ifCond .eq 7), (11, .aload_n 0), (12, .invokevirtual 35), (15, .aload_n 0), (16, .iconst 0), (17, .bipush 60), (19, .invokevirtual 71), (22, .istore_n 2), (23, .iload_n 1), (24, .ifCond .eq 8), (27, .iload_n 2), (28, .ineg), (29, .goto 4), (32, .iload_n 2), (33, .ireturn)]
set_option maxRecDepth 100000 in
theorem id80 : scan (mCd 80).data.toList 0 il80 = true := by decide +kernel
theorem mm80 : mKd 80 = 1 ∧ mAr 80 = 0 ∧ mMx 80 = 3 := by decide +kernel
theorem mo80 : mOw 80 = 7 := by decide +kernel
theorem mr80 : mRt 80 = some .int := by decide +kernel
theorem mh80 : mHn 80 = [] := by decide +kernel
def il81 : List (Nat × Instr) := [(0, .aload_n 0), (1, .getfield 62), (4, .ireturn)]
set_option maxRecDepth 100000 in
theorem id81 : scan (mCd 81).data.toList 0 il81 = true := by decide +kernel
theorem mm81 : mKd 81 = 1 ∧ mAr 81 = 0 ∧ mMx 81 = 1 := by decide +kernel
theorem mo81 : mOw 81 = 7 := by decide +kernel
theorem mr81 : mRt 81 = some .int := by decide +kernel
theorem mh81 : mHn 81 = [] := by decide +kernel
def il82 : List (Nat × Instr) := [(0, .aload_n 0), (1, .invokespecial 1), (4, .aload_n 0), (5, .sipush 400), (8, .newarray .byte), (10, .putfield 9), (13, .aload_n 0), (14, .iconst 0), (15, .putfield 13), (18, .aload_n 0), (19, .new 17), (22, .dup), (23, .invokespecial 19), (26, .putfield 20), (29, .aload_n 0), (30, .iconst 0), (31, .putfield 24), (34, .aload_n 0), (35, .iconst (-1)), (36, .putfield 27), (39, .aload_n 0), (40, .new 30), (43, .dup), (44, .invokespecial 32), (47, .putfield 33), (50, .aload_n 0), (51, .new 30), (54, .dup), (55, .invokespecial 32), (58, .putfield 37), (61, .aload_n 0), (62, .new 40), (65, .dup), (66, .aload_n 0), (67, .getfield 9), (70, .aload_n 0), (71, .getfield 37), (74, .invokespecial 42), (77, .putfield 45), (80, .aload_n 0), (81, .new 49), (84, .dup), (85, .invokespecial 51), (88, .putfield 52), (91, .aload_n 0), (92, .iconst 2), (93, .anewarray 30), (96, .putfield 56), (99, .aload_n 0), (100, .iconst 2), (101, .newarray .boolean), (103, .putfield 60), (106, .iconst 0), (107, .istore_n 1), (108, .iload_n 1), (109, .iconst 2), (110, .if_icmp .ge 22), (113, .aload_n 0), (114, .getfield 56), (117, .iload_n 1), (118, .new 30), (121, .dup), (122, .invokespecial 32), (125, .aastore), (126, .iinc 1 1), (129, .goto (-21)), (132, .return_)]
set_option maxRecDepth 100000 in
theorem id82 : scan (mCd 82).data.toList 0 il82 = true := by decide +kernel
theorem mm82 : mKd 82 = 2 ∧ mAr 82 = 0 ∧ mMx 82 = 2 := by decide +kernel
theorem mo82 : mOw 82 = 8 := by decide +kernel
theorem mr82 : mRt 82 = none := by decide +kernel
theorem mh82 : mHn 82 = [] := by decide +kernel
def il83 : List (Nat × Instr) := [(0, .aload_n 0), (1, .aload_n 0), (2, .getfield 45), (5, .aload_n 0), (6, .getfield 13), (9, .invokevirtual 75), (12, .putfield 24), (15, .aload_n 0), (16, .aload_n 0), (17, .getfield 24), (20, .ifCond .ne 7), (23, .iconst (-1)), (24, .goto 10), (27, .aload_n 0), (28, .getfield 45), (31, .invokevirtual 79), (34, .putfield 27), (37, .aload_n 0), (38, .iconst 0), (39, .putfield 13), (42, .aload_n 0), (43, .getfield 24), (46, .ifCond .eq 6), (49, .bipush (-4)), (51, .ireturn), (52, .aload_n 0), (53, .getfield 52), (56, .aload_n 0), (57, .getfield 33), (60, .invokevirtual 83), (63, .aload_n 0), (64, .getfield 33), (67, .aload_n 0), (68, .getfield 37), (71, .invokevirtual 87), (74, .aload_n 0), (75, .getfield 33), (78, .getfield 90), (81, .ireturn)]
set_option maxRecDepth 100000 in
theorem id83 : scan (mCd 83).data.toList 0 il83 = true := by decide +kernel
theorem mm83 : mKd 83 = 1 ∧ mAr 83 = 0 ∧ mMx 83 = 1 := by decide +kernel
theorem mo83 : mOw 83 = 8 := by decide +kernel
theorem mr83 : mRt 83 = some .int := by decide +kernel
theorem mh83 : mHn 83 = [] := by decide +kernel
def il84 : List (Nat × Instr) := [(0, .aload_n 0), (1, .getfield 24), (4, .ireturn)]
set_option maxRecDepth 100000 in
theorem id84 : scan (mCd 84).data.toList 0 il84 = true := by decide +kernel
theorem mm84 : mKd 84 = 1 ∧ mAr 84 = 0 ∧ mMx 84 = 1 := by decide +kernel
theorem mo84 : mOw 84 = 8 := by decide +kernel
theorem mr84 : mRt 84 = some .int := by decide +kernel
theorem mh84 : mHn 84 = [] := by decide +kernel
def il85 : List (Nat × Instr) := [(0, .aload_n 0), (1, .invokespecial 3), (4, .return_)]
set_option maxRecDepth 100000 in
theorem id85 : scan (mCd 85).data.toList 0 il85 = true := by decide +kernel
theorem mm85 : mKd 85 = 2 ∧ mAr 85 = 0 ∧ mMx 85 = 1 := by decide +kernel
theorem mo85 : mOw 85 = 0 := by decide +kernel
theorem mr85 : mRt 85 = none := by decide +kernel
theorem mh85 : mHn 85 = [] := by decide +kernel
def il86 : List (Nat × Instr) := [(0, .aload_n 0), (1, .invokespecial 3), (4, .return_)]
set_option maxRecDepth 100000 in
theorem id86 : scan (mCd 86).data.toList 0 il86 = true := by decide +kernel
theorem mm86 : mKd 86 = 2 ∧ mAr 86 = 0 ∧ mMx 86 = 1 := by decide +kernel
theorem mo86 : mOw 86 = 0 := by decide +kernel
theorem mr86 : mRt 86 = none := by decide +kernel
theorem mh86 : mHn 86 = [] := by decide +kernel
def il87 : List (Nat × Instr) := [(0, .aload_n 0), (1, .invokespecial 3), (4, .return_)]
set_option maxRecDepth 100000 in
theorem id87 : scan (mCd 87).data.toList 0 il87 = true := by decide +kernel
theorem mm87 : mKd 87 = 2 ∧ mAr 87 = 0 ∧ mMx 87 = 1 := by decide +kernel
theorem mo87 : mOw 87 = 0 := by decide +kernel
theorem mr87 : mRt 87 = none := by decide +kernel
theorem mh87 : mHn 87 = [] := by decide +kernel
def il88 : List (Nat × Instr) := [(0, .aload_n 0), (1, .invokespecial 3), (4, .return_)]
set_option maxRecDepth 100000 in
theorem id88 : scan (mCd 88).data.toList 0 il88 = true := by decide +kernel
theorem mm88 : mKd 88 = 2 ∧ mAr 88 = 0 ∧ mMx 88 = 1 := by decide +kernel
theorem mo88 : mOw 88 = 0 := by decide +kernel
theorem mr88 : mRt 88 = none := by decide +kernel
theorem mh88 : mHn 88 = [] := by decide +kernel
def il89 : List (Nat × Instr) := [(0, .aload_n 0), (1, .invokespecial 3), (4, .return_)]
set_option maxRecDepth 100000 in
theorem id89 : scan (mCd 89).data.toList 0 il89 = true := by decide +kernel
theorem mm89 : mKd 89 = 2 ∧ mAr 89 = 0 ∧ mMx 89 = 1 := by decide +kernel
theorem mo89 : mOw 89 = 0 := by decide +kernel
theorem mr89 : mRt 89 = none := by decide +kernel
theorem mh89 : mHn 89 = [] := by decide +kernel
def il90 : List (Nat × Instr) := [(0, .aload_n 0), (1, .invokespecial 3), (4, .return_)]
set_option maxRecDepth 100000 in
theorem id90 : scan (mCd 90).data.toList 0 il90 = true := by decide +kernel
theorem mm90 : mKd 90 = 2 ∧ mAr 90 = 0 ∧ mMx 90 = 1 := by decide +kernel
theorem mo90 : mOw 90 = 0 := by decide +kernel
theorem mr90 : mRt 90 = none := by decide +kernel
theorem mh90 : mHn 90 = [] := by decide +kernel
def il91 : List (Nat × Instr) := [(0, .aload_n 0), (1, .invokespecial 3), (4, .return_)]
set_option maxRecDepth 100000 in
theorem id91 : scan (mCd 91).data.toList 0 il91 = true := by decide +kernel
theorem mm91 : mKd 91 = 2 ∧ mAr 91 = 0 ∧ mMx 91 = 1 := by decide +kernel
theorem mo91 : mOw 91 = 0 := by decide +kernel
theorem mr91 : mRt 91 = none := by decide +kernel
theorem mh91 : mHn 91 = [] := by decide +kernel
def il92 : List (Nat × Instr) := [(0, .aload_n 0), (1, .invokespecial 3), (4, .return_)]
set_option maxRecDepth 100000 in
theorem id92 : scan (mCd 92).data.toList 0 il92 = true := by decide +kernel
theorem mm92 : mKd 92 = 2 ∧ mAr 92 = 0 ∧ mMx 92 = 1 := by decide +kernel
theorem mo92 : mOw 92 = 0 := by decide +kernel
theorem mr92 : mRt 92 = none := by decide +kernel
theorem mh92 : mHn 92 = [] := by decide +kernel
def il93 : List (Nat × Instr) := [(0, .aload_n 0), (1, .invokespecial 3), (4, .return_)]
set_option maxRecDepth 100000 in
theorem id93 : scan (mCd 93).data.toList 0 il93 = true := by decide +kernel
theorem mm93 : mKd 93 = 2 ∧ mAr 93 = 0 ∧ mMx 93 = 1 := by decide +kernel
theorem mo93 : mOw 93 = 0 := by decide +kernel
theorem mr93 : mRt 93 = none := by decide +kernel
theorem mh93 : mHn 93 = [] := by decide +kernel
def il94 : List (Nat × Instr) := [(0, .aload_n 0), (1, .invokespecial 3), (4, .return_)]
set_option maxRecDepth 100000 in
theorem id94 : scan (mCd 94).data.toList 0 il94 = true := by decide +kernel
theorem mm94 : mKd 94 = 2 ∧ mAr 94 = 0 ∧ mMx 94 = 1 := by decide +kernel
theorem mo94 : mOw 94 = 0 := by decide +kernel
theorem mr94 : mRt 94 = none := by decide +kernel
theorem mh94 : mHn 94 = [] := by decide +kernel
def il95 : List (Nat × Instr) := [(0, .aload_n 0), (1, .getfield 52), (4, .aload_n 0), (5, .getfield 33), (8, .invokevirtual 83), (11, .aload_n 0), (12, .getfield 33), (15, .invokevirtual 216), (18, .istore_n 1), (19, .aload_n 0), (20, .getfield 33), (23, .invokevirtual 118), (26, .istore_n 2), (27, .iconst 0), (28, .istore_n 3), (29, .iload_n 3), (30, .aload_n 0), (31, .getfield 33), (34, .getfield 90), (37, .if_icmp .ge 22), (40, .aload_n 0), (41, .getfield 33), (44, .getfield 236), (47, .iload_n 3), (48, .aaload), (49, .iconst 0), (50, .putfield 133), (53, .iinc 3 1), (56, .goto (-27)), (59, .aload_n 0), (60, .getfield 33), (63, .iload_n 1), (64, .invokevirtual 283), (67, .iload_n 2), (68, .ireturn)]
set_option maxRecDepth 100000 in
theorem id95 : scan (mCd 95).data.toList 0 il95 = true := by decide +kernel
theorem mm95 : mKd 95 = 1 ∧ mAr 95 = 0 ∧ mMx 95 = 4 := by decide +kernel
theorem mo95 : mOw 95 = 8 := by decide +kernel
theorem mr95 : mRt 95 = some .int := by decide +kernel
theorem mh95 : mHn 95 = [] := by decide +kernel
def il96 : List (Nat × Instr) := [(0, .aload_n 0), (1, .invokespecial 3), (4, .return_)]
set_option maxRecDepth 100000 in
theorem id96 : scan (mCd 96).data.toList 0 il96 = true := by decide +kernel
theorem mm96 : mKd 96 = 2 ∧ mAr 96 = 0 ∧ mMx 96 = 1 := by decide +kernel
theorem mo96 : mOw 96 = 0 := by decide +kernel
theorem mr96 : mRt 96 = none := by decide +kernel
theorem mh96 : mHn 96 = [] := by decide +kernel
def il97 : List (Nat × Instr) := [(0, .aload_n 0), (1, .invokespecial 3), (4, .return_)]
set_option maxRecDepth 100000 in
theorem id97 : scan (mCd 97).data.toList 0 il97 = true := by decide +kernel
theorem mm97 : mKd 97 = 2 ∧ mAr 97 = 0 ∧ mMx 97 = 1 := by decide +kernel
theorem mo97 : mOw 97 = 0 := by decide +kernel
theorem mr97 : mRt 97 = none := by decide +kernel
theorem mh97 : mHn 97 = [] := by decide +kernel
def il98 : List (Nat × Instr) := [(0, .aload_n 0), (1, .invokespecial 3), (4, .return_)]
set_option maxRecDepth 100000 in
theorem id98 : scan (mCd 98).data.toList 0 il98 = true := by decide +kernel
theorem mm98 : mKd 98 = 2 ∧ mAr 98 = 0 ∧ mMx 98 = 1 := by decide +kernel
theorem mo98 : mOw 98 = 0 := by decide +kernel
theorem mr98 : mRt 98 = none := by decide +kernel
theorem mh98 : mHn 98 = [] := by decide +kernel
def il99 : List (Nat × Instr) := [(0, .aload_n 0), (1, .invokespecial 3), (4, .return_)]
set_option maxRecDepth 100000 in
theorem id99 : scan (mCd 99).data.toList 0 il99 = true := by decide +kernel
theorem mm99 : mKd 99 = 2 ∧ mAr 99 = 0 ∧ mMx 99 = 1 := by decide +kernel
theorem mo99 : mOw 99 = 0 := by decide +kernel
theorem mr99 : mRt 99 = none := by decide +kernel
theorem mh99 : mHn 99 = [] := by decide +kernel
def il100 : List (Nat × Instr) := [(0, .aload_n 0), (1, .invokespecial 3), (4, .return_)]
set_option maxRecDepth 100000 in
theorem id100 : scan (mCd 100).data.toList 0 il100 = true := by decide +kernel
theorem mm100 : mKd 100 = 2 ∧ mAr 100 = 0 ∧ mMx 100 = 1 := by decide +kernel
theorem mo100 : mOw 100 = 0 := by decide +kernel
theorem mr100 : mRt 100 = none := by decide +kernel
theorem mh100 : mHn 100 = [] := by decide +kernel
def il101 : List (Nat × Instr) := [(0, .aload_n 0), (1, .getfield 13), (4, .sipush 380), (7, .if_icmp .le 11), (10, .new 64), (13, .dup), (14, .invokespecial 66), (17, .athrow), (18, .aload_n 0), (19, .iload_n 1), (20, .invokevirtual 67), (23, .aload_n 0), (24, .iload_n 2), (25, .invokevirtual 67), (28, .aload_n 0), (29, .iload_n 3), (30, .invokevirtual 67), (33, .aload_n 0), (34, .iload 4), (36, .invokevirtual 67), (39, .aload_n 0), (40, .iload 5), (42, .invokevirtual 67), (45, .aload_n 0), (46, .getfield 13), (49, .ireturn)]
set_option maxRecDepth 100000 in
theorem id101 : scan (mCd 101).data.toList 0 il101 = true := by decide +kernel
theorem mm101 : mKd 101 = 1 ∧ mAr 101 = 5 ∧ mMx 101 = 6 := by decide +kernel
theorem mo101 : mOw 101 = 8 := by decide +kernel
theorem mr101 : mRt 101 = some .int := by decide +kernel
theorem mh101 : mHn 101 = [] := by decide +kernel
def il102 : List (Nat × Instr) := [(0, .bipush 24), (2, .istore_n 2), (3, .iload_n 2), (4, .ifCond .lt 42), (7, .aload_n 0), (8, .getfield 13), (11, .sipush 400), (14, .if_icmp .ge 32), (17, .aload_n 0), (18, .getfield 9), (21, .aload_n 0), (22, .getfield 13), (25, .iload_n 1), (26, .iload_n 2), (27, .ishr), (28, .i2b), (29, .bastore), (30, .aload_n 0), (31, .dup), (32, .getfield 13), (35, .iconst 1), (36, .iadd), (37, .putfield 13), (40, .iinc 2 (-8)), (43, .goto (-40)), (46, .return_)]
set_option maxRecDepth 100000 in
theorem id102 : scan (mCd 102).data.toList 0 il102 = true := by decide +kernel
theorem mm102 : mKd 102 = 1 ∧ mAr 102 = 1 ∧ mMx 102 = 3 := by decide +kernel
theorem mo102 : mOw 102 = 8 := by decide +kernel
theorem mr102 : mRt 102 = none := by decide +kernel
theorem mh102 : mHn 102 = [] := by decide +kernel
def il103 : List (Nat × Instr) := [(0, .iload_n 1), (1, .iconst 0), (2, .aload_n 0), (3, .getfield 13), (6, .invokestatic 71), (9, .aload_n 0), (10, .iload_n 1), (11, .putfield 13), (14, .return_)]
set_option maxRecDepth 100000 in
theorem id103 : scan (mCd 103).data.toList 0 il103 = true := by decide +kernel
theorem mm103 : mKd 103 = 1 ∧ mAr 103 = 1 ∧ mMx 103 = 2 := by decide +kernel
theorem mo103 : mOw 103 = 8 := by decide +kernel
theorem mr103 : mRt 103 = none := by decide +kernel
theorem mh103 : mHn 103 = [] := by decide +kernel
def il104 : List (Nat × Instr) := [(0, .iload_n 0), (1, .iload_n 1), (2, .if_icmp .lt 8), (5, .iload_n 0), (6, .iload_n 2), (7, .if_icmp .le 11), (10, .new 243), (13, .dup), (14, .invokespecial 245), (17, .athrow), (18, .return_)]
set_option maxRecDepth 100000 in
theorem id104 : scan (mCd 104).data.toList 0 il104 = true := by decide +kernel
theorem mm104 : mKd 104 = 0 ∧ mAr 104 = 3 ∧ mMx 104 = 3 := by decide +kernel
theorem mo104 : mOw 104 = 8 := by decide +kernel
theorem mr104 : mRt 104 = none := by decide +kernel
theorem mh104 : mHn 104 = [] := by decide +kernel
def il105 : List (Nat × Instr) := [(0, .iload_n 1), (1, .iconst 0), (2, .bipush 6), (4, .invokestatic 71), (7, .iload_n 1), (8, .tableswitch 99 0 5 #[40, 48, 56, 64, 72, 83]), (48, .aload_n 0), (49, .getfield 33), (52, .getfield 100), (55, .ireturn), (56, .aload_n 0), (57, .getfield 33), (60, .getfield 90), (63, .ireturn), (64, .aload_n 0), (65, .getfield 33), (68, .getfield 103), (71, .ireturn), (72, .aload_n 0), (73, .getfield 33), (76, .getfield 106), (79, .ireturn), (80, .aload_n 0), (81, .getfield 33), (84, .getfield 109), (87, .getfield 113), (90, .ireturn), (91, .aload_n 0), (92, .getfield 33), (95, .getfield 90), (98, .aload_n 0), (99, .getfield 33), (102, .invokevirtual 118), (105, .isub), (106, .ireturn), (107, .aload_n 0), (108, .getfield 33), (111, .invokevirtual 121), (114, .ireturn)]
set_option maxRecDepth 100000 in
theorem id105 : scan (mCd 105).data.toList 0 il105 = true := by decide +kernel
theorem mm105 : mKd 105 = 1 ∧ mAr 105 = 1 ∧ mMx 105 = 2 := by decide +kernel
theorem mo105 : mOw 105 = 8 := by decide +kernel
theorem mr105 : mRt 105 = some .int := by decide +kernel
theorem mh105 : mHn 105 = [] := by decide +kernel
def il106 : List (Nat × Instr) := [(0, .aload_n 0), (1, .iload_n 1), (2, .invokevirtual 124), (5, .astore_n 3), (6, .iload_n 2), (7, .iconst 0), (8, .bipush 7), (10, .invokestatic 71), (13, .iload_n 2), (14, .tableswitch 77 0 6 #[42, 47, 52, 57, 62, 67, 72]), (56, .aload_n 3), (57, .getfield 128), (60, .ireturn), (61, .aload_n 3), (62, .getfield 133), (65, .ireturn), (66, .aload_n 3), (67, .getfield 136), (70, .ireturn), (71, .aload_n 3), (72, .getfield 139), (75, .ireturn), (76, .aload_n 3), (77, .getfield 142), (80, .ireturn), (81, .aload_n 3), (82, .getfield 145), (85, .ireturn), (86, .aload_n 3), (87, .getfield 148), (90, .ireturn), (91, .aload_n 3), (92, .getfield 151), (95, .ireturn)]
set_option maxRecDepth 100000 in
theorem id106 : scan (mCd 106).data.toList 0 il106 = true := by decide +kernel
theorem mm106 : mKd 106 = 1 ∧ mAr 106 = 2 ∧ mMx 106 = 4 := by decide +kernel
theorem mo106 : mOw 106 = 8 := by decide +kernel
theorem mr106 : mRt 106 = some .int := by decide +kernel
theorem mh106 : mHn 106 = [] := by decide +kernel
def il107 : List (Nat × Instr) := [(0, .iload_n 1), (1, .ifCond .lt 14), (4, .iload_n 1), (5, .aload_n 0), (6, .getfield 33), (9, .getfield 90), (12, .if_icmp .lt 11), (15, .new 160), (18, .dup), (19, .invokespecial 162), (22, .athrow), (23, .aload_n 0), (24, .getfield 33), (27, .getfield 236), (30, .iload_n 1), (31, .aaload), (32, .areturn)]
set_option maxRecDepth 100000 in
theorem id107 : scan (mCd 107).data.toList 0 il107 = true := by decide +kernel
theorem mm107 : mKd 107 = 1 ∧ mAr 107 = 1 ∧ mMx 107 = 2 := by decide +kernel
theorem mo107 : mOw 107 = 8 := by decide +kernel
theorem mr107 : mRt 107 = some (.object "LineBalls$Ball") := by decide +kernel
theorem mh107 : mHn 107 = [] := by decide +kernel
def il108 : List (Nat × Instr) := [(0, .aload_n 0), (1, .iload_n 1), (2, .invokevirtual 154), (5, .aload_n 0), (6, .getfield 33), (9, .iload_n 1), (10, .invokevirtual 157), (13, .ireturn)]
set_option maxRecDepth 100000 in
theorem id108 : scan (mCd 108).data.toList 0 il108 = true := by decide +kernel
theorem mm108 : mKd 108 = 1 ∧ mAr 108 = 1 ∧ mMx 108 = 2 := by decide +kernel
theorem mo108 : mOw 108 = 8 := by decide +kernel
theorem mr108 : mRt 108 = some .int := by decide +kernel
theorem mh108 : mHn 108 = [] := by decide +kernel
def il109 : List (Nat × Instr) := [(0, .iload_n 1), (1, .ifCond .lt 14), (4, .iload_n 1), (5, .aload_n 0), (6, .getfield 33), (9, .getfield 100), (12, .if_icmp .lt 11), (15, .new 160), (18, .dup), (19, .invokespecial 162), (22, .athrow), (23, .return_)]
set_option maxRecDepth 100000 in
theorem id109 : scan (mCd 109).data.toList 0 il109 = true := by decide +kernel
theorem mm109 : mKd 109 = 1 ∧ mAr 109 = 1 ∧ mMx 109 = 2 := by decide +kernel
theorem mo109 : mOw 109 = 8 := by decide +kernel
theorem mr109 : mRt 109 = none := by decide +kernel
theorem mh109 : mHn 109 = [] := by decide +kernel
def il110 : List (Nat × Instr) := [(0, .iload_n 1), (1, .ifCond .ge 11), (4, .new 160), (7, .dup), (8, .invokespecial 162), (11, .athrow), (12, .aload_n 0), (13, .iload_n 1), (14, .invokevirtual 163), (17, .astore_n 3), (18, .iload_n 2), (19, .iconst 0), (20, .iconst 2), (21, .invokestatic 71), (24, .iload_n 2), (25, .ifCond .ne 8), (28, .aload_n 3), (29, .getfield 167), (32, .ireturn), (33, .iload_n 2), (34, .iconst 1), (35, .if_icmp .ne 10), (38, .aload_n 3), (39, .getfield 170), (42, .goto 7), (45, .aload_n 3), (46, .getfield 173), (49, .ireturn)]
set_option maxRecDepth 100000 in
theorem id110 : scan (mCd 110).data.toList 0 il110 = true := by decide +kernel
theorem mm110 : mKd 110 = 1 ∧ mAr 110 = 2 ∧ mMx 110 = 4 := by decide +kernel
theorem mo110 : mOw 110 = 8 := by decide +kernel
theorem mr110 : mRt 110 = some .int := by decide +kernel
theorem mh110 : mHn 110 = [] := by decide +kernel
def il111 : List (Nat × Instr) := [(0, .iload_n 1), (1, .bipush (-2)), (3, .if_icmp .lt 14), (6, .iload_n 1), (7, .aload_n 0), (8, .getfield 33), (11, .getfield 103), (14, .if_icmp .lt 11), (17, .new 160), (20, .dup), (21, .invokespecial 162), (24, .athrow), (25, .iload_n 1), (26, .ifCond .lt 13), (29, .aload_n 0), (30, .getfield 33), (33, .getfield 327), (36, .iload_n 1), (37, .aaload), (38, .areturn), (39, .iload_n 1), (40, .iconst (-1)), (41, .if_icmp .ne 13), (44, .aload_n 0), (45, .getfield 33), (48, .getfield 178), (51, .goto 10), (54, .aload_n 0), (55, .getfield 33), (58, .getfield 174), (61, .areturn)]
set_option maxRecDepth 100000 in
theorem id111 : scan (mCd 111).data.toList 0 il111 = true := by decide +kernel
theorem mm111 : mKd 111 = 1 ∧ mAr 111 = 1 ∧ mMx 111 = 2 := by decide +kernel
theorem mo111 : mOw 111 = 8 := by decide +kernel
theorem mr111 : mRt 111 = some (.object "LineBalls$Barrier") := by decide +kernel
theorem mh111 : mHn 111 = [] := by decide +kernel
def il112 : List (Nat × Instr) := [(0, .iload_n 2), (1, .iconst 0), (2, .iconst 1), (3, .invokestatic 71), (6, .iload_n 1), (7, .ifCond .eq 13), (10, .aload_n 0), (11, .getfield 33), (14, .getfield 174), (17, .goto 10), (20, .aload_n 0), (21, .getfield 33), (24, .getfield 178), (27, .astore_n 3), (28, .iload_n 2), (29, .ifCond .ne 10), (32, .aload_n 3), (33, .getfield 170), (36, .goto 7), (39, .aload_n 3), (40, .getfield 173), (43, .ireturn)]
set_option maxRecDepth 100000 in
theorem id112 : scan (mCd 112).data.toList 0 il112 = true := by decide +kernel
theorem mm112 : mKd 112 = 1 ∧ mAr 112 = 2 ∧ mMx 112 = 4 := by decide +kernel
theorem mo112 : mOw 112 = 8 := by decide +kernel
theorem mr112 : mRt 112 = some .int := by decide +kernel
theorem mh112 : mHn 112 = [] := by decide +kernel
def il113 : List (Nat × Instr) := [(0, .iload_n 1), (1, .ifCond .lt 14), (4, .iload_n 1), (5, .aload_n 0), (6, .getfield 33), (9, .getfield 90), (12, .if_icmp .lt 11), (15, .new 181), (18, .dup), (19, .invokespecial 183), (22, .athrow), (23, .aload_n 0), (24, .getfield 33), (27, .getfield 184), (30, .iload_n 1), (31, .iaload), (32, .ireturn)]
set_option maxRecDepth 100000 in
theorem id113 : scan (mCd 113).data.toList 0 il113 = true := by decide +kernel
theorem mm113 : mKd 113 = 1 ∧ mAr 113 = 1 ∧ mMx 113 = 2 := by decide +kernel
theorem mo113 : mOw 113 = 8 := by decide +kernel
theorem mr113 : mRt 113 = some .int := by decide +kernel
theorem mh113 : mHn 113 = [] := by decide +kernel
def il114 : List (Nat × Instr) := [(0, .aload_n 0), (1, .invokespecial 3), (4, .return_)]
set_option maxRecDepth 100000 in
theorem id114 : scan (mCd 114).data.toList 0 il114 = true := by decide +kernel
theorem mm114 : mKd 114 = 2 ∧ mAr 114 = 0 ∧ mMx 114 = 1 := by decide +kernel
theorem mo114 : mOw 114 = 0 := by decide +kernel
theorem mr114 : mRt 114 = none := by decide +kernel
theorem mh114 : mHn 114 = [] := by decide +kernel
def il115 : List (Nat × Instr) := [(0, .aload_n 0), (1, .invokespecial 3), (4, .return_)]
set_option maxRecDepth 100000 in
theorem id115 : scan (mCd 115).data.toList 0 il115 = true := by decide +kernel
theorem mm115 : mKd 115 = 2 ∧ mAr 115 = 0 ∧ mMx 115 = 1 := by decide +kernel
theorem mo115 : mOw 115 = 0 := by decide +kernel
theorem mr115 : mRt 115 = none := by decide +kernel
theorem mh115 : mHn 115 = [] := by decide +kernel
def il116 : List (Nat × Instr) := [(0, .aload_n 0), (1, .iload_n 1), (2, .invokevirtual 124), (5, .pop), (6, .aload_n 0), (7, .iload_n 2), (8, .invokevirtual 124), (11, .pop), (12, .aload_n 0), (13, .getfield 33), (16, .getfield 192), (19, .iload_n 1), (20, .iload_n 2), (21, .invokevirtual 196), (24, .ireturn)]
set_option maxRecDepth 100000 in
theorem id116 : scan (mCd 116).data.toList 0 il116 = true := by decide +kernel
theorem mm116 : mKd 116 = 1 ∧ mAr 116 = 2 ∧ mMx 116 = 3 := by decide +kernel
theorem mo116 : mOw 116 = 8 := by decide +kernel
theorem mr116 : mRt 116 = some .int := by decide +kernel
theorem mh116 : mHn 116 = [] := by decide +kernel
def il117 : List (Nat × Instr) := [(0, .aload_n 0), (1, .invokespecial 3), (4, .return_)]
set_option maxRecDepth 100000 in
theorem id117 : scan (mCd 117).data.toList 0 il117 = true := by decide +kernel
theorem mm117 : mKd 117 = 2 ∧ mAr 117 = 0 ∧ mMx 117 = 1 := by decide +kernel
theorem mo117 : mOw 117 = 0 := by decide +kernel
theorem mr117 : mRt 117 = none := by decide +kernel
theorem mh117 : mHn 117 = [] := by decide +kernel
def il118 : List (Nat × Instr) := [(0, .aload_n 0), (1, .invokespecial 3), (4, .return_)]
set_option maxRecDepth 100000 in
theorem id118 : scan (mCd 118).data.toList 0 il118 = true := by decide +kernel
theorem mm118 : mKd 118 = 2 ∧ mAr 118 = 0 ∧ mMx 118 = 1 := by decide +kernel
theorem mo118 : mOw 118 = 0 := by decide +kernel
theorem mr118 : mRt 118 = none := by decide +kernel
theorem mh118 : mHn 118 = [] := by decide +kernel
def il119 : List (Nat × Instr) := [(0, .iload_n 1), (1, .iconst 0), (2, .iconst 4), (3, .invokestatic 71), (6, .iload_n 1), (7, .tableswitch 69 0 3 #[29, 38, 47, 58]), (36, .aload_n 0), (37, .getfield 33), (40, .invokevirtual 216), (43, .i2l), (44, .lreturn), (45, .aload_n 0), (46, .getfield 33), (49, .invokevirtual 219), (52, .i2l), (53, .lreturn), (54, .aload_n 0), (55, .getfield 33), (58, .getfield 192), (61, .getfield 222), (64, .lreturn), (65, .aload_n 0), (66, .getfield 33), (69, .getfield 192), (72, .getfield 226), (75, .lreturn), (76, .aload_n 0), (77, .getfield 33), (80, .getfield 192), (83, .getfield 229), (86, .lreturn)]
set_option maxRecDepth 100000 in
theorem id119 : scan (mCd 119).data.toList 0 il119 = true := by decide +kernel
theorem mm119 : mKd 119 = 1 ∧ mAr 119 = 1 ∧ mMx 119 = 2 := by decide +kernel
theorem mo119 : mOw 119 = 8 := by decide +kernel
theorem mr119 : mRt 119 = some .long := by decide +kernel
theorem mh119 : mHn 119 = [] := by decide +kernel
def il120 : List (Nat × Instr) := [(0, .iload_n 1), (1, .iconst 0), (2, .iconst 3), (3, .invokestatic 71), (6, .iload_n 1), (7, .tableswitch 58 0 2 #[25, 36, 47]), (32, .aload_n 0), (33, .getfield 33), (36, .getfield 192), (39, .getfield 232), (42, .ireturn), (43, .aload_n 0), (44, .getfield 33), (47, .getfield 192), (50, .getfield 233), (53, .ireturn), (54, .aload_n 0), (55, .getfield 33), (58, .getfield 192), (61, .getfield 234), (64, .ireturn), (65, .aload_n 0), (66, .getfield 33), (69, .getfield 192), (72, .getfield 235), (75, .ireturn)]
set_option maxRecDepth 100000 in
theorem id120 : scan (mCd 120).data.toList 0 il120 = true := by decide +kernel
theorem mm120 : mKd 120 = 1 ∧ mAr 120 = 1 ∧ mMx 120 = 2 := by decide +kernel
theorem mo120 : mOw 120 = 8 := by decide +kernel
theorem mr120 : mRt 120 = some .int := by decide +kernel
theorem mh120 : mHn 120 = [] := by decide +kernel
def il121 : List (Nat × Instr) := [(0, .aload_n 0), (1, .invokespecial 3), (4, .return_)]
set_option maxRecDepth 100000 in
theorem id121 : scan (mCd 121).data.toList 0 il121 = true := by decide +kernel
theorem mm121 : mKd 121 = 2 ∧ mAr 121 = 0 ∧ mMx 121 = 1 := by decide +kernel
theorem mo121 : mOw 121 = 0 := by decide +kernel
theorem mr121 : mRt 121 = none := by decide +kernel
theorem mh121 : mHn 121 = [] := by decide +kernel
def il122 : List (Nat × Instr) := [(0, .aload_n 0), (1, .invokespecial 3), (4, .return_)]
set_option maxRecDepth 100000 in
theorem id122 : scan (mCd 122).data.toList 0 il122 = true := by decide +kernel
theorem mm122 : mKd 122 = 2 ∧ mAr 122 = 0 ∧ mMx 122 = 1 := by decide +kernel
theorem mo122 : mOw 122 = 0 := by decide +kernel
theorem mr122 : mRt 122 = none := by decide +kernel
theorem mh122 : mHn 122 = [] := by decide +kernel
def il123 : List (Nat × Instr) := [(0, .aload_n 0), (1, .invokespecial 3), (4, .return_)]
set_option maxRecDepth 100000 in
theorem id123 : scan (mCd 123).data.toList 0 il123 = true := by decide +kernel
theorem mm123 : mKd 123 = 2 ∧ mAr 123 = 0 ∧ mMx 123 = 1 := by decide +kernel
theorem mo123 : mOw 123 = 0 := by decide +kernel
theorem mr123 : mRt 123 = none := by decide +kernel
theorem mh123 : mHn 123 = [] := by decide +kernel
def il124 : List (Nat × Instr) := [(0, .aload_n 0), (1, .invokespecial 3), (4, .return_)]
set_option maxRecDepth 100000 in
theorem id124 : scan (mCd 124).data.toList 0 il124 = true := by decide +kernel
theorem mm124 : mKd 124 = 2 ∧ mAr 124 = 0 ∧ mMx 124 = 1 := by decide +kernel
theorem mo124 : mOw 124 = 0 := by decide +kernel
theorem mr124 : mRt 124 = none := by decide +kernel
theorem mh124 : mHn 124 = [] := by decide +kernel
def il125 : List (Nat × Instr) := [(0, .aload_n 0), (1, .invokespecial 3), (4, .return_)]
set_option maxRecDepth 100000 in
theorem id125 : scan (mCd 125).data.toList 0 il125 = true := by decide +kernel
theorem mm125 : mKd 125 = 2 ∧ mAr 125 = 0 ∧ mMx 125 = 1 := by decide +kernel
theorem mo125 : mOw 125 = 0 := by decide +kernel
theorem mr125 : mRt 125 = none := by decide +kernel
theorem mh125 : mHn 125 = [] := by decide +kernel
def il126 : List (Nat × Instr) := [(0, .aload_n 0), (1, .invokespecial 3), (4, .return_)]
set_option maxRecDepth 100000 in
theorem id126 : scan (mCd 126).data.toList 0 il126 = true := by decide +kernel
theorem mm126 : mKd 126 = 2 ∧ mAr 126 = 0 ∧ mMx 126 = 1 := by decide +kernel
theorem mo126 : mOw 126 = 0 := by decide +kernel
theorem mr126 : mRt 126 = none := by decide +kernel
theorem mh126 : mHn 126 = [] := by decide +kernel
def il127 : List (Nat × Instr) := [(0, .aload_n 0), (1, .invokespecial 3), (4, .return_)]
set_option maxRecDepth 100000 in
theorem id127 : scan (mCd 127).data.toList 0 il127 = true := by decide +kernel
theorem mm127 : mKd 127 = 2 ∧ mAr 127 = 0 ∧ mMx 127 = 1 := by decide +kernel
theorem mo127 : mOw 127 = 0 := by decide +kernel
theorem mr127 : mRt 127 = none := by decide +kernel
theorem mh127 : mHn 127 = [] := by decide +kernel
def il128 : List (Nat × Instr) := [(0, .aload_n 0), (1, .invokespecial 3), (4, .return_)]
set_option maxRecDepth 100000 in
theorem id128 : scan (mCd 128).data.toList 0 il128 = true := by decide +kernel
theorem mm128 : mKd 128 = 2 ∧ mAr 128 = 0 ∧ mMx 128 = 1 := by decide +kernel
theorem mo128 : mOw 128 = 0 := by decide +kernel
theorem mr128 : mRt 128 = none := by decide +kernel
theorem mh128 : mHn 128 = [] := by decide +kernel
def il129 : List (Nat × Instr) := [(0, .aload_n 0), (1, .invokespecial 3), (4, .return_)]
set_option maxRecDepth 100000 in
theorem id129 : scan (mCd 129).data.toList 0 il129 = true := by decide +kernel
theorem mm129 : mKd 129 = 2 ∧ mAr 129 = 0 ∧ mMx 129 = 1 := by decide +kernel
theorem mo129 : mOw 129 = 0 := by decide +kernel
theorem mr129 : mRt 129 = none := by decide +kernel
theorem mh129 : mHn 129 = [] := by decide +kernel
def il130 : List (Nat × Instr) := [(0, .aload_n 0), (1, .invokespecial 3), (4, .return_)]
set_option maxRecDepth 100000 in
theorem id130 : scan (mCd 130).data.toList 0 il130 = true := by decide +kernel
theorem mm130 : mKd 130 = 2 ∧ mAr 130 = 0 ∧ mMx 130 = 1 := by decide +kernel
theorem mo130 : mOw 130 = 0 := by decide +kernel
theorem mr130 : mRt 130 = none := by decide +kernel
theorem mh130 : mHn 130 = [] := by decide +kernel
def il131 : List (Nat × Instr) := [(0, .aload_n 0), (1, .invokespecial 3), (4, .return_)]
set_option maxRecDepth 100000 in
theorem id131 : scan (mCd 131).data.toList 0 il131 = true := by decide +kernel
theorem mm131 : mKd 131 = 2 ∧ mAr 131 = 0 ∧ mMx 131 = 1 := by decide +kernel
theorem mo131 : mOw 131 = 0 := by decide +kernel
theorem mr131 : mRt 131 = none := by decide +kernel
theorem mh131 : mHn 131 = [] := by decide +kernel
def il132 : List (Nat × Instr) := [(0, .aload_n 0), (1, .invokespecial 3), (4, .return_)]
set_option maxRecDepth 100000 in
theorem id132 : scan (mCd 132).data.toList 0 il132 = true := by decide +kernel
theorem mm132 : mKd 132 = 2 ∧ mAr 132 = 0 ∧ mMx 132 = 1 := by decide +kernel
theorem mo132 : mOw 132 = 0 := by decide +kernel
theorem mr132 : mRt 132 = none := by decide +kernel
theorem mh132 : mHn 132 = [] := by decide +kernel
def il133 : List (Nat × Instr) := [(0, .iload_n 1), (1, .iconst 1), (2, .sipush 600), (5, .invokestatic 71), (8, .aload_n 0), (9, .getfield 52), (12, .aload_n 0), (13, .getfield 33), (16, .invokevirtual 83), (19, .aload_n 0), (20, .getfield 33), (23, .iload_n 1), (24, .invokevirtual 266), (27, .ireturn)]
set_option maxRecDepth 100000 in
theorem id133 : scan (mCd 133).data.toList 0 il133 = true := by decide +kernel
theorem mm133 : mKd 133 = 1 ∧ mAr 133 = 1 ∧ mMx 133 = 2 := by decide +kernel
theorem mo133 : mOw 133 = 8 := by decide +kernel
theorem mr133 : mRt 133 = some .int := by decide +kernel
theorem mh133 : mHn 133 = [] := by decide +kernel
def il134 : List (Nat × Instr) := [(0, .iload_n 1), (1, .iconst 1), (2, .bipush 50), (4, .invokestatic 71), (7, .aload_n 0), (8, .getfield 52), (11, .aload_n 0), (12, .getfield 33), (15, .invokevirtual 83), (18, .aload_n 0), (19, .getfield 33), (22, .iload_n 1), (23, .bipush 60), (25, .imul), (26, .invokevirtual 266), (29, .ireturn)]
set_option maxRecDepth 100000 in
theorem id134 : scan (mCd 134).data.toList 0 il134 = true := by decide +kernel
theorem mm134 : mKd 134 = 1 ∧ mAr 134 = 1 ∧ mMx 134 = 2 := by decide +kernel
theorem mo134 : mOw 134 = 8 := by decide +kernel
theorem mr134 : mRt 134 = some .int := by decide +kernel
theorem mh134 : mHn 134 = [] := by decide +kernel
def il135 : List (Nat × Instr) := [(0, .aload_n 0), (1, .iload_n 1), (2, .invokevirtual 124), (5, .astore_n 3), (6, .iload_n 2), (7, .bipush (-60)), (9, .bipush 60), (11, .invokestatic 71), (14, .aload_n 0), (15, .getfield 52), (18, .aload_n 0), (19, .getfield 33), (22, .invokevirtual 83), (25, .aload_n 0), (26, .getfield 33), (29, .invokevirtual 216), (32, .istore 4), (34, .aload_n 3), (35, .bipush (-60)), (37, .bipush 60), (39, .aload_n 3), (40, .getfield 133), (43, .iload_n 2), (44, .iadd), (45, .invokestatic 275), (48, .invokestatic 280), (51, .putfield 133), (54, .aload_n 0), (55, .getfield 33), (58, .iload 4), (60, .invokevirtual 283), (63, .aload_n 3), (64, .getfield 133), (67, .ireturn)]
set_option maxRecDepth 100000 in
theorem id135 : scan (mCd 135).data.toList 0 il135 = true := by decide +kernel
theorem mm135 : mKd 135 = 1 ∧ mAr 135 = 2 ∧ mMx 135 = 5 := by decide +kernel
theorem mo135 : mOw 135 = 8 := by decide +kernel
theorem mr135 : mRt 135 = some .int := by decide +kernel
theorem mh135 : mHn 135 = [] := by decide +kernel
def il136 : List (Nat × Instr) := [(0, .aload_n 0), (1, .iload_n 1), (2, .invokevirtual 124), (5, .astore_n 3), (6, .iload_n 2), (7, .iconst 1), (8, .bipush 20), (10, .invokestatic 71), (13, .aload_n 0), (14, .getfield 52), (17, .aload_n 0), (18, .getfield 33), (21, .invokevirtual 83), (24, .aload_n 0), (25, .getfield 33), (28, .invokevirtual 216), (31, .istore 4), (33, .aload_n 3), (34, .getfield 136), (37, .istore 5), (39, .aload_n 3), (40, .iload_n 2), (41, .putfield 136), (44, .aload_n 0), (45, .getfield 33), (48, .iload 4), (50, .invokevirtual 283), (53, .iload 5), (55, .ireturn)]
set_option maxRecDepth 100000 in
theorem id136 : scan (mCd 136).data.toList 0 il136 = true := by decide +kernel
theorem mm136 : mKd 136 = 1 ∧ mAr 136 = 2 ∧ mMx 136 = 6 := by decide +kernel
theorem mo136 : mOw 136 = 8 := by decide +kernel
theorem mr136 : mRt 136 = some .int := by decide +kernel
theorem mh136 : mHn 136 = [] := by decide +kernel
def il137 : List (Nat × Instr) := [(0, .aload_n 0), (1, .iload_n 1), (2, .invokevirtual 163), (5, .astore_n 3), (6, .iload_n 2), (7, .iconst 0), (8, .bipush 100), (10, .invokestatic 71), (13, .aload_n 0), (14, .getfield 52), (17, .aload_n 0), (18, .getfield 33), (21, .invokevirtual 83), (24, .aload_n 3), (25, .getfield 170), (28, .istore 4), (30, .aload_n 3), (31, .iload_n 2), (32, .putfield 170), (35, .iload 4), (37, .ireturn)]
set_option maxRecDepth 100000 in
theorem id137 : scan (mCd 137).data.toList 0 il137 = true := by decide +kernel
theorem mm137 : mKd 137 = 1 ∧ mAr 137 = 2 ∧ mMx 137 = 5 := by decide +kernel
theorem mo137 : mOw 137 = 8 := by decide +kernel
theorem mr137 : mRt 137 = some .int := by decide +kernel
theorem mh137 : mHn 137 = [] := by decide +kernel
def il138 : List (Nat × Instr) := [(0, .aload_n 0), (1, .iload_n 1), (2, .invokevirtual 154), (5, .iload_n 2), (6, .bipush (-60)), (8, .bipush 60), (10, .invokestatic 71), (13, .iload_n 3), (14, .iconst 1), (15, .bipush 20), (17, .invokestatic 71), (20, .aload_n 0), (21, .getfield 33), (24, .getfield 90), (27, .bipush 10), (29, .if_icmp .ge 14), (32, .aload_n 0), (33, .getfield 33), (36, .iload_n 1), (37, .invokevirtual 286), (40, .ifCond .eq 11), (43, .new 64), (46, .dup), (47, .invokespecial 66), (50, .athrow), (51, .aload_n 0), (52, .getfield 52), (55, .aload_n 0), (56, .getfield 33), (59, .invokevirtual 83), (62, .aload_n 0), (63, .getfield 33), (66, .invokevirtual 216), (69, .istore 4), (71, .aload_n 0), (72, .getfield 33), (75, .iconst 0), (76, .iload_n 1), (77, .iload_n 2), (78, .iload_n 3), (79, .invokevirtual 290), (82, .aload_n 0), (83, .getfield 33), (86, .iload 4), (88, .invokevirtual 283), (91, .aload_n 0), (92, .getfield 33), (95, .getfield 90), (98, .iconst 1), (99, .isub), (100, .ireturn)]
set_option maxRecDepth 100000 in
theorem id138 : scan (mCd 138).data.toList 0 il138 = true := by decide +kernel
theorem mm138 : mKd 138 = 1 ∧ mAr 138 = 3 ∧ mMx 138 = 5 := by decide +kernel
theorem mo138 : mOw 138 = 8 := by decide +kernel
theorem mr138 : mRt 138 = some .int := by decide +kernel
theorem mh138 : mHn 138 = [] := by decide +kernel
def il139 : List (Nat × Instr) := [(0, .aload_n 0), (1, .iload_n 1), (2, .invokevirtual 124), (5, .pop), (6, .aload_n 0), (7, .getfield 52), (10, .aload_n 0), (11, .getfield 33), (14, .invokevirtual 83), (17, .aload_n 0), (18, .getfield 33), (21, .invokevirtual 216), (24, .istore_n 2), (25, .aload_n 0), (26, .getfield 33), (29, .iload_n 1), (30, .invokevirtual 294), (33, .aload_n 0), (34, .getfield 33), (37, .iload_n 2), (38, .invokevirtual 283), (41, .aload_n 0), (42, .getfield 33), (45, .getfield 90), (48, .ireturn)]
set_option maxRecDepth 100000 in
theorem id139 : scan (mCd 139).data.toList 0 il139 = true := by decide +kernel
theorem mm139 : mKd 139 = 1 ∧ mAr 139 = 1 ∧ mMx 139 = 3 := by decide +kernel
theorem mo139 : mOw 139 = 8 := by decide +kernel
theorem mr139 : mRt 139 = some .int := by decide +kernel
theorem mh139 : mHn 139 = [] := by decide +kernel
def il140 : List (Nat × Instr) := [(0, .aload_n 0), (1, .iload_n 1), (2, .invokevirtual 124), (5, .astore_n 2), (6, .aload_n 0), (7, .getfield 52), (10, .aload_n 0), (11, .getfield 33), (14, .invokevirtual 83), (17, .aload_n 0), (18, .getfield 33), (21, .invokevirtual 216), (24, .istore_n 3), (25, .aload_n 2), (26, .aload_n 2), (27, .getfield 133), (30, .ineg), (31, .putfield 133), (34, .aload_n 0), (35, .getfield 33), (38, .iload_n 3), (39, .invokevirtual 283), (42, .aload_n 2), (43, .getfield 133), (46, .ireturn)]
set_option maxRecDepth 100000 in
theorem id140 : scan (mCd 140).data.toList 0 il140 = true := by decide +kernel
theorem mm140 : mKd 140 = 1 ∧ mAr 140 = 1 ∧ mMx 140 = 4 := by decide +kernel
theorem mo140 : mOw 140 = 8 := by decide +kernel
theorem mr140 : mRt 140 = some .int := by decide +kernel
theorem mh140 : mHn 140 = [] := by decide +kernel
def il141 : List (Nat × Instr) := [(0, .aload_n 0), (1, .iload_n 1), (2, .invokevirtual 124), (5, .astore_n 3), (6, .aload_n 0), (7, .iload_n 2), (8, .invokevirtual 154), (11, .iload_n 2), (12, .aload_n 3), (13, .getfield 128), (16, .if_icmp .eq 22), (19, .aload_n 0), (20, .getfield 33), (23, .iload_n 2), (24, .invokevirtual 286), (27, .ifCond .eq 11), (30, .new 64), (33, .dup), (34, .invokespecial 66), (37, .athrow), (38, .aload_n 0), (39, .getfield 52), (42, .aload_n 0), (43, .getfield 33), (46, .invokevirtual 83), (49, .aload_n 3), (50, .getfield 128), (53, .istore 4), (55, .aload_n 3), (56, .iload_n 2), (57, .putfield 128), (60, .aload_n 0), (61, .getfield 33), (64, .invokevirtual 297), (67, .iload 4), (69, .ireturn)]
set_option maxRecDepth 100000 in
theorem id141 : scan (mCd 141).data.toList 0 il141 = true := by decide +kernel
theorem mm141 : mKd 141 = 1 ∧ mAr 141 = 2 ∧ mMx 141 = 5 := by decide +kernel
theorem mo141 : mOw 141 = 8 := by decide +kernel
theorem mr141 : mRt 141 = some .int := by decide +kernel
theorem mh141 : mHn 141 = [] := by decide +kernel
def il142 : List (Nat × Instr) := [(0, .aload_n 0), (1, .invokespecial 3), (4, .return_)]
set_option maxRecDepth 100000 in
theorem id142 : scan (mCd 142).data.toList 0 il142 = true := by decide +kernel
theorem mm142 : mKd 142 = 2 ∧ mAr 142 = 0 ∧ mMx 142 = 1 := by decide +kernel
theorem mo142 : mOw 142 = 0 := by decide +kernel
theorem mr142 : mRt 142 = none := by decide +kernel
theorem mh142 : mHn 142 = [] := by decide +kernel
def il143 : List (Nat × Instr) := [(0, .aload_n 0), (1, .invokespecial 3), (4, .return_)]
set_option maxRecDepth 100000 in
theorem id143 : scan (mCd 143).data.toList 0 il143 = true := by decide +kernel
theorem mm143 : mKd 143 = 2 ∧ mAr 143 = 0 ∧ mMx 143 = 1 := by decide +kernel
theorem mo143 : mOw 143 = 0 := by decide +kernel
theorem mr143 : mRt 143 = none := by decide +kernel
theorem mh143 : mHn 143 = [] := by decide +kernel
def il144 : List (Nat × Instr) := [(0, .aload_n 0), (1, .invokespecial 3), (4, .return_)]
set_option maxRecDepth 100000 in
theorem id144 : scan (mCd 144).data.toList 0 il144 = true := by decide +kernel
theorem mm144 : mKd 144 = 2 ∧ mAr 144 = 0 ∧ mMx 144 = 1 := by decide +kernel
theorem mo144 : mOw 144 = 0 := by decide +kernel
theorem mr144 : mRt 144 = none := by decide +kernel
theorem mh144 : mHn 144 = [] := by decide +kernel
def il145 : List (Nat × Instr) := [(0, .aload_n 0), (1, .invokespecial 3), (4, .return_)]
set_option maxRecDepth 100000 in
theorem id145 : scan (mCd 145).data.toList 0 il145 = true := by decide +kernel
theorem mm145 : mKd 145 = 2 ∧ mAr 145 = 0 ∧ mMx 145 = 1 := by decide +kernel
theorem mo145 : mOw 145 = 0 := by decide +kernel
theorem mr145 : mRt 145 = none := by decide +kernel
theorem mh145 : mHn 145 = [] := by decide +kernel
def il146 : List (Nat × Instr) := [(0, .aload_n 0), (1, .invokespecial 3), (4, .return_)]
set_option maxRecDepth 100000 in
theorem id146 : scan (mCd 146).data.toList 0 il146 = true := by decide +kernel
theorem mm146 : mKd 146 = 2 ∧ mAr 146 = 0 ∧ mMx 146 = 1 := by decide +kernel
theorem mo146 : mOw 146 = 0 := by decide +kernel
theorem mr146 : mRt 146 = none := by decide +kernel
theorem mh146 : mHn 146 = [] := by decide +kernel
def il147 : List (Nat × Instr) := [(0, .iload_n 1), (1, .aload_n 0), (2, .arraylength), (3, .if_icmp .ge 9), (6, .aload_n 0), (7, .iload_n 1), (8, .iaload), (9, .goto 4), (12, .iconst 0), (13, .ldc 7), (15, .iand), (16, .iload_n 2), (17, .irem), (18, .ireturn)]
set_option maxRecDepth 100000 in
theorem id147 : scan (mCd 147).data.toList 0 il147 = true := by decide +kernel
theorem mm147 : mKd 147 = 0 ∧ mAr 147 = 3 ∧ mMx 147 = 3 := by decide +kernel
theorem mo147 : mOw 147 = 11 := by decide +kernel
theorem mr147 : mRt 147 = some .int := by decide +kernel
theorem mh147 : mHn 147 = [] := by decide +kernel
def il148 : List (Nat × Instr) := [(0, .iconst 0), (1, .istore_n 2), (2, .iconst 0), (3, .istore_n 3), (4, .iload_n 3), (5, .iconst 4), (6, .if_icmp .ge 36), (9, .iload_n 2), (10, .bipush 8), (12, .ishl), (13, .iload_n 1), (14, .iload_n 3), (15, .iadd), (16, .aload_n 0), (17, .invokevirtual 8), (20, .if_icmp .ge 13), (23, .aload_n 0), (24, .iload_n 1), (25, .iload_n 3), (26, .iadd), (27, .invokevirtual 14), (30, .goto 4), (33, .iconst 0), (34, .ior), (35, .istore_n 2), (36, .iinc 3 1), (39, .goto (-35)), (42, .iload_n 2), (43, .ireturn)]
set_option maxRecDepth 100000 in
theorem id148 : scan (mCd 148).data.toList 0 il148 = true := by decide +kernel
theorem mm148 : mKd 148 = 0 ∧ mAr 148 = 2 ∧ mMx 148 = 4 := by decide +kernel
theorem mo148 : mOw 148 = 11 := by decide +kernel
theorem mr148 : mRt 148 = some .int := by decide +kernel
theorem mh148 : mHn 148 = [] := by decide +kernel
def il149 : List (Nat × Instr) := [(0, .iconst 0), (1, .istore_n 2), (2, .iconst 0), (3, .istore_n 3), (4, .iload_n 3), (5, .aload_n 1), (6, .invokevirtual 8), (9, .if_icmp .lt 7), (12, .iload_n 3), (13, .ifCond .ne 50), (16, .aload_n 0), (17, .aload_n 1), (18, .iload_n 3), (19, .invokestatic 18), (22, .aload_n 1), (23, .iload_n 3), (24, .iconst 4), (25, .iadd), (26, .invokestatic 18), (29, .aload_n 1), (30, .iload_n 3), (31, .bipush 8), (33, .iadd), (34, .invokestatic 18), (37, .aload_n 1), (38, .iload_n 3), (39, .bipush 12), (41, .iadd), (42, .invokestatic 18), (45, .aload_n 1), (46, .iload_n 3), (47, .bipush 16), (49, .iadd), (50, .invokestatic 18), (53, .invokevirtual 24), (56, .istore_n 2), (57, .iinc 3 20), (60, .goto (-56)), (63, .aload_n 0), (64, .iload_n 2), (65, .aload_n 1), (66, .invokevirtual 8), (69, .invokestatic 30), (72, .invokevirtual 36), (75, .return_)]
set_option maxRecDepth 100000 in
theorem id149 : scan (mCd 149).data.toList 0 il149 = true := by decide +kernel
theorem mm149 : mKd 149 = 0 ∧ mAr 149 = 2 ∧ mMx 149 = 4 := by decide +kernel
theorem mo149 : mOw 149 = 11 := by decide +kernel
theorem mr149 : mRt 149 = none := by decide +kernel
theorem mh149 : mHn 149 = [] := by decide +kernel
def il150 : List (Nat × Instr) := [(0, .bipush 97), (2, .iload_n 0), (3, .iadd), (4, .i2c), (5, .ireturn)]
set_option maxRecDepth 100000 in
theorem id150 : scan (mCd 150).data.toList 0 il150 = true := by decide +kernel
theorem mm150 : mKd 150 = 0 ∧ mAr 150 = 1 ∧ mMx 150 = 1 := by decide +kernel
theorem mo150 : mOw 150 = 11 := by decide +kernel
theorem mr150 : mRt 150 = some .char := by decide +kernel
theorem mh150 : mHn 150 = [] := by decide +kernel
set_option maxRecDepth 100000 in
def il151 : List (Nat × Instr) := [(0, .bipush 10), (2, .aload_n 1), (3, .iconst 0), (4, .aload_n 1), (5, .iconst 1), (6, .iconst 2), (7, .invokestatic 40), (10, .ifCond .ne 8), (13, .bipush 8), (15, .goto 5), (18, .bipush 40), (20, .invokestatic 40), (23, .iadd), (24, .istore_n 2), (25, .new 44), (28, .dup), (29, .ldc 46), (31, .invokespecial 48), (34, .iload_n 2), (35, .invokevirtual 51), (38, .astore_n 3), (39, .aload_n 1), (40, .iconst 2), (41, .iconst 2), (42, .invokestatic 40), (45, .ifCond .ne 35), (48, .aload_n 3), (49, .ldc 54), (51, .invokevirtual 56), (54, .aload_n 1), (55, .iconst 3), (56, .bipush 101), (58, .invokestatic 40), (61, .invokevirtual 51), (64, .ldc 59), (66, .invokevirtual 56), (69, .aload_n 1), (70, .iconst 4), (71, .bipush 60), (73, .invokestatic 40), (76, .invokevirtual 51), (79, .pop), (80, .aload_n 3), (81, .ldc 61), (83, .invokevirtual 56), (86, .pop), (87, .iload_n 2), (88, .newarray .boolean), (90, .astore 4), (92, .iconst 0), (93, .istore 5), (95, .iconst 0), (96, .istore 6), (98, .iload 6), (100, .aload_n 1), (101, .iconst 5), (102, .iconst 3), (103, .invokestatic 40), (106, .if_icmp .ge 77), (109, .aload_n 1), (110, .bipush 6), (112, .iload 6), (114, .iadd), (115, .iload_n 2), (116, .invokestatic 40), (119, .istore 7), (121, .aload 4), (123, .iload 7), (125, .baload), (126, .ifCond .eq 6), (129, .goto 48), (132, .aload 4), (134, .iload 7), (136, .iconst 1), (137, .bastore), (138, .aload_n 3), (139, .ldc 63), (141, .invokevirtual 56), (144, .iload 7), (146, .invokevirtual 51), (149, .ldc 54), (151, .invokevirtual 56), (154, .aload_n 1), (155, .bipush 8), (157, .iload 6), (159, .iadd), (160, .bipush 80), (162, .invokestatic 40), (165, .invokevirtual 51), (168, .ldc 61), (170, .invokevirtual 56), (173, .pop), (174, .iinc 5 1), (177, .iinc 6 1), (180, .goto (-82)), (183, .iconst 0), (184, .istore 6), (186, .iconst 0), (187, .istore 7), (189, .iload 7), (191, .aload_n 1), (192, .bipush 10), (194, .bipush 7), (196, .invokestatic 40), (199, .if_icmp .ge 132), (202, .aload_n 1), (203, .bipush 11), (205, .iload 7), (207, .iadd), (208, .iload_n 2), (209, .invokestatic 40), (212, .istore 8), (214, .aload 4), (216, .iload 8), (218, .baload), (219, .ifCond .eq 6), (222, .goto 103), (225, .aload 4), (227, .iload 8), (229, .iconst 1), (230, .bastore), (231, .aload_n 1), (232, .bipush 17), (234, .iload 7), (236, .iadd), (237, .bipush 121), (239, .invokestatic 40), (242, .bipush 60), (244, .isub), (245, .istore 9), (247, .aload_n 3), (248, .ldc 65), (250, .invokevirtual 56), (253, .iload 6), (255, .invokestatic 67), (258, .invokevirtual 70), (261, .ldc 73), (263, .invokevirtual 56), (266, .iload 8), (268, .invokevirtual 51), (271, .ldc 75), (273, .invokevirtual 56), (276, .iload 9), (278, .invokevirtual 51), (281, .ldc 77), (283, .invokevirtual 56), (286, .iconst 1), (287, .aload_n 1), (288, .bipush 23), (290, .iload 7), (292, .iadd), (293, .aload_n 1), (294, .bipush 29), (296, .iconst 2), (297, .invokestatic 40), (300, .ifCond .ne 7), (303, .iconst 3), (304, .goto 5), (307, .bipush 20), (309, .invokestatic 40), (312, .iadd), (313, .invokevirtual 51), (316, .ldc 61), (318, .invokevirtual 56), (321, .pop), (322, .iinc 6 1), (325, .iinc 7 1), (328, .goto (-139)), (331, .aload_n 0), (332, .aload_n 3), (333, .invokevirtual 79), (336, .invokestatic 83), (339, .aload_n 0), (340, .invokevirtual 87), (343, .iload 6), (345, .if_icmp .ne 59), (348, .aload_n 0), (349, .invokevirtual 90), (352, .ifCond .ne 52), (355, .aload_n 0), (356, .iconst 0), (357, .invokevirtual 93), (360, .iload_n 2), (361, .if_icmp .ne 43), (364, .aload_n 0), (365, .iconst 1), (366, .invokevirtual 93), (369, .iload 6), (371, .if_icmp .ne 33), (374, .aload_n 0), (375, .iconst 2), (376, .invokevirtual 93), (379, .iload 5), (381, .if_icmp .ne 23), (384, .aload_n 0), (385, .iconst 3), (386, .invokevirtual 93), (389, .ifCond .ne 15), (392, .aload_n 0), (393, .iconst 4), (394, .invokevirtual 93), (397, .ifCond .ne 7), (400, .iconst 1), (401, .goto 4), (404, .iconst 0), (405, .ireturn)]
set_option maxRecDepth 100000 in
theorem id151 : scan (mCd 151).data.toList 0 il151 = true := by decide +kernel
theorem mm151 : mKd 151 = 0 ∧ mAr 151 = 2 ∧ mMx 151 = 10 := by decide +kernel
theorem mo151 : mOw 151 = 11 := by decide +kernel
theorem mr151 : mRt 151 = some .boolean := by decide +kernel
theorem mh151 : mHn 151 = [] := by decide +kernel
def il152 : List (Nat × Instr) := [(0, .aload_n 0), (1, .iload_n 1), (2, .iload_n 2), (3, .iload_n 3), (4, .invokevirtual 97), (7, .ireturn), (8, .astore 4), (10, .bipush (-99)), (12, .ireturn)]
set_option maxRecDepth 100000 in
theorem id152 : scan (mCd 152).data.toList 0 il152 = true := by decide +kernel
theorem mm152 : mKd 152 = 0 ∧ mAr 152 = 4 ∧ mMx 152 = 5 := by decide +kernel
theorem mo152 : mOw 152 = 11 := by decide +kernel
theorem mr152 : mRt 152 = some .int := by decide +kernel
def il153 : List (Nat × Instr) := [(0, .aload_n 0), (1, .iload_n 1), (2, .iload_n 2), (3, .invokevirtual 103), (6, .ireturn), (7, .astore_n 3), (8, .bipush (-99)), (10, .ireturn)]
set_option maxRecDepth 100000 in
theorem id153 : scan (mCd 153).data.toList 0 il153 = true := by decide +kernel
theorem mm153 : mKd 153 = 0 ∧ mAr 153 = 3 ∧ mMx 153 = 4 := by decide +kernel
theorem mo153 : mOw 153 = 11 := by decide +kernel
theorem mr153 : mRt 153 = some .int := by decide +kernel
def il154 : List (Nat × Instr) := [(0, .aload_n 1), (1, .iload_n 2), (2, .iconst 1), (3, .iadd), (4, .ldc 106), (6, .invokestatic 40), (9, .istore_n 3), (10, .aload_n 1), (11, .iload_n 2), (12, .iconst 2), (13, .iadd), (14, .ldc 106), (16, .invokestatic 40), (19, .istore 4), (21, .aload_n 0), (22, .iconst 1), (23, .invokevirtual 93), (26, .istore 5), (28, .iload 5), (30, .ifCond .ne 7), (33, .iconst (-1)), (34, .goto 7), (37, .iload_n 3), (38, .iload 5), (40, .irem), (41, .istore 6), (43, .aload_n 1), (44, .iload_n 2), (45, .bipush 20), (47, .invokestatic 40), (50, .tableswitch 305 0 17 #[86, 86, 86, 86, 86, 97, 97, 108, 118, 118, 146, 170, 191, 191, 218, 241, 261, 280]), (136, .aload_n 0), (137, .iconst 1), (138, .iload_n 3), (139, .bipush 12), (141, .irem), (142, .iadd), (143, .invokevirtual 107), (146, .ireturn), (147, .aload_n 0), (148, .iconst 1), (149, .iload_n 3), (150, .bipush 90), (152, .irem), (153, .iadd), (154, .invokevirtual 107), (157, .ireturn), (158, .aload_n 0), (159, .iconst 1), (160, .iload_n 3), (161, .iconst 3), (162, .irem), (163, .iadd), (164, .invokevirtual 110), (167, .ireturn), (168, .iload 6), (170, .ifCond .ge 8), (173, .bipush (-99)), (175, .goto 20), (178, .aload_n 0), (179, .iload 6), (181, .iload 4), (183, .bipush 121), (185, .irem), (186, .bipush 60), (188, .isub), (189, .invokevirtual 113), (192, .bipush 60), (194, .iadd), (195, .ireturn), (196, .iload 6), (198, .ifCond .ge 8), (201, .bipush (-99)), (203, .goto 16), (206, .aload_n 0), (207, .iload 6), (209, .iconst 1), (210, .iload 4), (212, .bipush 20), (214, .irem), (215, .iadd), (216, .invokevirtual 116), (219, .ireturn), (220, .aload_n 0), (221, .iload_n 3), (222, .aload_n 0), (223, .iconst 2), (224, .invokevirtual 93), (227, .iconst 2), (228, .iadd), (229, .irem), (230, .iconst 2), (231, .isub), (232, .iload 4), (234, .bipush 101), (236, .irem), (237, .invokevirtual 119), (240, .ireturn), (241, .aload_n 0), (242, .iload_n 3), (243, .aload_n 0), (244, .iconst 0), (245, .invokevirtual 93), (248, .irem), (249, .iload 4), (251, .bipush 121), (253, .irem), (254, .bipush 60), (256, .isub), (257, .iconst 1), (258, .iload 4), (260, .bipush 7), (262, .irem), (263, .iadd), (264, .invokestatic 122), (267, .ireturn), (268, .iload 6), (270, .ifCond .lt 9), (273, .iload_n 3), (274, .iconst 3), (275, .irem), (276, .ifCond .le 8), (279, .bipush (-99)), (281, .goto 9), (284, .aload_n 0), (285, .iload 6), (287, .invokevirtual 126), (290, .ireturn), (291, .iload 6), (293, .ifCond .ge 8), (296, .bipush (-99)), (298, .goto 12), (301, .aload_n 0), (302, .iload 6), (304, .invokevirtual 129), (307, .bipush 60), (309, .iadd), (310, .ireturn), (311, .iload_n 3), (312, .iconst 4), (313, .irem), (314, .ifCond .ne 10), (317, .aload_n 0), (318, .invokevirtual 132), (321, .goto 8), (324, .aload_n 0), (325, .iconst 3), (326, .invokevirtual 107), (329, .ireturn), (330, .iload 6), (332, .ifCond .ge 8), (335, .bipush (-99)), (337, .goto 17), (340, .aload_n 0), (341, .iload 6), (343, .iload 4), (345, .aload_n 0), (346, .iconst 0), (347, .invokevirtual 93), (350, .irem), (351, .invokestatic 135), (354, .ireturn), (355, .aload_n 0), (356, .iconst 1), (357, .iload_n 3), (358, .bipush 25), (360, .irem), (361, .iadd), (362, .invokevirtual 107), (365, .ireturn)]
set_option maxRecDepth 100000 in
theorem id154 : scan (mCd 154).data.toList 0 il154 = true := by decide +kernel
theorem mm154 : mKd 154 = 0 ∧ mAr 154 = 3 ∧ mMx 154 = 7 := by decide +kernel
theorem mo154 : mOw 154 = 11 := by decide +kernel
theorem mr154 : mRt 154 = some .int := by decide +kernel
theorem mh154 : mHn 154 = [] := by decide +kernel
def il155 : List (Nat × Instr) := [(0, .iconst 0), (1, .istore_n 2), (2, .iconst 0), (3, .istore_n 3), (4, .iload_n 3), (5, .aload_n 0), (6, .iconst 2), (7, .invokevirtual 93), (10, .if_icmp .ge 27), (13, .iload_n 2), (14, .aload_n 0), (15, .iload_n 3), (16, .iconst 0), (17, .invokevirtual 160), (20, .iload_n 1), (21, .if_icmp .ne 7), (24, .iconst 1), (25, .goto 4), (28, .iconst 0), (29, .ior), (30, .istore_n 2), (31, .iinc 3 1), (34, .goto (-30)), (37, .iload_n 2), (38, .ireturn)]
set_option maxRecDepth 100000 in
theorem id155 : scan (mCd 155).data.toList 0 il155 = true := by decide +kernel
theorem mm155 : mKd 155 = 0 ∧ mAr 155 = 2 ∧ mMx 155 = 4 := by decide +kernel
theorem mo155 : mOw 155 = 11 := by decide +kernel
theorem mr155 : mRt 155 = some .boolean := by decide +kernel
theorem mh155 : mHn 155 = [] := by decide +kernel
def il156 : List (Nat × Instr) := [(0, .aload_n 0), (1, .iconst 0), (2, .invokevirtual 145), (5, .lload_n 1), (6, .aload_n 0), (7, .iconst 4), (8, .invokevirtual 145), (11, .ladd), (12, .aload_n 0), (13, .iconst 2), (14, .invokevirtual 145), (17, .lsub), (18, .lcmp), (19, .ifCond .eq 5), (22, .iconst 0), (23, .ireturn), (24, .lconst 0), (25, .lstore_n 3), (26, .lconst 0), (27, .lstore 5), (29, .iconst 0), (30, .istore 7), (32, .iconst 0), (33, .istore 8), (35, .sipush 200), (38, .newarray .int), (40, .astore 9), (42, .iconst 0), (43, .istore 10), (45, .iload 10), (47, .aload_n 0), (48, .iconst 1), (49, .invokevirtual 93), (52, .if_icmp .ge 162), (55, .aload_n 0), (56, .iload 10), (58, .iconst 0), (59, .invokevirtual 152), (62, .istore 11), (64, .aload_n 0), (65, .iload 10), (67, .iconst 1), (68, .invokevirtual 152), (71, .istore 12), (73, .aload 9), (75, .iload 11), (77, .iaload), (78, .ifCond .ne 59), (81, .aload_n 0), (82, .iload 11), (84, .invokestatic 170), (87, .ifCond .ne 50), (90, .aload_n 0), (91, .iload 11), (93, .invokevirtual 174), (96, .iload 10), (98, .if_icmp .ne 39), (101, .iload 12), (103, .bipush (-60)), (105, .if_icmp .lt 32), (108, .iload 12), (110, .bipush 60), (112, .if_icmp .gt 25), (115, .aload_n 0), (116, .iload 10), (118, .iconst 3), (119, .invokevirtual 152), (122, .ifCond .lt 15), (125, .aload_n 0), (126, .iload 10), (128, .iconst 3), (129, .invokevirtual 152), (132, .bipush 59), (134, .if_icmp .le 5), (137, .iconst 0), (138, .ireturn), (139, .aload 9), (141, .iload 11), (143, .iload 10), (145, .iconst 1), (146, .iadd), (147, .iastore), (148, .lload_n 3), (149, .aload_n 0), (150, .iload 10), (152, .iconst 2), (153, .invokevirtual 152), (156, .iload 12), (158, .imul), (159, .i2l), (160, .ladd), (161, .lstore_n 3), (162, .lload 5), (164, .aload_n 0), (165, .iload 10), (167, .iconst 2), (168, .invokevirtual 152), (171, .iload 12), (173, .imul), (174, .iload 12), (176, .imul), (177, .i2l), (178, .ladd), (179, .lstore 5), (181, .iload 7), (183, .aload_n 0), (184, .iload 10), (186, .iconst 2), (187, .invokevirtual 152), (190, .iadd), (191, .istore 7), (193, .iload 8), (195, .iload 12), (197, .ifCond .ne 7), (200, .iconst 1), (201, .goto 4), (204, .iconst 0), (205, .iadd), (206, .istore 8), (208, .iinc 10 1), (211, .goto (-166)), (214, .iconst 0), (215, .istore 10), (217, .iload 10), (219, .aload_n 0), (220, .iconst 0), (221, .invokevirtual 93), (224, .if_icmp .ge 27), (227, .aload_n 0), (228, .iload 10), (230, .invokevirtual 174), (233, .aload 9), (235, .iload 10), (237, .iaload), (238, .iconst 1), (239, .isub), (240, .if_icmp .eq 5), (243, .iconst 0), (244, .ireturn), (245, .iinc 10 1), (248, .goto (-31)), (251, .aload_n 0), (252, .iconst 0), (253, .invokevirtual 145), (256, .lload_n 3), (257, .lcmp), (258, .ifCond .ne 39), (261, .aload_n 0), (262, .iconst 1), (263, .invokevirtual 145), (266, .lload 5), (268, .lcmp), (269, .ifCond .ne 28), (272, .aload_n 0), (273, .iconst 5), (274, .invokevirtual 93), (277, .iload 8), (279, .if_icmp .ne 18), (282, .aload_n 0), (283, .bipush 6), (285, .invokevirtual 93), (288, .iload 7), (290, .if_icmp .ne 7), (293, .iconst 1), (294, .goto 4), (297, .iconst 0), (298, .ireturn)]
set_option maxRecDepth 100000 in
theorem id156 : scan (mCd 156).data.toList 0 il156 = true := by decide +kernel
theorem mm156 : mKd 156 = 0 ∧ mAr 156 = 2 ∧ mMx 156 = 13 := by decide +kernel
theorem mo156 : mOw 156 = 11 := by decide +kernel
theorem mr156 : mRt 156 = some .boolean := by decide +kernel
theorem mh156 : mHn 156 = [] := by decide +kernel
def il157 : List (Nat × Instr) := [(0, .iconst 0), (1, .istore_n 1), (2, .iconst 0), (3, .istore_n 2), (4, .iconst 0), (5, .istore_n 3), (6, .iconst 0), (7, .istore 4), (9, .iconst 0), (10, .istore 5), (12, .iload 5), (14, .aload_n 0), (15, .iconst 1), (16, .invokevirtual 93), (19, .if_icmp .ge 136), (22, .iconst 0), (23, .istore 6), (25, .iconst 0), (26, .istore 7), (28, .iload 7), (30, .aload_n 0), (31, .iconst 1), (32, .invokevirtual 93), (35, .if_icmp .ge 61), (38, .aload_n 0), (39, .iload 5), (41, .iload 7), (43, .invokevirtual 157), (46, .aload_n 0), (47, .iload 7), (49, .iload 5), (51, .invokevirtual 157), (54, .if_icmp .ne 21), (57, .iload 5), (59, .iload 7), (61, .if_icmp .ne 16), (64, .aload_n 0), (65, .iload 5), (67, .iload 7), (69, .invokevirtual 157), (72, .ifCond .eq 5), (75, .iconst 0), (76, .ireturn), (77, .iload 6), (79, .aload_n 0), (80, .iload 5), (82, .iload 7), (84, .invokevirtual 157), (87, .iadd), (88, .istore 6), (90, .iinc 7 1), (93, .goto (-65)), (96, .iload 6), (98, .aload_n 0), (99, .iload 5), (101, .iconst 5), (102, .invokevirtual 152), (105, .if_icmp .eq 5), (108, .iconst 0), (109, .ireturn), (110, .iload_n 1), (111, .iload 6), (113, .iadd), (114, .istore_n 1), (115, .iload_n 2), (116, .aload_n 0), (117, .iload 5), (119, .bipush 6), (121, .invokevirtual 152), (124, .iadd), (125, .istore_n 2), (126, .iload_n 3), (127, .aload_n 0), (128, .iload 5), (130, .bipush 7), (132, .invokevirtual 152), (135, .iadd), (136, .istore_n 3), (137, .iload 4), (139, .aload_n 0), (140, .iload 5), (142, .iconst 4), (143, .invokevirtual 152), (146, .iadd), (147, .istore 4), (149, .iinc 5 1), (152, .goto (-140)), (155, .aload_n 0), (156, .iconst 0), (157, .iconst 1), (158, .invokevirtual 163), (161, .aload_n 0), (162, .iconst 1), (163, .iconst 1), (164, .invokevirtual 163), (167, .iadd), (168, .istore 5), (170, .iconst 0), (171, .istore 6), (173, .iload 6), (175, .aload_n 0), (176, .iconst 2), (177, .invokevirtual 93), (180, .if_icmp .ge 21), (183, .iload 5), (185, .aload_n 0), (186, .iload 6), (188, .iconst 2), (189, .invokevirtual 160), (192, .iadd), (193, .istore 5), (195, .iinc 6 1), (198, .goto (-25)), (201, .iload_n 1), (202, .iconst 2), (203, .aload_n 0), (204, .iconst 0), (205, .invokevirtual 149), (208, .imul), (209, .if_icmp .ne 65), (212, .iload_n 2), (213, .aload_n 0), (214, .iconst 1), (215, .invokevirtual 149), (218, .if_icmp .ne 56), (221, .iload 5), (223, .iload_n 2), (224, .if_icmp .ne 50), (227, .iload_n 3), (228, .aload_n 0), (229, .iconst 2), (230, .invokevirtual 149), (233, .if_icmp .ne 41), (236, .iload 4), (238, .aload_n 0), (239, .iconst 3), (240, .invokevirtual 149), (243, .if_icmp .ne 31), (246, .aload_n 0), (247, .iconst 4), (248, .invokevirtual 93), (251, .bipush 40), (253, .aload_n 0), (254, .iconst 0), (255, .invokevirtual 149), (258, .aload_n 0), (259, .iconst 1), (260, .invokevirtual 149), (263, .iadd), (264, .invokestatic 30), (267, .if_icmp .ne 7), (270, .iconst 1), (271, .goto 4), (274, .iconst 0), (275, .ireturn)]
set_option maxRecDepth 100000 in
theorem id157 : scan (mCd 157).data.toList 0 il157 = true := by decide +kernel
theorem mm157 : mKd 157 = 0 ∧ mAr 157 = 1 ∧ mMx 157 = 8 := by decide +kernel
theorem mo157 : mOw 157 = 11 := by decide +kernel
theorem mr157 : mRt 157 = some .boolean := by decide +kernel
theorem mh157 : mHn 157 = [] := by decide +kernel
def il158 : List (Nat × Instr) := [(0, .aload_n 0), (1, .iconst 1), (2, .invokevirtual 93), (5, .newarray .int), (7, .astore_n 1), (8, .iconst 0), (9, .istore_n 2), (10, .iload_n 2), (11, .aload_n 1), (12, .arraylength), (13, .if_icmp .ge 17), (16, .aload_n 1), (17, .iload_n 2), (18, .aload_n 0), (19, .iload_n 2), (20, .invokevirtual 177), (23, .iastore), (24, .iinc 2 1), (27, .goto (-17)), (30, .aload_n 1), (31, .areturn)]
set_option maxRecDepth 100000 in
theorem id158 : scan (mCd 158).data.toList 0 il158 = true := by decide +kernel
theorem mm158 : mKd 158 = 0 ∧ mAr 158 = 1 ∧ mMx 158 = 3 := by decide +kernel
theorem mo158 : mOw 158 = 11 := by decide +kernel
theorem mr158 : mRt 158 = some (.array .int) := by decide +kernel
theorem mh158 : mHn 158 = [] := by decide +kernel
def il159 : List (Nat × Instr) := [(0, .aload_n 0), (1, .aload_n 1), (2, .invokespecial 7), (5, .return_)]
set_option maxRecDepth 100000 in
theorem id159 : scan (mCd 159).data.toList 0 il159 = true := by decide +kernel
theorem mm159 : mKd 159 = 2 ∧ mAr 159 = 1 ∧ mMx 159 = 2 := by decide +kernel
theorem mo159 : mOw 159 = 9 := by decide +kernel
theorem mr159 : mRt 159 = none := by decide +kernel
theorem mh159 : mHn 159 = [] := by decide +kernel
def il160 : List (Nat × Instr) := [(0, .aload_n 0), (1, .iload_n 1), (2, .invokespecial 50), (5, .pop), (6, .aload_n 0), (7, .areturn)]
set_option maxRecDepth 100000 in
theorem id160 : scan (mCd 160).data.toList 0 il160 = true := by decide +kernel
theorem mm160 : mKd 160 = 1 ∧ mAr 160 = 1 ∧ mMx 160 = 2 := by decide +kernel
theorem mo160 : mOw 160 = 9 := by decide +kernel
theorem mr160 : mRt 160 = some (.object "java/lang/StringBuilder") := by decide +kernel
theorem mh160 : mHn 160 = [] := by decide +kernel
def il161 : List (Nat × Instr) := [(0, .aload_n 0), (1, .iload_n 1), (2, .invokespecial 53), (5, .pop), (6, .aload_n 0), (7, .areturn)]
set_option maxRecDepth 100000 in
theorem id161 : scan (mCd 161).data.toList 0 il161 = true := by decide +kernel
theorem mm161 : mKd 161 = 1 ∧ mAr 161 = 1 ∧ mMx 161 = 2 := by decide +kernel
theorem mo161 : mOw 161 = 9 := by decide +kernel
theorem mr161 : mRt 161 = some (.object "java/lang/StringBuilder") := by decide +kernel
theorem mh161 : mHn 161 = [] := by decide +kernel
def il162 : List (Nat × Instr) := [(0, .aload_n 0), (1, .aload_n 1), (2, .invokespecial 29), (5, .pop), (6, .aload_n 0), (7, .areturn)]
set_option maxRecDepth 100000 in
theorem id162 : scan (mCd 162).data.toList 0 il162 = true := by decide +kernel
theorem mm162 : mKd 162 = 1 ∧ mAr 162 = 1 ∧ mMx 162 = 2 := by decide +kernel
theorem mo162 : mOw 162 = 9 := by decide +kernel
theorem mr162 : mRt 162 = some (.object "java/lang/StringBuilder") := by decide +kernel
theorem mh162 : mHn 162 = [] := by decide +kernel
def il163 : List (Nat × Instr) := [(0, .aload_n 0), (1, .aload_n 1), (2, .invokevirtual 23), (5, .areturn)]
set_option maxRecDepth 100000 in
theorem id163 : scan (mCd 163).data.toList 0 il163 = true := by decide +kernel
theorem mm163 : mKd 163 = 3 ∧ mAr 163 = 1 ∧ mMx 163 = 2 := by decide +kernel
theorem mo163 : mOw 163 = 9 := by decide +kernel
theorem mr163 : mRt 163 = some (.object "java/lang/AbstractStringBuilder") := by decide +kernel
theorem mh163 : mHn 163 = [] := by decide +kernel
def il164 : List (Nat × Instr) := [(0, .new 18), (3, .dup), (4, .aload_n 0), (5, .invokespecial 137), (8, .areturn)]
set_option maxRecDepth 100000 in
theorem id164 : scan (mCd 164).data.toList 0 il164 = true := by decide +kernel
theorem mm164 : mKd 164 = 1 ∧ mAr 164 = 0 ∧ mMx 164 = 1 := by decide +kernel
theorem mo164 : mOw 164 = 9 := by decide +kernel
theorem mr164 : mRt 164 = some (.object "java/lang/String") := by decide +kernel
theorem mh164 : mHn 164 = [] := by decide +kernel
def il165 : List (Nat × Instr) := [(0, .aload_n 0), (1, .invokespecial 343), (4, .ireturn)]
set_option maxRecDepth 100000 in
theorem id165 : scan (mCd 165).data.toList 0 il165 = true := by decide +kernel
theorem mm165 : mKd 165 = 3 ∧ mAr 165 = 0 ∧ mMx 165 = 1 := by decide +kernel
theorem mo165 : mOw 165 = 9 := by decide +kernel
theorem mr165 : mRt 165 = some .int := by decide +kernel
theorem mh165 : mHn 165 = [] := by decide +kernel
def il166 : List (Nat × Instr) := [(0, .aload_n 0), (1, .invokespecial 3), (4, .aload_n 1), (5, .invokevirtual 32), (8, .istore_n 2), (9, .iload_n 2), (10, .ldc 38), (12, .if_icmp .ge 10), (15, .iload_n 2), (16, .bipush 16), (18, .iadd), (19, .goto 5), (22, .ldc 39), (24, .istore_n 3), (25, .aload_n 1), (26, .invokevirtual 40), (29, .istore 4), (31, .aload_n 0), (32, .iload 4), (34, .putfield 22), (37, .aload_n 0), (38, .iload 4), (40, .ifCond .ne 9), (43, .iload_n 3), (44, .newarray .byte), (46, .goto 7), (49, .iload_n 3), (50, .invokestatic 26), (53, .putfield 15), (56, .aload_n 0), (57, .aload_n 1), (58, .invokevirtual 43), (61, .pop), (62, .return_)]
set_option maxRecDepth 100000 in
theorem id166 : scan (mCd 166).data.toList 0 il166 = true := by decide +kernel
theorem mm166 : mKd 166 = 2 ∧ mAr 166 = 1 ∧ mMx 166 = 5 := by decide +kernel
theorem mo166 : mOw 166 = 14 := by decide +kernel
theorem mr166 : mRt 166 = none := by decide +kernel
theorem mh166 : mHn 166 = [] := by decide +kernel
def il167 : List (Nat × Instr) := [(0, .aload_n 0), (1, .aload_n 0), (2, .getfield 79), (5, .iconst 1), (6, .iadd), (7, .invokevirtual 100), (10, .aload_n 0), (11, .invokevirtual 83), (14, .ifCond .eq 31), (17, .iload_n 1), (18, .invokestatic 191), (21, .ifCond .eq 24), (24, .aload_n 0), (25, .getfield 15), (28, .aload_n 0), (29, .dup), (30, .getfield 79), (33, .dup_x1), (34, .iconst 1), (35, .iadd), (36, .putfield 79), (39, .iload_n 1), (40, .i2b), (41, .bastore), (42, .goto 33), (45, .aload_n 0), (46, .invokevirtual 83), (49, .ifCond .eq 7), (52, .aload_n 0), (53, .invokevirtual 195), (56, .aload_n 0), (57, .getfield 15), (60, .aload_n 0), (61, .dup), (62, .getfield 79), (65, .dup_x1), (66, .iconst 1), (67, .iadd), (68, .putfield 79), (71, .iload_n 1), (72, .invokestatic 197), (75, .aload_n 0), (76, .areturn)]
set_option maxRecDepth 100000 in
theorem id167 : scan (mCd 167).data.toList 0 il167 = true := by decide +kernel
theorem mm167 : mKd 167 = 3 ∧ mAr 167 = 1 ∧ mMx 167 = 2 := by decide +kernel
theorem mo167 : mOw 167 = 14 := by decide +kernel
theorem mr167 : mRt 167 = some (.object "java/lang/AbstractStringBuilder") := by decide +kernel
theorem mh167 : mHn 167 = [] := by decide +kernel
def il168 : List (Nat × Instr) := [(0, .aload_n 0), (1, .getfield 79), (4, .istore_n 2), (5, .iload_n 2), (6, .iload_n 1), (7, .invokestatic 245), (10, .iadd), (11, .istore_n 3), (12, .aload_n 0), (13, .iload_n 3), (14, .invokevirtual 100), (17, .aload_n 0), (18, .invokevirtual 83), (21, .ifCond .eq 16), (24, .iload_n 1), (25, .iload_n 3), (26, .aload_n 0), (27, .getfield 15), (30, .invokestatic 248), (33, .pop), (34, .goto 14), (37, .iload_n 1), (38, .iload_n 2), (39, .iload_n 3), (40, .aload_n 0), (41, .getfield 15), (44, .invokestatic 251), (47, .pop), (48, .aload_n 0), (49, .iload_n 3), (50, .putfield 79), (53, .aload_n 0), (54, .areturn)]
set_option maxRecDepth 100000 in
theorem id168 : scan (mCd 168).data.toList 0 il168 = true := by decide +kernel
theorem mm168 : mKd 168 = 3 ∧ mAr 168 = 1 ∧ mMx 168 = 4 := by decide +kernel
theorem mo168 : mOw 168 = 14 := by decide +kernel
theorem mr168 : mRt 168 = some (.object "java/lang/AbstractStringBuilder") := by decide +kernel
theorem mh168 : mHn 168 = [] := by decide +kernel
def il169 : List (Nat × Instr) := [(0, .aload_n 1), (1, .ifnonnull 8), (4, .aload_n 0), (5, .invokevirtual 204), (8, .areturn), (9, .aload_n 1), (10, .invokevirtual 32), (13, .istore_n 2), (14, .aload_n 0), (15, .aload_n 0), (16, .getfield 79), (19, .iload_n 2), (20, .iadd), (21, .invokevirtual 100), (24, .aload_n 0), (25, .aload_n 0), (26, .getfield 79), (29, .aload_n 1), (30, .invokevirtual 208), (33, .aload_n 0), (34, .dup), (35, .getfield 79), (38, .iload_n 2), (39, .iadd), (40, .putfield 79), (43, .aload_n 0), (44, .areturn)]
set_option maxRecDepth 100000 in
theorem id169 : scan (mCd 169).data.toList 0 il169 = true := by decide +kernel
theorem mm169 : mKd 169 = 3 ∧ mAr 169 = 1 ∧ mMx 169 = 3 := by decide +kernel
theorem mo169 : mOw 169 = 14 := by decide +kernel
theorem mr169 : mRt 169 = some (.object "java/lang/AbstractStringBuilder") := by decide +kernel
theorem mh169 : mHn 169 = [] := by decide +kernel
def il170 : List (Nat × Instr) := [(0, .aload_n 0), (1, .getfield 15), (4, .arraylength), (5, .aload_n 0), (6, .getfield 22), (9, .ishr), (10, .istore_n 2), (11, .iload_n 1), (12, .iload_n 2), (13, .isub), (14, .ifCond .le 24), (17, .aload_n 0), (18, .aload_n 0), (19, .getfield 15), (22, .aload_n 0), (23, .iload_n 1), (24, .invokevirtual 104), (27, .aload_n 0), (28, .getfield 22), (31, .ishl), (32, .invokestatic 108), (35, .putfield 15), (38, .return_)]
set_option maxRecDepth 100000 in
theorem id170 : scan (mCd 170).data.toList 0 il170 = true := by decide +kernel
theorem mm170 : mKd 170 = 3 ∧ mAr 170 = 1 ∧ mMx 170 = 3 := by decide +kernel
theorem mo170 : mOw 170 = 14 := by decide +kernel
theorem mr170 : mRt 170 = none := by decide +kernel
theorem mh170 : mHn 170 = [] := by decide +kernel
def il171 : List (Nat × Instr) := [(0, .aload_n 0), (1, .getfield 15), (4, .arraylength), (5, .istore_n 2), (6, .iload_n 1), (7, .aload_n 0), (8, .getfield 22), (11, .ishl), (12, .istore_n 3), (13, .iload_n 3), (14, .iload_n 2), (15, .isub), (16, .istore 4), (18, .iload_n 2), (19, .iload 4), (21, .iload_n 2), (22, .iconst 2), (23, .aload_n 0), (24, .getfield 22), (27, .ishl), (28, .iadd), (29, .invokestatic 114), (32, .istore 5), (34, .iload 5), (36, .ldc 39), (38, .if_icmp .ne 13), (41, .new 120), (44, .dup), (45, .ldc 122), (47, .invokespecial 124), (50, .athrow), (51, .iload 5), (53, .aload_n 0), (54, .getfield 22), (57, .ishr), (58, .ireturn)]
set_option maxRecDepth 100000 in
theorem id171 : scan (mCd 171).data.toList 0 il171 = true := by decide +kernel
theorem mm171 : mKd 171 = 3 ∧ mAr 171 = 1 ∧ mMx 171 = 6 := by decide +kernel
theorem mo171 : mOw 171 = 14 := by decide +kernel
theorem mr171 : mRt 171 = some .int := by decide +kernel
theorem mh171 : mHn 171 = [] := by decide +kernel
def il172 : List (Nat × Instr) := [(0, .aload_n 0), (1, .aload_n 2), (2, .invokevirtual 397), (5, .aload_n 2), (6, .aload_n 0), (7, .getfield 15), (10, .iload_n 1), (11, .aload_n 0), (12, .getfield 22), (15, .invokevirtual 399), (18, .return_)]
set_option maxRecDepth 100000 in
theorem id172 : scan (mCd 172).data.toList 0 il172 = true := by decide +kernel
theorem mm172 : mKd 172 = 3 ∧ mAr 172 = 2 ∧ mMx 172 = 3 := by decide +kernel
theorem mo172 : mOw 172 = 14 := by decide +kernel
theorem mr172 : mRt 172 = none := by decide +kernel
theorem mh172 : mHn 172 = [] := by decide +kernel
def il173 : List (Nat × Instr) := [(0, .getstatic 18), (3, .ifCond .eq 18), (6, .aload_n 0), (7, .getfield 22), (10, .aload_n 1), (11, .invokevirtual 40), (14, .if_icmp .eq 7), (17, .aload_n 0), (18, .invokevirtual 195), (21, .return_)]
set_option maxRecDepth 100000 in
theorem id173 : scan (mCd 173).data.toList 0 il173 = true := by decide +kernel
theorem mm173 : mKd 173 = 3 ∧ mAr 173 = 1 ∧ mMx 173 = 2 := by decide +kernel
theorem mo173 : mOw 173 = 14 := by decide +kernel
theorem mr173 : mRt 173 = none := by decide +kernel
theorem mh173 : mHn 173 = [] := by decide +kernel
def il174 : List (Nat × Instr) := [(0, .getstatic 18), (3, .ifCond .eq 14), (6, .aload_n 0), (7, .getfield 22), (10, .ifCond .ne 7), (13, .iconst 1), (14, .goto 4), (17, .iconst 0), (18, .ireturn)]
set_option maxRecDepth 100000 in
theorem id174 : scan (mCd 174).data.toList 0 il174 = true := by decide +kernel
theorem mm174 : mKd 174 = 3 ∧ mAr 174 = 0 ∧ mMx 174 = 1 := by decide +kernel
theorem mo174 : mOw 174 = 14 := by decide +kernel
theorem mr174 : mRt 174 = some .boolean := by decide +kernel
theorem mh174 : mHn 174 = [] := by decide +kernel
def il175 : List (Nat × Instr) := [(0, .aload_n 0), (1, .getfield 15), (4, .areturn)]
set_option maxRecDepth 100000 in
theorem id175 : scan (mCd 175).data.toList 0 il175 = true := by decide +kernel
theorem mm175 : mKd 175 = 3 ∧ mAr 175 = 0 ∧ mMx 175 = 1 := by decide +kernel
theorem mo175 : mOw 175 = 14 := by decide +kernel
theorem mr175 : mRt 175 = some (.array .byte) := by decide +kernel
theorem mh175 : mHn 175 = [] := by decide +kernel
def il176 : List (Nat × Instr) := [(0, .aload_n 0), (1, .getfield 79), (4, .ireturn)]
set_option maxRecDepth 100000 in
theorem id176 : scan (mCd 176).data.toList 0 il176 = true := by decide +kernel
theorem mm176 : mKd 176 = 3 ∧ mAr 176 = 0 ∧ mMx 176 = 1 := by decide +kernel
theorem mo176 : mOw 176 = 14 := by decide +kernel
theorem mr176 : mRt 176 = some .int := by decide +kernel
theorem mh176 : mHn 176 = [] := by decide +kernel
def il177 : List (Nat × Instr) := [(0, .aload_n 0), (1, .invokespecial 1), (4, .aload_n 1), (5, .invokevirtual 552), (8, .astore_n 3), (9, .aload_n 1), (10, .invokevirtual 549), (13, .istore 4), (15, .aload_n 1), (16, .invokevirtual 1047), (19, .ifCond .eq 22), (22, .aload_n 0), (23, .iconst 0), (24, .putfield 15), (27, .aload_n 0), (28, .aload_n 3), (29, .iconst 0), (30, .iload 4), (32, .invokestatic 54), (35, .putfield 9), (38, .goto 59), (41, .getstatic 38), (44, .ifCond .eq 35), (47, .aload_n 1), (48, .getfield 1048), (51, .ifCond .eq 28), (54, .aload_n 0), (55, .aload_n 3), (56, .iconst 0), (57, .iload 4), (59, .invokestatic 1051), (62, .putfield 9), (65, .aload_n 0), (66, .aload_n 0), (67, .getfield 9), (70, .iload 4), (72, .invokestatic 47), (75, .putfield 15), (78, .return_), (79, .aload_n 0), (80, .iconst 1), (81, .putfield 15), (84, .aload_n 0), (85, .aload_n 3), (86, .iconst 0), (87, .iload 4), (89, .iconst 1), (90, .ishl), (91, .invokestatic 54), (94, .putfield 9), (97, .return_)]
set_option maxRecDepth 100000 in
theorem id177 : scan (mCd 177).data.toList 0 il177 = true := by decide +kernel
theorem mm177 : mKd 177 = 2 ∧ mAr 177 = 2 ∧ mMx 177 = 5 := by decide +kernel
theorem mo177 : mOw 177 = 10 := by decide +kernel
theorem mr177 : mRt 177 = none := by decide +kernel
theorem mh177 : mHn 177 = [] := by decide +kernel
def il178 : List (Nat × Instr) := [(0, .aload_n 0), (1, .aload_n 1), (2, .aconst_null), (3, .invokespecial 489), (6, .return_)]
set_option maxRecDepth 100000 in
theorem id178 : scan (mCd 178).data.toList 0 il178 = true := by decide +kernel
theorem mm178 : mKd 178 = 2 ∧ mAr 178 = 1 ∧ mMx 178 = 2 := by decide +kernel
theorem mo178 : mOw 178 = 10 := by decide +kernel
theorem mr178 : mRt 178 = none := by decide +kernel
theorem mh178 : mHn 178 = [] := by decide +kernel
def il179 : List (Nat × Instr) := [(0, .aload_n 0), (1, .invokevirtual 335), (4, .iload_n 3), (5, .if_icmp .ne 23), (8, .aload_n 0), (9, .getfield 9), (12, .iconst 0), (13, .aload_n 1), (14, .iload_n 2), (15, .iload_n 3), (16, .ishl), (17, .aload_n 0), (18, .getfield 9), (21, .arraylength), (22, .invokestatic 212), (25, .goto 18), (28, .aload_n 0), (29, .getfield 9), (32, .iconst 0), (33, .aload_n 1), (34, .iload_n 2), (35, .aload_n 0), (36, .getfield 9), (39, .arraylength), (40, .invokestatic 106), (43, .return_)]
set_option maxRecDepth 100000 in
theorem id179 : scan (mCd 179).data.toList 0 il179 = true := by decide +kernel
theorem mm179 : mKd 179 = 1 ∧ mAr 179 = 3 ∧ mMx 179 = 4 := by decide +kernel
theorem mo179 : mOw 179 = 10 := by decide +kernel
theorem mr179 : mRt 179 = none := by decide +kernel
theorem mh179 : mHn 179 = [] := by decide +kernel
def il180 : List (Nat × Instr) := [(0, .iload_n 0), (1, .sipush 255), (4, .if_icmp .gt 7), (7, .iconst 1), (8, .goto 4), (11, .iconst 0), (12, .ireturn)]
set_option maxRecDepth 100000 in
theorem id180 : scan (mCd 180).data.toList 0 il180 = true := by decide +kernel
theorem mm180 : mKd 180 = 0 ∧ mAr 180 = 1 ∧ mMx 180 = 1 := by decide +kernel
theorem mo180 : mOw 180 = 12 := by decide +kernel
theorem mr180 : mRt 180 = some .boolean := by decide +kernel
theorem mh180 : mHn 180 = [] := by decide +kernel
def il181 : List (Nat × Instr) := [(0, .iconst 1), (1, .istore_n 1), (2, .iload_n 0), (3, .ifCond .lt 8), (6, .iconst 0), (7, .istore_n 1), (8, .iload_n 0), (9, .ineg), (10, .istore_n 0), (11, .bipush (-10)), (13, .istore_n 2), (14, .iconst 1), (15, .istore_n 3), (16, .iload_n 3), (17, .bipush 10), (19, .if_icmp .ge 23), (22, .iload_n 0), (23, .iload_n 2), (24, .if_icmp .le 7), (27, .iload_n 3), (28, .iload_n 1), (29, .iadd), (30, .ireturn), (31, .bipush 10), (33, .iload_n 2), (34, .imul), (35, .istore_n 2), (36, .iinc 3 1), (39, .goto (-23)), (42, .bipush 10), (44, .iload_n 1), (45, .iadd), (46, .ireturn)]
set_option maxRecDepth 100000 in
theorem id181 : scan (mCd 181).data.toList 0 il181 = true := by decide +kernel
theorem mm181 : mKd 181 = 0 ∧ mAr 181 = 1 ∧ mMx 181 = 4 := by decide +kernel
theorem mo181 : mOw 181 = 15 := by decide +kernel
theorem mr181 : mRt 181 = some .int := by decide +kernel
theorem mh181 : mHn 181 = [] := by decide +kernel
def il182 : List (Nat × Instr) := [(0, .iload_n 1), (1, .istore 5), (3, .iload_n 0), (4, .ifCond .ge 7), (7, .iconst 1), (8, .goto 4), (11, .iconst 0), (12, .istore 6), (14, .iload 6), (16, .ifCond .ne 6), (19, .iload_n 0), (20, .ineg), (21, .istore_n 0), (22, .iload_n 0), (23, .bipush (-100)), (25, .if_icmp .gt 47), (28, .iload_n 0), (29, .bipush 100), (31, .idiv), (32, .istore_n 3), (33, .iload_n 3), (34, .bipush 100), (36, .imul), (37, .iload_n 0), (38, .isub), (39, .istore 4), (41, .iload_n 3), (42, .istore_n 0), (43, .aload_n 2), (44, .iinc 5 (-1)), (47, .iload 5), (49, .getstatic 83), (52, .iload 4), (54, .baload), (55, .bastore), (56, .aload_n 2), (57, .iinc 5 (-1)), (60, .iload 5), (62, .getstatic 87), (65, .iload 4), (67, .baload), (68, .bastore), (69, .goto (-47)), (72, .aload_n 2), (73, .iinc 5 (-1)), (76, .iload 5), (78, .getstatic 83), (81, .iload_n 0), (82, .ineg), (83, .baload), (84, .bastore), (85, .iload_n 0), (86, .bipush (-9)), (88, .if_icmp .ge 16), (91, .aload_n 2), (92, .iinc 5 (-1)), (95, .iload 5), (97, .getstatic 87), (100, .iload_n 0), (101, .ineg), (102, .baload), (103, .bastore), (104, .iload 6), (106, .ifCond .eq 12), (109, .aload_n 2), (110, .iinc 5 (-1)), (113, .iload 5), (115, .bipush 45), (117, .bastore), (118, .iload 5), (120, .ireturn)]
set_option maxRecDepth 100000 in
theorem id182 : scan (mCd 182).data.toList 0 il182 = true := by decide +kernel
theorem mm182 : mKd 182 = 0 ∧ mAr 182 = 3 ∧ mMx 182 = 7 := by decide +kernel
theorem mo182 : mOw 182 = 15 := by decide +kernel
theorem mr182 : mRt 182 = some .int := by decide +kernel
theorem mh182 : mHn 182 = [] := by decide +kernel
def il183 : List (Nat × Instr) := [(0, .iload_n 1), (1, .aload_n 0), (2, .arraylength), (3, .if_icmp .ne 11), (6, .aload_n 0), (7, .invokevirtual 310), (10, .checkcast 311), (13, .areturn), (14, .iload_n 1), (15, .newarray .byte), (17, .astore_n 2), (18, .aload_n 0), (19, .iconst 0), (20, .aload_n 2), (21, .iconst 0), (22, .aload_n 0), (23, .arraylength), (24, .iload_n 1), (25, .invokestatic 304), (28, .invokestatic 150), (31, .aload_n 2), (32, .areturn)]
set_option maxRecDepth 100000 in
theorem id183 : scan (mCd 183).data.toList 0 il183 = true := by decide +kernel
theorem mm183 : mKd 183 = 0 ∧ mAr 183 = 2 ∧ mMx 183 = 3 := by decide +kernel
theorem mo183 : mOw 183 = 16 := by decide +kernel
theorem mr183 : mRt 183 = some (.array .byte) := by decide +kernel
theorem mh183 : mHn 183 = [] := by decide +kernel
def il184 : List (Nat × Instr) := [(0, .iload_n 1), (1, .ifCond .ne 9), (4, .iload_n 2), (5, .aload_n 0), (6, .arraylength), (7, .if_icmp .eq 10), (10, .aload_n 0), (11, .iload_n 1), (12, .iload_n 2), (13, .invokestatic 339), (16, .areturn), (17, .aload_n 0), (18, .invokevirtual 310), (21, .checkcast 311), (24, .areturn)]
set_option maxRecDepth 100000 in
theorem id184 : scan (mCd 184).data.toList 0 il184 = true := by decide +kernel
theorem mm184 : mKd 184 = 0 ∧ mAr 184 = 3 ∧ mMx 184 = 3 := by decide +kernel
theorem mo184 : mOw 184 = 16 := by decide +kernel
theorem mr184 : mRt 184 = some (.array .byte) := by decide +kernel
theorem mh184 : mHn 184 = [] := by decide +kernel
def il185 : List (Nat × Instr) := [(0, .iload_n 1), (1, .iload_n 2), (2, .invokestatic 343), (5, .iload_n 2), (6, .iload_n 1), (7, .isub), (8, .istore_n 3), (9, .iload_n 3), (10, .newarray .byte), (12, .astore 4), (14, .aload_n 0), (15, .iload_n 1), (16, .aload 4), (18, .iconst 0), (19, .aload_n 0), (20, .arraylength), (21, .iload_n 1), (22, .isub), (23, .iload_n 3), (24, .invokestatic 304), (27, .invokestatic 150), (30, .aload 4), (32, .areturn)]
set_option maxRecDepth 100000 in
theorem id185 : scan (mCd 185).data.toList 0 il185 = true := by decide +kernel
theorem mm185 : mKd 185 = 0 ∧ mAr 185 = 3 ∧ mMx 185 = 5 := by decide +kernel
theorem mo185 : mOw 185 = 16 := by decide +kernel
theorem mr185 : mRt 185 = some (.array .byte) := by decide +kernel
theorem mh185 : mHn 185 = [] := by decide +kernel
def il186 : List (Nat × Instr) := [(0, .iload_n 1), (1, .iload_n 0), (2, .if_icmp .ge 35), (5, .new 43), (8, .dup), (9, .new 45), (12, .dup), (13, .invokespecial 47), (16, .iload_n 0), (17, .invokevirtual 54), (20, .ldc_w 337), (23, .invokevirtual 50), (26, .iload_n 1), (27, .invokevirtual 54), (30, .invokevirtual 61), (33, .invokespecial 65), (36, .athrow), (37, .return_)]
set_option maxRecDepth 100000 in
theorem id186 : scan (mCd 186).data.toList 0 il186 = true := by decide +kernel
theorem mm186 : mKd 186 = 0 ∧ mAr 186 = 2 ∧ mMx 186 = 2 := by decide +kernel
theorem mo186 : mOw 186 = 16 := by decide +kernel
theorem mr186 : mRt 186 = none := by decide +kernel
theorem mh186 : mHn 186 = [] := by decide +kernel
def il187 : List (Nat × Instr) := [(0, .iload_n 0), (1, .iload_n 1), (2, .iload_n 2), (3, .invokestatic 194), (6, .iadd), (7, .istore_n 3), (8, .iconst 0), (9, .iload_n 3), (10, .if_icmp .ge 11), (13, .iload_n 3), (14, .ldc 200), (16, .if_icmp .gt 5), (19, .iload_n 3), (20, .ireturn), (21, .iload_n 0), (22, .iload_n 1), (23, .invokestatic 201), (26, .ireturn)]
set_option maxRecDepth 100000 in
theorem id187 : scan (mCd 187).data.toList 0 il187 = true := by decide +kernel
theorem mm187 : mKd 187 = 0 ∧ mAr 187 = 3 ∧ mMx 187 = 4 := by decide +kernel
theorem mo187 : mOw 187 = 17 := by decide +kernel
theorem mr187 : mRt 187 = some .int := by decide +kernel
theorem mh187 : mHn 187 = [] := by decide +kernel
def il188 : List (Nat × Instr) := [(0, .aload_n 0), (1, .getfield 9), (4, .arraylength), (5, .aload_n 0), (6, .invokevirtual 335), (9, .ishr), (10, .ireturn)]
set_option maxRecDepth 100000 in
theorem id188 : scan (mCd 188).data.toList 0 il188 = true := by decide +kernel
theorem mm188 : mKd 188 = 1 ∧ mAr 188 = 0 ∧ mMx 188 = 1 := by decide +kernel
theorem mo188 : mOw 188 = 10 := by decide +kernel
theorem mr188 : mRt 188 = some .int := by decide +kernel
theorem mh188 : mHn 188 = [] := by decide +kernel
def il189 : List (Nat × Instr) := [(0, .getstatic 38), (3, .ifCond .eq 10), (6, .aload_n 0), (7, .getfield 15), (10, .goto 4), (13, .iconst 1), (14, .ireturn)]
set_option maxRecDepth 100000 in
theorem id189 : scan (mCd 189).data.toList 0 il189 = true := by decide +kernel
theorem mm189 : mKd 189 = 1 ∧ mAr 189 = 0 ∧ mMx 189 = 1 := by decide +kernel
theorem mo189 : mOw 189 = 10 := by decide +kernel
theorem mr189 : mRt 189 = some .byte := by decide +kernel
theorem mh189 : mHn 189 = [] := by decide +kernel
def il190 : List (Nat × Instr) := [(0, .aload_n 0), (1, .invokevirtual 492), (4, .ifCond .eq 12), (7, .aload_n 0), (8, .getfield 9), (11, .iload_n 1), (12, .invokestatic 495), (15, .ireturn), (16, .aload_n 0), (17, .getfield 9), (20, .iload_n 1), (21, .invokestatic 498), (24, .ireturn)]
set_option maxRecDepth 100000 in
theorem id190 : scan (mCd 190).data.toList 0 il190 = true := by decide +kernel
theorem mm190 : mKd 190 = 1 ∧ mAr 190 = 1 ∧ mMx 190 = 2 := by decide +kernel
theorem mo190 : mOw 190 = 10 := by decide +kernel
theorem mr190 : mRt 190 = some .char := by decide +kernel
theorem mh190 : mHn 190 = [] := by decide +kernel
def il191 : List (Nat × Instr) := [(0, .getstatic 38), (3, .ifCond .eq 14), (6, .aload_n 0), (7, .getfield 15), (10, .ifCond .ne 7), (13, .iconst 1), (14, .goto 4), (17, .iconst 0), (18, .ireturn)]
set_option maxRecDepth 100000 in
theorem id191 : scan (mCd 191).data.toList 0 il191 = true := by decide +kernel
theorem mm191 : mKd 191 = 1 ∧ mAr 191 = 0 ∧ mMx 191 = 1 := by decide +kernel
theorem mo191 : mOw 191 = 10 := by decide +kernel
theorem mr191 : mRt 191 = some .boolean := by decide +kernel
theorem mh191 : mHn 191 = [] := by decide +kernel
def il192 : List (Nat × Instr) := [(0, .iload_n 0), (1, .iload_n 1), (2, .getstatic 1053), (5, .invokestatic 1059), (8, .pop), (9, .return_)]
set_option maxRecDepth 100000 in
theorem id192 : scan (mCd 192).data.toList 0 il192 = true := by decide +kernel
theorem mm192 : mKd 192 = 0 ∧ mAr 192 = 2 ∧ mMx 192 = 2 := by decide +kernel
theorem mo192 : mOw 192 = 10 := by decide +kernel
theorem mr192 : mRt 192 = none := by decide +kernel
theorem mh192 : mHn 192 = [] := by decide +kernel
def il193 : List (Nat × Instr) := [(0, .iload_n 1), (1, .aload_n 0), (2, .arraylength), (3, .invokestatic 9), (6, .aload_n 0), (7, .iload_n 1), (8, .baload), (9, .sipush 255), (12, .iand), (13, .i2c), (14, .ireturn)]
set_option maxRecDepth 100000 in
theorem id193 : scan (mCd 193).data.toList 0 il193 = true := by decide +kernel
theorem mm193 : mKd 193 = 0 ∧ mAr 193 = 2 ∧ mMx 193 = 2 := by decide +kernel
theorem mo193 : mOw 193 = 12 := by decide +kernel
theorem mr193 : mRt 193 = some .char := by decide +kernel
theorem mh193 : mHn 193 = [] := by decide +kernel
def il194 : List (Nat × Instr) := [(0, .iload_n 0), (1, .ifCond .lt 8), (4, .iload_n 0), (5, .iload_n 1), (6, .if_icmp .lt 10), (9, .aload_n 2), (10, .iload_n 0), (11, .iload_n 1), (12, .invokestatic 95), (15, .athrow), (16, .iload_n 0), (17, .ireturn)]
set_option maxRecDepth 100000 in
theorem id194 : scan (mCd 194).data.toList 0 il194 = true := by decide +kernel
theorem mm194 : mKd 194 = 0 ∧ mAr 194 = 3 ∧ mMx 194 = 3 := by decide +kernel
theorem mo194 : mOw 194 = 13 := by decide +kernel
theorem mr194 : mRt 194 = some .int := by decide +kernel
theorem mh194 : mHn 194 = [] := by decide +kernel
def il195 : List (Nat × Instr) := [(0, .new 25), (3, .dup), (4, .invokespecial 180), (7, .astore_n 1), (8, .aload_n 1), (9, .aload_n 0), (10, .invokestatic 181), (13, .ifCond .ne 5), (16, .iconst 0), (17, .ireturn), (18, .aload_n 1), (19, .iconst 0), (20, .invokevirtual 145), (23, .lstore_n 2), (24, .iconst 1), (25, .istore 4), (27, .aload_n 1), (28, .lload_n 2), (29, .invokestatic 184), (32, .ifCond .eq 10), (35, .aload_n 1), (36, .invokestatic 188), (39, .ifCond .ne 5), (42, .iconst 0), (43, .ireturn), (44, .bipush 30), (46, .istore 5), (48, .iload 5), (50, .iconst 2), (51, .iadd), (52, .sipush 200), (55, .if_icmp .ge 168), (58, .aload_n 1), (59, .invokestatic 192), (62, .astore 6), (64, .aload_n 0), (65, .iload 5), (67, .bipush 20), (69, .invokestatic 40), (72, .istore 7), (74, .aload_n 1), (75, .iconst 3), (76, .invokevirtual 93), (79, .istore 8), (81, .aload_n 1), (82, .aload_n 0), (83, .iload 5), (85, .invokestatic 196), (88, .istore 9), (90, .iload 4), (92, .iload 7), (94, .bipush 14), (96, .if_icmp .ne 10), (99, .iload 9), (101, .bipush (-99)), (103, .if_icmp .ne 7), (106, .iconst 1), (107, .goto 4), (110, .iconst 0), (111, .iand), (112, .istore 4), (114, .aload_n 1), (115, .lload_n 2), (116, .invokestatic 184), (119, .ifCond .eq 15), (122, .iload 4), (124, .ifCond .eq 12), (127, .aload_n 1), (128, .invokestatic 188), (131, .ifCond .ne 5), (134, .iconst 0), (135, .ireturn), (136, .iload 7), (138, .bipush 7), (140, .if_icmp .le 20), (143, .iload 7), (145, .bipush 16), (147, .if_icmp .eq 13), (150, .iload 7), (152, .bipush 18), (154, .if_icmp .ge 6), (157, .goto 60), (160, .aload_n 1), (161, .invokestatic 192), (164, .astore 10), (166, .iconst 0), (167, .istore 11), (169, .iload 11), (171, .aload 6), (173, .arraylength), (174, .if_icmp .ge 24), (177, .aload 6), (179, .iload 11), (181, .iaload), (182, .aload 10), (184, .iload 11), (186, .iaload), (187, .if_icmp .eq 5), (190, .iconst 0), (191, .ireturn), (192, .iinc 11 1), (195, .goto (-26)), (198, .iload 7), (200, .bipush 16), (202, .if_icmp .eq 15), (205, .aload_n 1), (206, .iconst 3), (207, .invokevirtual 93), (210, .iload 8), (212, .if_icmp .gt 5), (215, .iconst 0), (216, .ireturn), (217, .iinc 5 3), (220, .goto (-172)), (223, .iconst 1), (224, .ireturn)]
set_option maxRecDepth 100000 in
theorem id195 : scan (mCd 195).data.toList 0 il195 = true := by decide +kernel
theorem mm195 : mKd 195 = 0 ∧ mAr 195 = 1 ∧ mMx 195 = 12 := by decide +kernel
theorem mo195 : mOw 195 = 11 := by decide +kernel
theorem mr195 : mRt 195 = some .boolean := by decide +kernel
theorem mh195 : mHn 195 = [] := by decide +kernel
