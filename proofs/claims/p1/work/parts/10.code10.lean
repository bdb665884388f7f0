def xi_90 (pc : Nat) : XIs := []
theorem xi_ok90 (pc : Nat) : xi_ok cX2_isLow (xi_90 pc) = true := rfl
def xi_91_0 : XIs := [(0, .aload_n 0, 1), (1, .invokespecial 3, 3), (4, .aload_n 0, 1), (5, .bipush 32, 2), (7, .newarray .int, 2), (9, .putfield 9, 3), (12, .aload_n 0, 1), (13, .sipush 160, 3), (16, .newarray .int, 2), (18, .putfield 15, 3), (21, .aload_n 0, 1), (22, .sipush 160, 3), (25, .newarray .int, 2), (27, .putfield 18, 3), (30, .aload_n 0, 1), (31, .sipush 160, 3)]
set_option maxRecDepth 100000 in
theorem xi_ok91_0 : xi_ok cX3_init xi_91_0 = true := by decide +kernel
def xi_91_1 : XIs := [(34, .newarray .int, 2), (36, .putfield 21, 3), (39, .aload_n 0, 1), (40, .sipush 160, 3), (43, .newarray .int, 2), (45, .putfield 24, 3), (48, .aload_n 0, 1), (49, .sipush 160, 3), (52, .newarray .int, 2), (54, .putfield 27, 3), (57, .aload_n 0, 1), (58, .bipush 32, 2), (60, .newarray .int, 2), (62, .putfield 30, 3), (65, .aload_n 0, 1), (66, .bipush 32, 2)]
set_option maxRecDepth 100000 in
theorem xi_ok91_1 : xi_ok cX3_init xi_91_1 = true := by decide +kernel
def xi_91_2 : XIs := [(68, .newarray .int, 2), (70, .putfield 33, 3), (73, .aload_n 0, 1), (74, .bipush 32, 2), (76, .newarray .int, 2), (78, .putfield 36, 3), (81, .aload_n 0, 1), (82, .bipush 33, 2), (84, .newarray .int, 2), (86, .putfield 39, 3), (89, .aload_n 0, 1), (90, .sipush 160, 3), (93, .newarray .int, 2), (95, .putfield 42, 3), (98, .aload_n 0, 1), (99, .bipush 33, 2)]
set_option maxRecDepth 100000 in
theorem xi_ok91_2 : xi_ok cX3_init xi_91_2 = true := by decide +kernel
def xi_91_3 : XIs := [(101, .newarray .int, 2), (103, .putfield 45, 3), (106, .aload_n 0, 1), (107, .sipush 160, 3), (110, .newarray .int, 2), (112, .putfield 48, 3), (115, .aload_n 0, 1), (116, .iconst (-1), 1), (117, .putfield 51, 3), (120, .aload_n 0, 1), (121, .getfield 15, 3), (124, .iconst (-1), 1), (125, .invokestatic 55, 3), (128, .return_, 1)]
set_option maxRecDepth 100000 in
theorem xi_ok91_3 : xi_ok cX3_init xi_91_3 = true := by decide +kernel
def xi_91 (pc : Nat) : XIs := cond (Nat.blt pc 68) (cond (Nat.blt pc 34) (xi_91_0) (xi_91_1)) (cond (Nat.blt pc 101) (xi_91_2) (xi_91_3))
theorem xi_ok91 (pc : Nat) : xi_ok cX3_init (xi_91 pc) = true := xi_c (xi_c (xi_ok91_0) (xi_ok91_1)) (xi_c (xi_ok91_2) (xi_ok91_3))
def xi_92_0 : XIs := [(0, .aload_n 0, 1), (1, .iconst 0, 1), (2, .putfield 61, 3), (5, .aload_n 0, 1), (6, .iconst 0, 1), (7, .putfield 64, 3), (10, .aload_n 0, 1), (11, .iconst 0, 1), (12, .putfield 67, 3), (15, .aload_n 0, 1), (16, .iconst 0, 1), (17, .putfield 70, 3), (20, .aload_n 0, 1), (21, .iconst (-1), 1), (22, .putfield 51, 3), (25, .aload_n 0, 1)]
set_option maxRecDepth 100000 in
theorem xi_ok92_0 : xi_ok cX3_clear xi_92_0 = true := by decide +kernel
def xi_92_1 : XIs := [(26, .getfield 15, 3), (29, .iconst (-1), 1), (30, .invokestatic 55, 3), (33, .return_, 1)]
set_option maxRecDepth 100000 in
theorem xi_ok92_1 : xi_ok cX3_clear xi_92_1 = true := by decide +kernel
def xi_92 (pc : Nat) : XIs := cond (Nat.blt pc 26) (xi_92_0) (xi_92_1)
theorem xi_ok92 (pc : Nat) : xi_ok cX3_clear (xi_92 pc) = true := xi_c (xi_ok92_0) (xi_ok92_1)
def xi_93_0 : XIs := [(0, .aload_n 0, 1), (1, .aload_n 1, 1), (2, .getfield 61, 3), (5, .putfield 61, 3), (8, .aload_n 0, 1), (9, .aload_n 1, 1), (10, .getfield 64, 3), (13, .putfield 64, 3), (16, .aload_n 0, 1), (17, .aload_n 1, 1), (18, .getfield 67, 3), (21, .putfield 67, 3), (24, .aload_n 0, 1), (25, .aload_n 1, 1), (26, .getfield 70, 3), (29, .putfield 70, 3)]
set_option maxRecDepth 100000 in
theorem xi_ok93_0 : xi_ok cX3_copyOf xi_93_0 = true := by decide +kernel
def xi_93_1 : XIs := [(32, .aload_n 0, 1), (33, .iconst (-1), 1), (34, .putfield 51, 3), (37, .aload_n 1, 1), (38, .getfield 9, 3), (41, .iconst 0, 1), (42, .aload_n 0, 1), (43, .getfield 9, 3), (46, .iconst 0, 1), (47, .bipush 32, 2), (49, .invokestatic 73, 3), (52, .aload_n 1, 1), (53, .getfield 15, 3), (56, .iconst 0, 1), (57, .aload_n 0, 1), (58, .getfield 15, 3)]
set_option maxRecDepth 100000 in
theorem xi_ok93_1 : xi_ok cX3_copyOf xi_93_1 = true := by decide +kernel
def xi_93_2 : XIs := [(61, .iconst 0, 1), (62, .sipush 160, 3), (65, .invokestatic 73, 3), (68, .aload_n 1, 1), (69, .getfield 18, 3), (72, .iconst 0, 1), (73, .aload_n 0, 1), (74, .getfield 18, 3), (77, .iconst 0, 1), (78, .sipush 160, 3), (81, .invokestatic 73, 3), (84, .aload_n 1, 1), (85, .getfield 21, 3), (88, .iconst 0, 1), (89, .aload_n 0, 1), (90, .getfield 21, 3)]
set_option maxRecDepth 100000 in
theorem xi_ok93_2 : xi_ok cX3_copyOf xi_93_2 = true := by decide +kernel
def xi_93_3 : XIs := [(93, .iconst 0, 1), (94, .sipush 160, 3), (97, .invokestatic 73, 3), (100, .aload_n 1, 1), (101, .getfield 24, 3), (104, .iconst 0, 1), (105, .aload_n 0, 1), (106, .getfield 24, 3), (109, .iconst 0, 1), (110, .sipush 160, 3), (113, .invokestatic 73, 3), (116, .aload_n 1, 1), (117, .getfield 27, 3), (120, .iconst 0, 1), (121, .aload_n 0, 1), (122, .getfield 27, 3)]
set_option maxRecDepth 100000 in
theorem xi_ok93_3 : xi_ok cX3_copyOf xi_93_3 = true := by decide +kernel
def xi_93_4 : XIs := [(125, .iconst 0, 1), (126, .sipush 160, 3), (129, .invokestatic 73, 3), (132, .return_, 1)]
set_option maxRecDepth 100000 in
theorem xi_ok93_4 : xi_ok cX3_copyOf xi_93_4 = true := by decide +kernel
def xi_93 (pc : Nat) : XIs := cond (Nat.blt pc 61) (cond (Nat.blt pc 32) (xi_93_0) (xi_93_1)) (cond (Nat.blt pc 93) (xi_93_2) (cond (Nat.blt pc 125) (xi_93_3) (xi_93_4)))
theorem xi_ok93 (pc : Nat) : xi_ok cX3_copyOf (xi_93 pc) = true := xi_c (xi_c (xi_ok93_0) (xi_ok93_1)) (xi_c (xi_ok93_2) (xi_c (xi_ok93_3) (xi_ok93_4)))
def xi_94_0 : XIs := [(0, .iload_n 1, 1), (1, .ifCond .lt 15, 3), (4, .iload_n 1, 1), (5, .aload_n 0, 1), (6, .getfield 64, 3), (9, .if_icmp .ge 7, 3), (16, .iconst 0, 1), (17, .ireturn, 1)]
set_option maxRecDepth 100000 in
theorem xi_ok94_0 : xi_ok cX3_hasNode xi_94_0 = true := by decide +kernel
def xi_94 (pc : Nat) : XIs := xi_94_0
theorem xi_ok94 (pc : Nat) : xi_ok cX3_hasNode (xi_94 pc) = true := xi_ok94_0
def xi_95_0 : XIs := [(0, .aload_n 0, 1), (1, .iload_n 1, 1), (2, .invokevirtual 79, 3), (5, .ifCond .eq 20, 3), (25, .iconst 0, 1), (26, .ireturn, 1)]
set_option maxRecDepth 100000 in
theorem xi_ok95_0 : xi_ok cX3_hasTwo xi_95_0 = true := by decide +kernel
def xi_95 (pc : Nat) : XIs := xi_95_0
theorem xi_ok95 (pc : Nat) : xi_ok cX3_hasTwo (xi_95 pc) = true := xi_ok95_0
def xi_96_0 : XIs := [(0, .iload_n 1, 1), (1, .ifCond .lt 25, 3), (4, .iload_n 1, 1), (5, .aload_n 0, 1), (6, .getfield 70, 3), (9, .if_icmp .ge 17, 3), (26, .iconst 0, 1), (27, .ireturn, 1)]
set_option maxRecDepth 100000 in
theorem xi_ok96_0 : xi_ok cX3_hasArc xi_96_0 = true := by decide +kernel
def xi_96 (pc : Nat) : XIs := xi_96_0
theorem xi_ok96 (pc : Nat) : xi_ok cX3_hasArc (xi_96 pc) = true := xi_ok96_0
def xi_97 (pc : Nat) : XIs := []
theorem xi_ok97 (pc : Nat) : xi_ok cX3_isJoint (xi_97 pc) = true := rfl
def xi_98_0 : XIs := [(0, .iconst 0, 1), (1, .istore_n 1, 1), (2, .iconst 0, 1), (3, .istore_n 2, 1), (4, .iload_n 2, 1), (5, .aload_n 0, 1), (6, .getfield 70, 3), (9, .if_icmp .ge 20, 3), (29, .iload_n 1, 1), (30, .ireturn, 1)]
set_option maxRecDepth 100000 in
theorem xi_ok98_0 : xi_ok cX3_joints xi_98_0 = true := by decide +kernel
def xi_98 (pc : Nat) : XIs := xi_98_0
theorem xi_ok98 (pc : Nat) : xi_ok cX3_joints (xi_98 pc) = true := xi_ok98_0
def xi_99_0 : XIs := [(0, .aload_n 1, 1), (1, .iconst 0, 1), (2, .invokestatic 55, 3), (5, .iconst 0, 1), (6, .istore_n 2, 1), (7, .iload_n 2, 1), (8, .aload_n 0, 1), (9, .getfield 70, 3), (12, .if_icmp .ge 41, 3), (53, .return_, 1)]
set_option maxRecDepth 100000 in
theorem xi_ok99_0 : xi_ok cX3_countJoints xi_99_0 = true := by decide +kernel
def xi_99 (pc : Nat) : XIs := xi_99_0
theorem xi_ok99 (pc : Nat) : xi_ok cX3_countJoints (xi_99 pc) = true := xi_ok99_0
def xi_100 (pc : Nat) : XIs := []
theorem xi_ok100 (pc : Nat) : xi_ok cX3_valueOf (xi_100 pc) = true := rfl
def xi_101 (pc : Nat) : XIs := []
theorem xi_ok101 (pc : Nat) : xi_ok cX3_freePlace (xi_101 pc) = true := rfl
def xi_102_0 : XIs := [(0, .aload_n 0, 1), (1, .getfield 64, 3), (4, .bipush 32, 2), (6, .if_icmp .lt 7, 3), (13, .iconst 1, 1), (14, .aload_n 0, 1), (15, .getfield 64, 3), (18, .ishl, 1), (19, .iconst 1, 1), (20, .isub, 1), (21, .ireturn, 1)]
set_option maxRecDepth 100000 in
theorem xi_ok102_0 : xi_ok cX3_allNodes xi_102_0 = true := by decide +kernel
def xi_102 (pc : Nat) : XIs := xi_102_0
theorem xi_ok102 (pc : Nat) : xi_ok cX3_allNodes (xi_102 pc) = true := xi_ok102_0
def xi_103 (pc : Nat) : XIs := []
theorem xi_ok103 (pc : Nat) : xi_ok cX3_outCount (xi_103 pc) = true := rfl
def xi_104 (pc : Nat) : XIs := []
theorem xi_ok104 (pc : Nat) : xi_ok cX3_inCount (xi_104 pc) = true := rfl
def xi_105 (pc : Nat) : XIs := []
theorem xi_ok105 (pc : Nat) : xi_ok cX3_dropAt (xi_105 pc) = true := rfl
def xi_106_0 : XIs := [(0, .aload_n 0, 1), (1, .getfield 51, 3), (4, .aload_n 0, 1), (5, .getfield 61, 3), (8, .if_icmp .ne 4, 3), (12, .aload_n 0, 1), (13, .aload_n 0, 1), (14, .getfield 61, 3), (17, .putfield 51, 3), (20, .aload_n 0, 1), (21, .getfield 30, 3), (24, .iconst 0, 1), (25, .invokestatic 55, 3), (28, .aload_n 0, 1), (29, .getfield 33, 3), (32, .iconst 0, 1)]
set_option maxRecDepth 100000 in
theorem xi_ok106_0 : xi_ok cX3_tie xi_106_0 = true := by decide +kernel
def xi_106_1 : XIs := [(33, .invokestatic 55, 3), (36, .aload_n 0, 1), (37, .getfield 36, 3), (40, .iconst 0, 1), (41, .invokestatic 55, 3), (44, .aload_n 0, 1), (45, .getfield 39, 3), (48, .iconst 0, 1), (49, .invokestatic 55, 3), (52, .aload_n 0, 1), (53, .getfield 45, 3), (56, .iconst 0, 1), (57, .invokestatic 55, 3), (60, .iconst 0, 1), (61, .istore_n 1, 1), (62, .iload_n 1, 1)]
set_option maxRecDepth 100000 in
theorem xi_ok106_1 : xi_ok cX3_tie xi_106_1 = true := by decide +kernel
def xi_106_2 : XIs := [(63, .aload_n 0, 1), (64, .getfield 70, 3), (67, .if_icmp .ge 35, 3), (102, .iconst 1, 1), (103, .istore_n 1, 1), (104, .iload_n 1, 1), (105, .bipush 32, 2), (107, .if_icmp .gt 43, 3), (110, .aload_n 0, 1), (111, .getfield 39, 3), (114, .iload_n 1, 1), (115, .dup2, 1), (116, .iaload, 1), (117, .aload_n 0, 1), (118, .getfield 39, 3), (121, .iload_n 1, 1)]
set_option maxRecDepth 100000 in
theorem xi_ok106_2 : xi_ok cX3_tie xi_106_2 = true := by decide +kernel
def xi_106_3 : XIs := [(122, .iconst 1, 1), (123, .isub, 1), (124, .iaload, 1), (125, .iadd, 1), (126, .iastore, 1), (127, .aload_n 0, 1), (128, .getfield 45, 3), (131, .iload_n 1, 1), (132, .dup2, 1), (133, .iaload, 1), (134, .aload_n 0, 1), (135, .getfield 45, 3), (138, .iload_n 1, 1), (139, .iconst 1, 1), (140, .isub, 1), (141, .iaload, 1)]
set_option maxRecDepth 100000 in
theorem xi_ok106_3 : xi_ok cX3_tie xi_106_3 = true := by decide +kernel
def xi_106_4 : XIs := [(142, .iadd, 1), (143, .iastore, 1), (144, .iinc 1 1, 3), (147, .goto (-43), 3), (150, .aload_n 0, 1), (151, .getfield 70, 3), (154, .iconst 1, 1), (155, .isub, 1), (156, .istore_n 1, 1), (157, .iload_n 1, 1), (158, .ifCond .lt 83, 3), (241, .return_, 1)]
set_option maxRecDepth 100000 in
theorem xi_ok106_4 : xi_ok cX3_tie xi_106_4 = true := by decide +kernel
def xi_106 (pc : Nat) : XIs := cond (Nat.blt pc 63) (cond (Nat.blt pc 33) (xi_106_0) (xi_106_1)) (cond (Nat.blt pc 122) (xi_106_2) (cond (Nat.blt pc 142) (xi_106_3) (xi_106_4)))
theorem xi_ok106 (pc : Nat) : xi_ok cX3_tie (xi_106 pc) = true := xi_c (xi_c (xi_ok106_0) (xi_ok106_1)) (xi_c (xi_ok106_2) (xi_c (xi_ok106_3) (xi_ok106_4)))
def xi_107 (pc : Nat) : XIs := []
theorem xi_ok107 (pc : Nat) : xi_ok cX3_tieEnds (xi_107 pc) = true := rfl
def xi_108_0 : XIs := [(0, .aload_n 0, 1), (1, .invokespecial 3, 3), (4, .aload_n 0, 1), (5, .iconst (-1), 1), (6, .putfield 9, 3), (9, .aload_n 0, 1), (10, .bipush 32, 2), (12, .newarray .long, 2), (14, .putfield 15, 3), (17, .aload_n 0, 1), (18, .bipush 32, 2), (20, .newarray .long, 2), (22, .putfield 19, 3), (25, .aload_n 0, 1), (26, .iconst (-1), 1), (27, .putfield 22, 3)]
set_option maxRecDepth 100000 in
theorem xi_ok108_0 : xi_ok cX4_init xi_108_0 = true := by decide +kernel
def xi_108_1 : XIs := [(30, .aload_n 0, 1), (31, .bipush 32, 2), (33, .newarray .int, 2), (35, .putfield 25, 3), (38, .aload_n 0, 1), (39, .bipush 32, 2), (41, .newarray .int, 2), (43, .putfield 29, 3), (46, .aload_n 0, 1), (47, .bipush 32, 2), (49, .newarray .int, 2), (51, .putfield 32, 3), (54, .aload_n 0, 1), (55, .bipush 32, 2), (57, .newarray .int, 2), (59, .putfield 35, 3)]
set_option maxRecDepth 100000 in
theorem xi_ok108_1 : xi_ok cX4_init xi_108_1 = true := by decide +kernel
def xi_108_2 : XIs := [(62, .aload_n 0, 1), (63, .bipush 32, 2), (65, .newarray .int, 2), (67, .putfield 38, 3), (70, .return_, 1)]
set_option maxRecDepth 100000 in
theorem xi_ok108_2 : xi_ok cX4_init xi_108_2 = true := by decide +kernel
def xi_108 (pc : Nat) : XIs := cond (Nat.blt pc 30) (xi_108_0) (cond (Nat.blt pc 62) (xi_108_1) (xi_108_2))
theorem xi_ok108 (pc : Nat) : xi_ok cX4_init (xi_108 pc) = true := xi_c (xi_ok108_0) (xi_c (xi_ok108_1) (xi_ok108_2))
def xi_109 (pc : Nat) : XIs := []
theorem xi_ok109 (pc : Nat) : xi_ok cX4_unitsOf (xi_109 pc) = true := rfl
def xi_110 (pc : Nat) : XIs := []
theorem xi_ok110 (pc : Nat) : xi_ok cX4_shareOut (xi_110 pc) = true := rfl
def xi_111 (pc : Nat) : XIs := []
theorem xi_ok111 (pc : Nat) : xi_ok cX4_groupOf (xi_111 pc) = true := rfl
def xi_112_0 : XIs := [(0, .aload_n 0, 1), (1, .aload_n 1, 1), (2, .invokevirtual 84, 3), (5, .lconst 0, 1), (6, .lstore_n 2, 1), (7, .iconst 0, 1), (8, .istore 4, 2), (10, .iload 4, 2), (12, .aload_n 1, 1), (13, .getfield 90, 3), (16, .if_icmp .ge 57, 3), (73, .iconst 0, 1), (74, .istore 4, 2), (76, .iload 4, 2), (78, .aload_n 1, 1), (79, .getfield 64, 3)]
set_option maxRecDepth 100000 in
theorem xi_ok112_0 : xi_ok cX4_totalGain xi_112_0 = true := by decide +kernel
def xi_112_1 : XIs := [(82, .if_icmp .ge 42, 3), (124, .lload_n 2, 1), (125, .lreturn, 1)]
set_option maxRecDepth 100000 in
theorem xi_ok112_1 : xi_ok cX4_totalGain xi_112_1 = true := by decide +kernel
def xi_112 (pc : Nat) : XIs := cond (Nat.blt pc 82) (xi_112_0) (xi_112_1)
theorem xi_ok112 (pc : Nat) : xi_ok cX4_totalGain (xi_112 pc) = true := xi_c (xi_ok112_0) (xi_ok112_1)
def xi_113_0 : XIs := [(0, .aload_n 0, 1), (1, .getfield 22, 3), (4, .aload_n 1, 1), (5, .getfield 41, 3), (8, .if_icmp .ne 4, 3), (12, .aload_n 0, 1), (13, .aload_n 1, 1), (14, .getfield 41, 3), (17, .putfield 22, 3), (20, .aload_n 0, 1), (21, .aload_n 1, 1), (22, .invokevirtual 105, 3), (25, .iconst 1, 1), (26, .istore_n 2, 1), (27, .iconst 0, 1), (28, .istore_n 3, 1)]
set_option maxRecDepth 100000 in
theorem xi_ok113_0 : xi_ok cX4_settle xi_113_0 = true := by decide +kernel
def xi_113_1 : XIs := [(29, .iload_n 3, 1), (30, .bipush 20, 2), (32, .if_icmp .ge 43, 3), (35, .iload_n 2, 1), (36, .ifCond .eq 39, 3), (39, .iconst 0, 1), (40, .istore_n 2, 1), (41, .iconst 0, 1), (42, .istore 4, 2), (44, .iload 4, 2), (46, .aload_n 1, 1), (47, .getfield 64, 3), (50, .if_icmp .ge 19, 3), (69, .iinc 3 1, 3), (72, .goto (-43), 3), (75, .return_, 1)]
set_option maxRecDepth 100000 in
theorem xi_ok113_1 : xi_ok cX4_settle xi_113_1 = true := by decide +kernel
def xi_113 (pc : Nat) : XIs := cond (Nat.blt pc 29) (xi_113_0) (xi_113_1)
theorem xi_ok113 (pc : Nat) : xi_ok cX4_settle (xi_113 pc) = true := xi_c (xi_ok113_0) (xi_ok113_1)
def xi_114_0 : XIs := [(0, .aload_n 1, 1), (1, .invokevirtual 57, 3), (4, .aload_n 0, 1), (5, .aload_n 1, 1), (6, .invokevirtual 112, 3), (9, .putfield 102, 3), (12, .aload_n 1, 1), (13, .aload_n 0, 1), (14, .getfield 32, 3), (17, .invokevirtual 115, 3), (20, .aload_n 0, 1), (21, .getfield 29, 3), (24, .iconst 0, 1), (25, .invokestatic 119, 3), (28, .iconst 0, 1), (29, .istore_n 2, 1)]
set_option maxRecDepth 100000 in
theorem xi_ok114_0 : xi_ok cX4_begin xi_114_0 = true := by decide +kernel
def xi_114_1 : XIs := [(30, .iload_n 2, 1), (31, .aload_n 1, 1), (32, .getfield 64, 3), (35, .if_icmp .ge 37, 3), (72, .return_, 1)]
set_option maxRecDepth 100000 in
theorem xi_ok114_1 : xi_ok cX4_begin xi_114_1 = true := by decide +kernel
def xi_114 (pc : Nat) : XIs := cond (Nat.blt pc 30) (xi_114_0) (xi_114_1)
theorem xi_ok114 (pc : Nat) : xi_ok cX4_begin (xi_114 pc) = true := xi_c (xi_ok114_0) (xi_ok114_1)
def xi_115 (pc : Nat) : XIs := []
theorem xi_ok115 (pc : Nat) : xi_ok cX4_settleNode (xi_115 pc) = true := rfl
def xi_116 (pc : Nat) : XIs := []
theorem xi_ok116 (pc : Nat) : xi_ok cX4_isBetter (xi_116 pc) = true := rfl
def xi_117 (pc : Nat) : XIs := []
theorem xi_ok117 (pc : Nat) : xi_ok cX4_countLinks (xi_117 pc) = true := rfl
def xi_118 (pc : Nat) : XIs := []
theorem xi_ok118 (pc : Nat) : xi_ok cX4_score (xi_118 pc) = true := rfl
def xi_119 (pc : Nat) : XIs := []
theorem xi_ok119 (pc : Nat) : xi_ok cX4_freeGroup (xi_119 pc) = true := rfl
def xi_120 (pc : Nat) : XIs := []
theorem xi_ok120 (pc : Nat) : xi_ok cX4_moveTo (xi_120 pc) = true := rfl
def xi_121_0 : XIs := [(0, .aload_n 0, 1), (1, .invokespecial 3, 3), (4, .aload_n 0, 1), (5, .new 9, 3), (8, .dup, 1), (9, .invokespecial 11, 3), (12, .putfield 12, 3), (15, .aload_n 0, 1), (16, .new 9, 3), (19, .dup, 1), (20, .invokespecial 11, 3), (23, .putfield 18, 3), (26, .aload_n 0, 1), (27, .sipush 448, 3), (30, .newarray .int, 2), (32, .putfield 21, 3)]
set_option maxRecDepth 100000 in
theorem xi_ok121_0 : xi_ok cX5_init xi_121_0 = true := by decide +kernel
def xi_121_1 : XIs := [(35, .aload_n 0, 1), (36, .iconst 5, 1), (37, .newarray .int, 2), (39, .putfield 25, 3), (42, .return_, 1)]
set_option maxRecDepth 100000 in
theorem xi_ok121_1 : xi_ok cX5_init xi_121_1 = true := by decide +kernel
def xi_121 (pc : Nat) : XIs := cond (Nat.blt pc 35) (xi_121_0) (xi_121_1)
theorem xi_ok121 (pc : Nat) : xi_ok cX5_init (xi_121 pc) = true := xi_c (xi_ok121_0) (xi_ok121_1)
def xi_122_0 : XIs := [(0, .aload_n 0, 1), (1, .getfield 12, 3), (4, .getfield 28, 3), (7, .sipush 4000, 3), (10, .if_icmp .lt 7, 3), (17, .iconst 0, 1), (18, .ireturn, 1)]
set_option maxRecDepth 100000 in
theorem xi_ok122_0 : xi_ok cX5_isFull xi_122_0 = true := by decide +kernel
def xi_122 (pc : Nat) : XIs := xi_122_0
theorem xi_ok122 (pc : Nat) : xi_ok cX5_isFull (xi_122 pc) = true := xi_ok122_0
def xi_123_0 : XIs := [(0, .aload_n 0, 1), (1, .getfield 12, 3), (4, .iload_n 1, 1), (5, .invokevirtual 32, 3), (8, .ifCond .eq 41, 3), (49, .iconst 0, 1), (50, .ireturn, 1)]
set_option maxRecDepth 100000 in
theorem xi_ok123_0 : xi_ok cX5_isGoodArc xi_123_0 = true := by decide +kernel
def xi_123 (pc : Nat) : XIs := xi_123_0
theorem xi_ok123 (pc : Nat) : xi_ok cX5_isGoodArc (xi_123 pc) = true := xi_ok123_0
def xi_124_0 : XIs := [(0, .aload_n 0, 1), (1, .iconst 0, 1), (2, .aload_n 0, 1), (3, .getfield 12, 3), (6, .getfield 45, 3), (9, .iload_n 1, 1), (10, .iconst 0, 1), (11, .invokevirtual 48, 3), (14, .aload_n 0, 1), (15, .getfield 12, 3), (18, .getfield 45, 3), (21, .iconst 1, 1), (22, .isub, 1), (23, .ireturn, 1)]
set_option maxRecDepth 100000 in
theorem xi_ok124_0 : xi_ok cX5_addNode xi_124_0 = true := by decide +kernel
def xi_124 (pc : Nat) : XIs := xi_124_0
theorem xi_ok124 (pc : Nat) : xi_ok cX5_addNode (xi_124 pc) = true := xi_ok124_0
def xi_125 (pc : Nat) : XIs := []
theorem xi_ok125 (pc : Nat) : xi_ok cX5_addArc (xi_125 pc) = true := rfl
def xi_126 (pc : Nat) : XIs := []
theorem xi_ok126 (pc : Nat) : xi_ok cX5_dropArc (xi_126 pc) = true := rfl
def xi_127 (pc : Nat) : XIs := []
theorem xi_ok127 (pc : Nat) : xi_ok cX5_changeArc (xi_127 pc) = true := rfl
def xi_128 (pc : Nat) : XIs := []
theorem xi_ok128 (pc : Nat) : xi_ok cX5_relabel (xi_128 pc) = true := rfl
def xi_129_0 : XIs := [(0, .aload_n 0, 1), (1, .invokevirtual 56, 3), (4, .istore 5, 2), (6, .aload_n 0, 1), (7, .getfield 21, 3), (10, .iload 5, 2), (12, .iload_n 1, 1), (13, .iastore, 1), (14, .aload_n 0, 1), (15, .getfield 21, 3), (18, .iload 5, 2), (20, .iconst 1, 1), (21, .iadd, 1), (22, .iload_n 2, 1), (23, .iastore, 1), (24, .aload_n 0, 1)]
set_option maxRecDepth 100000 in
theorem xi_ok129_0 : xi_ok cX5_note xi_129_0 = true := by decide +kernel
def xi_129_1 : XIs := [(25, .getfield 21, 3), (28, .iload 5, 2), (30, .iconst 2, 1), (31, .iadd, 1), (32, .iload_n 3, 1), (33, .iastore, 1), (34, .aload_n 0, 1), (35, .getfield 21, 3), (38, .iload 5, 2), (40, .iconst 3, 1), (41, .iadd, 1), (42, .iload 4, 2), (44, .iastore, 1), (45, .aload_n 0, 1), (46, .aload_n 0, 1), (47, .getfield 12, 3)]
set_option maxRecDepth 100000 in
theorem xi_ok129_1 : xi_ok cX5_note xi_129_1 = true := by decide +kernel
def xi_129_2 : XIs := [(50, .invokevirtual 59, 3), (53, .return_, 1)]
set_option maxRecDepth 100000 in
theorem xi_ok129_2 : xi_ok cX5_note xi_129_2 = true := by decide +kernel
def xi_129 (pc : Nat) : XIs := cond (Nat.blt pc 25) (xi_129_0) (cond (Nat.blt pc 50) (xi_129_1) (xi_129_2))
theorem xi_ok129 (pc : Nat) : xi_ok cX5_note (xi_129 pc) = true := xi_c (xi_ok129_0) (xi_c (xi_ok129_1) (xi_ok129_2))
def xi_130_0 : XIs := [(0, .aload_n 0, 1), (1, .getfield 12, 3), (4, .getfield 28, 3), (7, .bipush 7, 2), (9, .imul, 1), (10, .istore_n 1, 1), (11, .iload_n 1, 1), (12, .bipush 7, 2), (14, .iadd, 1), (15, .aload_n 0, 1), (16, .getfield 21, 3), (19, .arraylength, 1), (20, .if_icmp .le 34, 3), (54, .iload_n 1, 1), (55, .ireturn, 1)]
set_option maxRecDepth 100000 in
theorem xi_ok130_0 : xi_ok cX5_openRow xi_130_0 = true := by decide +kernel
def xi_130 (pc : Nat) : XIs := xi_130_0
theorem xi_ok130 (pc : Nat) : xi_ok cX5_openRow (xi_130 pc) = true := xi_ok130_0
def xi_131_0 : XIs := [(0, .aload_n 1, 1), (1, .getfield 28, 3), (4, .bipush 7, 2), (6, .imul, 1), (7, .istore_n 2, 1), (8, .aload_n 0, 1), (9, .getfield 21, 3), (12, .iload_n 2, 1), (13, .iconst 1, 1), (14, .iadd, 1), (15, .iaload, 1), (16, .istore_n 3, 1), (17, .aload_n 1, 1), (18, .dup, 1), (19, .getfield 28, 3), (22, .iconst 1, 1)]
set_option maxRecDepth 100000 in
theorem xi_ok131_0 : xi_ok cX5_apply xi_131_0 = true := by decide +kernel
def xi_131_1 : XIs := [(23, .iadd, 1), (24, .putfield 28, 3), (27, .aload_n 0, 1), (28, .getfield 21, 3), (31, .iload_n 2, 1), (32, .iaload, 1), (33, .tableswitch 101 0 3 #[31, 58, 68, 76], 31), (64, .aload_n 1, 1), (65, .getfield 78, 3), (68, .iload_n 3, 1), (69, .aload_n 0, 1), (70, .getfield 21, 3), (73, .iload_n 2, 1), (74, .iconst 2, 1), (75, .iadd, 1), (76, .iaload, 1)]
set_option maxRecDepth 100000 in
theorem xi_ok131_1 : xi_ok cX5_apply xi_131_1 = true := by decide +kernel
def xi_131_2 : XIs := [(77, .iastore, 1), (78, .aload_n 1, 1), (79, .dup, 1), (80, .getfield 45, 3), (83, .iconst 1, 1), (84, .iadd, 1), (85, .putfield 45, 3), (88, .goto 60, 3), (148, .return_, 1)]
set_option maxRecDepth 100000 in
theorem xi_ok131_2 : xi_ok cX5_apply xi_131_2 = true := by decide +kernel
def xi_131 (pc : Nat) : XIs := cond (Nat.blt pc 23) (xi_131_0) (cond (Nat.blt pc 77) (xi_131_1) (xi_131_2))
theorem xi_ok131 (pc : Nat) : xi_ok cX5_apply (xi_131 pc) = true := xi_c (xi_ok131_0) (xi_c (xi_ok131_1) (xi_ok131_2))
def xi_132 (pc : Nat) : XIs := []
theorem xi_ok132 (pc : Nat) : xi_ok cX5_applyArc (xi_132 pc) = true := rfl
def xi_133 (pc : Nat) : XIs := []
theorem xi_ok133 (pc : Nat) : xi_ok cX5_applyValue (xi_133 pc) = true := rfl
def xi_134_0 : XIs := [(0, .iload_n 2, 1), (1, .aload_n 1, 1), (2, .getfield 28, 3), (5, .if_icmp .ge 7, 3), (8, .aload_n 1, 1), (9, .invokevirtual 114, 3), (12, .aload_n 1, 1), (13, .getfield 28, 3), (16, .istore_n 3, 1), (17, .iload_n 3, 1), (18, .iload_n 2, 1), (19, .if_icmp .ge 14, 3), (33, .return_, 1)]
set_option maxRecDepth 100000 in
theorem xi_ok134_0 : xi_ok cX5_replay xi_134_0 = true := by decide +kernel
def xi_134 (pc : Nat) : XIs := xi_134_0
theorem xi_ok134 (pc : Nat) : xi_ok cX5_replay (xi_134 pc) = true := xi_ok134_0
def xi_135_0 : XIs := [(0, .aload_n 0, 1), (1, .getfield 18, 3), (4, .aload_n 0, 1), (5, .getfield 12, 3), (8, .invokevirtual 117, 3), (11, .aload_n 1, 1), (12, .invokevirtual 119, 3), (15, .iconst 0, 1), (16, .istore_n 2, 1), (17, .iload_n 2, 1), (18, .sipush 1000, 3), (21, .if_icmp .gt 47, 3), (24, .aload_n 1, 1), (25, .bipush 7, 2), (27, .iconst 1, 1), (28, .invokevirtual 124, 3)]
set_option maxRecDepth 100000 in
theorem xi_ok135_0 : xi_ok cX5_carryOut xi_135_0 = true := by decide +kernel
def xi_135_1 : XIs := [(31, .aload_n 1, 1), (32, .getfield 128, 3), (35, .ifCond .ne 5, 3), (38, .iload_n 2, 1), (39, .ireturn, 1)]
set_option maxRecDepth 100000 in
theorem xi_ok135_1 : xi_ok cX5_carryOut xi_135_1 = true := by decide +kernel
def xi_135 (pc : Nat) : XIs := cond (Nat.blt pc 31) (xi_135_0) (xi_135_1)
theorem xi_ok135 (pc : Nat) : xi_ok cX5_carryOut (xi_135 pc) = true := xi_c (xi_ok135_0) (xi_ok135_1)
def xi_136 (pc : Nat) : XIs := []
theorem xi_ok136 (pc : Nat) : xi_ok cX5_readCommand (xi_136 pc) = true := rfl
def xi_137 (pc : Nat) : XIs := []
theorem xi_ok137 (pc : Nat) : xi_ok cX5_shapeOf (xi_137 pc) = true := rfl
def xi_138 (pc : Nat) : XIs := []
theorem xi_ok138 (pc : Nat) : xi_ok cX5_doCommand (xi_138 pc) = true := rfl
def xi_139_0 : XIs := [(0, .aload_n 0, 1), (1, .invokespecial 3, 3), (4, .aload_n 0, 1), (5, .iconst (-1), 1), (6, .putfield 9, 3), (9, .aload_n 0, 1), (10, .bipush 32, 2), (12, .newarray .int, 2), (14, .putfield 15, 3), (17, .aload_n 0, 1), (18, .iconst (-1), 1), (19, .putfield 19, 3), (22, .aload_n 0, 1), (23, .bipush 32, 2), (25, .newarray .int, 2), (27, .putfield 22, 3)]
set_option maxRecDepth 100000 in
theorem xi_ok139_0 : xi_ok cX6_init xi_139_0 = true := by decide +kernel
def xi_139_1 : XIs := [(30, .aload_n 0, 1), (31, .bipush 32, 2), (33, .newarray .int, 2), (35, .putfield 25, 3), (38, .return_, 1)]
set_option maxRecDepth 100000 in
theorem xi_ok139_1 : xi_ok cX6_init xi_139_1 = true := by decide +kernel
def xi_139 (pc : Nat) : XIs := cond (Nat.blt pc 30) (xi_139_0) (xi_139_1)
theorem xi_ok139 (pc : Nat) : xi_ok cX6_init (xi_139 pc) = true := xi_c (xi_ok139_0) (xi_ok139_1)
def xi_140 (pc : Nat) : XIs := []
theorem xi_ok140 (pc : Nat) : xi_ok cX6_strongPart (xi_140 pc) = true := rfl
def xi_141 (pc : Nat) : XIs := []
theorem xi_ok141 (pc : Nat) : xi_ok cX6_weakPart (xi_141 pc) = true := rfl
def xi_142 (pc : Nat) : XIs := []
theorem xi_ok142 (pc : Nat) : xi_ok cX6_isBridge (xi_142 pc) = true := rfl
def xi_143 (pc : Nat) : XIs := []
theorem xi_ok143 (pc : Nat) : xi_ok cX6_isCut (xi_143 pc) = true := rfl
def xi_144_0 : XIs := [(0, .aload_n 0, 1), (1, .getfield 9, 3), (4, .aload_n 1, 1), (5, .getfield 63, 3), (8, .if_icmp .eq 16, 3), (11, .aload_n 0, 1), (12, .aload_n 1, 1), (13, .getfield 63, 3), (16, .putfield 9, 3), (19, .aload_n 0, 1), (20, .aload_n 1, 1), (21, .invokevirtual 66, 3), (24, .iload_n 2, 1), (25, .aload_n 0, 1), (26, .getfield 70, 3), (29, .if_icmp .ge 12, 3)]
set_option maxRecDepth 100000 in
theorem xi_ok144_0 : xi_ok cX6_ordered xi_144_0 = true := by decide +kernel
def xi_144_1 : XIs := [(41, .iconst (-1), 1), (42, .ireturn, 1)]
set_option maxRecDepth 100000 in
theorem xi_ok144_1 : xi_ok cX6_ordered xi_144_1 = true := by decide +kernel
def xi_144 (pc : Nat) : XIs := cond (Nat.blt pc 41) (xi_144_0) (xi_144_1)
theorem xi_ok144 (pc : Nat) : xi_ok cX6_ordered (xi_144 pc) = true := xi_c (xi_ok144_0) (xi_ok144_1)
def xi_145_0 : XIs := [(0, .aload_n 1, 1), (1, .invokevirtual 28, 3), (4, .aload_n 1, 1), (5, .invokevirtual 73, 3), (8, .istore_n 2, 1), (9, .iconst 0, 1), (10, .istore_n 3, 1), (11, .iload_n 3, 1), (12, .aload_n 1, 1), (13, .getfield 77, 3), (16, .if_icmp .ge 45, 3), (61, .aload_n 0, 1), (62, .aload_n 1, 1), (63, .getfield 77, 3), (66, .putfield 70, 3), (69, .return_, 1)]
set_option maxRecDepth 100000 in
theorem xi_ok145_0 : xi_ok cX6_makeOrder xi_145_0 = true := by decide +kernel
def xi_145 (pc : Nat) : XIs := xi_145_0
theorem xi_ok145 (pc : Nat) : xi_ok cX6_makeOrder (xi_145 pc) = true := xi_ok145_0
def xi_146 (pc : Nat) : XIs := []
theorem xi_ok146 (pc : Nat) : xi_ok cX6_firstFree (xi_146 pc) = true := rfl
def xi_147 (pc : Nat) : XIs := []
theorem xi_ok147 (pc : Nat) : xi_ok cX6_coreOf (xi_147 pc) = true := rfl
def xi_148 (pc : Nat) : XIs := []
theorem xi_ok148 (pc : Nat) : xi_ok cX6_peel (xi_148 pc) = true := rfl
def xi_149 (pc : Nat) : XIs := []
theorem xi_ok149 (pc : Nat) : xi_ok cX6_loosest (xi_149 pc) = true := rfl
def xi_150 (pc : Nat) : XIs := []
theorem xi_ok150 (pc : Nat) : xi_ok cX6_loosen (xi_150 pc) = true := rfl
def xi_151_0 : XIs := [(0, .aload_n 1, 1), (1, .invokevirtual 28, 3), (4, .lconst 0, 1), (5, .lstore_n 2, 1), (6, .iconst 0, 1), (7, .istore 4, 2), (9, .iload 4, 2), (11, .aload_n 1, 1), (12, .getfield 77, 3), (15, .if_icmp .ge 60, 3), (75, .lload_n 2, 1), (76, .ldc2_w 121, 3), (79, .ldiv, 1), (80, .lreturn, 1)]
set_option maxRecDepth 100000 in
theorem xi_ok151_0 : xi_ok cX6_triangles xi_151_0 = true := by decide +kernel
def xi_151 (pc : Nat) : XIs := xi_151_0
theorem xi_ok151 (pc : Nat) : xi_ok cX6_triangles (xi_151 pc) = true := xi_ok151_0
def xi_152_0 : XIs := [(0, .aload_n 1, 1), (1, .invokevirtual 28, 3), (4, .lconst 0, 1), (5, .lstore_n 2, 1), (6, .iconst 0, 1), (7, .istore 4, 2), (9, .iload 4, 2), (11, .aload_n 1, 1), (12, .getfield 77, 3), (15, .if_icmp .ge 63, 3), (78, .lload_n 2, 1), (79, .ldc2_w 123, 3), (82, .ldiv, 1), (83, .lreturn, 1)]
set_option maxRecDepth 100000 in
theorem xi_ok152_0 : xi_ok cX6_squares xi_152_0 = true := by decide +kernel
def xi_152 (pc : Nat) : XIs := xi_152_0
theorem xi_ok152 (pc : Nat) : xi_ok cX6_squares (xi_152 pc) = true := xi_ok152_0
def xi_153_0 : XIs := [(0, .aload_n 0, 1), (1, .invokespecial 3, 3), (4, .aload_n 0, 1), (5, .lconst 1, 1), (6, .putfield 9, 3), (9, .aload_n 0, 1), (10, .lconst 1, 1), (11, .putfield 15, 3), (14, .aload_n 0, 1), (15, .bipush 61, 2), (17, .newarray .long, 2), (19, .putfield 18, 3), (22, .aload_n 0, 1), (23, .bipush 26, 2), (25, .newarray .long, 2), (27, .putfield 22, 3)]
set_option maxRecDepth 100000 in
theorem xi_ok153_0 : xi_ok cX7_init xi_153_0 = true := by decide +kernel
def xi_153_1 : XIs := [(30, .aload_n 0, 1), (31, .bipush 11, 2), (33, .newarray .int, 2), (35, .putfield 25, 3), (38, .aload_n 0, 1), (39, .bipush 11, 2), (41, .newarray .long, 2), (43, .putfield 29, 3), (46, .aload_n 0, 1), (47, .bipush 32, 2), (49, .newarray .long, 2), (51, .putfield 32, 3), (54, .aload_n 0, 1), (55, .bipush 32, 2), (57, .newarray .long, 2), (59, .putfield 35, 3)]
set_option maxRecDepth 100000 in
theorem xi_ok153_1 : xi_ok cX7_init xi_153_1 = true := by decide +kernel
def xi_153_2 : XIs := [(62, .aload_n 0, 1), (63, .bipush 32, 2), (65, .newarray .long, 2), (67, .putfield 38, 3), (70, .return_, 1)]
set_option maxRecDepth 100000 in
theorem xi_ok153_2 : xi_ok cX7_init xi_153_2 = true := by decide +kernel
def xi_153 (pc : Nat) : XIs := cond (Nat.blt pc 30) (xi_153_0) (cond (Nat.blt pc 62) (xi_153_1) (xi_153_2))
theorem xi_ok153 (pc : Nat) : xi_ok cX7_init (xi_153 pc) = true := xi_c (xi_ok153_0) (xi_c (xi_ok153_1) (xi_ok153_2))
def xi_154_0 : XIs := [(0, .aload_n 1, 1), (1, .invokevirtual 41, 3), (4, .aload_n 1, 1), (5, .getfield 46, 3), (8, .bipush 60, 2), (10, .if_icmp .le 11, 3), (21, .aload_n 1, 1), (22, .invokestatic 54, 3), (25, .ifCond .ne 5, 3), (30, .aload_n 0, 1), (31, .aload_n 1, 1), (32, .invokevirtual 58, 3), (35, .iconst 1, 1), (36, .ireturn, 1)]
set_option maxRecDepth 100000 in
theorem xi_ok154_0 : xi_ok cX7_adopt xi_154_0 = true := by decide +kernel
def xi_154 (pc : Nat) : XIs := xi_154_0
theorem xi_ok154 (pc : Nat) : xi_ok cX7_adopt (xi_154 pc) = true := xi_ok154_0
def xi_155_0 : XIs := [(0, .iconst 0, 1), (1, .istore_n 1, 1), (2, .iconst 0, 1), (3, .istore_n 2, 1), (4, .iconst 0, 1), (5, .istore_n 3, 1), (6, .iload_n 3, 1), (7, .aload_n 0, 1), (8, .getfield 46, 3), (11, .if_icmp .ge 81, 3), (92, .iload_n 1, 1), (93, .ifCond .eq 15, 3), (108, .iconst 1, 1), (109, .goto 4, 3), (113, .ireturn, 1)]
set_option maxRecDepth 100000 in
theorem xi_ok155_0 : xi_ok cX7_isGood xi_155_0 = true := by decide +kernel
def xi_155 (pc : Nat) : XIs := xi_155_0
theorem xi_ok155 (pc : Nat) : xi_ok cX7_isGood (xi_155 pc) = true := xi_ok155_0
def xi_156 (pc : Nat) : XIs := []
theorem xi_ok156 (pc : Nat) : xi_ok cX7_judge (xi_156 pc) = true := rfl
def xi_157 (pc : Nat) : XIs := []
theorem xi_ok157 (pc : Nat) : xi_ok cX7_isAtom (xi_157 pc) = true := rfl
def xi_158_0 : XIs := [(0, .aload_n 0, 1), (1, .getfield 18, 3), (4, .lconst 0, 1), (5, .invokestatic 74, 3), (8, .aload_n 0, 1), (9, .getfield 22, 3), (12, .lconst 0, 1), (13, .invokestatic 74, 3), (16, .aload_n 0, 1), (17, .lconst 1, 1), (18, .putfield 9, 3), (21, .aload_n 0, 1), (22, .lconst 1, 1), (23, .aload_n 1, 1), (24, .getfield 46, 3), (27, .lshl, 1)]
set_option maxRecDepth 100000 in
theorem xi_ok158_0 : xi_ok cX7_build xi_158_0 = true := by decide +kernel
def xi_158_1 : XIs := [(28, .putfield 15, 3), (31, .aload_n 0, 1), (32, .getfield 29, 3), (35, .iconst 0, 1), (36, .lconst 0, 1), (37, .lastore, 1), (38, .iconst 0, 1), (39, .istore_n 2, 1), (40, .iconst 0, 1), (41, .istore_n 3, 1), (42, .iload_n 3, 1), (43, .aload_n 1, 1), (44, .getfield 46, 3), (47, .if_icmp .ge 123, 3), (170, .aload_n 0, 1), (171, .aload_n 0, 1)]
set_option maxRecDepth 100000 in
theorem xi_ok158_1 : xi_ok cX7_build xi_158_1 = true := by decide +kernel
def xi_158_2 : XIs := [(172, .getfield 29, 3), (175, .iconst 0, 1), (176, .laload, 1), (177, .aload_n 0, 1), (178, .getfield 15, 3), (181, .invokevirtual 80, 3), (184, .aload_n 0, 1), (185, .aload_n 1, 1), (186, .getfield 46, 3), (189, .invokevirtual 91, 3), (192, .return_, 1)]
set_option maxRecDepth 100000 in
theorem xi_ok158_2 : xi_ok cX7_build xi_158_2 = true := by decide +kernel
def xi_158 (pc : Nat) : XIs := cond (Nat.blt pc 28) (xi_158_0) (cond (Nat.blt pc 172) (xi_158_1) (xi_158_2))
theorem xi_ok158 (pc : Nat) : xi_ok cX7_build (xi_158 pc) = true := xi_c (xi_ok158_0) (xi_c (xi_ok158_1) (xi_ok158_2))
def xi_159_0 : XIs := [(0, .lload_n 1, 1), (1, .lstore 5, 2), (3, .lload 5, 2), (5, .lconst 0, 1), (6, .lcmp, 1), (7, .ifCond .eq 29, 3), (36, .return_, 1)]
set_option maxRecDepth 100000 in
theorem xi_ok159_0 : xi_ok cX7_closeBars xi_159_0 = true := by decide +kernel
def xi_159 (pc : Nat) : XIs := xi_159_0
theorem xi_ok159 (pc : Nat) : xi_ok cX7_closeBars (xi_159 pc) = true := xi_ok159_0
def xi_160 (pc : Nat) : XIs := []
theorem xi_ok160 (pc : Nat) : xi_ok cX7_layPlace (xi_160 pc) = true := rfl
def xi_161 (pc : Nat) : XIs := []
theorem xi_ok161 (pc : Nat) : xi_ok cX7_layRepeat (xi_161 pc) = true := rfl
def xi_162_0 : XIs := [(0, .iconst 0, 1), (1, .istore_n 2, 1), (2, .iload_n 2, 1), (3, .iload_n 1, 1), (4, .if_icmp .gt 21, 3), (7, .aload_n 0, 1), (8, .getfield 18, 3), (11, .iload_n 2, 1), (12, .dup2, 1), (13, .laload, 1), (14, .lconst 1, 1), (15, .iload_n 2, 1), (16, .lshl, 1), (17, .lor, 1), (18, .lastore, 1), (19, .iinc 2 1, 3)]
set_option maxRecDepth 100000 in
theorem xi_ok162_0 : xi_ok cX7_close xi_162_0 = true := by decide +kernel
def xi_162_1 : XIs := [(22, .goto (-20), 3), (25, .iconst 0, 1), (26, .istore_n 2, 1), (27, .iload_n 2, 1), (28, .iload_n 1, 1), (29, .if_icmp .gt 52, 3), (32, .iconst 0, 1), (33, .istore_n 3, 1), (34, .iload_n 3, 1), (35, .iload_n 1, 1), (36, .if_icmp .gt 39, 3), (39, .aload_n 0, 1), (40, .getfield 18, 3), (43, .iload_n 3, 1), (44, .laload, 1), (45, .iload_n 2, 1)]
set_option maxRecDepth 100000 in
theorem xi_ok162_1 : xi_ok cX7_close xi_162_1 = true := by decide +kernel
def xi_162_2 : XIs := [(46, .lshr, 1), (47, .lconst 1, 1), (48, .land, 1), (49, .lconst 0, 1), (50, .lcmp, 1), (51, .ifCond .eq 18, 3), (54, .aload_n 0, 1), (55, .getfield 18, 3), (58, .iload_n 3, 1), (59, .dup2, 1), (60, .laload, 1), (61, .aload_n 0, 1), (62, .getfield 18, 3), (65, .iload_n 2, 1), (66, .laload, 1), (67, .lor, 1)]
set_option maxRecDepth 100000 in
theorem xi_ok162_2 : xi_ok cX7_close xi_162_2 = true := by decide +kernel
def xi_162_3 : XIs := [(68, .lastore, 1), (69, .iinc 3 1, 3), (72, .goto (-38), 3), (75, .iinc 2 1, 3), (78, .goto (-51), 3), (81, .aload_n 0, 1), (82, .getfield 15, 3), (85, .lstore_n 2, 1), (86, .iconst 0, 1), (87, .istore 4, 2), (89, .iload 4, 2), (91, .bipush 26, 2), (93, .if_icmp .ge 19, 3), (96, .lload_n 2, 1), (97, .aload_n 0, 1), (98, .getfield 22, 3)]
set_option maxRecDepth 100000 in
theorem xi_ok162_3 : xi_ok cX7_close xi_162_3 = true := by decide +kernel
def xi_162_4 : XIs := [(101, .iload 4, 2), (103, .laload, 1), (104, .lor, 1), (105, .lstore_n 2, 1), (106, .iinc 4 1, 3), (109, .goto (-20), 3), (112, .iconst 0, 1), (113, .istore 4, 2), (115, .iload 4, 2), (117, .iload_n 1, 1), (118, .if_icmp .gt 20, 3), (121, .aload_n 0, 1), (122, .getfield 18, 3), (125, .iload 4, 2), (127, .dup2, 1), (128, .laload, 1)]
set_option maxRecDepth 100000 in
theorem xi_ok162_4 : xi_ok cX7_close xi_162_4 = true := by decide +kernel
def xi_162_5 : XIs := [(129, .lload_n 2, 1), (130, .land, 1), (131, .lastore, 1), (132, .iinc 4 1, 3), (135, .goto (-20), 3), (138, .lconst 0, 1), (139, .lstore 4, 2), (141, .aload_n 0, 1), (142, .getfield 9, 3), (145, .lstore 6, 2), (147, .lload 6, 2), (149, .lconst 0, 1), (150, .lcmp, 1), (151, .ifCond .eq 30, 3), (154, .lload 4, 2), (156, .aload_n 0, 1)]
set_option maxRecDepth 100000 in
theorem xi_ok162_5 : xi_ok cX7_close xi_162_5 = true := by decide +kernel
def xi_162_6 : XIs := [(157, .getfield 18, 3), (160, .lload 6, 2), (162, .invokestatic 95, 3), (165, .laload, 1), (166, .lor, 1), (167, .lstore 4, 2), (169, .lload 6, 2), (171, .lload 6, 2), (173, .lconst 1, 1), (174, .lsub, 1), (175, .land, 1), (176, .lstore 6, 2), (178, .goto (-31), 3), (181, .aload_n 0, 1), (182, .lload 4, 2), (184, .putfield 9, 3)]
set_option maxRecDepth 100000 in
theorem xi_ok162_6 : xi_ok cX7_close xi_162_6 = true := by decide +kernel
def xi_162_7 : XIs := [(187, .return_, 1)]
set_option maxRecDepth 100000 in
theorem xi_ok162_7 : xi_ok cX7_close xi_162_7 = true := by decide +kernel
def xi_162 (pc : Nat) : XIs := cond (Nat.blt pc 101) (cond (Nat.blt pc 46) (cond (Nat.blt pc 22) (xi_162_0) (xi_162_1)) (cond (Nat.blt pc 68) (xi_162_2) (xi_162_3))) (cond (Nat.blt pc 157) (cond (Nat.blt pc 129) (xi_162_4) (xi_162_5)) (cond (Nat.blt pc 187) (xi_162_6) (xi_162_7)))
theorem xi_ok162 (pc : Nat) : xi_ok cX7_close (xi_162 pc) = true := xi_c (xi_c (xi_c (xi_ok162_0) (xi_ok162_1)) (xi_c (xi_ok162_2) (xi_ok162_3))) (xi_c (xi_c (xi_ok162_4) (xi_ok162_5)) (xi_c (xi_ok162_6) (xi_ok162_7)))
def xi_163 (pc : Nat) : XIs := []
theorem xi_ok163 (pc : Nat) : xi_ok cX7_leastFit (xi_163 pc) = true := rfl
def xi_164 (pc : Nat) : XIs := []
theorem xi_ok164 (pc : Nat) : xi_ok cX7_step (xi_164 pc) = true := rfl
def xi_165 (pc : Nat) : XIs := []
theorem xi_ok165 (pc : Nat) : xi_ok cX7_behind (xi_165 pc) = true := rfl
def xi_166_0 : XIs := [(0, .aload_n 0, 1), (1, .invokespecial 3, 3), (4, .aload_n 0, 1), (5, .sipush 1000, 3), (8, .newarray .char, 2), (10, .putfield 9, 3), (13, .aload_n 0, 1), (14, .iconst (-1), 1), (15, .putfield 15, 3), (18, .aload_n 0, 1), (19, .iconst (-1), 1), (20, .putfield 19, 3), (23, .aload_n 0, 1), (24, .sipush 4608, 3), (27, .newarray .char, 2), (29, .putfield 22, 3)]
set_option maxRecDepth 100000 in
theorem xi_ok166_0 : xi_ok cX8_init xi_166_0 = true := by decide +kernel
def xi_166_1 : XIs := [(32, .return_, 1)]
set_option maxRecDepth 100000 in
theorem xi_ok166_1 : xi_ok cX8_init xi_166_1 = true := by decide +kernel
def xi_166 (pc : Nat) : XIs := cond (Nat.blt pc 32) (xi_166_0) (xi_166_1)
theorem xi_ok166 (pc : Nat) : xi_ok cX8_init (xi_166 pc) = true := xi_c (xi_ok166_0) (xi_ok166_1)
def xi_167_0 : XIs := [(0, .aload_n 0, 1), (1, .iconst 0, 1), (2, .putfield 25, 3), (5, .aload_n 0, 1), (6, .iconst (-1), 1), (7, .putfield 15, 3), (10, .aload_n 0, 1), (11, .iconst (-1), 1), (12, .putfield 19, 3), (15, .return_, 1)]
set_option maxRecDepth 100000 in
theorem xi_ok167_0 : xi_ok cX8_begin xi_167_0 = true := by decide +kernel
def xi_167 (pc : Nat) : XIs := xi_167_0
theorem xi_ok167 (pc : Nat) : xi_ok cX8_begin (xi_167 pc) = true := xi_ok167_0
def xi_168_0 : XIs := [(0, .aload_n 0, 1), (1, .iload_n 1, 1), (2, .putfield 15, 3), (5, .aload_n 0, 1), (6, .iload_n 2, 1), (7, .putfield 19, 3), (10, .iconst 0, 1), (11, .ireturn, 1)]
set_option maxRecDepth 100000 in
theorem xi_ok168_0 : xi_ok cX8_accuse xi_168_0 = true := by decide +kernel
def xi_168 (pc : Nat) : XIs := xi_168_0
theorem xi_ok168 (pc : Nat) : xi_ok cX8_accuse (xi_168 pc) = true := xi_ok168_0
def xi_169_0 : XIs := [(0, .aload_n 0, 1), (1, .getfield 28, 3), (4, .iconst 4, 1), (5, .if_icmp .ne 13, 3), (18, .aload_n 0, 1), (19, .aload_n 0, 1), (20, .getfield 28, 3), (23, .iconst 5, 1), (24, .if_icmp .ne 7, 3), (31, .iload_n 1, 1), (32, .aload_n 0, 1), (33, .getfield 31, 3), (36, .invokevirtual 34, 3), (39, .ireturn, 1)]
set_option maxRecDepth 100000 in
theorem xi_ok169_0 : xi_ok cX8_refuse xi_169_0 = true := by decide +kernel
def xi_169 (pc : Nat) : XIs := xi_169_0
theorem xi_ok169 (pc : Nat) : xi_ok cX8_refuse (xi_169 pc) = true := xi_ok169_0
def xi_170_0 : XIs := [(0, .aload_n 0, 1), (1, .getfield 28, 3), (4, .iconst 3, 1), (5, .if_icmp .ne 15, 3), (20, .iconst 0, 1), (21, .ireturn, 1)]
set_option maxRecDepth 100000 in
theorem xi_ok170_0 : xi_ok cX8_isAt xi_170_0 = true := by decide +kernel
def xi_170 (pc : Nat) : XIs := xi_170_0
theorem xi_ok170 (pc : Nat) : xi_ok cX8_isAt (xi_170 pc) = true := xi_ok170_0
def xi_171_0 : XIs := [(0, .aload_n 0, 1), (1, .getfield 25, 3), (4, .aload_n 0, 1), (5, .getfield 41, 3), (8, .if_icmp .ge 30, 3), (38, .aload_n 0, 1), (39, .aload_n 0, 1), (40, .getfield 25, 3), (43, .putfield 31, 3), (46, .aload_n 0, 1), (47, .iconst 0, 1), (48, .putfield 28, 3), (51, .aload_n 0, 1), (52, .getfield 25, 3), (55, .aload_n 0, 1), (56, .getfield 41, 3)]
set_option maxRecDepth 100000 in
theorem xi_ok171_0 : xi_ok cX8_next xi_171_0 = true := by decide +kernel
def xi_171_1 : XIs := [(59, .if_icmp .lt 4, 3), (62, .return_, 1)]
set_option maxRecDepth 100000 in
theorem xi_ok171_1 : xi_ok cX8_next xi_171_1 = true := by decide +kernel
def xi_171 (pc : Nat) : XIs := cond (Nat.blt pc 59) (xi_171_0) (xi_171_1)
theorem xi_ok171 (pc : Nat) : xi_ok cX8_next (xi_171 pc) = true := xi_c (xi_ok171_0) (xi_ok171_1)
def xi_172 (pc : Nat) : XIs := []
theorem xi_ok172 (pc : Nat) : xi_ok cX8_isDigit (xi_172 pc) = true := rfl
def xi_173 (pc : Nat) : XIs := []
theorem xi_ok173 (pc : Nat) : xi_ok cX8_readNumber (xi_173 pc) = true := rfl
def xi_174 (pc : Nat) : XIs := []
theorem xi_ok174 (pc : Nat) : xi_ok cX8_isSign (xi_174 pc) = true := rfl
def xi_175_0 : XIs := [(0, .aload_n 0, 1), (1, .iconst 0, 1), (2, .putfield 64, 3), (5, .iconst 0, 1), (6, .istore_n 2, 1), (7, .iload_n 2, 1), (8, .aload_n 1, 1), (9, .getfield 67, 3), (12, .if_icmp .ge 25, 3), (37, .iconst 0, 1), (38, .istore_n 2, 1), (39, .iload_n 2, 1), (40, .aload_n 1, 1), (41, .getfield 84, 3), (44, .if_icmp .ge 75, 3), (119, .aload_n 0, 1)]
set_option maxRecDepth 100000 in
theorem xi_ok175_0 : xi_ok cX8_write xi_175_0 = true := by decide +kernel
def xi_175_1 : XIs := [(120, .getfield 64, 3), (123, .ireturn, 1)]
set_option maxRecDepth 100000 in
theorem xi_ok175_1 : xi_ok cX8_write xi_175_1 = true := by decide +kernel
def xi_175 (pc : Nat) : XIs := cond (Nat.blt pc 120) (xi_175_0) (xi_175_1)
theorem xi_ok175 (pc : Nat) : xi_ok cX8_write (xi_175 pc) = true := xi_c (xi_ok175_0) (xi_ok175_1)
def xi_176 (pc : Nat) : XIs := []
theorem xi_ok176 (pc : Nat) : xi_ok cX8_endCommand (xi_176 pc) = true := rfl
def xi_177 (pc : Nat) : XIs := []
theorem xi_ok177 (pc : Nat) : xi_ok cX8_put (xi_177 pc) = true := rfl
def xi_178 (pc : Nat) : XIs := []
theorem xi_ok178 (pc : Nat) : xi_ok cX8_putNumber (xi_178 pc) = true := rfl
def xi_179_0 : XIs := [(0, .aload_n 0, 1), (1, .invokespecial 3, 3), (4, .aload_n 0, 1), (5, .sipush 160, 3), (8, .newarray .int, 2), (10, .putfield 9, 3), (13, .aload_n 0, 1), (14, .sipush 160, 3), (17, .newarray .int, 2), (19, .putfield 15, 3), (22, .aload_n 0, 1), (23, .sipush 160, 3), (26, .newarray .long, 2), (28, .putfield 18, 3), (31, .aload_n 0, 1), (32, .bipush 32, 2)]
set_option maxRecDepth 100000 in
theorem xi_ok179_0 : xi_ok cX9_init xi_179_0 = true := by decide +kernel
def xi_179_1 : XIs := [(34, .newarray .long, 2), (36, .putfield 22, 3), (39, .aload_n 0, 1), (40, .bipush 32, 2), (42, .newarray .int, 2), (44, .putfield 25, 3), (47, .aload_n 0, 1), (48, .bipush 32, 2), (50, .newarray .int, 2), (52, .putfield 28, 3), (55, .aload_n 0, 1), (56, .bipush 32, 2), (58, .newarray .int, 2), (60, .putfield 31, 3), (63, .aload_n 0, 1), (64, .bipush 32, 2)]
set_option maxRecDepth 100000 in
theorem xi_ok179_1 : xi_ok cX9_init xi_179_1 = true := by decide +kernel
def xi_179_2 : XIs := [(66, .newarray .int, 2), (68, .putfield 34, 3), (71, .aload_n 0, 1), (72, .iconst (-1), 1), (73, .putfield 37, 3), (76, .aload_n 0, 1), (77, .sipush 1024, 3), (80, .newarray .long, 2), (82, .putfield 41, 3), (85, .return_, 1)]
set_option maxRecDepth 100000 in
theorem xi_ok179_2 : xi_ok cX9_init xi_179_2 = true := by decide +kernel
def xi_179 (pc : Nat) : XIs := cond (Nat.blt pc 34) (xi_179_0) (cond (Nat.blt pc 66) (xi_179_1) (xi_179_2))
theorem xi_ok179 (pc : Nat) : xi_ok cX9_init (xi_179 pc) = true := xi_c (xi_ok179_0) (xi_c (xi_ok179_1) (xi_ok179_2))
def xi_180 (pc : Nat) : XIs := []
theorem xi_ok180 (pc : Nat) : xi_ok cX9_leastRooted (xi_180 pc) = true := rfl
def xi_181 (pc : Nat) : XIs := []
theorem xi_ok181 (pc : Nat) : xi_ok cX9_copyArcs (xi_181 pc) = true := rfl
def xi_182 (pc : Nat) : XIs := []
theorem xi_ok182 (pc : Nat) : xi_ok cX9_takeCheapest (xi_182 pc) = true := rfl
def xi_183 (pc : Nat) : XIs := []
theorem xi_ok183 (pc : Nat) : xi_ok cX9_nameRings (xi_183 pc) = true := rfl
def xi_184 (pc : Nat) : XIs := []
theorem xi_ok184 (pc : Nat) : xi_ok cX9_nameOthers (xi_184 pc) = true := rfl
def xi_185 (pc : Nat) : XIs := []
theorem xi_ok185 (pc : Nat) : xi_ok cX9_shrinkRings (xi_185 pc) = true := rfl
def xi_186 (pc : Nat) : XIs := []
theorem xi_ok186 (pc : Nat) : xi_ok cX9_isSpanning (xi_186 pc) = true := rfl
def xi_187 (pc : Nat) : XIs := []
theorem xi_ok187 (pc : Nat) : xi_ok cX9_isBefore (xi_187 pc) = true := rfl
def xi_188_0 : XIs := [(0, .aload_n 0, 1), (1, .getfield 37, 3), (4, .aload_n 1, 1), (5, .getfield 107, 3), (8, .if_icmp .eq 31, 3), (11, .aload_n 0, 1), (12, .aload_n 1, 1), (13, .getfield 107, 3), (16, .putfield 37, 3), (19, .aload_n 0, 1), (20, .aload_n 1, 1), (21, .getfield 48, 3), (24, .ifCond .ne 7, 3), (27, .iconst 0, 1), (28, .goto 8, 3), (36, .putfield 114, 3)]
set_option maxRecDepth 100000 in
theorem xi_ok188_0 : xi_ok cX9_countSpanning xi_188_0 = true := by decide +kernel
def xi_188_1 : XIs := [(39, .aload_n 0, 1), (40, .getfield 114, 3), (43, .ireturn, 1)]
set_option maxRecDepth 100000 in
theorem xi_ok188_1 : xi_ok cX9_countSpanning xi_188_1 = true := by decide +kernel
def xi_188 (pc : Nat) : XIs := cond (Nat.blt pc 39) (xi_188_0) (xi_188_1)
theorem xi_ok188 (pc : Nat) : xi_ok cX9_countSpanning (xi_188 pc) = true := xi_c (xi_ok188_0) (xi_ok188_1)
def xi_189 (pc : Nat) : XIs := []
theorem xi_ok189 (pc : Nat) : xi_ok cX9_countTrees (xi_189 pc) = true := rfl
def xi_190 (pc : Nat) : XIs := []
theorem xi_ok190 (pc : Nat) : xi_ok cX9_pivot (xi_190 pc) = true := rfl
def xi_191 (pc : Nat) : XIs := []
theorem xi_ok191 (pc : Nat) : xi_ok cX9_swapRows (xi_191 pc) = true := rfl
def xi_192 (pc : Nat) : XIs := []
theorem xi_ok192 (pc : Nat) : xi_ok cX9_power (xi_192 pc) = true := rfl
def xi_193_0 : XIs := [(0, .aload_n 0, 1), (1, .invokespecial 3, 3), (4, .aload_n 0, 1), (5, .iconst (-1), 1), (6, .putfield 9, 3), (9, .aload_n 0, 1), (10, .bipush 32, 2), (12, .newarray .long, 2), (14, .putfield 15, 3), (17, .aload_n 0, 1), (18, .bipush 32, 2), (20, .newarray .int, 2), (22, .putfield 19, 3), (25, .aload_n 0, 1), (26, .bipush 32, 2), (28, .newarray .int, 2)]
set_option maxRecDepth 100000 in
theorem xi_ok193_0 : xi_ok cX10_init xi_193_0 = true := by decide +kernel
def xi_193_1 : XIs := [(30, .putfield 23, 3), (33, .aload_n 0, 1), (34, .bipush 32, 2), (36, .newarray .long, 2), (38, .putfield 26, 3), (41, .aload_n 0, 1), (42, .bipush 32, 2), (44, .newarray .int, 2), (46, .putfield 29, 3), (49, .aload_n 0, 1), (50, .iconst (-1), 1), (51, .putfield 32, 3), (54, .aload_n 0, 1), (55, .sipush 2001, 3), (58, .newarray .long, 2), (60, .putfield 35, 3)]
set_option maxRecDepth 100000 in
theorem xi_ok193_1 : xi_ok cX10_init xi_193_1 = true := by decide +kernel
def xi_193_2 : XIs := [(63, .return_, 1)]
set_option maxRecDepth 100000 in
theorem xi_ok193_2 : xi_ok cX10_init xi_193_2 = true := by decide +kernel
def xi_193 (pc : Nat) : XIs := cond (Nat.blt pc 30) (xi_193_0) (cond (Nat.blt pc 63) (xi_193_1) (xi_193_2))
theorem xi_ok193 (pc : Nat) : xi_ok cX10_init (xi_193 pc) = true := xi_c (xi_ok193_0) (xi_c (xi_ok193_1) (xi_ok193_2))
def xi_194 (pc : Nat) : XIs := []
theorem xi_ok194 (pc : Nat) : xi_ok cX10_leastWeight (xi_194 pc) = true := rfl
def xi_195 (pc : Nat) : XIs := []
theorem xi_ok195 (pc : Nat) : xi_ok cX10_leastArc (xi_195 pc) = true := rfl
def xi_196 (pc : Nat) : XIs := []
theorem xi_ok196 (pc : Nat) : xi_ok cX10_stepFrom (xi_196 pc) = true := rfl
def xi_197 (pc : Nat) : XIs := []
theorem xi_ok197 (pc : Nat) : xi_ok cX10_costOf (xi_197 pc) = true := rfl
def xi_198 (pc : Nat) : XIs := []
theorem xi_ok198 (pc : Nat) : xi_ok cX10_measure (xi_198 pc) = true := rfl
def xi_199 (pc : Nat) : XIs := []
theorem xi_ok199 (pc : Nat) : xi_ok cX10_relax (xi_199 pc) = true := rfl
def xi_200 (pc : Nat) : XIs := []
theorem xi_ok200 (pc : Nat) : xi_ok cX10_widest (xi_200 pc) = true := rfl
def xi_201 (pc : Nat) : XIs := []
theorem xi_ok201 (pc : Nat) : xi_ok cX10_widestOf (xi_201 pc) = true := rfl
def xi_202 (pc : Nat) : XIs := []
theorem xi_ok202 (pc : Nat) : xi_ok cX10_fewestArcs (xi_202 pc) = true := rfl
def xi_203 (pc : Nat) : XIs := []
theorem xi_ok203 (pc : Nat) : xi_ok cX10_countBy (xi_203 pc) = true := rfl
def xi_204 (pc : Nat) : XIs := []
theorem xi_ok204 (pc : Nat) : xi_ok cX10_spread (xi_204 pc) = true := rfl
def xi_205 (pc : Nat) : XIs := []
theorem xi_ok205 (pc : Nat) : xi_ok cX10_countShort (xi_205 pc) = true := rfl
def xi_206 (pc : Nat) : XIs := []
theorem xi_ok206 (pc : Nat) : xi_ok cX10_arcOfShort (xi_206 pc) = true := rfl
def xi_207 (pc : Nat) : XIs := []
theorem xi_ok207 (pc : Nat) : xi_ok cX10_collect (xi_207 pc) = true := rfl
def xi_208 (pc : Nat) : XIs := []
theorem xi_ok208 (pc : Nat) : xi_ok cX10_gather (xi_208 pc) = true := rfl
def xi_209 (pc : Nat) : XIs := []
theorem xi_ok209 (pc : Nat) : xi_ok cX10_leads (xi_209 pc) = true := rfl
def xi_210 (pc : Nat) : XIs := []
theorem xi_ok210 (pc : Nat) : xi_ok cX10_sortKeys (xi_210 pc) = true := rfl
def xi_211_0 : XIs := [(0, .aload_n 0, 1), (1, .invokespecial 1, 3), (4, .aload_n 0, 1), (5, .new 7, 3), (8, .dup, 1), (9, .invokespecial 9, 3), (12, .putfield 10, 3), (15, .aload_n 0, 1), (16, .new 16, 3), (19, .dup, 1), (20, .invokespecial 18, 3), (23, .putfield 19, 3), (26, .aload_n 0, 1), (27, .iconst (-1), 1), (28, .putfield 23, 3), (31, .aload_n 0, 1)]
set_option maxRecDepth 100000 in
theorem xi_ok211_0 : xi_ok cX11_init xi_211_0 = true := by decide +kernel
def xi_211_1 : XIs := [(32, .new 27, 3), (35, .dup, 1), (36, .invokespecial 29, 3), (39, .putfield 30, 3), (42, .aload_n 0, 1), (43, .new 34, 3), (46, .dup, 1), (47, .invokespecial 36, 3), (50, .putfield 37, 3), (53, .aload_n 0, 1), (54, .new 41, 3), (57, .dup, 1), (58, .invokespecial 43, 3), (61, .putfield 44, 3), (64, .aload_n 0, 1), (65, .new 48, 3)]
set_option maxRecDepth 100000 in
theorem xi_ok211_1 : xi_ok cX11_init xi_211_1 = true := by decide +kernel
def xi_211_2 : XIs := [(68, .dup, 1), (69, .invokespecial 50, 3), (72, .putfield 51, 3), (75, .aload_n 0, 1), (76, .new 55, 3), (79, .dup, 1), (80, .invokespecial 57, 3), (83, .putfield 58, 3), (86, .aload_n 0, 1), (87, .new 62, 3), (90, .dup, 1), (91, .invokespecial 64, 3), (94, .putfield 65, 3), (97, .aload_n 0, 1), (98, .new 69, 3), (101, .dup, 1)]
set_option maxRecDepth 100000 in
theorem xi_ok211_2 : xi_ok cX11_init xi_211_2 = true := by decide +kernel
def xi_211_3 : XIs := [(102, .invokespecial 71, 3), (105, .putfield 72, 3), (108, .aload_n 0, 1), (109, .new 76, 3), (112, .dup, 1), (113, .invokespecial 78, 3), (116, .putfield 79, 3), (119, .aload_n 0, 1), (120, .new 83, 3), (123, .dup, 1), (124, .invokespecial 85, 3), (127, .putfield 86, 3), (130, .return_, 1)]
set_option maxRecDepth 100000 in
theorem xi_ok211_3 : xi_ok cX11_init xi_211_3 = true := by decide +kernel
def xi_211 (pc : Nat) : XIs := cond (Nat.blt pc 68) (cond (Nat.blt pc 32) (xi_211_0) (xi_211_1)) (cond (Nat.blt pc 102) (xi_211_2) (xi_211_3))
theorem xi_ok211 (pc : Nat) : xi_ok cX11_init (xi_211 pc) = true := xi_c (xi_c (xi_ok211_0) (xi_ok211_1)) (xi_c (xi_ok211_2) (xi_ok211_3))
def xi_212_0 : XIs := [(0, .iload_n 1, 1), (1, .invokestatic 90, 3), (4, .invokestatic 94, 3), (7, .aload_n 0, 1), (8, .getfield 10, 3), (11, .getfield 98, 3), (14, .getfield 101, 3), (17, .bipush 32, 2), (19, .if_icmp .ge 17, 3), (22, .aload_n 0, 1), (23, .getfield 10, 3), (26, .invokevirtual 104, 3), (29, .ifCond .ne 7, 3), (32, .iconst 1, 1), (33, .goto 4, 3), (37, .invokestatic 108, 3)]
set_option maxRecDepth 100000 in
theorem xi_ok212_0 : xi_ok cX11_node xi_212_0 = true := by decide +kernel
def xi_212_1 : XIs := [(40, .aload_n 0, 1), (41, .getfield 10, 3), (44, .iload_n 1, 1), (45, .invokevirtual 111, 3), (48, .ireturn, 1)]
set_option maxRecDepth 100000 in
theorem xi_ok212_1 : xi_ok cX11_node xi_212_1 = true := by decide +kernel
def xi_212 (pc : Nat) : XIs := cond (Nat.blt pc 40) (xi_212_0) (xi_212_1)
theorem xi_ok212 (pc : Nat) : xi_ok cX11_node (xi_212 pc) = true := xi_c (xi_ok212_0) (xi_ok212_1)
def xi_213_0 : XIs := [(0, .aload_n 0, 1), (1, .getfield 10, 3), (4, .iload_n 1, 1), (5, .iload_n 2, 1), (6, .iload_n 3, 1), (7, .iload 4, 2), (9, .iload 5, 2), (11, .invokevirtual 115, 3), (14, .invokestatic 94, 3)]
set_option maxRecDepth 100000 in
theorem xi_ok213_0 : xi_ok cX11_arc xi_213_0 = true := by decide +kernel
def xi_213 (pc : Nat) : XIs := xi_213_0
theorem xi_ok213 (pc : Nat) : xi_ok cX11_arc (xi_213 pc) = true := xi_ok213_0
def xi_214_0 : XIs := [(0, .aload_n 0, 1), (1, .getfield 10, 3), (4, .getfield 98, 3), (7, .iload_n 1, 1), (8, .invokevirtual 123, 3), (11, .invokestatic 94, 3)]
set_option maxRecDepth 100000 in
theorem xi_ok214_0 : xi_ok cX11_take xi_214_0 = true := by decide +kernel
def xi_214 (pc : Nat) : XIs := xi_214_0
theorem xi_ok214 (pc : Nat) : xi_ok cX11_take (xi_214 pc) = true := xi_ok214_0
def xi_215_0 : XIs := [(0, .aload_n 0, 1), (1, .getfield 10, 3), (4, .getfield 98, 3), (7, .iload_n 1, 1), (8, .invokevirtual 123, 3), (11, .ifCond .eq 15, 3), (26, .iconst 0, 1), (27, .invokestatic 94, 3)]
set_option maxRecDepth 100000 in
theorem xi_ok215_0 : xi_ok cX11_set xi_215_0 = true := by decide +kernel
def xi_215 (pc : Nat) : XIs := xi_215_0
theorem xi_ok215 (pc : Nat) : xi_ok cX11_set (xi_215 pc) = true := xi_ok215_0
def xi_216_0 : XIs := [(0, .aload_n 0, 1), (1, .getfield 10, 3), (4, .getfield 98, 3), (7, .iload_n 1, 1), (8, .invokevirtual 145, 3), (11, .ifCond .eq 14, 3), (25, .iconst 0, 1), (26, .invokestatic 94, 3)]
set_option maxRecDepth 100000 in
theorem xi_ok216_0 : xi_ok cX11_label xi_216_0 = true := by decide +kernel
def xi_216 (pc : Nat) : XIs := xi_216_0
theorem xi_ok216 (pc : Nat) : xi_ok cX11_label (xi_216 pc) = true := xi_ok216_0
def xi_217_0 : XIs := [(0, .iload_n 1, 1), (1, .iconst (-1), 1), (2, .if_icmp .lt 21, 3), (5, .iload_n 1, 1), (6, .aload_n 0, 1), (7, .getfield 10, 3), (10, .getfield 98, 3), (13, .getfield 130, 3), (16, .if_icmp .gt 7, 3), (19, .iconst 1, 1), (20, .goto 4, 3), (23, .iconst 0, 1), (24, .invokestatic 94, 3), (27, .aload_n 0, 1), (28, .iload_n 1, 1), (29, .putfield 23, 3)]
set_option maxRecDepth 100000 in
theorem xi_ok217_0 : xi_ok cX11_view xi_217_0 = true := by decide +kernel
def xi_217_1 : XIs := [(32, .iload_n 1, 1), (33, .iconst (-1), 1), (34, .if_icmp .eq 15, 3), (37, .aload_n 0, 1), (38, .getfield 10, 3), (41, .aload_n 0, 1), (42, .getfield 19, 3), (45, .iload_n 1, 1), (46, .invokevirtual 156, 3), (49, .aload_n 0, 1), (50, .invokevirtual 160, 3), (53, .getfield 130, 3), (56, .ireturn, 1)]
set_option maxRecDepth 100000 in
theorem xi_ok217_1 : xi_ok cX11_view xi_217_1 = true := by decide +kernel
def xi_217 (pc : Nat) : XIs := cond (Nat.blt pc 32) (xi_217_0) (xi_217_1)
theorem xi_ok217 (pc : Nat) : xi_ok cX11_view (xi_217 pc) = true := xi_c (xi_ok217_0) (xi_ok217_1)
def xi_218_0 : XIs := [(0, .aload_n 0, 1), (1, .getfield 10, 3), (4, .getfield 98, 3), (7, .getfield 130, 3), (10, .ireturn, 1)]
set_option maxRecDepth 100000 in
theorem xi_ok218_0 : xi_ok cX11_version xi_218_0 = true := by decide +kernel
def xi_218 (pc : Nat) : XIs := xi_218_0
theorem xi_ok218 (pc : Nat) : xi_ok cX11_version (xi_218 pc) = true := xi_ok218_0
def xi_219_0 : XIs := [(0, .iload_n 1, 1), (1, .ifCond .lt 12, 3), (4, .iload_n 1, 1), (5, .iconst 3, 1), (6, .if_icmp .gt 7, 3), (9, .iconst 1, 1), (10, .goto 4, 3), (13, .iconst 0, 1), (14, .invokestatic 94, 3), (17, .aload_n 0, 1), (18, .invokevirtual 160, 3), (21, .astore_n 2, 1), (22, .iload_n 1, 1), (23, .tableswitch 40 0 2 #[25, 30, 35], 25), (48, .aload_n 2, 1), (49, .getfield 101, 3)]
set_option maxRecDepth 100000 in
theorem xi_ok219_0 : xi_ok cX11_size xi_219_0 = true := by decide +kernel
def xi_219_1 : XIs := [(52, .ireturn, 1), (53, .aload_n 2, 1), (54, .getfield 164, 3), (57, .ireturn, 1), (58, .aload_n 2, 1), (59, .invokevirtual 167, 3), (62, .ireturn, 1), (63, .aload_n 2, 1), (64, .getfield 171, 3), (67, .iconst 1, 1), (68, .isub, 1), (69, .ireturn, 1)]
set_option maxRecDepth 100000 in
theorem xi_ok219_1 : xi_ok cX11_size xi_219_1 = true := by decide +kernel
def xi_219 (pc : Nat) : XIs := cond (Nat.blt pc 52) (xi_219_0) (xi_219_1)
theorem xi_ok219 (pc : Nat) : xi_ok cX11_size (xi_219 pc) = true := xi_c (xi_ok219_0) (xi_ok219_1)
def xi_220_0 : XIs := [(0, .iload_n 1, 1), (1, .ifCond .lt 23, 3), (4, .iload_n 1, 1), (5, .sipush 160, 3), (8, .if_icmp .ge 16, 3), (11, .iload_n 2, 1), (12, .ifCond .lt 12, 3), (15, .iload_n 2, 1), (16, .iconst 4, 1), (17, .if_icmp .gt 7, 3), (20, .iconst 1, 1), (21, .goto 4, 3), (24, .iconst 0, 1), (25, .invokestatic 94, 3), (28, .aload_n 0, 1), (29, .invokevirtual 160, 3)]
set_option maxRecDepth 100000 in
theorem xi_ok220_0 : xi_ok cX11_told xi_220_0 = true := by decide +kernel
def xi_220_1 : XIs := [(32, .astore_n 3, 1), (33, .aload_n 3, 1), (34, .iload_n 1, 1), (35, .invokevirtual 123, 3), (38, .ifCond .ne 7, 3), (41, .ldc2_w 174, 3), (44, .lreturn, 1)]
set_option maxRecDepth 100000 in
theorem xi_ok220_1 : xi_ok cX11_told xi_220_1 = true := by decide +kernel
def xi_220 (pc : Nat) : XIs := cond (Nat.blt pc 32) (xi_220_0) (xi_220_1)
theorem xi_ok220 (pc : Nat) : xi_ok cX11_told (xi_220 pc) = true := xi_c (xi_ok220_0) (xi_ok220_1)
def xi_221_0 : XIs := [(0, .aload_n 0, 1), (1, .invokevirtual 160, 3), (4, .astore_n 2, 1), (5, .aload_n 2, 1), (6, .iload_n 1, 1), (7, .invokevirtual 145, 3), (10, .invokestatic 94, 3)]
set_option maxRecDepth 100000 in
theorem xi_ok221_0 : xi_ok cX11_labelOf xi_221_0 = true := by decide +kernel
def xi_221 (pc : Nat) : XIs := xi_221_0
theorem xi_ok221 (pc : Nat) : xi_ok cX11_labelOf (xi_221 pc) = true := xi_ok221_0
def xi_222_0 : XIs := [(0, .aload_n 0, 1), (1, .invokevirtual 160, 3), (4, .astore 4, 2), (6, .aload 4, 2), (8, .iload_n 1, 1), (9, .invokevirtual 145, 3), (12, .ifCond .eq 20, 3), (32, .iconst 0, 1), (33, .invokestatic 94, 3)]
set_option maxRecDepth 100000 in
theorem xi_ok222_0 : xi_ok cX11_arcAt xi_222_0 = true := by decide +kernel
def xi_222 (pc : Nat) : XIs := xi_222_0
theorem xi_ok222 (pc : Nat) : xi_ok cX11_arcAt (xi_222 pc) = true := xi_ok222_0
def xi_223_0 : XIs := [(0, .iload_n 1, 1), (1, .bipush 32, 2), (3, .if_icmp .lt 13, 3), (6, .iload_n 1, 1), (7, .bipush 126, 2), (9, .if_icmp .gt 7, 3), (12, .iconst 1, 1), (13, .goto 4, 3), (16, .iconst 0, 1), (17, .invokestatic 94, 3), (20, .aload_n 0, 1), (21, .getfield 30, 3), (24, .getfield 203, 3), (27, .sipush 1000, 3), (30, .if_icmp .ge 7, 3), (33, .iconst 1, 1)]
set_option maxRecDepth 100000 in
theorem xi_ok223_0 : xi_ok cX11_type xi_223_0 = true := by decide +kernel
def xi_223_1 : XIs := [(34, .goto 4, 3), (38, .invokestatic 108, 3), (41, .aload_n 0, 1), (42, .getfield 30, 3), (45, .getfield 206, 3), (48, .aload_n 0, 1), (49, .getfield 30, 3), (52, .getfield 203, 3), (55, .iload_n 1, 1), (56, .i2c, 1), (57, .castore, 1), (58, .aload_n 0, 1), (59, .getfield 30, 3), (62, .dup, 1), (63, .getfield 203, 3), (66, .iconst 1, 1)]
set_option maxRecDepth 100000 in
theorem xi_ok223_1 : xi_ok cX11_type xi_223_1 = true := by decide +kernel
def xi_223_2 : XIs := [(67, .iadd, 1), (68, .putfield 203, 3), (71, .aload_n 0, 1), (72, .getfield 30, 3), (75, .getfield 203, 3), (78, .ireturn, 1)]
set_option maxRecDepth 100000 in
theorem xi_ok223_2 : xi_ok cX11_type xi_223_2 = true := by decide +kernel
def xi_223 (pc : Nat) : XIs := cond (Nat.blt pc 34) (xi_223_0) (cond (Nat.blt pc 67) (xi_223_1) (xi_223_2))
theorem xi_ok223 (pc : Nat) : xi_ok cX11_type (xi_223 pc) = true := xi_c (xi_ok223_0) (xi_c (xi_ok223_1) (xi_ok223_2))
def xi_224_0 : XIs := [(0, .aload_n 0, 1), (1, .getfield 30, 3), (4, .getfield 203, 3), (7, .istore_n 1, 1), (8, .aload_n 0, 1), (9, .getfield 30, 3), (12, .iconst 0, 1), (13, .putfield 203, 3), (16, .iload_n 1, 1), (17, .ireturn, 1)]
set_option maxRecDepth 100000 in
theorem xi_ok224_0 : xi_ok cX11_wipe xi_224_0 = true := by decide +kernel
def xi_224 (pc : Nat) : XIs := xi_224_0
theorem xi_ok224 (pc : Nat) : xi_ok cX11_wipe (xi_224 pc) = true := xi_ok224_0
def xi_225_0 : XIs := [(0, .aload_n 0, 1), (1, .getfield 10, 3), (4, .aload_n 0, 1), (5, .getfield 30, 3), (8, .invokevirtual 210, 3), (11, .ireturn, 1)]
set_option maxRecDepth 100000 in
theorem xi_ok225_0 : xi_ok cX11_load xi_225_0 = true := by decide +kernel
def xi_225 (pc : Nat) : XIs := xi_225_0
theorem xi_ok225 (pc : Nat) : xi_ok cX11_load (xi_225 pc) = true := xi_ok225_0
def xi_226_0 : XIs := [(0, .iload_n 1, 1), (1, .ifCond .lt 12, 3), (4, .iload_n 1, 1), (5, .iconst 1, 1), (6, .if_icmp .gt 7, 3), (9, .iconst 1, 1), (10, .goto 4, 3), (13, .iconst 0, 1), (14, .invokestatic 94, 3), (17, .iload_n 1, 1), (18, .ifCond .ne 13, 3), (21, .aload_n 0, 1), (22, .getfield 30, 3), (25, .getfield 214, 3), (28, .goto 10, 3), (31, .aload_n 0, 1)]
set_option maxRecDepth 100000 in
theorem xi_ok226_0 : xi_ok cX11_fault xi_226_0 = true := by decide +kernel
def xi_226_1 : XIs := [(32, .getfield 30, 3), (35, .getfield 217, 3), (38, .ireturn, 1)]
set_option maxRecDepth 100000 in
theorem xi_ok226_1 : xi_ok cX11_fault xi_226_1 = true := by decide +kernel
def xi_226 (pc : Nat) : XIs := cond (Nat.blt pc 32) (xi_226_0) (xi_226_1)
theorem xi_ok226 (pc : Nat) : xi_ok cX11_fault (xi_226 pc) = true := xi_c (xi_ok226_0) (xi_ok226_1)
def xi_227_0 : XIs := [(0, .aload_n 0, 1), (1, .getfield 30, 3), (4, .aload_n 0, 1), (5, .invokevirtual 160, 3), (8, .invokevirtual 220, 3), (11, .ireturn, 1)]
set_option maxRecDepth 100000 in
theorem xi_ok227_0 : xi_ok cX11_print xi_227_0 = true := by decide +kernel
def xi_227 (pc : Nat) : XIs := xi_227_0
theorem xi_ok227 (pc : Nat) : xi_ok cX11_print (xi_227 pc) = true := xi_ok227_0
def xi_228_0 : XIs := [(0, .iload_n 1, 1), (1, .ifCond .lt 18, 3), (4, .iload_n 1, 1), (5, .aload_n 0, 1), (6, .getfield 30, 3), (9, .getfield 224, 3), (12, .if_icmp .ge 7, 3), (19, .iconst 0, 1), (20, .invokestatic 94, 3)]
set_option maxRecDepth 100000 in
theorem xi_ok228_0 : xi_ok cX11_printed xi_228_0 = true := by decide +kernel
def xi_228 (pc : Nat) : XIs := xi_228_0
theorem xi_ok228 (pc : Nat) : xi_ok cX11_printed (xi_228 pc) = true := xi_ok228_0
def xi_229_0 : XIs := [(0, .aload_n 0, 1), (1, .invokevirtual 160, 3), (4, .astore_n 3, 1), (5, .aload_n 3, 1), (6, .iload_n 1, 1), (7, .invokevirtual 145, 3), (10, .ifCond .eq 15, 3), (25, .iconst 0, 1), (26, .invokestatic 94, 3)]
set_option maxRecDepth 100000 in
theorem xi_ok229_0 : xi_ok cX11_distance xi_229_0 = true := by decide +kernel
def xi_229 (pc : Nat) : XIs := xi_229_0
theorem xi_ok229 (pc : Nat) : xi_ok cX11_distance (xi_229 pc) = true := xi_ok229_0
def xi_230_0 : XIs := [(0, .aload_n 0, 1), (1, .invokevirtual 160, 3), (4, .astore 4, 2), (6, .aload 4, 2), (8, .iload_n 1, 1), (9, .invokevirtual 145, 3), (12, .ifCond .eq 20, 3), (32, .iconst 0, 1), (33, .invokestatic 94, 3)]
set_option maxRecDepth 100000 in
theorem xi_ok230_0 : xi_ok cX11_way xi_230_0 = true := by decide +kernel
def xi_230 (pc : Nat) : XIs := xi_230_0
theorem xi_ok230 (pc : Nat) : xi_ok cX11_way (xi_230 pc) = true := xi_ok230_0
def xi_231_0 : XIs := [(0, .aload_n 0, 1), (1, .invokevirtual 160, 3), (4, .astore_n 3, 1), (5, .aload_n 3, 1), (6, .iload_n 1, 1), (7, .invokevirtual 145, 3), (10, .ifCond .eq 15, 3), (25, .iconst 0, 1), (26, .invokestatic 94, 3)]
set_option maxRecDepth 100000 in
theorem xi_ok231_0 : xi_ok cX11_width xi_231_0 = true := by decide +kernel
def xi_231 (pc : Nat) : XIs := xi_231_0
theorem xi_ok231 (pc : Nat) : xi_ok cX11_width (xi_231 pc) = true := xi_ok231_0
def xi_232_0 : XIs := [(0, .aload_n 0, 1), (1, .invokevirtual 160, 3), (4, .astore_n 3, 1), (5, .aload_n 3, 1), (6, .iload_n 1, 1), (7, .iload_n 2, 1), (8, .invokevirtual 242, 3), (11, .invokestatic 94, 3)]
set_option maxRecDepth 100000 in
theorem xi_ok232_0 : xi_ok cX11_shorts xi_232_0 = true := by decide +kernel
def xi_232 (pc : Nat) : XIs := xi_232_0
theorem xi_ok232 (pc : Nat) : xi_ok cX11_shorts (xi_232 pc) = true := xi_ok232_0
def xi_233_0 : XIs := [(0, .aload_n 0, 1), (1, .invokevirtual 160, 3), (4, .astore 5, 2), (6, .aload 5, 2), (8, .iload_n 1, 1), (9, .iload_n 2, 1), (10, .invokevirtual 242, 3), (13, .ifCond .eq 16, 3), (29, .iconst 0, 1), (30, .invokestatic 94, 3)]
set_option maxRecDepth 100000 in
theorem xi_ok233_0 : xi_ok cX11_shortArc xi_233_0 = true := by decide +kernel
def xi_233 (pc : Nat) : XIs := xi_233_0
theorem xi_ok233 (pc : Nat) : xi_ok cX11_shortArc (xi_233 pc) = true := xi_ok233_0
def xi_234_0 : XIs := [(0, .aload_n 0, 1), (1, .invokevirtual 160, 3), (4, .astore_n 3, 1), (5, .iload_n 1, 1), (6, .ifCond .lt 20, 3), (9, .iload_n 1, 1), (10, .iconst 1, 1), (11, .if_icmp .gt 15, 3), (14, .aload_n 3, 1), (15, .iload_n 2, 1), (16, .invokevirtual 145, 3), (19, .ifCond .eq 7, 3), (26, .iconst 0, 1), (27, .invokestatic 94, 3)]
set_option maxRecDepth 100000 in
theorem xi_ok234_0 : xi_ok cX11_part xi_234_0 = true := by decide +kernel
def xi_234 (pc : Nat) : XIs := xi_234_0
theorem xi_ok234 (pc : Nat) : xi_ok cX11_part (xi_234 pc) = true := xi_ok234_0
def xi_235_0 : XIs := [(0, .aload_n 0, 1), (1, .invokevirtual 160, 3), (4, .astore_n 2, 1), (5, .aload_n 2, 1), (6, .iload_n 1, 1), (7, .invokevirtual 123, 3), (10, .invokestatic 94, 3)]
set_option maxRecDepth 100000 in
theorem xi_ok235_0 : xi_ok cX11_bridge xi_235_0 = true := by decide +kernel
def xi_235 (pc : Nat) : XIs := xi_235_0
theorem xi_ok235 (pc : Nat) : xi_ok cX11_bridge (xi_235 pc) = true := xi_ok235_0
def xi_236_0 : XIs := [(0, .aload_n 0, 1), (1, .invokevirtual 160, 3), (4, .astore_n 2, 1), (5, .aload_n 2, 1), (6, .iload_n 1, 1), (7, .invokevirtual 145, 3), (10, .invokestatic 94, 3)]
set_option maxRecDepth 100000 in
theorem xi_ok236_0 : xi_ok cX11_cut xi_236_0 = true := by decide +kernel
def xi_236 (pc : Nat) : XIs := xi_236_0
theorem xi_ok236 (pc : Nat) : xi_ok cX11_cut (xi_236 pc) = true := xi_ok236_0
def xi_237_0 : XIs := [(0, .iload_n 1, 1), (1, .ifCond .lt 7, 3), (4, .iconst 1, 1), (5, .goto 4, 3), (8, .iconst 0, 1), (9, .invokestatic 94, 3), (12, .aload_n 0, 1), (13, .getfield 44, 3), (16, .aload_n 0, 1), (17, .invokevirtual 160, 3), (20, .iload_n 1, 1), (21, .invokevirtual 266, 3), (24, .ireturn, 1)]
set_option maxRecDepth 100000 in
theorem xi_ok237_0 : xi_ok cX11_order xi_237_0 = true := by decide +kernel
def xi_237 (pc : Nat) : XIs := xi_237_0
theorem xi_ok237 (pc : Nat) : xi_ok cX11_order (xi_237 pc) = true := xi_ok237_0
def xi_238_0 : XIs := [(0, .aload_n 0, 1), (1, .invokevirtual 160, 3), (4, .astore_n 2, 1), (5, .aload_n 2, 1), (6, .iload_n 1, 1), (7, .invokevirtual 145, 3), (10, .invokestatic 94, 3)]
set_option maxRecDepth 100000 in
theorem xi_ok238_0 : xi_ok cX11_core xi_238_0 = true := by decide +kernel
def xi_238 (pc : Nat) : XIs := xi_238_0
theorem xi_ok238 (pc : Nat) : xi_ok cX11_core (xi_238 pc) = true := xi_ok238_0
def xi_239_0 : XIs := [(0, .iload_n 1, 1), (1, .ifCond .lt 7, 3), (4, .iconst 1, 1), (5, .goto 4, 3), (8, .iconst 0, 1), (9, .invokestatic 94, 3), (12, .aload_n 0, 1), (13, .getfield 51, 3), (16, .aload_n 0, 1), (17, .invokevirtual 160, 3), (20, .invokevirtual 272, 3), (23, .istore_n 2, 1), (24, .iload_n 1, 1), (25, .iload_n 2, 1), (26, .invokestatic 275, 3), (29, .if_icmp .lt 5, 3)]
set_option maxRecDepth 100000 in
theorem xi_ok239_0 : xi_ok cX11_clique xi_239_0 = true := by decide +kernel
def xi_239_1 : XIs := [(32, .iconst (-1), 1), (33, .ireturn, 1)]
set_option maxRecDepth 100000 in
theorem xi_ok239_1 : xi_ok cX11_clique xi_239_1 = true := by decide +kernel
def xi_239 (pc : Nat) : XIs := cond (Nat.blt pc 32) (xi_239_0) (xi_239_1)
theorem xi_ok239 (pc : Nat) : xi_ok cX11_clique (xi_239 pc) = true := xi_c (xi_ok239_0) (xi_ok239_1)
def xi_240_0 : XIs := [(0, .aload_n 0, 1), (1, .invokevirtual 160, 3), (4, .astore_n 2, 1), (5, .aload_n 2, 1), (6, .iload_n 1, 1), (7, .invokevirtual 145, 3), (10, .invokestatic 94, 3)]
set_option maxRecDepth 100000 in
theorem xi_ok240_0 : xi_ok cX11_colour xi_240_0 = true := by decide +kernel
def xi_240 (pc : Nat) : XIs := xi_240_0
theorem xi_ok240 (pc : Nat) : xi_ok cX11_colour (xi_240 pc) = true := xi_ok240_0
def xi_241_0 : XIs := [(0, .aload_n 0, 1), (1, .invokevirtual 160, 3), (4, .astore_n 3, 1), (5, .aload_n 3, 1), (6, .iload_n 1, 1), (7, .iload_n 2, 1), (8, .invokevirtual 242, 3), (11, .invokestatic 94, 3)]
set_option maxRecDepth 100000 in
theorem xi_ok241_0 : xi_ok cX11_flow xi_241_0 = true := by decide +kernel
def xi_241 (pc : Nat) : XIs := xi_241_0
theorem xi_ok241 (pc : Nat) : xi_ok cX11_flow (xi_241 pc) = true := xi_ok241_0
def xi_242_0 : XIs := [(0, .aload_n 0, 1), (1, .invokevirtual 160, 3), (4, .astore 4, 2), (6, .aload 4, 2), (8, .iload_n 1, 1), (9, .iload_n 2, 1), (10, .invokevirtual 242, 3), (13, .ifCond .eq 16, 3), (29, .iconst 0, 1), (30, .invokestatic 94, 3)]
set_option maxRecDepth 100000 in
theorem xi_ok242_0 : xi_ok cX11_side xi_242_0 = true := by decide +kernel
def xi_242 (pc : Nat) : XIs := xi_242_0
theorem xi_ok242 (pc : Nat) : xi_ok cX11_side (xi_242 pc) = true := xi_ok242_0
def xi_243_0 : XIs := [(0, .aload_n 0, 1), (1, .invokevirtual 160, 3), (4, .astore 4, 2), (6, .aload 4, 2), (8, .iload_n 1, 1), (9, .iload_n 2, 1), (10, .invokevirtual 242, 3), (13, .ifCond .eq 18, 3), (31, .iconst 0, 1), (32, .invokestatic 94, 3)]
set_option maxRecDepth 100000 in
theorem xi_ok243_0 : xi_ok cX11_cost xi_243_0 = true := by decide +kernel
def xi_243 (pc : Nat) : XIs := xi_243_0
theorem xi_ok243 (pc : Nat) : xi_ok cX11_cost (xi_243 pc) = true := xi_ok243_0
def xi_244_0 : XIs := [(0, .iload_n 1, 1), (1, .ifCond .lt 12, 3), (4, .iload_n 1, 1), (5, .iconst 1, 1), (6, .if_icmp .gt 7, 3), (9, .iconst 1, 1), (10, .goto 4, 3), (13, .iconst 0, 1), (14, .invokestatic 94, 3), (17, .aload_n 0, 1), (18, .getfield 58, 3), (21, .aload_n 0, 1), (22, .invokevirtual 160, 3), (25, .invokevirtual 297, 3), (28, .iload_n 1, 1), (29, .ifCond .ne 14, 3)]
set_option maxRecDepth 100000 in
theorem xi_ok244_0 : xi_ok cX11_pairing xi_244_0 = true := by decide +kernel
def xi_244_1 : XIs := [(32, .aload_n 0, 1), (33, .getfield 58, 3), (36, .getfield 301, 3), (39, .i2l, 1), (40, .goto 10, 3), (43, .aload_n 0, 1), (44, .getfield 58, 3), (47, .getfield 304, 3), (50, .lreturn, 1)]
set_option maxRecDepth 100000 in
theorem xi_ok244_1 : xi_ok cX11_pairing xi_244_1 = true := by decide +kernel
def xi_244 (pc : Nat) : XIs := cond (Nat.blt pc 32) (xi_244_0) (xi_244_1)
theorem xi_ok244 (pc : Nat) : xi_ok cX11_pairing (xi_244 pc) = true := xi_c (xi_ok244_0) (xi_ok244_1)
def xi_245_0 : XIs := [(0, .aload_n 0, 1), (1, .invokevirtual 160, 3), (4, .astore_n 2, 1), (5, .aload_n 2, 1), (6, .iload_n 1, 1), (7, .invokevirtual 145, 3), (10, .invokestatic 94, 3)]
set_option maxRecDepth 100000 in
theorem xi_ok245_0 : xi_ok cX11_tree xi_245_0 = true := by decide +kernel
def xi_245 (pc : Nat) : XIs := xi_245_0
theorem xi_ok245 (pc : Nat) : xi_ok cX11_tree (xi_245 pc) = true := xi_ok245_0
def xi_246_0 : XIs := [(0, .aload_n 0, 1), (1, .invokevirtual 160, 3), (4, .astore_n 2, 1), (5, .aload_n 2, 1), (6, .iload_n 1, 1), (7, .invokevirtual 123, 3), (10, .invokestatic 94, 3)]
set_option maxRecDepth 100000 in
theorem xi_ok246_0 : xi_ok cX11_span xi_246_0 = true := by decide +kernel
def xi_246 (pc : Nat) : XIs := xi_246_0
theorem xi_ok246 (pc : Nat) : xi_ok cX11_span (xi_246 pc) = true := xi_ok246_0
def xi_247_0 : XIs := [(0, .aload_n 0, 1), (1, .getfield 65, 3), (4, .aload_n 0, 1), (5, .invokevirtual 160, 3), (8, .invokevirtual 315, 3), (11, .ireturn, 1)]
set_option maxRecDepth 100000 in
theorem xi_ok247_0 : xi_ok cX11_trees xi_247_0 = true := by decide +kernel
def xi_247 (pc : Nat) : XIs := xi_247_0
theorem xi_ok247 (pc : Nat) : xi_ok cX11_trees (xi_247 pc) = true := xi_ok247_0
def xi_248_0 : XIs := [(0, .aload_n 0, 1), (1, .invokevirtual 160, 3), (4, .astore_n 3, 1), (5, .aload_n 3, 1), (6, .iload_n 1, 1), (7, .invokevirtual 145, 3), (10, .ifCond .eq 17, 3), (27, .iconst 0, 1), (28, .invokestatic 94, 3)]
set_option maxRecDepth 100000 in
theorem xi_ok248_0 : xi_ok cX11_rank xi_248_0 = true := by decide +kernel
def xi_248 (pc : Nat) : XIs := xi_248_0
theorem xi_ok248 (pc : Nat) : xi_ok cX11_rank (xi_248 pc) = true := xi_ok248_0
def xi_249_0 : XIs := [(0, .aload_n 0, 1), (1, .invokevirtual 160, 3), (4, .astore 5, 2), (6, .aload 5, 2), (8, .iload_n 1, 1), (9, .invokevirtual 145, 3), (12, .ifCond .eq 35, 3), (47, .iconst 0, 1), (48, .invokestatic 94, 3)]
set_option maxRecDepth 100000 in
theorem xi_ok249_0 : xi_ok cX11_shortest xi_249_0 = true := by decide +kernel
def xi_249 (pc : Nat) : XIs := xi_249_0
theorem xi_ok249 (pc : Nat) : xi_ok cX11_shortest (xi_249 pc) = true := xi_ok249_0
def xi_250_0 : XIs := [(0, .aload_n 0, 1), (1, .invokevirtual 160, 3), (4, .astore_n 2, 1), (5, .aload_n 2, 1), (6, .iload_n 1, 1), (7, .invokevirtual 145, 3), (10, .invokestatic 94, 3)]
set_option maxRecDepth 100000 in
theorem xi_ok250_0 : xi_ok cX11_group xi_250_0 = true := by decide +kernel
def xi_250 (pc : Nat) : XIs := xi_250_0
theorem xi_ok250 (pc : Nat) : xi_ok cX11_group (xi_250 pc) = true := xi_ok250_0
def xi_251_0 : XIs := [(0, .aload_n 0, 1), (1, .getfield 72, 3), (4, .aload_n 0, 1), (5, .invokevirtual 160, 3), (8, .invokevirtual 330, 3), (11, .lreturn, 1)]
set_option maxRecDepth 100000 in
theorem xi_ok251_0 : xi_ok cX11_gain xi_251_0 = true := by decide +kernel
def xi_251 (pc : Nat) : XIs := xi_251_0
theorem xi_ok251 (pc : Nat) : xi_ok cX11_gain (xi_251 pc) = true := xi_ok251_0
def xi_252_0 : XIs := [(0, .iload_n 1, 1), (1, .ifCond .lt 12, 3), (4, .iload_n 1, 1), (5, .iconst 1, 1), (6, .if_icmp .gt 7, 3), (9, .iconst 1, 1), (10, .goto 4, 3), (13, .iconst 0, 1), (14, .invokestatic 94, 3), (17, .iload_n 1, 1), (18, .ifCond .ne 17, 3), (21, .aload_n 0, 1), (22, .getfield 44, 3), (25, .aload_n 0, 1), (26, .invokevirtual 160, 3), (29, .invokevirtual 334, 3)]
set_option maxRecDepth 100000 in
theorem xi_ok252_0 : xi_ok cX11_figures xi_252_0 = true := by decide +kernel
def xi_252_1 : XIs := [(32, .goto 14, 3), (35, .aload_n 0, 1), (36, .getfield 44, 3), (39, .aload_n 0, 1), (40, .invokevirtual 160, 3), (43, .invokevirtual 337, 3), (46, .lreturn, 1)]
set_option maxRecDepth 100000 in
theorem xi_ok252_1 : xi_ok cX11_figures xi_252_1 = true := by decide +kernel
def xi_252 (pc : Nat) : XIs := cond (Nat.blt pc 32) (xi_252_0) (xi_252_1)
theorem xi_ok252 (pc : Nat) : xi_ok cX11_figures (xi_252 pc) = true := xi_c (xi_ok252_0) (xi_ok252_1)
def xi_253_0 : XIs := [(0, .aload_n 0, 1), (1, .getfield 79, 3), (4, .aload_n 0, 1), (5, .getfield 30, 3), (8, .invokevirtual 340, 3), (11, .ifCond .eq 7, 3), (14, .iconst 0, 1), (15, .goto 5, 3), (20, .ireturn, 1)]
set_option maxRecDepth 100000 in
theorem xi_ok253_0 : xi_ok cX11_pattern xi_253_0 = true := by decide +kernel
def xi_253 (pc : Nat) : XIs := xi_253_0
theorem xi_ok253 (pc : Nat) : xi_ok cX11_pattern (xi_253 pc) = true := xi_ok253_0
def xi_254_0 : XIs := [(0, .aload_n 0, 1), (1, .invokevirtual 160, 3), (4, .astore_n 3, 1), (5, .aload_n 3, 1), (6, .iload_n 1, 1), (7, .invokevirtual 145, 3), (10, .ifCond .eq 15, 3), (25, .iconst 0, 1), (26, .invokestatic 94, 3)]
set_option maxRecDepth 100000 in
theorem xi_ok254_0 : xi_ok cX11_fits xi_254_0 = true := by decide +kernel
def xi_254 (pc : Nat) : XIs := xi_254_0
theorem xi_ok254 (pc : Nat) : xi_ok cX11_fits (xi_254 pc) = true := xi_ok254_0
def xi_255_0 : XIs := [(0, .aload_n 0, 1), (1, .getfield 86, 3), (4, .aload_n 0, 1), (5, .getfield 30, 3), (8, .invokevirtual 347, 3), (11, .ifCond .eq 7, 3), (18, .bipush (-4), 2), (20, .ireturn, 1)]
set_option maxRecDepth 100000 in
theorem xi_ok255_0 : xi_ok cX11_program xi_255_0 = true := by decide +kernel
def xi_255 (pc : Nat) : XIs := xi_255_0
theorem xi_ok255 (pc : Nat) : xi_ok cX11_program (xi_255 pc) = true := xi_ok255_0
def xi_256_0 : XIs := [(0, .iload_n 1, 1), (1, .ifCond .lt 34, 3), (4, .iload_n 1, 1), (5, .sipush 200, 3), (8, .if_icmp .gt 27, 3), (11, .iload_n 2, 1), (12, .iconst 1, 1), (13, .if_icmp .lt 22, 3), (16, .iload_n 2, 1), (17, .iconst 4, 1), (18, .if_icmp .gt 17, 3), (21, .iload_n 3, 1), (22, .ifCond .lt 13, 3), (25, .iload_n 3, 1), (26, .bipush 90, 2), (28, .if_icmp .gt 7, 3)]
set_option maxRecDepth 100000 in
theorem xi_ok256_0 : xi_ok cX11_run xi_256_0 = true := by decide +kernel
def xi_256_1 : XIs := [(31, .iconst 1, 1), (32, .goto 4, 3), (35, .iconst 0, 1), (36, .invokestatic 94, 3), (39, .aload_n 0, 1), (40, .invokevirtual 160, 3), (43, .astore 6, 2), (45, .aload_n 0, 1), (46, .getfield 86, 3), (49, .aload 6, 2), (51, .iload_n 1, 1), (52, .invokevirtual 348, 3), (55, .istore 7, 2), (57, .aload_n 0, 1), (58, .getfield 86, 3), (61, .aload 6, 2)]
set_option maxRecDepth 100000 in
theorem xi_ok256_1 : xi_ok cX11_run xi_256_1 = true := by decide +kernel
def xi_256_2 : XIs := [(63, .iload 7, 2), (65, .iload_n 2, 1), (66, .iload_n 3, 1), (67, .lload 4, 2), (69, .invokevirtual 351, 3), (72, .iload 7, 2), (74, .ireturn, 1)]
set_option maxRecDepth 100000 in
theorem xi_ok256_2 : xi_ok cX11_run xi_256_2 = true := by decide +kernel
def xi_256 (pc : Nat) : XIs := cond (Nat.blt pc 31) (xi_256_0) (cond (Nat.blt pc 63) (xi_256_1) (xi_256_2))
theorem xi_ok256 (pc : Nat) : xi_ok cX11_run (xi_256 pc) = true := xi_c (xi_ok256_0) (xi_c (xi_ok256_1) (xi_ok256_2))
def xi_257_0 : XIs := [(0, .iload_n 1, 1), (1, .ifCond .lt 18, 3), (4, .iload_n 1, 1), (5, .aload_n 0, 1), (6, .getfield 86, 3), (9, .getfield 355, 3), (12, .if_icmp .ge 7, 3), (19, .iconst 0, 1), (20, .invokestatic 94, 3)]
set_option maxRecDepth 100000 in
theorem xi_ok257_0 : xi_ok cX11_state xi_257_0 = true := by decide +kernel
def xi_257 (pc : Nat) : XIs := xi_257_0
theorem xi_ok257 (pc : Nat) : xi_ok cX11_state (xi_257 pc) = true := xi_ok257_0
def xi_258_0 : XIs := [(0, .iload_n 1, 1), (1, .ifCond .lt 12, 3), (4, .iload_n 1, 1), (5, .iconst 2, 1), (6, .if_icmp .gt 7, 3), (9, .iconst 1, 1), (10, .goto 4, 3), (13, .iconst 0, 1), (14, .invokestatic 94, 3), (17, .iload_n 1, 1), (18, .ifCond .ne 11, 3), (21, .aload_n 0, 1), (22, .getfield 86, 3), (25, .getfield 360, 3), (28, .ireturn, 1), (29, .iload_n 1, 1)]
set_option maxRecDepth 100000 in
theorem xi_ok258_0 : xi_ok cX11_letters xi_258_0 = true := by decide +kernel
def xi_258_1 : XIs := [(30, .iconst 1, 1), (31, .if_icmp .ne 13, 3), (34, .aload_n 0, 1), (35, .getfield 86, 3), (38, .getfield 363, 3), (41, .goto 10, 3), (44, .aload_n 0, 1), (45, .getfield 86, 3), (48, .getfield 366, 3), (51, .ireturn, 1)]
set_option maxRecDepth 100000 in
theorem xi_ok258_1 : xi_ok cX11_letters xi_258_1 = true := by decide +kernel
def xi_258 (pc : Nat) : XIs := cond (Nat.blt pc 30) (xi_258_0) (xi_258_1)
theorem xi_ok258 (pc : Nat) : xi_ok cX11_letters (xi_258 pc) = true := xi_c (xi_ok258_0) (xi_ok258_1)
def xi_259_0 : XIs := [(0, .aload_n 0, 1), (1, .getfield 23, 3), (4, .iconst (-1), 1), (5, .if_icmp .ne 13, 3), (8, .aload_n 0, 1), (9, .getfield 10, 3), (12, .getfield 98, 3), (15, .goto 7, 3), (18, .aload_n 0, 1), (19, .getfield 19, 3), (22, .areturn, 1)]
set_option maxRecDepth 100000 in
theorem xi_ok259_0 : xi_ok cX11_graph xi_259_0 = true := by decide +kernel
def xi_259 (pc : Nat) : XIs := xi_259_0
theorem xi_ok259 (pc : Nat) : xi_ok cX11_graph (xi_259 pc) = true := xi_ok259_0
def xi_260_0 : XIs := [(0, .iload_n 0, 1), (1, .ifCond .lt 13, 3), (4, .iload_n 0, 1), (5, .bipush 26, 2), (7, .if_icmp .ge 7, 3), (10, .iconst 1, 1), (11, .goto 4, 3), (14, .iconst 0, 1), (15, .ireturn, 1)]
set_option maxRecDepth 100000 in
theorem xi_ok260_0 : xi_ok cX11_isLetter xi_260_0 = true := by decide +kernel
def xi_260 (pc : Nat) : XIs := xi_260_0
theorem xi_ok260 (pc : Nat) : xi_ok cX11_isLetter (xi_260 pc) = true := xi_ok260_0
def xi_261 (pc : Nat) : XIs := []
theorem xi_ok261 (pc : Nat) : xi_ok cX11_isWeight (xi_261 pc) = true := rfl
def xi_262 (pc : Nat) : XIs := []
theorem xi_ok262 (pc : Nat) : xi_ok cX11_isRoom (xi_262 pc) = true := rfl
def xi_263 (pc : Nat) : XIs := []
theorem xi_ok263 (pc : Nat) : xi_ok cX11_isGoodValue (xi_263 pc) = true := rfl
def xi_264 (pc : Nat) : XIs := []
theorem xi_ok264 (pc : Nat) : xi_ok cX11_lowest (xi_264 pc) = true := rfl
def xi_265_0 : XIs := [(0, .lload_n 0, 1), (1, .lload_n 0, 1), (2, .lneg, 1), (3, .land, 1), (4, .lconst 1, 1), (5, .lsub, 1), (6, .invokestatic 383, 3), (9, .ireturn, 1)]
set_option maxRecDepth 100000 in
theorem xi_ok265_0 : xi_ok cX11_lowestOfLong xi_265_0 = true := by decide +kernel
def xi_265 (pc : Nat) : XIs := xi_265_0
theorem xi_ok265 (pc : Nat) : xi_ok cX11_lowestOfLong (xi_265 pc) = true := xi_ok265_0
def xi_266 (pc : Nat) : XIs := []
theorem xi_ok266 (pc : Nat) : xi_ok cX11_flood (xi_266 pc) = true := rfl
def xi_267_0 : XIs := [(0, .aload_n 0, 1), (1, .invokespecial 1, 3), (4, .aload_n 0, 1), (5, .iconst 3, 1), (6, .newarray .int, 2), (8, .putfield 7, 3), (11, .aload_n 0, 1), (12, .bipush 96, 2), (14, .newarray .int, 2), (16, .putfield 13, 3), (19, .aload_n 0, 1), (20, .sipush 480, 3), (23, .newarray .boolean, 2), (25, .putfield 16, 3), (28, .aload_n 0, 1), (29, .sipush 480, 3)]
set_option maxRecDepth 100000 in
theorem xi_ok267_0 : xi_ok cX12_init xi_267_0 = true := by decide +kernel
def xi_267_1 : XIs := [(32, .newarray .int, 2), (34, .putfield 20, 3), (37, .aload_n 0, 1), (38, .sipush 480, 3), (41, .newarray .int, 2), (43, .putfield 23, 3), (46, .aload_n 0, 1), (47, .sipush 480, 3), (50, .newarray .int, 2), (52, .putfield 26, 3), (55, .aload_n 0, 1), (56, .sipush 480, 3), (59, .newarray .int, 2), (61, .putfield 29, 3), (64, .aload_n 0, 1), (65, .sipush 480, 3)]
set_option maxRecDepth 100000 in
theorem xi_ok267_1 : xi_ok cX12_init xi_267_1 = true := by decide +kernel
def xi_267_2 : XIs := [(68, .newarray .int, 2), (70, .putfield 32, 3), (73, .aload_n 0, 1), (74, .sipush 4000, 3), (77, .newarray .int, 2), (79, .putfield 35, 3), (82, .aload_n 0, 1), (83, .sipush 4000, 3), (86, .newarray .int, 2), (88, .putfield 38, 3), (91, .aload_n 0, 1), (92, .sipush 4000, 3), (95, .newarray .int, 2), (97, .putfield 41, 3), (100, .aload_n 0, 1), (101, .sipush 4000, 3)]
set_option maxRecDepth 100000 in
theorem xi_ok267_2 : xi_ok cX12_init xi_267_2 = true := by decide +kernel
def xi_267_3 : XIs := [(104, .newarray .int, 2), (106, .putfield 44, 3), (109, .aload_n 0, 1), (110, .sipush 4000, 3), (113, .newarray .int, 2), (115, .putfield 47, 3), (118, .aload_n 0, 1), (119, .sipush 4000, 3), (122, .newarray .int, 2), (124, .putfield 50, 3), (127, .aload_n 0, 1), (128, .sipush 4000, 3), (131, .newarray .int, 2), (133, .putfield 53, 3), (136, .aload_n 0, 1), (137, .iconst (-1), 1)]
set_option maxRecDepth 100000 in
theorem xi_ok267_3 : xi_ok cX12_init xi_267_3 = true := by decide +kernel
def xi_267_4 : XIs := [(138, .putfield 56, 3), (141, .aload_n 0, 1), (142, .sipush 1000, 3), (145, .newarray .int, 2), (147, .putfield 60, 3), (150, .aload_n 0, 1), (151, .sipush 8000, 3), (154, .newarray .int, 2), (156, .putfield 63, 3), (159, .aload_n 0, 1), (160, .sipush 500, 3), (163, .newarray .int, 2), (165, .putfield 66, 3), (168, .aload_n 0, 1), (169, .sipush 2500, 3), (172, .newarray .int, 2)]
set_option maxRecDepth 100000 in
theorem xi_ok267_4 : xi_ok cX12_init xi_267_4 = true := by decide +kernel
def xi_267_5 : XIs := [(174, .putfield 69, 3), (177, .aload_n 0, 1), (178, .bipush 32, 2), (180, .newarray .int, 2), (182, .putfield 72, 3), (185, .aload_n 0, 1), (186, .bipush 32, 2), (188, .newarray .long, 2), (190, .putfield 75, 3), (193, .aload_n 0, 1), (194, .bipush 32, 2), (196, .newarray .int, 2), (198, .putfield 79, 3), (201, .aload_n 0, 1), (202, .sipush 4000, 3), (205, .newarray .int, 2)]
set_option maxRecDepth 100000 in
theorem xi_ok267_5 : xi_ok cX12_init xi_267_5 = true := by decide +kernel
def xi_267_6 : XIs := [(207, .putfield 82, 3), (210, .aload_n 0, 1), (211, .bipush 32, 2), (213, .newarray .int, 2), (215, .putfield 85, 3), (218, .aload_n 0, 1), (219, .sipush 10005, 3), (222, .newarray .int, 2), (224, .putfield 88, 3), (227, .aload_n 0, 1), (228, .sipush 2001, 3), (231, .newarray .long, 2), (233, .putfield 91, 3), (236, .aload_n 0, 1), (237, .sipush 2001, 3), (240, .newarray .int, 2)]
set_option maxRecDepth 100000 in
theorem xi_ok267_6 : xi_ok cX12_init xi_267_6 = true := by decide +kernel
def xi_267_7 : XIs := [(242, .putfield 94, 3), (245, .aload_n 0, 1), (246, .sipush 2001, 3), (249, .newarray .int, 2), (251, .putfield 97, 3), (254, .aload_n 0, 1), (255, .bipush 32, 2), (257, .newarray .int, 2), (259, .putfield 100, 3), (262, .aload_n 0, 1), (263, .bipush 33, 2), (265, .newarray .int, 2), (267, .putfield 103, 3), (270, .aload_n 0, 1), (271, .bipush 33, 2), (273, .newarray .int, 2)]
set_option maxRecDepth 100000 in
theorem xi_ok267_7 : xi_ok cX12_init xi_267_7 = true := by decide +kernel
def xi_267_8 : XIs := [(275, .putfield 106, 3), (278, .aload_n 0, 1), (279, .bipush 32, 2), (281, .newarray .int, 2), (283, .putfield 109, 3), (286, .aload_n 0, 1), (287, .bipush 32, 2), (289, .newarray .int, 2), (291, .putfield 112, 3), (294, .aload_n 0, 1), (295, .bipush 32, 2), (297, .newarray .int, 2), (299, .putfield 115, 3), (302, .aload_n 0, 1), (303, .bipush 33, 2), (305, .newarray .int, 2)]
set_option maxRecDepth 100000 in
theorem xi_ok267_8 : xi_ok cX12_init xi_267_8 = true := by decide +kernel
def xi_267_9 : XIs := [(307, .putfield 118, 3), (310, .aload_n 0, 1), (311, .bipush 33, 2), (313, .newarray .int, 2), (315, .putfield 121, 3), (318, .aload_n 0, 1), (319, .bipush 33, 2), (321, .newarray .int, 2), (323, .putfield 124, 3), (326, .aload_n 0, 1), (327, .sipush 160, 3), (330, .newarray .long, 2), (332, .putfield 127, 3), (335, .aload_n 0, 1), (336, .bipush 34, 2), (338, .newarray .int, 2)]
set_option maxRecDepth 100000 in
theorem xi_ok267_9 : xi_ok cX12_init xi_267_9 = true := by decide +kernel
def xi_267_10 : XIs := [(340, .putfield 130, 3), (343, .aload_n 0, 1), (344, .bipush 34, 2), (346, .newarray .long, 2), (348, .putfield 133, 3), (351, .aload_n 0, 1), (352, .bipush 32, 2), (354, .newarray .long, 2), (356, .putfield 136, 3), (359, .aload_n 0, 1), (360, .bipush 32, 2), (362, .newarray .int, 2), (364, .putfield 139, 3), (367, .aload_n 0, 1), (368, .sipush 1024, 3), (371, .newarray .long, 2)]
set_option maxRecDepth 100000 in
theorem xi_ok267_10 : xi_ok cX12_init xi_267_10 = true := by decide +kernel
def xi_267_11 : XIs := [(373, .putfield 142, 3), (376, .aload_n 0, 1), (377, .sipush 160, 3), (380, .newarray .int, 2), (382, .putfield 145, 3), (385, .aload_n 0, 1), (386, .sipush 160, 3), (389, .newarray .int, 2), (391, .putfield 148, 3), (394, .aload_n 0, 1), (395, .sipush 160, 3), (398, .newarray .long, 2), (400, .putfield 151, 3), (403, .aload_n 0, 1), (404, .bipush 32, 2), (406, .newarray .long, 2)]
set_option maxRecDepth 100000 in
theorem xi_ok267_11 : xi_ok cX12_init xi_267_11 = true := by decide +kernel
def xi_267_12 : XIs := [(408, .putfield 154, 3), (411, .aload_n 0, 1), (412, .bipush 32, 2), (414, .newarray .int, 2), (416, .putfield 157, 3), (419, .aload_n 0, 1), (420, .bipush 32, 2), (422, .newarray .int, 2), (424, .putfield 160, 3), (427, .aload_n 0, 1), (428, .bipush 32, 2), (430, .newarray .int, 2), (432, .putfield 163, 3), (435, .aload_n 0, 1), (436, .bipush 32, 2), (438, .newarray .int, 2)]
set_option maxRecDepth 100000 in
theorem xi_ok267_12 : xi_ok cX12_init xi_267_12 = true := by decide +kernel
def xi_267_13 : XIs := [(440, .putfield 166, 3), (443, .aload_n 0, 1), (444, .sipush 1024, 3), (447, .newarray .long, 2), (449, .putfield 169, 3), (452, .aload_n 0, 1), (453, .bipush 32, 2), (455, .newarray .long, 2), (457, .putfield 172, 3), (460, .aload_n 0, 1), (461, .bipush 32, 2), (463, .newarray .long, 2), (465, .putfield 175, 3), (468, .aload_n 0, 1), (469, .bipush 32, 2), (471, .newarray .int, 2)]
set_option maxRecDepth 100000 in
theorem xi_ok267_13 : xi_ok cX12_init xi_267_13 = true := by decide +kernel
def xi_267_14 : XIs := [(473, .putfield 178, 3), (476, .aload_n 0, 1), (477, .bipush 32, 2), (479, .newarray .int, 2), (481, .putfield 181, 3), (484, .aload_n 0, 1), (485, .bipush 32, 2), (487, .newarray .long, 2), (489, .putfield 184, 3), (492, .aload_n 0, 1), (493, .bipush 32, 2), (495, .newarray .int, 2), (497, .putfield 187, 3), (500, .aload_n 0, 1), (501, .bipush 32, 2), (503, .newarray .long, 2)]
set_option maxRecDepth 100000 in
theorem xi_ok267_14 : xi_ok cX12_init xi_267_14 = true := by decide +kernel
def xi_267_15 : XIs := [(505, .putfield 190, 3), (508, .aload_n 0, 1), (509, .bipush 32, 2), (511, .newarray .int, 2), (513, .putfield 193, 3), (516, .aload_n 0, 1), (517, .bipush 32, 2), (519, .newarray .int, 2), (521, .putfield 196, 3), (524, .aload_n 0, 1), (525, .sipush 1024, 3), (528, .newarray .int, 2), (530, .putfield 199, 3), (533, .aload_n 0, 1), (534, .bipush 60, 2), (536, .newarray .int, 2)]
set_option maxRecDepth 100000 in
theorem xi_ok267_15 : xi_ok cX12_init xi_267_15 = true := by decide +kernel
def xi_267_16 : XIs := [(538, .putfield 202, 3), (541, .aload_n 0, 1), (542, .bipush 60, 2), (544, .newarray .long, 2), (546, .putfield 205, 3), (549, .aload_n 0, 1), (550, .iconst 1, 1), (551, .putfield 208, 3), (554, .aload_n 0, 1), (555, .bipush 60, 2), (557, .newarray .int, 2), (559, .putfield 212, 3), (562, .aload_n 0, 1), (563, .bipush 60, 2), (565, .newarray .long, 2), (567, .putfield 215, 3)]
set_option maxRecDepth 100000 in
theorem xi_ok267_16 : xi_ok cX12_init xi_267_16 = true := by decide +kernel
def xi_267_17 : XIs := [(570, .aload_n 0, 1), (571, .bipush 12, 2), (573, .newarray .boolean, 2), (575, .putfield 218, 3), (578, .aload_n 0, 1), (579, .bipush 12, 2), (581, .newarray .boolean, 2), (583, .putfield 221, 3), (586, .aload_n 0, 1), (587, .bipush 12, 2), (589, .newarray .long, 2), (591, .putfield 224, 3), (594, .aload_n 0, 1), (595, .bipush 12, 2), (597, .newarray .long, 2)]
set_option maxRecDepth 100000 in
theorem xi_ok267_17 : xi_ok cX12_init xi_267_17 = true := by decide +kernel
def xi_267_18 : XIs := [(599, .putfield 227, 3), (602, .aload_n 0, 1), (603, .bipush 12, 2), (605, .newarray .boolean, 2), (607, .putfield 230, 3), (610, .aload_n 0, 1), (611, .bipush 12, 2), (613, .newarray .long, 2), (615, .putfield 233, 3), (618, .aload_n 0, 1), (619, .bipush 12, 2), (621, .newarray .long, 2), (623, .putfield 236, 3), (626, .aload_n 0, 1), (627, .sipush 2000, 3)]
set_option maxRecDepth 100000 in
theorem xi_ok267_18 : xi_ok cX12_init xi_267_18 = true := by decide +kernel
def xi_267_19 : XIs := [(630, .newarray .int, 2), (632, .putfield 239, 3), (635, .aload_n 0, 1), (636, .sipush 400, 3), (639, .newarray .int, 2), (641, .putfield 242, 3), (644, .aload_n 0, 1), (645, .sipush 400, 3), (648, .newarray .int, 2), (650, .putfield 245, 3), (653, .aload_n 0, 1), (654, .iconst 3, 1), (655, .newarray .int, 2), (657, .putfield 248, 3)]
set_option maxRecDepth 100000 in
theorem xi_ok267_19 : xi_ok cX12_init xi_267_19 = true := by decide +kernel
def xi_267_20 : XIs := [(660, .aload_n 0, 1), (661, .sipush 400, 3), (664, .newarray .int, 2), (666, .putfield 251, 3), (669, .aload_n 0, 1), (670, .sipush 400, 3), (673, .newarray .int, 2), (675, .putfield 254, 3), (678, .aload_n 0, 1), (679, .iconst 3, 1), (680, .newarray .int, 2), (682, .putfield 257, 3), (685, .aload_n 0, 1)]
set_option maxRecDepth 100000 in
theorem xi_ok267_20 : xi_ok cX12_init xi_267_20 = true := by decide +kernel
def xi_267_21 : XIs := [(686, .sipush 200, 3), (689, .newarray .int, 2), (691, .putfield 260, 3), (694, .aload_n 0, 1), (695, .bipush 32, 2), (697, .newarray .long, 2), (699, .putfield 263, 3), (702, .aload_n 0, 1), (703, .bipush 32, 2), (705, .newarray .long, 2), (707, .putfield 266, 3), (710, .aload_n 0, 1), (711, .sipush 200, 3)]
set_option maxRecDepth 100000 in
theorem xi_ok267_21 : xi_ok cX12_init xi_267_21 = true := by decide +kernel
def xi_267_22 : XIs := [(714, .newarray .long, 2), (716, .putfield 269, 3), (719, .aload_n 0, 1), (720, .bipush 9, 2), (722, .newarray .long, 2), (724, .putfield 272, 3), (727, .aload_n 0, 1), (728, .invokevirtual 275, 3), (731, .return_, 1)]
set_option maxRecDepth 100000 in
theorem xi_ok267_22 : xi_ok cX12_init xi_267_22 = true := by decide +kernel
def xi_267 (pc : Nat) : XIs := cond (Nat.blt pc 373) (cond (Nat.blt pc 174) (cond (Nat.blt pc 68) (cond (Nat.blt pc 32) (xi_267_0) (xi_267_1)) (cond (Nat.blt pc 104) (xi_267_2) (cond (Nat.blt pc 138) (xi_267_3) (xi_267_4)))) (cond (Nat.blt pc 275) (cond (Nat.blt pc 207) (xi_267_5) (cond (Nat.blt pc 242) (xi_267_6) (xi_267_7))) (cond (Nat.blt pc 307) (xi_267_8) (cond (Nat.blt pc 340) (xi_267_9) (xi_267_10))))) (cond (Nat.blt pc 570) (cond (Nat.blt pc 473) (cond (Nat.blt pc 408) (xi_267_11) (cond (Nat.blt pc 440) (xi_267_12) (xi_267_13))) (cond (Nat.blt pc 505) (xi_267_14) (cond (Nat.blt pc 538) (xi_267_15) (xi_267_16)))) (cond (Nat.blt pc 660) (cond (Nat.blt pc 599) (xi_267_17) (cond (Nat.blt pc 630) (xi_267_18) (xi_267_19))) (cond (Nat.blt pc 686) (xi_267_20) (cond (Nat.blt pc 714) (xi_267_21) (xi_267_22)))))
theorem xi_ok267 (pc : Nat) : xi_ok cX12_init (xi_267 pc) = true := xi_c (xi_c (xi_c (xi_c (xi_ok267_0) (xi_ok267_1)) (xi_c (xi_ok267_2) (xi_c (xi_ok267_3) (xi_ok267_4)))) (xi_c (xi_c (xi_ok267_5) (xi_c (xi_ok267_6) (xi_ok267_7))) (xi_c (xi_ok267_8) (xi_c (xi_ok267_9) (xi_ok267_10))))) (xi_c (xi_c (xi_c (xi_ok267_11) (xi_c (xi_ok267_12) (xi_ok267_13))) (xi_c (xi_ok267_14) (xi_c (xi_ok267_15) (xi_ok267_16)))) (xi_c (xi_c (xi_ok267_17) (xi_c (xi_ok267_18) (xi_ok267_19))) (xi_c (xi_ok267_20) (xi_c (xi_ok267_21) (xi_ok267_22)))))
def xi_268_0 : XIs := [(0, .aload_n 0, 1), (1, .getfield 278, 3), (4, .ireturn, 1)]
set_option maxRecDepth 100000 in
theorem xi_ok268_0 : xi_ok cX12_thrown xi_268_0 = true := by decide +kernel
def xi_268 (pc : Nat) : XIs := xi_268_0
theorem xi_ok268 (pc : Nat) : xi_ok cX12_thrown (xi_268 pc) = true := xi_ok268_0
def xi_269_0 : XIs := [(0, .lload_n 0, 1), (1, .lload_n 2, 1), (2, .lcmp, 1), (3, .ifCond .lt 14, 3), (6, .lload_n 0, 1), (7, .lload 4, 2), (9, .lcmp, 1), (10, .ifCond .gt 7, 3), (13, .iconst 1, 1), (14, .goto 4, 3), (17, .iconst 0, 1), (18, .ireturn, 1)]
set_option maxRecDepth 100000 in
theorem xi_ok269_0 : xi_ok cX12_in xi_269_0 = true := by decide +kernel
def xi_269 (pc : Nat) : XIs := xi_269_0
theorem xi_ok269 (pc : Nat) : xi_ok cX12_in (xi_269 pc) = true := xi_ok269_0
def xi_270_0 : XIs := [(0, .aload_n 0, 1), (1, .iload_n 1, 1), (2, .ifCond .ne 7, 3), (5, .iconst 1, 1), (6, .goto 12, 3), (9, .iload_n 2, 1), (10, .ifCond .ne 7, 3), (17, .iconst 0, 1), (18, .putfield 278, 3), (21, .aload_n 0, 1), (22, .getfield 278, 3), (25, .ifCond .le 7, 3), (28, .iconst 1, 1), (29, .goto 4, 3), (32, .iconst 0, 1), (33, .ireturn, 1)]
set_option maxRecDepth 100000 in
theorem xi_ok270_0 : xi_ok cX12_fails xi_270_0 = true := by decide +kernel
def xi_270 (pc : Nat) : XIs := xi_270_0
theorem xi_ok270 (pc : Nat) : xi_ok cX12_fails (xi_270 pc) = true := xi_ok270_0
def xi_271_0 : XIs := [(0, .aload_n 0, 1), (1, .iload_n 1, 1), (2, .iconst 1, 1), (3, .invokevirtual 281, 3), (6, .ireturn, 1)]
set_option maxRecDepth 100000 in
theorem xi_ok271_0 : xi_ok cX12_wrongArgument xi_271_0 = true := by decide +kernel
def xi_271 (pc : Nat) : XIs := xi_271_0
theorem xi_ok271 (pc : Nat) : xi_ok cX12_wrongArgument (xi_271 pc) = true := xi_ok271_0
def xi_272_0 : XIs := [(0, .iload_n 1, 1), (1, .ifCond .lt 15, 3), (4, .iload_n 1, 1), (5, .aload_n 0, 1), (6, .getfield 285, 3), (9, .if_icmp .ge 7, 3), (16, .iconst 0, 1), (17, .ireturn, 1)]
set_option maxRecDepth 100000 in
theorem xi_ok272_0 : xi_ok cX12_isNode xi_272_0 = true := by decide +kernel
def xi_272 (pc : Nat) : XIs := xi_272_0
theorem xi_ok272 (pc : Nat) : xi_ok cX12_isNode (xi_272 pc) = true := xi_ok272_0
def xi_273_0 : XIs := [(0, .iload_n 1, 1), (1, .ifCond .lt 28, 3), (4, .iload_n 1, 1), (5, .sipush 160, 3), (8, .if_icmp .ge 21, 3), (11, .aload_n 0, 1), (12, .getfield 16, 3), (15, .aload_n 0, 1), (16, .getfield 288, 3), (19, .iload_n 1, 1), (20, .iadd, 1), (21, .baload, 1), (22, .ifCond .eq 7, 3), (29, .iconst 0, 1), (30, .ireturn, 1)]
set_option maxRecDepth 100000 in
theorem xi_ok273_0 : xi_ok cX12_isArc xi_273_0 = true := by decide +kernel
def xi_273 (pc : Nat) : XIs := xi_273_0
theorem xi_ok273 (pc : Nat) : xi_ok cX12_isArc (xi_273 pc) = true := xi_ok273_0
def xi_274_0 : XIs := [(0, .aload_n 0, 1), (1, .getfield 35, 3), (4, .aload_n 0, 1), (5, .getfield 291, 3), (8, .iload_n 1, 1), (9, .iastore, 1), (10, .aload_n 0, 1), (11, .getfield 38, 3), (14, .aload_n 0, 1), (15, .getfield 291, 3), (18, .iload_n 2, 1), (19, .iastore, 1), (20, .aload_n 0, 1), (21, .getfield 41, 3), (24, .aload_n 0, 1), (25, .getfield 291, 3)]
set_option maxRecDepth 100000 in
theorem xi_ok274_0 : xi_ok cX12_make xi_274_0 = true := by decide +kernel
def xi_274_1 : XIs := [(28, .iload_n 3, 1), (29, .iastore, 1), (30, .aload_n 0, 1), (31, .getfield 44, 3), (34, .aload_n 0, 1), (35, .getfield 291, 3), (38, .iload 4, 2), (40, .iastore, 1), (41, .aload_n 0, 1), (42, .getfield 47, 3), (45, .aload_n 0, 1), (46, .getfield 291, 3), (49, .iload 5, 2), (51, .iastore, 1), (52, .aload_n 0, 1), (53, .getfield 50, 3)]
set_option maxRecDepth 100000 in
theorem xi_ok274_1 : xi_ok cX12_make xi_274_1 = true := by decide +kernel
def xi_274_2 : XIs := [(56, .aload_n 0, 1), (57, .getfield 291, 3), (60, .iload 6, 2), (62, .iastore, 1), (63, .aload_n 0, 1), (64, .getfield 53, 3), (67, .aload_n 0, 1), (68, .getfield 291, 3), (71, .iload 7, 2), (73, .iastore, 1), (74, .aload_n 0, 1), (75, .aload_n 0, 1), (76, .getfield 291, 3), (79, .iconst 0, 1), (80, .invokevirtual 294, 3), (83, .aload_n 0, 1)]
set_option maxRecDepth 100000 in
theorem xi_ok274_2 : xi_ok cX12_make xi_274_2 = true := by decide +kernel
def xi_274_3 : XIs := [(84, .dup, 1), (85, .getfield 291, 3), (88, .iconst 1, 1), (89, .iadd, 1), (90, .putfield 291, 3), (93, .aload_n 0, 1), (94, .invokevirtual 298, 3), (97, .return_, 1)]
set_option maxRecDepth 100000 in
theorem xi_ok274_3 : xi_ok cX12_make xi_274_3 = true := by decide +kernel
def xi_274 (pc : Nat) : XIs := cond (Nat.blt pc 56) (cond (Nat.blt pc 28) (xi_274_0) (xi_274_1)) (cond (Nat.blt pc 84) (xi_274_2) (xi_274_3))
theorem xi_ok274 (pc : Nat) : xi_ok cX12_make (xi_274 pc) = true := xi_c (xi_c (xi_ok274_0) (xi_ok274_1)) (xi_c (xi_ok274_2) (xi_ok274_3))
def xi_275_0 : XIs := [(0, .sipush 160, 3), (3, .iload_n 2, 1), (4, .imul, 1), (5, .aload_n 0, 1), (6, .getfield 38, 3), (9, .iload_n 1, 1), (10, .iaload, 1), (11, .iadd, 1), (12, .istore_n 3, 1), (13, .aload_n 0, 1), (14, .getfield 35, 3), (17, .iload_n 1, 1), (18, .iaload, 1), (19, .tableswitch 208 0 3 #[29, 64, 134, 144], 29), (48, .aload_n 0, 1), (49, .getfield 13, 3)]
set_option maxRecDepth 100000 in
theorem xi_ok275_0 : xi_ok cX12_apply xi_275_0 = true := by decide +kernel
def xi_275_1 : XIs := [(52, .bipush 32, 2), (54, .iload_n 2, 1), (55, .imul, 1), (56, .aload_n 0, 1), (57, .getfield 7, 3), (60, .iload_n 2, 1), (61, .iaload, 1), (62, .iadd, 1), (63, .aload_n 0, 1), (64, .getfield 38, 3), (67, .iload_n 1, 1), (68, .iaload, 1), (69, .iastore, 1), (70, .aload_n 0, 1), (71, .getfield 7, 3), (74, .iload_n 2, 1)]
set_option maxRecDepth 100000 in
theorem xi_ok275_1 : xi_ok cX12_apply xi_275_1 = true := by decide +kernel
def xi_275_2 : XIs := [(75, .dup2, 1), (76, .iaload, 1), (77, .iconst 1, 1), (78, .iadd, 1), (79, .iastore, 1), (80, .goto 169, 3), (249, .return_, 1)]
set_option maxRecDepth 100000 in
theorem xi_ok275_2 : xi_ok cX12_apply xi_275_2 = true := by decide +kernel
def xi_275 (pc : Nat) : XIs := cond (Nat.blt pc 52) (xi_275_0) (cond (Nat.blt pc 75) (xi_275_1) (xi_275_2))
theorem xi_ok275 (pc : Nat) : xi_ok cX12_apply (xi_275 pc) = true := xi_c (xi_ok275_0) (xi_c (xi_ok275_1) (xi_ok275_2))
def xi_276_0 : XIs := [(0, .aload_n 0, 1), (1, .aload_n 0, 1), (2, .getfield 56, 3), (5, .ifCond .ge 7, 3), (8, .iconst 0, 1), (9, .goto 4, 3), (12, .iconst 1, 1), (13, .putfield 301, 3), (16, .aload_n 0, 1), (17, .sipush 160, 3), (20, .aload_n 0, 1), (21, .getfield 301, 3), (24, .imul, 1), (25, .putfield 288, 3), (28, .aload_n 0, 1), (29, .aload_n 0, 1)]
set_option maxRecDepth 100000 in
theorem xi_ok276_0 : xi_ok cX12_look xi_276_0 = true := by decide +kernel
def xi_276_1 : XIs := [(30, .getfield 7, 3), (33, .aload_n 0, 1), (34, .getfield 301, 3), (37, .iaload, 1), (38, .putfield 285, 3), (41, .return_, 1)]
set_option maxRecDepth 100000 in
theorem xi_ok276_1 : xi_ok cX12_look xi_276_1 = true := by decide +kernel
def xi_276 (pc : Nat) : XIs := cond (Nat.blt pc 30) (xi_276_0) (xi_276_1)
theorem xi_ok276 (pc : Nat) : xi_ok cX12_look (xi_276 pc) = true := xi_c (xi_ok276_0) (xi_ok276_1)
def xi_277_0 : XIs := [(0, .iload_n 1, 1), (1, .ifCond .lt 17, 3), (4, .iload_n 1, 1), (5, .aload_n 0, 1), (6, .getfield 7, 3), (9, .iconst 0, 1), (10, .iaload, 1), (11, .if_icmp .ge 7, 3), (18, .iconst 0, 1), (19, .ireturn, 1)]
set_option maxRecDepth 100000 in
theorem xi_ok277_0 : xi_ok cX12_isNewNode xi_277_0 = true := by decide +kernel
def xi_277 (pc : Nat) : XIs := xi_277_0
theorem xi_ok277 (pc : Nat) : xi_ok cX12_isNewNode (xi_277 pc) = true := xi_ok277_0
def xi_278_0 : XIs := [(0, .iload_n 1, 1), (1, .ifCond .lt 23, 3), (4, .iload_n 1, 1), (5, .sipush 160, 3), (8, .if_icmp .ge 16, 3), (11, .aload_n 0, 1), (12, .getfield 16, 3), (15, .iload_n 1, 1), (16, .baload, 1), (17, .ifCond .eq 7, 3), (24, .iconst 0, 1), (25, .ireturn, 1)]
set_option maxRecDepth 100000 in
theorem xi_ok278_0 : xi_ok cX12_isNewArc xi_278_0 = true := by decide +kernel
def xi_278 (pc : Nat) : XIs := xi_278_0
theorem xi_ok278 (pc : Nat) : xi_ok cX12_isNewArc (xi_278 pc) = true := xi_ok278_0
def xi_279_0 : XIs := [(0, .iload_n 0, 1), (1, .i2l, 1), (2, .ldc2_w 304, 3), (5, .ldc2_w 306, 3), (8, .invokestatic 308, 3), (11, .ireturn, 1)]
set_option maxRecDepth 100000 in
theorem xi_ok279_0 : xi_ok cX12_isWeight xi_279_0 = true := by decide +kernel
def xi_279 (pc : Nat) : XIs := xi_279_0
theorem xi_ok279 (pc : Nat) : xi_ok cX12_isWeight (xi_279 pc) = true := xi_ok279_0
def xi_280 (pc : Nat) : XIs := []
theorem xi_ok280 (pc : Nat) : xi_ok cX12_freePlace (xi_280 pc) = true := rfl
def xi_281_0 : XIs := [(0, .aload_n 0, 1), (1, .iload_n 1, 1), (2, .i2l, 1), (3, .lconst 0, 1), (4, .ldc2_w 312, 3), (7, .invokestatic 308, 3), (10, .aload_n 0, 1), (11, .getfield 7, 3), (14, .iconst 0, 1), (15, .iaload, 1), (16, .bipush 32, 2), (18, .if_icmp .ge 17, 3), (21, .aload_n 0, 1), (22, .getfield 291, 3), (25, .sipush 4000, 3), (28, .if_icmp .ge 7, 3)]
set_option maxRecDepth 100000 in
theorem xi_ok281_0 : xi_ok cX12_node xi_281_0 = true := by decide +kernel
def xi_281_1 : XIs := [(31, .iconst 1, 1), (32, .goto 4, 3), (36, .invokevirtual 281, 3), (39, .ifCond .eq 5, 3), (42, .iconst 0, 1), (43, .ireturn, 1), (44, .aload_n 0, 1), (45, .iconst 0, 1), (46, .iload_n 1, 1), (47, .iconst 0, 1), (48, .iconst 0, 1), (49, .iconst 0, 1), (50, .iconst 0, 1), (51, .iconst 0, 1), (52, .invokevirtual 314, 3), (55, .aload_n 0, 1)]
set_option maxRecDepth 100000 in
theorem xi_ok281_1 : xi_ok cX12_node xi_281_1 = true := by decide +kernel
def xi_281_2 : XIs := [(56, .getfield 7, 3), (59, .iconst 0, 1), (60, .iaload, 1), (61, .iconst 1, 1), (62, .isub, 1), (63, .ireturn, 1)]
set_option maxRecDepth 100000 in
theorem xi_ok281_2 : xi_ok cX12_node xi_281_2 = true := by decide +kernel
def xi_281 (pc : Nat) : XIs := cond (Nat.blt pc 31) (xi_281_0) (cond (Nat.blt pc 56) (xi_281_1) (xi_281_2))
theorem xi_ok281 (pc : Nat) : xi_ok cX12_node (xi_281 pc) = true := xi_c (xi_ok281_0) (xi_c (xi_ok281_1) (xi_ok281_2))
def xi_282_0 : XIs := [(0, .aload_n 0, 1), (1, .aload_n 0, 1), (2, .iload_n 1, 1), (3, .invokevirtual 318, 3), (6, .ifCond .eq 48, 3), (54, .iconst 0, 1), (55, .aload_n 0, 1), (56, .getfield 291, 3), (59, .sipush 4000, 3), (62, .if_icmp .ge 7, 3), (65, .iconst 1, 1), (66, .goto 4, 3), (70, .invokevirtual 281, 3), (73, .ifCond .eq 5, 3), (76, .iconst 0, 1), (77, .ireturn, 1)]
set_option maxRecDepth 100000 in
theorem xi_ok282_0 : xi_ok cX12_arc xi_282_0 = true := by decide +kernel
def xi_282 (pc : Nat) : XIs := xi_282_0
theorem xi_ok282 (pc : Nat) : xi_ok cX12_arc (xi_282 pc) = true := xi_ok282_0
def xi_283_0 : XIs := [(0, .aload_n 0, 1), (1, .aload_n 0, 1), (2, .iload_n 1, 1), (3, .invokevirtual 329, 3), (6, .aload_n 0, 1), (7, .getfield 291, 3), (10, .sipush 4000, 3), (13, .if_icmp .ge 7, 3), (16, .iconst 1, 1), (17, .goto 4, 3), (21, .invokevirtual 281, 3), (24, .ifCond .eq 5, 3), (27, .iconst 0, 1), (28, .ireturn, 1)]
set_option maxRecDepth 100000 in
theorem xi_ok283_0 : xi_ok cX12_take xi_283_0 = true := by decide +kernel
def xi_283 (pc : Nat) : XIs := xi_283_0
theorem xi_ok283 (pc : Nat) : xi_ok cX12_take (xi_283 pc) = true := xi_ok283_0
def xi_284_0 : XIs := [(0, .iload_n 2, 1), (1, .ifCond .ne 10, 3), (4, .iload_n 3, 1), (5, .invokestatic 322, 3), (8, .goto 42, 3), (11, .iload_n 2, 1), (12, .iconst 1, 1), (13, .if_icmp .ne 15, 3), (16, .iload_n 3, 1), (17, .i2l, 1), (18, .lconst 0, 1), (19, .ldc2_w 306, 3), (22, .invokestatic 308, 3), (25, .goto 25, 3), (28, .iload_n 2, 1), (29, .iconst 2, 1)]
set_option maxRecDepth 100000 in
theorem xi_ok284_0 : xi_ok cX12_set xi_284_0 = true := by decide +kernel
def xi_284_1 : XIs := [(30, .if_icmp .ne 19, 3), (33, .iload_n 3, 1), (34, .i2l, 1), (35, .lconst 0, 1), (36, .ldc2_w 312, 3), (39, .invokestatic 308, 3), (42, .ifCond .eq 7, 3), (45, .iconst 1, 1), (46, .goto 4, 3), (49, .iconst 0, 1), (50, .istore 4, 2), (52, .aload_n 0, 1), (53, .aload_n 0, 1), (54, .iload_n 1, 1), (55, .invokevirtual 329, 3), (58, .ifCond .eq 12, 3)]
set_option maxRecDepth 100000 in
theorem xi_ok284_1 : xi_ok cX12_set xi_284_1 = true := by decide +kernel
def xi_284_2 : XIs := [(70, .iconst 0, 1), (71, .aload_n 0, 1), (72, .getfield 291, 3), (75, .sipush 4000, 3), (78, .if_icmp .ge 7, 3), (81, .iconst 1, 1), (82, .goto 4, 3), (86, .invokevirtual 281, 3), (89, .ifCond .eq 5, 3), (92, .iconst 0, 1), (93, .ireturn, 1)]
set_option maxRecDepth 100000 in
theorem xi_ok284_2 : xi_ok cX12_set xi_284_2 = true := by decide +kernel
def xi_284 (pc : Nat) : XIs := cond (Nat.blt pc 30) (xi_284_0) (cond (Nat.blt pc 70) (xi_284_1) (xi_284_2))
theorem xi_ok284 (pc : Nat) : xi_ok cX12_set (xi_284 pc) = true := xi_c (xi_ok284_0) (xi_c (xi_ok284_1) (xi_ok284_2))
def xi_285_0 : XIs := [(0, .aload_n 0, 1), (1, .aload_n 0, 1), (2, .iload_n 1, 1), (3, .invokevirtual 318, 3), (6, .ifCond .eq 19, 3), (25, .iconst 0, 1), (26, .aload_n 0, 1), (27, .getfield 291, 3), (30, .sipush 4000, 3), (33, .if_icmp .ge 7, 3), (36, .iconst 1, 1), (37, .goto 4, 3), (41, .invokevirtual 281, 3), (44, .ifCond .eq 5, 3), (47, .iconst 0, 1), (48, .ireturn, 1)]
set_option maxRecDepth 100000 in
theorem xi_ok285_0 : xi_ok cX12_label xi_285_0 = true := by decide +kernel
def xi_285 (pc : Nat) : XIs := xi_285_0
theorem xi_ok285 (pc : Nat) : xi_ok cX12_label (xi_285 pc) = true := xi_ok285_0
def xi_286_0 : XIs := [(0, .aload_n 0, 1), (1, .iload_n 1, 1), (2, .i2l, 1), (3, .ldc2_w 332, 3), (6, .aload_n 0, 1), (7, .getfield 291, 3), (10, .i2l, 1), (11, .invokestatic 308, 3), (14, .invokevirtual 334, 3), (17, .ifCond .eq 5, 3), (20, .iconst 0, 1), (21, .ireturn, 1), (22, .aload_n 0, 1), (23, .iload_n 1, 1), (24, .putfield 56, 3), (27, .iload_n 1, 1)]
set_option maxRecDepth 100000 in
theorem xi_ok286_0 : xi_ok cX12_view xi_286_0 = true := by decide +kernel
def xi_286_1 : XIs := [(28, .ifCond .lt 55, 3), (31, .aload_n 0, 1), (32, .getfield 7, 3), (35, .iconst 1, 1), (36, .iconst 0, 1), (37, .iastore, 1), (38, .iconst 0, 1), (39, .istore_n 2, 1), (40, .iload_n 2, 1), (41, .sipush 160, 3), (44, .if_icmp .ge 20, 3), (47, .aload_n 0, 1), (48, .getfield 16, 3), (51, .sipush 160, 3), (54, .iload_n 2, 1), (55, .iadd, 1)]
set_option maxRecDepth 100000 in
theorem xi_ok286_1 : xi_ok cX12_view xi_286_1 = true := by decide +kernel
