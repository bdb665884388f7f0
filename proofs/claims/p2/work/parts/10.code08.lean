def xi_183_0 : XIs := [(0, .iconst 0, 1), (1, .istore_n 3, 1), (2, .aload_n 0, 1), (3, .getfield 31, 3), (6, .iconst (-1), 1), (7, .invokestatic 96, 3), (10, .aload_n 0, 1), (11, .getfield 28, 3), (14, .iconst (-1), 1), (15, .invokestatic 96, 3), (18, .iconst 0, 1), (19, .istore 4, 2), (21, .iload 4, 2), (23, .iload_n 1, 1), (24, .if_icmp .ge 138, 3), (27, .iload 4, 2)]
set_option maxRecDepth 100000 in
theorem xi_ok183_0 : xi_ok cX9_nameRings xi_183_0 = true := by decide +kernel
def xi_183_1 : XIs := [(29, .istore 5, 2), (31, .iconst 0, 1), (32, .istore 6, 2), (34, .iload 6, 2), (36, .iload_n 1, 1), (37, .if_icmp .gt 44, 3), (40, .iload 5, 2), (42, .iload_n 2, 1), (43, .if_icmp .eq 38, 3), (46, .aload_n 0, 1), (47, .getfield 28, 3), (50, .iload 5, 2), (52, .iaload, 1), (53, .iconst (-1), 1), (54, .if_icmp .ne 27, 3), (57, .aload_n 0, 1)]
set_option maxRecDepth 100000 in
theorem xi_ok183_1 : xi_ok cX9_nameRings xi_183_1 = true := by decide +kernel
def xi_183_2 : XIs := [(58, .getfield 28, 3), (61, .iload 5, 2), (63, .iload 4, 2), (65, .iastore, 1), (66, .aload_n 0, 1), (67, .getfield 25, 3), (70, .iload 5, 2), (72, .iaload, 1), (73, .istore 5, 2), (75, .iinc 6 1, 3), (78, .goto (-44), 3), (81, .iload 5, 2), (83, .iload_n 2, 1), (84, .if_icmp .eq 72, 3), (87, .aload_n 0, 1), (88, .getfield 28, 3)]
set_option maxRecDepth 100000 in
theorem xi_ok183_2 : xi_ok cX9_nameRings xi_183_2 = true := by decide +kernel
def xi_183_3 : XIs := [(91, .iload 5, 2), (93, .iaload, 1), (94, .iload 4, 2), (96, .if_icmp .ne 60, 3), (99, .aload_n 0, 1), (100, .getfield 31, 3), (103, .iload 5, 2), (105, .iaload, 1), (106, .iconst (-1), 1), (107, .if_icmp .ne 49, 3), (110, .iconst 0, 1), (111, .istore 6, 2), (113, .iload 6, 2), (115, .iload_n 1, 1), (116, .if_icmp .ge 37, 3), (119, .aload_n 0, 1)]
set_option maxRecDepth 100000 in
theorem xi_ok183_3 : xi_ok cX9_nameRings xi_183_3 = true := by decide +kernel
def xi_183_4 : XIs := [(120, .getfield 31, 3), (123, .iload 5, 2), (125, .iaload, 1), (126, .iconst (-1), 1), (127, .if_icmp .ne 26, 3), (130, .aload_n 0, 1), (131, .getfield 31, 3), (134, .iload 5, 2), (136, .iload_n 3, 1), (137, .iastore, 1), (138, .aload_n 0, 1), (139, .getfield 25, 3), (142, .iload 5, 2), (144, .iaload, 1), (145, .istore 5, 2), (147, .iinc 6 1, 3)]
set_option maxRecDepth 100000 in
theorem xi_ok183_4 : xi_ok cX9_nameRings xi_183_4 = true := by decide +kernel
def xi_183_5 : XIs := [(150, .goto (-37), 3), (153, .iinc 3 1, 3), (156, .iinc 4 1, 3), (159, .goto (-138), 3), (162, .iload_n 3, 1), (163, .ireturn, 1)]
set_option maxRecDepth 100000 in
theorem xi_ok183_5 : xi_ok cX9_nameRings xi_183_5 = true := by decide +kernel
def xi_183 (pc : Nat) : XIs := cond (Nat.blt pc 91) (cond (Nat.blt pc 29) (xi_183_0) (cond (Nat.blt pc 58) (xi_183_1) (xi_183_2))) (cond (Nat.blt pc 120) (xi_183_3) (cond (Nat.blt pc 150) (xi_183_4) (xi_183_5)))
theorem xi_ok183 (pc : Nat) : xi_ok cX9_nameRings (xi_183 pc) = true := xi_c (xi_c (xi_ok183_0) (xi_c (xi_ok183_1) (xi_ok183_2))) (xi_c (xi_ok183_3) (xi_c (xi_ok183_4) (xi_ok183_5)))
def xi_184_0 : XIs := [(0, .iload_n 2, 1), (1, .istore_n 3, 1), (2, .iconst 0, 1), (3, .istore 4, 2), (5, .iload 4, 2), (7, .iload_n 1, 1), (8, .if_icmp .ge 31, 3), (11, .aload_n 0, 1), (12, .getfield 31, 3), (15, .iload 4, 2), (17, .iaload, 1), (18, .iconst (-1), 1), (19, .if_icmp .ne 14, 3), (22, .aload_n 0, 1), (23, .getfield 31, 3), (26, .iload 4, 2)]
set_option maxRecDepth 100000 in
theorem xi_ok184_0 : xi_ok cX9_nameOthers xi_184_0 = true := by decide +kernel
def xi_184_1 : XIs := [(28, .iload_n 3, 1), (29, .iastore, 1), (30, .iinc 3 1, 3), (33, .iinc 4 1, 3), (36, .goto (-31), 3), (39, .iload_n 3, 1), (40, .ireturn, 1)]
set_option maxRecDepth 100000 in
theorem xi_ok184_1 : xi_ok cX9_nameOthers xi_184_1 = true := by decide +kernel
def xi_184 (pc : Nat) : XIs := cond (Nat.blt pc 28) (xi_184_0) (xi_184_1)
theorem xi_ok184 (pc : Nat) : xi_ok cX9_nameOthers (xi_184 pc) = true := xi_c (xi_ok184_0) (xi_ok184_1)
def xi_185_0 : XIs := [(0, .iconst 0, 1), (1, .istore_n 1, 1), (2, .iload_n 1, 1), (3, .aload_n 0, 1), (4, .getfield 69, 3), (7, .if_icmp .ge 67, 3), (10, .aload_n 0, 1), (11, .getfield 15, 3), (14, .iload_n 1, 1), (15, .iaload, 1), (16, .istore_n 2, 1), (17, .aload_n 0, 1), (18, .getfield 9, 3), (21, .iload_n 1, 1), (22, .iaload, 1), (23, .istore_n 3, 1)]
set_option maxRecDepth 100000 in
theorem xi_ok185_0 : xi_ok cX9_shrinkRings xi_185_0 = true := by decide +kernel
def xi_185_1 : XIs := [(24, .iload_n 3, 1), (25, .iload_n 2, 1), (26, .if_icmp .eq 18, 3), (29, .aload_n 0, 1), (30, .getfield 18, 3), (33, .iload_n 1, 1), (34, .dup2, 1), (35, .laload, 1), (36, .aload_n 0, 1), (37, .getfield 22, 3), (40, .iload_n 2, 1), (41, .laload, 1), (42, .lsub, 1), (43, .lastore, 1), (44, .aload_n 0, 1), (45, .getfield 9, 3)]
set_option maxRecDepth 100000 in
theorem xi_ok185_1 : xi_ok cX9_shrinkRings xi_185_1 = true := by decide +kernel
def xi_185_2 : XIs := [(48, .iload_n 1, 1), (49, .aload_n 0, 1), (50, .getfield 31, 3), (53, .iload_n 3, 1), (54, .iaload, 1), (55, .iastore, 1), (56, .aload_n 0, 1), (57, .getfield 15, 3), (60, .iload_n 1, 1), (61, .aload_n 0, 1), (62, .getfield 31, 3), (65, .iload_n 2, 1), (66, .iaload, 1), (67, .iastore, 1), (68, .iinc 1 1, 3), (71, .goto (-69), 3)]
set_option maxRecDepth 100000 in
theorem xi_ok185_2 : xi_ok cX9_shrinkRings xi_185_2 = true := by decide +kernel
def xi_185_3 : XIs := [(74, .return_, 1)]
set_option maxRecDepth 100000 in
theorem xi_ok185_3 : xi_ok cX9_shrinkRings xi_185_3 = true := by decide +kernel
def xi_185 (pc : Nat) : XIs := cond (Nat.blt pc 48) (cond (Nat.blt pc 24) (xi_185_0) (xi_185_1)) (cond (Nat.blt pc 74) (xi_185_2) (xi_185_3))
theorem xi_ok185 (pc : Nat) : xi_ok cX9_shrinkRings (xi_185 pc) = true := xi_c (xi_c (xi_ok185_0) (xi_ok185_1)) (xi_c (xi_ok185_2) (xi_ok185_3))
def xi_186_0 : XIs := [(0, .aload_n 1, 1), (1, .iload_n 2, 1), (2, .invokevirtual 75, 3), (5, .ifCond .ne 5, 3), (8, .iconst 0, 1), (9, .ireturn, 1), (10, .aload_n 0, 1), (11, .getfield 34, 3), (14, .iconst 0, 1), (15, .invokestatic 96, 3), (18, .iconst 0, 1), (19, .istore_n 3, 1), (20, .iload_n 3, 1), (21, .aload_n 1, 1), (22, .getfield 72, 3), (25, .if_icmp .ge 70, 3)]
set_option maxRecDepth 100000 in
theorem xi_ok186_0 : xi_ok cX9_isSpanning xi_186_0 = true := by decide +kernel
def xi_186_1 : XIs := [(28, .aload_n 1, 1), (29, .iload_n 3, 1), (30, .invokevirtual 75, 3), (33, .ifCond .eq 56, 3), (36, .aload_n 1, 1), (37, .iload_n 3, 1), (38, .iload_n 2, 1), (39, .invokestatic 99, 3), (42, .ifCond .eq 47, 3), (45, .aload_n 0, 1), (46, .getfield 34, 3), (49, .aload_n 1, 1), (50, .getfield 79, 3), (53, .iload_n 3, 1), (54, .iaload, 1), (55, .dup2, 1)]
set_option maxRecDepth 100000 in
theorem xi_ok186_1 : xi_ok cX9_isSpanning xi_186_1 = true := by decide +kernel
def xi_186_2 : XIs := [(56, .iaload, 1), (57, .iconst 1, 1), (58, .aload_n 1, 1), (59, .getfield 82, 3), (62, .iload_n 3, 1), (63, .iaload, 1), (64, .ishl, 1), (65, .ior, 1), (66, .iastore, 1), (67, .aload_n 0, 1), (68, .getfield 34, 3), (71, .aload_n 1, 1), (72, .getfield 82, 3), (75, .iload_n 3, 1), (76, .iaload, 1), (77, .dup2, 1)]
set_option maxRecDepth 100000 in
theorem xi_ok186_2 : xi_ok cX9_isSpanning xi_186_2 = true := by decide +kernel
def xi_186_3 : XIs := [(78, .iaload, 1), (79, .iconst 1, 1), (80, .aload_n 1, 1), (81, .getfield 79, 3), (84, .iload_n 3, 1), (85, .iaload, 1), (86, .ishl, 1), (87, .ior, 1), (88, .iastore, 1), (89, .iinc 3 1, 3), (92, .goto (-72), 3), (95, .aload_n 0, 1), (96, .getfield 34, 3), (99, .iconst 1, 1), (100, .aload_n 1, 1), (101, .getfield 79, 3)]
set_option maxRecDepth 100000 in
theorem xi_ok186_3 : xi_ok cX9_isSpanning xi_186_3 = true := by decide +kernel
def xi_186_4 : XIs := [(104, .iload_n 2, 1), (105, .iaload, 1), (106, .ishl, 1), (107, .iconst (-1), 1), (108, .invokestatic 103, 3), (111, .aload_n 1, 1), (112, .getfield 82, 3), (115, .iload_n 2, 1), (116, .iaload, 1), (117, .ishr, 1), (118, .iconst 1, 1), (119, .iand, 1), (120, .ifCond .ne 7, 3), (123, .iconst 1, 1), (124, .goto 4, 3), (127, .iconst 0, 1)]
set_option maxRecDepth 100000 in
theorem xi_ok186_4 : xi_ok cX9_isSpanning xi_186_4 = true := by decide +kernel
def xi_186_5 : XIs := [(128, .ireturn, 1)]
set_option maxRecDepth 100000 in
theorem xi_ok186_5 : xi_ok cX9_isSpanning xi_186_5 = true := by decide +kernel
def xi_186 (pc : Nat) : XIs := cond (Nat.blt pc 78) (cond (Nat.blt pc 28) (xi_186_0) (cond (Nat.blt pc 56) (xi_186_1) (xi_186_2))) (cond (Nat.blt pc 104) (xi_186_3) (cond (Nat.blt pc 128) (xi_186_4) (xi_186_5)))
theorem xi_ok186 (pc : Nat) : xi_ok cX9_isSpanning (xi_186 pc) = true := xi_c (xi_c (xi_ok186_0) (xi_c (xi_ok186_1) (xi_ok186_2))) (xi_c (xi_ok186_3) (xi_c (xi_ok186_4) (xi_ok186_5)))
def xi_187_0 : XIs := [(0, .aload_n 0, 1), (1, .getfield 85, 3), (4, .iload_n 1, 1), (5, .iaload, 1), (6, .aload_n 0, 1), (7, .getfield 85, 3), (10, .iload_n 2, 1), (11, .iaload, 1), (12, .if_icmp .lt 23, 3), (15, .aload_n 0, 1), (16, .getfield 85, 3), (19, .iload_n 1, 1), (20, .iaload, 1), (21, .aload_n 0, 1), (22, .getfield 85, 3), (25, .iload_n 2, 1)]
set_option maxRecDepth 100000 in
theorem xi_ok187_0 : xi_ok cX9_isBefore xi_187_0 = true := by decide +kernel
def xi_187_1 : XIs := [(26, .iaload, 1), (27, .if_icmp .ne 12, 3), (30, .iload_n 1, 1), (31, .iload_n 2, 1), (32, .if_icmp .ge 7, 3), (35, .iconst 1, 1), (36, .goto 4, 3), (39, .iconst 0, 1), (40, .ireturn, 1)]
set_option maxRecDepth 100000 in
theorem xi_ok187_1 : xi_ok cX9_isBefore xi_187_1 = true := by decide +kernel
def xi_187 (pc : Nat) : XIs := cond (Nat.blt pc 26) (xi_187_0) (xi_187_1)
theorem xi_ok187 (pc : Nat) : xi_ok cX9_isBefore (xi_187 pc) = true := xi_c (xi_ok187_0) (xi_ok187_1)
def xi_188_0 : XIs := [(0, .aload_n 0, 1), (1, .getfield 37, 3), (4, .aload_n 1, 1), (5, .getfield 107, 3), (8, .if_icmp .eq 31, 3), (11, .aload_n 0, 1), (12, .aload_n 1, 1), (13, .getfield 107, 3), (16, .putfield 37, 3), (19, .aload_n 0, 1), (20, .aload_n 1, 1), (21, .getfield 48, 3), (24, .ifCond .ne 7, 3), (27, .iconst 0, 1), (28, .goto 8, 3), (31, .aload_n 0, 1)]
set_option maxRecDepth 100000 in
theorem xi_ok188_0 : xi_ok cX9_countSpanning xi_188_0 = true := by decide +kernel
def xi_188_1 : XIs := [(32, .aload_n 1, 1), (33, .invokevirtual 110, 3), (36, .putfield 114, 3), (39, .aload_n 0, 1), (40, .getfield 114, 3), (43, .ireturn, 1)]
set_option maxRecDepth 100000 in
theorem xi_ok188_1 : xi_ok cX9_countSpanning xi_188_1 = true := by decide +kernel
def xi_188 (pc : Nat) : XIs := cond (Nat.blt pc 32) (xi_188_0) (xi_188_1)
theorem xi_ok188 (pc : Nat) : xi_ok cX9_countSpanning (xi_188 pc) = true := xi_c (xi_ok188_0) (xi_ok188_1)
def xi_189_0 : XIs := [(0, .aload_n 0, 1), (1, .getfield 41, 3), (4, .lconst 0, 1), (5, .invokestatic 90, 3), (8, .iconst 0, 1), (9, .istore_n 2, 1), (10, .iload_n 2, 1), (11, .aload_n 1, 1), (12, .getfield 72, 3), (15, .if_icmp .ge 117, 3), (18, .aload_n 1, 1), (19, .iload_n 2, 1), (20, .invokevirtual 75, 3), (23, .ifCond .eq 103, 3), (26, .aload_n 0, 1), (27, .getfield 41, 3)]
set_option maxRecDepth 100000 in
theorem xi_ok189_0 : xi_ok cX9_countTrees xi_189_0 = true := by decide +kernel
def xi_189_1 : XIs := [(30, .aload_n 1, 1), (31, .getfield 79, 3), (34, .iload_n 2, 1), (35, .iaload, 1), (36, .bipush 32, 2), (38, .imul, 1), (39, .aload_n 1, 1), (40, .getfield 79, 3), (43, .iload_n 2, 1), (44, .iaload, 1), (45, .iadd, 1), (46, .dup2, 1), (47, .laload, 1), (48, .lconst 1, 1), (49, .ladd, 1), (50, .lastore, 1)]
set_option maxRecDepth 100000 in
theorem xi_ok189_1 : xi_ok cX9_countTrees xi_189_1 = true := by decide +kernel
def xi_189_2 : XIs := [(51, .aload_n 0, 1), (52, .getfield 41, 3), (55, .aload_n 1, 1), (56, .getfield 82, 3), (59, .iload_n 2, 1), (60, .iaload, 1), (61, .bipush 32, 2), (63, .imul, 1), (64, .aload_n 1, 1), (65, .getfield 82, 3), (68, .iload_n 2, 1), (69, .iaload, 1), (70, .iadd, 1), (71, .dup2, 1), (72, .laload, 1), (73, .lconst 1, 1)]
set_option maxRecDepth 100000 in
theorem xi_ok189_2 : xi_ok cX9_countTrees xi_189_2 = true := by decide +kernel
def xi_189_3 : XIs := [(74, .ladd, 1), (75, .lastore, 1), (76, .aload_n 0, 1), (77, .getfield 41, 3), (80, .aload_n 1, 1), (81, .getfield 79, 3), (84, .iload_n 2, 1), (85, .iaload, 1), (86, .bipush 32, 2), (88, .imul, 1), (89, .aload_n 1, 1), (90, .getfield 82, 3), (93, .iload_n 2, 1), (94, .iaload, 1), (95, .iadd, 1), (96, .dup2, 1)]
set_option maxRecDepth 100000 in
theorem xi_ok189_3 : xi_ok cX9_countTrees xi_189_3 = true := by decide +kernel
def xi_189_4 : XIs := [(97, .laload, 1), (98, .lconst 1, 1), (99, .lsub, 1), (100, .lastore, 1), (101, .aload_n 0, 1), (102, .getfield 41, 3), (105, .aload_n 1, 1), (106, .getfield 82, 3), (109, .iload_n 2, 1), (110, .iaload, 1), (111, .bipush 32, 2), (113, .imul, 1), (114, .aload_n 1, 1), (115, .getfield 79, 3), (118, .iload_n 2, 1), (119, .iaload, 1)]
set_option maxRecDepth 100000 in
theorem xi_ok189_4 : xi_ok cX9_countTrees xi_189_4 = true := by decide +kernel
def xi_189_5 : XIs := [(120, .iadd, 1), (121, .dup2, 1), (122, .laload, 1), (123, .lconst 1, 1), (124, .lsub, 1), (125, .lastore, 1), (126, .iinc 2 1, 3), (129, .goto (-119), 3), (132, .iconst 0, 1), (133, .istore_n 2, 1), (134, .iload_n 2, 1), (135, .aload_n 0, 1), (136, .getfield 41, 3), (139, .arraylength, 1), (140, .if_icmp .ge 27, 3), (143, .aload_n 0, 1)]
set_option maxRecDepth 100000 in
theorem xi_ok189_5 : xi_ok cX9_countTrees xi_189_5 = true := by decide +kernel
def xi_189_6 : XIs := [(144, .getfield 41, 3), (147, .iload_n 2, 1), (148, .aload_n 0, 1), (149, .getfield 41, 3), (152, .iload_n 2, 1), (153, .laload, 1), (154, .ldc2_w 117, 3), (157, .invokestatic 119, 3), (160, .lastore, 1), (161, .iinc 2 1, 3), (164, .goto (-30), 3), (167, .aload_n 1, 1), (168, .getfield 48, 3), (171, .iconst 1, 1), (172, .isub, 1), (173, .istore_n 2, 1)]
set_option maxRecDepth 100000 in
theorem xi_ok189_6 : xi_ok cX9_countTrees xi_189_6 = true := by decide +kernel
def xi_189_7 : XIs := [(174, .lconst 1, 1), (175, .lstore_n 3, 1), (176, .iconst 0, 1), (177, .istore 5, 2), (179, .iload 5, 2), (181, .iload_n 2, 1), (182, .if_icmp .ge 29, 3), (185, .lload_n 3, 1), (186, .lconst 0, 1), (187, .lcmp, 1), (188, .ifCond .eq 23, 3), (191, .lload_n 3, 1), (192, .aload_n 0, 1), (193, .iload 5, 2), (195, .iload_n 2, 1), (196, .invokevirtual 125, 3)]
set_option maxRecDepth 100000 in
theorem xi_ok189_7 : xi_ok cX9_countTrees xi_189_7 = true := by decide +kernel
def xi_189_8 : XIs := [(199, .lmul, 1), (200, .ldc2_w 117, 3), (203, .lrem, 1), (204, .lstore_n 3, 1), (205, .iinc 5 1, 3), (208, .goto (-29), 3), (211, .lload_n 3, 1), (212, .l2i, 1), (213, .ireturn, 1)]
set_option maxRecDepth 100000 in
theorem xi_ok189_8 : xi_ok cX9_countTrees xi_189_8 = true := by decide +kernel
def xi_189 (pc : Nat) : XIs := cond (Nat.blt pc 97) (cond (Nat.blt pc 51) (cond (Nat.blt pc 30) (xi_189_0) (xi_189_1)) (cond (Nat.blt pc 74) (xi_189_2) (xi_189_3))) (cond (Nat.blt pc 144) (cond (Nat.blt pc 120) (xi_189_4) (xi_189_5)) (cond (Nat.blt pc 174) (xi_189_6) (cond (Nat.blt pc 199) (xi_189_7) (xi_189_8))))
theorem xi_ok189 (pc : Nat) : xi_ok cX9_countTrees (xi_189 pc) = true := xi_c (xi_c (xi_c (xi_ok189_0) (xi_ok189_1)) (xi_c (xi_ok189_2) (xi_ok189_3))) (xi_c (xi_c (xi_ok189_4) (xi_ok189_5)) (xi_c (xi_ok189_6) (xi_c (xi_ok189_7) (xi_ok189_8))))
def xi_190_0 : XIs := [(0, .iload_n 1, 1), (1, .istore_n 3, 1), (2, .iload_n 3, 1), (3, .iload_n 2, 1), (4, .if_icmp .ge 25, 3), (7, .aload_n 0, 1), (8, .getfield 41, 3), (11, .iload_n 3, 1), (12, .bipush 32, 2), (14, .imul, 1), (15, .iload_n 1, 1), (16, .iadd, 1), (17, .laload, 1), (18, .lconst 0, 1), (19, .lcmp, 1), (20, .ifCond .ne 9, 3)]
set_option maxRecDepth 100000 in
theorem xi_ok190_0 : xi_ok cX9_pivot xi_190_0 = true := by decide +kernel
def xi_190_1 : XIs := [(23, .iinc 3 1, 3), (26, .goto (-24), 3), (29, .iload_n 3, 1), (30, .iload_n 2, 1), (31, .if_icmp .lt 5, 3), (34, .lconst 0, 1), (35, .lreturn, 1), (36, .iload_n 3, 1), (37, .iload_n 1, 1), (38, .if_icmp .eq 9, 3), (41, .aload_n 0, 1), (42, .iload_n 3, 1), (43, .iload_n 1, 1), (44, .invokevirtual 129, 3), (47, .aload_n 0, 1), (48, .getfield 41, 3)]
set_option maxRecDepth 100000 in
theorem xi_ok190_1 : xi_ok cX9_pivot xi_190_1 = true := by decide +kernel
def xi_190_2 : XIs := [(51, .iload_n 1, 1), (52, .bipush 32, 2), (54, .imul, 1), (55, .iload_n 1, 1), (56, .iadd, 1), (57, .laload, 1), (58, .lstore 4, 2), (60, .lload 4, 2), (62, .ldc2_w 133, 3), (65, .invokestatic 135, 3), (68, .lstore 6, 2), (70, .iload_n 1, 1), (71, .iconst 1, 1), (72, .iadd, 1), (73, .istore 8, 2), (75, .iload 8, 2)]
set_option maxRecDepth 100000 in
theorem xi_ok190_2 : xi_ok cX9_pivot xi_190_2 = true := by decide +kernel
def xi_190_3 : XIs := [(77, .iload_n 2, 1), (78, .if_icmp .ge 102, 3), (81, .ldc2_w 117, 3), (84, .aload_n 0, 1), (85, .getfield 41, 3), (88, .iload 8, 2), (90, .bipush 32, 2), (92, .imul, 1), (93, .iload_n 1, 1), (94, .iadd, 1), (95, .laload, 1), (96, .lsub, 1), (97, .lload 6, 2), (99, .lmul, 1), (100, .ldc2_w 117, 3), (103, .lrem, 1)]
set_option maxRecDepth 100000 in
theorem xi_ok190_3 : xi_ok cX9_pivot xi_190_3 = true := by decide +kernel
def xi_190_4 : XIs := [(104, .lstore 9, 2), (106, .iload_n 1, 1), (107, .istore 11, 2), (109, .iload 11, 2), (111, .iload_n 2, 1), (112, .if_icmp .ge 62, 3), (115, .lload 9, 2), (117, .lconst 0, 1), (118, .lcmp, 1), (119, .ifCond .eq 55, 3), (122, .aload_n 0, 1), (123, .getfield 41, 3), (126, .iload 8, 2), (128, .bipush 32, 2), (130, .imul, 1), (131, .iload 11, 2)]
set_option maxRecDepth 100000 in
theorem xi_ok190_4 : xi_ok cX9_pivot xi_190_4 = true := by decide +kernel
def xi_190_5 : XIs := [(133, .iadd, 1), (134, .aload_n 0, 1), (135, .getfield 41, 3), (138, .iload 8, 2), (140, .bipush 32, 2), (142, .imul, 1), (143, .iload 11, 2), (145, .iadd, 1), (146, .laload, 1), (147, .lload 9, 2), (149, .aload_n 0, 1), (150, .getfield 41, 3), (153, .iload_n 1, 1), (154, .bipush 32, 2), (156, .imul, 1), (157, .iload 11, 2)]
set_option maxRecDepth 100000 in
theorem xi_ok190_5 : xi_ok cX9_pivot xi_190_5 = true := by decide +kernel
def xi_190_6 : XIs := [(159, .iadd, 1), (160, .laload, 1), (161, .lmul, 1), (162, .ladd, 1), (163, .ldc2_w 117, 3), (166, .lrem, 1), (167, .lastore, 1), (168, .iinc 11 1, 3), (171, .goto (-62), 3), (174, .iinc 8 1, 3), (177, .goto (-102), 3), (180, .iload_n 3, 1), (181, .iload_n 1, 1), (182, .if_icmp .ne 8, 3), (185, .lload 4, 2), (187, .goto 9, 3)]
set_option maxRecDepth 100000 in
theorem xi_ok190_6 : xi_ok cX9_pivot xi_190_6 = true := by decide +kernel
def xi_190_7 : XIs := [(190, .ldc2_w 117, 3), (193, .lload 4, 2), (195, .lsub, 1), (196, .lreturn, 1)]
set_option maxRecDepth 100000 in
theorem xi_ok190_7 : xi_ok cX9_pivot xi_190_7 = true := by decide +kernel
def xi_190 (pc : Nat) : XIs := cond (Nat.blt pc 104) (cond (Nat.blt pc 51) (cond (Nat.blt pc 23) (xi_190_0) (xi_190_1)) (cond (Nat.blt pc 77) (xi_190_2) (xi_190_3))) (cond (Nat.blt pc 159) (cond (Nat.blt pc 133) (xi_190_4) (xi_190_5)) (cond (Nat.blt pc 190) (xi_190_6) (xi_190_7)))
theorem xi_ok190 (pc : Nat) : xi_ok cX9_pivot (xi_190 pc) = true := xi_c (xi_c (xi_c (xi_ok190_0) (xi_ok190_1)) (xi_c (xi_ok190_2) (xi_ok190_3))) (xi_c (xi_c (xi_ok190_4) (xi_ok190_5)) (xi_c (xi_ok190_6) (xi_ok190_7)))
def xi_191_0 : XIs := [(0, .iconst 0, 1), (1, .istore_n 3, 1), (2, .iload_n 3, 1), (3, .bipush 32, 2), (5, .if_icmp .ge 57, 3), (8, .aload_n 0, 1), (9, .getfield 41, 3), (12, .iload_n 1, 1), (13, .bipush 32, 2), (15, .imul, 1), (16, .iload_n 3, 1), (17, .iadd, 1), (18, .laload, 1), (19, .lstore 4, 2), (21, .aload_n 0, 1), (22, .getfield 41, 3)]
set_option maxRecDepth 100000 in
theorem xi_ok191_0 : xi_ok cX9_swapRows xi_191_0 = true := by decide +kernel
def xi_191_1 : XIs := [(25, .iload_n 1, 1), (26, .bipush 32, 2), (28, .imul, 1), (29, .iload_n 3, 1), (30, .iadd, 1), (31, .aload_n 0, 1), (32, .getfield 41, 3), (35, .iload_n 2, 1), (36, .bipush 32, 2), (38, .imul, 1), (39, .iload_n 3, 1), (40, .iadd, 1), (41, .laload, 1), (42, .lastore, 1), (43, .aload_n 0, 1), (44, .getfield 41, 3)]
set_option maxRecDepth 100000 in
theorem xi_ok191_1 : xi_ok cX9_swapRows xi_191_1 = true := by decide +kernel
def xi_191_2 : XIs := [(47, .iload_n 2, 1), (48, .bipush 32, 2), (50, .imul, 1), (51, .iload_n 3, 1), (52, .iadd, 1), (53, .lload 4, 2), (55, .lastore, 1), (56, .iinc 3 1, 3), (59, .goto (-57), 3), (62, .return_, 1)]
set_option maxRecDepth 100000 in
theorem xi_ok191_2 : xi_ok cX9_swapRows xi_191_2 = true := by decide +kernel
def xi_191 (pc : Nat) : XIs := cond (Nat.blt pc 25) (xi_191_0) (cond (Nat.blt pc 47) (xi_191_1) (xi_191_2))
theorem xi_ok191 (pc : Nat) : xi_ok cX9_swapRows (xi_191 pc) = true := xi_c (xi_ok191_0) (xi_c (xi_ok191_1) (xi_ok191_2))
def xi_192_0 : XIs := [(0, .lconst 1, 1), (1, .lstore 4, 2), (3, .lload_n 0, 1), (4, .lstore 6, 2), (6, .lload_n 2, 1), (7, .lstore 8, 2), (9, .lload 8, 2), (11, .lconst 0, 1), (12, .lcmp, 1), (13, .ifCond .le 43, 3), (16, .lload 8, 2), (18, .lconst 1, 1), (19, .land, 1), (20, .lconst 0, 1), (21, .lcmp, 1), (22, .ifCond .eq 14, 3)]
set_option maxRecDepth 100000 in
theorem xi_ok192_0 : xi_ok cX9_power xi_192_0 = true := by decide +kernel
def xi_192_1 : XIs := [(25, .lload 4, 2), (27, .lload 6, 2), (29, .lmul, 1), (30, .ldc2_w 117, 3), (33, .lrem, 1), (34, .lstore 4, 2), (36, .lload 6, 2), (38, .lload 6, 2), (40, .lmul, 1), (41, .ldc2_w 117, 3), (44, .lrem, 1), (45, .lstore 6, 2), (47, .lload 8, 2), (49, .iconst 1, 1), (50, .lshr, 1), (51, .lstore 8, 2)]
set_option maxRecDepth 100000 in
theorem xi_ok192_1 : xi_ok cX9_power xi_192_1 = true := by decide +kernel
def xi_192_2 : XIs := [(53, .goto (-44), 3), (56, .lload 4, 2), (58, .lreturn, 1)]
set_option maxRecDepth 100000 in
theorem xi_ok192_2 : xi_ok cX9_power xi_192_2 = true := by decide +kernel
def xi_192 (pc : Nat) : XIs := cond (Nat.blt pc 25) (xi_192_0) (cond (Nat.blt pc 53) (xi_192_1) (xi_192_2))
theorem xi_ok192 (pc : Nat) : xi_ok cX9_power (xi_192 pc) = true := xi_c (xi_ok192_0) (xi_c (xi_ok192_1) (xi_ok192_2))
def xi_193_0 : XIs := [(0, .aload_n 0, 1), (1, .invokespecial 3, 3), (4, .aload_n 0, 1), (5, .iconst (-1), 1), (6, .putfield 9, 3), (9, .aload_n 0, 1), (10, .bipush 32, 2), (12, .newarray .long, 2), (14, .putfield 15, 3), (17, .aload_n 0, 1), (18, .bipush 32, 2), (20, .newarray .int, 2), (22, .putfield 19, 3), (25, .aload_n 0, 1), (26, .bipush 32, 2), (28, .newarray .int, 2)]
set_option maxRecDepth 100000 in
theorem xi_ok193_0 : xi_ok cX10_init xi_193_0 = true := by decide +kernel
def xi_193_1 : XIs := [(30, .putfield 23, 3), (33, .aload_n 0, 1), (34, .bipush 32, 2), (36, .newarray .long, 2), (38, .putfield 26, 3), (41, .aload_n 0, 1), (42, .bipush 32, 2), (44, .newarray .int, 2), (46, .putfield 29, 3), (49, .aload_n 0, 1), (50, .iconst (-1), 1), (51, .putfield 32, 3), (54, .aload_n 0, 1), (55, .sipush 2001, 3), (58, .newarray .long, 2), (60, .putfield 35, 3)]
set_option maxRecDepth 100000 in
theorem xi_ok193_1 : xi_ok cX10_init xi_193_1 = true := by decide +kernel
def xi_193_2 : XIs := [(63, .return_, 1)]
set_option maxRecDepth 100000 in
theorem xi_ok193_2 : xi_ok cX10_init xi_193_2 = true := by decide +kernel
def xi_193 (pc : Nat) : XIs := cond (Nat.blt pc 30) (xi_193_0) (cond (Nat.blt pc 63) (xi_193_1) (xi_193_2))
theorem xi_ok193 (pc : Nat) : xi_ok cX10_init (xi_193 pc) = true := xi_c (xi_ok193_0) (xi_c (xi_ok193_1) (xi_ok193_2))
def xi_194_0 : XIs := [(0, .aload_n 0, 1), (1, .aload_n 1, 1), (2, .iload_n 3, 1), (3, .invokevirtual 38, 3), (6, .aload_n 0, 1), (7, .getfield 42, 3), (10, .iload_n 2, 1), (11, .ishr, 1), (12, .iconst 1, 1), (13, .iand, 1), (14, .ifCond .eq 7, 3), (17, .ldc2_w 45, 3), (20, .lreturn, 1), (21, .aload_n 0, 1), (22, .getfield 15, 3), (25, .iload_n 2, 1)]
set_option maxRecDepth 100000 in
theorem xi_ok194_0 : xi_ok cX10_leastWeight xi_194_0 = true := by decide +kernel
def xi_194_1 : XIs := [(26, .laload, 1), (27, .ldc2_w 47, 3), (30, .lcmp, 1), (31, .ifCond .ne 9, 3), (34, .ldc2_w 49, 3), (37, .goto 15, 3), (40, .aload_n 0, 1), (41, .getfield 15, 3), (44, .iload_n 2, 1), (45, .laload, 1), (46, .ldc2_w 51, 3), (49, .invokestatic 53, 3), (52, .lreturn, 1)]
set_option maxRecDepth 100000 in
theorem xi_ok194_1 : xi_ok cX10_leastWeight xi_194_1 = true := by decide +kernel
def xi_194 (pc : Nat) : XIs := cond (Nat.blt pc 26) (xi_194_0) (xi_194_1)
theorem xi_ok194 (pc : Nat) : xi_ok cX10_leastWeight (xi_194 pc) = true := xi_c (xi_ok194_0) (xi_ok194_1)
def xi_195_0 : XIs := [(0, .aload_n 0, 1), (1, .aload_n 1, 1), (2, .iload_n 3, 1), (3, .invokevirtual 38, 3), (6, .aload_n 0, 1), (7, .getfield 42, 3), (10, .iload_n 2, 1), (11, .ishr, 1), (12, .iconst 1, 1), (13, .iand, 1), (14, .ifCond .ne 35, 3), (17, .aload_n 0, 1), (18, .getfield 15, 3), (21, .iload_n 2, 1), (22, .laload, 1), (23, .ldc2_w 47, 3)]
set_option maxRecDepth 100000 in
theorem xi_ok195_0 : xi_ok cX10_leastArc xi_195_0 = true := by decide +kernel
def xi_195_1 : XIs := [(26, .lcmp, 1), (27, .ifCond .eq 22, 3), (30, .iload 4, 2), (32, .i2l, 1), (33, .aload_n 0, 1), (34, .getfield 15, 3), (37, .iload_n 2, 1), (38, .laload, 1), (39, .ldc2_w 51, 3), (42, .invokestatic 59, 3), (45, .lcmp, 1), (46, .ifCond .lt 5, 3), (49, .iconst (-1), 1), (50, .ireturn, 1), (51, .iconst (-1), 1), (52, .istore 5, 2)]
set_option maxRecDepth 100000 in
theorem xi_ok195_1 : xi_ok cX10_leastArc xi_195_1 = true := by decide +kernel
def xi_195_2 : XIs := [(54, .iload_n 2, 1), (55, .istore 6, 2), (57, .iconst 0, 1), (58, .istore 7, 2), (60, .iload 7, 2), (62, .iload 4, 2), (64, .if_icmp .gt 35, 3), (67, .aload_n 0, 1), (68, .aload_n 1, 1), (69, .iload 6, 2), (71, .invokevirtual 62, 3), (74, .istore 5, 2), (76, .iload 5, 2), (78, .iconst (-1), 1), (79, .if_icmp .ne 5, 3), (82, .iconst (-1), 1)]
set_option maxRecDepth 100000 in
theorem xi_ok195_2 : xi_ok cX10_leastArc xi_195_2 = true := by decide +kernel
def xi_195_3 : XIs := [(83, .ireturn, 1), (84, .aload_n 1, 1), (85, .getfield 66, 3), (88, .iload 5, 2), (90, .iaload, 1), (91, .istore 6, 2), (93, .iinc 7 1, 3), (96, .goto (-36), 3), (99, .iload 5, 2), (101, .ireturn, 1)]
set_option maxRecDepth 100000 in
theorem xi_ok195_3 : xi_ok cX10_leastArc xi_195_3 = true := by decide +kernel
def xi_195 (pc : Nat) : XIs := cond (Nat.blt pc 54) (cond (Nat.blt pc 26) (xi_195_0) (xi_195_1)) (cond (Nat.blt pc 83) (xi_195_2) (xi_195_3))
theorem xi_ok195 (pc : Nat) : xi_ok cX10_leastArc (xi_195 pc) = true := xi_c (xi_c (xi_ok195_0) (xi_ok195_1)) (xi_c (xi_ok195_2) (xi_ok195_3))
def xi_196_0 : XIs := [(0, .aload_n 1, 1), (1, .getfield 71, 3), (4, .iload_n 2, 1), (5, .iaload, 1), (6, .istore_n 3, 1), (7, .iload_n 3, 1), (8, .aload_n 1, 1), (9, .getfield 71, 3), (12, .iload_n 2, 1), (13, .iconst 1, 1), (14, .iadd, 1), (15, .iaload, 1), (16, .if_icmp .ge 68, 3), (19, .aload_n 1, 1), (20, .getfield 74, 3), (23, .iload_n 3, 1)]
set_option maxRecDepth 100000 in
theorem xi_ok196_0 : xi_ok cX10_stepFrom xi_196_0 = true := by decide +kernel
def xi_196_1 : XIs := [(24, .iaload, 1), (25, .istore 4, 2), (27, .aload_n 0, 1), (28, .getfield 15, 3), (31, .aload_n 1, 1), (32, .getfield 66, 3), (35, .iload 4, 2), (37, .iaload, 1), (38, .laload, 1), (39, .ldc2_w 47, 3), (42, .lcmp, 1), (43, .ifCond .eq 35, 3), (46, .aload_n 1, 1), (47, .iload 4, 2), (49, .invokestatic 77, 3), (52, .aload_n 0, 1)]
set_option maxRecDepth 100000 in
theorem xi_ok196_1 : xi_ok cX10_stepFrom xi_196_1 = true := by decide +kernel
def xi_196_2 : XIs := [(53, .getfield 15, 3), (56, .aload_n 1, 1), (57, .getfield 66, 3), (60, .iload 4, 2), (62, .iaload, 1), (63, .laload, 1), (64, .ladd, 1), (65, .aload_n 0, 1), (66, .getfield 15, 3), (69, .iload_n 2, 1), (70, .laload, 1), (71, .lcmp, 1), (72, .ifCond .ne 6, 3), (75, .iload 4, 2), (77, .ireturn, 1), (78, .iinc 3 1, 3)]
set_option maxRecDepth 100000 in
theorem xi_ok196_2 : xi_ok cX10_stepFrom xi_196_2 = true := by decide +kernel
def xi_196_3 : XIs := [(81, .goto (-74), 3), (84, .iconst (-1), 1), (85, .ireturn, 1)]
set_option maxRecDepth 100000 in
theorem xi_ok196_3 : xi_ok cX10_stepFrom xi_196_3 = true := by decide +kernel
def xi_196 (pc : Nat) : XIs := cond (Nat.blt pc 53) (cond (Nat.blt pc 24) (xi_196_0) (xi_196_1)) (cond (Nat.blt pc 81) (xi_196_2) (xi_196_3))
theorem xi_ok196 (pc : Nat) : xi_ok cX10_stepFrom (xi_196 pc) = true := xi_c (xi_c (xi_ok196_0) (xi_ok196_1)) (xi_c (xi_ok196_2) (xi_ok196_3))
def xi_197_0 : XIs := [(0, .aload_n 0, 1), (1, .getfield 81, 3), (4, .iload_n 1, 1), (5, .iaload, 1), (6, .i2l, 1), (7, .ldc2_w 51, 3), (10, .lmul, 1), (11, .lconst 1, 1), (12, .ladd, 1), (13, .lreturn, 1)]
set_option maxRecDepth 100000 in
theorem xi_ok197_0 : xi_ok cX10_costOf xi_197_0 = true := by decide +kernel
def xi_197 (pc : Nat) : XIs := xi_197_0
theorem xi_ok197 (pc : Nat) : xi_ok cX10_costOf (xi_197 pc) = true := xi_ok197_0
def xi_198_0 : XIs := [(0, .aload_n 1, 1), (1, .invokevirtual 84, 3), (4, .aload_n 0, 1), (5, .getfield 9, 3), (8, .aload_n 1, 1), (9, .getfield 87, 3), (12, .if_icmp .ne 12, 3), (15, .aload_n 0, 1), (16, .getfield 90, 3), (19, .iload_n 2, 1), (20, .if_icmp .ne 4, 3), (23, .return_, 1), (24, .aload_n 0, 1), (25, .aload_n 1, 1), (26, .getfield 87, 3), (29, .putfield 9, 3)]
set_option maxRecDepth 100000 in
theorem xi_ok198_0 : xi_ok cX10_measure xi_198_0 = true := by decide +kernel
def xi_198_1 : XIs := [(32, .aload_n 0, 1), (33, .iload_n 2, 1), (34, .putfield 90, 3), (37, .aload_n 0, 1), (38, .getfield 15, 3), (41, .ldc2_w 47, 3), (44, .invokestatic 93, 3), (47, .aload_n 0, 1), (48, .getfield 15, 3), (51, .iload_n 2, 1), (52, .lconst 0, 1), (53, .lastore, 1), (54, .iconst 1, 1), (55, .iload_n 2, 1), (56, .ishl, 1), (57, .istore_n 3, 1)]
set_option maxRecDepth 100000 in
theorem xi_ok198_1 : xi_ok cX10_measure xi_198_1 = true := by decide +kernel
def xi_198_2 : XIs := [(58, .iconst 0, 1), (59, .istore 4, 2), (61, .iload 4, 2), (63, .aload_n 1, 1), (64, .getfield 99, 3), (67, .if_icmp .ge 20, 3), (70, .iload_n 3, 1), (71, .ifCond .eq 16, 3), (74, .aload_n 0, 1), (75, .aload_n 1, 1), (76, .iload_n 3, 1), (77, .invokevirtual 102, 3), (80, .istore_n 3, 1), (81, .iinc 4 1, 3), (84, .goto (-23), 3), (87, .aload_n 0, 1)]
set_option maxRecDepth 100000 in
theorem xi_ok198_2 : xi_ok cX10_measure xi_198_2 = true := by decide +kernel
def xi_198_3 : XIs := [(88, .iload_n 3, 1), (89, .ifCond .ne 7, 3), (92, .iconst 0, 1), (93, .goto 17, 3), (96, .aload_n 1, 1), (97, .getfield 105, 3), (100, .aload_n 0, 1), (101, .aload_n 1, 1), (102, .iload_n 3, 1), (103, .invokevirtual 102, 3), (106, .iconst (-1), 1), (107, .invokestatic 108, 3), (110, .putfield 42, 3), (113, .return_, 1)]
set_option maxRecDepth 100000 in
theorem xi_ok198_3 : xi_ok cX10_measure xi_198_3 = true := by decide +kernel
def xi_198 (pc : Nat) : XIs := cond (Nat.blt pc 58) (cond (Nat.blt pc 32) (xi_198_0) (xi_198_1)) (cond (Nat.blt pc 88) (xi_198_2) (xi_198_3))
theorem xi_ok198 (pc : Nat) : xi_ok cX10_measure (xi_198 pc) = true := xi_c (xi_c (xi_ok198_0) (xi_ok198_1)) (xi_c (xi_ok198_2) (xi_ok198_3))
def xi_199_0 : XIs := [(0, .iconst 0, 1), (1, .istore_n 3, 1), (2, .iload_n 2, 1), (3, .istore 4, 2), (5, .iload 4, 2), (7, .ifCond .eq 122, 3), (10, .iload 4, 2), (12, .invokestatic 112, 3), (15, .istore 5, 2), (17, .aload_n 1, 1), (18, .getfield 116, 3), (21, .iload 5, 2), (23, .iaload, 1), (24, .istore 6, 2), (26, .iload 6, 2), (28, .aload_n 1, 1)]
set_option maxRecDepth 100000 in
theorem xi_ok199_0 : xi_ok cX10_relax xi_199_0 = true := by decide +kernel
def xi_199_1 : XIs := [(29, .getfield 116, 3), (32, .iload 5, 2), (34, .iconst 1, 1), (35, .iadd, 1), (36, .iaload, 1), (37, .if_icmp .ge 80, 3), (40, .aload_n 1, 1), (41, .getfield 119, 3), (44, .iload 6, 2), (46, .iaload, 1), (47, .istore 7, 2), (49, .aload_n 1, 1), (50, .getfield 122, 3), (53, .iload 7, 2), (55, .iaload, 1), (56, .istore 8, 2)]
set_option maxRecDepth 100000 in
theorem xi_ok199_1 : xi_ok cX10_relax xi_199_1 = true := by decide +kernel
def xi_199_2 : XIs := [(58, .aload_n 1, 1), (59, .iload 7, 2), (61, .invokestatic 77, 3), (64, .aload_n 0, 1), (65, .getfield 15, 3), (68, .iload 5, 2), (70, .laload, 1), (71, .ladd, 1), (72, .aload_n 0, 1), (73, .getfield 15, 3), (76, .iload 8, 2), (78, .laload, 1), (79, .lcmp, 1), (80, .ifCond .ge 31, 3), (83, .aload_n 0, 1), (84, .getfield 15, 3)]
set_option maxRecDepth 100000 in
theorem xi_ok199_2 : xi_ok cX10_relax xi_199_2 = true := by decide +kernel
def xi_199_3 : XIs := [(87, .iload 8, 2), (89, .aload_n 1, 1), (90, .iload 7, 2), (92, .invokestatic 77, 3), (95, .aload_n 0, 1), (96, .getfield 15, 3), (99, .iload 5, 2), (101, .laload, 1), (102, .ladd, 1), (103, .lastore, 1), (104, .iload_n 3, 1), (105, .iconst 1, 1), (106, .iload 8, 2), (108, .ishl, 1), (109, .ior, 1), (110, .istore_n 3, 1)]
set_option maxRecDepth 100000 in
theorem xi_ok199_3 : xi_ok cX10_relax xi_199_3 = true := by decide +kernel
def xi_199_4 : XIs := [(111, .iinc 6 1, 3), (114, .goto (-88), 3), (117, .iload 4, 2), (119, .iload 4, 2), (121, .iconst 1, 1), (122, .isub, 1), (123, .iand, 1), (124, .istore 4, 2), (126, .goto (-121), 3), (129, .iload_n 3, 1), (130, .ireturn, 1)]
set_option maxRecDepth 100000 in
theorem xi_ok199_4 : xi_ok cX10_relax xi_199_4 = true := by decide +kernel
def xi_199 (pc : Nat) : XIs := cond (Nat.blt pc 58) (cond (Nat.blt pc 29) (xi_199_0) (xi_199_1)) (cond (Nat.blt pc 87) (xi_199_2) (cond (Nat.blt pc 111) (xi_199_3) (xi_199_4)))
theorem xi_ok199 (pc : Nat) : xi_ok cX10_relax (xi_199 pc) = true := xi_c (xi_c (xi_ok199_0) (xi_ok199_1)) (xi_c (xi_ok199_2) (xi_c (xi_ok199_3) (xi_ok199_4)))
def xi_200_0 : XIs := [(0, .aload_n 1, 1), (1, .invokevirtual 84, 3), (4, .aload_n 0, 1), (5, .getfield 19, 3), (8, .iconst (-1), 1), (9, .invokestatic 125, 3), (12, .aload_n 0, 1), (13, .getfield 19, 3), (16, .iload_n 2, 1), (17, .ldc 128, 2), (19, .iastore, 1), (20, .aload_n 1, 1), (21, .invokevirtual 129, 3), (24, .istore 4, 2), (26, .iconst 0, 1), (27, .istore 5, 2)]
set_option maxRecDepth 100000 in
theorem xi_ok200_0 : xi_ok cX10_widest xi_200_0 = true := by decide +kernel
def xi_200_1 : XIs := [(29, .iload 5, 2), (31, .aload_n 1, 1), (32, .getfield 99, 3), (35, .if_icmp .ge 134, 3), (38, .aload_n 0, 1), (39, .iload 4, 2), (41, .invokevirtual 133, 3), (44, .istore 6, 2), (46, .iload 6, 2), (48, .iload_n 3, 1), (49, .if_icmp .eq 14, 3), (52, .aload_n 0, 1), (53, .getfield 19, 3), (56, .iload 6, 2), (58, .iaload, 1), (59, .iconst (-1), 1)]
set_option maxRecDepth 100000 in
theorem xi_ok200_1 : xi_ok cX10_widest xi_200_1 = true := by decide +kernel
def xi_200_2 : XIs := [(60, .if_icmp .ne 10, 3), (63, .aload_n 0, 1), (64, .getfield 19, 3), (67, .iload_n 3, 1), (68, .iaload, 1), (69, .ireturn, 1), (70, .iload 4, 2), (72, .iconst 1, 1), (73, .iload 6, 2), (75, .ishl, 1), (76, .iconst (-1), 1), (77, .ixor, 1), (78, .iand, 1), (79, .istore 4, 2), (81, .aload_n 1, 1), (82, .getfield 71, 3)]
set_option maxRecDepth 100000 in
theorem xi_ok200_2 : xi_ok cX10_widest xi_200_2 = true := by decide +kernel
def xi_200_3 : XIs := [(85, .iload 6, 2), (87, .iaload, 1), (88, .istore 7, 2), (90, .iload 7, 2), (92, .aload_n 1, 1), (93, .getfield 71, 3), (96, .iload 6, 2), (98, .iconst 1, 1), (99, .iadd, 1), (100, .iaload, 1), (101, .if_icmp .ge 62, 3), (104, .aload_n 1, 1), (105, .getfield 74, 3), (108, .iload 7, 2), (110, .iaload, 1), (111, .istore 8, 2)]
set_option maxRecDepth 100000 in
theorem xi_ok200_3 : xi_ok cX10_widest xi_200_3 = true := by decide +kernel
def xi_200_4 : XIs := [(113, .aload_n 0, 1), (114, .getfield 19, 3), (117, .aload_n 1, 1), (118, .getfield 66, 3), (121, .iload 8, 2), (123, .iaload, 1), (124, .aload_n 0, 1), (125, .getfield 19, 3), (128, .aload_n 1, 1), (129, .getfield 66, 3), (132, .iload 8, 2), (134, .iaload, 1), (135, .iaload, 1), (136, .aload_n 0, 1), (137, .getfield 19, 3), (140, .iload 6, 2)]
set_option maxRecDepth 100000 in
theorem xi_ok200_4 : xi_ok cX10_widest xi_200_4 = true := by decide +kernel
def xi_200_5 : XIs := [(142, .iaload, 1), (143, .aload_n 1, 1), (144, .getfield 136, 3), (147, .iload 8, 2), (149, .iaload, 1), (150, .invokestatic 139, 3), (153, .invokestatic 143, 3), (156, .iastore, 1), (157, .iinc 7 1, 3), (160, .goto (-70), 3), (163, .iinc 5 1, 3), (166, .goto (-137), 3), (169, .aload_n 0, 1), (170, .getfield 19, 3), (173, .iload_n 3, 1), (174, .iaload, 1)]
set_option maxRecDepth 100000 in
theorem xi_ok200_5 : xi_ok cX10_widest xi_200_5 = true := by decide +kernel
def xi_200_6 : XIs := [(175, .ireturn, 1)]
set_option maxRecDepth 100000 in
theorem xi_ok200_6 : xi_ok cX10_widest xi_200_6 = true := by decide +kernel
def xi_200 (pc : Nat) : XIs := cond (Nat.blt pc 85) (cond (Nat.blt pc 29) (xi_200_0) (cond (Nat.blt pc 60) (xi_200_1) (xi_200_2))) (cond (Nat.blt pc 142) (cond (Nat.blt pc 113) (xi_200_3) (xi_200_4)) (cond (Nat.blt pc 175) (xi_200_5) (xi_200_6)))
theorem xi_ok200 (pc : Nat) : xi_ok cX10_widest (xi_200 pc) = true := xi_c (xi_c (xi_ok200_0) (xi_c (xi_ok200_1) (xi_ok200_2))) (xi_c (xi_c (xi_ok200_3) (xi_ok200_4)) (xi_c (xi_ok200_5) (xi_ok200_6)))
def xi_201_0 : XIs := [(0, .iload_n 1, 1), (1, .invokestatic 112, 3), (4, .istore_n 2, 1), (5, .iload_n 1, 1), (6, .istore_n 3, 1), (7, .iload_n 3, 1), (8, .ifCond .eq 35, 3), (11, .aload_n 0, 1), (12, .getfield 19, 3), (15, .iload_n 3, 1), (16, .invokestatic 112, 3), (19, .iaload, 1), (20, .aload_n 0, 1), (21, .getfield 19, 3), (24, .iload_n 2, 1), (25, .iaload, 1)]
set_option maxRecDepth 100000 in
theorem xi_ok201_0 : xi_ok cX10_widestOf xi_201_0 = true := by decide +kernel
def xi_201_1 : XIs := [(26, .if_icmp .le 8, 3), (29, .iload_n 3, 1), (30, .invokestatic 112, 3), (33, .istore_n 2, 1), (34, .iload_n 3, 1), (35, .iload_n 3, 1), (36, .iconst 1, 1), (37, .isub, 1), (38, .iand, 1), (39, .istore_n 3, 1), (40, .goto (-33), 3), (43, .iload_n 2, 1), (44, .ireturn, 1)]
set_option maxRecDepth 100000 in
theorem xi_ok201_1 : xi_ok cX10_widestOf xi_201_1 = true := by decide +kernel
def xi_201 (pc : Nat) : XIs := cond (Nat.blt pc 26) (xi_201_0) (xi_201_1)
theorem xi_ok201 (pc : Nat) : xi_ok cX10_widestOf (xi_201 pc) = true := xi_c (xi_ok201_0) (xi_ok201_1)
def xi_202_0 : XIs := [(0, .aload_n 0, 1), (1, .aload_n 1, 1), (2, .iload_n 2, 1), (3, .invokevirtual 146, 3), (6, .aload_n 0, 1), (7, .getfield 23, 3), (10, .iload_n 3, 1), (11, .iaload, 1), (12, .ireturn, 1)]
set_option maxRecDepth 100000 in
theorem xi_ok202_0 : xi_ok cX10_fewestArcs xi_202_0 = true := by decide +kernel
def xi_202 (pc : Nat) : XIs := xi_202_0
theorem xi_ok202 (pc : Nat) : xi_ok cX10_fewestArcs (xi_202 pc) = true := xi_ok202_0
def xi_203_0 : XIs := [(0, .aload_n 0, 1), (1, .aload_n 1, 1), (2, .iload_n 2, 1), (3, .invokevirtual 146, 3), (6, .aload_n 0, 1), (7, .getfield 23, 3), (10, .iload_n 3, 1), (11, .iaload, 1), (12, .istore 5, 2), (14, .aload_n 0, 1), (15, .getfield 23, 3), (18, .iload 4, 2), (20, .iaload, 1), (21, .istore 6, 2), (23, .aload_n 0, 1), (24, .getfield 26, 3)]
set_option maxRecDepth 100000 in
theorem xi_ok203_0 : xi_ok cX10_countBy xi_203_0 = true := by decide +kernel
def xi_203_1 : XIs := [(27, .iload 4, 2), (29, .laload, 1), (30, .lstore 7, 2), (32, .iload 5, 2), (34, .iconst (-1), 1), (35, .if_icmp .eq 9, 3), (38, .iload 6, 2), (40, .iconst (-1), 1), (41, .if_icmp .ne 5, 3), (44, .iconst 0, 1), (45, .ireturn, 1), (46, .iload 4, 2), (48, .iload_n 2, 1), (49, .if_icmp .eq 10, 3), (52, .aload_n 0, 1), (53, .aload_n 1, 1)]
set_option maxRecDepth 100000 in
theorem xi_ok203_1 : xi_ok cX10_countBy xi_203_1 = true := by decide +kernel
def xi_203_2 : XIs := [(54, .iload 4, 2), (56, .invokevirtual 146, 3), (59, .aload_n 0, 1), (60, .getfield 23, 3), (63, .iload_n 3, 1), (64, .iaload, 1), (65, .iconst (-1), 1), (66, .if_icmp .eq 17, 3), (69, .iload 6, 2), (71, .aload_n 0, 1), (72, .getfield 23, 3), (75, .iload_n 3, 1), (76, .iaload, 1), (77, .iadd, 1), (78, .iload 5, 2), (80, .if_icmp .eq 5, 3)]
set_option maxRecDepth 100000 in
theorem xi_ok203_2 : xi_ok cX10_countBy xi_203_2 = true := by decide +kernel
def xi_203_3 : XIs := [(83, .iconst 0, 1), (84, .ireturn, 1), (85, .lload 7, 2), (87, .aload_n 0, 1), (88, .getfield 26, 3), (91, .iload_n 3, 1), (92, .laload, 1), (93, .lmul, 1), (94, .ldc2_w 149, 3), (97, .lrem, 1), (98, .l2i, 1), (99, .ireturn, 1)]
set_option maxRecDepth 100000 in
theorem xi_ok203_3 : xi_ok cX10_countBy xi_203_3 = true := by decide +kernel
def xi_203 (pc : Nat) : XIs := cond (Nat.blt pc 54) (cond (Nat.blt pc 27) (xi_203_0) (xi_203_1)) (cond (Nat.blt pc 83) (xi_203_2) (xi_203_3))
theorem xi_ok203 (pc : Nat) : xi_ok cX10_countBy (xi_203 pc) = true := xi_c (xi_c (xi_ok203_0) (xi_ok203_1)) (xi_c (xi_ok203_2) (xi_ok203_3))
def xi_204_0 : XIs := [(0, .aload_n 1, 1), (1, .invokevirtual 84, 3), (4, .aload_n 0, 1), (5, .getfield 23, 3), (8, .iconst (-1), 1), (9, .invokestatic 125, 3), (12, .aload_n 0, 1), (13, .getfield 26, 3), (16, .lconst 0, 1), (17, .invokestatic 93, 3), (20, .aload_n 0, 1), (21, .getfield 23, 3), (24, .iload_n 2, 1), (25, .iconst 0, 1), (26, .iastore, 1), (27, .aload_n 0, 1)]
set_option maxRecDepth 100000 in
theorem xi_ok204_0 : xi_ok cX10_spread xi_204_0 = true := by decide +kernel
def xi_204_1 : XIs := [(28, .getfield 26, 3), (31, .iload_n 2, 1), (32, .lconst 1, 1), (33, .lastore, 1), (34, .aload_n 0, 1), (35, .getfield 29, 3), (38, .iconst 0, 1), (39, .iload_n 2, 1), (40, .iastore, 1), (41, .iconst 1, 1), (42, .istore_n 3, 1), (43, .iconst 0, 1), (44, .istore 4, 2), (46, .iload 4, 2), (48, .iload_n 3, 1), (49, .if_icmp .ge 150, 3)]
set_option maxRecDepth 100000 in
theorem xi_ok204_1 : xi_ok cX10_spread xi_204_1 = true := by decide +kernel
def xi_204_2 : XIs := [(52, .aload_n 0, 1), (53, .getfield 29, 3), (56, .iload 4, 2), (58, .iaload, 1), (59, .istore 5, 2), (61, .aload_n 1, 1), (62, .getfield 71, 3), (65, .iload 5, 2), (67, .iaload, 1), (68, .istore 6, 2), (70, .iload 6, 2), (72, .aload_n 1, 1), (73, .getfield 71, 3), (76, .iload 5, 2), (78, .iconst 1, 1), (79, .iadd, 1)]
set_option maxRecDepth 100000 in
theorem xi_ok204_2 : xi_ok cX10_spread xi_204_2 = true := by decide +kernel
def xi_204_3 : XIs := [(80, .iaload, 1), (81, .if_icmp .ge 112, 3), (84, .aload_n 1, 1), (85, .getfield 66, 3), (88, .aload_n 1, 1), (89, .getfield 74, 3), (92, .iload 6, 2), (94, .iaload, 1), (95, .iaload, 1), (96, .istore 7, 2), (98, .aload_n 0, 1), (99, .getfield 23, 3), (102, .iload 7, 2), (104, .iaload, 1), (105, .iconst (-1), 1), (106, .if_icmp .ne 36, 3)]
set_option maxRecDepth 100000 in
theorem xi_ok204_3 : xi_ok cX10_spread xi_204_3 = true := by decide +kernel
def xi_204_4 : XIs := [(109, .iload_n 3, 1), (110, .bipush 32, 2), (112, .if_icmp .ge 30, 3), (115, .aload_n 0, 1), (116, .getfield 23, 3), (119, .iload 7, 2), (121, .aload_n 0, 1), (122, .getfield 23, 3), (125, .iload 5, 2), (127, .iaload, 1), (128, .iconst 1, 1), (129, .iadd, 1), (130, .iastore, 1), (131, .aload_n 0, 1), (132, .getfield 29, 3), (135, .iload_n 3, 1)]
set_option maxRecDepth 100000 in
theorem xi_ok204_4 : xi_ok cX10_spread xi_204_4 = true := by decide +kernel
def xi_204_5 : XIs := [(136, .iload 7, 2), (138, .iastore, 1), (139, .iinc 3 1, 3), (142, .aload_n 0, 1), (143, .getfield 23, 3), (146, .iload 7, 2), (148, .iaload, 1), (149, .aload_n 0, 1), (150, .getfield 23, 3), (153, .iload 5, 2), (155, .iaload, 1), (156, .iconst 1, 1), (157, .iadd, 1), (158, .if_icmp .ne 29, 3), (161, .aload_n 0, 1), (162, .getfield 26, 3)]
set_option maxRecDepth 100000 in
theorem xi_ok204_5 : xi_ok cX10_spread xi_204_5 = true := by decide +kernel
def xi_204_6 : XIs := [(165, .iload 7, 2), (167, .aload_n 0, 1), (168, .getfield 26, 3), (171, .iload 7, 2), (173, .laload, 1), (174, .aload_n 0, 1), (175, .getfield 26, 3), (178, .iload 5, 2), (180, .laload, 1), (181, .ladd, 1), (182, .ldc2_w 149, 3), (185, .lrem, 1), (186, .lastore, 1), (187, .iinc 6 1, 3), (190, .goto (-120), 3), (193, .iinc 4 1, 3)]
set_option maxRecDepth 100000 in
theorem xi_ok204_6 : xi_ok cX10_spread xi_204_6 = true := by decide +kernel
def xi_204_7 : XIs := [(196, .goto (-150), 3), (199, .return_, 1)]
set_option maxRecDepth 100000 in
theorem xi_ok204_7 : xi_ok cX10_spread xi_204_7 = true := by decide +kernel
def xi_204 (pc : Nat) : XIs := cond (Nat.blt pc 109) (cond (Nat.blt pc 52) (cond (Nat.blt pc 28) (xi_204_0) (xi_204_1)) (cond (Nat.blt pc 80) (xi_204_2) (xi_204_3))) (cond (Nat.blt pc 165) (cond (Nat.blt pc 136) (xi_204_4) (xi_204_5)) (cond (Nat.blt pc 196) (xi_204_6) (xi_204_7)))
theorem xi_ok204 (pc : Nat) : xi_ok cX10_spread (xi_204 pc) = true := xi_c (xi_c (xi_c (xi_ok204_0) (xi_ok204_1)) (xi_c (xi_ok204_2) (xi_ok204_3))) (xi_c (xi_c (xi_ok204_4) (xi_ok204_5)) (xi_c (xi_ok204_6) (xi_ok204_7)))
def xi_205_0 : XIs := [(0, .aload_n 0, 1), (1, .aload_n 1, 1), (2, .iload_n 2, 1), (3, .iload_n 3, 1), (4, .invokevirtual 151, 3), (7, .aload_n 0, 1), (8, .getfield 155, 3), (11, .sipush 2000, 3), (14, .if_icmp .le 8, 3), (17, .bipush (-2), 2), (19, .goto 7, 3), (22, .aload_n 0, 1), (23, .getfield 155, 3), (26, .ireturn, 1)]
set_option maxRecDepth 100000 in
theorem xi_ok205_0 : xi_ok cX10_countShort xi_205_0 = true := by decide +kernel
def xi_205 (pc : Nat) : XIs := xi_205_0
theorem xi_ok205 (pc : Nat) : xi_ok cX10_countShort (xi_205 pc) = true := xi_ok205_0
def xi_206_0 : XIs := [(0, .aload_n 0, 1), (1, .aload_n 1, 1), (2, .iload_n 2, 1), (3, .iload_n 3, 1), (4, .invokevirtual 151, 3), (7, .aload_n 0, 1), (8, .getfield 155, 3), (11, .sipush 2000, 3), (14, .if_icmp .gt 12, 3), (17, .iload 4, 2), (19, .aload_n 0, 1), (20, .getfield 155, 3), (23, .if_icmp .lt 5, 3), (26, .iconst (-1), 1), (27, .ireturn, 1), (28, .aload_n 0, 1)]
set_option maxRecDepth 100000 in
theorem xi_ok206_0 : xi_ok cX10_arcOfShort xi_206_0 = true := by decide +kernel
def xi_206_1 : XIs := [(29, .getfield 35, 3), (32, .iload 4, 2), (34, .laload, 1), (35, .lstore 6, 2), (37, .iload 5, 2), (39, .lload 6, 2), (41, .bipush 32, 2), (43, .lshr, 1), (44, .ldc2_w 158, 3), (47, .land, 1), (48, .l2i, 1), (49, .if_icmp .lt 5, 3), (52, .iconst (-1), 1), (53, .ireturn, 1), (54, .lload 6, 2), (56, .bipush 24, 2)]
set_option maxRecDepth 100000 in
theorem xi_ok206_1 : xi_ok cX10_arcOfShort xi_206_1 = true := by decide +kernel
def xi_206_2 : XIs := [(58, .bipush 8, 2), (60, .iload 5, 2), (62, .imul, 1), (63, .isub, 1), (64, .lshr, 1), (65, .ldc2_w 160, 3), (68, .land, 1), (69, .l2i, 1), (70, .ireturn, 1)]
set_option maxRecDepth 100000 in
theorem xi_ok206_2 : xi_ok cX10_arcOfShort xi_206_2 = true := by decide +kernel
def xi_206 (pc : Nat) : XIs := cond (Nat.blt pc 29) (xi_206_0) (cond (Nat.blt pc 58) (xi_206_1) (xi_206_2))
theorem xi_ok206 (pc : Nat) : xi_ok cX10_arcOfShort (xi_206 pc) = true := xi_c (xi_ok206_0) (xi_c (xi_ok206_1) (xi_ok206_2))
def xi_207_0 : XIs := [(0, .aload_n 0, 1), (1, .getfield 32, 3), (4, .aload_n 1, 1), (5, .getfield 87, 3), (8, .if_icmp .ne 20, 3), (11, .aload_n 0, 1), (12, .getfield 162, 3), (15, .iload_n 2, 1), (16, .if_icmp .ne 12, 3), (19, .aload_n 0, 1), (20, .getfield 165, 3), (23, .iload_n 3, 1), (24, .if_icmp .ne 4, 3), (27, .return_, 1), (28, .aload_n 1, 1), (29, .invokevirtual 84, 3)]
set_option maxRecDepth 100000 in
theorem xi_ok207_0 : xi_ok cX10_collect xi_207_0 = true := by decide +kernel
def xi_207_1 : XIs := [(32, .aload_n 0, 1), (33, .aload_n 1, 1), (34, .getfield 87, 3), (37, .putfield 32, 3), (40, .aload_n 0, 1), (41, .iload_n 2, 1), (42, .putfield 162, 3), (45, .aload_n 0, 1), (46, .iload_n 3, 1), (47, .putfield 165, 3), (50, .aload_n 0, 1), (51, .iconst 0, 1), (52, .putfield 155, 3), (55, .aload_n 0, 1), (56, .aload_n 1, 1), (57, .iload_n 2, 1)]
set_option maxRecDepth 100000 in
theorem xi_ok207_1 : xi_ok cX10_collect xi_207_1 = true := by decide +kernel
def xi_207_2 : XIs := [(58, .iconst 1, 1), (59, .iload_n 2, 1), (60, .ishl, 1), (61, .iconst 0, 1), (62, .lconst 0, 1), (63, .invokevirtual 168, 3), (66, .aload_n 0, 1), (67, .getfield 155, 3), (70, .sipush 2000, 3), (73, .if_icmp .gt 7, 3), (76, .aload_n 0, 1), (77, .invokevirtual 172, 3), (80, .return_, 1)]
set_option maxRecDepth 100000 in
theorem xi_ok207_2 : xi_ok cX10_collect xi_207_2 = true := by decide +kernel
def xi_207 (pc : Nat) : XIs := cond (Nat.blt pc 32) (xi_207_0) (cond (Nat.blt pc 58) (xi_207_1) (xi_207_2))
theorem xi_ok207 (pc : Nat) : xi_ok cX10_collect (xi_207 pc) = true := xi_c (xi_ok207_0) (xi_c (xi_ok207_1) (xi_ok207_2))
def xi_208_0 : XIs := [(0, .aload_n 1, 1), (1, .getfield 71, 3), (4, .iload_n 2, 1), (5, .iaload, 1), (6, .istore 7, 2), (8, .iload 7, 2), (10, .aload_n 1, 1), (11, .getfield 71, 3), (14, .iload_n 2, 1), (15, .iconst 1, 1), (16, .iadd, 1), (17, .iaload, 1), (18, .if_icmp .ge 166, 3), (21, .aload_n 0, 1), (22, .getfield 155, 3), (25, .sipush 2000, 3)]
set_option maxRecDepth 100000 in
theorem xi_ok208_0 : xi_ok cX10_gather xi_208_0 = true := by decide +kernel
def xi_208_1 : XIs := [(28, .if_icmp .gt 156, 3), (31, .iload 4, 2), (33, .iconst 4, 1), (34, .if_icmp .ge 150, 3), (37, .aload_n 1, 1), (38, .getfield 74, 3), (41, .iload 7, 2), (43, .iaload, 1), (44, .istore 8, 2), (46, .aload_n 1, 1), (47, .getfield 66, 3), (50, .iload 8, 2), (52, .iaload, 1), (53, .istore 9, 2), (55, .lload 5, 2), (57, .aload_n 1, 1)]
set_option maxRecDepth 100000 in
theorem xi_ok208_1 : xi_ok cX10_gather xi_208_1 = true := by decide +kernel
def xi_208_2 : XIs := [(58, .getfield 81, 3), (61, .iload 8, 2), (63, .iaload, 1), (64, .i2l, 1), (65, .bipush 35, 2), (67, .lshl, 1), (68, .ladd, 1), (69, .iload 8, 2), (71, .i2l, 1), (72, .bipush 24, 2), (74, .bipush 8, 2), (76, .iload 4, 2), (78, .imul, 1), (79, .isub, 1), (80, .lshl, 1), (81, .ladd, 1)]
set_option maxRecDepth 100000 in
theorem xi_ok208_2 : xi_ok cX10_gather xi_208_2 = true := by decide +kernel
def xi_208_3 : XIs := [(82, .lstore 10, 2), (84, .iload 9, 2), (86, .aload_n 0, 1), (87, .getfield 165, 3), (90, .if_icmp .ne 40, 3), (93, .aload_n 0, 1), (94, .getfield 35, 3), (97, .aload_n 0, 1), (98, .getfield 155, 3), (101, .lload 10, 2), (103, .ldc2_w 175, 3), (106, .ladd, 1), (107, .iload 4, 2), (109, .iconst 1, 1), (110, .iadd, 1), (111, .i2l, 1)]
set_option maxRecDepth 100000 in
theorem xi_ok208_3 : xi_ok cX10_gather xi_208_3 = true := by decide +kernel
def xi_208_4 : XIs := [(112, .bipush 32, 2), (114, .lshl, 1), (115, .ladd, 1), (116, .lastore, 1), (117, .aload_n 0, 1), (118, .dup, 1), (119, .getfield 155, 3), (122, .iconst 1, 1), (123, .iadd, 1), (124, .putfield 155, 3), (127, .goto 51, 3), (130, .iload_n 3, 1), (131, .iload 9, 2), (133, .ishr, 1), (134, .iconst 1, 1), (135, .iand, 1)]
set_option maxRecDepth 100000 in
theorem xi_ok208_4 : xi_ok cX10_gather xi_208_4 = true := by decide +kernel
def xi_208_5 : XIs := [(136, .ifCond .ne 42, 3), (139, .aload_n 0, 1), (140, .aload_n 1, 1), (141, .iload 9, 2), (143, .iload_n 3, 1), (144, .iconst 1, 1), (145, .iload 9, 2), (147, .ishl, 1), (148, .ior, 1), (149, .iconst 3, 1), (150, .iload 4, 2), (152, .isub, 1), (153, .invokevirtual 177, 3), (156, .ifCond .eq 22, 3), (159, .aload_n 0, 1), (160, .aload_n 1, 1)]
set_option maxRecDepth 100000 in
theorem xi_ok208_5 : xi_ok cX10_gather xi_208_5 = true := by decide +kernel
def xi_208_6 : XIs := [(161, .iload 9, 2), (163, .iload_n 3, 1), (164, .iconst 1, 1), (165, .iload 9, 2), (167, .ishl, 1), (168, .ior, 1), (169, .iload 4, 2), (171, .iconst 1, 1), (172, .iadd, 1), (173, .lload 10, 2), (175, .invokevirtual 168, 3), (178, .iinc 7 1, 3), (181, .goto (-173), 3), (184, .return_, 1)]
set_option maxRecDepth 100000 in
theorem xi_ok208_6 : xi_ok cX10_gather xi_208_6 = true := by decide +kernel
def xi_208 (pc : Nat) : XIs := cond (Nat.blt pc 82) (cond (Nat.blt pc 28) (xi_208_0) (cond (Nat.blt pc 58) (xi_208_1) (xi_208_2))) (cond (Nat.blt pc 136) (cond (Nat.blt pc 112) (xi_208_3) (xi_208_4)) (cond (Nat.blt pc 161) (xi_208_5) (xi_208_6)))
theorem xi_ok208 (pc : Nat) : xi_ok cX10_gather (xi_208 pc) = true := xi_c (xi_c (xi_ok208_0) (xi_c (xi_ok208_1) (xi_ok208_2))) (xi_c (xi_c (xi_ok208_3) (xi_ok208_4)) (xi_c (xi_ok208_5) (xi_ok208_6)))
def xi_209_0 : XIs := [(0, .aload_n 1, 1), (1, .getfield 105, 3), (4, .aload_n 0, 1), (5, .getfield 165, 3), (8, .iaload, 1), (9, .istore 5, 2), (11, .iload 4, 2), (13, .iconst 1, 1), (14, .if_icmp .lt 14, 3), (17, .iload 5, 2), (19, .iload_n 2, 1), (20, .ishr, 1), (21, .iconst 1, 1), (22, .iand, 1), (23, .ifCond .eq 5, 3), (26, .iconst 1, 1)]
set_option maxRecDepth 100000 in
theorem xi_ok209_0 : xi_ok cX10_leads xi_209_0 = true := by decide +kernel
def xi_209_1 : XIs := [(27, .ireturn, 1), (28, .aload_n 1, 1), (29, .getfield 181, 3), (32, .iload_n 2, 1), (33, .iaload, 1), (34, .iload_n 3, 1), (35, .iconst (-1), 1), (36, .ixor, 1), (37, .iand, 1), (38, .istore 6, 2), (40, .iload 4, 2), (42, .iconst 2, 1), (43, .if_icmp .lt 13, 3), (46, .iload 6, 2), (48, .iload 5, 2), (50, .iand, 1)]
set_option maxRecDepth 100000 in
theorem xi_ok209_1 : xi_ok cX10_leads xi_209_1 = true := by decide +kernel
def xi_209_2 : XIs := [(51, .ifCond .eq 5, 3), (54, .iconst 1, 1), (55, .ireturn, 1), (56, .iload 6, 2), (58, .istore 7, 2), (60, .iload 4, 2), (62, .iconst 3, 1), (63, .if_icmp .lt 42, 3), (66, .iload 7, 2), (68, .ifCond .eq 37, 3), (71, .aload_n 1, 1), (72, .getfield 181, 3), (75, .iload 7, 2), (77, .invokestatic 112, 3), (80, .iaload, 1), (81, .iload_n 3, 1)]
set_option maxRecDepth 100000 in
theorem xi_ok209_2 : xi_ok cX10_leads xi_209_2 = true := by decide +kernel
def xi_209_3 : XIs := [(82, .iconst (-1), 1), (83, .ixor, 1), (84, .iand, 1), (85, .iload 5, 2), (87, .iand, 1), (88, .ifCond .eq 5, 3), (91, .iconst 1, 1), (92, .ireturn, 1), (93, .iload 7, 2), (95, .iload 7, 2), (97, .iconst 1, 1), (98, .isub, 1), (99, .iand, 1), (100, .istore 7, 2), (102, .goto (-42), 3), (105, .iconst 0, 1)]
set_option maxRecDepth 100000 in
theorem xi_ok209_3 : xi_ok cX10_leads xi_209_3 = true := by decide +kernel
def xi_209_4 : XIs := [(106, .ireturn, 1)]
set_option maxRecDepth 100000 in
theorem xi_ok209_4 : xi_ok cX10_leads xi_209_4 = true := by decide +kernel
def xi_209 (pc : Nat) : XIs := cond (Nat.blt pc 51) (cond (Nat.blt pc 27) (xi_209_0) (xi_209_1)) (cond (Nat.blt pc 82) (xi_209_2) (cond (Nat.blt pc 106) (xi_209_3) (xi_209_4)))
theorem xi_ok209 (pc : Nat) : xi_ok cX10_leads (xi_209 pc) = true := xi_c (xi_c (xi_ok209_0) (xi_ok209_1)) (xi_c (xi_ok209_2) (xi_c (xi_ok209_3) (xi_ok209_4)))
def xi_210_0 : XIs := [(0, .iconst 1, 1), (1, .istore_n 1, 1), (2, .iload_n 1, 1), (3, .aload_n 0, 1), (4, .getfield 155, 3), (7, .iconst 3, 1), (8, .idiv, 1), (9, .if_icmp .ge 12, 3), (12, .iconst 3, 1), (13, .iload_n 1, 1), (14, .imul, 1), (15, .iconst 1, 1), (16, .iadd, 1), (17, .istore_n 1, 1), (18, .goto (-16), 3), (21, .iload_n 1, 1)]
set_option maxRecDepth 100000 in
theorem xi_ok210_0 : xi_ok cX10_sortKeys xi_210_0 = true := by decide +kernel
def xi_210_1 : XIs := [(22, .ifCond .le 89, 3), (25, .iload_n 1, 1), (26, .istore_n 2, 1), (27, .iload_n 2, 1), (28, .aload_n 0, 1), (29, .getfield 155, 3), (32, .if_icmp .ge 72, 3), (35, .aload_n 0, 1), (36, .getfield 35, 3), (39, .iload_n 2, 1), (40, .laload, 1), (41, .lstore_n 3, 1), (42, .iload_n 2, 1), (43, .istore 5, 2), (45, .iload 5, 2), (47, .iload_n 1, 1)]
set_option maxRecDepth 100000 in
theorem xi_ok210_1 : xi_ok cX10_sortKeys xi_210_1 = true := by decide +kernel
def xi_210_2 : XIs := [(48, .if_icmp .lt 42, 3), (51, .aload_n 0, 1), (52, .getfield 35, 3), (55, .iload 5, 2), (57, .iload_n 1, 1), (58, .isub, 1), (59, .laload, 1), (60, .lload_n 3, 1), (61, .lcmp, 1), (62, .ifCond .le 28, 3), (65, .aload_n 0, 1), (66, .getfield 35, 3), (69, .iload 5, 2), (71, .aload_n 0, 1), (72, .getfield 35, 3), (75, .iload 5, 2)]
set_option maxRecDepth 100000 in
theorem xi_ok210_2 : xi_ok cX10_sortKeys xi_210_2 = true := by decide +kernel
def xi_210_3 : XIs := [(77, .iload_n 1, 1), (78, .isub, 1), (79, .laload, 1), (80, .lastore, 1), (81, .iload 5, 2), (83, .iload_n 1, 1), (84, .isub, 1), (85, .istore 5, 2), (87, .goto (-42), 3), (90, .aload_n 0, 1), (91, .getfield 35, 3), (94, .iload 5, 2), (96, .lload_n 3, 1), (97, .lastore, 1), (98, .iinc 2 1, 3), (101, .goto (-74), 3)]
set_option maxRecDepth 100000 in
theorem xi_ok210_3 : xi_ok cX10_sortKeys xi_210_3 = true := by decide +kernel
def xi_210_4 : XIs := [(104, .iload_n 1, 1), (105, .iconst 3, 1), (106, .idiv, 1), (107, .istore_n 1, 1), (108, .goto (-87), 3), (111, .return_, 1)]
set_option maxRecDepth 100000 in
theorem xi_ok210_4 : xi_ok cX10_sortKeys xi_210_4 = true := by decide +kernel
def xi_210 (pc : Nat) : XIs := cond (Nat.blt pc 48) (cond (Nat.blt pc 22) (xi_210_0) (xi_210_1)) (cond (Nat.blt pc 77) (xi_210_2) (cond (Nat.blt pc 104) (xi_210_3) (xi_210_4)))
theorem xi_ok210 (pc : Nat) : xi_ok cX10_sortKeys (xi_210 pc) = true := xi_c (xi_c (xi_ok210_0) (xi_ok210_1)) (xi_c (xi_ok210_2) (xi_c (xi_ok210_3) (xi_ok210_4)))
def xi_211_0 : XIs := [(0, .aload_n 0, 1), (1, .invokespecial 1, 3), (4, .aload_n 0, 1), (5, .new 7, 3), (8, .dup, 1), (9, .invokespecial 9, 3), (12, .putfield 10, 3), (15, .aload_n 0, 1), (16, .new 16, 3), (19, .dup, 1), (20, .invokespecial 18, 3), (23, .putfield 19, 3), (26, .aload_n 0, 1), (27, .iconst (-1), 1), (28, .putfield 23, 3), (31, .aload_n 0, 1)]
set_option maxRecDepth 100000 in
theorem xi_ok211_0 : xi_ok cX11_init xi_211_0 = true := by decide +kernel
def xi_211_1 : XIs := [(32, .new 27, 3), (35, .dup, 1), (36, .invokespecial 29, 3), (39, .putfield 30, 3), (42, .aload_n 0, 1), (43, .new 34, 3), (46, .dup, 1), (47, .invokespecial 36, 3), (50, .putfield 37, 3), (53, .aload_n 0, 1), (54, .new 41, 3), (57, .dup, 1), (58, .invokespecial 43, 3), (61, .putfield 44, 3), (64, .aload_n 0, 1), (65, .new 48, 3)]
set_option maxRecDepth 100000 in
theorem xi_ok211_1 : xi_ok cX11_init xi_211_1 = true := by decide +kernel
def xi_211_2 : XIs := [(68, .dup, 1), (69, .invokespecial 50, 3), (72, .putfield 51, 3), (75, .aload_n 0, 1), (76, .new 55, 3), (79, .dup, 1), (80, .invokespecial 57, 3), (83, .putfield 58, 3), (86, .aload_n 0, 1), (87, .new 62, 3), (90, .dup, 1), (91, .invokespecial 64, 3), (94, .putfield 65, 3), (97, .aload_n 0, 1), (98, .new 69, 3), (101, .dup, 1)]
set_option maxRecDepth 100000 in
theorem xi_ok211_2 : xi_ok cX11_init xi_211_2 = true := by decide +kernel
def xi_211_3 : XIs := [(102, .invokespecial 71, 3), (105, .putfield 72, 3), (108, .aload_n 0, 1), (109, .new 76, 3), (112, .dup, 1), (113, .invokespecial 78, 3), (116, .putfield 79, 3), (119, .aload_n 0, 1), (120, .new 83, 3), (123, .dup, 1), (124, .invokespecial 85, 3), (127, .putfield 86, 3), (130, .return_, 1)]
set_option maxRecDepth 100000 in
theorem xi_ok211_3 : xi_ok cX11_init xi_211_3 = true := by decide +kernel
def xi_211 (pc : Nat) : XIs := cond (Nat.blt pc 68) (cond (Nat.blt pc 32) (xi_211_0) (xi_211_1)) (cond (Nat.blt pc 102) (xi_211_2) (xi_211_3))
theorem xi_ok211 (pc : Nat) : xi_ok cX11_init (xi_211 pc) = true := xi_c (xi_c (xi_ok211_0) (xi_ok211_1)) (xi_c (xi_ok211_2) (xi_ok211_3))
def xi_212_0 : XIs := [(0, .iload_n 1, 1), (1, .invokestatic 90, 3), (4, .invokestatic 94, 3), (7, .aload_n 0, 1), (8, .getfield 10, 3), (11, .getfield 98, 3), (14, .getfield 101, 3), (17, .bipush 32, 2), (19, .if_icmp .ge 17, 3), (22, .aload_n 0, 1), (23, .getfield 10, 3), (26, .invokevirtual 104, 3), (29, .ifCond .ne 7, 3), (32, .iconst 1, 1), (33, .goto 4, 3), (36, .iconst 0, 1)]
set_option maxRecDepth 100000 in
theorem xi_ok212_0 : xi_ok cX11_node xi_212_0 = true := by decide +kernel
def xi_212_1 : XIs := [(37, .invokestatic 108, 3), (40, .aload_n 0, 1), (41, .getfield 10, 3), (44, .iload_n 1, 1), (45, .invokevirtual 111, 3), (48, .ireturn, 1)]
set_option maxRecDepth 100000 in
theorem xi_ok212_1 : xi_ok cX11_node xi_212_1 = true := by decide +kernel
def xi_212 (pc : Nat) : XIs := cond (Nat.blt pc 37) (xi_212_0) (xi_212_1)
theorem xi_ok212 (pc : Nat) : xi_ok cX11_node (xi_212 pc) = true := xi_c (xi_ok212_0) (xi_ok212_1)
def xi_213_0 : XIs := [(0, .aload_n 0, 1), (1, .getfield 10, 3), (4, .iload_n 1, 1), (5, .iload_n 2, 1), (6, .iload_n 3, 1), (7, .iload 4, 2), (9, .iload 5, 2), (11, .invokevirtual 115, 3), (14, .invokestatic 94, 3), (17, .aload_n 0, 1), (18, .getfield 10, 3), (21, .invokevirtual 104, 3), (24, .ifCond .ne 7, 3), (27, .iconst 1, 1), (28, .goto 4, 3), (31, .iconst 0, 1)]
set_option maxRecDepth 100000 in
theorem xi_ok213_0 : xi_ok cX11_arc xi_213_0 = true := by decide +kernel
def xi_213_1 : XIs := [(32, .invokestatic 108, 3), (35, .aload_n 0, 1), (36, .getfield 10, 3), (39, .iload_n 1, 1), (40, .iload_n 2, 1), (41, .iload_n 3, 1), (42, .iload 4, 2), (44, .iload 5, 2), (46, .invokevirtual 119, 3), (49, .ireturn, 1)]
set_option maxRecDepth 100000 in
theorem xi_ok213_1 : xi_ok cX11_arc xi_213_1 = true := by decide +kernel
def xi_213 (pc : Nat) : XIs := cond (Nat.blt pc 32) (xi_213_0) (xi_213_1)
theorem xi_ok213 (pc : Nat) : xi_ok cX11_arc (xi_213 pc) = true := xi_c (xi_ok213_0) (xi_ok213_1)
def xi_214_0 : XIs := [(0, .aload_n 0, 1), (1, .getfield 10, 3), (4, .getfield 98, 3), (7, .iload_n 1, 1), (8, .invokevirtual 123, 3), (11, .invokestatic 94, 3), (14, .aload_n 0, 1), (15, .getfield 10, 3), (18, .invokevirtual 104, 3), (21, .ifCond .ne 7, 3), (24, .iconst 1, 1), (25, .goto 4, 3), (28, .iconst 0, 1), (29, .invokestatic 108, 3), (32, .aload_n 0, 1), (33, .getfield 10, 3)]
set_option maxRecDepth 100000 in
theorem xi_ok214_0 : xi_ok cX11_take xi_214_0 = true := by decide +kernel
def xi_214_1 : XIs := [(36, .iload_n 1, 1), (37, .invokevirtual 126, 3), (40, .aload_n 0, 1), (41, .getfield 10, 3), (44, .getfield 98, 3), (47, .getfield 130, 3), (50, .ireturn, 1)]
set_option maxRecDepth 100000 in
theorem xi_ok214_1 : xi_ok cX11_take xi_214_1 = true := by decide +kernel
def xi_214 (pc : Nat) : XIs := cond (Nat.blt pc 36) (xi_214_0) (xi_214_1)
theorem xi_ok214 (pc : Nat) : xi_ok cX11_take (xi_214 pc) = true := xi_c (xi_ok214_0) (xi_ok214_1)
def xi_215_0 : XIs := [(0, .aload_n 0, 1), (1, .getfield 10, 3), (4, .getfield 98, 3), (7, .iload_n 1, 1), (8, .invokevirtual 123, 3), (11, .ifCond .eq 15, 3), (14, .iload_n 2, 1), (15, .iload_n 3, 1), (16, .invokestatic 133, 3), (19, .ifCond .eq 7, 3), (22, .iconst 1, 1), (23, .goto 4, 3), (26, .iconst 0, 1), (27, .invokestatic 94, 3), (30, .aload_n 0, 1), (31, .getfield 10, 3)]
set_option maxRecDepth 100000 in
theorem xi_ok215_0 : xi_ok cX11_set xi_215_0 = true := by decide +kernel
def xi_215_1 : XIs := [(34, .invokevirtual 104, 3), (37, .ifCond .ne 7, 3), (40, .iconst 1, 1), (41, .goto 4, 3), (44, .iconst 0, 1), (45, .invokestatic 108, 3), (48, .aload_n 0, 1), (49, .getfield 10, 3), (52, .getfield 98, 3), (55, .iload_n 1, 1), (56, .iload_n 2, 1), (57, .invokevirtual 137, 3), (60, .istore 4, 2), (62, .aload_n 0, 1), (63, .getfield 10, 3), (66, .iload_n 1, 1)]
set_option maxRecDepth 100000 in
theorem xi_ok215_1 : xi_ok cX11_set xi_215_1 = true := by decide +kernel
def xi_215_2 : XIs := [(67, .iload_n 2, 1), (68, .iload_n 3, 1), (69, .invokevirtual 141, 3), (72, .iload 4, 2), (74, .ireturn, 1)]
set_option maxRecDepth 100000 in
theorem xi_ok215_2 : xi_ok cX11_set xi_215_2 = true := by decide +kernel
def xi_215 (pc : Nat) : XIs := cond (Nat.blt pc 34) (xi_215_0) (cond (Nat.blt pc 67) (xi_215_1) (xi_215_2))
theorem xi_ok215 (pc : Nat) : xi_ok cX11_set (xi_215 pc) = true := xi_c (xi_ok215_0) (xi_c (xi_ok215_1) (xi_ok215_2))
def xi_216_0 : XIs := [(0, .aload_n 0, 1), (1, .getfield 10, 3), (4, .getfield 98, 3), (7, .iload_n 1, 1), (8, .invokevirtual 145, 3), (11, .ifCond .eq 14, 3), (14, .iload_n 2, 1), (15, .invokestatic 90, 3), (18, .ifCond .eq 7, 3), (21, .iconst 1, 1), (22, .goto 4, 3), (25, .iconst 0, 1), (26, .invokestatic 94, 3), (29, .aload_n 0, 1), (30, .getfield 10, 3), (33, .invokevirtual 104, 3)]
set_option maxRecDepth 100000 in
theorem xi_ok216_0 : xi_ok cX11_label xi_216_0 = true := by decide +kernel
def xi_216_1 : XIs := [(36, .ifCond .ne 7, 3), (39, .iconst 1, 1), (40, .goto 4, 3), (43, .iconst 0, 1), (44, .invokestatic 108, 3), (47, .aload_n 0, 1), (48, .getfield 10, 3), (51, .getfield 98, 3), (54, .getfield 148, 3), (57, .iload_n 1, 1), (58, .iaload, 1), (59, .istore_n 3, 1), (60, .aload_n 0, 1), (61, .getfield 10, 3), (64, .iload_n 1, 1), (65, .iload_n 2, 1)]
set_option maxRecDepth 100000 in
theorem xi_ok216_1 : xi_ok cX11_label xi_216_1 = true := by decide +kernel
def xi_216_2 : XIs := [(66, .invokevirtual 152, 3), (69, .iload_n 3, 1), (70, .ireturn, 1)]
set_option maxRecDepth 100000 in
theorem xi_ok216_2 : xi_ok cX11_label xi_216_2 = true := by decide +kernel
def xi_216 (pc : Nat) : XIs := cond (Nat.blt pc 36) (xi_216_0) (cond (Nat.blt pc 66) (xi_216_1) (xi_216_2))
theorem xi_ok216 (pc : Nat) : xi_ok cX11_label (xi_216 pc) = true := xi_c (xi_ok216_0) (xi_c (xi_ok216_1) (xi_ok216_2))
def xi_217_0 : XIs := [(0, .iload_n 1, 1), (1, .iconst (-1), 1), (2, .if_icmp .lt 21, 3), (5, .iload_n 1, 1), (6, .aload_n 0, 1), (7, .getfield 10, 3), (10, .getfield 98, 3), (13, .getfield 130, 3), (16, .if_icmp .gt 7, 3), (19, .iconst 1, 1), (20, .goto 4, 3), (23, .iconst 0, 1), (24, .invokestatic 94, 3), (27, .aload_n 0, 1), (28, .iload_n 1, 1), (29, .putfield 23, 3)]
set_option maxRecDepth 100000 in
theorem xi_ok217_0 : xi_ok cX11_view xi_217_0 = true := by decide +kernel
def xi_217_1 : XIs := [(32, .iload_n 1, 1), (33, .iconst (-1), 1), (34, .if_icmp .eq 15, 3), (37, .aload_n 0, 1), (38, .getfield 10, 3), (41, .aload_n 0, 1), (42, .getfield 19, 3), (45, .iload_n 1, 1), (46, .invokevirtual 156, 3), (49, .aload_n 0, 1), (50, .invokevirtual 160, 3), (53, .getfield 130, 3), (56, .ireturn, 1)]
set_option maxRecDepth 100000 in
theorem xi_ok217_1 : xi_ok cX11_view xi_217_1 = true := by decide +kernel
def xi_217 (pc : Nat) : XIs := cond (Nat.blt pc 32) (xi_217_0) (xi_217_1)
theorem xi_ok217 (pc : Nat) : xi_ok cX11_view (xi_217 pc) = true := xi_c (xi_ok217_0) (xi_ok217_1)
def xi_218_0 : XIs := [(0, .aload_n 0, 1), (1, .getfield 10, 3), (4, .getfield 98, 3), (7, .getfield 130, 3), (10, .ireturn, 1)]
set_option maxRecDepth 100000 in
theorem xi_ok218_0 : xi_ok cX11_version xi_218_0 = true := by decide +kernel
def xi_218 (pc : Nat) : XIs := xi_218_0
theorem xi_ok218 (pc : Nat) : xi_ok cX11_version (xi_218 pc) = true := xi_ok218_0
def xi_219_0 : XIs := [(0, .iload_n 1, 1), (1, .ifCond .lt 12, 3), (4, .iload_n 1, 1), (5, .iconst 3, 1), (6, .if_icmp .gt 7, 3), (9, .iconst 1, 1), (10, .goto 4, 3), (13, .iconst 0, 1), (14, .invokestatic 94, 3), (17, .aload_n 0, 1), (18, .invokevirtual 160, 3), (21, .astore_n 2, 1), (22, .iload_n 1, 1), (23, .tableswitch 40 0 2 #[25, 30, 35], 25), (48, .aload_n 2, 1), (49, .getfield 101, 3)]
set_option maxRecDepth 100000 in
theorem xi_ok219_0 : xi_ok cX11_size xi_219_0 = true := by decide +kernel
def xi_219_1 : XIs := [(52, .ireturn, 1), (53, .aload_n 2, 1), (54, .getfield 164, 3), (57, .ireturn, 1), (58, .aload_n 2, 1), (59, .invokevirtual 167, 3), (62, .ireturn, 1), (63, .aload_n 2, 1), (64, .getfield 171, 3), (67, .iconst 1, 1), (68, .isub, 1), (69, .ireturn, 1)]
set_option maxRecDepth 100000 in
theorem xi_ok219_1 : xi_ok cX11_size xi_219_1 = true := by decide +kernel
def xi_219 (pc : Nat) : XIs := cond (Nat.blt pc 52) (xi_219_0) (xi_219_1)
theorem xi_ok219 (pc : Nat) : xi_ok cX11_size (xi_219 pc) = true := xi_c (xi_ok219_0) (xi_ok219_1)
def xi_220_0 : XIs := [(0, .iload_n 1, 1), (1, .ifCond .lt 23, 3), (4, .iload_n 1, 1), (5, .sipush 160, 3), (8, .if_icmp .ge 16, 3), (11, .iload_n 2, 1), (12, .ifCond .lt 12, 3), (15, .iload_n 2, 1), (16, .iconst 4, 1), (17, .if_icmp .gt 7, 3), (20, .iconst 1, 1), (21, .goto 4, 3), (24, .iconst 0, 1), (25, .invokestatic 94, 3), (28, .aload_n 0, 1), (29, .invokevirtual 160, 3)]
set_option maxRecDepth 100000 in
theorem xi_ok220_0 : xi_ok cX11_told xi_220_0 = true := by decide +kernel
def xi_220_1 : XIs := [(32, .astore_n 3, 1), (33, .aload_n 3, 1), (34, .iload_n 1, 1), (35, .invokevirtual 123, 3), (38, .ifCond .ne 7, 3), (41, .ldc2_w 174, 3), (44, .lreturn, 1), (45, .iload_n 2, 1), (46, .ifCond .ne 11, 3), (49, .aload_n 3, 1), (50, .getfield 176, 3), (53, .iload_n 1, 1), (54, .iaload, 1), (55, .i2l, 1), (56, .lreturn, 1), (57, .iload_n 2, 1)]
set_option maxRecDepth 100000 in
theorem xi_ok220_1 : xi_ok cX11_told xi_220_1 = true := by decide +kernel
def xi_220_2 : XIs := [(58, .iconst 1, 1), (59, .if_icmp .ne 13, 3), (62, .aload_n 3, 1), (63, .getfield 179, 3), (66, .iload_n 1, 1), (67, .iaload, 1), (68, .i2l, 1), (69, .goto 12, 3), (72, .aload_n 3, 1), (73, .iload_n 1, 1), (74, .iload_n 2, 1), (75, .iconst 2, 1), (76, .isub, 1), (77, .invokevirtual 137, 3), (80, .i2l, 1), (81, .lreturn, 1)]
set_option maxRecDepth 100000 in
theorem xi_ok220_2 : xi_ok cX11_told xi_220_2 = true := by decide +kernel
def xi_220 (pc : Nat) : XIs := cond (Nat.blt pc 32) (xi_220_0) (cond (Nat.blt pc 58) (xi_220_1) (xi_220_2))
theorem xi_ok220 (pc : Nat) : xi_ok cX11_told (xi_220 pc) = true := xi_c (xi_ok220_0) (xi_c (xi_ok220_1) (xi_ok220_2))
def xi_221_0 : XIs := [(0, .aload_n 0, 1), (1, .invokevirtual 160, 3), (4, .astore_n 2, 1), (5, .aload_n 2, 1), (6, .iload_n 1, 1), (7, .invokevirtual 145, 3), (10, .invokestatic 94, 3), (13, .aload_n 2, 1), (14, .getfield 148, 3), (17, .iload_n 1, 1), (18, .iaload, 1), (19, .ireturn, 1)]
set_option maxRecDepth 100000 in
theorem xi_ok221_0 : xi_ok cX11_labelOf xi_221_0 = true := by decide +kernel
def xi_221 (pc : Nat) : XIs := xi_221_0
theorem xi_ok221 (pc : Nat) : xi_ok cX11_labelOf (xi_221 pc) = true := xi_ok221_0
def xi_222_0 : XIs := [(0, .aload_n 0, 1), (1, .invokevirtual 160, 3), (4, .astore 4, 2), (6, .aload 4, 2), (8, .iload_n 1, 1), (9, .invokevirtual 145, 3), (12, .ifCond .eq 20, 3), (15, .iload_n 2, 1), (16, .ifCond .lt 16, 3), (19, .iload_n 2, 1), (20, .iconst 1, 1), (21, .if_icmp .gt 11, 3), (24, .iload_n 3, 1), (25, .ifCond .lt 7, 3), (28, .iconst 1, 1), (29, .goto 4, 3)]
set_option maxRecDepth 100000 in
theorem xi_ok222_0 : xi_ok cX11_arcAt xi_222_0 = true := by decide +kernel
def xi_222_1 : XIs := [(32, .iconst 0, 1), (33, .invokestatic 94, 3), (36, .aload 4, 2), (38, .invokevirtual 182, 3), (41, .iload_n 2, 1), (42, .ifCond .ne 33, 3), (45, .iload_n 3, 1), (46, .aload 4, 2), (48, .iload_n 1, 1), (49, .invokevirtual 185, 3), (52, .if_icmp .ge 21, 3), (55, .aload 4, 2), (57, .getfield 188, 3), (60, .aload 4, 2), (62, .getfield 191, 3), (65, .iload_n 1, 1)]
set_option maxRecDepth 100000 in
theorem xi_ok222_1 : xi_ok cX11_arcAt xi_222_1 = true := by decide +kernel
def xi_222_2 : XIs := [(66, .iaload, 1), (67, .iload_n 3, 1), (68, .iadd, 1), (69, .iaload, 1), (70, .goto 4, 3), (73, .iconst (-1), 1), (74, .ireturn, 1), (75, .iload_n 3, 1), (76, .aload 4, 2), (78, .iload_n 1, 1), (79, .invokevirtual 194, 3), (82, .if_icmp .ge 21, 3), (85, .aload 4, 2), (87, .getfield 197, 3), (90, .aload 4, 2), (92, .getfield 200, 3)]
set_option maxRecDepth 100000 in
theorem xi_ok222_2 : xi_ok cX11_arcAt xi_222_2 = true := by decide +kernel
def xi_222_3 : XIs := [(95, .iload_n 1, 1), (96, .iaload, 1), (97, .iload_n 3, 1), (98, .iadd, 1), (99, .iaload, 1), (100, .goto 4, 3), (103, .iconst (-1), 1), (104, .ireturn, 1)]
set_option maxRecDepth 100000 in
theorem xi_ok222_3 : xi_ok cX11_arcAt xi_222_3 = true := by decide +kernel
def xi_222 (pc : Nat) : XIs := cond (Nat.blt pc 66) (cond (Nat.blt pc 32) (xi_222_0) (xi_222_1)) (cond (Nat.blt pc 95) (xi_222_2) (xi_222_3))
theorem xi_ok222 (pc : Nat) : xi_ok cX11_arcAt (xi_222 pc) = true := xi_c (xi_c (xi_ok222_0) (xi_ok222_1)) (xi_c (xi_ok222_2) (xi_ok222_3))
def xi_223_0 : XIs := [(0, .iload_n 1, 1), (1, .bipush 32, 2), (3, .if_icmp .lt 13, 3), (6, .iload_n 1, 1), (7, .bipush 126, 2), (9, .if_icmp .gt 7, 3), (12, .iconst 1, 1), (13, .goto 4, 3), (16, .iconst 0, 1), (17, .invokestatic 94, 3), (20, .aload_n 0, 1), (21, .getfield 30, 3), (24, .getfield 203, 3), (27, .sipush 1000, 3), (30, .if_icmp .ge 7, 3), (33, .iconst 1, 1)]
set_option maxRecDepth 100000 in
theorem xi_ok223_0 : xi_ok cX11_type xi_223_0 = true := by decide +kernel
def xi_223_1 : XIs := [(34, .goto 4, 3), (37, .iconst 0, 1), (38, .invokestatic 108, 3), (41, .aload_n 0, 1), (42, .getfield 30, 3), (45, .getfield 206, 3), (48, .aload_n 0, 1), (49, .getfield 30, 3), (52, .getfield 203, 3), (55, .iload_n 1, 1), (56, .i2c, 1), (57, .castore, 1), (58, .aload_n 0, 1), (59, .getfield 30, 3), (62, .dup, 1), (63, .getfield 203, 3)]
set_option maxRecDepth 100000 in
theorem xi_ok223_1 : xi_ok cX11_type xi_223_1 = true := by decide +kernel
def xi_223_2 : XIs := [(66, .iconst 1, 1), (67, .iadd, 1), (68, .putfield 203, 3), (71, .aload_n 0, 1), (72, .getfield 30, 3), (75, .getfield 203, 3), (78, .ireturn, 1)]
set_option maxRecDepth 100000 in
theorem xi_ok223_2 : xi_ok cX11_type xi_223_2 = true := by decide +kernel
def xi_223 (pc : Nat) : XIs := cond (Nat.blt pc 34) (xi_223_0) (cond (Nat.blt pc 66) (xi_223_1) (xi_223_2))
theorem xi_ok223 (pc : Nat) : xi_ok cX11_type (xi_223 pc) = true := xi_c (xi_ok223_0) (xi_c (xi_ok223_1) (xi_ok223_2))
def xi_224_0 : XIs := [(0, .aload_n 0, 1), (1, .getfield 30, 3), (4, .getfield 203, 3), (7, .istore_n 1, 1), (8, .aload_n 0, 1), (9, .getfield 30, 3), (12, .iconst 0, 1), (13, .putfield 203, 3), (16, .iload_n 1, 1), (17, .ireturn, 1)]
set_option maxRecDepth 100000 in
theorem xi_ok224_0 : xi_ok cX11_wipe xi_224_0 = true := by decide +kernel
def xi_224 (pc : Nat) : XIs := xi_224_0
theorem xi_ok224 (pc : Nat) : xi_ok cX11_wipe (xi_224 pc) = true := xi_ok224_0
def xi_225_0 : XIs := [(0, .aload_n 0, 1), (1, .getfield 10, 3), (4, .aload_n 0, 1), (5, .getfield 30, 3), (8, .invokevirtual 210, 3), (11, .ireturn, 1)]
set_option maxRecDepth 100000 in
theorem xi_ok225_0 : xi_ok cX11_load xi_225_0 = true := by decide +kernel
def xi_225 (pc : Nat) : XIs := xi_225_0
theorem xi_ok225 (pc : Nat) : xi_ok cX11_load (xi_225 pc) = true := xi_ok225_0
def xi_226_0 : XIs := [(0, .iload_n 1, 1), (1, .ifCond .lt 12, 3), (4, .iload_n 1, 1), (5, .iconst 1, 1), (6, .if_icmp .gt 7, 3), (9, .iconst 1, 1), (10, .goto 4, 3), (13, .iconst 0, 1), (14, .invokestatic 94, 3), (17, .iload_n 1, 1), (18, .ifCond .ne 13, 3), (21, .aload_n 0, 1), (22, .getfield 30, 3), (25, .getfield 214, 3), (28, .goto 10, 3), (31, .aload_n 0, 1)]
set_option maxRecDepth 100000 in
theorem xi_ok226_0 : xi_ok cX11_fault xi_226_0 = true := by decide +kernel
def xi_226_1 : XIs := [(32, .getfield 30, 3), (35, .getfield 217, 3), (38, .ireturn, 1)]
set_option maxRecDepth 100000 in
theorem xi_ok226_1 : xi_ok cX11_fault xi_226_1 = true := by decide +kernel
def xi_226 (pc : Nat) : XIs := cond (Nat.blt pc 32) (xi_226_0) (xi_226_1)
theorem xi_ok226 (pc : Nat) : xi_ok cX11_fault (xi_226 pc) = true := xi_c (xi_ok226_0) (xi_ok226_1)
def xi_227_0 : XIs := [(0, .aload_n 0, 1), (1, .getfield 30, 3), (4, .aload_n 0, 1), (5, .invokevirtual 160, 3), (8, .invokevirtual 220, 3), (11, .ireturn, 1)]
set_option maxRecDepth 100000 in
theorem xi_ok227_0 : xi_ok cX11_print xi_227_0 = true := by decide +kernel
def xi_227 (pc : Nat) : XIs := xi_227_0
theorem xi_ok227 (pc : Nat) : xi_ok cX11_print (xi_227 pc) = true := xi_ok227_0
def xi_228_0 : XIs := [(0, .iload_n 1, 1), (1, .ifCond .lt 18, 3), (4, .iload_n 1, 1), (5, .aload_n 0, 1), (6, .getfield 30, 3), (9, .getfield 224, 3), (12, .if_icmp .ge 7, 3), (15, .iconst 1, 1), (16, .goto 4, 3), (19, .iconst 0, 1), (20, .invokestatic 94, 3), (23, .aload_n 0, 1), (24, .getfield 30, 3), (27, .getfield 227, 3), (30, .iload_n 1, 1), (31, .caload, 1)]
set_option maxRecDepth 100000 in
theorem xi_ok228_0 : xi_ok cX11_printed xi_228_0 = true := by decide +kernel
def xi_228_1 : XIs := [(32, .ireturn, 1)]
set_option maxRecDepth 100000 in
theorem xi_ok228_1 : xi_ok cX11_printed xi_228_1 = true := by decide +kernel
def xi_228 (pc : Nat) : XIs := cond (Nat.blt pc 32) (xi_228_0) (xi_228_1)
theorem xi_ok228 (pc : Nat) : xi_ok cX11_printed (xi_228 pc) = true := xi_c (xi_ok228_0) (xi_ok228_1)
def xi_229_0 : XIs := [(0, .aload_n 0, 1), (1, .invokevirtual 160, 3), (4, .astore_n 3, 1), (5, .aload_n 3, 1), (6, .iload_n 1, 1), (7, .invokevirtual 145, 3), (10, .ifCond .eq 15, 3), (13, .aload_n 3, 1), (14, .iload_n 2, 1), (15, .invokevirtual 145, 3), (18, .ifCond .eq 7, 3), (21, .iconst 1, 1), (22, .goto 4, 3), (25, .iconst 0, 1), (26, .invokestatic 94, 3), (29, .aload_n 0, 1)]
set_option maxRecDepth 100000 in
theorem xi_ok229_0 : xi_ok cX11_distance xi_229_0 = true := by decide +kernel
def xi_229_1 : XIs := [(30, .getfield 37, 3), (33, .aload_n 3, 1), (34, .iload_n 1, 1), (35, .iload_n 2, 1), (36, .invokevirtual 230, 3), (39, .lreturn, 1)]
set_option maxRecDepth 100000 in
theorem xi_ok229_1 : xi_ok cX11_distance xi_229_1 = true := by decide +kernel
def xi_229 (pc : Nat) : XIs := cond (Nat.blt pc 30) (xi_229_0) (xi_229_1)
theorem xi_ok229 (pc : Nat) : xi_ok cX11_distance (xi_229 pc) = true := xi_c (xi_ok229_0) (xi_ok229_1)
def xi_230_0 : XIs := [(0, .aload_n 0, 1), (1, .invokevirtual 160, 3), (4, .astore 4, 2), (6, .aload 4, 2), (8, .iload_n 1, 1), (9, .invokevirtual 145, 3), (12, .ifCond .eq 20, 3), (15, .aload 4, 2), (17, .iload_n 2, 1), (18, .invokevirtual 145, 3), (21, .ifCond .eq 11, 3), (24, .iload_n 3, 1), (25, .ifCond .lt 7, 3), (28, .iconst 1, 1), (29, .goto 4, 3), (32, .iconst 0, 1)]
set_option maxRecDepth 100000 in
theorem xi_ok230_0 : xi_ok cX11_way xi_230_0 = true := by decide +kernel
def xi_230_1 : XIs := [(33, .invokestatic 94, 3), (36, .aload_n 0, 1), (37, .getfield 37, 3), (40, .aload 4, 2), (42, .iload_n 1, 1), (43, .iload_n 2, 1), (44, .iload_n 3, 1), (45, .invokevirtual 234, 3), (48, .ireturn, 1)]
set_option maxRecDepth 100000 in
theorem xi_ok230_1 : xi_ok cX11_way xi_230_1 = true := by decide +kernel
def xi_230 (pc : Nat) : XIs := cond (Nat.blt pc 33) (xi_230_0) (xi_230_1)
theorem xi_ok230 (pc : Nat) : xi_ok cX11_way (xi_230 pc) = true := xi_c (xi_ok230_0) (xi_ok230_1)
def xi_231_0 : XIs := [(0, .aload_n 0, 1), (1, .invokevirtual 160, 3), (4, .astore_n 3, 1), (5, .aload_n 3, 1), (6, .iload_n 1, 1), (7, .invokevirtual 145, 3), (10, .ifCond .eq 15, 3), (13, .aload_n 3, 1), (14, .iload_n 2, 1), (15, .invokevirtual 145, 3), (18, .ifCond .eq 7, 3), (21, .iconst 1, 1), (22, .goto 4, 3), (25, .iconst 0, 1), (26, .invokestatic 94, 3), (29, .aload_n 0, 1)]
set_option maxRecDepth 100000 in
theorem xi_ok231_0 : xi_ok cX11_width xi_231_0 = true := by decide +kernel
def xi_231_1 : XIs := [(30, .getfield 37, 3), (33, .aload_n 3, 1), (34, .iload_n 1, 1), (35, .iload_n 2, 1), (36, .invokevirtual 238, 3), (39, .ireturn, 1)]
set_option maxRecDepth 100000 in
theorem xi_ok231_1 : xi_ok cX11_width xi_231_1 = true := by decide +kernel
def xi_231 (pc : Nat) : XIs := cond (Nat.blt pc 30) (xi_231_0) (xi_231_1)
theorem xi_ok231 (pc : Nat) : xi_ok cX11_width (xi_231 pc) = true := xi_c (xi_ok231_0) (xi_ok231_1)
def xi_232_0 : XIs := [(0, .aload_n 0, 1), (1, .invokevirtual 160, 3), (4, .astore_n 3, 1), (5, .aload_n 3, 1), (6, .iload_n 1, 1), (7, .iload_n 2, 1), (8, .invokevirtual 242, 3), (11, .invokestatic 94, 3), (14, .aload_n 0, 1), (15, .getfield 37, 3), (18, .aload_n 3, 1), (19, .iload_n 1, 1), (20, .iload_n 2, 1), (21, .invokevirtual 245, 3), (24, .ireturn, 1)]
set_option maxRecDepth 100000 in
theorem xi_ok232_0 : xi_ok cX11_shorts xi_232_0 = true := by decide +kernel
def xi_232 (pc : Nat) : XIs := xi_232_0
theorem xi_ok232 (pc : Nat) : xi_ok cX11_shorts (xi_232 pc) = true := xi_ok232_0
def xi_233_0 : XIs := [(0, .aload_n 0, 1), (1, .invokevirtual 160, 3), (4, .astore 5, 2), (6, .aload 5, 2), (8, .iload_n 1, 1), (9, .iload_n 2, 1), (10, .invokevirtual 242, 3), (13, .ifCond .eq 16, 3), (16, .iload_n 3, 1), (17, .ifCond .lt 12, 3), (20, .iload 4, 2), (22, .ifCond .lt 7, 3), (25, .iconst 1, 1), (26, .goto 4, 3), (29, .iconst 0, 1), (30, .invokestatic 94, 3)]
set_option maxRecDepth 100000 in
theorem xi_ok233_0 : xi_ok cX11_shortArc xi_233_0 = true := by decide +kernel
def xi_233_1 : XIs := [(33, .aload_n 0, 1), (34, .getfield 37, 3), (37, .aload 5, 2), (39, .iload_n 1, 1), (40, .iload_n 2, 1), (41, .iload_n 3, 1), (42, .iload 4, 2), (44, .invokevirtual 248, 3), (47, .ireturn, 1)]
set_option maxRecDepth 100000 in
theorem xi_ok233_1 : xi_ok cX11_shortArc xi_233_1 = true := by decide +kernel
def xi_233 (pc : Nat) : XIs := cond (Nat.blt pc 33) (xi_233_0) (xi_233_1)
theorem xi_ok233 (pc : Nat) : xi_ok cX11_shortArc (xi_233 pc) = true := xi_c (xi_ok233_0) (xi_ok233_1)
def xi_234_0 : XIs := [(0, .aload_n 0, 1), (1, .invokevirtual 160, 3), (4, .astore_n 3, 1), (5, .iload_n 1, 1), (6, .ifCond .lt 20, 3), (9, .iload_n 1, 1), (10, .iconst 1, 1), (11, .if_icmp .gt 15, 3), (14, .aload_n 3, 1), (15, .iload_n 2, 1), (16, .invokevirtual 145, 3), (19, .ifCond .eq 7, 3), (22, .iconst 1, 1), (23, .goto 4, 3), (26, .iconst 0, 1), (27, .invokestatic 94, 3)]
set_option maxRecDepth 100000 in
theorem xi_ok234_0 : xi_ok cX11_part xi_234_0 = true := by decide +kernel
def xi_234_1 : XIs := [(30, .iload_n 1, 1), (31, .ifCond .ne 15, 3), (34, .aload_n 0, 1), (35, .getfield 44, 3), (38, .aload_n 3, 1), (39, .iload_n 2, 1), (40, .invokevirtual 252, 3), (43, .goto 12, 3), (46, .aload_n 0, 1), (47, .getfield 44, 3), (50, .aload_n 3, 1), (51, .iload_n 2, 1), (52, .invokevirtual 256, 3), (55, .ireturn, 1)]
set_option maxRecDepth 100000 in
theorem xi_ok234_1 : xi_ok cX11_part xi_234_1 = true := by decide +kernel
def xi_234 (pc : Nat) : XIs := cond (Nat.blt pc 30) (xi_234_0) (xi_234_1)
theorem xi_ok234 (pc : Nat) : xi_ok cX11_part (xi_234 pc) = true := xi_c (xi_ok234_0) (xi_ok234_1)
def xi_235_0 : XIs := [(0, .aload_n 0, 1), (1, .invokevirtual 160, 3), (4, .astore_n 2, 1), (5, .aload_n 2, 1), (6, .iload_n 1, 1), (7, .invokevirtual 123, 3), (10, .invokestatic 94, 3), (13, .aload_n 0, 1), (14, .getfield 44, 3), (17, .aload_n 2, 1), (18, .iload_n 1, 1), (19, .invokevirtual 259, 3), (22, .ireturn, 1)]
set_option maxRecDepth 100000 in
theorem xi_ok235_0 : xi_ok cX11_bridge xi_235_0 = true := by decide +kernel
def xi_235 (pc : Nat) : XIs := xi_235_0
theorem xi_ok235 (pc : Nat) : xi_ok cX11_bridge (xi_235 pc) = true := xi_ok235_0
def xi_236_0 : XIs := [(0, .aload_n 0, 1), (1, .invokevirtual 160, 3), (4, .astore_n 2, 1), (5, .aload_n 2, 1), (6, .iload_n 1, 1), (7, .invokevirtual 145, 3), (10, .invokestatic 94, 3), (13, .aload_n 0, 1), (14, .getfield 44, 3), (17, .aload_n 2, 1), (18, .iload_n 1, 1), (19, .invokevirtual 263, 3), (22, .ireturn, 1)]
set_option maxRecDepth 100000 in
theorem xi_ok236_0 : xi_ok cX11_cut xi_236_0 = true := by decide +kernel
def xi_236 (pc : Nat) : XIs := xi_236_0
theorem xi_ok236 (pc : Nat) : xi_ok cX11_cut (xi_236 pc) = true := xi_ok236_0
def xi_237_0 : XIs := [(0, .iload_n 1, 1), (1, .ifCond .lt 7, 3), (4, .iconst 1, 1), (5, .goto 4, 3), (8, .iconst 0, 1), (9, .invokestatic 94, 3), (12, .aload_n 0, 1), (13, .getfield 44, 3), (16, .aload_n 0, 1), (17, .invokevirtual 160, 3), (20, .iload_n 1, 1), (21, .invokevirtual 266, 3), (24, .ireturn, 1)]
set_option maxRecDepth 100000 in
theorem xi_ok237_0 : xi_ok cX11_order xi_237_0 = true := by decide +kernel
def xi_237 (pc : Nat) : XIs := xi_237_0
theorem xi_ok237 (pc : Nat) : xi_ok cX11_order (xi_237 pc) = true := xi_ok237_0
def xi_238_0 : XIs := [(0, .aload_n 0, 1), (1, .invokevirtual 160, 3), (4, .astore_n 2, 1), (5, .aload_n 2, 1), (6, .iload_n 1, 1), (7, .invokevirtual 145, 3), (10, .invokestatic 94, 3), (13, .aload_n 0, 1), (14, .getfield 44, 3), (17, .aload_n 2, 1), (18, .iload_n 1, 1), (19, .invokevirtual 269, 3), (22, .ireturn, 1)]
set_option maxRecDepth 100000 in
theorem xi_ok238_0 : xi_ok cX11_core xi_238_0 = true := by decide +kernel
def xi_238 (pc : Nat) : XIs := xi_238_0
theorem xi_ok238 (pc : Nat) : xi_ok cX11_core (xi_238 pc) = true := xi_ok238_0
def xi_239_0 : XIs := [(0, .iload_n 1, 1), (1, .ifCond .lt 7, 3), (4, .iconst 1, 1), (5, .goto 4, 3), (8, .iconst 0, 1), (9, .invokestatic 94, 3), (12, .aload_n 0, 1), (13, .getfield 51, 3), (16, .aload_n 0, 1), (17, .invokevirtual 160, 3), (20, .invokevirtual 272, 3), (23, .istore_n 2, 1), (24, .iload_n 1, 1), (25, .iload_n 2, 1), (26, .invokestatic 275, 3), (29, .if_icmp .lt 5, 3)]
set_option maxRecDepth 100000 in
theorem xi_ok239_0 : xi_ok cX11_clique xi_239_0 = true := by decide +kernel
def xi_239_1 : XIs := [(32, .iconst (-1), 1), (33, .ireturn, 1), (34, .iconst 0, 1), (35, .istore_n 3, 1), (36, .iload_n 3, 1), (37, .iload_n 1, 1), (38, .if_icmp .ge 15, 3), (41, .iload_n 2, 1), (42, .iload_n 2, 1), (43, .iconst 1, 1), (44, .isub, 1), (45, .iand, 1), (46, .istore_n 2, 1), (47, .iinc 3 1, 3), (50, .goto (-14), 3), (53, .iload_n 2, 1)]
set_option maxRecDepth 100000 in
theorem xi_ok239_1 : xi_ok cX11_clique xi_239_1 = true := by decide +kernel
def xi_239_2 : XIs := [(54, .invokestatic 280, 3), (57, .ireturn, 1)]
set_option maxRecDepth 100000 in
theorem xi_ok239_2 : xi_ok cX11_clique xi_239_2 = true := by decide +kernel
def xi_239 (pc : Nat) : XIs := cond (Nat.blt pc 32) (xi_239_0) (cond (Nat.blt pc 54) (xi_239_1) (xi_239_2))
theorem xi_ok239 (pc : Nat) : xi_ok cX11_clique (xi_239 pc) = true := xi_c (xi_ok239_0) (xi_c (xi_ok239_1) (xi_ok239_2))
def xi_240_0 : XIs := [(0, .aload_n 0, 1), (1, .invokevirtual 160, 3), (4, .astore_n 2, 1), (5, .aload_n 2, 1), (6, .iload_n 1, 1), (7, .invokevirtual 145, 3), (10, .invokestatic 94, 3), (13, .aload_n 0, 1), (14, .getfield 51, 3), (17, .aload_n 2, 1), (18, .iload_n 1, 1), (19, .invokevirtual 283, 3), (22, .ireturn, 1)]
set_option maxRecDepth 100000 in
theorem xi_ok240_0 : xi_ok cX11_colour xi_240_0 = true := by decide +kernel
def xi_240 (pc : Nat) : XIs := xi_240_0
theorem xi_ok240 (pc : Nat) : xi_ok cX11_colour (xi_240 pc) = true := xi_ok240_0
def xi_241_0 : XIs := [(0, .aload_n 0, 1), (1, .invokevirtual 160, 3), (4, .astore_n 3, 1), (5, .aload_n 3, 1), (6, .iload_n 1, 1), (7, .iload_n 2, 1), (8, .invokevirtual 242, 3), (11, .invokestatic 94, 3), (14, .aload_n 0, 1), (15, .getfield 58, 3), (18, .aload_n 3, 1), (19, .iload_n 1, 1), (20, .iload_n 2, 1), (21, .invokevirtual 286, 3), (24, .lreturn, 1)]
set_option maxRecDepth 100000 in
theorem xi_ok241_0 : xi_ok cX11_flow xi_241_0 = true := by decide +kernel
def xi_241 (pc : Nat) : XIs := xi_241_0
theorem xi_ok241 (pc : Nat) : xi_ok cX11_flow (xi_241 pc) = true := xi_ok241_0
def xi_242_0 : XIs := [(0, .aload_n 0, 1), (1, .invokevirtual 160, 3), (4, .astore 4, 2), (6, .aload 4, 2), (8, .iload_n 1, 1), (9, .iload_n 2, 1), (10, .invokevirtual 242, 3), (13, .ifCond .eq 16, 3), (16, .aload 4, 2), (18, .iload_n 3, 1), (19, .invokevirtual 145, 3), (22, .ifCond .eq 7, 3), (25, .iconst 1, 1), (26, .goto 4, 3), (29, .iconst 0, 1), (30, .invokestatic 94, 3)]
set_option maxRecDepth 100000 in
theorem xi_ok242_0 : xi_ok cX11_side xi_242_0 = true := by decide +kernel
def xi_242_1 : XIs := [(33, .aload_n 0, 1), (34, .getfield 58, 3), (37, .aload 4, 2), (39, .iload_n 1, 1), (40, .iload_n 2, 1), (41, .invokevirtual 286, 3), (44, .pop2, 1), (45, .aload_n 0, 1), (46, .getfield 58, 3), (49, .getfield 289, 3), (52, .iload_n 3, 1), (53, .ishr, 1), (54, .iconst 1, 1), (55, .iand, 1), (56, .ifCond .eq 7, 3), (59, .iconst 1, 1)]
set_option maxRecDepth 100000 in
theorem xi_ok242_1 : xi_ok cX11_side xi_242_1 = true := by decide +kernel
def xi_242_2 : XIs := [(60, .goto 4, 3), (63, .iconst 0, 1), (64, .ireturn, 1)]
set_option maxRecDepth 100000 in
theorem xi_ok242_2 : xi_ok cX11_side xi_242_2 = true := by decide +kernel
def xi_242 (pc : Nat) : XIs := cond (Nat.blt pc 33) (xi_242_0) (cond (Nat.blt pc 60) (xi_242_1) (xi_242_2))
theorem xi_ok242 (pc : Nat) : xi_ok cX11_side (xi_242 pc) = true := xi_c (xi_ok242_0) (xi_c (xi_ok242_1) (xi_ok242_2))
def xi_243_0 : XIs := [(0, .aload_n 0, 1), (1, .invokevirtual 160, 3), (4, .astore 4, 2), (6, .aload 4, 2), (8, .iload_n 1, 1), (9, .iload_n 2, 1), (10, .invokevirtual 242, 3), (13, .ifCond .eq 18, 3), (16, .iload_n 3, 1), (17, .ifCond .lt 14, 3), (20, .iload_n 3, 1), (21, .ldc_w 292, 3), (24, .if_icmp .gt 7, 3), (27, .iconst 1, 1), (28, .goto 4, 3), (31, .iconst 0, 1)]
set_option maxRecDepth 100000 in
theorem xi_ok243_0 : xi_ok cX11_cost xi_243_0 = true := by decide +kernel
def xi_243_1 : XIs := [(32, .invokestatic 94, 3), (35, .aload_n 0, 1), (36, .getfield 58, 3), (39, .aload 4, 2), (41, .iload_n 1, 1), (42, .iload_n 2, 1), (43, .iload_n 3, 1), (44, .invokevirtual 293, 3), (47, .lreturn, 1)]
set_option maxRecDepth 100000 in
theorem xi_ok243_1 : xi_ok cX11_cost xi_243_1 = true := by decide +kernel
def xi_243 (pc : Nat) : XIs := cond (Nat.blt pc 32) (xi_243_0) (xi_243_1)
theorem xi_ok243 (pc : Nat) : xi_ok cX11_cost (xi_243 pc) = true := xi_c (xi_ok243_0) (xi_ok243_1)
def xi_244_0 : XIs := [(0, .iload_n 1, 1), (1, .ifCond .lt 12, 3), (4, .iload_n 1, 1), (5, .iconst 1, 1), (6, .if_icmp .gt 7, 3), (9, .iconst 1, 1), (10, .goto 4, 3), (13, .iconst 0, 1), (14, .invokestatic 94, 3), (17, .aload_n 0, 1), (18, .getfield 58, 3), (21, .aload_n 0, 1), (22, .invokevirtual 160, 3), (25, .invokevirtual 297, 3), (28, .iload_n 1, 1), (29, .ifCond .ne 14, 3)]
set_option maxRecDepth 100000 in
theorem xi_ok244_0 : xi_ok cX11_pairing xi_244_0 = true := by decide +kernel
def xi_244_1 : XIs := [(32, .aload_n 0, 1), (33, .getfield 58, 3), (36, .getfield 301, 3), (39, .i2l, 1), (40, .goto 10, 3), (43, .aload_n 0, 1), (44, .getfield 58, 3), (47, .getfield 304, 3), (50, .lreturn, 1)]
set_option maxRecDepth 100000 in
theorem xi_ok244_1 : xi_ok cX11_pairing xi_244_1 = true := by decide +kernel
def xi_244 (pc : Nat) : XIs := cond (Nat.blt pc 32) (xi_244_0) (xi_244_1)
theorem xi_ok244 (pc : Nat) : xi_ok cX11_pairing (xi_244 pc) = true := xi_c (xi_ok244_0) (xi_ok244_1)
def xi_245_0 : XIs := [(0, .aload_n 0, 1), (1, .invokevirtual 160, 3), (4, .astore_n 2, 1), (5, .aload_n 2, 1), (6, .iload_n 1, 1), (7, .invokevirtual 145, 3), (10, .invokestatic 94, 3), (13, .aload_n 0, 1), (14, .getfield 65, 3), (17, .aload_n 2, 1), (18, .iload_n 1, 1), (19, .invokevirtual 308, 3), (22, .lreturn, 1)]
set_option maxRecDepth 100000 in
theorem xi_ok245_0 : xi_ok cX11_tree xi_245_0 = true := by decide +kernel
def xi_245 (pc : Nat) : XIs := xi_245_0
theorem xi_ok245 (pc : Nat) : xi_ok cX11_tree (xi_245 pc) = true := xi_ok245_0
def xi_246_0 : XIs := [(0, .aload_n 0, 1), (1, .invokevirtual 160, 3), (4, .astore_n 2, 1), (5, .aload_n 2, 1), (6, .iload_n 1, 1), (7, .invokevirtual 123, 3), (10, .invokestatic 94, 3), (13, .aload_n 0, 1), (14, .getfield 65, 3), (17, .aload_n 2, 1), (18, .iload_n 1, 1), (19, .invokevirtual 312, 3), (22, .ireturn, 1)]
set_option maxRecDepth 100000 in
theorem xi_ok246_0 : xi_ok cX11_span xi_246_0 = true := by decide +kernel
def xi_246 (pc : Nat) : XIs := xi_246_0
theorem xi_ok246 (pc : Nat) : xi_ok cX11_span (xi_246 pc) = true := xi_ok246_0
def xi_247_0 : XIs := [(0, .aload_n 0, 1), (1, .getfield 65, 3), (4, .aload_n 0, 1), (5, .invokevirtual 160, 3), (8, .invokevirtual 315, 3), (11, .ireturn, 1)]
set_option maxRecDepth 100000 in
theorem xi_ok247_0 : xi_ok cX11_trees xi_247_0 = true := by decide +kernel
def xi_247 (pc : Nat) : XIs := xi_247_0
theorem xi_ok247 (pc : Nat) : xi_ok cX11_trees (xi_247 pc) = true := xi_ok247_0
def xi_248_0 : XIs := [(0, .aload_n 0, 1), (1, .invokevirtual 160, 3), (4, .astore_n 3, 1), (5, .aload_n 3, 1), (6, .iload_n 1, 1), (7, .invokevirtual 145, 3), (10, .ifCond .eq 17, 3), (13, .iload_n 2, 1), (14, .ifCond .lt 13, 3), (17, .iload_n 2, 1), (18, .bipush 40, 2), (20, .if_icmp .gt 7, 3), (23, .iconst 1, 1), (24, .goto 4, 3), (27, .iconst 0, 1), (28, .invokestatic 94, 3)]
set_option maxRecDepth 100000 in
theorem xi_ok248_0 : xi_ok cX11_rank xi_248_0 = true := by decide +kernel
def xi_248_1 : XIs := [(31, .aload_n 0, 1), (32, .getfield 72, 3), (35, .aload_n 3, 1), (36, .iload_n 1, 1), (37, .iload_n 2, 1), (38, .invokevirtual 318, 3), (41, .lreturn, 1)]
set_option maxRecDepth 100000 in
theorem xi_ok248_1 : xi_ok cX11_rank xi_248_1 = true := by decide +kernel
def xi_248 (pc : Nat) : XIs := cond (Nat.blt pc 31) (xi_248_0) (xi_248_1)
theorem xi_ok248 (pc : Nat) : xi_ok cX11_rank (xi_248 pc) = true := xi_c (xi_ok248_0) (xi_ok248_1)
def xi_249_0 : XIs := [(0, .aload_n 0, 1), (1, .invokevirtual 160, 3), (4, .astore 5, 2), (6, .aload 5, 2), (8, .iload_n 1, 1), (9, .invokevirtual 145, 3), (12, .ifCond .eq 35, 3), (15, .aload 5, 2), (17, .iload_n 2, 1), (18, .invokevirtual 145, 3), (21, .ifCond .eq 26, 3), (24, .iload_n 3, 1), (25, .ifCond .lt 22, 3), (28, .iload_n 3, 1), (29, .iconst 2, 1), (30, .if_icmp .gt 17, 3)]
set_option maxRecDepth 100000 in
theorem xi_ok249_0 : xi_ok cX11_shortest xi_249_0 = true := by decide +kernel
def xi_249_1 : XIs := [(33, .aload 5, 2), (35, .iload 4, 2), (37, .invokevirtual 145, 3), (40, .ifCond .eq 7, 3), (43, .iconst 1, 1), (44, .goto 4, 3), (47, .iconst 0, 1), (48, .invokestatic 94, 3), (51, .iload_n 3, 1), (52, .ifCond .ne 15, 3), (55, .aload_n 0, 1), (56, .getfield 37, 3), (59, .aload 5, 2), (61, .iload_n 1, 1), (62, .iload_n 2, 1), (63, .invokevirtual 321, 3)]
set_option maxRecDepth 100000 in
theorem xi_ok249_1 : xi_ok cX11_shortest xi_249_1 = true := by decide +kernel
def xi_249_2 : XIs := [(66, .ireturn, 1), (67, .iload_n 3, 1), (68, .iconst 1, 1), (69, .if_icmp .ne 18, 3), (72, .aload_n 0, 1), (73, .getfield 37, 3), (76, .aload 5, 2), (78, .iload_n 1, 1), (79, .iload_n 2, 1), (80, .iload_n 1, 1), (81, .invokevirtual 324, 3), (84, .goto 16, 3), (87, .aload_n 0, 1), (88, .getfield 37, 3), (91, .aload 5, 2), (93, .iload_n 1, 1)]
set_option maxRecDepth 100000 in
theorem xi_ok249_2 : xi_ok cX11_shortest xi_249_2 = true := by decide +kernel
def xi_249_3 : XIs := [(94, .iload_n 2, 1), (95, .iload 4, 2), (97, .invokevirtual 324, 3), (100, .ireturn, 1)]
set_option maxRecDepth 100000 in
theorem xi_ok249_3 : xi_ok cX11_shortest xi_249_3 = true := by decide +kernel
def xi_249 (pc : Nat) : XIs := cond (Nat.blt pc 66) (cond (Nat.blt pc 33) (xi_249_0) (xi_249_1)) (cond (Nat.blt pc 94) (xi_249_2) (xi_249_3))
theorem xi_ok249 (pc : Nat) : xi_ok cX11_shortest (xi_249 pc) = true := xi_c (xi_c (xi_ok249_0) (xi_ok249_1)) (xi_c (xi_ok249_2) (xi_ok249_3))
def xi_250_0 : XIs := [(0, .aload_n 0, 1), (1, .invokevirtual 160, 3), (4, .astore_n 2, 1), (5, .aload_n 2, 1), (6, .iload_n 1, 1), (7, .invokevirtual 145, 3), (10, .invokestatic 94, 3), (13, .aload_n 0, 1), (14, .getfield 72, 3), (17, .aload_n 2, 1), (18, .iload_n 1, 1), (19, .invokevirtual 327, 3), (22, .ireturn, 1)]
set_option maxRecDepth 100000 in
theorem xi_ok250_0 : xi_ok cX11_group xi_250_0 = true := by decide +kernel
def xi_250 (pc : Nat) : XIs := xi_250_0
theorem xi_ok250 (pc : Nat) : xi_ok cX11_group (xi_250 pc) = true := xi_ok250_0
def xi_251_0 : XIs := [(0, .aload_n 0, 1), (1, .getfield 72, 3), (4, .aload_n 0, 1), (5, .invokevirtual 160, 3), (8, .invokevirtual 330, 3), (11, .lreturn, 1)]
set_option maxRecDepth 100000 in
theorem xi_ok251_0 : xi_ok cX11_gain xi_251_0 = true := by decide +kernel
def xi_251 (pc : Nat) : XIs := xi_251_0
theorem xi_ok251 (pc : Nat) : xi_ok cX11_gain (xi_251 pc) = true := xi_ok251_0
def xi_252_0 : XIs := [(0, .iload_n 1, 1), (1, .ifCond .lt 12, 3), (4, .iload_n 1, 1), (5, .iconst 1, 1), (6, .if_icmp .gt 7, 3), (9, .iconst 1, 1), (10, .goto 4, 3), (13, .iconst 0, 1), (14, .invokestatic 94, 3), (17, .iload_n 1, 1), (18, .ifCond .ne 17, 3), (21, .aload_n 0, 1), (22, .getfield 44, 3), (25, .aload_n 0, 1), (26, .invokevirtual 160, 3), (29, .invokevirtual 334, 3)]
set_option maxRecDepth 100000 in
theorem xi_ok252_0 : xi_ok cX11_figures xi_252_0 = true := by decide +kernel
def xi_252_1 : XIs := [(32, .goto 14, 3), (35, .aload_n 0, 1), (36, .getfield 44, 3), (39, .aload_n 0, 1), (40, .invokevirtual 160, 3), (43, .invokevirtual 337, 3), (46, .lreturn, 1)]
set_option maxRecDepth 100000 in
theorem xi_ok252_1 : xi_ok cX11_figures xi_252_1 = true := by decide +kernel
def xi_252 (pc : Nat) : XIs := cond (Nat.blt pc 32) (xi_252_0) (xi_252_1)
theorem xi_ok252 (pc : Nat) : xi_ok cX11_figures (xi_252 pc) = true := xi_c (xi_ok252_0) (xi_ok252_1)
def xi_253_0 : XIs := [(0, .aload_n 0, 1), (1, .getfield 79, 3), (4, .aload_n 0, 1), (5, .getfield 30, 3), (8, .invokevirtual 340, 3), (11, .ifCond .eq 7, 3), (14, .iconst 0, 1), (15, .goto 5, 3), (18, .bipush (-4), 2), (20, .ireturn, 1)]
set_option maxRecDepth 100000 in
theorem xi_ok253_0 : xi_ok cX11_pattern xi_253_0 = true := by decide +kernel
def xi_253 (pc : Nat) : XIs := xi_253_0
theorem xi_ok253 (pc : Nat) : xi_ok cX11_pattern (xi_253 pc) = true := xi_ok253_0
def xi_254_0 : XIs := [(0, .aload_n 0, 1), (1, .invokevirtual 160, 3), (4, .astore_n 3, 1), (5, .aload_n 3, 1), (6, .iload_n 1, 1), (7, .invokevirtual 145, 3), (10, .ifCond .eq 15, 3), (13, .aload_n 3, 1), (14, .iload_n 2, 1), (15, .invokevirtual 145, 3), (18, .ifCond .eq 7, 3), (21, .iconst 1, 1), (22, .goto 4, 3), (25, .iconst 0, 1), (26, .invokestatic 94, 3), (29, .aload_n 0, 1)]
set_option maxRecDepth 100000 in
theorem xi_ok254_0 : xi_ok cX11_fits xi_254_0 = true := by decide +kernel
def xi_254_1 : XIs := [(30, .getfield 79, 3), (33, .aload_n 3, 1), (34, .iload_n 1, 1), (35, .iload_n 2, 1), (36, .invokevirtual 344, 3), (39, .ireturn, 1)]
set_option maxRecDepth 100000 in
theorem xi_ok254_1 : xi_ok cX11_fits xi_254_1 = true := by decide +kernel
def xi_254 (pc : Nat) : XIs := cond (Nat.blt pc 30) (xi_254_0) (xi_254_1)
theorem xi_ok254 (pc : Nat) : xi_ok cX11_fits (xi_254 pc) = true := xi_c (xi_ok254_0) (xi_ok254_1)
def xi_255_0 : XIs := [(0, .aload_n 0, 1), (1, .getfield 86, 3), (4, .aload_n 0, 1), (5, .getfield 30, 3), (8, .invokevirtual 347, 3), (11, .ifCond .eq 7, 3), (14, .iconst 0, 1), (15, .goto 5, 3), (18, .bipush (-4), 2), (20, .ireturn, 1)]
set_option maxRecDepth 100000 in
theorem xi_ok255_0 : xi_ok cX11_program xi_255_0 = true := by decide +kernel
def xi_255 (pc : Nat) : XIs := xi_255_0
theorem xi_ok255 (pc : Nat) : xi_ok cX11_program (xi_255 pc) = true := xi_ok255_0
def xi_256_0 : XIs := [(0, .iload_n 1, 1), (1, .ifCond .lt 34, 3), (4, .iload_n 1, 1), (5, .sipush 200, 3), (8, .if_icmp .gt 27, 3), (11, .iload_n 2, 1), (12, .iconst 1, 1), (13, .if_icmp .lt 22, 3), (16, .iload_n 2, 1), (17, .iconst 4, 1), (18, .if_icmp .gt 17, 3), (21, .iload_n 3, 1), (22, .ifCond .lt 13, 3), (25, .iload_n 3, 1), (26, .bipush 90, 2), (28, .if_icmp .gt 7, 3)]
set_option maxRecDepth 100000 in
theorem xi_ok256_0 : xi_ok cX11_run xi_256_0 = true := by decide +kernel
def xi_256_1 : XIs := [(31, .iconst 1, 1), (32, .goto 4, 3), (35, .iconst 0, 1), (36, .invokestatic 94, 3), (39, .aload_n 0, 1), (40, .invokevirtual 160, 3), (43, .astore 6, 2), (45, .aload_n 0, 1), (46, .getfield 86, 3), (49, .aload 6, 2), (51, .iload_n 1, 1), (52, .invokevirtual 348, 3), (55, .istore 7, 2), (57, .aload_n 0, 1), (58, .getfield 86, 3), (61, .aload 6, 2)]
set_option maxRecDepth 100000 in
theorem xi_ok256_1 : xi_ok cX11_run xi_256_1 = true := by decide +kernel
def xi_256_2 : XIs := [(63, .iload 7, 2), (65, .iload_n 2, 1), (66, .iload_n 3, 1), (67, .lload 4, 2), (69, .invokevirtual 351, 3), (72, .iload 7, 2), (74, .ireturn, 1)]
set_option maxRecDepth 100000 in
theorem xi_ok256_2 : xi_ok cX11_run xi_256_2 = true := by decide +kernel
def xi_256 (pc : Nat) : XIs := cond (Nat.blt pc 31) (xi_256_0) (cond (Nat.blt pc 63) (xi_256_1) (xi_256_2))
theorem xi_ok256 (pc : Nat) : xi_ok cX11_run (xi_256 pc) = true := xi_c (xi_ok256_0) (xi_c (xi_ok256_1) (xi_ok256_2))
def xi_257_0 : XIs := [(0, .iload_n 1, 1), (1, .ifCond .lt 18, 3), (4, .iload_n 1, 1), (5, .aload_n 0, 1), (6, .getfield 86, 3), (9, .getfield 355, 3), (12, .if_icmp .ge 7, 3), (15, .iconst 1, 1), (16, .goto 4, 3), (19, .iconst 0, 1), (20, .invokestatic 94, 3), (23, .aload_n 0, 1), (24, .getfield 86, 3), (27, .getfield 356, 3), (30, .iload_n 1, 1), (31, .laload, 1)]
set_option maxRecDepth 100000 in
theorem xi_ok257_0 : xi_ok cX11_state xi_257_0 = true := by decide +kernel
def xi_257_1 : XIs := [(32, .lreturn, 1)]
set_option maxRecDepth 100000 in
theorem xi_ok257_1 : xi_ok cX11_state xi_257_1 = true := by decide +kernel
def xi_257 (pc : Nat) : XIs := cond (Nat.blt pc 32) (xi_257_0) (xi_257_1)
theorem xi_ok257 (pc : Nat) : xi_ok cX11_state (xi_257 pc) = true := xi_c (xi_ok257_0) (xi_ok257_1)
def xi_258_0 : XIs := [(0, .iload_n 1, 1), (1, .ifCond .lt 12, 3), (4, .iload_n 1, 1), (5, .iconst 2, 1), (6, .if_icmp .gt 7, 3), (9, .iconst 1, 1), (10, .goto 4, 3), (13, .iconst 0, 1), (14, .invokestatic 94, 3), (17, .iload_n 1, 1), (18, .ifCond .ne 11, 3), (21, .aload_n 0, 1), (22, .getfield 86, 3), (25, .getfield 360, 3), (28, .ireturn, 1), (29, .iload_n 1, 1)]
set_option maxRecDepth 100000 in
theorem xi_ok258_0 : xi_ok cX11_letters xi_258_0 = true := by decide +kernel
def xi_258_1 : XIs := [(30, .iconst 1, 1), (31, .if_icmp .ne 13, 3), (34, .aload_n 0, 1), (35, .getfield 86, 3), (38, .getfield 363, 3), (41, .goto 10, 3), (44, .aload_n 0, 1), (45, .getfield 86, 3), (48, .getfield 366, 3), (51, .ireturn, 1)]
set_option maxRecDepth 100000 in
theorem xi_ok258_1 : xi_ok cX11_letters xi_258_1 = true := by decide +kernel
def xi_258 (pc : Nat) : XIs := cond (Nat.blt pc 30) (xi_258_0) (xi_258_1)
theorem xi_ok258 (pc : Nat) : xi_ok cX11_letters (xi_258 pc) = true := xi_c (xi_ok258_0) (xi_ok258_1)
def xi_259_0 : XIs := [(0, .aload_n 0, 1), (1, .getfield 23, 3), (4, .iconst (-1), 1), (5, .if_icmp .ne 13, 3), (8, .aload_n 0, 1), (9, .getfield 10, 3), (12, .getfield 98, 3), (15, .goto 7, 3), (18, .aload_n 0, 1), (19, .getfield 19, 3), (22, .areturn, 1)]
set_option maxRecDepth 100000 in
theorem xi_ok259_0 : xi_ok cX11_graph xi_259_0 = true := by decide +kernel
def xi_259 (pc : Nat) : XIs := xi_259_0
theorem xi_ok259 (pc : Nat) : xi_ok cX11_graph (xi_259 pc) = true := xi_ok259_0
def xi_260_0 : XIs := [(0, .iload_n 0, 1), (1, .ifCond .lt 13, 3), (4, .iload_n 0, 1), (5, .bipush 26, 2), (7, .if_icmp .ge 7, 3), (10, .iconst 1, 1), (11, .goto 4, 3), (14, .iconst 0, 1), (15, .ireturn, 1)]
set_option maxRecDepth 100000 in
theorem xi_ok260_0 : xi_ok cX11_isLetter xi_260_0 = true := by decide +kernel
def xi_260 (pc : Nat) : XIs := xi_260_0
theorem xi_ok260 (pc : Nat) : xi_ok cX11_isLetter (xi_260 pc) = true := xi_ok260_0
def xi_261_0 : XIs := [(0, .iload_n 0, 1), (1, .ldc_w 375, 3), (4, .if_icmp .lt 14, 3), (7, .iload_n 0, 1), (8, .ldc_w 376, 3), (11, .if_icmp .gt 7, 3), (14, .iconst 1, 1), (15, .goto 4, 3), (18, .iconst 0, 1), (19, .ireturn, 1)]
set_option maxRecDepth 100000 in
theorem xi_ok261_0 : xi_ok cX11_isWeight xi_261_0 = true := by decide +kernel
def xi_261 (pc : Nat) : XIs := xi_261_0
theorem xi_ok261 (pc : Nat) : xi_ok cX11_isWeight (xi_261 pc) = true := xi_ok261_0
def xi_262_0 : XIs := [(0, .iload_n 0, 1), (1, .ifCond .lt 14, 3), (4, .iload_n 0, 1), (5, .ldc_w 376, 3), (8, .if_icmp .gt 7, 3), (11, .iconst 1, 1), (12, .goto 4, 3), (15, .iconst 0, 1), (16, .ireturn, 1)]
set_option maxRecDepth 100000 in
theorem xi_ok262_0 : xi_ok cX11_isRoom xi_262_0 = true := by decide +kernel
def xi_262 (pc : Nat) : XIs := xi_262_0
theorem xi_ok262 (pc : Nat) : xi_ok cX11_isRoom (xi_262 pc) = true := xi_ok262_0
def xi_263_0 : XIs := [(0, .iload_n 0, 1), (1, .ifCond .ne 8, 3), (4, .iload_n 1, 1), (5, .invokestatic 377, 3), (8, .ireturn, 1), (9, .iload_n 0, 1), (10, .iconst 1, 1), (11, .if_icmp .ne 8, 3), (14, .iload_n 1, 1), (15, .invokestatic 380, 3), (18, .ireturn, 1), (19, .iload_n 0, 1), (20, .iconst 2, 1), (21, .if_icmp .ne 14, 3), (24, .iload_n 1, 1), (25, .invokestatic 90, 3)]
set_option maxRecDepth 100000 in
theorem xi_ok263_0 : xi_ok cX11_isGoodValue xi_263_0 = true := by decide +kernel
def xi_263_1 : XIs := [(28, .ifCond .eq 7, 3), (31, .iconst 1, 1), (32, .goto 4, 3), (35, .iconst 0, 1), (36, .ireturn, 1)]
set_option maxRecDepth 100000 in
theorem xi_ok263_1 : xi_ok cX11_isGoodValue xi_263_1 = true := by decide +kernel
def xi_263 (pc : Nat) : XIs := cond (Nat.blt pc 28) (xi_263_0) (xi_263_1)
theorem xi_ok263 (pc : Nat) : xi_ok cX11_isGoodValue (xi_263 pc) = true := xi_c (xi_ok263_0) (xi_ok263_1)
def xi_264_0 : XIs := [(0, .iload_n 0, 1), (1, .iload_n 0, 1), (2, .ineg, 1), (3, .iand, 1), (4, .iconst 1, 1), (5, .isub, 1), (6, .invokestatic 275, 3), (9, .ireturn, 1)]
set_option maxRecDepth 100000 in
theorem xi_ok264_0 : xi_ok cX11_lowest xi_264_0 = true := by decide +kernel
def xi_264 (pc : Nat) : XIs := xi_264_0
theorem xi_ok264 (pc : Nat) : xi_ok cX11_lowest (xi_264 pc) = true := xi_ok264_0
def xi_265_0 : XIs := [(0, .lload_n 0, 1), (1, .lload_n 0, 1), (2, .lneg, 1), (3, .land, 1), (4, .lconst 1, 1), (5, .lsub, 1), (6, .invokestatic 383, 3), (9, .ireturn, 1)]
set_option maxRecDepth 100000 in
theorem xi_ok265_0 : xi_ok cX11_lowestOfLong xi_265_0 = true := by decide +kernel
def xi_265 (pc : Nat) : XIs := xi_265_0
theorem xi_ok265 (pc : Nat) : xi_ok cX11_lowestOfLong (xi_265 pc) = true := xi_ok265_0
def xi_266_0 : XIs := [(0, .iload_n 1, 1), (1, .istore_n 3, 1), (2, .iload_n 1, 1), (3, .istore 4, 2), (5, .iconst 0, 1), (6, .istore 5, 2), (8, .iload 5, 2), (10, .bipush 32, 2), (12, .if_icmp .ge 50, 3), (15, .iload 4, 2), (17, .ifCond .eq 45, 3), (20, .aload_n 0, 1), (21, .iload 4, 2), (23, .invokestatic 280, 3), (26, .iaload, 1), (27, .iload_n 2, 1)]
set_option maxRecDepth 100000 in
theorem xi_ok266_0 : xi_ok cX11_flood xi_266_0 = true := by decide +kernel
def xi_266_1 : XIs := [(28, .iand, 1), (29, .iload_n 3, 1), (30, .iconst (-1), 1), (31, .ixor, 1), (32, .iand, 1), (33, .istore 6, 2), (35, .iload 4, 2), (37, .iload 4, 2), (39, .iconst 1, 1), (40, .isub, 1), (41, .iand, 1), (42, .istore 4, 2), (44, .iload 4, 2), (46, .iload 6, 2), (48, .ior, 1), (49, .istore 4, 2)]
set_option maxRecDepth 100000 in
theorem xi_ok266_1 : xi_ok cX11_flood xi_266_1 = true := by decide +kernel
def xi_266_2 : XIs := [(51, .iload_n 3, 1), (52, .iload 6, 2), (54, .ior, 1), (55, .istore_n 3, 1), (56, .iinc 5 1, 3), (59, .goto (-51), 3), (62, .iload_n 3, 1), (63, .ireturn, 1)]
set_option maxRecDepth 100000 in
theorem xi_ok266_2 : xi_ok cX11_flood xi_266_2 = true := by decide +kernel
def xi_266 (pc : Nat) : XIs := cond (Nat.blt pc 28) (xi_266_0) (cond (Nat.blt pc 51) (xi_266_1) (xi_266_2))
theorem xi_ok266 (pc : Nat) : xi_ok cX11_flood (xi_266 pc) = true := xi_c (xi_ok266_0) (xi_c (xi_ok266_1) (xi_ok266_2))
def xi_267_0 : XIs := [(0, .aload_n 0, 1), (1, .invokespecial 1, 3), (4, .aload_n 0, 1), (5, .iconst 3, 1), (6, .newarray .int, 2), (8, .putfield 7, 3), (11, .aload_n 0, 1), (12, .bipush 96, 2), (14, .newarray .int, 2), (16, .putfield 13, 3), (19, .aload_n 0, 1), (20, .sipush 480, 3), (23, .newarray .boolean, 2), (25, .putfield 16, 3), (28, .aload_n 0, 1), (29, .sipush 480, 3)]
set_option maxRecDepth 100000 in
theorem xi_ok267_0 : xi_ok cX12_init xi_267_0 = true := by decide +kernel
def xi_267_1 : XIs := [(32, .newarray .int, 2), (34, .putfield 20, 3), (37, .aload_n 0, 1), (38, .sipush 480, 3), (41, .newarray .int, 2), (43, .putfield 23, 3), (46, .aload_n 0, 1), (47, .sipush 480, 3), (50, .newarray .int, 2), (52, .putfield 26, 3), (55, .aload_n 0, 1), (56, .sipush 480, 3), (59, .newarray .int, 2), (61, .putfield 29, 3), (64, .aload_n 0, 1), (65, .sipush 480, 3)]
set_option maxRecDepth 100000 in
theorem xi_ok267_1 : xi_ok cX12_init xi_267_1 = true := by decide +kernel
def xi_267_2 : XIs := [(68, .newarray .int, 2), (70, .putfield 32, 3), (73, .aload_n 0, 1), (74, .sipush 4000, 3), (77, .newarray .int, 2), (79, .putfield 35, 3), (82, .aload_n 0, 1), (83, .sipush 4000, 3), (86, .newarray .int, 2), (88, .putfield 38, 3), (91, .aload_n 0, 1), (92, .sipush 4000, 3), (95, .newarray .int, 2), (97, .putfield 41, 3), (100, .aload_n 0, 1), (101, .sipush 4000, 3)]
set_option maxRecDepth 100000 in
theorem xi_ok267_2 : xi_ok cX12_init xi_267_2 = true := by decide +kernel
def xi_267_3 : XIs := [(104, .newarray .int, 2), (106, .putfield 44, 3), (109, .aload_n 0, 1), (110, .sipush 4000, 3), (113, .newarray .int, 2), (115, .putfield 47, 3), (118, .aload_n 0, 1), (119, .sipush 4000, 3), (122, .newarray .int, 2), (124, .putfield 50, 3), (127, .aload_n 0, 1), (128, .sipush 4000, 3), (131, .newarray .int, 2), (133, .putfield 53, 3), (136, .aload_n 0, 1), (137, .iconst (-1), 1)]
set_option maxRecDepth 100000 in
theorem xi_ok267_3 : xi_ok cX12_init xi_267_3 = true := by decide +kernel
def xi_267_4 : XIs := [(138, .putfield 56, 3), (141, .aload_n 0, 1), (142, .sipush 1000, 3), (145, .newarray .int, 2), (147, .putfield 60, 3), (150, .aload_n 0, 1), (151, .sipush 8000, 3), (154, .newarray .int, 2), (156, .putfield 63, 3), (159, .aload_n 0, 1), (160, .sipush 500, 3), (163, .newarray .int, 2), (165, .putfield 66, 3), (168, .aload_n 0, 1), (169, .sipush 2500, 3), (172, .newarray .int, 2)]
set_option maxRecDepth 100000 in
theorem xi_ok267_4 : xi_ok cX12_init xi_267_4 = true := by decide +kernel
def xi_267_5 : XIs := [(174, .putfield 69, 3), (177, .aload_n 0, 1), (178, .bipush 32, 2), (180, .newarray .int, 2), (182, .putfield 72, 3), (185, .aload_n 0, 1), (186, .bipush 32, 2), (188, .newarray .long, 2), (190, .putfield 75, 3), (193, .aload_n 0, 1), (194, .bipush 32, 2), (196, .newarray .int, 2), (198, .putfield 79, 3), (201, .aload_n 0, 1), (202, .sipush 4000, 3), (205, .newarray .int, 2)]
set_option maxRecDepth 100000 in
theorem xi_ok267_5 : xi_ok cX12_init xi_267_5 = true := by decide +kernel
def xi_267_6 : XIs := [(207, .putfield 82, 3), (210, .aload_n 0, 1), (211, .bipush 32, 2), (213, .newarray .int, 2), (215, .putfield 85, 3), (218, .aload_n 0, 1), (219, .sipush 10005, 3), (222, .newarray .int, 2), (224, .putfield 88, 3), (227, .aload_n 0, 1), (228, .sipush 2001, 3), (231, .newarray .long, 2), (233, .putfield 91, 3), (236, .aload_n 0, 1), (237, .sipush 2001, 3), (240, .newarray .int, 2)]
set_option maxRecDepth 100000 in
theorem xi_ok267_6 : xi_ok cX12_init xi_267_6 = true := by decide +kernel
def xi_267_7 : XIs := [(242, .putfield 94, 3), (245, .aload_n 0, 1), (246, .sipush 2001, 3), (249, .newarray .int, 2), (251, .putfield 97, 3), (254, .aload_n 0, 1), (255, .bipush 32, 2), (257, .newarray .int, 2), (259, .putfield 100, 3), (262, .aload_n 0, 1), (263, .bipush 33, 2), (265, .newarray .int, 2), (267, .putfield 103, 3), (270, .aload_n 0, 1), (271, .bipush 33, 2), (273, .newarray .int, 2)]
set_option maxRecDepth 100000 in
theorem xi_ok267_7 : xi_ok cX12_init xi_267_7 = true := by decide +kernel
def xi_267_8 : XIs := [(275, .putfield 106, 3), (278, .aload_n 0, 1), (279, .bipush 32, 2), (281, .newarray .int, 2), (283, .putfield 109, 3), (286, .aload_n 0, 1), (287, .bipush 32, 2), (289, .newarray .int, 2), (291, .putfield 112, 3), (294, .aload_n 0, 1), (295, .bipush 32, 2), (297, .newarray .int, 2), (299, .putfield 115, 3), (302, .aload_n 0, 1), (303, .bipush 33, 2), (305, .newarray .int, 2)]
set_option maxRecDepth 100000 in
theorem xi_ok267_8 : xi_ok cX12_init xi_267_8 = true := by decide +kernel
def xi_267_9 : XIs := [(307, .putfield 118, 3), (310, .aload_n 0, 1), (311, .bipush 33, 2), (313, .newarray .int, 2), (315, .putfield 121, 3), (318, .aload_n 0, 1), (319, .bipush 33, 2), (321, .newarray .int, 2), (323, .putfield 124, 3), (326, .aload_n 0, 1), (327, .sipush 160, 3), (330, .newarray .long, 2), (332, .putfield 127, 3), (335, .aload_n 0, 1), (336, .bipush 34, 2), (338, .newarray .int, 2)]
set_option maxRecDepth 100000 in
theorem xi_ok267_9 : xi_ok cX12_init xi_267_9 = true := by decide +kernel
def xi_267_10 : XIs := [(340, .putfield 130, 3), (343, .aload_n 0, 1), (344, .bipush 34, 2), (346, .newarray .long, 2), (348, .putfield 133, 3), (351, .aload_n 0, 1), (352, .bipush 32, 2), (354, .newarray .long, 2), (356, .putfield 136, 3), (359, .aload_n 0, 1), (360, .bipush 32, 2), (362, .newarray .int, 2), (364, .putfield 139, 3), (367, .aload_n 0, 1), (368, .sipush 1024, 3), (371, .newarray .long, 2)]
set_option maxRecDepth 100000 in
theorem xi_ok267_10 : xi_ok cX12_init xi_267_10 = true := by decide +kernel
def xi_267_11 : XIs := [(373, .putfield 142, 3), (376, .aload_n 0, 1), (377, .sipush 160, 3), (380, .newarray .int, 2), (382, .putfield 145, 3), (385, .aload_n 0, 1), (386, .sipush 160, 3), (389, .newarray .int, 2), (391, .putfield 148, 3), (394, .aload_n 0, 1), (395, .sipush 160, 3), (398, .newarray .long, 2), (400, .putfield 151, 3), (403, .aload_n 0, 1), (404, .bipush 32, 2), (406, .newarray .long, 2)]
set_option maxRecDepth 100000 in
theorem xi_ok267_11 : xi_ok cX12_init xi_267_11 = true := by decide +kernel
def xi_267_12 : XIs := [(408, .putfield 154, 3), (411, .aload_n 0, 1), (412, .bipush 32, 2), (414, .newarray .int, 2), (416, .putfield 157, 3), (419, .aload_n 0, 1), (420, .bipush 32, 2), (422, .newarray .int, 2), (424, .putfield 160, 3), (427, .aload_n 0, 1), (428, .bipush 32, 2), (430, .newarray .int, 2), (432, .putfield 163, 3), (435, .aload_n 0, 1), (436, .bipush 32, 2), (438, .newarray .int, 2)]
set_option maxRecDepth 100000 in
theorem xi_ok267_12 : xi_ok cX12_init xi_267_12 = true := by decide +kernel
def xi_267_13 : XIs := [(440, .putfield 166, 3), (443, .aload_n 0, 1), (444, .sipush 1024, 3), (447, .newarray .long, 2), (449, .putfield 169, 3), (452, .aload_n 0, 1), (453, .bipush 32, 2), (455, .newarray .long, 2), (457, .putfield 172, 3), (460, .aload_n 0, 1), (461, .bipush 32, 2), (463, .newarray .long, 2), (465, .putfield 175, 3), (468, .aload_n 0, 1), (469, .bipush 32, 2), (471, .newarray .int, 2)]
set_option maxRecDepth 100000 in
theorem xi_ok267_13 : xi_ok cX12_init xi_267_13 = true := by decide +kernel
def xi_267_14 : XIs := [(473, .putfield 178, 3), (476, .aload_n 0, 1), (477, .bipush 32, 2), (479, .newarray .int, 2), (481, .putfield 181, 3), (484, .aload_n 0, 1), (485, .bipush 32, 2), (487, .newarray .long, 2), (489, .putfield 184, 3), (492, .aload_n 0, 1), (493, .bipush 32, 2), (495, .newarray .int, 2), (497, .putfield 187, 3), (500, .aload_n 0, 1), (501, .bipush 32, 2), (503, .newarray .long, 2)]
set_option maxRecDepth 100000 in
theorem xi_ok267_14 : xi_ok cX12_init xi_267_14 = true := by decide +kernel
