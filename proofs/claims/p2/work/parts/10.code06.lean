def xi_49_3 : XIs := [(86, .putfield 79, 3), (89, .iload_n 3, 1), (90, .iconst 1, 1), (91, .iload 7, 2), (93, .ishl, 1), (94, .iconst (-1), 1), (95, .ixor, 1), (96, .iand, 1), (97, .istore_n 3, 1), (98, .iload 6, 2), (100, .iload 6, 2), (102, .iconst 1, 1), (103, .isub, 1), (104, .iand, 1), (105, .istore 6, 2), (107, .goto (-80), 3)]
set_option maxRecDepth 100000 in
theorem xi_ok49_3 : xi_ok cX0_setAside xi_49_3 = true := by decide +kernel
def xi_49_4 : XIs := [(110, .iinc 5 1, 3), (113, .goto (-105), 3), (116, .iload_n 3, 1), (117, .ireturn, 1)]
set_option maxRecDepth 100000 in
theorem xi_ok49_4 : xi_ok cX0_setAside xi_49_4 = true := by decide +kernel
def xi_49 (pc : Nat) : XIs := cond (Nat.blt pc 56) (cond (Nat.blt pc 27) (xi_49_0) (xi_49_1)) (cond (Nat.blt pc 86) (xi_49_2) (cond (Nat.blt pc 110) (xi_49_3) (xi_49_4)))
theorem xi_ok49 (pc : Nat) : xi_ok cX0_setAside (xi_49 pc) = true := xi_c (xi_c (xi_ok49_0) (xi_ok49_1)) (xi_c (xi_ok49_2) (xi_c (xi_ok49_3) (xi_ok49_4)))
def xi_50_0 : XIs := [(0, .aload_n 0, 1), (1, .getfield 79, 3), (4, .iload_n 2, 1), (5, .if_icmp .le 75, 3), (8, .aload_n 0, 1), (9, .getfield 25, 3), (12, .aload_n 0, 1), (13, .getfield 79, 3), (16, .iconst 1, 1), (17, .isub, 1), (18, .iaload, 1), (19, .istore_n 3, 1), (20, .iconst 0, 1), (21, .istore 4, 2), (23, .iload 4, 2), (25, .aload_n 0, 1)]
set_option maxRecDepth 100000 in
theorem xi_ok50_0 : xi_ok cX0_takeBack xi_50_0 = true := by decide +kernel
def xi_50_1 : XIs := [(26, .getfield 76, 3), (29, .iconst 1, 1), (30, .isub, 1), (31, .if_icmp .ge 23, 3), (34, .aload_n 0, 1), (35, .getfield 18, 3), (38, .iload 4, 2), (40, .iaload, 1), (41, .aload_n 1, 1), (42, .iload_n 3, 1), (43, .iaload, 1), (44, .iand, 1), (45, .ifCond .eq 9, 3), (48, .iinc 4 1, 3), (51, .goto (-28), 3), (54, .aload_n 0, 1)]
set_option maxRecDepth 100000 in
theorem xi_ok50_1 : xi_ok cX0_takeBack xi_50_1 = true := by decide +kernel
def xi_50_2 : XIs := [(55, .getfield 18, 3), (58, .iload 4, 2), (60, .dup2, 1), (61, .iaload, 1), (62, .iconst 1, 1), (63, .iload_n 3, 1), (64, .ishl, 1), (65, .ior, 1), (66, .iastore, 1), (67, .aload_n 0, 1), (68, .dup, 1), (69, .getfield 79, 3), (72, .iconst 1, 1), (73, .isub, 1), (74, .putfield 79, 3), (77, .goto (-77), 3)]
set_option maxRecDepth 100000 in
theorem xi_ok50_2 : xi_ok cX0_takeBack xi_50_2 = true := by decide +kernel
def xi_50_3 : XIs := [(80, .return_, 1)]
set_option maxRecDepth 100000 in
theorem xi_ok50_3 : xi_ok cX0_takeBack xi_50_3 = true := by decide +kernel
def xi_50 (pc : Nat) : XIs := cond (Nat.blt pc 55) (cond (Nat.blt pc 26) (xi_50_0) (xi_50_1)) (cond (Nat.blt pc 80) (xi_50_2) (xi_50_3))
theorem xi_ok50 (pc : Nat) : xi_ok cX0_takeBack (xi_50 pc) = true := xi_c (xi_c (xi_ok50_0) (xi_ok50_1)) (xi_c (xi_ok50_2) (xi_ok50_3))
def xi_51_0 : XIs := [(0, .iconst 0, 1), (1, .istore_n 2, 1), (2, .iconst 0, 1), (3, .istore_n 3, 1), (4, .iload_n 3, 1), (5, .aload_n 0, 1), (6, .getfield 76, 3), (9, .if_icmp .ge 23, 3), (12, .aload_n 0, 1), (13, .getfield 18, 3), (16, .iload_n 3, 1), (17, .iaload, 1), (18, .iload_n 1, 1), (19, .iand, 1), (20, .ifCond .ne 6, 3), (23, .iinc 2 1, 3)]
set_option maxRecDepth 100000 in
theorem xi_ok51_0 : xi_ok cX0_freeColours xi_51_0 = true := by decide +kernel
def xi_51_1 : XIs := [(26, .iinc 3 1, 3), (29, .goto (-25), 3), (32, .iload_n 2, 1), (33, .ireturn, 1)]
set_option maxRecDepth 100000 in
theorem xi_ok51_1 : xi_ok cX0_freeColours xi_51_1 = true := by decide +kernel
def xi_51 (pc : Nat) : XIs := cond (Nat.blt pc 26) (xi_51_0) (xi_51_1)
theorem xi_ok51 (pc : Nat) : xi_ok cX0_freeColours (xi_51 pc) = true := xi_c (xi_ok51_0) (xi_ok51_1)
def xi_52_0 : XIs := [(0, .iload_n 2, 1), (1, .invokestatic 59, 3), (4, .istore_n 3, 1), (5, .ldc 121, 2), (7, .istore 4, 2), (9, .iload_n 2, 1), (10, .istore 5, 2), (12, .iload 5, 2), (14, .ifCond .eq 59, 3), (17, .iload 5, 2), (19, .invokestatic 59, 3), (22, .istore 6, 2), (24, .aload_n 0, 1), (25, .aload_n 1, 1), (26, .iload 6, 2), (28, .iaload, 1)]
set_option maxRecDepth 100000 in
theorem xi_ok52_0 : xi_ok cX0_tightest xi_52_0 = true := by decide +kernel
def xi_52_1 : XIs := [(29, .invokevirtual 118, 3), (32, .bipush 64, 2), (34, .imul, 1), (35, .aload_n 1, 1), (36, .iload 6, 2), (38, .iaload, 1), (39, .iload_n 2, 1), (40, .iand, 1), (41, .invokestatic 53, 3), (44, .isub, 1), (45, .istore 7, 2), (47, .iload 7, 2), (49, .iload 4, 2), (51, .if_icmp .ge 10, 3), (54, .iload 7, 2), (56, .istore 4, 2)]
set_option maxRecDepth 100000 in
theorem xi_ok52_1 : xi_ok cX0_tightest xi_52_1 = true := by decide +kernel
def xi_52_2 : XIs := [(58, .iload 6, 2), (60, .istore_n 3, 1), (61, .iload 5, 2), (63, .iload 5, 2), (65, .iconst 1, 1), (66, .isub, 1), (67, .iand, 1), (68, .istore 5, 2), (70, .goto (-58), 3), (73, .iload_n 3, 1), (74, .ireturn, 1)]
set_option maxRecDepth 100000 in
theorem xi_ok52_2 : xi_ok cX0_tightest xi_52_2 = true := by decide +kernel
def xi_52 (pc : Nat) : XIs := cond (Nat.blt pc 29) (xi_52_0) (cond (Nat.blt pc 58) (xi_52_1) (xi_52_2))
theorem xi_ok52 (pc : Nat) : xi_ok cX0_tightest (xi_52 pc) = true := xi_c (xi_ok52_0) (xi_c (xi_ok52_1) (xi_ok52_2))
def xi_53_0 : XIs := [(0, .aload_n 0, 1), (1, .iload_n 2, 1), (2, .invokevirtual 122, 3), (5, .istore 4, 2), (7, .iload 4, 2), (9, .iload_n 3, 1), (10, .if_icmp .le 36, 3), (13, .aload_n 0, 1), (14, .getfield 18, 3), (17, .iload 4, 2), (19, .iaload, 1), (20, .istore 5, 2), (22, .aload_n 0, 1), (23, .getfield 18, 3), (26, .iload 4, 2), (28, .aload_n 0, 1)]
set_option maxRecDepth 100000 in
theorem xi_ok53_0 : xi_ok cX0_lessen xi_53_0 = true := by decide +kernel
def xi_53_1 : XIs := [(29, .getfield 18, 3), (32, .iload_n 3, 1), (33, .iaload, 1), (34, .iastore, 1), (35, .aload_n 0, 1), (36, .getfield 18, 3), (39, .iload_n 3, 1), (40, .iload 5, 2), (42, .iastore, 1), (43, .iload_n 3, 1), (44, .istore 4, 2), (46, .iconst 0, 1), (47, .istore 5, 2), (49, .iload 5, 2), (51, .iload 4, 2), (53, .if_icmp .ge 26, 3)]
set_option maxRecDepth 100000 in
theorem xi_ok53_1 : xi_ok cX0_lessen xi_53_1 = true := by decide +kernel
def xi_53_2 : XIs := [(56, .aload_n 0, 1), (57, .aload_n 1, 1), (58, .iload_n 2, 1), (59, .iload 5, 2), (61, .iload 4, 2), (63, .invokevirtual 125, 3), (66, .ifCond .eq 7, 3), (69, .iload 5, 2), (71, .istore 4, 2), (73, .iinc 5 1, 3), (76, .goto (-27), 3), (79, .iload 4, 2), (81, .ireturn, 1)]
set_option maxRecDepth 100000 in
theorem xi_ok53_2 : xi_ok cX0_lessen xi_53_2 = true := by decide +kernel
def xi_53 (pc : Nat) : XIs := cond (Nat.blt pc 29) (xi_53_0) (cond (Nat.blt pc 56) (xi_53_1) (xi_53_2))
theorem xi_ok53 (pc : Nat) : xi_ok cX0_lessen (xi_53 pc) = true := xi_c (xi_ok53_0) (xi_c (xi_ok53_1) (xi_ok53_2))
def xi_54_0 : XIs := [(0, .iconst 1, 1), (1, .iload_n 2, 1), (2, .ishl, 1), (3, .istore 5, 2), (5, .iload 5, 2), (7, .iconst 1, 1), (8, .isub, 1), (9, .istore 6, 2), (11, .aload_n 0, 1), (12, .getfield 18, 3), (15, .iload_n 3, 1), (16, .iaload, 1), (17, .aload_n 1, 1), (18, .getfield 42, 3), (21, .iload_n 2, 1), (22, .iaload, 1)]
set_option maxRecDepth 100000 in
theorem xi_ok54_0 : xi_ok cX0_canLower xi_54_0 = true := by decide +kernel
def xi_54_1 : XIs := [(23, .iand, 1), (24, .iload 6, 2), (26, .iand, 1), (27, .ifCond .eq 5, 3), (30, .iconst 0, 1), (31, .ireturn, 1), (32, .aload_n 1, 1), (33, .getfield 42, 3), (36, .iload 5, 2), (38, .aload_n 0, 1), (39, .getfield 18, 3), (42, .iload_n 3, 1), (43, .iaload, 1), (44, .aload_n 0, 1), (45, .getfield 18, 3), (48, .iload 4, 2)]
set_option maxRecDepth 100000 in
theorem xi_ok54_1 : xi_ok cX0_canLower xi_54_1 = true := by decide +kernel
def xi_54_2 : XIs := [(50, .iaload, 1), (51, .ior, 1), (52, .invokestatic 102, 3), (55, .istore 7, 2), (57, .iload 7, 2), (59, .iload 6, 2), (61, .iand, 1), (62, .ifCond .ne 28, 3), (65, .aload_n 0, 1), (66, .getfield 18, 3), (69, .iload_n 3, 1), (70, .dup2, 1), (71, .iaload, 1), (72, .iload 7, 2), (74, .ixor, 1), (75, .iastore, 1)]
set_option maxRecDepth 100000 in
theorem xi_ok54_2 : xi_ok cX0_canLower xi_54_2 = true := by decide +kernel
def xi_54_3 : XIs := [(76, .aload_n 0, 1), (77, .getfield 18, 3), (80, .iload 4, 2), (82, .dup2, 1), (83, .iaload, 1), (84, .iload 7, 2), (86, .ixor, 1), (87, .iastore, 1), (88, .iconst 1, 1), (89, .ireturn, 1), (90, .aload_n 0, 1), (91, .getfield 18, 3), (94, .iconst 0, 1), (95, .aload_n 0, 1), (96, .getfield 22, 3), (99, .iconst 0, 1)]
set_option maxRecDepth 100000 in
theorem xi_ok54_3 : xi_ok cX0_canLower xi_54_3 = true := by decide +kernel
def xi_54_4 : XIs := [(100, .bipush 32, 2), (102, .invokestatic 129, 3), (105, .iconst 0, 1), (106, .istore 8, 2), (108, .iload 8, 2), (110, .aload_n 0, 1), (111, .getfield 76, 3), (114, .if_icmp .ge 21, 3), (117, .aload_n 0, 1), (118, .getfield 18, 3), (121, .iload 8, 2), (123, .dup2, 1), (124, .iaload, 1), (125, .iload 6, 2), (127, .iand, 1), (128, .iastore, 1)]
set_option maxRecDepth 100000 in
theorem xi_ok54_4 : xi_ok cX0_canLower xi_54_4 = true := by decide +kernel
def xi_54_5 : XIs := [(129, .iinc 8 1, 3), (132, .goto (-24), 3), (135, .aload_n 0, 1), (136, .getfield 18, 3), (139, .iload_n 3, 1), (140, .dup2, 1), (141, .iaload, 1), (142, .iload 5, 2), (144, .ior, 1), (145, .iastore, 1), (146, .aload_n 0, 1), (147, .aload_n 1, 1), (148, .getfield 42, 3), (151, .aload_n 1, 1), (152, .invokevirtual 45, 3), (155, .iload 6, 2)]
set_option maxRecDepth 100000 in
theorem xi_ok54_5 : xi_ok cX0_canLower xi_54_5 = true := by decide +kernel
def xi_54_6 : XIs := [(157, .iconst (-1), 1), (158, .ixor, 1), (159, .iand, 1), (160, .iload 5, 2), (162, .iconst (-1), 1), (163, .ixor, 1), (164, .iand, 1), (165, .iconst 0, 1), (166, .invokevirtual 88, 3), (169, .ifCond .eq 5, 3), (172, .iconst 1, 1), (173, .ireturn, 1), (174, .aload_n 0, 1), (175, .getfield 22, 3), (178, .iconst 0, 1), (179, .aload_n 0, 1)]
set_option maxRecDepth 100000 in
theorem xi_ok54_6 : xi_ok cX0_canLower xi_54_6 = true := by decide +kernel
def xi_54_7 : XIs := [(180, .getfield 18, 3), (183, .iconst 0, 1), (184, .bipush 32, 2), (186, .invokestatic 129, 3), (189, .iconst 0, 1), (190, .ireturn, 1)]
set_option maxRecDepth 100000 in
theorem xi_ok54_7 : xi_ok cX0_canLower xi_54_7 = true := by decide +kernel
def xi_54 (pc : Nat) : XIs := cond (Nat.blt pc 100) (cond (Nat.blt pc 50) (cond (Nat.blt pc 23) (xi_54_0) (xi_54_1)) (cond (Nat.blt pc 76) (xi_54_2) (xi_54_3))) (cond (Nat.blt pc 157) (cond (Nat.blt pc 129) (xi_54_4) (xi_54_5)) (cond (Nat.blt pc 180) (xi_54_6) (xi_54_7)))
theorem xi_ok54 (pc : Nat) : xi_ok cX0_canLower (xi_54 pc) = true := xi_c (xi_c (xi_c (xi_ok54_0) (xi_ok54_1)) (xi_c (xi_ok54_2) (xi_ok54_3))) (xi_c (xi_c (xi_ok54_4) (xi_ok54_5)) (xi_c (xi_ok54_6) (xi_ok54_7)))
def xi_55_0 : XIs := [(0, .aload_n 0, 1), (1, .invokespecial 5, 3), (4, .aload_n 0, 1), (5, .bipush 120, 2), (7, .newarray .int, 2), (9, .putfield 11, 3), (12, .aload_n 0, 1), (13, .iconst 1, 1), (14, .putfield 15, 3), (17, .aload_n 0, 1), (18, .iconst 2, 1), (19, .putfield 19, 3), (22, .aload_n 0, 1), (23, .bipush 120, 2), (25, .newarray .int, 2), (27, .putfield 22, 3)]
set_option maxRecDepth 100000 in
theorem xi_ok55_0 : xi_ok cX1_init xi_55_0 = true := by decide +kernel
def xi_55_1 : XIs := [(30, .aload_n 0, 1), (31, .bipush 120, 2), (33, .newarray .long, 2), (35, .putfield 25, 3), (38, .aload_n 0, 1), (39, .bipush 9, 2), (41, .newarray .long, 2), (43, .putfield 29, 3), (46, .aload_n 0, 1), (47, .bipush 32, 2), (49, .newarray .long, 2), (51, .putfield 32, 3), (54, .aload_n 0, 1), (55, .bipush 32, 2), (57, .newarray .long, 2), (59, .putfield 35, 3)]
set_option maxRecDepth 100000 in
theorem xi_ok55_1 : xi_ok cX1_init xi_55_1 = true := by decide +kernel
def xi_55_2 : XIs := [(62, .return_, 1)]
set_option maxRecDepth 100000 in
theorem xi_ok55_2 : xi_ok cX1_init xi_55_2 = true := by decide +kernel
def xi_55 (pc : Nat) : XIs := cond (Nat.blt pc 30) (xi_55_0) (cond (Nat.blt pc 62) (xi_55_1) (xi_55_2))
theorem xi_ok55 (pc : Nat) : xi_ok cX1_init (xi_55 pc) = true := xi_c (xi_ok55_0) (xi_c (xi_ok55_1) (xi_ok55_2))
def xi_56_0 : XIs := [(0, .aload_n 1, 1), (1, .invokevirtual 38, 3), (4, .aload_n 1, 1), (5, .getfield 43, 3), (8, .bipush 120, 2), (10, .if_icmp .le 11, 3), (13, .aload_n 1, 1), (14, .iconst 2, 1), (15, .bipush 120, 2), (17, .invokevirtual 46, 3), (20, .ireturn, 1), (21, .aload_n 0, 1), (22, .iconst 0, 1), (23, .putfield 50, 3), (26, .aload_n 1, 1), (27, .bipush 6, 2)]
set_option maxRecDepth 100000 in
theorem xi_ok56_0 : xi_ok cX1_adopt xi_56_0 = true := by decide +kernel
def xi_56_1 : XIs := [(29, .iconst 0, 1), (30, .invokevirtual 53, 3), (33, .aload_n 0, 1), (34, .aload_n 1, 1), (35, .iconst 0, 1), (36, .invokevirtual 57, 3), (39, .ifCond .ne 5, 3), (42, .iconst 0, 1), (43, .ireturn, 1), (44, .aload_n 1, 1), (45, .bipush 59, 2), (47, .invokevirtual 61, 3), (50, .ifCond .ne 10, 3), (53, .aload_n 1, 1), (54, .iconst 2, 1), (55, .iconst 4, 1)]
set_option maxRecDepth 100000 in
theorem xi_ok56_1 : xi_ok cX1_adopt xi_56_1 = true := by decide +kernel
def xi_56_2 : XIs := [(56, .invokevirtual 65, 3), (59, .ireturn, 1), (60, .aload_n 0, 1), (61, .getfield 50, 3), (64, .istore_n 2, 1), (65, .aload_n 1, 1), (66, .bipush 6, 2), (68, .iconst 0, 1), (69, .invokevirtual 53, 3), (72, .aload_n 0, 1), (73, .aload_n 1, 1), (74, .iconst 0, 1), (75, .invokevirtual 57, 3), (78, .ifCond .ne 5, 3), (81, .iconst 0, 1), (82, .ireturn, 1)]
set_option maxRecDepth 100000 in
theorem xi_ok56_2 : xi_ok cX1_adopt xi_56_2 = true := by decide +kernel
def xi_56_3 : XIs := [(83, .aload_n 1, 1), (84, .getfield 68, 3), (87, .ifCond .eq 10, 3), (90, .aload_n 1, 1), (91, .iconst 2, 1), (92, .iconst 4, 1), (93, .invokevirtual 65, 3), (96, .ireturn, 1), (97, .aload_n 0, 1), (98, .iload_n 2, 1), (99, .putfield 15, 3), (102, .aload_n 0, 1), (103, .aload_n 0, 1), (104, .getfield 50, 3), (107, .putfield 19, 3), (110, .aload_n 0, 1)]
set_option maxRecDepth 100000 in
theorem xi_ok56_3 : xi_ok cX1_adopt xi_56_3 = true := by decide +kernel
def xi_56_4 : XIs := [(111, .getfield 22, 3), (114, .iconst 0, 1), (115, .aload_n 0, 1), (116, .getfield 11, 3), (119, .iconst 0, 1), (120, .aload_n 0, 1), (121, .getfield 50, 3), (124, .invokestatic 71, 3), (127, .iconst 1, 1), (128, .ireturn, 1)]
set_option maxRecDepth 100000 in
theorem xi_ok56_4 : xi_ok cX1_adopt xi_56_4 = true := by decide +kernel
def xi_56 (pc : Nat) : XIs := cond (Nat.blt pc 56) (cond (Nat.blt pc 29) (xi_56_0) (xi_56_1)) (cond (Nat.blt pc 83) (xi_56_2) (cond (Nat.blt pc 111) (xi_56_3) (xi_56_4)))
theorem xi_ok56 (pc : Nat) : xi_ok cX1_adopt (xi_56 pc) = true := xi_c (xi_c (xi_ok56_0) (xi_ok56_1)) (xi_c (xi_ok56_2) (xi_c (xi_ok56_3) (xi_ok56_4)))
def xi_57_0 : XIs := [(0, .aload_n 0, 1), (1, .getfield 50, 3), (4, .bipush 120, 2), (6, .if_icmp .ge 23, 3), (9, .aload_n 0, 1), (10, .getfield 22, 3), (13, .aload_n 0, 1), (14, .getfield 50, 3), (17, .iload_n 1, 1), (18, .iastore, 1), (19, .aload_n 0, 1), (20, .dup, 1), (21, .getfield 50, 3), (24, .iconst 1, 1), (25, .iadd, 1), (26, .putfield 50, 3)]
set_option maxRecDepth 100000 in
theorem xi_ok57_0 : xi_ok cX1_emit xi_57_0 = true := by decide +kernel
def xi_57_1 : XIs := [(29, .iconst 1, 1), (30, .ireturn, 1)]
set_option maxRecDepth 100000 in
theorem xi_ok57_1 : xi_ok cX1_emit xi_57_1 = true := by decide +kernel
def xi_57 (pc : Nat) : XIs := cond (Nat.blt pc 29) (xi_57_0) (xi_57_1)
theorem xi_ok57 (pc : Nat) : xi_ok cX1_emit (xi_57 pc) = true := xi_c (xi_ok57_0) (xi_ok57_1)
def xi_58_0 : XIs := [(0, .aload_n 0, 1), (1, .aload_n 1, 1), (2, .iload_n 2, 1), (3, .invokevirtual 77, 3), (6, .ifCond .ne 5, 3), (9, .iconst 0, 1), (10, .ireturn, 1), (11, .aload_n 1, 1), (12, .bipush 60, 2), (14, .invokevirtual 61, 3), (17, .ifCond .ne 14, 3), (20, .aload_n 1, 1), (21, .bipush 61, 2), (23, .invokevirtual 61, 3), (26, .ifCond .ne 5, 3), (29, .iconst 1, 1)]
set_option maxRecDepth 100000 in
theorem xi_ok58_0 : xi_ok cX1_readExpression xi_58_0 = true := by decide +kernel
def xi_58_1 : XIs := [(30, .ireturn, 1), (31, .aload_n 1, 1), (32, .getfield 80, 3), (35, .istore_n 3, 1), (36, .aload_n 1, 1), (37, .bipush 6, 2), (39, .iconst 0, 1), (40, .invokevirtual 53, 3), (43, .aload_n 0, 1), (44, .aload_n 1, 1), (45, .iload_n 2, 1), (46, .invokevirtual 77, 3), (49, .ifCond .eq 18, 3), (52, .aload_n 0, 1), (53, .ldc 83, 2), (55, .iload_n 3, 1)]
set_option maxRecDepth 100000 in
theorem xi_ok58_1 : xi_ok cX1_readExpression xi_58_1 = true := by decide +kernel
def xi_58_2 : XIs := [(56, .iadd, 1), (57, .invokevirtual 84, 3), (60, .ifCond .eq 7, 3), (63, .iconst 1, 1), (64, .goto 4, 3), (67, .iconst 0, 1), (68, .ireturn, 1)]
set_option maxRecDepth 100000 in
theorem xi_ok58_2 : xi_ok cX1_readExpression xi_58_2 = true := by decide +kernel
def xi_58 (pc : Nat) : XIs := cond (Nat.blt pc 30) (xi_58_0) (cond (Nat.blt pc 56) (xi_58_1) (xi_58_2))
theorem xi_ok58 (pc : Nat) : xi_ok cX1_readExpression (xi_58 pc) = true := xi_c (xi_ok58_0) (xi_c (xi_ok58_1) (xi_ok58_2))
def xi_59_0 : XIs := [(0, .aload_n 0, 1), (1, .aload_n 1, 1), (2, .iload_n 2, 1), (3, .invokevirtual 87, 3), (6, .ifCond .ne 5, 3), (9, .iconst 0, 1), (10, .ireturn, 1), (11, .iconst 0, 1), (12, .istore_n 3, 1), (13, .iload_n 3, 1), (14, .bipush 120, 2), (16, .if_icmp .ge 61, 3), (19, .aload_n 1, 1), (20, .bipush 43, 2), (22, .invokevirtual 61, 3), (25, .ifCond .ne 12, 3)]
set_option maxRecDepth 100000 in
theorem xi_ok59_0 : xi_ok cX1_readSum xi_59_0 = true := by decide +kernel
def xi_59_1 : XIs := [(28, .aload_n 1, 1), (29, .bipush 45, 2), (31, .invokevirtual 61, 3), (34, .ifCond .eq 43, 3), (37, .aload_n 1, 1), (38, .getfield 80, 3), (41, .istore 4, 2), (43, .aload_n 1, 1), (44, .bipush 6, 2), (46, .iconst 0, 1), (47, .invokevirtual 53, 3), (50, .aload_n 0, 1), (51, .aload_n 1, 1), (52, .iload_n 2, 1), (53, .invokevirtual 87, 3), (56, .ifCond .ne 5, 3)]
set_option maxRecDepth 100000 in
theorem xi_ok59_1 : xi_ok cX1_readSum xi_59_1 = true := by decide +kernel
def xi_59_2 : XIs := [(59, .iconst 0, 1), (60, .ireturn, 1), (61, .aload_n 0, 1), (62, .ldc 83, 2), (64, .iload 4, 2), (66, .iadd, 1), (67, .invokevirtual 84, 3), (70, .pop, 1), (71, .iinc 3 1, 3), (74, .goto (-61), 3), (77, .iconst 1, 1), (78, .ireturn, 1)]
set_option maxRecDepth 100000 in
theorem xi_ok59_2 : xi_ok cX1_readSum xi_59_2 = true := by decide +kernel
def xi_59 (pc : Nat) : XIs := cond (Nat.blt pc 28) (xi_59_0) (cond (Nat.blt pc 59) (xi_59_1) (xi_59_2))
theorem xi_ok59 (pc : Nat) : xi_ok cX1_readSum (xi_59 pc) = true := xi_c (xi_ok59_0) (xi_c (xi_ok59_1) (xi_ok59_2))
def xi_60_0 : XIs := [(0, .aload_n 0, 1), (1, .aload_n 1, 1), (2, .iload_n 2, 1), (3, .invokevirtual 90, 3), (6, .ifCond .ne 5, 3), (9, .iconst 0, 1), (10, .ireturn, 1), (11, .iconst 0, 1), (12, .istore_n 3, 1), (13, .iload_n 3, 1), (14, .bipush 120, 2), (16, .if_icmp .ge 43, 3), (19, .aload_n 1, 1), (20, .bipush 42, 2), (22, .invokevirtual 61, 3), (25, .ifCond .eq 34, 3)]
set_option maxRecDepth 100000 in
theorem xi_ok60_0 : xi_ok cX1_readProduct xi_60_0 = true := by decide +kernel
def xi_60_1 : XIs := [(28, .aload_n 1, 1), (29, .bipush 6, 2), (31, .iconst 0, 1), (32, .invokevirtual 53, 3), (35, .aload_n 0, 1), (36, .aload_n 1, 1), (37, .iload_n 2, 1), (38, .invokevirtual 90, 3), (41, .ifCond .ne 5, 3), (44, .iconst 0, 1), (45, .ireturn, 1), (46, .aload_n 0, 1), (47, .ldc 93, 2), (49, .invokevirtual 84, 3), (52, .pop, 1), (53, .iinc 3 1, 3)]
set_option maxRecDepth 100000 in
theorem xi_ok60_1 : xi_ok cX1_readProduct xi_60_1 = true := by decide +kernel
def xi_60_2 : XIs := [(56, .goto (-43), 3), (59, .iconst 1, 1), (60, .ireturn, 1)]
set_option maxRecDepth 100000 in
theorem xi_ok60_2 : xi_ok cX1_readProduct xi_60_2 = true := by decide +kernel
def xi_60 (pc : Nat) : XIs := cond (Nat.blt pc 28) (xi_60_0) (cond (Nat.blt pc 56) (xi_60_1) (xi_60_2))
theorem xi_ok60 (pc : Nat) : xi_ok cX1_readProduct (xi_60 pc) = true := xi_c (xi_ok60_0) (xi_c (xi_ok60_1) (xi_ok60_2))
def xi_61_0 : XIs := [(0, .aload_n 1, 1), (1, .getfield 68, 3), (4, .iconst 2, 1), (5, .if_icmp .eq 11, 3), (8, .aload_n 1, 1), (9, .getfield 68, 3), (12, .iconst 1, 1), (13, .if_icmp .ne 9, 3), (16, .aload_n 0, 1), (17, .aload_n 1, 1), (18, .invokevirtual 94, 3), (21, .ireturn, 1), (22, .aload_n 1, 1), (23, .bipush 45, 2), (25, .invokevirtual 61, 3), (28, .istore_n 3, 1)]
set_option maxRecDepth 100000 in
theorem xi_ok61_0 : xi_ok cX1_readFactor xi_61_0 = true := by decide +kernel
def xi_61_1 : XIs := [(29, .iload_n 3, 1), (30, .ifCond .ne 19, 3), (33, .aload_n 1, 1), (34, .bipush 40, 2), (36, .invokevirtual 61, 3), (39, .ifCond .ne 10, 3), (42, .aload_n 1, 1), (43, .iconst 2, 1), (44, .iconst 4, 1), (45, .invokevirtual 65, 3), (48, .ireturn, 1), (49, .iload_n 2, 1), (50, .bipush 10, 2), (52, .if_icmp .lt 13, 3), (55, .aload_n 1, 1), (56, .iconst 3, 1)]
set_option maxRecDepth 100000 in
theorem xi_ok61_1 : xi_ok cX1_readFactor xi_61_1 = true := by decide +kernel
def xi_61_2 : XIs := [(57, .aload_n 1, 1), (58, .getfield 98, 3), (61, .invokevirtual 46, 3), (64, .ireturn, 1), (65, .aload_n 1, 1), (66, .bipush 6, 2), (68, .iconst 0, 1), (69, .invokevirtual 53, 3), (72, .iload_n 3, 1), (73, .ifCond .eq 29, 3), (76, .aload_n 0, 1), (77, .aload_n 1, 1), (78, .iload_n 2, 1), (79, .iconst 1, 1), (80, .iadd, 1), (81, .invokevirtual 90, 3)]
set_option maxRecDepth 100000 in
theorem xi_ok61_2 : xi_ok cX1_readFactor xi_61_2 = true := by decide +kernel
def xi_61_3 : XIs := [(84, .ifCond .eq 16, 3), (87, .aload_n 0, 1), (88, .ldc 101, 2), (90, .invokevirtual 84, 3), (93, .ifCond .eq 7, 3), (96, .iconst 1, 1), (97, .goto 4, 3), (100, .iconst 0, 1), (101, .ireturn, 1), (102, .aload_n 0, 1), (103, .aload_n 1, 1), (104, .iload_n 2, 1), (105, .iconst 1, 1), (106, .iadd, 1), (107, .invokevirtual 57, 3), (110, .ifCond .ne 5, 3)]
set_option maxRecDepth 100000 in
theorem xi_ok61_3 : xi_ok cX1_readFactor xi_61_3 = true := by decide +kernel
def xi_61_4 : XIs := [(113, .iconst 0, 1), (114, .ireturn, 1), (115, .aload_n 1, 1), (116, .bipush 41, 2), (118, .invokevirtual 61, 3), (121, .ifCond .ne 10, 3), (124, .aload_n 1, 1), (125, .iconst 2, 1), (126, .iconst 4, 1), (127, .invokevirtual 65, 3), (130, .ireturn, 1), (131, .aload_n 1, 1), (132, .bipush 6, 2), (134, .iconst 0, 1), (135, .invokevirtual 53, 3), (138, .iconst 1, 1)]
set_option maxRecDepth 100000 in
theorem xi_ok61_4 : xi_ok cX1_readFactor xi_61_4 = true := by decide +kernel
def xi_61_5 : XIs := [(139, .ireturn, 1)]
set_option maxRecDepth 100000 in
theorem xi_ok61_5 : xi_ok cX1_readFactor xi_61_5 = true := by decide +kernel
def xi_61 (pc : Nat) : XIs := cond (Nat.blt pc 84) (cond (Nat.blt pc 29) (xi_61_0) (cond (Nat.blt pc 57) (xi_61_1) (xi_61_2))) (cond (Nat.blt pc 113) (xi_61_3) (cond (Nat.blt pc 139) (xi_61_4) (xi_61_5)))
theorem xi_ok61 (pc : Nat) : xi_ok cX1_readFactor (xi_61 pc) = true := xi_c (xi_c (xi_ok61_0) (xi_c (xi_ok61_1) (xi_ok61_2))) (xi_c (xi_ok61_3) (xi_c (xi_ok61_4) (xi_ok61_5)))
def xi_62_0 : XIs := [(0, .aload_n 1, 1), (1, .getfield 80, 3), (4, .istore_n 2, 1), (5, .aload_n 1, 1), (6, .getfield 68, 3), (9, .iconst 1, 1), (10, .if_icmp .ne 36, 3), (13, .ldc 102, 2), (15, .bipush 97, 2), (17, .aload_n 1, 1), (18, .getfield 80, 3), (21, .iadd, 1), (22, .i2c, 1), (23, .invokevirtual 104, 3), (26, .istore_n 3, 1), (27, .iload_n 3, 1)]
set_option maxRecDepth 100000 in
theorem xi_ok62_0 : xi_ok cX1_readAtom xi_62_0 = true := by decide +kernel
def xi_62_1 : XIs := [(28, .ifCond .ge 13, 3), (31, .aload_n 1, 1), (32, .iconst 5, 1), (33, .aload_n 1, 1), (34, .getfield 98, 3), (37, .invokevirtual 46, 3), (40, .ireturn, 1), (41, .ldc 110, 2), (43, .iload_n 3, 1), (44, .iadd, 1), (45, .istore_n 2, 1), (46, .aload_n 0, 1), (47, .iload_n 2, 1), (48, .invokevirtual 84, 3), (51, .pop, 1), (52, .aload_n 1, 1)]
set_option maxRecDepth 100000 in
theorem xi_ok62_1 : xi_ok cX1_readAtom xi_62_1 = true := by decide +kernel
def xi_62_2 : XIs := [(53, .bipush 6, 2), (55, .iconst 0, 1), (56, .invokevirtual 53, 3), (59, .iconst 1, 1), (60, .ireturn, 1)]
set_option maxRecDepth 100000 in
theorem xi_ok62_2 : xi_ok cX1_readAtom xi_62_2 = true := by decide +kernel
def xi_62 (pc : Nat) : XIs := cond (Nat.blt pc 28) (xi_62_0) (cond (Nat.blt pc 53) (xi_62_1) (xi_62_2))
theorem xi_ok62 (pc : Nat) : xi_ok cX1_readAtom (xi_62 pc) = true := xi_c (xi_ok62_0) (xi_c (xi_ok62_1) (xi_ok62_2))
def xi_63_0 : XIs := [(0, .aload_n 1, 1), (1, .invokevirtual 111, 3), (4, .aload_n 0, 1), (5, .aload_n 1, 1), (6, .getfield 116, 3), (9, .putfield 119, 3), (12, .aload_n 0, 1), (13, .getfield 35, 3), (16, .lconst 0, 1), (17, .invokestatic 120, 3), (20, .aload_n 0, 1), (21, .aload_n 1, 1), (22, .iconst 0, 1), (23, .invokevirtual 126, 3), (26, .pop, 1), (27, .iconst 1, 1)]
set_option maxRecDepth 100000 in
theorem xi_ok63_0 : xi_ok cX1_work xi_63_0 = true := by decide +kernel
def xi_63_1 : XIs := [(28, .istore_n 3, 1), (29, .iload_n 3, 1), (30, .iload_n 2, 1), (31, .if_icmp .gt 35, 3), (34, .aload_n 0, 1), (35, .getfield 32, 3), (38, .iconst 0, 1), (39, .aload_n 0, 1), (40, .getfield 35, 3), (43, .iconst 0, 1), (44, .bipush 32, 2), (46, .invokestatic 71, 3), (49, .aload_n 0, 1), (50, .aload_n 1, 1), (51, .iload_n 3, 1), (52, .invokevirtual 126, 3)]
set_option maxRecDepth 100000 in
theorem xi_ok63_1 : xi_ok cX1_work xi_63_1 = true := by decide +kernel
def xi_63_2 : XIs := [(55, .ifCond .ne 5, 3), (58, .iload_n 3, 1), (59, .ireturn, 1), (60, .iinc 3 1, 3), (63, .goto (-34), 3), (66, .iload_n 2, 1), (67, .ireturn, 1)]
set_option maxRecDepth 100000 in
theorem xi_ok63_2 : xi_ok cX1_work xi_63_2 = true := by decide +kernel
def xi_63 (pc : Nat) : XIs := cond (Nat.blt pc 28) (xi_63_0) (cond (Nat.blt pc 55) (xi_63_1) (xi_63_2))
theorem xi_ok63 (pc : Nat) : xi_ok cX1_work (xi_63 pc) = true := xi_c (xi_ok63_0) (xi_c (xi_ok63_1) (xi_ok63_2))
def xi_64_0 : XIs := [(0, .iconst 0, 1), (1, .istore_n 3, 1), (2, .iconst 0, 1), (3, .istore 4, 2), (5, .iload 4, 2), (7, .aload_n 1, 1), (8, .getfield 116, 3), (11, .if_icmp .ge 78, 3), (14, .aload_n 0, 1), (15, .aload_n 1, 1), (16, .iload 4, 2), (18, .iload_n 2, 1), (19, .invokevirtual 130, 3), (22, .aload_n 0, 1), (23, .getfield 32, 3), (26, .iload 4, 2)]
set_option maxRecDepth 100000 in
theorem xi_ok64_0 : xi_ok cX1_doRound xi_64_0 = true := by decide +kernel
def xi_64_1 : XIs := [(28, .iload_n 2, 1), (29, .ifCond .ne 15, 3), (32, .aload_n 0, 1), (33, .iconst 0, 1), (34, .aload_n 0, 1), (35, .getfield 15, 3), (38, .invokevirtual 134, 3), (41, .goto 15, 3), (44, .aload_n 0, 1), (45, .aload_n 0, 1), (46, .getfield 15, 3), (49, .aload_n 0, 1), (50, .getfield 19, 3), (53, .invokevirtual 134, 3), (56, .lastore, 1), (57, .iload_n 3, 1)]
set_option maxRecDepth 100000 in
theorem xi_ok64_1 : xi_ok cX1_doRound xi_64_1 = true := by decide +kernel
def xi_64_2 : XIs := [(58, .aload_n 0, 1), (59, .getfield 32, 3), (62, .iload 4, 2), (64, .laload, 1), (65, .aload_n 0, 1), (66, .getfield 35, 3), (69, .iload 4, 2), (71, .laload, 1), (72, .lcmp, 1), (73, .ifCond .eq 7, 3), (76, .iconst 1, 1), (77, .goto 4, 3), (80, .iconst 0, 1), (81, .ior, 1), (82, .istore_n 3, 1), (83, .iinc 4 1, 3)]
set_option maxRecDepth 100000 in
theorem xi_ok64_2 : xi_ok cX1_doRound xi_64_2 = true := by decide +kernel
def xi_64_3 : XIs := [(86, .goto (-81), 3), (89, .iload_n 3, 1), (90, .ireturn, 1)]
set_option maxRecDepth 100000 in
theorem xi_ok64_3 : xi_ok cX1_doRound xi_64_3 = true := by decide +kernel
def xi_64 (pc : Nat) : XIs := cond (Nat.blt pc 58) (cond (Nat.blt pc 28) (xi_64_0) (xi_64_1)) (cond (Nat.blt pc 86) (xi_64_2) (xi_64_3))
theorem xi_ok64 (pc : Nat) : xi_ok cX1_doRound (xi_64 pc) = true := xi_c (xi_c (xi_ok64_0) (xi_ok64_1)) (xi_c (xi_ok64_2) (xi_ok64_3))
def xi_65_0 : XIs := [(0, .lconst 0, 1), (1, .lstore 4, 2), (3, .ldc2_w 138, 3), (6, .lstore 6, 2), (8, .ldc2_w 140, 3), (11, .lstore 8, 2), (13, .aload_n 1, 1), (14, .getfield 142, 3), (17, .iload_n 2, 1), (18, .iaload, 1), (19, .istore 10, 2), (21, .iload 10, 2), (23, .aload_n 1, 1), (24, .getfield 142, 3), (27, .iload_n 2, 1), (28, .iconst 1, 1)]
set_option maxRecDepth 100000 in
theorem xi_ok65_0 : xi_ok cX1_look xi_65_0 = true := by decide +kernel
def xi_65_1 : XIs := [(29, .iadd, 1), (30, .iaload, 1), (31, .if_icmp .ge 73, 3), (34, .aload_n 1, 1), (35, .getfield 145, 3), (38, .iload 10, 2), (40, .iaload, 1), (41, .istore 11, 2), (43, .aload_n 0, 1), (44, .getfield 35, 3), (47, .aload_n 1, 1), (48, .getfield 148, 3), (51, .iload 11, 2), (53, .iaload, 1), (54, .laload, 1), (55, .lstore 12, 2)]
set_option maxRecDepth 100000 in
theorem xi_ok65_1 : xi_ok cX1_look xi_65_1 = true := by decide +kernel
def xi_65_2 : XIs := [(57, .lload 12, 2), (59, .aload_n 1, 1), (60, .getfield 151, 3), (63, .iload 11, 2), (65, .iaload, 1), (66, .i2l, 1), (67, .ladd, 1), (68, .invokestatic 154, 3), (71, .lstore 14, 2), (73, .lload 4, 2), (75, .lload 12, 2), (77, .ladd, 1), (78, .lstore 4, 2), (80, .lload 6, 2), (82, .lload 14, 2), (84, .invokestatic 158, 3)]
set_option maxRecDepth 100000 in
theorem xi_ok65_2 : xi_ok cX1_look xi_65_2 = true := by decide +kernel
def xi_65_3 : XIs := [(87, .lstore 6, 2), (89, .lload 8, 2), (91, .lload 14, 2), (93, .invokestatic 164, 3), (96, .lstore 8, 2), (98, .iinc 10 1, 3), (101, .goto (-80), 3), (104, .aload_n 0, 1), (105, .getfield 29, 3), (108, .iconst 0, 1), (109, .aload_n 0, 1), (110, .getfield 35, 3), (113, .iload_n 2, 1), (114, .laload, 1), (115, .lastore, 1), (116, .aload_n 0, 1)]
set_option maxRecDepth 100000 in
theorem xi_ok65_3 : xi_ok cX1_look xi_65_3 = true := by decide +kernel
def xi_65_4 : XIs := [(117, .getfield 29, 3), (120, .iconst 1, 1), (121, .iload_n 2, 1), (122, .i2l, 1), (123, .lastore, 1), (124, .aload_n 0, 1), (125, .getfield 29, 3), (128, .iconst 2, 1), (129, .aload_n 1, 1), (130, .getfield 167, 3), (133, .iload_n 2, 1), (134, .iaload, 1), (135, .i2l, 1), (136, .lastore, 1), (137, .aload_n 0, 1), (138, .getfield 29, 3)]
set_option maxRecDepth 100000 in
theorem xi_ok65_4 : xi_ok cX1_look xi_65_4 = true := by decide +kernel
def xi_65_5 : XIs := [(141, .iconst 3, 1), (142, .aload_n 1, 1), (143, .iload_n 2, 1), (144, .invokevirtual 170, 3), (147, .i2l, 1), (148, .lastore, 1), (149, .aload_n 0, 1), (150, .getfield 29, 3), (153, .iconst 4, 1), (154, .aload_n 1, 1), (155, .iload_n 2, 1), (156, .invokevirtual 173, 3), (159, .i2l, 1), (160, .lastore, 1), (161, .aload_n 0, 1), (162, .getfield 29, 3)]
set_option maxRecDepth 100000 in
theorem xi_ok65_5 : xi_ok cX1_look xi_65_5 = true := by decide +kernel
def xi_65_6 : XIs := [(165, .iconst 5, 1), (166, .iload_n 3, 1), (167, .i2l, 1), (168, .lastore, 1), (169, .aload_n 0, 1), (170, .getfield 29, 3), (173, .bipush 6, 2), (175, .lload 4, 2), (177, .invokestatic 154, 3), (180, .lastore, 1), (181, .aload_n 0, 1), (182, .getfield 29, 3), (185, .bipush 7, 2), (187, .lload 6, 2), (189, .lastore, 1), (190, .aload_n 0, 1)]
set_option maxRecDepth 100000 in
theorem xi_ok65_6 : xi_ok cX1_look xi_65_6 = true := by decide +kernel
def xi_65_7 : XIs := [(191, .getfield 29, 3), (194, .bipush 8, 2), (196, .lload 8, 2), (198, .lastore, 1), (199, .return_, 1)]
set_option maxRecDepth 100000 in
theorem xi_ok65_7 : xi_ok cX1_look xi_65_7 = true := by decide +kernel
def xi_65 (pc : Nat) : XIs := cond (Nat.blt pc 117) (cond (Nat.blt pc 57) (cond (Nat.blt pc 29) (xi_65_0) (xi_65_1)) (cond (Nat.blt pc 87) (xi_65_2) (xi_65_3))) (cond (Nat.blt pc 165) (cond (Nat.blt pc 141) (xi_65_4) (xi_65_5)) (cond (Nat.blt pc 191) (xi_65_6) (xi_65_7)))
theorem xi_ok65 (pc : Nat) : xi_ok cX1_look (xi_65 pc) = true := xi_c (xi_c (xi_c (xi_ok65_0) (xi_ok65_1)) (xi_c (xi_ok65_2) (xi_ok65_3))) (xi_c (xi_c (xi_ok65_4) (xi_ok65_5)) (xi_c (xi_ok65_6) (xi_ok65_7)))
def xi_66_0 : XIs := [(0, .iconst 0, 1), (1, .istore_n 3, 1), (2, .iload_n 1, 1), (3, .istore 4, 2), (5, .iload 4, 2), (7, .iload_n 2, 1), (8, .if_icmp .ge 120, 3), (11, .aload_n 0, 1), (12, .getfield 11, 3), (15, .iload 4, 2), (17, .iaload, 1), (18, .istore 5, 2), (20, .iload 5, 2), (22, .ldc 83, 2), (24, .if_icmp .ge 38, 3), (27, .aload_n 0, 1)]
set_option maxRecDepth 100000 in
theorem xi_ok66_0 : xi_ok cX1_compute xi_66_0 = true := by decide +kernel
def xi_66_1 : XIs := [(28, .getfield 25, 3), (31, .iload_n 3, 1), (32, .iload 5, 2), (34, .ldc 110, 2), (36, .if_icmp .ge 9, 3), (39, .iload 5, 2), (41, .i2l, 1), (42, .goto 13, 3), (45, .aload_n 0, 1), (46, .getfield 29, 3), (49, .iload 5, 2), (51, .ldc 110, 2), (53, .isub, 1), (54, .laload, 1), (55, .lastore, 1), (56, .iinc 3 1, 3)]
set_option maxRecDepth 100000 in
theorem xi_ok66_1 : xi_ok cX1_compute xi_66_1 = true := by decide +kernel
def xi_66_2 : XIs := [(59, .goto 63, 3), (62, .iload 5, 2), (64, .ldc 101, 2), (66, .if_icmp .ne 23, 3), (69, .aload_n 0, 1), (70, .getfield 25, 3), (73, .iload_n 3, 1), (74, .iconst 1, 1), (75, .isub, 1), (76, .aload_n 0, 1), (77, .getfield 25, 3), (80, .iload_n 3, 1), (81, .iconst 1, 1), (82, .isub, 1), (83, .laload, 1), (84, .lneg, 1)]
set_option maxRecDepth 100000 in
theorem xi_ok66_2 : xi_ok cX1_compute xi_66_2 = true := by decide +kernel
def xi_66_3 : XIs := [(85, .lastore, 1), (86, .goto 36, 3), (89, .iinc 3 (-1), 3), (92, .aload_n 0, 1), (93, .getfield 25, 3), (96, .iload_n 3, 1), (97, .iconst 1, 1), (98, .isub, 1), (99, .iload 5, 2), (101, .ldc 83, 2), (103, .isub, 1), (104, .aload_n 0, 1), (105, .getfield 25, 3), (108, .iload_n 3, 1), (109, .iconst 1, 1), (110, .isub, 1)]
set_option maxRecDepth 100000 in
theorem xi_ok66_3 : xi_ok cX1_compute xi_66_3 = true := by decide +kernel
def xi_66_4 : XIs := [(111, .laload, 1), (112, .aload_n 0, 1), (113, .getfield 25, 3), (116, .iload_n 3, 1), (117, .laload, 1), (118, .invokestatic 176, 3), (121, .lastore, 1), (122, .iinc 4 1, 3), (125, .goto (-120), 3), (128, .aload_n 0, 1), (129, .getfield 25, 3), (132, .iconst 0, 1), (133, .laload, 1), (134, .lreturn, 1)]
set_option maxRecDepth 100000 in
theorem xi_ok66_4 : xi_ok cX1_compute xi_66_4 = true := by decide +kernel
def xi_66 (pc : Nat) : XIs := cond (Nat.blt pc 59) (cond (Nat.blt pc 28) (xi_66_0) (xi_66_1)) (cond (Nat.blt pc 85) (xi_66_2) (cond (Nat.blt pc 111) (xi_66_3) (xi_66_4)))
theorem xi_ok66 (pc : Nat) : xi_ok cX1_compute (xi_66 pc) = true := xi_c (xi_c (xi_ok66_0) (xi_ok66_1)) (xi_c (xi_ok66_2) (xi_c (xi_ok66_3) (xi_ok66_4)))
def xi_67_0 : XIs := [(0, .iload_n 0, 1), (1, .lookupswitch 75 #[(42, 57), (43, 43), (45, 50), (60, 63)], 43), (44, .lload_n 1, 1), (45, .lload_n 3, 1), (46, .ladd, 1), (47, .invokestatic 154, 3), (50, .lreturn, 1), (51, .lload_n 1, 1), (52, .lload_n 3, 1), (53, .lsub, 1), (54, .invokestatic 154, 3), (57, .lreturn, 1), (58, .lload_n 1, 1), (59, .lload_n 3, 1), (60, .invokestatic 180, 3), (63, .lreturn, 1)]
set_option maxRecDepth 100000 in
theorem xi_ok67_0 : xi_ok cX1_combine xi_67_0 = true := by decide +kernel
def xi_67_1 : XIs := [(64, .lload_n 1, 1), (65, .lload_n 3, 1), (66, .lcmp, 1), (67, .ifCond .ge 7, 3), (70, .lconst 1, 1), (71, .goto 4, 3), (74, .lconst 0, 1), (75, .lreturn, 1), (76, .lload_n 1, 1), (77, .lload_n 3, 1), (78, .lcmp, 1), (79, .ifCond .ne 7, 3), (82, .lconst 1, 1), (83, .goto 4, 3), (86, .lconst 0, 1), (87, .lreturn, 1)]
set_option maxRecDepth 100000 in
theorem xi_ok67_1 : xi_ok cX1_combine xi_67_1 = true := by decide +kernel
def xi_67 (pc : Nat) : XIs := cond (Nat.blt pc 64) (xi_67_0) (xi_67_1)
theorem xi_ok67 (pc : Nat) : xi_ok cX1_combine (xi_67 pc) = true := xi_c (xi_ok67_0) (xi_ok67_1)
def xi_68_0 : XIs := [(0, .lload_n 0, 1), (1, .lconst 0, 1), (2, .lcmp, 1), (3, .ifCond .eq 19, 3), (6, .lload_n 2, 1), (7, .invokestatic 183, 3), (10, .ldc2_w 138, 3), (13, .lload_n 0, 1), (14, .invokestatic 183, 3), (17, .ldiv, 1), (18, .lcmp, 1), (19, .ifCond .gt 7, 3), (22, .lload_n 0, 1), (23, .lload_n 2, 1), (24, .lmul, 1), (25, .lreturn, 1)]
set_option maxRecDepth 100000 in
theorem xi_ok68_0 : xi_ok cX1_times xi_68_0 = true := by decide +kernel
def xi_68_1 : XIs := [(26, .lload_n 0, 1), (27, .lconst 0, 1), (28, .lcmp, 1), (29, .ifCond .le 7, 3), (32, .iconst 1, 1), (33, .goto 4, 3), (36, .iconst 0, 1), (37, .lload_n 2, 1), (38, .lconst 0, 1), (39, .lcmp, 1), (40, .ifCond .le 7, 3), (43, .iconst 1, 1), (44, .goto 4, 3), (47, .iconst 0, 1), (48, .if_icmp .ne 9, 3), (51, .ldc2_w 138, 3)]
set_option maxRecDepth 100000 in
theorem xi_ok68_1 : xi_ok cX1_times xi_68_1 = true := by decide +kernel
def xi_68_2 : XIs := [(54, .goto 6, 3), (57, .ldc2_w 140, 3), (60, .lreturn, 1)]
set_option maxRecDepth 100000 in
theorem xi_ok68_2 : xi_ok cX1_times xi_68_2 = true := by decide +kernel
def xi_68 (pc : Nat) : XIs := cond (Nat.blt pc 26) (xi_68_0) (cond (Nat.blt pc 54) (xi_68_1) (xi_68_2))
theorem xi_ok68 (pc : Nat) : xi_ok cX1_times (xi_68 pc) = true := xi_c (xi_ok68_0) (xi_c (xi_ok68_1) (xi_ok68_2))
def xi_69_0 : XIs := [(0, .ldc2_w 140, 3), (3, .ldc2_w 138, 3), (6, .lload_n 0, 1), (7, .invokestatic 158, 3), (10, .invokestatic 164, 3), (13, .lreturn, 1)]
set_option maxRecDepth 100000 in
theorem xi_ok69_0 : xi_ok cX1_clip xi_69_0 = true := by decide +kernel
def xi_69 (pc : Nat) : XIs := xi_69_0
theorem xi_ok69 (pc : Nat) : xi_ok cX1_clip (xi_69 pc) = true := xi_ok69_0
def xi_70_0 : XIs := [(0, .aload_n 0, 1), (1, .iconst 0, 1), (2, .putfield 186, 3), (5, .aload_n 0, 1), (6, .iconst 0, 1), (7, .putfield 189, 3), (10, .aload_n 0, 1), (11, .iconst 0, 1), (12, .putfield 192, 3), (15, .aload_n 1, 1), (16, .iload_n 3, 1), (17, .invokestatic 195, 3), (20, .istore 7, 2), (22, .iconst 0, 1), (23, .istore 8, 2), (25, .iload 8, 2)]
set_option maxRecDepth 100000 in
theorem xi_ok70_0 : xi_ok cX1_post xi_70_0 = true := by decide +kernel
def xi_70_1 : XIs := [(27, .iload_n 2, 1), (28, .if_icmp .ge 56, 3), (31, .iload 7, 2), (33, .istore 9, 2), (35, .iconst 0, 1), (36, .istore 10, 2), (38, .iload 10, 2), (40, .ldc 110, 2), (42, .if_icmp .ge 36, 3), (45, .iload 9, 2), (47, .ifCond .le 31, 3), (50, .aload_n 0, 1), (51, .iload 9, 2), (53, .iload 4, 2), (55, .lload 5, 2), (57, .invokevirtual 199, 3)]
set_option maxRecDepth 100000 in
theorem xi_ok70_1 : xi_ok cX1_post xi_70_1 = true := by decide +kernel
def xi_70_2 : XIs := [(60, .istore 9, 2), (62, .aload_n 0, 1), (63, .dup, 1), (64, .getfield 192, 3), (67, .iconst 1, 1), (68, .iadd, 1), (69, .putfield 192, 3), (72, .iinc 10 1, 3), (75, .goto (-37), 3), (78, .iinc 8 1, 3), (81, .goto (-56), 3), (84, .return_, 1)]
set_option maxRecDepth 100000 in
theorem xi_ok70_2 : xi_ok cX1_post xi_70_2 = true := by decide +kernel
def xi_70 (pc : Nat) : XIs := cond (Nat.blt pc 27) (xi_70_0) (cond (Nat.blt pc 60) (xi_70_1) (xi_70_2))
theorem xi_ok70 (pc : Nat) : xi_ok cX1_post (xi_70 pc) = true := xi_c (xi_ok70_0) (xi_c (xi_ok70_1) (xi_ok70_2))
def xi_71_0 : XIs := [(0, .iload_n 1, 1), (1, .iconst 1, 1), (2, .if_icmp .ge 5, 3), (5, .iconst 0, 1), (6, .ireturn, 1), (7, .iconst 0, 1), (8, .istore_n 2, 1), (9, .iconst 0, 1), (10, .istore_n 3, 1), (11, .iload_n 3, 1), (12, .aload_n 0, 1), (13, .getfield 116, 3), (16, .if_icmp .ge 67, 3), (19, .iconst 0, 1), (20, .istore 4, 2), (22, .aload_n 0, 1)]
set_option maxRecDepth 100000 in
theorem xi_ok71_0 : xi_ok cX1_lettersOf xi_71_0 = true := by decide +kernel
def xi_71_1 : XIs := [(23, .getfield 203, 3), (26, .iload_n 3, 1), (27, .iaload, 1), (28, .istore 5, 2), (30, .iload 5, 2), (32, .ifCond .eq 29, 3), (35, .iload 4, 2), (37, .iconst 1, 1), (38, .iload 5, 2), (40, .invokestatic 206, 3), (43, .iload_n 1, 1), (44, .irem, 1), (45, .ishl, 1), (46, .ior, 1), (47, .istore 4, 2), (49, .iload 5, 2)]
set_option maxRecDepth 100000 in
theorem xi_ok71_1 : xi_ok cX1_lettersOf xi_71_1 = true := by decide +kernel
def xi_71_2 : XIs := [(51, .iload 5, 2), (53, .iconst 1, 1), (54, .isub, 1), (55, .iand, 1), (56, .istore 5, 2), (58, .goto (-28), 3), (61, .iload_n 2, 1), (62, .iload 4, 2), (64, .iconst 1, 1), (65, .iload_n 3, 1), (66, .iload_n 1, 1), (67, .irem, 1), (68, .ishl, 1), (69, .iconst (-1), 1), (70, .ixor, 1), (71, .iand, 1)]
set_option maxRecDepth 100000 in
theorem xi_ok71_2 : xi_ok cX1_lettersOf xi_71_2 = true := by decide +kernel
def xi_71_3 : XIs := [(72, .invokestatic 209, 3), (75, .iadd, 1), (76, .istore_n 2, 1), (77, .iinc 3 1, 3), (80, .goto (-69), 3), (83, .iload_n 2, 1), (84, .ireturn, 1)]
set_option maxRecDepth 100000 in
theorem xi_ok71_3 : xi_ok cX1_lettersOf xi_71_3 = true := by decide +kernel
def xi_71 (pc : Nat) : XIs := cond (Nat.blt pc 51) (cond (Nat.blt pc 23) (xi_71_0) (xi_71_1)) (cond (Nat.blt pc 72) (xi_71_2) (xi_71_3))
theorem xi_ok71 (pc : Nat) : xi_ok cX1_lettersOf (xi_71 pc) = true := xi_c (xi_c (xi_ok71_0) (xi_ok71_1)) (xi_c (xi_ok71_2) (xi_ok71_3))
def xi_72_0 : XIs := [(0, .iconst 0, 1), (1, .istore 5, 2), (3, .iconst 0, 1), (4, .istore 6, 2), (6, .iload 6, 2), (8, .iload_n 1, 1), (9, .if_icmp .ge 42, 3), (12, .aload_n 0, 1), (13, .dup, 1), (14, .getfield 186, 3), (17, .iconst 1, 1), (18, .iadd, 1), (19, .putfield 186, 3), (22, .lload_n 3, 1), (23, .ldc2_w 214, 3), (26, .aload_n 0, 1)]
set_option maxRecDepth 100000 in
theorem xi_ok72_0 : xi_ok cX1_sendAll xi_72_0 = true := by decide +kernel
def xi_72_1 : XIs := [(27, .getfield 186, 3), (30, .i2l, 1), (31, .lmul, 1), (32, .ladd, 1), (33, .invokestatic 216, 3), (36, .iload_n 2, 1), (37, .i2l, 1), (38, .lcmp, 1), (39, .ifCond .ge 6, 3), (42, .iinc 5 1, 3), (45, .iinc 6 1, 3), (48, .goto (-42), 3), (51, .aload_n 0, 1), (52, .dup, 1), (53, .getfield 189, 3), (56, .iload 5, 2)]
set_option maxRecDepth 100000 in
theorem xi_ok72_1 : xi_ok cX1_sendAll xi_72_1 = true := by decide +kernel
def xi_72_2 : XIs := [(58, .iadd, 1), (59, .putfield 189, 3), (62, .iload 5, 2), (64, .ireturn, 1)]
set_option maxRecDepth 100000 in
theorem xi_ok72_2 : xi_ok cX1_sendAll xi_72_2 = true := by decide +kernel
def xi_72 (pc : Nat) : XIs := cond (Nat.blt pc 27) (xi_72_0) (cond (Nat.blt pc 58) (xi_72_1) (xi_72_2))
theorem xi_ok72 (pc : Nat) : xi_ok cX1_sendAll (xi_72 pc) = true := xi_c (xi_ok72_0) (xi_c (xi_ok72_1) (xi_ok72_2))
def xi_73_0 : XIs := [(0, .lload_n 0, 1), (1, .lstore_n 2, 1), (2, .lload_n 2, 1), (3, .lload_n 2, 1), (4, .bipush 30, 2), (6, .lushr, 1), (7, .lxor, 1), (8, .ldc2_w 219, 3), (11, .lmul, 1), (12, .lstore_n 2, 1), (13, .lload_n 2, 1), (14, .lload_n 2, 1), (15, .bipush 27, 2), (17, .lushr, 1), (18, .lxor, 1), (19, .ldc2_w 221, 3)]
set_option maxRecDepth 100000 in
theorem xi_ok73_0 : xi_ok cX1_draw xi_73_0 = true := by decide +kernel
def xi_73_1 : XIs := [(22, .lmul, 1), (23, .lstore_n 2, 1), (24, .lload_n 2, 1), (25, .lload_n 2, 1), (26, .bipush 31, 2), (28, .lushr, 1), (29, .lxor, 1), (30, .lstore_n 2, 1), (31, .lload_n 2, 1), (32, .bipush 33, 2), (34, .lushr, 1), (35, .ldc2_w 223, 3), (38, .lrem, 1), (39, .lreturn, 1)]
set_option maxRecDepth 100000 in
theorem xi_ok73_1 : xi_ok cX1_draw xi_73_1 = true := by decide +kernel
def xi_73 (pc : Nat) : XIs := cond (Nat.blt pc 22) (xi_73_0) (xi_73_1)
theorem xi_ok73 (pc : Nat) : xi_ok cX1_draw (xi_73 pc) = true := xi_c (xi_ok73_0) (xi_ok73_1)
def xi_74_0 : XIs := [(0, .aload_n 0, 1), (1, .invokespecial 3, 3), (4, .aload_n 0, 1), (5, .iconst (-1), 1), (6, .putfield 9, 3), (9, .aload_n 0, 1), (10, .sipush 1024, 3), (13, .newarray .int, 2), (15, .putfield 15, 3), (18, .aload_n 0, 1), (19, .bipush 32, 2), (21, .newarray .int, 2), (23, .putfield 19, 3), (26, .aload_n 0, 1), (27, .bipush 32, 2), (29, .newarray .int, 2)]
set_option maxRecDepth 100000 in
theorem xi_ok74_0 : xi_ok cX2_init xi_74_0 = true := by decide +kernel
def xi_74_1 : XIs := [(31, .putfield 22, 3), (34, .aload_n 0, 1), (35, .sipush 160, 3), (38, .newarray .int, 2), (40, .putfield 25, 3), (43, .aload_n 0, 1), (44, .sipush 160, 3), (47, .newarray .int, 2), (49, .putfield 28, 3), (52, .aload_n 0, 1), (53, .sipush 160, 3), (56, .newarray .int, 2), (58, .putfield 31, 3), (61, .aload_n 0, 1), (62, .sipush 160, 3), (65, .newarray .int, 2)]
set_option maxRecDepth 100000 in
theorem xi_ok74_1 : xi_ok cX2_init xi_74_1 = true := by decide +kernel
def xi_74_2 : XIs := [(67, .putfield 34, 3), (70, .aload_n 0, 1), (71, .sipush 160, 3), (74, .newarray .int, 2), (76, .putfield 37, 3), (79, .aload_n 0, 1), (80, .bipush 32, 2), (82, .newarray .int, 2), (84, .putfield 40, 3), (87, .aload_n 0, 1), (88, .bipush 32, 2), (90, .newarray .long, 2), (92, .putfield 43, 3), (95, .aload_n 0, 1), (96, .iconst (-1), 1), (97, .putfield 47, 3)]
set_option maxRecDepth 100000 in
theorem xi_ok74_2 : xi_ok cX2_init xi_74_2 = true := by decide +kernel
def xi_74_3 : XIs := [(100, .return_, 1)]
set_option maxRecDepth 100000 in
theorem xi_ok74_3 : xi_ok cX2_init xi_74_3 = true := by decide +kernel
def xi_74 (pc : Nat) : XIs := cond (Nat.blt pc 67) (cond (Nat.blt pc 31) (xi_74_0) (xi_74_1)) (cond (Nat.blt pc 100) (xi_74_2) (xi_74_3))
theorem xi_ok74 (pc : Nat) : xi_ok cX2_init (xi_74 pc) = true := xi_c (xi_c (xi_ok74_0) (xi_ok74_1)) (xi_c (xi_ok74_2) (xi_ok74_3))
def xi_75_0 : XIs := [(0, .aload_n 0, 1), (1, .getfield 9, 3), (4, .aload_n 1, 1), (5, .getfield 50, 3), (8, .if_icmp .ne 24, 3), (11, .aload_n 0, 1), (12, .getfield 55, 3), (15, .iload_n 2, 1), (16, .if_icmp .ne 16, 3), (19, .aload_n 0, 1), (20, .getfield 58, 3), (23, .iload_n 3, 1), (24, .if_icmp .ne 8, 3), (27, .aload_n 0, 1), (28, .getfield 61, 3), (31, .lreturn, 1)]
set_option maxRecDepth 100000 in
theorem xi_ok75_0 : xi_ok cX2_greatest xi_75_0 = true := by decide +kernel
def xi_75_1 : XIs := [(32, .aload_n 0, 1), (33, .aload_n 1, 1), (34, .getfield 50, 3), (37, .putfield 9, 3), (40, .aload_n 0, 1), (41, .iload_n 2, 1), (42, .putfield 55, 3), (45, .aload_n 0, 1), (46, .iload_n 3, 1), (47, .putfield 58, 3), (50, .aload_n 0, 1), (51, .lconst 0, 1), (52, .putfield 61, 3), (55, .aload_n 0, 1), (56, .aload_n 1, 1), (57, .invokevirtual 65, 3)]
set_option maxRecDepth 100000 in
theorem xi_ok75_1 : xi_ok cX2_greatest xi_75_1 = true := by decide +kernel
def xi_75_2 : XIs := [(60, .iconst 0, 1), (61, .istore 4, 2), (63, .iload 4, 2), (65, .ldc 69, 2), (67, .if_icmp .ge 34, 3), (70, .aload_n 0, 1), (71, .iload_n 2, 1), (72, .iload_n 3, 1), (73, .invokevirtual 70, 3), (76, .ifCond .eq 25, 3), (79, .aload_n 0, 1), (80, .dup, 1), (81, .getfield 61, 3), (84, .aload_n 0, 1), (85, .iload_n 2, 1), (86, .iload_n 3, 1)]
set_option maxRecDepth 100000 in
theorem xi_ok75_2 : xi_ok cX2_greatest xi_75_2 = true := by decide +kernel
def xi_75_3 : XIs := [(87, .invokevirtual 74, 3), (90, .i2l, 1), (91, .ladd, 1), (92, .putfield 61, 3), (95, .iinc 4 1, 3), (98, .goto (-35), 3), (101, .aload_n 0, 1), (102, .getfield 61, 3), (105, .lreturn, 1)]
set_option maxRecDepth 100000 in
theorem xi_ok75_3 : xi_ok cX2_greatest xi_75_3 = true := by decide +kernel
def xi_75 (pc : Nat) : XIs := cond (Nat.blt pc 60) (cond (Nat.blt pc 32) (xi_75_0) (xi_75_1)) (cond (Nat.blt pc 87) (xi_75_2) (xi_75_3))
theorem xi_ok75 (pc : Nat) : xi_ok cX2_greatest (xi_75 pc) = true := xi_c (xi_c (xi_ok75_0) (xi_ok75_1)) (xi_c (xi_ok75_2) (xi_ok75_3))
def xi_76_0 : XIs := [(0, .aload_n 0, 1), (1, .getfield 15, 3), (4, .iconst 0, 1), (5, .invokestatic 78, 3), (8, .aload_n 0, 1), (9, .getfield 19, 3), (12, .iconst 0, 1), (13, .invokestatic 78, 3), (16, .iconst 0, 1), (17, .istore_n 2, 1), (18, .iload_n 2, 1), (19, .aload_n 1, 1), (20, .getfield 84, 3), (23, .if_icmp .ge 78, 3), (26, .aload_n 1, 1), (27, .iload_n 2, 1)]
set_option maxRecDepth 100000 in
theorem xi_ok76_0 : xi_ok cX2_openAll xi_76_0 = true := by decide +kernel
def xi_76_1 : XIs := [(28, .invokevirtual 87, 3), (31, .ifCond .eq 64, 3), (34, .aload_n 1, 1), (35, .getfield 91, 3), (38, .iload_n 2, 1), (39, .iaload, 1), (40, .ifCond .le 55, 3), (43, .aload_n 0, 1), (44, .getfield 15, 3), (47, .aload_n 1, 1), (48, .getfield 94, 3), (51, .iload_n 2, 1), (52, .iaload, 1), (53, .bipush 32, 2), (55, .imul, 1), (56, .aload_n 1, 1)]
set_option maxRecDepth 100000 in
theorem xi_ok76_1 : xi_ok cX2_openAll xi_76_1 = true := by decide +kernel
def xi_76_2 : XIs := [(57, .getfield 97, 3), (60, .iload_n 2, 1), (61, .iaload, 1), (62, .iadd, 1), (63, .dup2, 1), (64, .iaload, 1), (65, .aload_n 1, 1), (66, .getfield 91, 3), (69, .iload_n 2, 1), (70, .iaload, 1), (71, .iadd, 1), (72, .iastore, 1), (73, .aload_n 0, 1), (74, .getfield 19, 3), (77, .aload_n 1, 1), (78, .getfield 94, 3)]
set_option maxRecDepth 100000 in
theorem xi_ok76_2 : xi_ok cX2_openAll xi_76_2 = true := by decide +kernel
def xi_76_3 : XIs := [(81, .iload_n 2, 1), (82, .iaload, 1), (83, .dup2, 1), (84, .iaload, 1), (85, .iconst 1, 1), (86, .aload_n 1, 1), (87, .getfield 97, 3), (90, .iload_n 2, 1), (91, .iaload, 1), (92, .ishl, 1), (93, .ior, 1), (94, .iastore, 1), (95, .iinc 2 1, 3), (98, .goto (-80), 3), (101, .return_, 1)]
set_option maxRecDepth 100000 in
theorem xi_ok76_3 : xi_ok cX2_openAll xi_76_3 = true := by decide +kernel
def xi_76 (pc : Nat) : XIs := cond (Nat.blt pc 57) (cond (Nat.blt pc 28) (xi_76_0) (xi_76_1)) (cond (Nat.blt pc 81) (xi_76_2) (xi_76_3))
theorem xi_ok76 (pc : Nat) : xi_ok cX2_openAll (xi_76 pc) = true := xi_c (xi_c (xi_ok76_0) (xi_ok76_1)) (xi_c (xi_ok76_2) (xi_ok76_3))
def xi_77_0 : XIs := [(0, .iconst 1, 1), (1, .iload_n 1, 1), (2, .ishl, 1), (3, .istore_n 3, 1), (4, .iload_n 3, 1), (5, .istore 4, 2), (7, .iconst 0, 1), (8, .istore 5, 2), (10, .iload 5, 2), (12, .bipush 32, 2), (14, .if_icmp .ge 115, 3), (17, .iload 4, 2), (19, .ifCond .eq 110, 3), (22, .iload_n 3, 1), (23, .iload_n 2, 1), (24, .ishr, 1)]
set_option maxRecDepth 100000 in
theorem xi_ok77_0 : xi_ok cX2_reach xi_77_0 = true := by decide +kernel
def xi_77_1 : XIs := [(25, .iconst 1, 1), (26, .iand, 1), (27, .ifCond .ne 102, 3), (30, .iconst 0, 1), (31, .istore 6, 2), (33, .iload 4, 2), (35, .istore 7, 2), (37, .iload 7, 2), (39, .ifCond .eq 80, 3), (42, .iload 7, 2), (44, .invokestatic 100, 3), (47, .istore 8, 2), (49, .aload_n 0, 1), (50, .getfield 19, 3), (53, .iload 8, 2), (55, .iaload, 1)]
set_option maxRecDepth 100000 in
theorem xi_ok77_1 : xi_ok cX2_reach xi_77_1 = true := by decide +kernel
def xi_77_2 : XIs := [(56, .iload_n 3, 1), (57, .iconst (-1), 1), (58, .ixor, 1), (59, .iand, 1), (60, .istore 9, 2), (62, .iload 9, 2), (64, .istore 10, 2), (66, .iload 10, 2), (68, .ifCond .eq 27, 3), (71, .aload_n 0, 1), (72, .getfield 22, 3), (75, .iload 10, 2), (77, .invokestatic 100, 3), (80, .iload 8, 2), (82, .iastore, 1), (83, .iload 10, 2)]
set_option maxRecDepth 100000 in
theorem xi_ok77_2 : xi_ok cX2_reach xi_77_2 = true := by decide +kernel
def xi_77_3 : XIs := [(85, .iload 10, 2), (87, .iconst 1, 1), (88, .isub, 1), (89, .iand, 1), (90, .istore 10, 2), (92, .goto (-26), 3), (95, .iload_n 3, 1), (96, .iload 9, 2), (98, .ior, 1), (99, .istore_n 3, 1), (100, .iload 6, 2), (102, .iload 9, 2), (104, .ior, 1), (105, .istore 6, 2), (107, .iload 7, 2), (109, .iload 7, 2)]
set_option maxRecDepth 100000 in
theorem xi_ok77_3 : xi_ok cX2_reach xi_77_3 = true := by decide +kernel
def xi_77_4 : XIs := [(111, .iconst 1, 1), (112, .isub, 1), (113, .iand, 1), (114, .istore 7, 2), (116, .goto (-79), 3), (119, .iload 6, 2), (121, .istore 4, 2), (123, .iinc 5 1, 3), (126, .goto (-116), 3), (129, .aload_n 0, 1), (130, .iload_n 3, 1), (131, .putfield 104, 3), (134, .iload_n 3, 1), (135, .iload_n 2, 1), (136, .ishr, 1), (137, .iconst 1, 1)]
set_option maxRecDepth 100000 in
theorem xi_ok77_4 : xi_ok cX2_reach xi_77_4 = true := by decide +kernel
def xi_77_5 : XIs := [(138, .iand, 1), (139, .ifCond .eq 7, 3), (142, .iconst 1, 1), (143, .goto 4, 3), (146, .iconst 0, 1), (147, .ireturn, 1)]
set_option maxRecDepth 100000 in
theorem xi_ok77_5 : xi_ok cX2_reach xi_77_5 = true := by decide +kernel
def xi_77 (pc : Nat) : XIs := cond (Nat.blt pc 85) (cond (Nat.blt pc 25) (xi_77_0) (cond (Nat.blt pc 56) (xi_77_1) (xi_77_2))) (cond (Nat.blt pc 111) (xi_77_3) (cond (Nat.blt pc 138) (xi_77_4) (xi_77_5)))
theorem xi_ok77 (pc : Nat) : xi_ok cX2_reach (xi_77 pc) = true := xi_c (xi_c (xi_ok77_0) (xi_c (xi_ok77_1) (xi_ok77_2))) (xi_c (xi_ok77_3) (xi_c (xi_ok77_4) (xi_ok77_5)))
def xi_78_0 : XIs := [(0, .ldc 107, 2), (2, .istore_n 3, 1), (3, .iload_n 2, 1), (4, .istore 4, 2), (6, .iconst 0, 1), (7, .istore 5, 2), (9, .iload 5, 2), (11, .bipush 32, 2), (13, .if_icmp .ge 47, 3), (16, .iload 4, 2), (18, .iload_n 1, 1), (19, .if_icmp .eq 41, 3), (22, .iload_n 3, 1), (23, .aload_n 0, 1), (24, .getfield 15, 3), (27, .aload_n 0, 1)]
set_option maxRecDepth 100000 in
theorem xi_ok78_0 : xi_ok cX2_push xi_78_0 = true := by decide +kernel
def xi_78_1 : XIs := [(28, .getfield 22, 3), (31, .iload 4, 2), (33, .iaload, 1), (34, .bipush 32, 2), (36, .imul, 1), (37, .iload 4, 2), (39, .iadd, 1), (40, .iaload, 1), (41, .invokestatic 108, 3), (44, .istore_n 3, 1), (45, .aload_n 0, 1), (46, .getfield 22, 3), (49, .iload 4, 2), (51, .iaload, 1), (52, .istore 4, 2), (54, .iinc 5 1, 3)]
set_option maxRecDepth 100000 in
theorem xi_ok78_1 : xi_ok cX2_push xi_78_1 = true := by decide +kernel
def xi_78_2 : XIs := [(57, .goto (-48), 3), (60, .iload_n 2, 1), (61, .istore 4, 2), (63, .iconst 0, 1), (64, .istore 5, 2), (66, .iload 5, 2), (68, .bipush 32, 2), (70, .if_icmp .ge 108, 3), (73, .iload 4, 2), (75, .iload_n 1, 1), (76, .if_icmp .eq 102, 3), (79, .aload_n 0, 1), (80, .getfield 22, 3), (83, .iload 4, 2), (85, .iaload, 1), (86, .istore 6, 2)]
set_option maxRecDepth 100000 in
theorem xi_ok78_2 : xi_ok cX2_push xi_78_2 = true := by decide +kernel
def xi_78_3 : XIs := [(88, .aload_n 0, 1), (89, .getfield 15, 3), (92, .iload 6, 2), (94, .bipush 32, 2), (96, .imul, 1), (97, .iload 4, 2), (99, .iadd, 1), (100, .dup2, 1), (101, .iaload, 1), (102, .iload_n 3, 1), (103, .isub, 1), (104, .iastore, 1), (105, .aload_n 0, 1), (106, .getfield 15, 3), (109, .iload 6, 2), (111, .bipush 32, 2)]
set_option maxRecDepth 100000 in
theorem xi_ok78_3 : xi_ok cX2_push xi_78_3 = true := by decide +kernel
def xi_78_4 : XIs := [(113, .imul, 1), (114, .iload 4, 2), (116, .iadd, 1), (117, .iaload, 1), (118, .ifCond .ne 19, 3), (121, .aload_n 0, 1), (122, .getfield 19, 3), (125, .iload 6, 2), (127, .dup2, 1), (128, .iaload, 1), (129, .iconst 1, 1), (130, .iload 4, 2), (132, .ishl, 1), (133, .iconst (-1), 1), (134, .ixor, 1), (135, .iand, 1)]
set_option maxRecDepth 100000 in
theorem xi_ok78_4 : xi_ok cX2_push xi_78_4 = true := by decide +kernel
def xi_78_5 : XIs := [(136, .iastore, 1), (137, .aload_n 0, 1), (138, .getfield 15, 3), (141, .iload 4, 2), (143, .bipush 32, 2), (145, .imul, 1), (146, .iload 6, 2), (148, .iadd, 1), (149, .dup2, 1), (150, .iaload, 1), (151, .iload_n 3, 1), (152, .iadd, 1), (153, .iastore, 1), (154, .aload_n 0, 1), (155, .getfield 19, 3), (158, .iload 4, 2)]
set_option maxRecDepth 100000 in
theorem xi_ok78_5 : xi_ok cX2_push xi_78_5 = true := by decide +kernel
def xi_78_6 : XIs := [(160, .dup2, 1), (161, .iaload, 1), (162, .iconst 1, 1), (163, .iload 6, 2), (165, .ishl, 1), (166, .ior, 1), (167, .iastore, 1), (168, .iload 6, 2), (170, .istore 4, 2), (172, .iinc 5 1, 3), (175, .goto (-109), 3), (178, .iload_n 3, 1), (179, .ireturn, 1)]
set_option maxRecDepth 100000 in
theorem xi_ok78_6 : xi_ok cX2_push xi_78_6 = true := by decide +kernel
def xi_78 (pc : Nat) : XIs := cond (Nat.blt pc 88) (cond (Nat.blt pc 28) (xi_78_0) (cond (Nat.blt pc 57) (xi_78_1) (xi_78_2))) (cond (Nat.blt pc 136) (cond (Nat.blt pc 113) (xi_78_3) (xi_78_4)) (cond (Nat.blt pc 160) (xi_78_5) (xi_78_6)))
theorem xi_ok78 (pc : Nat) : xi_ok cX2_push (xi_78 pc) = true := xi_c (xi_c (xi_ok78_0) (xi_c (xi_ok78_1) (xi_ok78_2))) (xi_c (xi_c (xi_ok78_3) (xi_ok78_4)) (xi_c (xi_ok78_5) (xi_ok78_6)))
def xi_79_0 : XIs := [(0, .iload 4, 2), (2, .i2l, 1), (3, .aload_n 0, 1), (4, .aload_n 1, 1), (5, .iload_n 2, 1), (6, .iload_n 3, 1), (7, .invokevirtual 113, 3), (10, .lcmp, 1), (11, .ifCond .le 7, 3), (14, .ldc2_w 117, 3), (17, .lreturn, 1), (18, .aload_n 0, 1), (19, .aload_n 1, 1), (20, .invokevirtual 119, 3), (23, .lstore 5, 2), (25, .aload_n 0, 1)]
set_option maxRecDepth 100000 in
theorem xi_ok79_0 : xi_ok cX2_cheapest xi_79_0 = true := by decide +kernel
def xi_79_1 : XIs := [(26, .getfield 40, 3), (29, .iload_n 2, 1), (30, .iload 4, 2), (32, .iastore, 1), (33, .aload_n 0, 1), (34, .getfield 40, 3), (37, .iload_n 3, 1), (38, .iload 4, 2), (40, .ineg, 1), (41, .iastore, 1), (42, .ldc 123, 2), (44, .istore 7, 2), (46, .ldc 124, 2), (48, .istore 8, 2), (50, .iload 8, 2), (52, .ifCond .le 39, 3)]
set_option maxRecDepth 100000 in
theorem xi_ok79_1 : xi_ok cX2_cheapest xi_79_1 = true := by decide +kernel
def xi_79_2 : XIs := [(55, .aload_n 0, 1), (56, .aload_n 1, 1), (57, .getfield 125, 3), (60, .iload 7, 2), (62, .iload 8, 2), (64, .invokevirtual 128, 3), (67, .aload_n 0, 1), (68, .aload_n 1, 1), (69, .getfield 125, 3), (72, .iload 8, 2), (74, .invokevirtual 132, 3), (77, .iload 8, 2), (79, .istore 7, 2), (81, .iload 8, 2), (83, .bipush 16, 2), (85, .idiv, 1)]
set_option maxRecDepth 100000 in
theorem xi_ok79_2 : xi_ok cX2_cheapest xi_79_2 = true := by decide +kernel
def xi_79_3 : XIs := [(86, .istore 8, 2), (88, .goto (-38), 3), (91, .iconst 0, 1), (92, .istore 8, 2), (94, .iload 8, 2), (96, .aload_n 0, 1), (97, .getfield 136, 3), (100, .if_icmp .ge 31, 3), (103, .lload 5, 2), (105, .aload_n 0, 1), (106, .getfield 31, 3), (109, .iload 8, 2), (111, .iaload, 1), (112, .i2l, 1), (113, .aload_n 0, 1), (114, .getfield 37, 3)]
set_option maxRecDepth 100000 in
theorem xi_ok79_3 : xi_ok cX2_cheapest xi_79_3 = true := by decide +kernel
def xi_79_4 : XIs := [(117, .iload 8, 2), (119, .iaload, 1), (120, .i2l, 1), (121, .lmul, 1), (122, .ladd, 1), (123, .lstore 5, 2), (125, .iinc 8 1, 3), (128, .goto (-34), 3), (131, .lload 5, 2), (133, .lreturn, 1)]
set_option maxRecDepth 100000 in
theorem xi_ok79_4 : xi_ok cX2_cheapest xi_79_4 = true := by decide +kernel
def xi_79 (pc : Nat) : XIs := cond (Nat.blt pc 55) (cond (Nat.blt pc 26) (xi_79_0) (xi_79_1)) (cond (Nat.blt pc 86) (xi_79_2) (cond (Nat.blt pc 117) (xi_79_3) (xi_79_4)))
theorem xi_ok79 (pc : Nat) : xi_ok cX2_cheapest (xi_79 pc) = true := xi_c (xi_c (xi_ok79_0) (xi_ok79_1)) (xi_c (xi_ok79_2) (xi_c (xi_ok79_3) (xi_ok79_4)))
def xi_80_0 : XIs := [(0, .aload_n 0, 1), (1, .getfield 40, 3), (4, .iconst 0, 1), (5, .invokestatic 78, 3), (8, .aload_n 0, 1), (9, .iconst 0, 1), (10, .putfield 136, 3), (13, .lconst 0, 1), (14, .lstore_n 2, 1), (15, .iconst 0, 1), (16, .istore 4, 2), (18, .iload 4, 2), (20, .aload_n 1, 1), (21, .getfield 84, 3), (24, .if_icmp .ge 94, 3), (27, .aload_n 1, 1)]
set_option maxRecDepth 100000 in
theorem xi_ok80_0 : xi_ok cX2_layArcs xi_80_0 = true := by decide +kernel
def xi_80_1 : XIs := [(28, .iload 4, 2), (30, .invokevirtual 87, 3), (33, .ifCond .eq 38, 3), (36, .aload_n 0, 1), (37, .aload_n 1, 1), (38, .getfield 94, 3), (41, .iload 4, 2), (43, .iaload, 1), (44, .aload_n 1, 1), (45, .getfield 97, 3), (48, .iload 4, 2), (50, .iaload, 1), (51, .aload_n 1, 1), (52, .getfield 139, 3), (55, .iload 4, 2), (57, .iaload, 1)]
set_option maxRecDepth 100000 in
theorem xi_ok80_1 : xi_ok cX2_layArcs xi_80_1 = true := by decide +kernel
def xi_80_2 : XIs := [(58, .aload_n 1, 1), (59, .getfield 91, 3), (62, .iload 4, 2), (64, .iaload, 1), (65, .invokevirtual 142, 3), (68, .goto 44, 3), (71, .aload_n 1, 1), (72, .getfield 94, 3), (75, .iload 4, 2), (77, .iaload, 1), (78, .iconst (-1), 1), (79, .if_icmp .eq 33, 3), (82, .aload_n 1, 1), (83, .getfield 139, 3), (86, .iload 4, 2), (88, .iaload, 1)]
set_option maxRecDepth 100000 in
theorem xi_ok80_2 : xi_ok cX2_layArcs xi_80_2 = true := by decide +kernel
def xi_80_3 : XIs := [(89, .ifCond .ge 23, 3), (92, .lload_n 2, 1), (93, .aload_n 1, 1), (94, .getfield 139, 3), (97, .iload 4, 2), (99, .iaload, 1), (100, .i2l, 1), (101, .aload_n 1, 1), (102, .getfield 91, 3), (105, .iload 4, 2), (107, .iaload, 1), (108, .i2l, 1), (109, .lmul, 1), (110, .ladd, 1), (111, .lstore_n 2, 1), (112, .iinc 4 1, 3)]
set_option maxRecDepth 100000 in
theorem xi_ok80_3 : xi_ok cX2_layArcs xi_80_3 = true := by decide +kernel
def xi_80_4 : XIs := [(115, .goto (-97), 3), (118, .lload_n 2, 1), (119, .lreturn, 1)]
set_option maxRecDepth 100000 in
theorem xi_ok80_4 : xi_ok cX2_layArcs xi_80_4 = true := by decide +kernel
def xi_80 (pc : Nat) : XIs := cond (Nat.blt pc 58) (cond (Nat.blt pc 28) (xi_80_0) (xi_80_1)) (cond (Nat.blt pc 89) (xi_80_2) (cond (Nat.blt pc 115) (xi_80_3) (xi_80_4)))
theorem xi_ok80 (pc : Nat) : xi_ok cX2_layArcs (xi_80 pc) = true := xi_c (xi_c (xi_ok80_0) (xi_ok80_1)) (xi_c (xi_ok80_2) (xi_c (xi_ok80_3) (xi_ok80_4)))
def xi_81_0 : XIs := [(0, .aload_n 0, 1), (1, .getfield 43, 3), (4, .lconst 0, 1), (5, .invokestatic 146, 3), (8, .aload_n 0, 1), (9, .iload_n 1, 1), (10, .iload_n 2, 1), (11, .invokevirtual 149, 3), (14, .iconst 0, 1), (15, .istore 4, 2), (17, .iload 4, 2), (19, .aload_n 0, 1), (20, .getfield 136, 3), (23, .if_icmp .ge 118, 3), (26, .aload_n 0, 1), (27, .getfield 43, 3)]
set_option maxRecDepth 100000 in
theorem xi_ok81_0 : xi_ok cX2_turnEarners xi_81_0 = true := by decide +kernel
def xi_81_1 : XIs := [(30, .aload_n 0, 1), (31, .getfield 25, 3), (34, .iload 4, 2), (36, .iaload, 1), (37, .laload, 1), (38, .aload_n 0, 1), (39, .getfield 31, 3), (42, .iload 4, 2), (44, .iaload, 1), (45, .i2l, 1), (46, .ladd, 1), (47, .aload_n 0, 1), (48, .getfield 43, 3), (51, .aload_n 0, 1), (52, .getfield 28, 3), (55, .iload 4, 2)]
set_option maxRecDepth 100000 in
theorem xi_ok81_1 : xi_ok cX2_turnEarners xi_81_1 = true := by decide +kernel
def xi_81_2 : XIs := [(57, .iaload, 1), (58, .laload, 1), (59, .lsub, 1), (60, .lstore 5, 2), (62, .aload_n 0, 1), (63, .getfield 34, 3), (66, .iload 4, 2), (68, .iaload, 1), (69, .aload_n 0, 1), (70, .getfield 37, 3), (73, .iload 4, 2), (75, .iaload, 1), (76, .isub, 1), (77, .istore 7, 2), (79, .lload 5, 2), (81, .lconst 0, 1)]
set_option maxRecDepth 100000 in
theorem xi_ok81_2 : xi_ok cX2_turnEarners xi_81_2 = true := by decide +kernel
def xi_81_3 : XIs := [(82, .lcmp, 1), (83, .ifCond .ge 20, 3), (86, .iload 7, 2), (88, .iload_n 3, 1), (89, .if_icmp .lt 14, 3), (92, .aload_n 0, 1), (93, .iload 4, 2), (95, .iload 7, 2), (97, .invokevirtual 152, 3), (100, .goto 35, 3), (103, .lload 5, 2), (105, .lconst 0, 1), (106, .lcmp, 1), (107, .ifCond .le 28, 3), (110, .aload_n 0, 1), (111, .getfield 37, 3)]
set_option maxRecDepth 100000 in
theorem xi_ok81_3 : xi_ok cX2_turnEarners xi_81_3 = true := by decide +kernel
def xi_81_4 : XIs := [(114, .iload 4, 2), (116, .iaload, 1), (117, .iload_n 3, 1), (118, .if_icmp .lt 17, 3), (121, .aload_n 0, 1), (122, .iload 4, 2), (124, .aload_n 0, 1), (125, .getfield 37, 3), (128, .iload 4, 2), (130, .iaload, 1), (131, .ineg, 1), (132, .invokevirtual 152, 3), (135, .iinc 4 1, 3), (138, .goto (-121), 3), (141, .return_, 1)]
set_option maxRecDepth 100000 in
theorem xi_ok81_4 : xi_ok cX2_turnEarners xi_81_4 = true := by decide +kernel
def xi_81 (pc : Nat) : XIs := cond (Nat.blt pc 57) (cond (Nat.blt pc 30) (xi_81_0) (xi_81_1)) (cond (Nat.blt pc 82) (xi_81_2) (cond (Nat.blt pc 114) (xi_81_3) (xi_81_4)))
theorem xi_ok81 (pc : Nat) : xi_ok cX2_turnEarners (xi_81 pc) = true := xi_c (xi_c (xi_ok81_0) (xi_ok81_1)) (xi_c (xi_ok81_2) (xi_c (xi_ok81_3) (xi_ok81_4)))
def xi_82_0 : XIs := [(0, .aload_n 0, 1), (1, .getfield 37, 3), (4, .iload_n 1, 1), (5, .dup2, 1), (6, .iaload, 1), (7, .iload_n 2, 1), (8, .iadd, 1), (9, .iastore, 1), (10, .aload_n 0, 1), (11, .getfield 40, 3), (14, .aload_n 0, 1), (15, .getfield 28, 3), (18, .iload_n 1, 1), (19, .iaload, 1), (20, .dup2, 1), (21, .iaload, 1)]
set_option maxRecDepth 100000 in
theorem xi_ok82_0 : xi_ok cX2_turn xi_82_0 = true := by decide +kernel
def xi_82_1 : XIs := [(22, .iload_n 2, 1), (23, .iadd, 1), (24, .iastore, 1), (25, .aload_n 0, 1), (26, .getfield 40, 3), (29, .aload_n 0, 1), (30, .getfield 25, 3), (33, .iload_n 1, 1), (34, .iaload, 1), (35, .dup2, 1), (36, .iaload, 1), (37, .iload_n 2, 1), (38, .isub, 1), (39, .iastore, 1), (40, .return_, 1)]
set_option maxRecDepth 100000 in
theorem xi_ok82_1 : xi_ok cX2_turn xi_82_1 = true := by decide +kernel
def xi_82 (pc : Nat) : XIs := cond (Nat.blt pc 22) (xi_82_0) (xi_82_1)
theorem xi_ok82 (pc : Nat) : xi_ok cX2_turn (xi_82 pc) = true := xi_c (xi_ok82_0) (xi_ok82_1)
def xi_83_0 : XIs := [(0, .iconst 0, 1), (1, .istore_n 3, 1), (2, .iload_n 3, 1), (3, .ldc 69, 2), (5, .if_icmp .ge 31, 3), (8, .aload_n 0, 1), (9, .iload_n 1, 1), (10, .iload_n 2, 1), (11, .invokevirtual 155, 3), (14, .istore 4, 2), (16, .iload 4, 2), (18, .iconst (-1), 1), (19, .if_icmp .ne 4, 3), (22, .return_, 1), (23, .aload_n 0, 1), (24, .iload 4, 2)]
set_option maxRecDepth 100000 in
theorem xi_ok83_0 : xi_ok cX2_carryAll xi_83_0 = true := by decide +kernel
def xi_83_1 : XIs := [(26, .invokevirtual 158, 3), (29, .pop2, 1), (30, .iinc 3 1, 3), (33, .goto (-31), 3), (36, .return_, 1)]
set_option maxRecDepth 100000 in
theorem xi_ok83_1 : xi_ok cX2_carryAll xi_83_1 = true := by decide +kernel
def xi_83 (pc : Nat) : XIs := cond (Nat.blt pc 26) (xi_83_0) (xi_83_1)
theorem xi_ok83 (pc : Nat) : xi_ok cX2_carryAll (xi_83 pc) = true := xi_c (xi_ok83_0) (xi_ok83_1)
def xi_84_0 : XIs := [(0, .aload_n 0, 1), (1, .getfield 136, 3), (4, .sipush 160, 3), (7, .if_icmp .ge 64, 3), (10, .aload_n 0, 1), (11, .getfield 25, 3), (14, .aload_n 0, 1), (15, .getfield 136, 3), (18, .iload_n 1, 1), (19, .iastore, 1), (20, .aload_n 0, 1), (21, .getfield 28, 3), (24, .aload_n 0, 1), (25, .getfield 136, 3), (28, .iload_n 2, 1), (29, .iastore, 1)]
set_option maxRecDepth 100000 in
theorem xi_ok84_0 : xi_ok cX2_lay xi_84_0 = true := by decide +kernel
def xi_84_1 : XIs := [(30, .aload_n 0, 1), (31, .getfield 31, 3), (34, .aload_n 0, 1), (35, .getfield 136, 3), (38, .iload_n 3, 1), (39, .iastore, 1), (40, .aload_n 0, 1), (41, .getfield 34, 3), (44, .aload_n 0, 1), (45, .getfield 136, 3), (48, .iload 4, 2), (50, .iastore, 1), (51, .aload_n 0, 1), (52, .getfield 37, 3), (55, .aload_n 0, 1), (56, .getfield 136, 3)]
set_option maxRecDepth 100000 in
theorem xi_ok84_1 : xi_ok cX2_lay xi_84_1 = true := by decide +kernel
def xi_84_2 : XIs := [(59, .iconst 0, 1), (60, .iastore, 1), (61, .aload_n 0, 1), (62, .dup, 1), (63, .getfield 136, 3), (66, .iconst 1, 1), (67, .iadd, 1), (68, .putfield 136, 3), (71, .return_, 1)]
set_option maxRecDepth 100000 in
theorem xi_ok84_2 : xi_ok cX2_lay xi_84_2 = true := by decide +kernel
def xi_84 (pc : Nat) : XIs := cond (Nat.blt pc 30) (xi_84_0) (cond (Nat.blt pc 59) (xi_84_1) (xi_84_2))
theorem xi_ok84 (pc : Nat) : xi_ok cX2_lay (xi_84 pc) = true := xi_c (xi_ok84_0) (xi_c (xi_ok84_1) (xi_ok84_2))
def xi_85_0 : XIs := [(0, .iconst 0, 1), (1, .istore_n 3, 1), (2, .iload_n 3, 1), (3, .iload_n 1, 1), (4, .if_icmp .ge 39, 3), (7, .aload_n 0, 1), (8, .getfield 43, 3), (11, .iload_n 3, 1), (12, .aload_n 0, 1), (13, .getfield 40, 3), (16, .iload_n 3, 1), (17, .iaload, 1), (18, .iload_n 2, 1), (19, .if_icmp .lt 7, 3), (22, .lconst 0, 1), (23, .goto 6, 3)]
set_option maxRecDepth 100000 in
theorem xi_ok85_0 : xi_ok cX2_nearestLack xi_85_0 = true := by decide +kernel
def xi_85_1 : XIs := [(26, .ldc2_w 162, 3), (29, .lastore, 1), (30, .aload_n 0, 1), (31, .getfield 22, 3), (34, .iload_n 3, 1), (35, .iconst (-1), 1), (36, .iastore, 1), (37, .iinc 3 1, 3), (40, .goto (-38), 3), (43, .aload_n 0, 1), (44, .iload_n 1, 1), (45, .iload_n 2, 1), (46, .invokevirtual 149, 3), (49, .iconst (-1), 1), (50, .istore_n 3, 1), (51, .iconst 0, 1)]
set_option maxRecDepth 100000 in
theorem xi_ok85_1 : xi_ok cX2_nearestLack xi_85_1 = true := by decide +kernel
def xi_85_2 : XIs := [(52, .istore 4, 2), (54, .iload 4, 2), (56, .iload_n 1, 1), (57, .if_icmp .ge 60, 3), (60, .aload_n 0, 1), (61, .getfield 40, 3), (64, .iload 4, 2), (66, .iaload, 1), (67, .iload_n 2, 1), (68, .ineg, 1), (69, .if_icmp .gt 42, 3), (72, .aload_n 0, 1), (73, .getfield 43, 3), (76, .iload 4, 2), (78, .laload, 1), (79, .ldc2_w 162, 3)]
set_option maxRecDepth 100000 in
theorem xi_ok85_2 : xi_ok cX2_nearestLack xi_85_2 = true := by decide +kernel
def xi_85_3 : XIs := [(82, .lcmp, 1), (83, .ifCond .eq 28, 3), (86, .iload_n 3, 1), (87, .iconst (-1), 1), (88, .if_icmp .eq 20, 3), (91, .aload_n 0, 1), (92, .getfield 43, 3), (95, .iload 4, 2), (97, .laload, 1), (98, .aload_n 0, 1), (99, .getfield 43, 3), (102, .iload_n 3, 1), (103, .laload, 1), (104, .lcmp, 1), (105, .ifCond .ge 6, 3), (108, .iload 4, 2)]
set_option maxRecDepth 100000 in
theorem xi_ok85_3 : xi_ok cX2_nearestLack xi_85_3 = true := by decide +kernel
def xi_85_4 : XIs := [(110, .istore_n 3, 1), (111, .iinc 4 1, 3), (114, .goto (-60), 3), (117, .iload_n 3, 1), (118, .ireturn, 1)]
set_option maxRecDepth 100000 in
theorem xi_ok85_4 : xi_ok cX2_nearestLack xi_85_4 = true := by decide +kernel
def xi_85 (pc : Nat) : XIs := cond (Nat.blt pc 52) (cond (Nat.blt pc 26) (xi_85_0) (xi_85_1)) (cond (Nat.blt pc 82) (xi_85_2) (cond (Nat.blt pc 110) (xi_85_3) (xi_85_4)))
theorem xi_ok85 (pc : Nat) : xi_ok cX2_nearestLack (xi_85 pc) = true := xi_c (xi_c (xi_ok85_0) (xi_ok85_1)) (xi_c (xi_ok85_2) (xi_c (xi_ok85_3) (xi_ok85_4)))
def xi_86_0 : XIs := [(0, .iconst 1, 1), (1, .istore_n 3, 1), (2, .iconst 0, 1), (3, .istore 4, 2), (5, .iload 4, 2), (7, .iload_n 1, 1), (8, .if_icmp .gt 43, 3), (11, .iload_n 3, 1), (12, .ifCond .eq 39, 3), (15, .iconst 0, 1), (16, .istore_n 3, 1), (17, .iconst 0, 1), (18, .istore 5, 2), (20, .iload 5, 2), (22, .aload_n 0, 1), (23, .getfield 136, 3)]
set_option maxRecDepth 100000 in
theorem xi_ok86_0 : xi_ok cX2_relaxAll xi_86_0 = true := by decide +kernel
def xi_86_1 : XIs := [(26, .if_icmp .ge 19, 3), (29, .iload_n 3, 1), (30, .aload_n 0, 1), (31, .iload 5, 2), (33, .iload_n 2, 1), (34, .invokevirtual 164, 3), (37, .ior, 1), (38, .istore_n 3, 1), (39, .iinc 5 1, 3), (42, .goto (-22), 3), (45, .iinc 4 1, 3), (48, .goto (-43), 3), (51, .return_, 1)]
set_option maxRecDepth 100000 in
theorem xi_ok86_1 : xi_ok cX2_relaxAll xi_86_1 = true := by decide +kernel
def xi_86 (pc : Nat) : XIs := cond (Nat.blt pc 26) (xi_86_0) (xi_86_1)
theorem xi_ok86 (pc : Nat) : xi_ok cX2_relaxAll (xi_86 pc) = true := xi_c (xi_ok86_0) (xi_ok86_1)
def xi_87_0 : XIs := [(0, .aload_n 0, 1), (1, .getfield 25, 3), (4, .iload_n 1, 1), (5, .iaload, 1), (6, .istore_n 3, 1), (7, .aload_n 0, 1), (8, .getfield 28, 3), (11, .iload_n 1, 1), (12, .iaload, 1), (13, .istore 4, 2), (15, .aload_n 0, 1), (16, .getfield 34, 3), (19, .iload_n 1, 1), (20, .iaload, 1), (21, .aload_n 0, 1), (22, .getfield 37, 3)]
set_option maxRecDepth 100000 in
theorem xi_ok87_0 : xi_ok cX2_relaxPipe xi_87_0 = true := by decide +kernel
def xi_87_1 : XIs := [(25, .iload_n 1, 1), (26, .iaload, 1), (27, .isub, 1), (28, .iload_n 2, 1), (29, .if_icmp .lt 74, 3), (32, .aload_n 0, 1), (33, .getfield 43, 3), (36, .iload_n 3, 1), (37, .laload, 1), (38, .ldc2_w 162, 3), (41, .lcmp, 1), (42, .ifCond .eq 61, 3), (45, .aload_n 0, 1), (46, .getfield 43, 3), (49, .iload_n 3, 1), (50, .laload, 1)]
set_option maxRecDepth 100000 in
theorem xi_ok87_1 : xi_ok cX2_relaxPipe xi_87_1 = true := by decide +kernel
def xi_87_2 : XIs := [(51, .aload_n 0, 1), (52, .getfield 31, 3), (55, .iload_n 1, 1), (56, .iaload, 1), (57, .i2l, 1), (58, .ladd, 1), (59, .aload_n 0, 1), (60, .getfield 43, 3), (63, .iload 4, 2), (65, .laload, 1), (66, .lcmp, 1), (67, .ifCond .ge 36, 3), (70, .aload_n 0, 1), (71, .getfield 43, 3), (74, .iload 4, 2), (76, .aload_n 0, 1)]
set_option maxRecDepth 100000 in
theorem xi_ok87_2 : xi_ok cX2_relaxPipe xi_87_2 = true := by decide +kernel
def xi_87_3 : XIs := [(77, .getfield 43, 3), (80, .iload_n 3, 1), (81, .laload, 1), (82, .aload_n 0, 1), (83, .getfield 31, 3), (86, .iload_n 1, 1), (87, .iaload, 1), (88, .i2l, 1), (89, .ladd, 1), (90, .lastore, 1), (91, .aload_n 0, 1), (92, .getfield 22, 3), (95, .iload 4, 2), (97, .iconst 2, 1), (98, .iload_n 1, 1), (99, .imul, 1)]
set_option maxRecDepth 100000 in
theorem xi_ok87_3 : xi_ok cX2_relaxPipe xi_87_3 = true := by decide +kernel
def xi_87_4 : XIs := [(100, .iastore, 1), (101, .iconst 1, 1), (102, .ireturn, 1), (103, .aload_n 0, 1), (104, .getfield 37, 3), (107, .iload_n 1, 1), (108, .iaload, 1), (109, .iload_n 2, 1), (110, .if_icmp .lt 76, 3), (113, .aload_n 0, 1), (114, .getfield 43, 3), (117, .iload 4, 2), (119, .laload, 1), (120, .ldc2_w 162, 3), (123, .lcmp, 1), (124, .ifCond .eq 62, 3)]
set_option maxRecDepth 100000 in
theorem xi_ok87_4 : xi_ok cX2_relaxPipe xi_87_4 = true := by decide +kernel
def xi_87_5 : XIs := [(127, .aload_n 0, 1), (128, .getfield 43, 3), (131, .iload 4, 2), (133, .laload, 1), (134, .aload_n 0, 1), (135, .getfield 31, 3), (138, .iload_n 1, 1), (139, .iaload, 1), (140, .i2l, 1), (141, .lsub, 1), (142, .aload_n 0, 1), (143, .getfield 43, 3), (146, .iload_n 3, 1), (147, .laload, 1), (148, .lcmp, 1), (149, .ifCond .ge 37, 3)]
set_option maxRecDepth 100000 in
theorem xi_ok87_5 : xi_ok cX2_relaxPipe xi_87_5 = true := by decide +kernel
def xi_87_6 : XIs := [(152, .aload_n 0, 1), (153, .getfield 43, 3), (156, .iload_n 3, 1), (157, .aload_n 0, 1), (158, .getfield 43, 3), (161, .iload 4, 2), (163, .laload, 1), (164, .aload_n 0, 1), (165, .getfield 31, 3), (168, .iload_n 1, 1), (169, .iaload, 1), (170, .i2l, 1), (171, .lsub, 1), (172, .lastore, 1), (173, .aload_n 0, 1), (174, .getfield 22, 3)]
set_option maxRecDepth 100000 in
theorem xi_ok87_6 : xi_ok cX2_relaxPipe xi_87_6 = true := by decide +kernel
def xi_87_7 : XIs := [(177, .iload_n 3, 1), (178, .iconst 2, 1), (179, .iload_n 1, 1), (180, .imul, 1), (181, .iconst 1, 1), (182, .iadd, 1), (183, .iastore, 1), (184, .iconst 1, 1), (185, .ireturn, 1), (186, .iconst 0, 1), (187, .ireturn, 1)]
set_option maxRecDepth 100000 in
theorem xi_ok87_7 : xi_ok cX2_relaxPipe xi_87_7 = true := by decide +kernel
def xi_87 (pc : Nat) : XIs := cond (Nat.blt pc 100) (cond (Nat.blt pc 51) (cond (Nat.blt pc 25) (xi_87_0) (xi_87_1)) (cond (Nat.blt pc 77) (xi_87_2) (xi_87_3))) (cond (Nat.blt pc 152) (cond (Nat.blt pc 127) (xi_87_4) (xi_87_5)) (cond (Nat.blt pc 177) (xi_87_6) (xi_87_7)))
theorem xi_ok87 (pc : Nat) : xi_ok cX2_relaxPipe (xi_87 pc) = true := xi_c (xi_c (xi_c (xi_ok87_0) (xi_ok87_1)) (xi_c (xi_ok87_2) (xi_ok87_3))) (xi_c (xi_c (xi_ok87_4) (xi_ok87_5)) (xi_c (xi_ok87_6) (xi_ok87_7)))
def xi_88_0 : XIs := [(0, .aload_n 0, 1), (1, .getfield 40, 3), (4, .iload_n 1, 1), (5, .iaload, 1), (6, .ineg, 1), (7, .istore_n 2, 1), (8, .iload_n 1, 1), (9, .istore_n 3, 1), (10, .iconst 0, 1), (11, .istore 4, 2), (13, .iload 4, 2), (15, .bipush 32, 2), (17, .if_icmp .ge 105, 3), (20, .aload_n 0, 1), (21, .getfield 22, 3), (24, .iload_n 3, 1)]
set_option maxRecDepth 100000 in
theorem xi_ok88_0 : xi_ok cX2_carryTo xi_88_0 = true := by decide +kernel
def xi_88_1 : XIs := [(25, .iaload, 1), (26, .iconst (-1), 1), (27, .if_icmp .eq 95, 3), (30, .aload_n 0, 1), (31, .getfield 22, 3), (34, .iload_n 3, 1), (35, .iaload, 1), (36, .iconst 1, 1), (37, .ishr, 1), (38, .istore 5, 2), (40, .aload_n 0, 1), (41, .getfield 22, 3), (44, .iload_n 3, 1), (45, .iaload, 1), (46, .iconst 1, 1), (47, .iand, 1)]
set_option maxRecDepth 100000 in
theorem xi_ok88_1 : xi_ok cX2_carryTo xi_88_1 = true := by decide +kernel
def xi_88_2 : XIs := [(48, .ifCond .ne 7, 3), (51, .iconst 1, 1), (52, .goto 4, 3), (55, .iconst 0, 1), (56, .istore 6, 2), (58, .iload_n 2, 1), (59, .iload 6, 2), (61, .ifCond .eq 21, 3), (64, .aload_n 0, 1), (65, .getfield 34, 3), (68, .iload 5, 2), (70, .iaload, 1), (71, .aload_n 0, 1), (72, .getfield 37, 3), (75, .iload 5, 2), (77, .iaload, 1)]
set_option maxRecDepth 100000 in
theorem xi_ok88_2 : xi_ok cX2_carryTo xi_88_2 = true := by decide +kernel
def xi_88_3 : XIs := [(78, .isub, 1), (79, .goto 10, 3), (82, .aload_n 0, 1), (83, .getfield 37, 3), (86, .iload 5, 2), (88, .iaload, 1), (89, .invokestatic 108, 3), (92, .istore_n 2, 1), (93, .iload 6, 2), (95, .ifCond .eq 13, 3), (98, .aload_n 0, 1), (99, .getfield 25, 3), (102, .iload 5, 2), (104, .iaload, 1), (105, .goto 10, 3), (108, .aload_n 0, 1)]
set_option maxRecDepth 100000 in
theorem xi_ok88_3 : xi_ok cX2_carryTo xi_88_3 = true := by decide +kernel
def xi_88_4 : XIs := [(109, .getfield 28, 3), (112, .iload 5, 2), (114, .iaload, 1), (115, .istore_n 3, 1), (116, .iinc 4 1, 3), (119, .goto (-106), 3), (122, .iload_n 2, 1), (123, .aload_n 0, 1), (124, .getfield 40, 3), (127, .iload_n 3, 1), (128, .iaload, 1), (129, .invokestatic 108, 3), (132, .istore_n 2, 1), (133, .aload_n 0, 1), (134, .getfield 40, 3), (137, .iload_n 3, 1)]
set_option maxRecDepth 100000 in
theorem xi_ok88_4 : xi_ok cX2_carryTo xi_88_4 = true := by decide +kernel
def xi_88_5 : XIs := [(138, .dup2, 1), (139, .iaload, 1), (140, .iload_n 2, 1), (141, .isub, 1), (142, .iastore, 1), (143, .aload_n 0, 1), (144, .getfield 40, 3), (147, .iload_n 1, 1), (148, .dup2, 1), (149, .iaload, 1), (150, .iload_n 2, 1), (151, .iadd, 1), (152, .iastore, 1), (153, .iload_n 1, 1), (154, .istore_n 3, 1), (155, .iconst 0, 1)]
set_option maxRecDepth 100000 in
theorem xi_ok88_5 : xi_ok cX2_carryTo xi_88_5 = true := by decide +kernel
def xi_88_6 : XIs := [(156, .istore 4, 2), (158, .iload 4, 2), (160, .bipush 32, 2), (162, .if_icmp .ge 91, 3), (165, .aload_n 0, 1), (166, .getfield 22, 3), (169, .iload_n 3, 1), (170, .iaload, 1), (171, .iconst (-1), 1), (172, .if_icmp .eq 81, 3), (175, .aload_n 0, 1), (176, .getfield 22, 3), (179, .iload_n 3, 1), (180, .iaload, 1), (181, .iconst 1, 1), (182, .ishr, 1)]
set_option maxRecDepth 100000 in
theorem xi_ok88_6 : xi_ok cX2_carryTo xi_88_6 = true := by decide +kernel
def xi_88_7 : XIs := [(183, .istore 5, 2), (185, .aload_n 0, 1), (186, .getfield 22, 3), (189, .iload_n 3, 1), (190, .iaload, 1), (191, .iconst 1, 1), (192, .iand, 1), (193, .ifCond .ne 7, 3), (196, .iconst 1, 1), (197, .goto 4, 3), (200, .iconst 0, 1), (201, .istore 6, 2), (203, .aload_n 0, 1), (204, .getfield 37, 3), (207, .iload 5, 2), (209, .dup2, 1)]
set_option maxRecDepth 100000 in
theorem xi_ok88_7 : xi_ok cX2_carryTo xi_88_7 = true := by decide +kernel
def xi_88_8 : XIs := [(210, .iaload, 1), (211, .iload 6, 2), (213, .ifCond .eq 7, 3), (216, .iload_n 2, 1), (217, .goto 5, 3), (220, .iload_n 2, 1), (221, .ineg, 1), (222, .iadd, 1), (223, .iastore, 1), (224, .iload 6, 2), (226, .ifCond .eq 13, 3), (229, .aload_n 0, 1), (230, .getfield 25, 3), (233, .iload 5, 2), (235, .iaload, 1), (236, .goto 10, 3)]
set_option maxRecDepth 100000 in
theorem xi_ok88_8 : xi_ok cX2_carryTo xi_88_8 = true := by decide +kernel
def xi_88_9 : XIs := [(239, .aload_n 0, 1), (240, .getfield 28, 3), (243, .iload 5, 2), (245, .iaload, 1), (246, .istore_n 3, 1), (247, .iinc 4 1, 3), (250, .goto (-92), 3), (253, .aload_n 0, 1), (254, .getfield 43, 3), (257, .iload_n 1, 1), (258, .laload, 1), (259, .iload_n 2, 1), (260, .i2l, 1), (261, .lmul, 1), (262, .lreturn, 1)]
set_option maxRecDepth 100000 in
theorem xi_ok88_9 : xi_ok cX2_carryTo xi_88_9 = true := by decide +kernel
def xi_88 (pc : Nat) : XIs := cond (Nat.blt pc 138) (cond (Nat.blt pc 48) (cond (Nat.blt pc 25) (xi_88_0) (xi_88_1)) (cond (Nat.blt pc 78) (xi_88_2) (cond (Nat.blt pc 109) (xi_88_3) (xi_88_4)))) (cond (Nat.blt pc 183) (cond (Nat.blt pc 156) (xi_88_5) (xi_88_6)) (cond (Nat.blt pc 210) (xi_88_7) (cond (Nat.blt pc 239) (xi_88_8) (xi_88_9))))
theorem xi_ok88 (pc : Nat) : xi_ok cX2_carryTo (xi_88 pc) = true := xi_c (xi_c (xi_c (xi_ok88_0) (xi_ok88_1)) (xi_c (xi_ok88_2) (xi_c (xi_ok88_3) (xi_ok88_4)))) (xi_c (xi_c (xi_ok88_5) (xi_ok88_6)) (xi_c (xi_ok88_7) (xi_c (xi_ok88_8) (xi_ok88_9))))
def xi_89_0 : XIs := [(0, .aload_n 0, 1), (1, .getfield 47, 3), (4, .aload_n 1, 1), (5, .getfield 50, 3), (8, .if_icmp .ne 4, 3), (11, .return_, 1), (12, .aload_n 0, 1), (13, .aload_n 1, 1), (14, .getfield 50, 3), (17, .putfield 47, 3), (20, .aload_n 0, 1), (21, .iconst 0, 1), (22, .putfield 167, 3), (25, .aload_n 0, 1), (26, .lconst 0, 1), (27, .putfield 170, 3)]
set_option maxRecDepth 100000 in
theorem xi_ok89_0 : xi_ok cX2_pair xi_89_0 = true := by decide +kernel
def xi_89_1 : XIs := [(30, .aload_n 0, 1), (31, .iconst 0, 1), (32, .putfield 136, 3), (35, .iconst 0, 1), (36, .istore_n 2, 1), (37, .iload_n 2, 1), (38, .aload_n 1, 1), (39, .getfield 125, 3), (42, .if_icmp .ge 28, 3), (45, .aload_n 0, 1), (46, .getfield 40, 3), (49, .iload_n 2, 1), (50, .aload_n 1, 1), (51, .iload_n 2, 1), (52, .invokestatic 173, 3), (55, .ifCond .eq 7, 3)]
set_option maxRecDepth 100000 in
theorem xi_ok89_1 : xi_ok cX2_pair xi_89_1 = true := by decide +kernel
def xi_89_2 : XIs := [(58, .iconst 1, 1), (59, .goto 4, 3), (62, .iconst (-1), 1), (63, .iastore, 1), (64, .iinc 2 1, 3), (67, .goto (-30), 3), (70, .iconst 0, 1), (71, .istore_n 2, 1), (72, .iload_n 2, 1), (73, .aload_n 1, 1), (74, .getfield 84, 3), (77, .if_icmp .ge 100, 3), (80, .aload_n 1, 1), (81, .iload_n 2, 1), (82, .invokevirtual 87, 3), (85, .ifCond .eq 86, 3)]
set_option maxRecDepth 100000 in
theorem xi_ok89_2 : xi_ok cX2_pair xi_89_2 = true := by decide +kernel
def xi_89_3 : XIs := [(88, .aload_n 1, 1), (89, .aload_n 1, 1), (90, .getfield 94, 3), (93, .iload_n 2, 1), (94, .iaload, 1), (95, .invokestatic 173, 3), (98, .aload_n 1, 1), (99, .aload_n 1, 1), (100, .getfield 97, 3), (103, .iload_n 2, 1), (104, .iaload, 1), (105, .invokestatic 173, 3), (108, .if_icmp .eq 63, 3), (111, .aload_n 1, 1), (112, .aload_n 1, 1), (113, .getfield 94, 3)]
set_option maxRecDepth 100000 in
theorem xi_ok89_3 : xi_ok cX2_pair xi_89_3 = true := by decide +kernel
def xi_89_4 : XIs := [(116, .iload_n 2, 1), (117, .iaload, 1), (118, .invokestatic 173, 3), (121, .istore_n 3, 1), (122, .aload_n 0, 1), (123, .iload_n 3, 1), (124, .ifCond .eq 12, 3), (127, .aload_n 1, 1), (128, .getfield 94, 3), (131, .iload_n 2, 1), (132, .iaload, 1), (133, .goto 9, 3), (136, .aload_n 1, 1), (137, .getfield 97, 3), (140, .iload_n 2, 1), (141, .iaload, 1)]
set_option maxRecDepth 100000 in
theorem xi_ok89_4 : xi_ok cX2_pair xi_89_4 = true := by decide +kernel
def xi_89_5 : XIs := [(142, .iload_n 3, 1), (143, .ifCond .eq 12, 3), (146, .aload_n 1, 1), (147, .getfield 97, 3), (150, .iload_n 2, 1), (151, .iaload, 1), (152, .goto 9, 3), (155, .aload_n 1, 1), (156, .getfield 94, 3), (159, .iload_n 2, 1), (160, .iaload, 1), (161, .aload_n 1, 1), (162, .getfield 139, 3), (165, .iload_n 2, 1), (166, .iaload, 1), (167, .iconst 1, 1)]
set_option maxRecDepth 100000 in
theorem xi_ok89_5 : xi_ok cX2_pair xi_89_5 = true := by decide +kernel
def xi_89_6 : XIs := [(168, .invokevirtual 142, 3), (171, .iinc 2 1, 3), (174, .goto (-102), 3), (177, .iconst 0, 1), (178, .istore_n 2, 1), (179, .iload_n 2, 1), (180, .bipush 32, 2), (182, .if_icmp .ge 49, 3), (185, .aload_n 0, 1), (186, .aload_n 1, 1), (187, .getfield 125, 3), (190, .iconst 1, 1), (191, .invokevirtual 155, 3), (194, .istore_n 3, 1), (195, .iload_n 3, 1), (196, .iconst (-1), 1)]
set_option maxRecDepth 100000 in
theorem xi_ok89_6 : xi_ok cX2_pair xi_89_6 = true := by decide +kernel
def xi_89_7 : XIs := [(197, .if_icmp .ne 4, 3), (200, .return_, 1), (201, .aload_n 0, 1), (202, .dup, 1), (203, .getfield 170, 3), (206, .aload_n 0, 1), (207, .iload_n 3, 1), (208, .invokevirtual 158, 3), (211, .ladd, 1), (212, .putfield 170, 3), (215, .aload_n 0, 1), (216, .dup, 1), (217, .getfield 167, 3), (220, .iconst 1, 1), (221, .iadd, 1), (222, .putfield 167, 3)]
set_option maxRecDepth 100000 in
theorem xi_ok89_7 : xi_ok cX2_pair xi_89_7 = true := by decide +kernel
def xi_89_8 : XIs := [(225, .iinc 2 1, 3), (228, .goto (-49), 3), (231, .return_, 1)]
set_option maxRecDepth 100000 in
theorem xi_ok89_8 : xi_ok cX2_pair xi_89_8 = true := by decide +kernel
def xi_89 (pc : Nat) : XIs := cond (Nat.blt pc 116) (cond (Nat.blt pc 58) (cond (Nat.blt pc 30) (xi_89_0) (xi_89_1)) (cond (Nat.blt pc 88) (xi_89_2) (xi_89_3))) (cond (Nat.blt pc 168) (cond (Nat.blt pc 142) (xi_89_4) (xi_89_5)) (cond (Nat.blt pc 197) (xi_89_6) (cond (Nat.blt pc 225) (xi_89_7) (xi_89_8))))
theorem xi_ok89 (pc : Nat) : xi_ok cX2_pair (xi_89 pc) = true := xi_c (xi_c (xi_c (xi_ok89_0) (xi_ok89_1)) (xi_c (xi_ok89_2) (xi_ok89_3))) (xi_c (xi_c (xi_ok89_4) (xi_ok89_5)) (xi_c (xi_ok89_6) (xi_c (xi_ok89_7) (xi_ok89_8))))
def xi_90_0 : XIs := [(0, .aload_n 0, 1), (1, .getfield 177, 3), (4, .iload_n 1, 1), (5, .iaload, 1), (6, .bipush 13, 2), (8, .if_icmp .ge 7, 3), (11, .iconst 1, 1), (12, .goto 4, 3), (15, .iconst 0, 1), (16, .ireturn, 1)]
set_option maxRecDepth 100000 in
theorem xi_ok90_0 : xi_ok cX2_isLow xi_90_0 = true := by decide +kernel
def xi_90 (pc : Nat) : XIs := xi_90_0
theorem xi_ok90 (pc : Nat) : xi_ok cX2_isLow (xi_90 pc) = true := xi_ok90_0
def xi_91_0 : XIs := [(0, .aload_n 0, 1), (1, .invokespecial 3, 3), (4, .aload_n 0, 1), (5, .bipush 32, 2), (7, .newarray .int, 2), (9, .putfield 9, 3), (12, .aload_n 0, 1), (13, .sipush 160, 3), (16, .newarray .int, 2), (18, .putfield 15, 3), (21, .aload_n 0, 1), (22, .sipush 160, 3), (25, .newarray .int, 2), (27, .putfield 18, 3), (30, .aload_n 0, 1), (31, .sipush 160, 3)]
set_option maxRecDepth 100000 in
theorem xi_ok91_0 : xi_ok cX3_init xi_91_0 = true := by decide +kernel
def xi_91_1 : XIs := [(34, .newarray .int, 2), (36, .putfield 21, 3), (39, .aload_n 0, 1), (40, .sipush 160, 3), (43, .newarray .int, 2), (45, .putfield 24, 3), (48, .aload_n 0, 1), (49, .sipush 160, 3), (52, .newarray .int, 2), (54, .putfield 27, 3), (57, .aload_n 0, 1), (58, .bipush 32, 2), (60, .newarray .int, 2), (62, .putfield 30, 3), (65, .aload_n 0, 1), (66, .bipush 32, 2)]
set_option maxRecDepth 100000 in
theorem xi_ok91_1 : xi_ok cX3_init xi_91_1 = true := by decide +kernel
def xi_91_2 : XIs := [(68, .newarray .int, 2), (70, .putfield 33, 3), (73, .aload_n 0, 1), (74, .bipush 32, 2), (76, .newarray .int, 2), (78, .putfield 36, 3), (81, .aload_n 0, 1), (82, .bipush 33, 2), (84, .newarray .int, 2), (86, .putfield 39, 3), (89, .aload_n 0, 1), (90, .sipush 160, 3), (93, .newarray .int, 2), (95, .putfield 42, 3), (98, .aload_n 0, 1), (99, .bipush 33, 2)]
set_option maxRecDepth 100000 in
theorem xi_ok91_2 : xi_ok cX3_init xi_91_2 = true := by decide +kernel
def xi_91_3 : XIs := [(101, .newarray .int, 2), (103, .putfield 45, 3), (106, .aload_n 0, 1), (107, .sipush 160, 3), (110, .newarray .int, 2), (112, .putfield 48, 3), (115, .aload_n 0, 1), (116, .iconst (-1), 1), (117, .putfield 51, 3), (120, .aload_n 0, 1), (121, .getfield 15, 3), (124, .iconst (-1), 1), (125, .invokestatic 55, 3), (128, .return_, 1)]
set_option maxRecDepth 100000 in
theorem xi_ok91_3 : xi_ok cX3_init xi_91_3 = true := by decide +kernel
def xi_91 (pc : Nat) : XIs := cond (Nat.blt pc 68) (cond (Nat.blt pc 34) (xi_91_0) (xi_91_1)) (cond (Nat.blt pc 101) (xi_91_2) (xi_91_3))
theorem xi_ok91 (pc : Nat) : xi_ok cX3_init (xi_91 pc) = true := xi_c (xi_c (xi_ok91_0) (xi_ok91_1)) (xi_c (xi_ok91_2) (xi_ok91_3))
def xi_92_0 : XIs := [(0, .aload_n 0, 1), (1, .iconst 0, 1), (2, .putfield 61, 3), (5, .aload_n 0, 1), (6, .iconst 0, 1), (7, .putfield 64, 3), (10, .aload_n 0, 1), (11, .iconst 0, 1), (12, .putfield 67, 3), (15, .aload_n 0, 1), (16, .iconst 0, 1), (17, .putfield 70, 3), (20, .aload_n 0, 1), (21, .iconst (-1), 1), (22, .putfield 51, 3), (25, .aload_n 0, 1)]
set_option maxRecDepth 100000 in
theorem xi_ok92_0 : xi_ok cX3_clear xi_92_0 = true := by decide +kernel
def xi_92_1 : XIs := [(26, .getfield 15, 3), (29, .iconst (-1), 1), (30, .invokestatic 55, 3), (33, .return_, 1)]
set_option maxRecDepth 100000 in
theorem xi_ok92_1 : xi_ok cX3_clear xi_92_1 = true := by decide +kernel
def xi_92 (pc : Nat) : XIs := cond (Nat.blt pc 26) (xi_92_0) (xi_92_1)
theorem xi_ok92 (pc : Nat) : xi_ok cX3_clear (xi_92 pc) = true := xi_c (xi_ok92_0) (xi_ok92_1)
def xi_93_0 : XIs := [(0, .aload_n 0, 1), (1, .aload_n 1, 1), (2, .getfield 61, 3), (5, .putfield 61, 3), (8, .aload_n 0, 1), (9, .aload_n 1, 1), (10, .getfield 64, 3), (13, .putfield 64, 3), (16, .aload_n 0, 1), (17, .aload_n 1, 1), (18, .getfield 67, 3), (21, .putfield 67, 3), (24, .aload_n 0, 1), (25, .aload_n 1, 1), (26, .getfield 70, 3), (29, .putfield 70, 3)]
set_option maxRecDepth 100000 in
theorem xi_ok93_0 : xi_ok cX3_copyOf xi_93_0 = true := by decide +kernel
def xi_93_1 : XIs := [(32, .aload_n 0, 1), (33, .iconst (-1), 1), (34, .putfield 51, 3), (37, .aload_n 1, 1), (38, .getfield 9, 3), (41, .iconst 0, 1), (42, .aload_n 0, 1), (43, .getfield 9, 3), (46, .iconst 0, 1), (47, .bipush 32, 2), (49, .invokestatic 73, 3), (52, .aload_n 1, 1), (53, .getfield 15, 3), (56, .iconst 0, 1), (57, .aload_n 0, 1), (58, .getfield 15, 3)]
set_option maxRecDepth 100000 in
theorem xi_ok93_1 : xi_ok cX3_copyOf xi_93_1 = true := by decide +kernel
def xi_93_2 : XIs := [(61, .iconst 0, 1), (62, .sipush 160, 3), (65, .invokestatic 73, 3), (68, .aload_n 1, 1), (69, .getfield 18, 3), (72, .iconst 0, 1), (73, .aload_n 0, 1), (74, .getfield 18, 3), (77, .iconst 0, 1), (78, .sipush 160, 3), (81, .invokestatic 73, 3), (84, .aload_n 1, 1), (85, .getfield 21, 3), (88, .iconst 0, 1), (89, .aload_n 0, 1), (90, .getfield 21, 3)]
set_option maxRecDepth 100000 in
theorem xi_ok93_2 : xi_ok cX3_copyOf xi_93_2 = true := by decide +kernel
def xi_93_3 : XIs := [(93, .iconst 0, 1), (94, .sipush 160, 3), (97, .invokestatic 73, 3), (100, .aload_n 1, 1), (101, .getfield 24, 3), (104, .iconst 0, 1), (105, .aload_n 0, 1), (106, .getfield 24, 3), (109, .iconst 0, 1), (110, .sipush 160, 3), (113, .invokestatic 73, 3), (116, .aload_n 1, 1), (117, .getfield 27, 3), (120, .iconst 0, 1), (121, .aload_n 0, 1), (122, .getfield 27, 3)]
set_option maxRecDepth 100000 in
theorem xi_ok93_3 : xi_ok cX3_copyOf xi_93_3 = true := by decide +kernel
def xi_93_4 : XIs := [(125, .iconst 0, 1), (126, .sipush 160, 3), (129, .invokestatic 73, 3), (132, .return_, 1)]
set_option maxRecDepth 100000 in
theorem xi_ok93_4 : xi_ok cX3_copyOf xi_93_4 = true := by decide +kernel
def xi_93 (pc : Nat) : XIs := cond (Nat.blt pc 61) (cond (Nat.blt pc 32) (xi_93_0) (xi_93_1)) (cond (Nat.blt pc 93) (xi_93_2) (cond (Nat.blt pc 125) (xi_93_3) (xi_93_4)))
theorem xi_ok93 (pc : Nat) : xi_ok cX3_copyOf (xi_93 pc) = true := xi_c (xi_c (xi_ok93_0) (xi_ok93_1)) (xi_c (xi_ok93_2) (xi_c (xi_ok93_3) (xi_ok93_4)))
def xi_94_0 : XIs := [(0, .iload_n 1, 1), (1, .ifCond .lt 15, 3), (4, .iload_n 1, 1), (5, .aload_n 0, 1), (6, .getfield 64, 3), (9, .if_icmp .ge 7, 3), (12, .iconst 1, 1), (13, .goto 4, 3), (16, .iconst 0, 1), (17, .ireturn, 1)]
set_option maxRecDepth 100000 in
theorem xi_ok94_0 : xi_ok cX3_hasNode xi_94_0 = true := by decide +kernel
def xi_94 (pc : Nat) : XIs := xi_94_0
theorem xi_ok94 (pc : Nat) : xi_ok cX3_hasNode (xi_94 pc) = true := xi_ok94_0
def xi_95_0 : XIs := [(0, .aload_n 0, 1), (1, .iload_n 1, 1), (2, .invokevirtual 79, 3), (5, .ifCond .eq 20, 3), (8, .aload_n 0, 1), (9, .iload_n 2, 1), (10, .invokevirtual 79, 3), (13, .ifCond .eq 12, 3), (16, .iload_n 1, 1), (17, .iload_n 2, 1), (18, .if_icmp .eq 7, 3), (21, .iconst 1, 1), (22, .goto 4, 3), (25, .iconst 0, 1), (26, .ireturn, 1)]
set_option maxRecDepth 100000 in
theorem xi_ok95_0 : xi_ok cX3_hasTwo xi_95_0 = true := by decide +kernel
def xi_95 (pc : Nat) : XIs := xi_95_0
theorem xi_ok95 (pc : Nat) : xi_ok cX3_hasTwo (xi_95 pc) = true := xi_ok95_0
def xi_96_0 : XIs := [(0, .iload_n 1, 1), (1, .ifCond .lt 25, 3), (4, .iload_n 1, 1), (5, .aload_n 0, 1), (6, .getfield 70, 3), (9, .if_icmp .ge 17, 3), (12, .aload_n 0, 1), (13, .getfield 15, 3), (16, .iload_n 1, 1), (17, .iaload, 1), (18, .iconst (-1), 1), (19, .if_icmp .eq 7, 3), (22, .iconst 1, 1), (23, .goto 4, 3), (26, .iconst 0, 1), (27, .ireturn, 1)]
set_option maxRecDepth 100000 in
theorem xi_ok96_0 : xi_ok cX3_hasArc xi_96_0 = true := by decide +kernel
def xi_96 (pc : Nat) : XIs := xi_96_0
theorem xi_ok96 (pc : Nat) : xi_ok cX3_hasArc (xi_96 pc) = true := xi_ok96_0
def xi_97_0 : XIs := [(0, .aload_n 0, 1), (1, .getfield 15, 3), (4, .iload_n 1, 1), (5, .iaload, 1), (6, .iconst (-1), 1), (7, .if_icmp .eq 22, 3), (10, .aload_n 0, 1), (11, .getfield 15, 3), (14, .iload_n 1, 1), (15, .iaload, 1), (16, .aload_n 0, 1), (17, .getfield 18, 3), (20, .iload_n 1, 1), (21, .iaload, 1), (22, .if_icmp .eq 7, 3), (25, .iconst 1, 1)]
set_option maxRecDepth 100000 in
theorem xi_ok97_0 : xi_ok cX3_isJoint xi_97_0 = true := by decide +kernel
def xi_97_1 : XIs := [(26, .goto 4, 3), (29, .iconst 0, 1), (30, .ireturn, 1)]
set_option maxRecDepth 100000 in
theorem xi_ok97_1 : xi_ok cX3_isJoint xi_97_1 = true := by decide +kernel
def xi_97 (pc : Nat) : XIs := cond (Nat.blt pc 26) (xi_97_0) (xi_97_1)
theorem xi_ok97 (pc : Nat) : xi_ok cX3_isJoint (xi_97 pc) = true := xi_c (xi_ok97_0) (xi_ok97_1)
def xi_98_0 : XIs := [(0, .iconst 0, 1), (1, .istore_n 1, 1), (2, .iconst 0, 1), (3, .istore_n 2, 1), (4, .iload_n 2, 1), (5, .aload_n 0, 1), (6, .getfield 70, 3), (9, .if_icmp .ge 20, 3), (12, .aload_n 0, 1), (13, .iload_n 2, 1), (14, .invokevirtual 83, 3), (17, .ifCond .eq 6, 3), (20, .iinc 1 1, 3), (23, .iinc 2 1, 3), (26, .goto (-22), 3), (29, .iload_n 1, 1)]
set_option maxRecDepth 100000 in
theorem xi_ok98_0 : xi_ok cX3_joints xi_98_0 = true := by decide +kernel
def xi_98_1 : XIs := [(30, .ireturn, 1)]
set_option maxRecDepth 100000 in
theorem xi_ok98_1 : xi_ok cX3_joints xi_98_1 = true := by decide +kernel
def xi_98 (pc : Nat) : XIs := cond (Nat.blt pc 30) (xi_98_0) (xi_98_1)
theorem xi_ok98 (pc : Nat) : xi_ok cX3_joints (xi_98 pc) = true := xi_c (xi_ok98_0) (xi_ok98_1)
def xi_99_0 : XIs := [(0, .aload_n 1, 1), (1, .iconst 0, 1), (2, .invokestatic 55, 3), (5, .iconst 0, 1), (6, .istore_n 2, 1), (7, .iload_n 2, 1), (8, .aload_n 0, 1), (9, .getfield 70, 3), (12, .if_icmp .ge 41, 3), (15, .aload_n 0, 1), (16, .iload_n 2, 1), (17, .invokevirtual 83, 3), (20, .ifCond .eq 27, 3), (23, .aload_n 1, 1), (24, .aload_n 0, 1), (25, .getfield 15, 3)]
set_option maxRecDepth 100000 in
theorem xi_ok99_0 : xi_ok cX3_countJoints xi_99_0 = true := by decide +kernel
def xi_99_1 : XIs := [(28, .iload_n 2, 1), (29, .iaload, 1), (30, .dup2, 1), (31, .iaload, 1), (32, .iconst 1, 1), (33, .iadd, 1), (34, .iastore, 1), (35, .aload_n 1, 1), (36, .aload_n 0, 1), (37, .getfield 18, 3), (40, .iload_n 2, 1), (41, .iaload, 1), (42, .dup2, 1), (43, .iaload, 1), (44, .iconst 1, 1), (45, .iadd, 1)]
set_option maxRecDepth 100000 in
theorem xi_ok99_1 : xi_ok cX3_countJoints xi_99_1 = true := by decide +kernel
def xi_99_2 : XIs := [(46, .iastore, 1), (47, .iinc 2 1, 3), (50, .goto (-43), 3), (53, .return_, 1)]
set_option maxRecDepth 100000 in
theorem xi_ok99_2 : xi_ok cX3_countJoints xi_99_2 = true := by decide +kernel
def xi_99 (pc : Nat) : XIs := cond (Nat.blt pc 28) (xi_99_0) (cond (Nat.blt pc 46) (xi_99_1) (xi_99_2))
theorem xi_ok99 (pc : Nat) : xi_ok cX3_countJoints (xi_99 pc) = true := xi_c (xi_ok99_0) (xi_c (xi_ok99_1) (xi_ok99_2))
def xi_100_0 : XIs := [(0, .iload_n 2, 1), (1, .ifCond .ne 10, 3), (4, .aload_n 0, 1), (5, .getfield 21, 3), (8, .iload_n 1, 1), (9, .iaload, 1), (10, .ireturn, 1), (11, .iload_n 2, 1), (12, .iconst 1, 1), (13, .if_icmp .ne 12, 3), (16, .aload_n 0, 1), (17, .getfield 24, 3), (20, .iload_n 1, 1), (21, .iaload, 1), (22, .goto 9, 3), (25, .aload_n 0, 1)]
set_option maxRecDepth 100000 in
theorem xi_ok100_0 : xi_ok cX3_valueOf xi_100_0 = true := by decide +kernel
def xi_100_1 : XIs := [(26, .getfield 27, 3), (29, .iload_n 1, 1), (30, .iaload, 1), (31, .ireturn, 1)]
set_option maxRecDepth 100000 in
theorem xi_ok100_1 : xi_ok cX3_valueOf xi_100_1 = true := by decide +kernel
def xi_100 (pc : Nat) : XIs := cond (Nat.blt pc 26) (xi_100_0) (xi_100_1)
theorem xi_ok100 (pc : Nat) : xi_ok cX3_valueOf (xi_100 pc) = true := xi_c (xi_ok100_0) (xi_ok100_1)
def xi_101_0 : XIs := [(0, .iconst 0, 1), (1, .istore_n 1, 1), (2, .iload_n 1, 1), (3, .sipush 160, 3), (6, .if_icmp .ge 21, 3), (9, .aload_n 0, 1), (10, .getfield 15, 3), (13, .iload_n 1, 1), (14, .iaload, 1), (15, .iconst (-1), 1), (16, .if_icmp .ne 5, 3), (19, .iload_n 1, 1), (20, .ireturn, 1), (21, .iinc 1 1, 3), (24, .goto (-22), 3), (27, .iconst (-1), 1)]
set_option maxRecDepth 100000 in
theorem xi_ok101_0 : xi_ok cX3_freePlace xi_101_0 = true := by decide +kernel
def xi_101_1 : XIs := [(28, .ireturn, 1)]
set_option maxRecDepth 100000 in
theorem xi_ok101_1 : xi_ok cX3_freePlace xi_101_1 = true := by decide +kernel
def xi_101 (pc : Nat) : XIs := cond (Nat.blt pc 28) (xi_101_0) (xi_101_1)
theorem xi_ok101 (pc : Nat) : xi_ok cX3_freePlace (xi_101 pc) = true := xi_c (xi_ok101_0) (xi_ok101_1)
def xi_102_0 : XIs := [(0, .aload_n 0, 1), (1, .getfield 64, 3), (4, .bipush 32, 2), (6, .if_icmp .lt 7, 3), (9, .iconst (-1), 1), (10, .goto 11, 3), (13, .iconst 1, 1), (14, .aload_n 0, 1), (15, .getfield 64, 3), (18, .ishl, 1), (19, .iconst 1, 1), (20, .isub, 1), (21, .ireturn, 1)]
set_option maxRecDepth 100000 in
theorem xi_ok102_0 : xi_ok cX3_allNodes xi_102_0 = true := by decide +kernel
def xi_102 (pc : Nat) : XIs := xi_102_0
theorem xi_ok102 (pc : Nat) : xi_ok cX3_allNodes (xi_102 pc) = true := xi_ok102_0
def xi_103_0 : XIs := [(0, .aload_n 0, 1), (1, .getfield 39, 3), (4, .iload_n 1, 1), (5, .iconst 1, 1), (6, .iadd, 1), (7, .iaload, 1), (8, .aload_n 0, 1), (9, .getfield 39, 3), (12, .iload_n 1, 1), (13, .iaload, 1), (14, .isub, 1), (15, .ireturn, 1)]
set_option maxRecDepth 100000 in
theorem xi_ok103_0 : xi_ok cX3_outCount xi_103_0 = true := by decide +kernel
def xi_103 (pc : Nat) : XIs := xi_103_0
theorem xi_ok103 (pc : Nat) : xi_ok cX3_outCount (xi_103 pc) = true := xi_ok103_0
def xi_104_0 : XIs := [(0, .aload_n 0, 1), (1, .getfield 45, 3), (4, .iload_n 1, 1), (5, .iconst 1, 1), (6, .iadd, 1), (7, .iaload, 1), (8, .aload_n 0, 1), (9, .getfield 45, 3), (12, .iload_n 1, 1), (13, .iaload, 1), (14, .isub, 1), (15, .ireturn, 1)]
set_option maxRecDepth 100000 in
theorem xi_ok104_0 : xi_ok cX3_inCount xi_104_0 = true := by decide +kernel
def xi_104 (pc : Nat) : XIs := xi_104_0
theorem xi_ok104 (pc : Nat) : xi_ok cX3_inCount (xi_104 pc) = true := xi_ok104_0
def xi_105_0 : XIs := [(0, .aload_n 0, 1), (1, .getfield 15, 3), (4, .iload_n 1, 1), (5, .iconst (-1), 1), (6, .iastore, 1), (7, .aload_n 0, 1), (8, .dup, 1), (9, .getfield 67, 3), (12, .iconst 1, 1), (13, .isub, 1), (14, .putfield 67, 3), (17, .aload_n 0, 1), (18, .getfield 70, 3), (21, .ifCond .le 31, 3), (24, .aload_n 0, 1), (25, .getfield 15, 3)]
set_option maxRecDepth 100000 in
theorem xi_ok105_0 : xi_ok cX3_dropAt xi_105_0 = true := by decide +kernel
def xi_105_1 : XIs := [(28, .aload_n 0, 1), (29, .getfield 70, 3), (32, .iconst 1, 1), (33, .isub, 1), (34, .iaload, 1), (35, .iconst (-1), 1), (36, .if_icmp .ne 16, 3), (39, .aload_n 0, 1), (40, .dup, 1), (41, .getfield 70, 3), (44, .iconst 1, 1), (45, .isub, 1), (46, .putfield 70, 3), (49, .goto (-32), 3), (52, .return_, 1)]
set_option maxRecDepth 100000 in
theorem xi_ok105_1 : xi_ok cX3_dropAt xi_105_1 = true := by decide +kernel
def xi_105 (pc : Nat) : XIs := cond (Nat.blt pc 28) (xi_105_0) (xi_105_1)
theorem xi_ok105 (pc : Nat) : xi_ok cX3_dropAt (xi_105 pc) = true := xi_c (xi_ok105_0) (xi_ok105_1)
def xi_106_0 : XIs := [(0, .aload_n 0, 1), (1, .getfield 51, 3), (4, .aload_n 0, 1), (5, .getfield 61, 3), (8, .if_icmp .ne 4, 3), (11, .return_, 1), (12, .aload_n 0, 1), (13, .aload_n 0, 1), (14, .getfield 61, 3), (17, .putfield 51, 3), (20, .aload_n 0, 1), (21, .getfield 30, 3), (24, .iconst 0, 1), (25, .invokestatic 55, 3), (28, .aload_n 0, 1), (29, .getfield 33, 3)]
set_option maxRecDepth 100000 in
theorem xi_ok106_0 : xi_ok cX3_tie xi_106_0 = true := by decide +kernel
def xi_106_1 : XIs := [(32, .iconst 0, 1), (33, .invokestatic 55, 3), (36, .aload_n 0, 1), (37, .getfield 36, 3), (40, .iconst 0, 1), (41, .invokestatic 55, 3), (44, .aload_n 0, 1), (45, .getfield 39, 3), (48, .iconst 0, 1), (49, .invokestatic 55, 3), (52, .aload_n 0, 1), (53, .getfield 45, 3), (56, .iconst 0, 1), (57, .invokestatic 55, 3), (60, .iconst 0, 1), (61, .istore_n 1, 1)]
set_option maxRecDepth 100000 in
theorem xi_ok106_1 : xi_ok cX3_tie xi_106_1 = true := by decide +kernel
def xi_106_2 : XIs := [(62, .iload_n 1, 1), (63, .aload_n 0, 1), (64, .getfield 70, 3), (67, .if_icmp .ge 35, 3), (70, .aload_n 0, 1), (71, .getfield 15, 3), (74, .iload_n 1, 1), (75, .iaload, 1), (76, .iconst (-1), 1), (77, .if_icmp .eq 19, 3), (80, .aload_n 0, 1), (81, .aload_n 0, 1), (82, .getfield 15, 3), (85, .iload_n 1, 1), (86, .iaload, 1), (87, .aload_n 0, 1)]
set_option maxRecDepth 100000 in
theorem xi_ok106_2 : xi_ok cX3_tie xi_106_2 = true := by decide +kernel
def xi_106_3 : XIs := [(88, .getfield 18, 3), (91, .iload_n 1, 1), (92, .iaload, 1), (93, .invokevirtual 86, 3), (96, .iinc 1 1, 3), (99, .goto (-37), 3), (102, .iconst 1, 1), (103, .istore_n 1, 1), (104, .iload_n 1, 1), (105, .bipush 32, 2), (107, .if_icmp .gt 43, 3), (110, .aload_n 0, 1), (111, .getfield 39, 3), (114, .iload_n 1, 1), (115, .dup2, 1), (116, .iaload, 1)]
set_option maxRecDepth 100000 in
theorem xi_ok106_3 : xi_ok cX3_tie xi_106_3 = true := by decide +kernel
def xi_106_4 : XIs := [(117, .aload_n 0, 1), (118, .getfield 39, 3), (121, .iload_n 1, 1), (122, .iconst 1, 1), (123, .isub, 1), (124, .iaload, 1), (125, .iadd, 1), (126, .iastore, 1), (127, .aload_n 0, 1), (128, .getfield 45, 3), (131, .iload_n 1, 1), (132, .dup2, 1), (133, .iaload, 1), (134, .aload_n 0, 1), (135, .getfield 45, 3), (138, .iload_n 1, 1)]
set_option maxRecDepth 100000 in
theorem xi_ok106_4 : xi_ok cX3_tie xi_106_4 = true := by decide +kernel
def xi_106_5 : XIs := [(139, .iconst 1, 1), (140, .isub, 1), (141, .iaload, 1), (142, .iadd, 1), (143, .iastore, 1), (144, .iinc 1 1, 3), (147, .goto (-43), 3), (150, .aload_n 0, 1), (151, .getfield 70, 3), (154, .iconst 1, 1), (155, .isub, 1), (156, .istore_n 1, 1), (157, .iload_n 1, 1), (158, .ifCond .lt 83, 3), (161, .aload_n 0, 1), (162, .getfield 15, 3)]
set_option maxRecDepth 100000 in
theorem xi_ok106_5 : xi_ok cX3_tie xi_106_5 = true := by decide +kernel
def xi_106_6 : XIs := [(165, .iload_n 1, 1), (166, .iaload, 1), (167, .iconst (-1), 1), (168, .if_icmp .eq 67, 3), (171, .aload_n 0, 1), (172, .getfield 39, 3), (175, .aload_n 0, 1), (176, .getfield 15, 3), (179, .iload_n 1, 1), (180, .iaload, 1), (181, .dup2, 1), (182, .iaload, 1), (183, .iconst 1, 1), (184, .isub, 1), (185, .iastore, 1), (186, .aload_n 0, 1)]
set_option maxRecDepth 100000 in
theorem xi_ok106_6 : xi_ok cX3_tie xi_106_6 = true := by decide +kernel
def xi_106_7 : XIs := [(187, .getfield 42, 3), (190, .aload_n 0, 1), (191, .getfield 39, 3), (194, .aload_n 0, 1), (195, .getfield 15, 3), (198, .iload_n 1, 1), (199, .iaload, 1), (200, .iaload, 1), (201, .iload_n 1, 1), (202, .iastore, 1), (203, .aload_n 0, 1), (204, .getfield 45, 3), (207, .aload_n 0, 1), (208, .getfield 18, 3), (211, .iload_n 1, 1), (212, .iaload, 1)]
set_option maxRecDepth 100000 in
theorem xi_ok106_7 : xi_ok cX3_tie xi_106_7 = true := by decide +kernel
def xi_106_8 : XIs := [(213, .dup2, 1), (214, .iaload, 1), (215, .iconst 1, 1), (216, .isub, 1), (217, .iastore, 1), (218, .aload_n 0, 1), (219, .getfield 48, 3), (222, .aload_n 0, 1), (223, .getfield 45, 3), (226, .aload_n 0, 1), (227, .getfield 18, 3), (230, .iload_n 1, 1), (231, .iaload, 1), (232, .iaload, 1), (233, .iload_n 1, 1), (234, .iastore, 1)]
set_option maxRecDepth 100000 in
theorem xi_ok106_8 : xi_ok cX3_tie xi_106_8 = true := by decide +kernel
def xi_106_9 : XIs := [(235, .iinc 1 (-1), 3), (238, .goto (-81), 3), (241, .return_, 1)]
set_option maxRecDepth 100000 in
theorem xi_ok106_9 : xi_ok cX3_tie xi_106_9 = true := by decide +kernel
def xi_106 (pc : Nat) : XIs := cond (Nat.blt pc 139) (cond (Nat.blt pc 62) (cond (Nat.blt pc 32) (xi_106_0) (xi_106_1)) (cond (Nat.blt pc 88) (xi_106_2) (cond (Nat.blt pc 117) (xi_106_3) (xi_106_4)))) (cond (Nat.blt pc 187) (cond (Nat.blt pc 165) (xi_106_5) (xi_106_6)) (cond (Nat.blt pc 213) (xi_106_7) (cond (Nat.blt pc 235) (xi_106_8) (xi_106_9))))
theorem xi_ok106 (pc : Nat) : xi_ok cX3_tie (xi_106 pc) = true := xi_c (xi_c (xi_c (xi_ok106_0) (xi_ok106_1)) (xi_c (xi_ok106_2) (xi_c (xi_ok106_3) (xi_ok106_4)))) (xi_c (xi_c (xi_ok106_5) (xi_ok106_6)) (xi_c (xi_ok106_7) (xi_c (xi_ok106_8) (xi_ok106_9))))
def xi_107_0 : XIs := [(0, .aload_n 0, 1), (1, .getfield 39, 3), (4, .iload_n 1, 1), (5, .dup2, 1), (6, .iaload, 1), (7, .iconst 1, 1), (8, .iadd, 1), (9, .iastore, 1), (10, .aload_n 0, 1), (11, .getfield 45, 3), (14, .iload_n 2, 1), (15, .dup2, 1), (16, .iaload, 1), (17, .iconst 1, 1), (18, .iadd, 1), (19, .iastore, 1)]
set_option maxRecDepth 100000 in
theorem xi_ok107_0 : xi_ok cX3_tieEnds xi_107_0 = true := by decide +kernel
def xi_107_1 : XIs := [(20, .aload_n 0, 1), (21, .getfield 33, 3), (24, .iload_n 1, 1), (25, .dup2, 1), (26, .iaload, 1), (27, .iconst 1, 1), (28, .iload_n 2, 1), (29, .ishl, 1), (30, .ior, 1), (31, .iastore, 1), (32, .aload_n 0, 1), (33, .getfield 36, 3), (36, .iload_n 2, 1), (37, .dup2, 1), (38, .iaload, 1), (39, .iconst 1, 1)]
set_option maxRecDepth 100000 in
theorem xi_ok107_1 : xi_ok cX3_tieEnds xi_107_1 = true := by decide +kernel
def xi_107_2 : XIs := [(40, .iload_n 1, 1), (41, .ishl, 1), (42, .ior, 1), (43, .iastore, 1), (44, .iload_n 1, 1), (45, .iload_n 2, 1), (46, .if_icmp .eq 27, 3), (49, .aload_n 0, 1), (50, .getfield 30, 3), (53, .iload_n 1, 1), (54, .dup2, 1), (55, .iaload, 1), (56, .iconst 1, 1), (57, .iload_n 2, 1), (58, .ishl, 1), (59, .ior, 1)]
set_option maxRecDepth 100000 in
theorem xi_ok107_2 : xi_ok cX3_tieEnds xi_107_2 = true := by decide +kernel
