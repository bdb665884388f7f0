noncomputable def xi_130_0 : XIs := [(0, .aload_n 0, 1), (1, .getfield 12, 3), (4, .getfield 28, 3), (7, .bipush 7, 2), (9, .imul, 1), (10, .istore_n 1, 1), (11, .iload_n 1, 1), (12, .bipush 7, 2), (14, .iadd, 1), (15, .aload_n 0, 1), (16, .getfield 21, 3), (19, .arraylength, 1), (20, .if_icmp .le 34, 3), (23, .aload_n 0, 1), (24, .aload_n 0, 1), (25, .getfield 21, 3)]
noncomputable def xi_130_1 : XIs := [(28, .iload_n 1, 1), (29, .bipush 7, 2), (31, .iadd, 1), (32, .iconst 2, 1), (33, .aload_n 0, 1), (34, .getfield 21, 3), (37, .arraylength, 1), (38, .imul, 1), (39, .sipush 28000, 3), (42, .invokestatic 63, 3), (45, .invokestatic 69, 3), (48, .invokestatic 72, 3), (51, .putfield 21, 3), (54, .iload_n 1, 1), (55, .ireturn, 1)]
set_option maxRecDepth 100000 in
theorem xi_w130 : xi_ok cX5_openRow (xi_130_0 ++ (xi_130_1)) = true := dl_all _ _ (by decide +kernel)
theorem xi_ok130_0 : xi_ok cX5_openRow xi_130_0 = true := (xi_ap xi_w130).1
theorem xi_r130_1 : xi_ok cX5_openRow (xi_130_1) = true := (xi_ap xi_w130).2
theorem xi_ok130_1 : xi_ok cX5_openRow xi_130_1 = true := xi_r130_1
noncomputable def xi_130 (pc : Nat) : XIs := cond (Nat.blt pc 28) (xi_130_0) (xi_130_1)
theorem xi_ok130 (pc : Nat) : xi_ok cX5_openRow (xi_130 pc) = true := xi_c (xi_ok130_0) (xi_ok130_1)
noncomputable def xi_131_0 : XIs := [(0, .aload_n 1, 1), (1, .getfield 28, 3), (4, .bipush 7, 2), (6, .imul, 1), (7, .istore_n 2, 1), (8, .aload_n 0, 1), (9, .getfield 21, 3), (12, .iload_n 2, 1), (13, .iconst 1, 1), (14, .iadd, 1), (15, .iaload, 1), (16, .istore_n 3, 1), (17, .aload_n 1, 1), (18, .dup, 1), (19, .getfield 28, 3), (22, .iconst 1, 1)]
noncomputable def xi_131_1 : XIs := [(23, .iadd, 1), (24, .putfield 28, 3), (27, .aload_n 0, 1), (28, .getfield 21, 3), (31, .iload_n 2, 1), (32, .iaload, 1)]
noncomputable def xi_131_2 : XIs := [(33, .tableswitch 101 0 3 #[31, 58, 68, 76], 31)]
set_option maxRecDepth 100000 in
theorem xi_ok131_2 : xi_ok cX5_apply xi_131_2 = true := by decide +kernel
noncomputable def xi_131_3 : XIs := [(64, .aload_n 1, 1), (65, .getfield 78, 3), (68, .iload_n 3, 1), (69, .aload_n 0, 1), (70, .getfield 21, 3), (73, .iload_n 2, 1), (74, .iconst 2, 1), (75, .iadd, 1), (76, .iaload, 1), (77, .iastore, 1), (78, .aload_n 1, 1), (79, .dup, 1), (80, .getfield 45, 3), (83, .iconst 1, 1), (84, .iadd, 1), (85, .putfield 45, 3)]
noncomputable def xi_131_4 : XIs := [(88, .goto 60, 3), (91, .aload_n 0, 1), (92, .aload_n 1, 1), (93, .iload_n 2, 1), (94, .iload_n 3, 1), (95, .invokevirtual 81, 3), (98, .goto 50, 3), (101, .aload_n 1, 1), (102, .iload_n 3, 1), (103, .invokevirtual 85, 3), (106, .goto 42, 3), (109, .aload_n 0, 1), (110, .aload_n 1, 1), (111, .iload_n 3, 1), (112, .aload_n 0, 1), (113, .getfield 21, 3)]
noncomputable def xi_131_5 : XIs := [(116, .iload_n 2, 1), (117, .iconst 2, 1), (118, .iadd, 1), (119, .iaload, 1), (120, .aload_n 0, 1), (121, .getfield 21, 3), (124, .iload_n 2, 1), (125, .iconst 3, 1), (126, .iadd, 1), (127, .iaload, 1), (128, .invokevirtual 89, 3), (131, .goto 17, 3), (134, .aload_n 1, 1), (135, .getfield 78, 3), (138, .iload_n 3, 1), (139, .aload_n 0, 1)]
noncomputable def xi_131_6 : XIs := [(140, .getfield 21, 3), (143, .iload_n 2, 1), (144, .iconst 2, 1), (145, .iadd, 1), (146, .iaload, 1), (147, .iastore, 1), (148, .return_, 1)]
set_option maxRecDepth 100000 in
theorem xi_w131 : xi_ok cX5_apply (xi_131_0 ++ (xi_131_1 ++ (xi_131_3 ++ (xi_131_4 ++ (xi_131_5 ++ (xi_131_6)))))) = true := dl_all _ _ (by decide +kernel)
theorem xi_ok131_0 : xi_ok cX5_apply xi_131_0 = true := (xi_ap xi_w131).1
theorem xi_r131_1 : xi_ok cX5_apply (xi_131_1 ++ (xi_131_3 ++ (xi_131_4 ++ (xi_131_5 ++ (xi_131_6))))) = true := (xi_ap xi_w131).2
theorem xi_ok131_1 : xi_ok cX5_apply xi_131_1 = true := (xi_ap xi_r131_1).1
theorem xi_r131_2 : xi_ok cX5_apply (xi_131_3 ++ (xi_131_4 ++ (xi_131_5 ++ (xi_131_6)))) = true := (xi_ap xi_r131_1).2
theorem xi_ok131_3 : xi_ok cX5_apply xi_131_3 = true := (xi_ap xi_r131_2).1
theorem xi_r131_3 : xi_ok cX5_apply (xi_131_4 ++ (xi_131_5 ++ (xi_131_6))) = true := (xi_ap xi_r131_2).2
theorem xi_ok131_4 : xi_ok cX5_apply xi_131_4 = true := (xi_ap xi_r131_3).1
theorem xi_r131_4 : xi_ok cX5_apply (xi_131_5 ++ (xi_131_6)) = true := (xi_ap xi_r131_3).2
theorem xi_ok131_5 : xi_ok cX5_apply xi_131_5 = true := (xi_ap xi_r131_4).1
theorem xi_r131_5 : xi_ok cX5_apply (xi_131_6) = true := (xi_ap xi_r131_4).2
theorem xi_ok131_6 : xi_ok cX5_apply xi_131_6 = true := xi_r131_5
noncomputable def xi_131 (pc : Nat) : XIs := cond (Nat.blt pc 64) (cond (Nat.blt pc 23) (xi_131_0) (cond (Nat.blt pc 33) (xi_131_1) (xi_131_2))) (cond (Nat.blt pc 116) (cond (Nat.blt pc 88) (xi_131_3) (xi_131_4)) (cond (Nat.blt pc 140) (xi_131_5) (xi_131_6)))
theorem xi_ok131 (pc : Nat) : xi_ok cX5_apply (xi_131 pc) = true := xi_c (xi_c (xi_ok131_0) (xi_c (xi_ok131_1) (xi_ok131_2))) (xi_c (xi_c (xi_ok131_3) (xi_ok131_4)) (xi_c (xi_ok131_5) (xi_ok131_6)))
noncomputable def xi_132_0 : XIs := [(0, .aload_n 1, 1), (1, .getfield 93, 3), (4, .iload_n 3, 1), (5, .aload_n 0, 1), (6, .getfield 21, 3), (9, .iload_n 2, 1), (10, .iconst 2, 1), (11, .iadd, 1), (12, .iaload, 1), (13, .iastore, 1), (14, .aload_n 1, 1), (15, .getfield 96, 3), (18, .iload_n 3, 1), (19, .aload_n 0, 1), (20, .getfield 21, 3), (23, .iload_n 2, 1)]
noncomputable def xi_132_1 : XIs := [(24, .iconst 3, 1), (25, .iadd, 1), (26, .iaload, 1), (27, .iastore, 1), (28, .aload_n 1, 1), (29, .getfield 99, 3), (32, .iload_n 3, 1), (33, .aload_n 0, 1), (34, .getfield 21, 3), (37, .iload_n 2, 1), (38, .iconst 4, 1), (39, .iadd, 1), (40, .iaload, 1), (41, .iastore, 1), (42, .aload_n 1, 1), (43, .getfield 102, 3)]
noncomputable def xi_132_2 : XIs := [(46, .iload_n 3, 1), (47, .aload_n 0, 1), (48, .getfield 21, 3), (51, .iload_n 2, 1), (52, .iconst 5, 1), (53, .iadd, 1), (54, .iaload, 1), (55, .iastore, 1), (56, .aload_n 1, 1), (57, .getfield 105, 3), (60, .iload_n 3, 1), (61, .aload_n 0, 1), (62, .getfield 21, 3), (65, .iload_n 2, 1), (66, .bipush 6, 2), (68, .iadd, 1)]
noncomputable def xi_132_3 : XIs := [(69, .iaload, 1), (70, .iastore, 1), (71, .aload_n 1, 1), (72, .dup, 1), (73, .getfield 108, 3), (76, .iconst 1, 1), (77, .iadd, 1), (78, .putfield 108, 3), (81, .aload_n 1, 1), (82, .aload_n 1, 1), (83, .getfield 111, 3), (86, .iload_n 3, 1), (87, .iconst 1, 1), (88, .iadd, 1), (89, .invokestatic 69, 3), (92, .putfield 111, 3)]
noncomputable def xi_132_4 : XIs := [(95, .return_, 1)]
set_option maxRecDepth 100000 in
theorem xi_w132 : xi_ok cX5_applyArc (xi_132_0 ++ (xi_132_1 ++ (xi_132_2 ++ (xi_132_3 ++ (xi_132_4))))) = true := dl_all _ _ (by decide +kernel)
theorem xi_ok132_0 : xi_ok cX5_applyArc xi_132_0 = true := (xi_ap xi_w132).1
theorem xi_r132_1 : xi_ok cX5_applyArc (xi_132_1 ++ (xi_132_2 ++ (xi_132_3 ++ (xi_132_4)))) = true := (xi_ap xi_w132).2
theorem xi_ok132_1 : xi_ok cX5_applyArc xi_132_1 = true := (xi_ap xi_r132_1).1
theorem xi_r132_2 : xi_ok cX5_applyArc (xi_132_2 ++ (xi_132_3 ++ (xi_132_4))) = true := (xi_ap xi_r132_1).2
theorem xi_ok132_2 : xi_ok cX5_applyArc xi_132_2 = true := (xi_ap xi_r132_2).1
theorem xi_r132_3 : xi_ok cX5_applyArc (xi_132_3 ++ (xi_132_4)) = true := (xi_ap xi_r132_2).2
theorem xi_ok132_3 : xi_ok cX5_applyArc xi_132_3 = true := (xi_ap xi_r132_3).1
theorem xi_r132_4 : xi_ok cX5_applyArc (xi_132_4) = true := (xi_ap xi_r132_3).2
theorem xi_ok132_4 : xi_ok cX5_applyArc xi_132_4 = true := xi_r132_4
noncomputable def xi_132 (pc : Nat) : XIs := cond (Nat.blt pc 46) (cond (Nat.blt pc 24) (xi_132_0) (xi_132_1)) (cond (Nat.blt pc 69) (xi_132_2) (cond (Nat.blt pc 95) (xi_132_3) (xi_132_4)))
theorem xi_ok132 (pc : Nat) : xi_ok cX5_applyArc (xi_132 pc) = true := xi_c (xi_c (xi_ok132_0) (xi_ok132_1)) (xi_c (xi_ok132_2) (xi_c (xi_ok132_3) (xi_ok132_4)))
noncomputable def xi_133_0 : XIs := [(0, .iload_n 3, 1), (1, .ifCond .ne 14, 3), (4, .aload_n 1, 1), (5, .getfield 99, 3), (8, .iload_n 2, 1), (9, .iload 4, 2), (11, .iastore, 1), (12, .goto 27, 3), (15, .iload_n 3, 1), (16, .iconst 1, 1), (17, .if_icmp .ne 14, 3), (20, .aload_n 1, 1), (21, .getfield 102, 3), (24, .iload_n 2, 1), (25, .iload 4, 2), (27, .iastore, 1)]
noncomputable def xi_133_1 : XIs := [(28, .goto 11, 3), (31, .aload_n 1, 1), (32, .getfield 105, 3), (35, .iload_n 2, 1), (36, .iload 4, 2), (38, .iastore, 1), (39, .return_, 1)]
set_option maxRecDepth 100000 in
theorem xi_w133 : xi_ok cX5_applyValue (xi_133_0 ++ (xi_133_1)) = true := dl_all _ _ (by decide +kernel)
theorem xi_ok133_0 : xi_ok cX5_applyValue xi_133_0 = true := (xi_ap xi_w133).1
theorem xi_r133_1 : xi_ok cX5_applyValue (xi_133_1) = true := (xi_ap xi_w133).2
theorem xi_ok133_1 : xi_ok cX5_applyValue xi_133_1 = true := xi_r133_1
noncomputable def xi_133 (pc : Nat) : XIs := cond (Nat.blt pc 28) (xi_133_0) (xi_133_1)
theorem xi_ok133 (pc : Nat) : xi_ok cX5_applyValue (xi_133 pc) = true := xi_c (xi_ok133_0) (xi_ok133_1)
noncomputable def xi_134_0 : XIs := [(0, .iload_n 2, 1), (1, .aload_n 1, 1), (2, .getfield 28, 3), (5, .if_icmp .ge 7, 3), (8, .aload_n 1, 1), (9, .invokevirtual 114, 3), (12, .aload_n 1, 1), (13, .getfield 28, 3), (16, .istore_n 3, 1), (17, .iload_n 3, 1), (18, .iload_n 2, 1), (19, .if_icmp .ge 14, 3), (22, .aload_n 0, 1), (23, .aload_n 1, 1), (24, .invokevirtual 59, 3), (27, .iinc 3 1, 3)]
noncomputable def xi_134_1 : XIs := [(30, .goto (-13), 3), (33, .return_, 1)]
set_option maxRecDepth 100000 in
theorem xi_w134 : xi_ok cX5_replay (xi_134_0 ++ (xi_134_1)) = true := dl_all _ _ (by decide +kernel)
theorem xi_ok134_0 : xi_ok cX5_replay xi_134_0 = true := (xi_ap xi_w134).1
theorem xi_r134_1 : xi_ok cX5_replay (xi_134_1) = true := (xi_ap xi_w134).2
theorem xi_ok134_1 : xi_ok cX5_replay xi_134_1 = true := xi_r134_1
noncomputable def xi_134 (pc : Nat) : XIs := cond (Nat.blt pc 30) (xi_134_0) (xi_134_1)
theorem xi_ok134 (pc : Nat) : xi_ok cX5_replay (xi_134 pc) = true := xi_c (xi_ok134_0) (xi_ok134_1)
noncomputable def xi_135_0 : XIs := [(0, .aload_n 0, 1), (1, .getfield 18, 3), (4, .aload_n 0, 1), (5, .getfield 12, 3), (8, .invokevirtual 117, 3), (11, .aload_n 1, 1), (12, .invokevirtual 119, 3), (15, .iconst 0, 1), (16, .istore_n 2, 1), (17, .iload_n 2, 1), (18, .sipush 1000, 3), (21, .if_icmp .gt 47, 3), (24, .aload_n 1, 1), (25, .bipush 7, 2), (27, .iconst 1, 1), (28, .invokevirtual 124, 3)]
noncomputable def xi_135_1 : XIs := [(31, .aload_n 1, 1), (32, .getfield 128, 3), (35, .ifCond .ne 5, 3), (38, .iload_n 2, 1), (39, .ireturn, 1), (40, .aload_n 0, 1), (41, .aload_n 1, 1), (42, .invokevirtual 131, 3), (45, .ifCond .ne 17, 3), (48, .aload_n 0, 1), (49, .getfield 12, 3), (52, .aload_n 0, 1), (53, .getfield 18, 3), (56, .invokevirtual 117, 3), (59, .bipush (-4), 2), (61, .ireturn, 1)]
noncomputable def xi_135_2 : XIs := [(62, .iinc 2 1, 3), (65, .goto (-48), 3), (68, .bipush (-4), 2), (70, .ireturn, 1)]
set_option maxRecDepth 100000 in
theorem xi_w135 : xi_ok cX5_carryOut (xi_135_0 ++ (xi_135_1 ++ (xi_135_2))) = true := dl_all _ _ (by decide +kernel)
theorem xi_ok135_0 : xi_ok cX5_carryOut xi_135_0 = true := (xi_ap xi_w135).1
theorem xi_r135_1 : xi_ok cX5_carryOut (xi_135_1 ++ (xi_135_2)) = true := (xi_ap xi_w135).2
theorem xi_ok135_1 : xi_ok cX5_carryOut xi_135_1 = true := (xi_ap xi_r135_1).1
theorem xi_r135_2 : xi_ok cX5_carryOut (xi_135_2) = true := (xi_ap xi_r135_1).2
theorem xi_ok135_2 : xi_ok cX5_carryOut xi_135_2 = true := xi_r135_2
noncomputable def xi_135 (pc : Nat) : XIs := cond (Nat.blt pc 31) (xi_135_0) (cond (Nat.blt pc 62) (xi_135_1) (xi_135_2))
theorem xi_ok135 (pc : Nat) : xi_ok cX5_carryOut (xi_135 pc) = true := xi_c (xi_ok135_0) (xi_c (xi_ok135_1) (xi_ok135_2))
noncomputable def xi_136_0 : XIs := [(0, .aload_n 1, 1), (1, .getfield 135, 3), (4, .istore_n 2, 1), (5, .aload_n 1, 1), (6, .getfield 128, 3), (9, .iconst 1, 1), (10, .if_icmp .ne 10, 3), (13, .aload_n 1, 1), (14, .getfield 138, 3), (17, .goto 4, 3), (20, .iconst (-1), 1), (21, .istore_n 3, 1), (22, .iload_n 3, 1), (23, .invokestatic 141, 3), (26, .astore 4, 2), (28, .aload 4, 2)]
noncomputable def xi_136_1 : XIs := [(30, .invokevirtual 145, 3), (33, .ifCond .eq 10, 3), (36, .aload_n 1, 1), (37, .iconst 2, 1), (38, .iconst 3, 1), (39, .invokevirtual 151, 3), (42, .ireturn, 1), (43, .iconst 0, 1), (44, .istore 5, 2), (46, .iload 5, 2), (48, .aload 4, 2), (50, .invokevirtual 155, 3), (53, .if_icmp .ge 72, 3), (56, .iload 5, 2), (58, .aload_n 0, 1), (59, .getfield 25, 3)]
noncomputable def xi_136_2 : XIs := [(62, .arraylength, 1), (63, .if_icmp .ge 62, 3), (66, .aload_n 1, 1), (67, .bipush 7, 2), (69, .iconst 1, 1), (70, .invokevirtual 124, 3), (73, .aload 4, 2), (75, .iload 5, 2), (77, .invokevirtual 158, 3), (80, .bipush 108, 2), (82, .if_icmp .ne 7, 3), (85, .iconst 1, 1), (86, .goto 4, 3), (89, .iconst 2, 1), (90, .istore 6, 2), (92, .aload_n 1, 1)]
noncomputable def xi_136_3 : XIs := [(93, .getfield 128, 3), (96, .iload 6, 2), (98, .if_icmp .eq 10, 3), (101, .aload_n 1, 1), (102, .iconst 2, 1), (103, .iconst 3, 1), (104, .invokevirtual 151, 3), (107, .ireturn, 1), (108, .aload_n 0, 1), (109, .getfield 25, 3), (112, .iload 5, 2), (114, .aload_n 1, 1), (115, .getfield 138, 3), (118, .iastore, 1), (119, .iinc 5 1, 3), (122, .goto (-76), 3)]
noncomputable def xi_136_4 : XIs := [(125, .aload_n 1, 1), (126, .bipush 7, 2), (128, .iconst 1, 1), (129, .invokevirtual 124, 3), (132, .aload_n 1, 1), (133, .bipush 59, 2), (135, .invokevirtual 162, 3), (138, .ifCond .ne 10, 3), (141, .aload_n 1, 1), (142, .iconst 2, 1), (143, .iconst 3, 1), (144, .invokevirtual 151, 3), (147, .ireturn, 1), (148, .aload_n 0, 1), (149, .iload_n 3, 1), (150, .invokevirtual 165, 3)]
noncomputable def xi_136_5 : XIs := [(153, .ifCond .ne 12, 3), (156, .aload_n 1, 1), (157, .iconst 4, 1), (158, .iload_n 2, 1), (159, .invokevirtual 168, 3), (162, .ifCond .eq 7, 3), (165, .iconst 1, 1), (166, .goto 4, 3), (169, .iconst 0, 1), (170, .ireturn, 1)]
set_option maxRecDepth 100000 in
theorem xi_w136 : xi_ok cX5_readCommand (xi_136_0 ++ (xi_136_1 ++ (xi_136_2 ++ (xi_136_3 ++ (xi_136_4 ++ (xi_136_5)))))) = true := dl_all _ _ (by decide +kernel)
theorem xi_ok136_0 : xi_ok cX5_readCommand xi_136_0 = true := (xi_ap xi_w136).1
theorem xi_r136_1 : xi_ok cX5_readCommand (xi_136_1 ++ (xi_136_2 ++ (xi_136_3 ++ (xi_136_4 ++ (xi_136_5))))) = true := (xi_ap xi_w136).2
theorem xi_ok136_1 : xi_ok cX5_readCommand xi_136_1 = true := (xi_ap xi_r136_1).1
theorem xi_r136_2 : xi_ok cX5_readCommand (xi_136_2 ++ (xi_136_3 ++ (xi_136_4 ++ (xi_136_5)))) = true := (xi_ap xi_r136_1).2
theorem xi_ok136_2 : xi_ok cX5_readCommand xi_136_2 = true := (xi_ap xi_r136_2).1
theorem xi_r136_3 : xi_ok cX5_readCommand (xi_136_3 ++ (xi_136_4 ++ (xi_136_5))) = true := (xi_ap xi_r136_2).2
theorem xi_ok136_3 : xi_ok cX5_readCommand xi_136_3 = true := (xi_ap xi_r136_3).1
theorem xi_r136_4 : xi_ok cX5_readCommand (xi_136_4 ++ (xi_136_5)) = true := (xi_ap xi_r136_3).2
theorem xi_ok136_4 : xi_ok cX5_readCommand xi_136_4 = true := (xi_ap xi_r136_4).1
theorem xi_r136_5 : xi_ok cX5_readCommand (xi_136_5) = true := (xi_ap xi_r136_4).2
theorem xi_ok136_5 : xi_ok cX5_readCommand xi_136_5 = true := xi_r136_5
noncomputable def xi_136 (pc : Nat) : XIs := cond (Nat.blt pc 93) (cond (Nat.blt pc 30) (xi_136_0) (cond (Nat.blt pc 62) (xi_136_1) (xi_136_2))) (cond (Nat.blt pc 125) (xi_136_3) (cond (Nat.blt pc 153) (xi_136_4) (xi_136_5)))
theorem xi_ok136 (pc : Nat) : xi_ok cX5_readCommand (xi_136 pc) = true := xi_c (xi_c (xi_ok136_0) (xi_c (xi_ok136_1) (xi_ok136_2))) (xi_c (xi_ok136_3) (xi_c (xi_ok136_4) (xi_ok136_5)))
noncomputable def xi_137_0 : XIs := [(0, .iload_n 0, 1)]
noncomputable def xi_137_1 : XIs := [(1, .lookupswitch 55 #[(0, 46), (13, 43), (19, 49), (22, 52)], 43)]
set_option maxRecDepth 100000 in
theorem xi_ok137_1 : xi_ok cX5_shapeOf xi_137_1 = true := by decide +kernel
noncomputable def xi_137_2 : XIs := [(44, .ldc 171, 2), (46, .areturn, 1), (47, .ldc 173, 2), (49, .areturn, 1), (50, .ldc 175, 2), (52, .areturn, 1), (53, .ldc 177, 2), (55, .areturn, 1), (56, .ldc 179, 2), (58, .areturn, 1)]
set_option maxRecDepth 100000 in
theorem xi_w137 : xi_ok cX5_shapeOf (xi_137_0 ++ (xi_137_2)) = true := dl_all _ _ (by decide +kernel)
theorem xi_ok137_0 : xi_ok cX5_shapeOf xi_137_0 = true := (xi_ap xi_w137).1
theorem xi_r137_1 : xi_ok cX5_shapeOf (xi_137_2) = true := (xi_ap xi_w137).2
theorem xi_ok137_2 : xi_ok cX5_shapeOf xi_137_2 = true := xi_r137_1
noncomputable def xi_137 (pc : Nat) : XIs := cond (Nat.blt pc 1) (xi_137_0) (cond (Nat.blt pc 44) (xi_137_1) (xi_137_2))
theorem xi_ok137 (pc : Nat) : xi_ok cX5_shapeOf (xi_137 pc) = true := xi_c (xi_ok137_0) (xi_c (xi_ok137_1) (xi_ok137_2))
noncomputable def xi_138_0 : XIs := [(0, .aload_n 0, 1), (1, .invokevirtual 181, 3), (4, .ifCond .eq 5, 3), (7, .iconst 0, 1), (8, .ireturn, 1), (9, .iload_n 1, 1), (10, .bipush 13, 2), (12, .if_icmp .ne 34, 3), (15, .aload_n 0, 1), (16, .getfield 12, 3), (19, .getfield 45, 3), (22, .bipush 32, 2), (24, .if_icmp .ge 20, 3), (27, .aload_n 0, 1), (28, .aload_n 0, 1), (29, .getfield 25, 3)]
noncomputable def xi_138_1 : XIs := [(32, .iconst 0, 1), (33, .iaload, 1), (34, .invokevirtual 184, 3), (37, .ifCond .lt 7, 3), (40, .iconst 1, 1), (41, .goto 4, 3), (44, .iconst 0, 1), (45, .ireturn, 1), (46, .iload_n 1, 1), (47, .ifCond .ne 85, 3), (50, .aload_n 0, 1), (51, .aload_n 0, 1), (52, .getfield 25, 3), (55, .iconst 0, 1), (56, .iaload, 1), (57, .aload_n 0, 1)]
noncomputable def xi_138_2 : XIs := [(58, .getfield 25, 3), (61, .iconst 1, 1), (62, .iaload, 1), (63, .aload_n 0, 1), (64, .getfield 25, 3), (67, .iconst 2, 1), (68, .iaload, 1), (69, .aload_n 0, 1), (70, .getfield 25, 3), (73, .iconst 3, 1), (74, .iaload, 1), (75, .aload_n 0, 1), (76, .getfield 25, 3), (79, .iconst 4, 1), (80, .iaload, 1), (81, .invokevirtual 188, 3)]
noncomputable def xi_138_3 : XIs := [(84, .ifCond .eq 46, 3), (87, .aload_n 0, 1), (88, .aload_n 0, 1), (89, .getfield 25, 3), (92, .iconst 0, 1), (93, .iaload, 1), (94, .aload_n 0, 1), (95, .getfield 25, 3), (98, .iconst 1, 1), (99, .iaload, 1), (100, .aload_n 0, 1), (101, .getfield 25, 3), (104, .iconst 2, 1), (105, .iaload, 1), (106, .aload_n 0, 1), (107, .getfield 25, 3)]
noncomputable def xi_138_4 : XIs := [(110, .iconst 3, 1), (111, .iaload, 1), (112, .aload_n 0, 1), (113, .getfield 25, 3), (116, .iconst 4, 1), (117, .iaload, 1), (118, .invokevirtual 192, 3), (121, .bipush (-3), 2), (123, .if_icmp .eq 7, 3), (126, .iconst 1, 1), (127, .goto 4, 3), (130, .iconst 0, 1), (131, .ireturn, 1), (132, .aload_n 0, 1), (133, .getfield 12, 3), (136, .aload_n 0, 1)]
noncomputable def xi_138_5 : XIs := [(137, .getfield 25, 3), (140, .iconst 0, 1), (141, .iaload, 1), (142, .invokevirtual 196, 3), (145, .ifCond .ne 5, 3), (148, .iconst 0, 1), (149, .ireturn, 1), (150, .iload_n 1, 1), (151, .bipush 19, 2), (153, .if_icmp .ne 15, 3), (156, .aload_n 0, 1), (157, .aload_n 0, 1), (158, .getfield 25, 3), (161, .iconst 0, 1), (162, .iaload, 1), (163, .invokevirtual 199, 3)]
noncomputable def xi_138_6 : XIs := [(166, .iconst 1, 1), (167, .ireturn, 1), (168, .aload_n 0, 1), (169, .getfield 25, 3), (172, .iconst 1, 1), (173, .iaload, 1), (174, .invokestatic 36, 3), (177, .ifCond .ne 5, 3), (180, .iconst 0, 1), (181, .ireturn, 1), (182, .aload_n 0, 1), (183, .aload_n 0, 1), (184, .getfield 25, 3), (187, .iconst 0, 1), (188, .iaload, 1), (189, .iconst 0, 1)]
noncomputable def xi_138_7 : XIs := [(190, .aload_n 0, 1), (191, .getfield 25, 3), (194, .iconst 1, 1), (195, .iaload, 1), (196, .invokevirtual 202, 3), (199, .iconst 1, 1), (200, .ireturn, 1)]
set_option maxRecDepth 100000 in
theorem xi_w138 : xi_ok cX5_doCommand (xi_138_0 ++ (xi_138_1 ++ (xi_138_2 ++ (xi_138_3 ++ (xi_138_4 ++ (xi_138_5 ++ (xi_138_6 ++ (xi_138_7)))))))) = true := dl_all _ _ (by decide +kernel)
theorem xi_ok138_0 : xi_ok cX5_doCommand xi_138_0 = true := (xi_ap xi_w138).1
theorem xi_r138_1 : xi_ok cX5_doCommand (xi_138_1 ++ (xi_138_2 ++ (xi_138_3 ++ (xi_138_4 ++ (xi_138_5 ++ (xi_138_6 ++ (xi_138_7))))))) = true := (xi_ap xi_w138).2
theorem xi_ok138_1 : xi_ok cX5_doCommand xi_138_1 = true := (xi_ap xi_r138_1).1
theorem xi_r138_2 : xi_ok cX5_doCommand (xi_138_2 ++ (xi_138_3 ++ (xi_138_4 ++ (xi_138_5 ++ (xi_138_6 ++ (xi_138_7)))))) = true := (xi_ap xi_r138_1).2
theorem xi_ok138_2 : xi_ok cX5_doCommand xi_138_2 = true := (xi_ap xi_r138_2).1
theorem xi_r138_3 : xi_ok cX5_doCommand (xi_138_3 ++ (xi_138_4 ++ (xi_138_5 ++ (xi_138_6 ++ (xi_138_7))))) = true := (xi_ap xi_r138_2).2
theorem xi_ok138_3 : xi_ok cX5_doCommand xi_138_3 = true := (xi_ap xi_r138_3).1
theorem xi_r138_4 : xi_ok cX5_doCommand (xi_138_4 ++ (xi_138_5 ++ (xi_138_6 ++ (xi_138_7)))) = true := (xi_ap xi_r138_3).2
theorem xi_ok138_4 : xi_ok cX5_doCommand xi_138_4 = true := (xi_ap xi_r138_4).1
theorem xi_r138_5 : xi_ok cX5_doCommand (xi_138_5 ++ (xi_138_6 ++ (xi_138_7))) = true := (xi_ap xi_r138_4).2
theorem xi_ok138_5 : xi_ok cX5_doCommand xi_138_5 = true := (xi_ap xi_r138_5).1
theorem xi_r138_6 : xi_ok cX5_doCommand (xi_138_6 ++ (xi_138_7)) = true := (xi_ap xi_r138_5).2
theorem xi_ok138_6 : xi_ok cX5_doCommand xi_138_6 = true := (xi_ap xi_r138_6).1
theorem xi_r138_7 : xi_ok cX5_doCommand (xi_138_7) = true := (xi_ap xi_r138_6).2
theorem xi_ok138_7 : xi_ok cX5_doCommand xi_138_7 = true := xi_r138_7
noncomputable def xi_138 (pc : Nat) : XIs := cond (Nat.blt pc 110) (cond (Nat.blt pc 58) (cond (Nat.blt pc 32) (xi_138_0) (xi_138_1)) (cond (Nat.blt pc 84) (xi_138_2) (xi_138_3))) (cond (Nat.blt pc 166) (cond (Nat.blt pc 137) (xi_138_4) (xi_138_5)) (cond (Nat.blt pc 190) (xi_138_6) (xi_138_7)))
theorem xi_ok138 (pc : Nat) : xi_ok cX5_doCommand (xi_138 pc) = true := xi_c (xi_c (xi_c (xi_ok138_0) (xi_ok138_1)) (xi_c (xi_ok138_2) (xi_ok138_3))) (xi_c (xi_c (xi_ok138_4) (xi_ok138_5)) (xi_c (xi_ok138_6) (xi_ok138_7)))
noncomputable def xi_139_0 : XIs := [(0, .aload_n 0, 1), (1, .invokespecial 3, 3), (4, .aload_n 0, 1), (5, .iconst (-1), 1), (6, .putfield 9, 3), (9, .aload_n 0, 1), (10, .bipush 32, 2), (12, .newarray .int, 2), (14, .putfield 15, 3), (17, .aload_n 0, 1), (18, .iconst (-1), 1), (19, .putfield 19, 3), (22, .aload_n 0, 1), (23, .bipush 32, 2), (25, .newarray .int, 2), (27, .putfield 22, 3)]
noncomputable def xi_139_1 : XIs := [(30, .aload_n 0, 1), (31, .bipush 32, 2), (33, .newarray .int, 2), (35, .putfield 25, 3), (38, .return_, 1)]
set_option maxRecDepth 100000 in
theorem xi_w139 : xi_ok cX6_init (xi_139_0 ++ (xi_139_1)) = true := dl_all _ _ (by decide +kernel)
theorem xi_ok139_0 : xi_ok cX6_init xi_139_0 = true := (xi_ap xi_w139).1
theorem xi_r139_1 : xi_ok cX6_init (xi_139_1) = true := (xi_ap xi_w139).2
theorem xi_ok139_1 : xi_ok cX6_init xi_139_1 = true := xi_r139_1
noncomputable def xi_139 (pc : Nat) : XIs := cond (Nat.blt pc 30) (xi_139_0) (xi_139_1)
theorem xi_ok139 (pc : Nat) : xi_ok cX6_init (xi_139 pc) = true := xi_c (xi_ok139_0) (xi_ok139_1)
noncomputable def xi_140_0 : XIs := [(0, .aload_n 1, 1), (1, .invokevirtual 28, 3), (4, .aload_n 1, 1), (5, .getfield 33, 3), (8, .iconst 1, 1), (9, .iload_n 2, 1), (10, .ishl, 1), (11, .iconst (-1), 1), (12, .invokestatic 36, 3), (15, .aload_n 1, 1), (16, .getfield 40, 3), (19, .iconst 1, 1), (20, .iload_n 2, 1), (21, .ishl, 1), (22, .iconst (-1), 1), (23, .invokestatic 36, 3)]
noncomputable def xi_140_1 : XIs := [(26, .iand, 1), (27, .invokestatic 43, 3), (30, .ireturn, 1)]
set_option maxRecDepth 100000 in
theorem xi_w140 : xi_ok cX6_strongPart (xi_140_0 ++ (xi_140_1)) = true := dl_all _ _ (by decide +kernel)
theorem xi_ok140_0 : xi_ok cX6_strongPart xi_140_0 = true := (xi_ap xi_w140).1
theorem xi_r140_1 : xi_ok cX6_strongPart (xi_140_1) = true := (xi_ap xi_w140).2
theorem xi_ok140_1 : xi_ok cX6_strongPart xi_140_1 = true := xi_r140_1
noncomputable def xi_140 (pc : Nat) : XIs := cond (Nat.blt pc 26) (xi_140_0) (xi_140_1)
theorem xi_ok140 (pc : Nat) : xi_ok cX6_strongPart (xi_140 pc) = true := xi_c (xi_ok140_0) (xi_ok140_1)
noncomputable def xi_141_0 : XIs := [(0, .aload_n 1, 1), (1, .invokevirtual 28, 3), (4, .aload_n 1, 1), (5, .getfield 47, 3), (8, .iconst 1, 1), (9, .iload_n 2, 1), (10, .ishl, 1), (11, .iconst (-1), 1), (12, .invokestatic 36, 3), (15, .invokestatic 43, 3), (18, .ireturn, 1)]
set_option maxRecDepth 100000 in
theorem xi_w141 : xi_ok cX6_weakPart (xi_141_0) = true := dl_all _ _ (by decide +kernel)
theorem xi_ok141_0 : xi_ok cX6_weakPart xi_141_0 = true := xi_w141
noncomputable def xi_141 (pc : Nat) : XIs := xi_141_0
theorem xi_ok141 (pc : Nat) : xi_ok cX6_weakPart (xi_141 pc) = true := xi_ok141_0
noncomputable def xi_142_0 : XIs := [(0, .aload_n 1, 1), (1, .iload_n 2, 1), (2, .invokevirtual 50, 3), (5, .ifCond .ne 5, 3), (8, .iconst 0, 1), (9, .ireturn, 1), (10, .aload_n 1, 1), (11, .getfield 54, 3), (14, .iload_n 2, 1), (15, .iaload, 1), (16, .istore_n 3, 1), (17, .aload_n 1, 1), (18, .getfield 57, 3), (21, .iload_n 2, 1), (22, .iaload, 1), (23, .istore 4, 2)]
noncomputable def xi_142_1 : XIs := [(25, .iconst 0, 1), (26, .istore 5, 2), (28, .iload 5, 2), (30, .aload_n 1, 1), (31, .getfield 60, 3), (34, .if_icmp .ge 72, 3), (37, .iload 5, 2), (39, .iload_n 2, 1), (40, .if_icmp .eq 60, 3), (43, .aload_n 1, 1), (44, .iload 5, 2), (46, .invokevirtual 50, 3), (49, .ifCond .eq 51, 3), (52, .aload_n 1, 1), (53, .getfield 54, 3), (56, .iload 5, 2)]
noncomputable def xi_142_2 : XIs := [(58, .iaload, 1), (59, .iload_n 3, 1), (60, .if_icmp .ne 15, 3), (63, .aload_n 1, 1), (64, .getfield 57, 3), (67, .iload 5, 2), (69, .iaload, 1), (70, .iload 4, 2), (72, .if_icmp .eq 26, 3), (75, .aload_n 1, 1), (76, .getfield 54, 3), (79, .iload 5, 2), (81, .iaload, 1), (82, .iload 4, 2), (84, .if_icmp .ne 16, 3), (87, .aload_n 1, 1)]
noncomputable def xi_142_3 : XIs := [(88, .getfield 57, 3), (91, .iload 5, 2), (93, .iaload, 1), (94, .iload_n 3, 1), (95, .if_icmp .ne 5, 3), (98, .iconst 0, 1), (99, .ireturn, 1), (100, .iinc 5 1, 3), (103, .goto (-75), 3), (106, .aload_n 1, 1), (107, .invokevirtual 28, 3), (110, .aload_n 1, 1), (111, .getfield 47, 3), (114, .aload_n 1, 1), (115, .getfield 47, 3), (118, .iload_n 3, 1)]
noncomputable def xi_142_4 : XIs := [(119, .iaload, 1), (120, .iconst 1, 1), (121, .iload 4, 2), (123, .ishl, 1), (124, .iconst (-1), 1), (125, .ixor, 1), (126, .iand, 1), (127, .iconst 1, 1), (128, .iload_n 3, 1), (129, .ishl, 1), (130, .iconst (-1), 1), (131, .ixor, 1), (132, .invokestatic 36, 3), (135, .istore 5, 2), (137, .iload 5, 2), (139, .iload 4, 2)]
noncomputable def xi_142_5 : XIs := [(141, .ishr, 1), (142, .iconst 1, 1), (143, .iand, 1), (144, .ifCond .ne 7, 3), (147, .iconst 1, 1), (148, .goto 4, 3), (151, .iconst 0, 1), (152, .ireturn, 1)]
set_option maxRecDepth 100000 in
theorem xi_w142 : xi_ok cX6_isBridge (xi_142_0 ++ (xi_142_1 ++ (xi_142_2 ++ (xi_142_3 ++ (xi_142_4 ++ (xi_142_5)))))) = true := dl_all _ _ (by decide +kernel)
theorem xi_ok142_0 : xi_ok cX6_isBridge xi_142_0 = true := (xi_ap xi_w142).1
theorem xi_r142_1 : xi_ok cX6_isBridge (xi_142_1 ++ (xi_142_2 ++ (xi_142_3 ++ (xi_142_4 ++ (xi_142_5))))) = true := (xi_ap xi_w142).2
theorem xi_ok142_1 : xi_ok cX6_isBridge xi_142_1 = true := (xi_ap xi_r142_1).1
theorem xi_r142_2 : xi_ok cX6_isBridge (xi_142_2 ++ (xi_142_3 ++ (xi_142_4 ++ (xi_142_5)))) = true := (xi_ap xi_r142_1).2
theorem xi_ok142_2 : xi_ok cX6_isBridge xi_142_2 = true := (xi_ap xi_r142_2).1
theorem xi_r142_3 : xi_ok cX6_isBridge (xi_142_3 ++ (xi_142_4 ++ (xi_142_5))) = true := (xi_ap xi_r142_2).2
theorem xi_ok142_3 : xi_ok cX6_isBridge xi_142_3 = true := (xi_ap xi_r142_3).1
theorem xi_r142_4 : xi_ok cX6_isBridge (xi_142_4 ++ (xi_142_5)) = true := (xi_ap xi_r142_3).2
theorem xi_ok142_4 : xi_ok cX6_isBridge xi_142_4 = true := (xi_ap xi_r142_4).1
theorem xi_r142_5 : xi_ok cX6_isBridge (xi_142_5) = true := (xi_ap xi_r142_4).2
theorem xi_ok142_5 : xi_ok cX6_isBridge xi_142_5 = true := xi_r142_5
noncomputable def xi_142 (pc : Nat) : XIs := cond (Nat.blt pc 88) (cond (Nat.blt pc 25) (xi_142_0) (cond (Nat.blt pc 58) (xi_142_1) (xi_142_2))) (cond (Nat.blt pc 119) (xi_142_3) (cond (Nat.blt pc 141) (xi_142_4) (xi_142_5)))
theorem xi_ok142 (pc : Nat) : xi_ok cX6_isBridge (xi_142 pc) = true := xi_c (xi_c (xi_ok142_0) (xi_c (xi_ok142_1) (xi_ok142_2))) (xi_c (xi_ok142_3) (xi_c (xi_ok142_4) (xi_ok142_5)))
noncomputable def xi_143_0 : XIs := [(0, .aload_n 1, 1), (1, .invokevirtual 28, 3), (4, .aload_n 1, 1), (5, .getfield 47, 3), (8, .iload_n 2, 1), (9, .iaload, 1), (10, .istore_n 3, 1), (11, .aload_n 1, 1), (12, .getfield 47, 3), (15, .iload_n 3, 1), (16, .iload_n 3, 1), (17, .ineg, 1), (18, .iand, 1), (19, .iconst 1, 1), (20, .iload_n 2, 1), (21, .ishl, 1)]
noncomputable def xi_143_1 : XIs := [(22, .iconst (-1), 1), (23, .ixor, 1), (24, .invokestatic 36, 3), (27, .istore 4, 2), (29, .iload_n 3, 1), (30, .iload 4, 2), (32, .iconst (-1), 1), (33, .ixor, 1), (34, .iand, 1), (35, .ifCond .eq 7, 3), (38, .iconst 1, 1), (39, .goto 4, 3), (42, .iconst 0, 1), (43, .ireturn, 1)]
set_option maxRecDepth 100000 in
theorem xi_w143 : xi_ok cX6_isCut (xi_143_0 ++ (xi_143_1)) = true := dl_all _ _ (by decide +kernel)
theorem xi_ok143_0 : xi_ok cX6_isCut xi_143_0 = true := (xi_ap xi_w143).1
theorem xi_r143_1 : xi_ok cX6_isCut (xi_143_1) = true := (xi_ap xi_w143).2
theorem xi_ok143_1 : xi_ok cX6_isCut xi_143_1 = true := xi_r143_1
noncomputable def xi_143 (pc : Nat) : XIs := cond (Nat.blt pc 22) (xi_143_0) (xi_143_1)
theorem xi_ok143 (pc : Nat) : xi_ok cX6_isCut (xi_143 pc) = true := xi_c (xi_ok143_0) (xi_ok143_1)
noncomputable def xi_144_0 : XIs := [(0, .aload_n 0, 1), (1, .getfield 9, 3), (4, .aload_n 1, 1), (5, .getfield 63, 3), (8, .if_icmp .eq 16, 3), (11, .aload_n 0, 1), (12, .aload_n 1, 1), (13, .getfield 63, 3), (16, .putfield 9, 3), (19, .aload_n 0, 1), (20, .aload_n 1, 1), (21, .invokevirtual 66, 3), (24, .iload_n 2, 1), (25, .aload_n 0, 1), (26, .getfield 70, 3), (29, .if_icmp .ge 12, 3)]
noncomputable def xi_144_1 : XIs := [(32, .aload_n 0, 1), (33, .getfield 15, 3), (36, .iload_n 2, 1), (37, .iaload, 1), (38, .goto 4, 3), (41, .iconst (-1), 1), (42, .ireturn, 1)]
set_option maxRecDepth 100000 in
theorem xi_w144 : xi_ok cX6_ordered (xi_144_0 ++ (xi_144_1)) = true := dl_all _ _ (by decide +kernel)
theorem xi_ok144_0 : xi_ok cX6_ordered xi_144_0 = true := (xi_ap xi_w144).1
theorem xi_r144_1 : xi_ok cX6_ordered (xi_144_1) = true := (xi_ap xi_w144).2
theorem xi_ok144_1 : xi_ok cX6_ordered xi_144_1 = true := xi_r144_1
noncomputable def xi_144 (pc : Nat) : XIs := cond (Nat.blt pc 32) (xi_144_0) (xi_144_1)
theorem xi_ok144 (pc : Nat) : xi_ok cX6_ordered (xi_144 pc) = true := xi_c (xi_ok144_0) (xi_ok144_1)
noncomputable def xi_145_0 : XIs := [(0, .aload_n 1, 1), (1, .invokevirtual 28, 3), (4, .aload_n 1, 1), (5, .invokevirtual 73, 3), (8, .istore_n 2, 1), (9, .iconst 0, 1), (10, .istore_n 3, 1), (11, .iload_n 3, 1), (12, .aload_n 1, 1), (13, .getfield 77, 3), (16, .if_icmp .ge 45, 3), (19, .aload_n 1, 1), (20, .iload_n 2, 1), (21, .invokestatic 80, 3), (24, .istore 4, 2), (26, .iload 4, 2)]
noncomputable def xi_145_1 : XIs := [(28, .iconst (-1), 1), (29, .if_icmp .ne 9, 3), (32, .aload_n 0, 1), (33, .iconst 0, 1), (34, .putfield 70, 3), (37, .return_, 1), (38, .aload_n 0, 1), (39, .getfield 15, 3), (42, .iload_n 3, 1), (43, .iload 4, 2), (45, .iastore, 1), (46, .iload_n 2, 1), (47, .iconst 1, 1), (48, .iload 4, 2), (50, .ishl, 1), (51, .iconst (-1), 1)]
noncomputable def xi_145_2 : XIs := [(52, .ixor, 1), (53, .iand, 1), (54, .istore_n 2, 1), (55, .iinc 3 1, 3), (58, .goto (-47), 3), (61, .aload_n 0, 1), (62, .aload_n 1, 1), (63, .getfield 77, 3), (66, .putfield 70, 3), (69, .return_, 1)]
set_option maxRecDepth 100000 in
theorem xi_w145 : xi_ok cX6_makeOrder (xi_145_0 ++ (xi_145_1 ++ (xi_145_2))) = true := dl_all _ _ (by decide +kernel)
theorem xi_ok145_0 : xi_ok cX6_makeOrder xi_145_0 = true := (xi_ap xi_w145).1
theorem xi_r145_1 : xi_ok cX6_makeOrder (xi_145_1 ++ (xi_145_2)) = true := (xi_ap xi_w145).2
theorem xi_ok145_1 : xi_ok cX6_makeOrder xi_145_1 = true := (xi_ap xi_r145_1).1
theorem xi_r145_2 : xi_ok cX6_makeOrder (xi_145_2) = true := (xi_ap xi_r145_1).2
theorem xi_ok145_2 : xi_ok cX6_makeOrder xi_145_2 = true := xi_r145_2
noncomputable def xi_145 (pc : Nat) : XIs := cond (Nat.blt pc 28) (xi_145_0) (cond (Nat.blt pc 52) (xi_145_1) (xi_145_2))
theorem xi_ok145 (pc : Nat) : xi_ok cX6_makeOrder (xi_145 pc) = true := xi_c (xi_ok145_0) (xi_c (xi_ok145_1) (xi_ok145_2))
noncomputable def xi_146_0 : XIs := [(0, .iload_n 1, 1), (1, .istore_n 2, 1), (2, .iload_n 2, 1), (3, .ifCond .eq 31, 3), (6, .aload_n 0, 1), (7, .getfield 40, 3), (10, .iload_n 2, 1), (11, .invokestatic 43, 3), (14, .iaload, 1), (15, .iload_n 1, 1), (16, .iand, 1), (17, .ifCond .ne 8, 3), (20, .iload_n 2, 1), (21, .invokestatic 43, 3), (24, .ireturn, 1), (25, .iload_n 2, 1)]
noncomputable def xi_146_1 : XIs := [(26, .iload_n 2, 1), (27, .iconst 1, 1), (28, .isub, 1), (29, .iand, 1), (30, .istore_n 2, 1), (31, .goto (-29), 3), (34, .iconst (-1), 1), (35, .ireturn, 1)]
set_option maxRecDepth 100000 in
theorem xi_w146 : xi_ok cX6_firstFree (xi_146_0 ++ (xi_146_1)) = true := dl_all _ _ (by decide +kernel)
theorem xi_ok146_0 : xi_ok cX6_firstFree xi_146_0 = true := (xi_ap xi_w146).1
theorem xi_r146_1 : xi_ok cX6_firstFree (xi_146_1) = true := (xi_ap xi_w146).2
theorem xi_ok146_1 : xi_ok cX6_firstFree xi_146_1 = true := xi_r146_1
noncomputable def xi_146 (pc : Nat) : XIs := cond (Nat.blt pc 26) (xi_146_0) (xi_146_1)
theorem xi_ok146 (pc : Nat) : xi_ok cX6_firstFree (xi_146 pc) = true := xi_c (xi_ok146_0) (xi_ok146_1)
noncomputable def xi_147_0 : XIs := [(0, .aload_n 0, 1), (1, .getfield 19, 3), (4, .aload_n 1, 1), (5, .getfield 63, 3), (8, .if_icmp .eq 16, 3), (11, .aload_n 0, 1), (12, .aload_n 1, 1), (13, .getfield 63, 3), (16, .putfield 19, 3), (19, .aload_n 0, 1), (20, .aload_n 1, 1), (21, .invokevirtual 84, 3), (24, .aload_n 0, 1), (25, .getfield 22, 3), (28, .iload_n 2, 1), (29, .iaload, 1)]
noncomputable def xi_147_1 : XIs := [(30, .ireturn, 1)]
set_option maxRecDepth 100000 in
theorem xi_w147 : xi_ok cX6_coreOf (xi_147_0 ++ (xi_147_1)) = true := dl_all _ _ (by decide +kernel)
theorem xi_ok147_0 : xi_ok cX6_coreOf xi_147_0 = true := (xi_ap xi_w147).1
theorem xi_r147_1 : xi_ok cX6_coreOf (xi_147_1) = true := (xi_ap xi_w147).2
theorem xi_ok147_1 : xi_ok cX6_coreOf xi_147_1 = true := xi_r147_1
noncomputable def xi_147 (pc : Nat) : XIs := cond (Nat.blt pc 30) (xi_147_0) (xi_147_1)
theorem xi_ok147 (pc : Nat) : xi_ok cX6_coreOf (xi_147 pc) = true := xi_c (xi_ok147_0) (xi_ok147_1)
noncomputable def xi_148_0 : XIs := [(0, .aload_n 1, 1), (1, .invokevirtual 28, 3), (4, .aload_n 1, 1), (5, .invokevirtual 73, 3), (8, .istore_n 2, 1), (9, .iconst 0, 1), (10, .istore_n 3, 1), (11, .aload_n 1, 1), (12, .aload_n 0, 1), (13, .getfield 25, 3), (16, .invokevirtual 87, 3), (19, .iconst 0, 1), (20, .istore 4, 2), (22, .iload 4, 2), (24, .aload_n 1, 1), (25, .getfield 77, 3)]
noncomputable def xi_148_1 : XIs := [(28, .if_icmp .ge 52, 3), (31, .aload_n 0, 1), (32, .iload_n 2, 1), (33, .invokevirtual 91, 3), (36, .istore 5, 2), (38, .iload_n 3, 1), (39, .aload_n 0, 1), (40, .getfield 25, 3), (43, .iload 5, 2), (45, .iaload, 1), (46, .invokestatic 94, 3), (49, .istore_n 3, 1), (50, .aload_n 0, 1), (51, .getfield 22, 3), (54, .iload 5, 2), (56, .iload_n 3, 1)]
noncomputable def xi_148_2 : XIs := [(57, .iastore, 1), (58, .iload_n 2, 1), (59, .iconst 1, 1), (60, .iload 5, 2), (62, .ishl, 1), (63, .iconst (-1), 1), (64, .ixor, 1), (65, .iand, 1), (66, .istore_n 2, 1), (67, .aload_n 0, 1), (68, .aload_n 1, 1), (69, .iload 5, 2), (71, .invokevirtual 100, 3), (74, .iinc 4 1, 3), (77, .goto (-55), 3), (80, .return_, 1)]
set_option maxRecDepth 100000 in
theorem xi_w148 : xi_ok cX6_peel (xi_148_0 ++ (xi_148_1 ++ (xi_148_2))) = true := dl_all _ _ (by decide +kernel)
theorem xi_ok148_0 : xi_ok cX6_peel xi_148_0 = true := (xi_ap xi_w148).1
theorem xi_r148_1 : xi_ok cX6_peel (xi_148_1 ++ (xi_148_2)) = true := (xi_ap xi_w148).2
theorem xi_ok148_1 : xi_ok cX6_peel xi_148_1 = true := (xi_ap xi_r148_1).1
theorem xi_r148_2 : xi_ok cX6_peel (xi_148_2) = true := (xi_ap xi_r148_1).2
theorem xi_ok148_2 : xi_ok cX6_peel xi_148_2 = true := xi_r148_2
noncomputable def xi_148 (pc : Nat) : XIs := cond (Nat.blt pc 28) (xi_148_0) (cond (Nat.blt pc 57) (xi_148_1) (xi_148_2))
theorem xi_ok148 (pc : Nat) : xi_ok cX6_peel (xi_148 pc) = true := xi_c (xi_ok148_0) (xi_c (xi_ok148_1) (xi_ok148_2))
noncomputable def xi_149_0 : XIs := [(0, .iload_n 1, 1), (1, .invokestatic 43, 3), (4, .istore_n 2, 1), (5, .iload_n 1, 1), (6, .istore_n 3, 1), (7, .iload_n 3, 1), (8, .ifCond .eq 35, 3), (11, .aload_n 0, 1), (12, .getfield 25, 3), (15, .iload_n 3, 1), (16, .invokestatic 43, 3), (19, .iaload, 1), (20, .aload_n 0, 1), (21, .getfield 25, 3), (24, .iload_n 2, 1), (25, .iaload, 1)]
noncomputable def xi_149_1 : XIs := [(26, .if_icmp .ge 8, 3), (29, .iload_n 3, 1), (30, .invokestatic 43, 3), (33, .istore_n 2, 1), (34, .iload_n 3, 1), (35, .iload_n 3, 1), (36, .iconst 1, 1), (37, .isub, 1), (38, .iand, 1), (39, .istore_n 3, 1), (40, .goto (-33), 3), (43, .iload_n 2, 1), (44, .ireturn, 1)]
set_option maxRecDepth 100000 in
theorem xi_w149 : xi_ok cX6_loosest (xi_149_0 ++ (xi_149_1)) = true := dl_all _ _ (by decide +kernel)
theorem xi_ok149_0 : xi_ok cX6_loosest xi_149_0 = true := (xi_ap xi_w149).1
theorem xi_r149_1 : xi_ok cX6_loosest (xi_149_1) = true := (xi_ap xi_w149).2
theorem xi_ok149_1 : xi_ok cX6_loosest xi_149_1 = true := xi_r149_1
noncomputable def xi_149 (pc : Nat) : XIs := cond (Nat.blt pc 26) (xi_149_0) (xi_149_1)
theorem xi_ok149 (pc : Nat) : xi_ok cX6_loosest (xi_149 pc) = true := xi_c (xi_ok149_0) (xi_ok149_1)
noncomputable def xi_150_0 : XIs := [(0, .aload_n 1, 1), (1, .getfield 104, 3), (4, .iload_n 2, 1), (5, .iaload, 1), (6, .istore_n 3, 1), (7, .iload_n 3, 1), (8, .aload_n 1, 1), (9, .getfield 104, 3), (12, .iload_n 2, 1), (13, .iconst 1, 1), (14, .iadd, 1), (15, .iaload, 1), (16, .if_icmp .ge 29, 3), (19, .aload_n 0, 1), (20, .getfield 25, 3), (23, .aload_n 1, 1)]
noncomputable def xi_150_1 : XIs := [(24, .getfield 57, 3), (27, .aload_n 1, 1), (28, .getfield 107, 3), (31, .iload_n 3, 1), (32, .iaload, 1), (33, .iaload, 1), (34, .dup2, 1), (35, .iaload, 1), (36, .iconst 1, 1), (37, .isub, 1), (38, .iastore, 1), (39, .iinc 3 1, 3), (42, .goto (-35), 3), (45, .aload_n 1, 1), (46, .getfield 110, 3), (49, .iload_n 2, 1)]
noncomputable def xi_150_2 : XIs := [(50, .iaload, 1), (51, .istore_n 3, 1), (52, .iload_n 3, 1), (53, .aload_n 1, 1), (54, .getfield 110, 3), (57, .iload_n 2, 1), (58, .iconst 1, 1), (59, .iadd, 1), (60, .iaload, 1), (61, .if_icmp .ge 29, 3), (64, .aload_n 0, 1), (65, .getfield 25, 3), (68, .aload_n 1, 1), (69, .getfield 54, 3), (72, .aload_n 1, 1), (73, .getfield 113, 3)]
noncomputable def xi_150_3 : XIs := [(76, .iload_n 3, 1), (77, .iaload, 1), (78, .iaload, 1), (79, .dup2, 1), (80, .iaload, 1), (81, .iconst 1, 1), (82, .isub, 1), (83, .iastore, 1), (84, .iinc 3 1, 3), (87, .goto (-35), 3), (90, .return_, 1)]
set_option maxRecDepth 100000 in
theorem xi_w150 : xi_ok cX6_loosen (xi_150_0 ++ (xi_150_1 ++ (xi_150_2 ++ (xi_150_3)))) = true := dl_all _ _ (by decide +kernel)
theorem xi_ok150_0 : xi_ok cX6_loosen xi_150_0 = true := (xi_ap xi_w150).1
theorem xi_r150_1 : xi_ok cX6_loosen (xi_150_1 ++ (xi_150_2 ++ (xi_150_3))) = true := (xi_ap xi_w150).2
theorem xi_ok150_1 : xi_ok cX6_loosen xi_150_1 = true := (xi_ap xi_r150_1).1
theorem xi_r150_2 : xi_ok cX6_loosen (xi_150_2 ++ (xi_150_3)) = true := (xi_ap xi_r150_1).2
theorem xi_ok150_2 : xi_ok cX6_loosen xi_150_2 = true := (xi_ap xi_r150_2).1
theorem xi_r150_3 : xi_ok cX6_loosen (xi_150_3) = true := (xi_ap xi_r150_2).2
theorem xi_ok150_3 : xi_ok cX6_loosen xi_150_3 = true := xi_r150_3
noncomputable def xi_150 (pc : Nat) : XIs := cond (Nat.blt pc 50) (cond (Nat.blt pc 24) (xi_150_0) (xi_150_1)) (cond (Nat.blt pc 76) (xi_150_2) (xi_150_3))
theorem xi_ok150 (pc : Nat) : xi_ok cX6_loosen (xi_150 pc) = true := xi_c (xi_c (xi_ok150_0) (xi_ok150_1)) (xi_c (xi_ok150_2) (xi_ok150_3))
noncomputable def xi_151_0 : XIs := [(0, .aload_n 1, 1), (1, .invokevirtual 28, 3), (4, .lconst 0, 1), (5, .lstore_n 2, 1), (6, .iconst 0, 1), (7, .istore 4, 2), (9, .iload 4, 2), (11, .aload_n 1, 1), (12, .getfield 77, 3), (15, .if_icmp .ge 60, 3), (18, .aload_n 1, 1), (19, .getfield 47, 3), (22, .iload 4, 2), (24, .iaload, 1), (25, .istore 5, 2), (27, .iload 5, 2)]
noncomputable def xi_151_1 : XIs := [(29, .ifCond .eq 40, 3), (32, .lload_n 2, 1), (33, .aload_n 1, 1), (34, .getfield 47, 3), (37, .iload 4, 2), (39, .iaload, 1), (40, .aload_n 1, 1), (41, .getfield 47, 3), (44, .iload 5, 2), (46, .invokestatic 43, 3), (49, .iaload, 1), (50, .iand, 1), (51, .invokestatic 116, 3), (54, .i2l, 1), (55, .ladd, 1), (56, .lstore_n 2, 1)]
noncomputable def xi_151_2 : XIs := [(57, .iload 5, 2), (59, .iload 5, 2), (61, .iconst 1, 1), (62, .isub, 1), (63, .iand, 1), (64, .istore 5, 2), (66, .goto (-39), 3), (69, .iinc 4 1, 3), (72, .goto (-63), 3), (75, .lload_n 2, 1), (76, .ldc2_w 121, 3), (79, .ldiv, 1), (80, .lreturn, 1)]
set_option maxRecDepth 100000 in
theorem xi_w151 : xi_ok cX6_triangles (xi_151_0 ++ (xi_151_1 ++ (xi_151_2))) = true := dl_all _ _ (by decide +kernel)
theorem xi_ok151_0 : xi_ok cX6_triangles xi_151_0 = true := (xi_ap xi_w151).1
theorem xi_r151_1 : xi_ok cX6_triangles (xi_151_1 ++ (xi_151_2)) = true := (xi_ap xi_w151).2
theorem xi_ok151_1 : xi_ok cX6_triangles xi_151_1 = true := (xi_ap xi_r151_1).1
theorem xi_r151_2 : xi_ok cX6_triangles (xi_151_2) = true := (xi_ap xi_r151_1).2
theorem xi_ok151_2 : xi_ok cX6_triangles xi_151_2 = true := xi_r151_2
noncomputable def xi_151 (pc : Nat) : XIs := cond (Nat.blt pc 29) (xi_151_0) (cond (Nat.blt pc 57) (xi_151_1) (xi_151_2))
theorem xi_ok151 (pc : Nat) : xi_ok cX6_triangles (xi_151 pc) = true := xi_c (xi_ok151_0) (xi_c (xi_ok151_1) (xi_ok151_2))
noncomputable def xi_152_0 : XIs := [(0, .aload_n 1, 1), (1, .invokevirtual 28, 3), (4, .lconst 0, 1), (5, .lstore_n 2, 1), (6, .iconst 0, 1), (7, .istore 4, 2), (9, .iload 4, 2), (11, .aload_n 1, 1), (12, .getfield 77, 3), (15, .if_icmp .ge 63, 3), (18, .iload 4, 2), (20, .iconst 1, 1), (21, .iadd, 1), (22, .istore 5, 2), (24, .iload 5, 2), (26, .aload_n 1, 1)]
noncomputable def xi_152_1 : XIs := [(27, .getfield 77, 3), (30, .if_icmp .ge 42, 3), (33, .aload_n 1, 1), (34, .getfield 47, 3), (37, .iload 4, 2), (39, .iaload, 1), (40, .aload_n 1, 1), (41, .getfield 47, 3), (44, .iload 5, 2), (46, .iaload, 1), (47, .iand, 1), (48, .invokestatic 116, 3), (51, .istore 6, 2), (53, .lload_n 2, 1), (54, .iload 6, 2), (56, .iload 6, 2)]
noncomputable def xi_152_2 : XIs := [(58, .iconst 1, 1), (59, .isub, 1), (60, .imul, 1), (61, .iconst 2, 1), (62, .idiv, 1), (63, .i2l, 1), (64, .ladd, 1), (65, .lstore_n 2, 1), (66, .iinc 5 1, 3), (69, .goto (-45), 3), (72, .iinc 4 1, 3), (75, .goto (-66), 3), (78, .lload_n 2, 1), (79, .ldc2_w 123, 3), (82, .ldiv, 1), (83, .lreturn, 1)]
set_option maxRecDepth 100000 in
theorem xi_w152 : xi_ok cX6_squares (xi_152_0 ++ (xi_152_1 ++ (xi_152_2))) = true := dl_all _ _ (by decide +kernel)
theorem xi_ok152_0 : xi_ok cX6_squares xi_152_0 = true := (xi_ap xi_w152).1
theorem xi_r152_1 : xi_ok cX6_squares (xi_152_1 ++ (xi_152_2)) = true := (xi_ap xi_w152).2
theorem xi_ok152_1 : xi_ok cX6_squares xi_152_1 = true := (xi_ap xi_r152_1).1
theorem xi_r152_2 : xi_ok cX6_squares (xi_152_2) = true := (xi_ap xi_r152_1).2
theorem xi_ok152_2 : xi_ok cX6_squares xi_152_2 = true := xi_r152_2
noncomputable def xi_152 (pc : Nat) : XIs := cond (Nat.blt pc 27) (xi_152_0) (cond (Nat.blt pc 58) (xi_152_1) (xi_152_2))
theorem xi_ok152 (pc : Nat) : xi_ok cX6_squares (xi_152 pc) = true := xi_c (xi_ok152_0) (xi_c (xi_ok152_1) (xi_ok152_2))
noncomputable def xi_153_0 : XIs := [(0, .aload_n 0, 1), (1, .invokespecial 3, 3), (4, .aload_n 0, 1), (5, .lconst 1, 1), (6, .putfield 9, 3), (9, .aload_n 0, 1), (10, .lconst 1, 1), (11, .putfield 15, 3), (14, .aload_n 0, 1), (15, .bipush 61, 2), (17, .newarray .long, 2), (19, .putfield 18, 3), (22, .aload_n 0, 1), (23, .bipush 26, 2), (25, .newarray .long, 2), (27, .putfield 22, 3)]
noncomputable def xi_153_1 : XIs := [(30, .aload_n 0, 1), (31, .bipush 11, 2), (33, .newarray .int, 2), (35, .putfield 25, 3), (38, .aload_n 0, 1), (39, .bipush 11, 2), (41, .newarray .long, 2), (43, .putfield 29, 3), (46, .aload_n 0, 1), (47, .bipush 32, 2), (49, .newarray .long, 2), (51, .putfield 32, 3), (54, .aload_n 0, 1), (55, .bipush 32, 2), (57, .newarray .long, 2), (59, .putfield 35, 3)]
noncomputable def xi_153_2 : XIs := [(62, .aload_n 0, 1), (63, .bipush 32, 2), (65, .newarray .long, 2), (67, .putfield 38, 3), (70, .return_, 1)]
set_option maxRecDepth 100000 in
theorem xi_w153 : xi_ok cX7_init (xi_153_0 ++ (xi_153_1 ++ (xi_153_2))) = true := dl_all _ _ (by decide +kernel)
theorem xi_ok153_0 : xi_ok cX7_init xi_153_0 = true := (xi_ap xi_w153).1
theorem xi_r153_1 : xi_ok cX7_init (xi_153_1 ++ (xi_153_2)) = true := (xi_ap xi_w153).2
theorem xi_ok153_1 : xi_ok cX7_init xi_153_1 = true := (xi_ap xi_r153_1).1
theorem xi_r153_2 : xi_ok cX7_init (xi_153_2) = true := (xi_ap xi_r153_1).2
theorem xi_ok153_2 : xi_ok cX7_init xi_153_2 = true := xi_r153_2
noncomputable def xi_153 (pc : Nat) : XIs := cond (Nat.blt pc 30) (xi_153_0) (cond (Nat.blt pc 62) (xi_153_1) (xi_153_2))
theorem xi_ok153 (pc : Nat) : xi_ok cX7_init (xi_153 pc) = true := xi_c (xi_ok153_0) (xi_c (xi_ok153_1) (xi_ok153_2))
noncomputable def xi_154_0 : XIs := [(0, .aload_n 1, 1), (1, .invokevirtual 41, 3), (4, .aload_n 1, 1), (5, .getfield 46, 3), (8, .bipush 60, 2), (10, .if_icmp .le 11, 3), (13, .aload_n 1, 1), (14, .iconst 2, 1), (15, .bipush 60, 2), (17, .invokevirtual 50, 3), (20, .ireturn, 1), (21, .aload_n 1, 1), (22, .invokestatic 54, 3), (25, .ifCond .ne 5, 3), (28, .iconst 0, 1), (29, .ireturn, 1)]
noncomputable def xi_154_1 : XIs := [(30, .aload_n 0, 1), (31, .aload_n 1, 1), (32, .invokevirtual 58, 3), (35, .iconst 1, 1), (36, .ireturn, 1)]
set_option maxRecDepth 100000 in
theorem xi_w154 : xi_ok cX7_adopt (xi_154_0 ++ (xi_154_1)) = true := dl_all _ _ (by decide +kernel)
theorem xi_ok154_0 : xi_ok cX7_adopt xi_154_0 = true := (xi_ap xi_w154).1
theorem xi_r154_1 : xi_ok cX7_adopt (xi_154_1) = true := (xi_ap xi_w154).2
theorem xi_ok154_1 : xi_ok cX7_adopt xi_154_1 = true := xi_r154_1
noncomputable def xi_154 (pc : Nat) : XIs := cond (Nat.blt pc 30) (xi_154_0) (xi_154_1)
theorem xi_ok154 (pc : Nat) : xi_ok cX7_adopt (xi_154 pc) = true := xi_c (xi_ok154_0) (xi_ok154_1)
noncomputable def xi_155_0 : XIs := [(0, .iconst 0, 1), (1, .istore_n 1, 1), (2, .iconst 0, 1), (3, .istore_n 2, 1), (4, .iconst 0, 1), (5, .istore_n 3, 1), (6, .iload_n 3, 1), (7, .aload_n 0, 1), (8, .getfield 46, 3), (11, .if_icmp .ge 81, 3), (14, .aload_n 0, 1), (15, .getfield 62, 3), (18, .iload_n 3, 1), (19, .caload, 1), (20, .istore 4, 2), (22, .iload 4, 2)]
noncomputable def xi_155_1 : XIs := [(24, .iload_n 2, 1), (25, .iload_n 1, 1), (26, .invokestatic 66, 3), (29, .istore 5, 2), (31, .iload 5, 2), (33, .iconst (-1), 1), (34, .if_icmp .eq 11, 3), (37, .aload_n 0, 1), (38, .iload 5, 2), (40, .iload_n 3, 1), (41, .invokevirtual 50, 3), (44, .ireturn, 1), (45, .iload 4, 2), (47, .bipush 40, 2), (49, .if_icmp .ne 6, 3), (52, .iinc 1 1, 3)]
noncomputable def xi_155_2 : XIs := [(55, .iload 4, 2), (57, .bipush 41, 2), (59, .if_icmp .ne 6, 3), (62, .iinc 1 (-1), 3), (65, .iload 4, 2), (67, .bipush 41, 2), (69, .if_icmp .eq 11, 3), (72, .iload 4, 2), (74, .invokestatic 70, 3), (77, .ifCond .eq 7, 3), (80, .iconst 1, 1), (81, .goto 4, 3), (84, .iconst 0, 1), (85, .istore_n 2, 1), (86, .iinc 3 1, 3), (89, .goto (-83), 3)]
noncomputable def xi_155_3 : XIs := [(92, .iload_n 1, 1), (93, .ifCond .eq 15, 3), (96, .aload_n 0, 1), (97, .iconst 2, 1), (98, .aload_n 0, 1), (99, .getfield 46, 3), (102, .invokevirtual 50, 3), (105, .ifCond .eq 7, 3), (108, .iconst 1, 1), (109, .goto 4, 3), (112, .iconst 0, 1), (113, .ireturn, 1)]
set_option maxRecDepth 100000 in
theorem xi_w155 : xi_ok cX7_isGood (xi_155_0 ++ (xi_155_1 ++ (xi_155_2 ++ (xi_155_3)))) = true := dl_all _ _ (by decide +kernel)
theorem xi_ok155_0 : xi_ok cX7_isGood xi_155_0 = true := (xi_ap xi_w155).1
theorem xi_r155_1 : xi_ok cX7_isGood (xi_155_1 ++ (xi_155_2 ++ (xi_155_3))) = true := (xi_ap xi_w155).2
theorem xi_ok155_1 : xi_ok cX7_isGood xi_155_1 = true := (xi_ap xi_r155_1).1
theorem xi_r155_2 : xi_ok cX7_isGood (xi_155_2 ++ (xi_155_3)) = true := (xi_ap xi_r155_1).2
theorem xi_ok155_2 : xi_ok cX7_isGood xi_155_2 = true := (xi_ap xi_r155_2).1
theorem xi_r155_3 : xi_ok cX7_isGood (xi_155_3) = true := (xi_ap xi_r155_2).2
theorem xi_ok155_3 : xi_ok cX7_isGood xi_155_3 = true := xi_r155_3
noncomputable def xi_155 (pc : Nat) : XIs := cond (Nat.blt pc 55) (cond (Nat.blt pc 24) (xi_155_0) (xi_155_1)) (cond (Nat.blt pc 92) (xi_155_2) (xi_155_3))
theorem xi_ok155 (pc : Nat) : xi_ok cX7_isGood (xi_155 pc) = true := xi_c (xi_c (xi_ok155_0) (xi_ok155_1)) (xi_c (xi_ok155_2) (xi_ok155_3))
noncomputable def xi_156_0 : XIs := [(0, .iload_n 0, 1)]
noncomputable def xi_156_1 : XIs := [(1, .lookupswitch 93 #[(40, 69), (41, 81), (42, 59), (43, 59), (63, 59), (124, 91)], 59)]
set_option maxRecDepth 100000 in
theorem xi_ok156_1 : xi_ok cX7_judge xi_156_1 = true := by decide +kernel
noncomputable def xi_156_2 : XIs := [(60, .iload_n 1, 1), (61, .ifCond .eq 7, 3), (64, .iconst (-1), 1), (65, .goto 4, 3), (68, .iconst 2, 1), (69, .ireturn, 1), (70, .iload_n 2, 1), (71, .bipush 10, 2), (73, .if_icmp .ge 7, 3), (76, .iconst (-1), 1), (77, .goto 4, 3), (80, .iconst 3, 1), (81, .ireturn, 1), (82, .iload_n 2, 1), (83, .ifCond .le 7, 3), (86, .iconst (-1), 1)]
noncomputable def xi_156_3 : XIs := [(87, .goto 4, 3), (90, .iconst 2, 1), (91, .ireturn, 1), (92, .iconst (-1), 1), (93, .ireturn, 1), (94, .iload_n 0, 1), (95, .invokestatic 70, 3), (98, .ifCond .eq 7, 3), (101, .iconst (-1), 1), (102, .goto 4, 3), (105, .iconst 1, 1), (106, .ireturn, 1)]
set_option maxRecDepth 100000 in
theorem xi_w156 : xi_ok cX7_judge (xi_156_0 ++ (xi_156_2 ++ (xi_156_3))) = true := dl_all _ _ (by decide +kernel)
theorem xi_ok156_0 : xi_ok cX7_judge xi_156_0 = true := (xi_ap xi_w156).1
theorem xi_r156_1 : xi_ok cX7_judge (xi_156_2 ++ (xi_156_3)) = true := (xi_ap xi_w156).2
theorem xi_ok156_2 : xi_ok cX7_judge xi_156_2 = true := (xi_ap xi_r156_1).1
theorem xi_r156_2 : xi_ok cX7_judge (xi_156_3) = true := (xi_ap xi_r156_1).2
theorem xi_ok156_3 : xi_ok cX7_judge xi_156_3 = true := xi_r156_2
noncomputable def xi_156 (pc : Nat) : XIs := cond (Nat.blt pc 60) (cond (Nat.blt pc 1) (xi_156_0) (xi_156_1)) (cond (Nat.blt pc 87) (xi_156_2) (xi_156_3))
theorem xi_ok156 (pc : Nat) : xi_ok cX7_judge (xi_156 pc) = true := xi_c (xi_c (xi_ok156_0) (xi_ok156_1)) (xi_c (xi_ok156_2) (xi_ok156_3))
noncomputable def xi_157_0 : XIs := [(0, .iload_n 0, 1), (1, .bipush 46, 2), (3, .if_icmp .eq 15, 3), (6, .iload_n 0, 1), (7, .bipush 97, 2), (9, .if_icmp .lt 13, 3), (12, .iload_n 0, 1), (13, .bipush 122, 2), (15, .if_icmp .gt 7, 3), (18, .iconst 1, 1), (19, .goto 4, 3), (22, .iconst 0, 1), (23, .ireturn, 1)]
set_option maxRecDepth 100000 in
theorem xi_w157 : xi_ok cX7_isAtom (xi_157_0) = true := dl_all _ _ (by decide +kernel)
theorem xi_ok157_0 : xi_ok cX7_isAtom xi_157_0 = true := xi_w157
noncomputable def xi_157 (pc : Nat) : XIs := xi_157_0
theorem xi_ok157 (pc : Nat) : xi_ok cX7_isAtom (xi_157 pc) = true := xi_ok157_0
noncomputable def xi_158_0 : XIs := [(0, .aload_n 0, 1), (1, .getfield 18, 3), (4, .lconst 0, 1), (5, .invokestatic 74, 3), (8, .aload_n 0, 1), (9, .getfield 22, 3), (12, .lconst 0, 1), (13, .invokestatic 74, 3), (16, .aload_n 0, 1), (17, .lconst 1, 1), (18, .putfield 9, 3), (21, .aload_n 0, 1), (22, .lconst 1, 1), (23, .aload_n 1, 1), (24, .getfield 46, 3), (27, .lshl, 1)]
noncomputable def xi_158_1 : XIs := [(28, .putfield 15, 3), (31, .aload_n 0, 1), (32, .getfield 29, 3), (35, .iconst 0, 1), (36, .lconst 0, 1), (37, .lastore, 1), (38, .iconst 0, 1), (39, .istore_n 2, 1), (40, .iconst 0, 1), (41, .istore_n 3, 1), (42, .iload_n 3, 1), (43, .aload_n 1, 1), (44, .getfield 46, 3), (47, .if_icmp .ge 123, 3), (50, .aload_n 1, 1), (51, .getfield 62, 3)]
noncomputable def xi_158_2 : XIs := [(54, .iload_n 3, 1), (55, .caload, 1), (56, .istore 4, 2), (58, .iload_n 3, 1), (59, .istore 5, 2), (61, .iload 4, 2), (63, .bipush 40, 2), (65, .if_icmp .ne 29, 3), (68, .iload_n 2, 1), (69, .bipush 10, 2), (71, .if_icmp .ge 23, 3), (74, .iinc 2 1, 3), (77, .aload_n 0, 1), (78, .getfield 25, 3), (81, .iload_n 2, 1), (82, .iload_n 3, 1)]
noncomputable def xi_158_3 : XIs := [(83, .iastore, 1), (84, .aload_n 0, 1), (85, .getfield 29, 3), (88, .iload_n 2, 1), (89, .lconst 0, 1), (90, .lastore, 1), (91, .goto 38, 3), (94, .iload 4, 2), (96, .bipush 41, 2), (98, .if_icmp .ne 31, 3), (101, .iload_n 2, 1), (102, .ifCond .le 27, 3), (105, .aload_n 0, 1), (106, .getfield 25, 3), (109, .iload_n 2, 1), (110, .iaload, 1)]
noncomputable def xi_158_4 : XIs := [(111, .istore 5, 2), (113, .aload_n 0, 1), (114, .aload_n 0, 1), (115, .getfield 29, 3), (118, .iload_n 2, 1), (119, .laload, 1), (120, .lconst 1, 1), (121, .iload_n 3, 1), (122, .lshl, 1), (123, .invokevirtual 80, 3), (126, .iinc 2 (-1), 3), (129, .aload_n 0, 1), (130, .iload 4, 2), (132, .iload_n 3, 1), (133, .iload_n 2, 1), (134, .invokevirtual 84, 3)]
noncomputable def xi_158_5 : XIs := [(137, .iload_n 3, 1), (138, .iconst 1, 1), (139, .iadd, 1), (140, .aload_n 1, 1), (141, .getfield 46, 3), (144, .if_icmp .ge 20, 3), (147, .aload_n 0, 1), (148, .aload_n 1, 1), (149, .getfield 62, 3), (152, .iload_n 3, 1), (153, .iconst 1, 1), (154, .iadd, 1), (155, .caload, 1), (156, .iload 5, 2), (158, .iload_n 3, 1), (159, .iconst 1, 1)]
noncomputable def xi_158_6 : XIs := [(160, .iadd, 1), (161, .invokevirtual 88, 3), (164, .iinc 3 1, 3), (167, .goto (-125), 3), (170, .aload_n 0, 1), (171, .aload_n 0, 1), (172, .getfield 29, 3), (175, .iconst 0, 1), (176, .laload, 1), (177, .aload_n 0, 1), (178, .getfield 15, 3), (181, .invokevirtual 80, 3), (184, .aload_n 0, 1), (185, .aload_n 1, 1), (186, .getfield 46, 3), (189, .invokevirtual 91, 3)]
noncomputable def xi_158_7 : XIs := [(192, .return_, 1)]
set_option maxRecDepth 100000 in
theorem xi_w158 : xi_ok cX7_build (xi_158_0 ++ (xi_158_1 ++ (xi_158_2 ++ (xi_158_3 ++ (xi_158_4 ++ (xi_158_5 ++ (xi_158_6 ++ (xi_158_7)))))))) = true := dl_all _ _ (by decide +kernel)
theorem xi_ok158_0 : xi_ok cX7_build xi_158_0 = true := (xi_ap xi_w158).1
theorem xi_r158_1 : xi_ok cX7_build (xi_158_1 ++ (xi_158_2 ++ (xi_158_3 ++ (xi_158_4 ++ (xi_158_5 ++ (xi_158_6 ++ (xi_158_7))))))) = true := (xi_ap xi_w158).2
theorem xi_ok158_1 : xi_ok cX7_build xi_158_1 = true := (xi_ap xi_r158_1).1
theorem xi_r158_2 : xi_ok cX7_build (xi_158_2 ++ (xi_158_3 ++ (xi_158_4 ++ (xi_158_5 ++ (xi_158_6 ++ (xi_158_7)))))) = true := (xi_ap xi_r158_1).2
theorem xi_ok158_2 : xi_ok cX7_build xi_158_2 = true := (xi_ap xi_r158_2).1
theorem xi_r158_3 : xi_ok cX7_build (xi_158_3 ++ (xi_158_4 ++ (xi_158_5 ++ (xi_158_6 ++ (xi_158_7))))) = true := (xi_ap xi_r158_2).2
theorem xi_ok158_3 : xi_ok cX7_build xi_158_3 = true := (xi_ap xi_r158_3).1
theorem xi_r158_4 : xi_ok cX7_build (xi_158_4 ++ (xi_158_5 ++ (xi_158_6 ++ (xi_158_7)))) = true := (xi_ap xi_r158_3).2
theorem xi_ok158_4 : xi_ok cX7_build xi_158_4 = true := (xi_ap xi_r158_4).1
theorem xi_r158_5 : xi_ok cX7_build (xi_158_5 ++ (xi_158_6 ++ (xi_158_7))) = true := (xi_ap xi_r158_4).2
theorem xi_ok158_5 : xi_ok cX7_build xi_158_5 = true := (xi_ap xi_r158_5).1
theorem xi_r158_6 : xi_ok cX7_build (xi_158_6 ++ (xi_158_7)) = true := (xi_ap xi_r158_5).2
theorem xi_ok158_6 : xi_ok cX7_build xi_158_6 = true := (xi_ap xi_r158_6).1
theorem xi_r158_7 : xi_ok cX7_build (xi_158_7) = true := (xi_ap xi_r158_6).2
theorem xi_ok158_7 : xi_ok cX7_build xi_158_7 = true := xi_r158_7
noncomputable def xi_158 (pc : Nat) : XIs := cond (Nat.blt pc 111) (cond (Nat.blt pc 54) (cond (Nat.blt pc 28) (xi_158_0) (xi_158_1)) (cond (Nat.blt pc 83) (xi_158_2) (xi_158_3))) (cond (Nat.blt pc 160) (cond (Nat.blt pc 137) (xi_158_4) (xi_158_5)) (cond (Nat.blt pc 192) (xi_158_6) (xi_158_7)))
theorem xi_ok158 (pc : Nat) : xi_ok cX7_build (xi_158 pc) = true := xi_c (xi_c (xi_c (xi_ok158_0) (xi_ok158_1)) (xi_c (xi_ok158_2) (xi_ok158_3))) (xi_c (xi_c (xi_ok158_4) (xi_ok158_5)) (xi_c (xi_ok158_6) (xi_ok158_7)))
noncomputable def xi_159_0 : XIs := [(0, .lload_n 1, 1), (1, .lstore 5, 2), (3, .lload 5, 2), (5, .lconst 0, 1), (6, .lcmp, 1), (7, .ifCond .eq 29, 3), (10, .aload_n 0, 1), (11, .getfield 18, 3), (14, .lload 5, 2), (16, .invokestatic 95, 3), (19, .dup2, 1), (20, .laload, 1), (21, .lload_n 3, 1), (22, .lor, 1), (23, .lastore, 1), (24, .lload 5, 2)]
noncomputable def xi_159_1 : XIs := [(26, .lload 5, 2), (28, .lconst 1, 1), (29, .lsub, 1), (30, .land, 1), (31, .lstore 5, 2), (33, .goto (-30), 3), (36, .return_, 1)]
set_option maxRecDepth 100000 in
theorem xi_w159 : xi_ok cX7_closeBars (xi_159_0 ++ (xi_159_1)) = true := dl_all _ _ (by decide +kernel)
theorem xi_ok159_0 : xi_ok cX7_closeBars xi_159_0 = true := (xi_ap xi_w159).1
theorem xi_r159_1 : xi_ok cX7_closeBars (xi_159_1) = true := (xi_ap xi_w159).2
theorem xi_ok159_1 : xi_ok cX7_closeBars xi_159_1 = true := xi_r159_1
noncomputable def xi_159 (pc : Nat) : XIs := cond (Nat.blt pc 26) (xi_159_0) (xi_159_1)
theorem xi_ok159 (pc : Nat) : xi_ok cX7_closeBars (xi_159 pc) = true := xi_c (xi_ok159_0) (xi_ok159_1)
noncomputable def xi_160_0 : XIs := [(0, .lconst 1, 1), (1, .iload_n 2, 1), (2, .iconst 1, 1), (3, .iadd, 1), (4, .lshl, 1), (5, .lstore 4, 2), (7, .iload_n 1, 1), (8, .bipush 46, 2), (10, .if_icmp .ne 35, 3), (13, .iconst 0, 1), (14, .istore 6, 2), (16, .iload 6, 2), (18, .bipush 26, 2), (20, .if_icmp .ge 22, 3), (23, .aload_n 0, 1), (24, .getfield 22, 3)]
noncomputable def xi_160_1 : XIs := [(27, .iload 6, 2), (29, .dup2, 1), (30, .laload, 1), (31, .lconst 1, 1), (32, .iload_n 2, 1), (33, .lshl, 1), (34, .lor, 1), (35, .lastore, 1), (36, .iinc 6 1, 3), (39, .goto (-23), 3), (42, .goto 94, 3), (45, .iload_n 1, 1), (46, .invokestatic 70, 3), (49, .ifCond .eq 21, 3), (52, .aload_n 0, 1), (53, .getfield 22, 3)]
noncomputable def xi_160_2 : XIs := [(56, .iload_n 1, 1), (57, .bipush 97, 2), (59, .isub, 1), (60, .dup2, 1), (61, .laload, 1), (62, .lconst 1, 1), (63, .iload_n 2, 1), (64, .lshl, 1), (65, .lor, 1), (66, .lastore, 1), (67, .goto 69, 3), (70, .iload_n 1, 1), (71, .bipush 124, 2), (73, .if_icmp .eq 17, 3), (76, .aload_n 0, 1), (77, .getfield 18, 3)]
noncomputable def xi_160_3 : XIs := [(80, .iload_n 2, 1), (81, .dup2, 1), (82, .laload, 1), (83, .lload 4, 2), (85, .lor, 1), (86, .lastore, 1), (87, .goto 49, 3), (90, .aload_n 0, 1), (91, .getfield 29, 3), (94, .iload_n 3, 1), (95, .dup2, 1), (96, .laload, 1), (97, .lconst 1, 1), (98, .iload_n 2, 1), (99, .lshl, 1), (100, .lor, 1)]
noncomputable def xi_160_4 : XIs := [(101, .lastore, 1), (102, .iload_n 3, 1), (103, .ifCond .ne 17, 3), (106, .aload_n 0, 1), (107, .dup, 1), (108, .getfield 9, 3), (111, .lload 4, 2), (113, .lor, 1), (114, .putfield 9, 3), (117, .goto 19, 3), (120, .aload_n 0, 1), (121, .getfield 18, 3), (124, .aload_n 0, 1), (125, .getfield 25, 3), (128, .iload_n 3, 1), (129, .iaload, 1)]
noncomputable def xi_160_5 : XIs := [(130, .dup2, 1), (131, .laload, 1), (132, .lload 4, 2), (134, .lor, 1), (135, .lastore, 1), (136, .return_, 1)]
set_option maxRecDepth 100000 in
theorem xi_w160 : xi_ok cX7_layPlace (xi_160_0 ++ (xi_160_1 ++ (xi_160_2 ++ (xi_160_3 ++ (xi_160_4 ++ (xi_160_5)))))) = true := dl_all _ _ (by decide +kernel)
theorem xi_ok160_0 : xi_ok cX7_layPlace xi_160_0 = true := (xi_ap xi_w160).1
theorem xi_r160_1 : xi_ok cX7_layPlace (xi_160_1 ++ (xi_160_2 ++ (xi_160_3 ++ (xi_160_4 ++ (xi_160_5))))) = true := (xi_ap xi_w160).2
theorem xi_ok160_1 : xi_ok cX7_layPlace xi_160_1 = true := (xi_ap xi_r160_1).1
theorem xi_r160_2 : xi_ok cX7_layPlace (xi_160_2 ++ (xi_160_3 ++ (xi_160_4 ++ (xi_160_5)))) = true := (xi_ap xi_r160_1).2
theorem xi_ok160_2 : xi_ok cX7_layPlace xi_160_2 = true := (xi_ap xi_r160_2).1
theorem xi_r160_3 : xi_ok cX7_layPlace (xi_160_3 ++ (xi_160_4 ++ (xi_160_5))) = true := (xi_ap xi_r160_2).2
theorem xi_ok160_3 : xi_ok cX7_layPlace xi_160_3 = true := (xi_ap xi_r160_3).1
theorem xi_r160_4 : xi_ok cX7_layPlace (xi_160_4 ++ (xi_160_5)) = true := (xi_ap xi_r160_3).2
theorem xi_ok160_4 : xi_ok cX7_layPlace xi_160_4 = true := (xi_ap xi_r160_4).1
theorem xi_r160_5 : xi_ok cX7_layPlace (xi_160_5) = true := (xi_ap xi_r160_4).2
theorem xi_ok160_5 : xi_ok cX7_layPlace xi_160_5 = true := xi_r160_5
noncomputable def xi_160 (pc : Nat) : XIs := cond (Nat.blt pc 80) (cond (Nat.blt pc 27) (xi_160_0) (cond (Nat.blt pc 56) (xi_160_1) (xi_160_2))) (cond (Nat.blt pc 101) (xi_160_3) (cond (Nat.blt pc 130) (xi_160_4) (xi_160_5)))
theorem xi_ok160 (pc : Nat) : xi_ok cX7_layPlace (xi_160 pc) = true := xi_c (xi_c (xi_ok160_0) (xi_c (xi_ok160_1) (xi_ok160_2))) (xi_c (xi_ok160_3) (xi_c (xi_ok160_4) (xi_ok160_5)))
noncomputable def xi_161_0 : XIs := [(0, .iload_n 1, 1), (1, .bipush 42, 2), (3, .if_icmp .eq 9, 3), (6, .iload_n 1, 1), (7, .bipush 43, 2), (9, .if_icmp .ne 15, 3), (12, .aload_n 0, 1), (13, .getfield 18, 3), (16, .iload_n 3, 1), (17, .dup2, 1), (18, .laload, 1), (19, .lconst 1, 1), (20, .iload_n 2, 1), (21, .lshl, 1), (22, .lor, 1), (23, .lastore, 1)]
noncomputable def xi_161_1 : XIs := [(24, .iload_n 1, 1), (25, .bipush 42, 2), (27, .if_icmp .eq 9, 3), (30, .iload_n 1, 1), (31, .bipush 63, 2), (33, .if_icmp .ne 15, 3), (36, .aload_n 0, 1), (37, .getfield 18, 3), (40, .iload_n 2, 1), (41, .dup2, 1), (42, .laload, 1), (43, .lconst 1, 1), (44, .iload_n 3, 1), (45, .lshl, 1), (46, .lor, 1), (47, .lastore, 1)]
noncomputable def xi_161_2 : XIs := [(48, .return_, 1)]
set_option maxRecDepth 100000 in
theorem xi_w161 : xi_ok cX7_layRepeat (xi_161_0 ++ (xi_161_1 ++ (xi_161_2))) = true := dl_all _ _ (by decide +kernel)
theorem xi_ok161_0 : xi_ok cX7_layRepeat xi_161_0 = true := (xi_ap xi_w161).1
theorem xi_r161_1 : xi_ok cX7_layRepeat (xi_161_1 ++ (xi_161_2)) = true := (xi_ap xi_w161).2
theorem xi_ok161_1 : xi_ok cX7_layRepeat xi_161_1 = true := (xi_ap xi_r161_1).1
theorem xi_r161_2 : xi_ok cX7_layRepeat (xi_161_2) = true := (xi_ap xi_r161_1).2
theorem xi_ok161_2 : xi_ok cX7_layRepeat xi_161_2 = true := xi_r161_2
noncomputable def xi_161 (pc : Nat) : XIs := cond (Nat.blt pc 24) (xi_161_0) (cond (Nat.blt pc 48) (xi_161_1) (xi_161_2))
theorem xi_ok161 (pc : Nat) : xi_ok cX7_layRepeat (xi_161 pc) = true := xi_c (xi_ok161_0) (xi_c (xi_ok161_1) (xi_ok161_2))
noncomputable def xi_162_0 : XIs := [(0, .iconst 0, 1), (1, .istore_n 2, 1), (2, .iload_n 2, 1), (3, .iload_n 1, 1), (4, .if_icmp .gt 21, 3), (7, .aload_n 0, 1), (8, .getfield 18, 3), (11, .iload_n 2, 1), (12, .dup2, 1), (13, .laload, 1), (14, .lconst 1, 1), (15, .iload_n 2, 1), (16, .lshl, 1), (17, .lor, 1), (18, .lastore, 1), (19, .iinc 2 1, 3)]
noncomputable def xi_162_1 : XIs := [(22, .goto (-20), 3), (25, .iconst 0, 1), (26, .istore_n 2, 1), (27, .iload_n 2, 1), (28, .iload_n 1, 1), (29, .if_icmp .gt 52, 3), (32, .iconst 0, 1), (33, .istore_n 3, 1), (34, .iload_n 3, 1), (35, .iload_n 1, 1), (36, .if_icmp .gt 39, 3), (39, .aload_n 0, 1), (40, .getfield 18, 3), (43, .iload_n 3, 1), (44, .laload, 1), (45, .iload_n 2, 1)]
noncomputable def xi_162_2 : XIs := [(46, .lshr, 1), (47, .lconst 1, 1), (48, .land, 1), (49, .lconst 0, 1), (50, .lcmp, 1), (51, .ifCond .eq 18, 3), (54, .aload_n 0, 1), (55, .getfield 18, 3), (58, .iload_n 3, 1), (59, .dup2, 1), (60, .laload, 1), (61, .aload_n 0, 1), (62, .getfield 18, 3), (65, .iload_n 2, 1), (66, .laload, 1), (67, .lor, 1)]
noncomputable def xi_162_3 : XIs := [(68, .lastore, 1), (69, .iinc 3 1, 3), (72, .goto (-38), 3), (75, .iinc 2 1, 3), (78, .goto (-51), 3), (81, .aload_n 0, 1), (82, .getfield 15, 3), (85, .lstore_n 2, 1), (86, .iconst 0, 1), (87, .istore 4, 2), (89, .iload 4, 2), (91, .bipush 26, 2), (93, .if_icmp .ge 19, 3), (96, .lload_n 2, 1), (97, .aload_n 0, 1), (98, .getfield 22, 3)]
noncomputable def xi_162_4 : XIs := [(101, .iload 4, 2), (103, .laload, 1), (104, .lor, 1), (105, .lstore_n 2, 1), (106, .iinc 4 1, 3), (109, .goto (-20), 3), (112, .iconst 0, 1), (113, .istore 4, 2), (115, .iload 4, 2), (117, .iload_n 1, 1), (118, .if_icmp .gt 20, 3), (121, .aload_n 0, 1), (122, .getfield 18, 3), (125, .iload 4, 2), (127, .dup2, 1), (128, .laload, 1)]
noncomputable def xi_162_5 : XIs := [(129, .lload_n 2, 1), (130, .land, 1), (131, .lastore, 1), (132, .iinc 4 1, 3), (135, .goto (-20), 3), (138, .lconst 0, 1), (139, .lstore 4, 2), (141, .aload_n 0, 1), (142, .getfield 9, 3), (145, .lstore 6, 2), (147, .lload 6, 2), (149, .lconst 0, 1), (150, .lcmp, 1), (151, .ifCond .eq 30, 3), (154, .lload 4, 2), (156, .aload_n 0, 1)]
noncomputable def xi_162_6 : XIs := [(157, .getfield 18, 3), (160, .lload 6, 2), (162, .invokestatic 95, 3), (165, .laload, 1), (166, .lor, 1), (167, .lstore 4, 2), (169, .lload 6, 2), (171, .lload 6, 2), (173, .lconst 1, 1), (174, .lsub, 1), (175, .land, 1), (176, .lstore 6, 2), (178, .goto (-31), 3), (181, .aload_n 0, 1), (182, .lload 4, 2), (184, .putfield 9, 3)]
noncomputable def xi_162_7 : XIs := [(187, .return_, 1)]
set_option maxRecDepth 100000 in
theorem xi_w162 : xi_ok cX7_close (xi_162_0 ++ (xi_162_1 ++ (xi_162_2 ++ (xi_162_3 ++ (xi_162_4 ++ (xi_162_5 ++ (xi_162_6 ++ (xi_162_7)))))))) = true := dl_all _ _ (by decide +kernel)
theorem xi_ok162_0 : xi_ok cX7_close xi_162_0 = true := (xi_ap xi_w162).1
theorem xi_r162_1 : xi_ok cX7_close (xi_162_1 ++ (xi_162_2 ++ (xi_162_3 ++ (xi_162_4 ++ (xi_162_5 ++ (xi_162_6 ++ (xi_162_7))))))) = true := (xi_ap xi_w162).2
theorem xi_ok162_1 : xi_ok cX7_close xi_162_1 = true := (xi_ap xi_r162_1).1
theorem xi_r162_2 : xi_ok cX7_close (xi_162_2 ++ (xi_162_3 ++ (xi_162_4 ++ (xi_162_5 ++ (xi_162_6 ++ (xi_162_7)))))) = true := (xi_ap xi_r162_1).2
theorem xi_ok162_2 : xi_ok cX7_close xi_162_2 = true := (xi_ap xi_r162_2).1
theorem xi_r162_3 : xi_ok cX7_close (xi_162_3 ++ (xi_162_4 ++ (xi_162_5 ++ (xi_162_6 ++ (xi_162_7))))) = true := (xi_ap xi_r162_2).2
theorem xi_ok162_3 : xi_ok cX7_close xi_162_3 = true := (xi_ap xi_r162_3).1
theorem xi_r162_4 : xi_ok cX7_close (xi_162_4 ++ (xi_162_5 ++ (xi_162_6 ++ (xi_162_7)))) = true := (xi_ap xi_r162_3).2
theorem xi_ok162_4 : xi_ok cX7_close xi_162_4 = true := (xi_ap xi_r162_4).1
theorem xi_r162_5 : xi_ok cX7_close (xi_162_5 ++ (xi_162_6 ++ (xi_162_7))) = true := (xi_ap xi_r162_4).2
theorem xi_ok162_5 : xi_ok cX7_close xi_162_5 = true := (xi_ap xi_r162_5).1
theorem xi_r162_6 : xi_ok cX7_close (xi_162_6 ++ (xi_162_7)) = true := (xi_ap xi_r162_5).2
theorem xi_ok162_6 : xi_ok cX7_close xi_162_6 = true := (xi_ap xi_r162_6).1
theorem xi_r162_7 : xi_ok cX7_close (xi_162_7) = true := (xi_ap xi_r162_6).2
theorem xi_ok162_7 : xi_ok cX7_close xi_162_7 = true := xi_r162_7
noncomputable def xi_162 (pc : Nat) : XIs := cond (Nat.blt pc 101) (cond (Nat.blt pc 46) (cond (Nat.blt pc 22) (xi_162_0) (xi_162_1)) (cond (Nat.blt pc 68) (xi_162_2) (xi_162_3))) (cond (Nat.blt pc 157) (cond (Nat.blt pc 129) (xi_162_4) (xi_162_5)) (cond (Nat.blt pc 187) (xi_162_6) (xi_162_7)))
theorem xi_ok162 (pc : Nat) : xi_ok cX7_close (xi_162 pc) = true := xi_c (xi_c (xi_c (xi_ok162_0) (xi_ok162_1)) (xi_c (xi_ok162_2) (xi_ok162_3))) (xi_c (xi_c (xi_ok162_4) (xi_ok162_5)) (xi_c (xi_ok162_6) (xi_ok162_7)))
noncomputable def xi_163_0 : XIs := [(0, .aload_n 1, 1), (1, .invokevirtual 99, 3), (4, .aload_n 0, 1), (5, .getfield 32, 3), (8, .lconst 0, 1), (9, .invokestatic 74, 3), (12, .aload_n 0, 1), (13, .getfield 38, 3), (16, .lconst 0, 1), (17, .invokestatic 74, 3), (20, .aload_n 0, 1), (21, .getfield 32, 3), (24, .iload_n 2, 1), (25, .aload_n 0, 1), (26, .getfield 9, 3), (29, .lastore, 1)]
noncomputable def xi_163_1 : XIs := [(30, .aload_n 0, 1), (31, .getfield 38, 3), (34, .iload_n 2, 1), (35, .aload_n 0, 1), (36, .getfield 9, 3), (39, .lastore, 1), (40, .iconst 0, 1), (41, .istore 4, 2), (43, .iload 4, 2), (45, .sipush 1952, 3), (48, .if_icmp .gt 38, 3), (51, .aload_n 0, 1), (52, .getfield 38, 3), (55, .iload_n 3, 1), (56, .laload, 1), (57, .aload_n 0, 1)]
noncomputable def xi_163_2 : XIs := [(58, .getfield 15, 3), (61, .land, 1), (62, .lconst 0, 1), (63, .lcmp, 1), (64, .ifCond .eq 6, 3), (67, .iload 4, 2), (69, .ireturn, 1), (70, .aload_n 0, 1), (71, .aload_n 1, 1), (72, .invokevirtual 104, 3), (75, .ifCond .ne 5, 3), (78, .iconst (-1), 1), (79, .ireturn, 1), (80, .iinc 4 1, 3), (83, .goto (-40), 3), (86, .iconst (-1), 1)]
noncomputable def xi_163_3 : XIs := [(87, .ireturn, 1)]
set_option maxRecDepth 100000 in
theorem xi_w163 : xi_ok cX7_leastFit (xi_163_0 ++ (xi_163_1 ++ (xi_163_2 ++ (xi_163_3)))) = true := dl_all _ _ (by decide +kernel)
theorem xi_ok163_0 : xi_ok cX7_leastFit xi_163_0 = true := (xi_ap xi_w163).1
theorem xi_r163_1 : xi_ok cX7_leastFit (xi_163_1 ++ (xi_163_2 ++ (xi_163_3))) = true := (xi_ap xi_w163).2
theorem xi_ok163_1 : xi_ok cX7_leastFit xi_163_1 = true := (xi_ap xi_r163_1).1
theorem xi_r163_2 : xi_ok cX7_leastFit (xi_163_2 ++ (xi_163_3)) = true := (xi_ap xi_r163_1).2
theorem xi_ok163_2 : xi_ok cX7_leastFit xi_163_2 = true := (xi_ap xi_r163_2).1
theorem xi_r163_3 : xi_ok cX7_leastFit (xi_163_3) = true := (xi_ap xi_r163_2).2
theorem xi_ok163_3 : xi_ok cX7_leastFit xi_163_3 = true := xi_r163_3
noncomputable def xi_163 (pc : Nat) : XIs := cond (Nat.blt pc 58) (cond (Nat.blt pc 30) (xi_163_0) (xi_163_1)) (cond (Nat.blt pc 87) (xi_163_2) (xi_163_3))
theorem xi_ok163 (pc : Nat) : xi_ok cX7_leastFit (xi_163 pc) = true := xi_c (xi_c (xi_ok163_0) (xi_ok163_1)) (xi_c (xi_ok163_2) (xi_ok163_3))
noncomputable def xi_164_0 : XIs := [(0, .iconst 0, 1), (1, .istore_n 2, 1), (2, .aload_n 0, 1), (3, .getfield 35, 3), (6, .lconst 0, 1), (7, .invokestatic 74, 3), (10, .iconst 0, 1), (11, .istore_n 3, 1), (12, .iload_n 3, 1), (13, .aload_n 1, 1), (14, .getfield 108, 3), (17, .if_icmp .ge 141, 3), (20, .aload_n 1, 1), (21, .getfield 111, 3), (24, .iload_n 3, 1), (25, .iaload, 1)]
noncomputable def xi_164_1 : XIs := [(26, .istore 4, 2), (28, .iload 4, 2), (30, .aload_n 1, 1), (31, .getfield 111, 3), (34, .iload_n 3, 1), (35, .iconst 1, 1), (36, .iadd, 1), (37, .iaload, 1), (38, .if_icmp .ge 114, 3), (41, .aload_n 0, 1), (42, .getfield 32, 3), (45, .iload_n 3, 1), (46, .laload, 1), (47, .lconst 0, 1), (48, .lcmp, 1), (49, .ifCond .eq 103, 3)]
noncomputable def xi_164_2 : XIs := [(52, .aload_n 1, 1), (53, .getfield 114, 3), (56, .iload 4, 2), (58, .iaload, 1), (59, .istore 5, 2), (61, .aload_n 1, 1), (62, .getfield 117, 3), (65, .iload 5, 2), (67, .iaload, 1), (68, .istore 6, 2), (70, .aload_n 0, 1), (71, .aload_n 0, 1), (72, .getfield 32, 3), (75, .iload_n 3, 1), (76, .laload, 1), (77, .aload_n 0, 1)]
noncomputable def xi_164_3 : XIs := [(78, .getfield 22, 3), (81, .aload_n 1, 1), (82, .getfield 120, 3), (85, .iload 5, 2), (87, .iaload, 1), (88, .laload, 1), (89, .land, 1), (90, .invokevirtual 123, 3), (93, .aload_n 0, 1), (94, .getfield 38, 3), (97, .iload 6, 2), (99, .laload, 1), (100, .ldc2_w 127, 3), (103, .lxor, 1), (104, .land, 1), (105, .lstore 7, 2)]
noncomputable def xi_164_4 : XIs := [(107, .aload_n 0, 1), (108, .getfield 35, 3), (111, .iload 6, 2), (113, .dup2, 1), (114, .laload, 1), (115, .lload 7, 2), (117, .lor, 1), (118, .lastore, 1), (119, .aload_n 0, 1), (120, .getfield 38, 3), (123, .iload 6, 2), (125, .dup2, 1), (126, .laload, 1), (127, .lload 7, 2), (129, .lor, 1), (130, .lastore, 1)]
noncomputable def xi_164_5 : XIs := [(131, .iload_n 2, 1), (132, .lload 7, 2), (134, .lconst 0, 1), (135, .lcmp, 1), (136, .ifCond .eq 7, 3), (139, .iconst 1, 1), (140, .goto 4, 3), (143, .iconst 0, 1), (144, .ior, 1), (145, .istore_n 2, 1), (146, .iinc 4 1, 3), (149, .goto (-121), 3), (152, .iinc 3 1, 3), (155, .goto (-143), 3), (158, .aload_n 0, 1), (159, .getfield 35, 3)]
noncomputable def xi_164_6 : XIs := [(162, .iconst 0, 1), (163, .aload_n 0, 1), (164, .getfield 32, 3), (167, .iconst 0, 1), (168, .bipush 32, 2), (170, .invokestatic 129, 3), (173, .iload_n 2, 1), (174, .ireturn, 1)]
set_option maxRecDepth 100000 in
theorem xi_w164 : xi_ok cX7_step (xi_164_0 ++ (xi_164_1 ++ (xi_164_2 ++ (xi_164_3 ++ (xi_164_4 ++ (xi_164_5 ++ (xi_164_6))))))) = true := dl_all _ _ (by decide +kernel)
theorem xi_ok164_0 : xi_ok cX7_step xi_164_0 = true := (xi_ap xi_w164).1
theorem xi_r164_1 : xi_ok cX7_step (xi_164_1 ++ (xi_164_2 ++ (xi_164_3 ++ (xi_164_4 ++ (xi_164_5 ++ (xi_164_6)))))) = true := (xi_ap xi_w164).2
theorem xi_ok164_1 : xi_ok cX7_step xi_164_1 = true := (xi_ap xi_r164_1).1
theorem xi_r164_2 : xi_ok cX7_step (xi_164_2 ++ (xi_164_3 ++ (xi_164_4 ++ (xi_164_5 ++ (xi_164_6))))) = true := (xi_ap xi_r164_1).2
theorem xi_ok164_2 : xi_ok cX7_step xi_164_2 = true := (xi_ap xi_r164_2).1
theorem xi_r164_3 : xi_ok cX7_step (xi_164_3 ++ (xi_164_4 ++ (xi_164_5 ++ (xi_164_6)))) = true := (xi_ap xi_r164_2).2
theorem xi_ok164_3 : xi_ok cX7_step xi_164_3 = true := (xi_ap xi_r164_3).1
theorem xi_r164_4 : xi_ok cX7_step (xi_164_4 ++ (xi_164_5 ++ (xi_164_6))) = true := (xi_ap xi_r164_3).2
theorem xi_ok164_4 : xi_ok cX7_step xi_164_4 = true := (xi_ap xi_r164_4).1
theorem xi_r164_5 : xi_ok cX7_step (xi_164_5 ++ (xi_164_6)) = true := (xi_ap xi_r164_4).2
theorem xi_ok164_5 : xi_ok cX7_step xi_164_5 = true := (xi_ap xi_r164_5).1
theorem xi_r164_6 : xi_ok cX7_step (xi_164_6) = true := (xi_ap xi_r164_5).2
theorem xi_ok164_6 : xi_ok cX7_step xi_164_6 = true := xi_r164_6
noncomputable def xi_164 (pc : Nat) : XIs := cond (Nat.blt pc 78) (cond (Nat.blt pc 26) (xi_164_0) (cond (Nat.blt pc 52) (xi_164_1) (xi_164_2))) (cond (Nat.blt pc 131) (cond (Nat.blt pc 107) (xi_164_3) (xi_164_4)) (cond (Nat.blt pc 162) (xi_164_5) (xi_164_6)))
theorem xi_ok164 (pc : Nat) : xi_ok cX7_step (xi_164 pc) = true := xi_c (xi_c (xi_ok164_0) (xi_c (xi_ok164_1) (xi_ok164_2))) (xi_c (xi_c (xi_ok164_3) (xi_ok164_4)) (xi_c (xi_ok164_5) (xi_ok164_6)))
noncomputable def xi_165_0 : XIs := [(0, .lconst 0, 1), (1, .lstore_n 3, 1), (2, .lload_n 1, 1), (3, .lstore 5, 2), (5, .lload 5, 2), (7, .lconst 0, 1), (8, .lcmp, 1), (9, .ifCond .eq 30, 3), (12, .lload_n 3, 1), (13, .aload_n 0, 1), (14, .getfield 18, 3), (17, .lload 5, 2), (19, .invokestatic 95, 3), (22, .iconst 1, 1), (23, .iadd, 1), (24, .laload, 1)]
noncomputable def xi_165_1 : XIs := [(25, .lor, 1), (26, .lstore_n 3, 1), (27, .lload 5, 2), (29, .lload 5, 2), (31, .lconst 1, 1), (32, .lsub, 1), (33, .land, 1), (34, .lstore 5, 2), (36, .goto (-31), 3), (39, .lload_n 3, 1), (40, .lreturn, 1)]
set_option maxRecDepth 100000 in
theorem xi_w165 : xi_ok cX7_behind (xi_165_0 ++ (xi_165_1)) = true := dl_all _ _ (by decide +kernel)
theorem xi_ok165_0 : xi_ok cX7_behind xi_165_0 = true := (xi_ap xi_w165).1
theorem xi_r165_1 : xi_ok cX7_behind (xi_165_1) = true := (xi_ap xi_w165).2
theorem xi_ok165_1 : xi_ok cX7_behind xi_165_1 = true := xi_r165_1
noncomputable def xi_165 (pc : Nat) : XIs := cond (Nat.blt pc 25) (xi_165_0) (xi_165_1)
theorem xi_ok165 (pc : Nat) : xi_ok cX7_behind (xi_165 pc) = true := xi_c (xi_ok165_0) (xi_ok165_1)
noncomputable def xi_166_0 : XIs := [(0, .aload_n 0, 1), (1, .invokespecial 3, 3), (4, .aload_n 0, 1), (5, .sipush 1000, 3), (8, .newarray .char, 2), (10, .putfield 9, 3), (13, .aload_n 0, 1), (14, .iconst (-1), 1), (15, .putfield 15, 3), (18, .aload_n 0, 1), (19, .iconst (-1), 1), (20, .putfield 19, 3), (23, .aload_n 0, 1), (24, .sipush 4608, 3), (27, .newarray .char, 2), (29, .putfield 22, 3)]
noncomputable def xi_166_1 : XIs := [(32, .return_, 1)]
set_option maxRecDepth 100000 in
theorem xi_w166 : xi_ok cX8_init (xi_166_0 ++ (xi_166_1)) = true := dl_all _ _ (by decide +kernel)
theorem xi_ok166_0 : xi_ok cX8_init xi_166_0 = true := (xi_ap xi_w166).1
theorem xi_r166_1 : xi_ok cX8_init (xi_166_1) = true := (xi_ap xi_w166).2
theorem xi_ok166_1 : xi_ok cX8_init xi_166_1 = true := xi_r166_1
noncomputable def xi_166 (pc : Nat) : XIs := cond (Nat.blt pc 32) (xi_166_0) (xi_166_1)
theorem xi_ok166 (pc : Nat) : xi_ok cX8_init (xi_166 pc) = true := xi_c (xi_ok166_0) (xi_ok166_1)
noncomputable def xi_167_0 : XIs := [(0, .aload_n 0, 1), (1, .iconst 0, 1), (2, .putfield 25, 3), (5, .aload_n 0, 1), (6, .iconst (-1), 1), (7, .putfield 15, 3), (10, .aload_n 0, 1), (11, .iconst (-1), 1), (12, .putfield 19, 3), (15, .return_, 1)]
set_option maxRecDepth 100000 in
theorem xi_w167 : xi_ok cX8_begin (xi_167_0) = true := dl_all _ _ (by decide +kernel)
theorem xi_ok167_0 : xi_ok cX8_begin xi_167_0 = true := xi_w167
noncomputable def xi_167 (pc : Nat) : XIs := xi_167_0
theorem xi_ok167 (pc : Nat) : xi_ok cX8_begin (xi_167 pc) = true := xi_ok167_0
noncomputable def xi_168_0 : XIs := [(0, .aload_n 0, 1), (1, .iload_n 1, 1), (2, .putfield 15, 3), (5, .aload_n 0, 1), (6, .iload_n 2, 1), (7, .putfield 19, 3), (10, .iconst 0, 1), (11, .ireturn, 1)]
set_option maxRecDepth 100000 in
theorem xi_w168 : xi_ok cX8_accuse (xi_168_0) = true := dl_all _ _ (by decide +kernel)
theorem xi_ok168_0 : xi_ok cX8_accuse xi_168_0 = true := xi_w168
noncomputable def xi_168 (pc : Nat) : XIs := xi_168_0
theorem xi_ok168 (pc : Nat) : xi_ok cX8_accuse (xi_168 pc) = true := xi_ok168_0
noncomputable def xi_169_0 : XIs := [(0, .aload_n 0, 1), (1, .getfield 28, 3), (4, .iconst 4, 1), (5, .if_icmp .ne 13, 3), (8, .aload_n 0, 1), (9, .iconst 1, 1), (10, .aload_n 0, 1), (11, .getfield 31, 3), (14, .invokevirtual 34, 3), (17, .ireturn, 1), (18, .aload_n 0, 1), (19, .aload_n 0, 1), (20, .getfield 28, 3), (23, .iconst 5, 1), (24, .if_icmp .ne 7, 3), (27, .iload_n 2, 1)]
noncomputable def xi_169_1 : XIs := [(28, .goto 4, 3), (31, .iload_n 1, 1), (32, .aload_n 0, 1), (33, .getfield 31, 3), (36, .invokevirtual 34, 3), (39, .ireturn, 1)]
set_option maxRecDepth 100000 in
theorem xi_w169 : xi_ok cX8_refuse (xi_169_0 ++ (xi_169_1)) = true := dl_all _ _ (by decide +kernel)
theorem xi_ok169_0 : xi_ok cX8_refuse xi_169_0 = true := (xi_ap xi_w169).1
theorem xi_r169_1 : xi_ok cX8_refuse (xi_169_1) = true := (xi_ap xi_w169).2
theorem xi_ok169_1 : xi_ok cX8_refuse xi_169_1 = true := xi_r169_1
noncomputable def xi_169 (pc : Nat) : XIs := cond (Nat.blt pc 28) (xi_169_0) (xi_169_1)
theorem xi_ok169 (pc : Nat) : xi_ok cX8_refuse (xi_169 pc) = true := xi_c (xi_ok169_0) (xi_ok169_1)
noncomputable def xi_170_0 : XIs := [(0, .aload_n 0, 1), (1, .getfield 28, 3), (4, .iconst 3, 1), (5, .if_icmp .ne 15, 3), (8, .aload_n 0, 1), (9, .getfield 38, 3), (12, .iload_n 1, 1), (13, .if_icmp .ne 7, 3), (16, .iconst 1, 1), (17, .goto 4, 3), (20, .iconst 0, 1), (21, .ireturn, 1)]
set_option maxRecDepth 100000 in
theorem xi_w170 : xi_ok cX8_isAt (xi_170_0) = true := dl_all _ _ (by decide +kernel)
theorem xi_ok170_0 : xi_ok cX8_isAt xi_170_0 = true := xi_w170
noncomputable def xi_170 (pc : Nat) : XIs := xi_170_0
theorem xi_ok170 (pc : Nat) : xi_ok cX8_isAt (xi_170 pc) = true := xi_ok170_0
noncomputable def xi_171_0 : XIs := [(0, .aload_n 0, 1), (1, .getfield 25, 3), (4, .aload_n 0, 1), (5, .getfield 41, 3), (8, .if_icmp .ge 30, 3), (11, .aload_n 0, 1), (12, .getfield 9, 3), (15, .aload_n 0, 1), (16, .getfield 25, 3), (19, .caload, 1), (20, .bipush 32, 2), (22, .if_icmp .ne 16, 3), (25, .aload_n 0, 1), (26, .dup, 1), (27, .getfield 25, 3), (30, .iconst 1, 1)]
noncomputable def xi_171_1 : XIs := [(31, .iadd, 1), (32, .putfield 25, 3), (35, .goto (-35), 3), (38, .aload_n 0, 1), (39, .aload_n 0, 1), (40, .getfield 25, 3), (43, .putfield 31, 3), (46, .aload_n 0, 1), (47, .iconst 0, 1), (48, .putfield 28, 3), (51, .aload_n 0, 1), (52, .getfield 25, 3), (55, .aload_n 0, 1), (56, .getfield 41, 3), (59, .if_icmp .lt 4, 3), (62, .return_, 1)]
noncomputable def xi_171_2 : XIs := [(63, .aload_n 0, 1), (64, .getfield 9, 3), (67, .aload_n 0, 1), (68, .getfield 25, 3), (71, .caload, 1), (72, .istore_n 3, 1), (73, .iload_n 2, 1), (74, .ifCond .eq 13, 3), (77, .iload_n 3, 1), (78, .bipush 45, 2), (80, .if_icmp .ne 7, 3), (83, .iconst 1, 1), (84, .goto 4, 3), (87, .iconst 0, 1), (88, .istore 4, 2), (90, .aload_n 0, 1)]
noncomputable def xi_171_3 : XIs := [(91, .iload 4, 2), (93, .ifCond .eq 12, 3), (96, .aload_n 0, 1), (97, .getfield 25, 3), (100, .iconst 1, 1), (101, .iadd, 1), (102, .goto 7, 3), (105, .aload_n 0, 1), (106, .getfield 25, 3), (109, .invokevirtual 44, 3), (112, .ifCond .eq 11, 3), (115, .aload_n 0, 1), (116, .iload 4, 2), (118, .iload_n 1, 1), (119, .invokevirtual 48, 3), (122, .return_, 1)]
noncomputable def xi_171_4 : XIs := [(123, .aload_n 0, 1), (124, .dup, 1), (125, .getfield 25, 3), (128, .iconst 1, 1), (129, .iadd, 1), (130, .putfield 25, 3), (133, .iload_n 3, 1), (134, .bipush 97, 2), (136, .if_icmp .lt 23, 3), (139, .iload_n 3, 1), (140, .bipush 122, 2), (142, .if_icmp .gt 17, 3), (145, .aload_n 0, 1), (146, .iconst 1, 1), (147, .putfield 28, 3), (150, .aload_n 0, 1)]
noncomputable def xi_171_5 : XIs := [(151, .iload_n 3, 1), (152, .bipush 97, 2), (154, .isub, 1), (155, .putfield 38, 3), (158, .return_, 1), (159, .aload_n 0, 1), (160, .iload_n 3, 1), (161, .iload_n 2, 1), (162, .invokestatic 52, 3), (165, .ifCond .eq 7, 3), (168, .iconst 3, 1), (169, .goto 4, 3), (172, .iconst 4, 1), (173, .putfield 28, 3), (176, .aload_n 0, 1), (177, .iload_n 3, 1)]
noncomputable def xi_171_6 : XIs := [(178, .putfield 38, 3), (181, .return_, 1)]
set_option maxRecDepth 100000 in
theorem xi_w171 : xi_ok cX8_next (xi_171_0 ++ (xi_171_1 ++ (xi_171_2 ++ (xi_171_3 ++ (xi_171_4 ++ (xi_171_5 ++ (xi_171_6))))))) = true := dl_all _ _ (by decide +kernel)
theorem xi_ok171_0 : xi_ok cX8_next xi_171_0 = true := (xi_ap xi_w171).1
theorem xi_r171_1 : xi_ok cX8_next (xi_171_1 ++ (xi_171_2 ++ (xi_171_3 ++ (xi_171_4 ++ (xi_171_5 ++ (xi_171_6)))))) = true := (xi_ap xi_w171).2
theorem xi_ok171_1 : xi_ok cX8_next xi_171_1 = true := (xi_ap xi_r171_1).1
theorem xi_r171_2 : xi_ok cX8_next (xi_171_2 ++ (xi_171_3 ++ (xi_171_4 ++ (xi_171_5 ++ (xi_171_6))))) = true := (xi_ap xi_r171_1).2
theorem xi_ok171_2 : xi_ok cX8_next xi_171_2 = true := (xi_ap xi_r171_2).1
theorem xi_r171_3 : xi_ok cX8_next (xi_171_3 ++ (xi_171_4 ++ (xi_171_5 ++ (xi_171_6)))) = true := (xi_ap xi_r171_2).2
theorem xi_ok171_3 : xi_ok cX8_next xi_171_3 = true := (xi_ap xi_r171_3).1
theorem xi_r171_4 : xi_ok cX8_next (xi_171_4 ++ (xi_171_5 ++ (xi_171_6))) = true := (xi_ap xi_r171_3).2
theorem xi_ok171_4 : xi_ok cX8_next xi_171_4 = true := (xi_ap xi_r171_4).1
theorem xi_r171_5 : xi_ok cX8_next (xi_171_5 ++ (xi_171_6)) = true := (xi_ap xi_r171_4).2
theorem xi_ok171_5 : xi_ok cX8_next xi_171_5 = true := (xi_ap xi_r171_5).1
theorem xi_r171_6 : xi_ok cX8_next (xi_171_6) = true := (xi_ap xi_r171_5).2
theorem xi_ok171_6 : xi_ok cX8_next xi_171_6 = true := xi_r171_6
noncomputable def xi_171 (pc : Nat) : XIs := cond (Nat.blt pc 91) (cond (Nat.blt pc 31) (xi_171_0) (cond (Nat.blt pc 63) (xi_171_1) (xi_171_2))) (cond (Nat.blt pc 151) (cond (Nat.blt pc 123) (xi_171_3) (xi_171_4)) (cond (Nat.blt pc 178) (xi_171_5) (xi_171_6)))
theorem xi_ok171 (pc : Nat) : xi_ok cX8_next (xi_171 pc) = true := xi_c (xi_c (xi_ok171_0) (xi_c (xi_ok171_1) (xi_ok171_2))) (xi_c (xi_c (xi_ok171_3) (xi_ok171_4)) (xi_c (xi_ok171_5) (xi_ok171_6)))
noncomputable def xi_172_0 : XIs := [(0, .iload_n 1, 1), (1, .aload_n 0, 1), (2, .getfield 41, 3), (5, .if_icmp .ge 29, 3), (8, .aload_n 0, 1), (9, .getfield 9, 3), (12, .iload_n 1, 1), (13, .caload, 1), (14, .bipush 48, 2), (16, .if_icmp .lt 18, 3), (19, .aload_n 0, 1), (20, .getfield 9, 3), (23, .iload_n 1, 1), (24, .caload, 1), (25, .bipush 57, 2), (27, .if_icmp .gt 7, 3)]
noncomputable def xi_172_1 : XIs := [(30, .iconst 1, 1), (31, .goto 4, 3), (34, .iconst 0, 1), (35, .ireturn, 1)]
set_option maxRecDepth 100000 in
theorem xi_w172 : xi_ok cX8_isDigit (xi_172_0 ++ (xi_172_1)) = true := dl_all _ _ (by decide +kernel)
theorem xi_ok172_0 : xi_ok cX8_isDigit xi_172_0 = true := (xi_ap xi_w172).1
theorem xi_r172_1 : xi_ok cX8_isDigit (xi_172_1) = true := (xi_ap xi_w172).2
theorem xi_ok172_1 : xi_ok cX8_isDigit xi_172_1 = true := xi_r172_1
noncomputable def xi_172 (pc : Nat) : XIs := cond (Nat.blt pc 30) (xi_172_0) (xi_172_1)
theorem xi_ok172 (pc : Nat) : xi_ok cX8_isDigit (xi_172 pc) = true := xi_c (xi_ok172_0) (xi_ok172_1)
noncomputable def xi_173_0 : XIs := [(0, .iconst 0, 1), (1, .istore_n 3, 1), (2, .iconst 0, 1), (3, .istore 4, 2), (5, .aload_n 0, 1), (6, .iload_n 1, 1), (7, .ifCond .eq 12, 3), (10, .aload_n 0, 1), (11, .getfield 25, 3), (14, .iconst 1, 1), (15, .iadd, 1), (16, .goto 7, 3), (19, .aload_n 0, 1), (20, .getfield 25, 3), (23, .putfield 25, 3), (26, .aload_n 0, 1)]
noncomputable def xi_173_1 : XIs := [(27, .getfield 25, 3), (30, .aload_n 0, 1), (31, .getfield 41, 3), (34, .if_icmp .ge 55, 3), (37, .aload_n 0, 1), (38, .aload_n 0, 1), (39, .getfield 25, 3), (42, .invokevirtual 44, 3), (45, .ifCond .eq 44, 3), (48, .iinc 3 1, 3), (51, .iload_n 3, 1), (52, .iload_n 2, 1), (53, .if_icmp .gt 23, 3), (56, .iload 4, 2), (58, .bipush 10, 2), (60, .imul, 1)]
noncomputable def xi_173_2 : XIs := [(61, .aload_n 0, 1), (62, .getfield 9, 3), (65, .aload_n 0, 1), (66, .getfield 25, 3), (69, .caload, 1), (70, .bipush 48, 2), (72, .isub, 1), (73, .iadd, 1), (74, .istore 4, 2), (76, .aload_n 0, 1), (77, .dup, 1), (78, .getfield 25, 3), (81, .iconst 1, 1), (82, .iadd, 1), (83, .putfield 25, 3), (86, .goto (-60), 3)]
noncomputable def xi_173_3 : XIs := [(89, .aload_n 0, 1), (90, .iload_n 1, 1), (91, .ifCond .eq 9, 3), (94, .iload 4, 2), (96, .ineg, 1), (97, .goto 5, 3), (100, .iload 4, 2), (102, .putfield 38, 3), (105, .aload_n 0, 1), (106, .iload_n 3, 1), (107, .iload_n 2, 1), (108, .if_icmp .le 7, 3), (111, .iconst 5, 1), (112, .goto 4, 3), (115, .iconst 2, 1), (116, .putfield 28, 3)]
noncomputable def xi_173_4 : XIs := [(119, .return_, 1)]
set_option maxRecDepth 100000 in
theorem xi_w173 : xi_ok cX8_readNumber (xi_173_0 ++ (xi_173_1 ++ (xi_173_2 ++ (xi_173_3 ++ (xi_173_4))))) = true := dl_all _ _ (by decide +kernel)
theorem xi_ok173_0 : xi_ok cX8_readNumber xi_173_0 = true := (xi_ap xi_w173).1
theorem xi_r173_1 : xi_ok cX8_readNumber (xi_173_1 ++ (xi_173_2 ++ (xi_173_3 ++ (xi_173_4)))) = true := (xi_ap xi_w173).2
theorem xi_ok173_1 : xi_ok cX8_readNumber xi_173_1 = true := (xi_ap xi_r173_1).1
theorem xi_r173_2 : xi_ok cX8_readNumber (xi_173_2 ++ (xi_173_3 ++ (xi_173_4))) = true := (xi_ap xi_r173_1).2
theorem xi_ok173_2 : xi_ok cX8_readNumber xi_173_2 = true := (xi_ap xi_r173_2).1
theorem xi_r173_3 : xi_ok cX8_readNumber (xi_173_3 ++ (xi_173_4)) = true := (xi_ap xi_r173_2).2
theorem xi_ok173_3 : xi_ok cX8_readNumber xi_173_3 = true := (xi_ap xi_r173_3).1
theorem xi_r173_4 : xi_ok cX8_readNumber (xi_173_4) = true := (xi_ap xi_r173_3).2
theorem xi_ok173_4 : xi_ok cX8_readNumber xi_173_4 = true := xi_r173_4
noncomputable def xi_173 (pc : Nat) : XIs := cond (Nat.blt pc 61) (cond (Nat.blt pc 27) (xi_173_0) (xi_173_1)) (cond (Nat.blt pc 89) (xi_173_2) (cond (Nat.blt pc 119) (xi_173_3) (xi_173_4)))
theorem xi_ok173 (pc : Nat) : xi_ok cX8_readNumber (xi_173 pc) = true := xi_c (xi_c (xi_ok173_0) (xi_ok173_1)) (xi_c (xi_ok173_2) (xi_c (xi_ok173_3) (xi_ok173_4)))
noncomputable def xi_174_0 : XIs := [(0, .iload_n 0, 1), (1, .bipush 59, 2), (3, .if_icmp .eq 16, 3), (6, .iload_n 1, 1), (7, .ifCond .ne 16, 3), (10, .ldc 56, 2), (12, .iload_n 0, 1), (13, .invokevirtual 58, 3), (16, .ifCond .lt 7, 3), (19, .iconst 1, 1), (20, .goto 4, 3), (23, .iconst 0, 1), (24, .ireturn, 1)]
set_option maxRecDepth 100000 in
theorem xi_w174 : xi_ok cX8_isSign (xi_174_0) = true := dl_all _ _ (by decide +kernel)
theorem xi_ok174_0 : xi_ok cX8_isSign xi_174_0 = true := xi_w174
noncomputable def xi_174 (pc : Nat) : XIs := xi_174_0
theorem xi_ok174 (pc : Nat) : xi_ok cX8_isSign (xi_174 pc) = true := xi_ok174_0
noncomputable def xi_175_0 : XIs := [(0, .aload_n 0, 1), (1, .iconst 0, 1), (2, .putfield 64, 3), (5, .iconst 0, 1), (6, .istore_n 2, 1), (7, .iload_n 2, 1), (8, .aload_n 1, 1), (9, .getfield 67, 3), (12, .if_icmp .ge 25, 3), (15, .aload_n 0, 1), (16, .bipush 110, 2), (18, .invokevirtual 72, 3), (21, .aload_n 0, 1), (22, .aload_n 1, 1), (23, .getfield 76, 3), (26, .iload_n 2, 1)]
noncomputable def xi_175_1 : XIs := [(27, .iaload, 1), (28, .invokevirtual 80, 3), (31, .iinc 2 1, 3), (34, .goto (-27), 3), (37, .iconst 0, 1), (38, .istore_n 2, 1), (39, .iload_n 2, 1), (40, .aload_n 1, 1), (41, .getfield 84, 3), (44, .if_icmp .ge 75, 3), (47, .aload_n 1, 1), (48, .getfield 87, 3), (51, .iload_n 2, 1), (52, .iaload, 1), (53, .iconst (-1), 1), (54, .if_icmp .eq 59, 3)]
noncomputable def xi_175_2 : XIs := [(57, .aload_n 0, 1), (58, .bipush 97, 2), (60, .invokevirtual 72, 3), (63, .aload_n 0, 1), (64, .aload_n 1, 1), (65, .getfield 87, 3), (68, .iload_n 2, 1), (69, .iaload, 1), (70, .invokevirtual 90, 3), (73, .aload_n 0, 1), (74, .aload_n 1, 1), (75, .getfield 93, 3), (78, .iload_n 2, 1), (79, .iaload, 1), (80, .invokevirtual 90, 3), (83, .aload_n 0, 1)]
noncomputable def xi_175_3 : XIs := [(84, .aload_n 1, 1), (85, .getfield 96, 3), (88, .iload_n 2, 1), (89, .iaload, 1), (90, .invokevirtual 90, 3), (93, .aload_n 0, 1), (94, .aload_n 1, 1), (95, .getfield 99, 3), (98, .iload_n 2, 1), (99, .iaload, 1), (100, .invokevirtual 90, 3), (103, .aload_n 0, 1), (104, .aload_n 1, 1), (105, .getfield 102, 3), (108, .iload_n 2, 1), (109, .iaload, 1)]
noncomputable def xi_175_4 : XIs := [(110, .invokevirtual 80, 3), (113, .iinc 2 1, 3), (116, .goto (-77), 3), (119, .aload_n 0, 1), (120, .getfield 64, 3), (123, .ireturn, 1)]
set_option maxRecDepth 100000 in
theorem xi_w175 : xi_ok cX8_write (xi_175_0 ++ (xi_175_1 ++ (xi_175_2 ++ (xi_175_3 ++ (xi_175_4))))) = true := dl_all _ _ (by decide +kernel)
theorem xi_ok175_0 : xi_ok cX8_write xi_175_0 = true := (xi_ap xi_w175).1
theorem xi_r175_1 : xi_ok cX8_write (xi_175_1 ++ (xi_175_2 ++ (xi_175_3 ++ (xi_175_4)))) = true := (xi_ap xi_w175).2
theorem xi_ok175_1 : xi_ok cX8_write xi_175_1 = true := (xi_ap xi_r175_1).1
theorem xi_r175_2 : xi_ok cX8_write (xi_175_2 ++ (xi_175_3 ++ (xi_175_4))) = true := (xi_ap xi_r175_1).2
theorem xi_ok175_2 : xi_ok cX8_write xi_175_2 = true := (xi_ap xi_r175_2).1
theorem xi_r175_3 : xi_ok cX8_write (xi_175_3 ++ (xi_175_4)) = true := (xi_ap xi_r175_2).2
theorem xi_ok175_3 : xi_ok cX8_write xi_175_3 = true := (xi_ap xi_r175_3).1
theorem xi_r175_4 : xi_ok cX8_write (xi_175_4) = true := (xi_ap xi_r175_3).2
theorem xi_ok175_4 : xi_ok cX8_write xi_175_4 = true := xi_r175_4
noncomputable def xi_175 (pc : Nat) : XIs := cond (Nat.blt pc 57) (cond (Nat.blt pc 27) (xi_175_0) (xi_175_1)) (cond (Nat.blt pc 84) (xi_175_2) (cond (Nat.blt pc 110) (xi_175_3) (xi_175_4)))
theorem xi_ok175 (pc : Nat) : xi_ok cX8_write (xi_175 pc) = true := xi_c (xi_c (xi_ok175_0) (xi_ok175_1)) (xi_c (xi_ok175_2) (xi_c (xi_ok175_3) (xi_ok175_4)))
noncomputable def xi_176_0 : XIs := [(0, .aload_n 0, 1), (1, .bipush 32, 2), (3, .invokevirtual 72, 3), (6, .aload_n 0, 1), (7, .bipush 97, 2), (9, .iload_n 1, 1), (10, .iadd, 1), (11, .i2c, 1), (12, .invokevirtual 72, 3), (15, .aload_n 0, 1), (16, .bipush 59, 2), (18, .invokevirtual 72, 3), (21, .return_, 1)]
set_option maxRecDepth 100000 in
theorem xi_w176 : xi_ok cX8_endCommand (xi_176_0) = true := dl_all _ _ (by decide +kernel)
theorem xi_ok176_0 : xi_ok cX8_endCommand xi_176_0 = true := xi_w176
noncomputable def xi_176 (pc : Nat) : XIs := xi_176_0
theorem xi_ok176 (pc : Nat) : xi_ok cX8_endCommand (xi_176 pc) = true := xi_ok176_0
noncomputable def xi_177_0 : XIs := [(0, .aload_n 0, 1), (1, .getfield 64, 3), (4, .aload_n 0, 1), (5, .getfield 22, 3), (8, .arraylength, 1), (9, .if_icmp .ge 23, 3), (12, .aload_n 0, 1), (13, .getfield 22, 3), (16, .aload_n 0, 1), (17, .getfield 64, 3), (20, .iload_n 1, 1), (21, .castore, 1), (22, .aload_n 0, 1), (23, .dup, 1), (24, .getfield 64, 3), (27, .iconst 1, 1)]
noncomputable def xi_177_1 : XIs := [(28, .iadd, 1), (29, .putfield 64, 3), (32, .return_, 1)]
set_option maxRecDepth 100000 in
theorem xi_w177 : xi_ok cX8_put (xi_177_0 ++ (xi_177_1)) = true := dl_all _ _ (by decide +kernel)
theorem xi_ok177_0 : xi_ok cX8_put xi_177_0 = true := (xi_ap xi_w177).1
theorem xi_r177_1 : xi_ok cX8_put (xi_177_1) = true := (xi_ap xi_w177).2
theorem xi_ok177_1 : xi_ok cX8_put xi_177_1 = true := xi_r177_1
noncomputable def xi_177 (pc : Nat) : XIs := cond (Nat.blt pc 28) (xi_177_0) (xi_177_1)
theorem xi_ok177 (pc : Nat) : xi_ok cX8_put (xi_177 pc) = true := xi_c (xi_ok177_0) (xi_ok177_1)
noncomputable def xi_178_0 : XIs := [(0, .aload_n 0, 1), (1, .bipush 32, 2), (3, .invokevirtual 72, 3), (6, .iload_n 1, 1), (7, .ifCond .ge 9, 3), (10, .aload_n 0, 1), (11, .bipush 45, 2), (13, .invokevirtual 72, 3), (16, .iload_n 1, 1), (17, .invokestatic 105, 3), (20, .istore_n 2, 1), (21, .iconst 1, 1), (22, .istore_n 3, 1), (23, .iconst 0, 1), (24, .istore 4, 2), (26, .iload 4, 2)]
noncomputable def xi_178_1 : XIs := [(28, .bipush 7, 2), (30, .if_icmp .ge 22, 3), (33, .iload_n 2, 1), (34, .iload_n 3, 1), (35, .idiv, 1), (36, .bipush 10, 2), (38, .if_icmp .lt 14, 3), (41, .iload_n 3, 1), (42, .bipush 10, 2), (44, .imul, 1), (45, .istore_n 3, 1), (46, .iinc 4 1, 3), (49, .goto (-23), 3), (52, .iload_n 3, 1), (53, .ifCond .le 25, 3), (56, .aload_n 0, 1)]
noncomputable def xi_178_2 : XIs := [(57, .bipush 48, 2), (59, .iload_n 2, 1), (60, .iload_n 3, 1), (61, .idiv, 1), (62, .bipush 10, 2), (64, .irem, 1), (65, .iadd, 1), (66, .i2c, 1), (67, .invokevirtual 72, 3), (70, .iload_n 3, 1), (71, .bipush 10, 2), (73, .idiv, 1), (74, .istore_n 3, 1), (75, .goto (-23), 3), (78, .return_, 1)]
set_option maxRecDepth 100000 in
theorem xi_w178 : xi_ok cX8_putNumber (xi_178_0 ++ (xi_178_1 ++ (xi_178_2))) = true := dl_all _ _ (by decide +kernel)
theorem xi_ok178_0 : xi_ok cX8_putNumber xi_178_0 = true := (xi_ap xi_w178).1
theorem xi_r178_1 : xi_ok cX8_putNumber (xi_178_1 ++ (xi_178_2)) = true := (xi_ap xi_w178).2
theorem xi_ok178_1 : xi_ok cX8_putNumber xi_178_1 = true := (xi_ap xi_r178_1).1
theorem xi_r178_2 : xi_ok cX8_putNumber (xi_178_2) = true := (xi_ap xi_r178_1).2
theorem xi_ok178_2 : xi_ok cX8_putNumber xi_178_2 = true := xi_r178_2
noncomputable def xi_178 (pc : Nat) : XIs := cond (Nat.blt pc 28) (xi_178_0) (cond (Nat.blt pc 57) (xi_178_1) (xi_178_2))
theorem xi_ok178 (pc : Nat) : xi_ok cX8_putNumber (xi_178 pc) = true := xi_c (xi_ok178_0) (xi_c (xi_ok178_1) (xi_ok178_2))
noncomputable def xi_179_0 : XIs := [(0, .aload_n 0, 1), (1, .invokespecial 3, 3), (4, .aload_n 0, 1), (5, .sipush 160, 3), (8, .newarray .int, 2), (10, .putfield 9, 3), (13, .aload_n 0, 1), (14, .sipush 160, 3), (17, .newarray .int, 2), (19, .putfield 15, 3), (22, .aload_n 0, 1), (23, .sipush 160, 3), (26, .newarray .long, 2), (28, .putfield 18, 3), (31, .aload_n 0, 1), (32, .bipush 32, 2)]
noncomputable def xi_179_1 : XIs := [(34, .newarray .long, 2), (36, .putfield 22, 3), (39, .aload_n 0, 1), (40, .bipush 32, 2), (42, .newarray .int, 2), (44, .putfield 25, 3), (47, .aload_n 0, 1), (48, .bipush 32, 2), (50, .newarray .int, 2), (52, .putfield 28, 3), (55, .aload_n 0, 1), (56, .bipush 32, 2), (58, .newarray .int, 2), (60, .putfield 31, 3), (63, .aload_n 0, 1), (64, .bipush 32, 2)]
noncomputable def xi_179_2 : XIs := [(66, .newarray .int, 2), (68, .putfield 34, 3), (71, .aload_n 0, 1), (72, .iconst (-1), 1), (73, .putfield 37, 3), (76, .aload_n 0, 1), (77, .sipush 1024, 3), (80, .newarray .long, 2), (82, .putfield 41, 3), (85, .return_, 1)]
set_option maxRecDepth 100000 in
theorem xi_w179 : xi_ok cX9_init (xi_179_0 ++ (xi_179_1 ++ (xi_179_2))) = true := dl_all _ _ (by decide +kernel)
theorem xi_ok179_0 : xi_ok cX9_init xi_179_0 = true := (xi_ap xi_w179).1
theorem xi_r179_1 : xi_ok cX9_init (xi_179_1 ++ (xi_179_2)) = true := (xi_ap xi_w179).2
theorem xi_ok179_1 : xi_ok cX9_init xi_179_1 = true := (xi_ap xi_r179_1).1
theorem xi_r179_2 : xi_ok cX9_init (xi_179_2) = true := (xi_ap xi_r179_1).2
theorem xi_ok179_2 : xi_ok cX9_init xi_179_2 = true := xi_r179_2
noncomputable def xi_179 (pc : Nat) : XIs := cond (Nat.blt pc 34) (xi_179_0) (cond (Nat.blt pc 66) (xi_179_1) (xi_179_2))
theorem xi_ok179 (pc : Nat) : xi_ok cX9_init (xi_179 pc) = true := xi_c (xi_ok179_0) (xi_c (xi_ok179_1) (xi_ok179_2))
noncomputable def xi_180_0 : XIs := [(0, .aload_n 0, 1), (1, .aload_n 1, 1), (2, .invokevirtual 44, 3), (5, .lconst 0, 1), (6, .lstore_n 3, 1), (7, .aload_n 1, 1), (8, .getfield 48, 3), (11, .istore 5, 2), (13, .iload_n 2, 1), (14, .istore 6, 2), (16, .iconst 0, 1), (17, .istore 7, 2), (19, .iload 7, 2), (21, .bipush 32, 2), (23, .if_icmp .ge 94, 3), (26, .aload_n 0, 1)]
noncomputable def xi_180_1 : XIs := [(27, .iload 5, 2), (29, .iload 6, 2), (31, .invokevirtual 53, 3), (34, .ifCond .ne 7, 3), (37, .ldc2_w 57, 3), (40, .lreturn, 1), (41, .iconst 0, 1), (42, .istore 8, 2), (44, .iload 8, 2), (46, .iload 5, 2), (48, .if_icmp .ge 19, 3), (51, .lload_n 3, 1), (52, .aload_n 0, 1), (53, .getfield 22, 3), (56, .iload 8, 2), (58, .laload, 1)]
noncomputable def xi_180_2 : XIs := [(59, .ladd, 1), (60, .lstore_n 3, 1), (61, .iinc 8 1, 3), (64, .goto (-20), 3), (67, .aload_n 0, 1), (68, .iload 5, 2), (70, .iload 6, 2), (72, .invokevirtual 59, 3), (75, .istore 8, 2), (77, .iload 8, 2), (79, .ifCond .ne 5, 3), (82, .lload_n 3, 1), (83, .lreturn, 1), (84, .aload_n 0, 1), (85, .iload 5, 2), (87, .iload 8, 2)]
noncomputable def xi_180_3 : XIs := [(89, .invokevirtual 63, 3), (92, .istore 9, 2), (94, .aload_n 0, 1), (95, .invokevirtual 66, 3), (98, .aload_n 0, 1), (99, .getfield 31, 3), (102, .iload 6, 2), (104, .iaload, 1), (105, .istore 6, 2), (107, .iload 9, 2), (109, .istore 5, 2), (111, .iinc 7 1, 3), (114, .goto (-95), 3), (117, .lload_n 3, 1), (118, .lreturn, 1)]
set_option maxRecDepth 100000 in
theorem xi_w180 : xi_ok cX9_leastRooted (xi_180_0 ++ (xi_180_1 ++ (xi_180_2 ++ (xi_180_3)))) = true := dl_all _ _ (by decide +kernel)
theorem xi_ok180_0 : xi_ok cX9_leastRooted xi_180_0 = true := (xi_ap xi_w180).1
theorem xi_r180_1 : xi_ok cX9_leastRooted (xi_180_1 ++ (xi_180_2 ++ (xi_180_3))) = true := (xi_ap xi_w180).2
theorem xi_ok180_1 : xi_ok cX9_leastRooted xi_180_1 = true := (xi_ap xi_r180_1).1
theorem xi_r180_2 : xi_ok cX9_leastRooted (xi_180_2 ++ (xi_180_3)) = true := (xi_ap xi_r180_1).2
theorem xi_ok180_2 : xi_ok cX9_leastRooted xi_180_2 = true := (xi_ap xi_r180_2).1
theorem xi_r180_3 : xi_ok cX9_leastRooted (xi_180_3) = true := (xi_ap xi_r180_2).2
theorem xi_ok180_3 : xi_ok cX9_leastRooted xi_180_3 = true := xi_r180_3
noncomputable def xi_180 (pc : Nat) : XIs := cond (Nat.blt pc 59) (cond (Nat.blt pc 27) (xi_180_0) (xi_180_1)) (cond (Nat.blt pc 89) (xi_180_2) (xi_180_3))
theorem xi_ok180 (pc : Nat) : xi_ok cX9_leastRooted (xi_180 pc) = true := xi_c (xi_c (xi_ok180_0) (xi_ok180_1)) (xi_c (xi_ok180_2) (xi_ok180_3))
noncomputable def xi_181_0 : XIs := [(0, .aload_n 0, 1), (1, .iconst 0, 1), (2, .putfield 69, 3), (5, .iconst 0, 1), (6, .istore_n 2, 1), (7, .iload_n 2, 1), (8, .aload_n 1, 1), (9, .getfield 72, 3), (12, .if_icmp .ge 73, 3), (15, .aload_n 1, 1), (16, .iload_n 2, 1), (17, .invokevirtual 75, 3), (20, .ifCond .eq 59, 3), (23, .aload_n 0, 1), (24, .getfield 9, 3), (27, .aload_n 0, 1)]
noncomputable def xi_181_1 : XIs := [(28, .getfield 69, 3), (31, .aload_n 1, 1), (32, .getfield 79, 3), (35, .iload_n 2, 1), (36, .iaload, 1), (37, .iastore, 1), (38, .aload_n 0, 1), (39, .getfield 15, 3), (42, .aload_n 0, 1), (43, .getfield 69, 3), (46, .aload_n 1, 1), (47, .getfield 82, 3), (50, .iload_n 2, 1), (51, .iaload, 1), (52, .iastore, 1), (53, .aload_n 0, 1)]
noncomputable def xi_181_2 : XIs := [(54, .getfield 18, 3), (57, .aload_n 0, 1), (58, .getfield 69, 3), (61, .aload_n 1, 1), (62, .getfield 85, 3), (65, .iload_n 2, 1), (66, .iaload, 1), (67, .i2l, 1), (68, .lastore, 1), (69, .aload_n 0, 1), (70, .dup, 1), (71, .getfield 69, 3), (74, .iconst 1, 1), (75, .iadd, 1), (76, .putfield 69, 3), (79, .iinc 2 1, 3)]
noncomputable def xi_181_3 : XIs := [(82, .goto (-75), 3), (85, .return_, 1)]
set_option maxRecDepth 100000 in
theorem xi_w181 : xi_ok cX9_copyArcs (xi_181_0 ++ (xi_181_1 ++ (xi_181_2 ++ (xi_181_3)))) = true := dl_all _ _ (by decide +kernel)
theorem xi_ok181_0 : xi_ok cX9_copyArcs xi_181_0 = true := (xi_ap xi_w181).1
theorem xi_r181_1 : xi_ok cX9_copyArcs (xi_181_1 ++ (xi_181_2 ++ (xi_181_3))) = true := (xi_ap xi_w181).2
theorem xi_ok181_1 : xi_ok cX9_copyArcs xi_181_1 = true := (xi_ap xi_r181_1).1
theorem xi_r181_2 : xi_ok cX9_copyArcs (xi_181_2 ++ (xi_181_3)) = true := (xi_ap xi_r181_1).2
theorem xi_ok181_2 : xi_ok cX9_copyArcs xi_181_2 = true := (xi_ap xi_r181_2).1
theorem xi_r181_3 : xi_ok cX9_copyArcs (xi_181_3) = true := (xi_ap xi_r181_2).2
theorem xi_ok181_3 : xi_ok cX9_copyArcs xi_181_3 = true := xi_r181_3
noncomputable def xi_181 (pc : Nat) : XIs := cond (Nat.blt pc 54) (cond (Nat.blt pc 28) (xi_181_0) (xi_181_1)) (cond (Nat.blt pc 82) (xi_181_2) (xi_181_3))
theorem xi_ok181 (pc : Nat) : xi_ok cX9_copyArcs (xi_181 pc) = true := xi_c (xi_c (xi_ok181_0) (xi_ok181_1)) (xi_c (xi_ok181_2) (xi_ok181_3))
noncomputable def xi_182_0 : XIs := [(0, .aload_n 0, 1), (1, .getfield 22, 3), (4, .ldc2_w 88, 3), (7, .invokestatic 90, 3), (10, .iconst 0, 1), (11, .istore_n 3, 1), (12, .iload_n 3, 1), (13, .aload_n 0, 1), (14, .getfield 69, 3), (17, .if_icmp .ge 79, 3), (20, .aload_n 0, 1), (21, .getfield 9, 3), (24, .iload_n 3, 1), (25, .iaload, 1), (26, .aload_n 0, 1), (27, .getfield 15, 3)]
noncomputable def xi_182_1 : XIs := [(30, .iload_n 3, 1), (31, .iaload, 1), (32, .if_icmp .eq 58, 3), (35, .aload_n 0, 1), (36, .getfield 18, 3), (39, .iload_n 3, 1), (40, .laload, 1), (41, .aload_n 0, 1), (42, .getfield 22, 3), (45, .aload_n 0, 1), (46, .getfield 15, 3), (49, .iload_n 3, 1), (50, .iaload, 1), (51, .laload, 1), (52, .lcmp, 1), (53, .ifCond .ge 37, 3)]
noncomputable def xi_182_2 : XIs := [(56, .aload_n 0, 1), (57, .getfield 22, 3), (60, .aload_n 0, 1), (61, .getfield 15, 3), (64, .iload_n 3, 1), (65, .iaload, 1), (66, .aload_n 0, 1), (67, .getfield 18, 3), (70, .iload_n 3, 1), (71, .laload, 1), (72, .lastore, 1), (73, .aload_n 0, 1), (74, .getfield 25, 3), (77, .aload_n 0, 1), (78, .getfield 15, 3), (81, .iload_n 3, 1)]
noncomputable def xi_182_3 : XIs := [(82, .iaload, 1), (83, .aload_n 0, 1), (84, .getfield 9, 3), (87, .iload_n 3, 1), (88, .iaload, 1), (89, .iastore, 1), (90, .iinc 3 1, 3), (93, .goto (-81), 3), (96, .aload_n 0, 1), (97, .getfield 22, 3), (100, .iload_n 2, 1), (101, .lconst 0, 1), (102, .lastore, 1), (103, .iconst 0, 1), (104, .istore_n 3, 1), (105, .iload_n 3, 1)]
noncomputable def xi_182_4 : XIs := [(106, .iload_n 1, 1), (107, .if_icmp .ge 24, 3), (110, .aload_n 0, 1), (111, .getfield 22, 3), (114, .iload_n 3, 1), (115, .laload, 1), (116, .ldc2_w 88, 3), (119, .lcmp, 1), (120, .ifCond .ne 5, 3), (123, .iconst 0, 1), (124, .ireturn, 1), (125, .iinc 3 1, 3), (128, .goto (-23), 3), (131, .iconst 1, 1), (132, .ireturn, 1)]
set_option maxRecDepth 100000 in
theorem xi_w182 : xi_ok cX9_takeCheapest (xi_182_0 ++ (xi_182_1 ++ (xi_182_2 ++ (xi_182_3 ++ (xi_182_4))))) = true := dl_all _ _ (by decide +kernel)
theorem xi_ok182_0 : xi_ok cX9_takeCheapest xi_182_0 = true := (xi_ap xi_w182).1
theorem xi_r182_1 : xi_ok cX9_takeCheapest (xi_182_1 ++ (xi_182_2 ++ (xi_182_3 ++ (xi_182_4)))) = true := (xi_ap xi_w182).2
theorem xi_ok182_1 : xi_ok cX9_takeCheapest xi_182_1 = true := (xi_ap xi_r182_1).1
theorem xi_r182_2 : xi_ok cX9_takeCheapest (xi_182_2 ++ (xi_182_3 ++ (xi_182_4))) = true := (xi_ap xi_r182_1).2
theorem xi_ok182_2 : xi_ok cX9_takeCheapest xi_182_2 = true := (xi_ap xi_r182_2).1
theorem xi_r182_3 : xi_ok cX9_takeCheapest (xi_182_3 ++ (xi_182_4)) = true := (xi_ap xi_r182_2).2
theorem xi_ok182_3 : xi_ok cX9_takeCheapest xi_182_3 = true := (xi_ap xi_r182_3).1
theorem xi_r182_4 : xi_ok cX9_takeCheapest (xi_182_4) = true := (xi_ap xi_r182_3).2
theorem xi_ok182_4 : xi_ok cX9_takeCheapest xi_182_4 = true := xi_r182_4
noncomputable def xi_182 (pc : Nat) : XIs := cond (Nat.blt pc 56) (cond (Nat.blt pc 30) (xi_182_0) (xi_182_1)) (cond (Nat.blt pc 82) (xi_182_2) (cond (Nat.blt pc 106) (xi_182_3) (xi_182_4)))
theorem xi_ok182 (pc : Nat) : xi_ok cX9_takeCheapest (xi_182 pc) = true := xi_c (xi_c (xi_ok182_0) (xi_ok182_1)) (xi_c (xi_ok182_2) (xi_c (xi_ok182_3) (xi_ok182_4)))
noncomputable def xi_183_0 : XIs := [(0, .iconst 0, 1), (1, .istore_n 3, 1), (2, .aload_n 0, 1), (3, .getfield 31, 3), (6, .iconst (-1), 1), (7, .invokestatic 96, 3), (10, .aload_n 0, 1), (11, .getfield 28, 3), (14, .iconst (-1), 1), (15, .invokestatic 96, 3), (18, .iconst 0, 1), (19, .istore 4, 2), (21, .iload 4, 2), (23, .iload_n 1, 1), (24, .if_icmp .ge 138, 3), (27, .iload 4, 2)]
noncomputable def xi_183_1 : XIs := [(29, .istore 5, 2), (31, .iconst 0, 1), (32, .istore 6, 2), (34, .iload 6, 2), (36, .iload_n 1, 1), (37, .if_icmp .gt 44, 3), (40, .iload 5, 2), (42, .iload_n 2, 1), (43, .if_icmp .eq 38, 3), (46, .aload_n 0, 1), (47, .getfield 28, 3), (50, .iload 5, 2), (52, .iaload, 1), (53, .iconst (-1), 1), (54, .if_icmp .ne 27, 3), (57, .aload_n 0, 1)]
noncomputable def xi_183_2 : XIs := [(58, .getfield 28, 3), (61, .iload 5, 2), (63, .iload 4, 2), (65, .iastore, 1), (66, .aload_n 0, 1), (67, .getfield 25, 3), (70, .iload 5, 2), (72, .iaload, 1), (73, .istore 5, 2), (75, .iinc 6 1, 3), (78, .goto (-44), 3), (81, .iload 5, 2), (83, .iload_n 2, 1), (84, .if_icmp .eq 72, 3), (87, .aload_n 0, 1), (88, .getfield 28, 3)]
noncomputable def xi_183_3 : XIs := [(91, .iload 5, 2), (93, .iaload, 1), (94, .iload 4, 2), (96, .if_icmp .ne 60, 3), (99, .aload_n 0, 1), (100, .getfield 31, 3), (103, .iload 5, 2), (105, .iaload, 1), (106, .iconst (-1), 1), (107, .if_icmp .ne 49, 3), (110, .iconst 0, 1), (111, .istore 6, 2), (113, .iload 6, 2), (115, .iload_n 1, 1), (116, .if_icmp .ge 37, 3), (119, .aload_n 0, 1)]
noncomputable def xi_183_4 : XIs := [(120, .getfield 31, 3), (123, .iload 5, 2), (125, .iaload, 1), (126, .iconst (-1), 1), (127, .if_icmp .ne 26, 3), (130, .aload_n 0, 1), (131, .getfield 31, 3), (134, .iload 5, 2), (136, .iload_n 3, 1), (137, .iastore, 1), (138, .aload_n 0, 1), (139, .getfield 25, 3), (142, .iload 5, 2), (144, .iaload, 1), (145, .istore 5, 2), (147, .iinc 6 1, 3)]
noncomputable def xi_183_5 : XIs := [(150, .goto (-37), 3), (153, .iinc 3 1, 3), (156, .iinc 4 1, 3), (159, .goto (-138), 3), (162, .iload_n 3, 1), (163, .ireturn, 1)]
set_option maxRecDepth 100000 in
theorem xi_w183 : xi_ok cX9_nameRings (xi_183_0 ++ (xi_183_1 ++ (xi_183_2 ++ (xi_183_3 ++ (xi_183_4 ++ (xi_183_5)))))) = true := dl_all _ _ (by decide +kernel)
theorem xi_ok183_0 : xi_ok cX9_nameRings xi_183_0 = true := (xi_ap xi_w183).1
theorem xi_r183_1 : xi_ok cX9_nameRings (xi_183_1 ++ (xi_183_2 ++ (xi_183_3 ++ (xi_183_4 ++ (xi_183_5))))) = true := (xi_ap xi_w183).2
theorem xi_ok183_1 : xi_ok cX9_nameRings xi_183_1 = true := (xi_ap xi_r183_1).1
theorem xi_r183_2 : xi_ok cX9_nameRings (xi_183_2 ++ (xi_183_3 ++ (xi_183_4 ++ (xi_183_5)))) = true := (xi_ap xi_r183_1).2
theorem xi_ok183_2 : xi_ok cX9_nameRings xi_183_2 = true := (xi_ap xi_r183_2).1
theorem xi_r183_3 : xi_ok cX9_nameRings (xi_183_3 ++ (xi_183_4 ++ (xi_183_5))) = true := (xi_ap xi_r183_2).2
theorem xi_ok183_3 : xi_ok cX9_nameRings xi_183_3 = true := (xi_ap xi_r183_3).1
theorem xi_r183_4 : xi_ok cX9_nameRings (xi_183_4 ++ (xi_183_5)) = true := (xi_ap xi_r183_3).2
theorem xi_ok183_4 : xi_ok cX9_nameRings xi_183_4 = true := (xi_ap xi_r183_4).1
theorem xi_r183_5 : xi_ok cX9_nameRings (xi_183_5) = true := (xi_ap xi_r183_4).2
theorem xi_ok183_5 : xi_ok cX9_nameRings xi_183_5 = true := xi_r183_5
noncomputable def xi_183 (pc : Nat) : XIs := cond (Nat.blt pc 91) (cond (Nat.blt pc 29) (xi_183_0) (cond (Nat.blt pc 58) (xi_183_1) (xi_183_2))) (cond (Nat.blt pc 120) (xi_183_3) (cond (Nat.blt pc 150) (xi_183_4) (xi_183_5)))
theorem xi_ok183 (pc : Nat) : xi_ok cX9_nameRings (xi_183 pc) = true := xi_c (xi_c (xi_ok183_0) (xi_c (xi_ok183_1) (xi_ok183_2))) (xi_c (xi_ok183_3) (xi_c (xi_ok183_4) (xi_ok183_5)))
noncomputable def xi_184_0 : XIs := [(0, .iload_n 2, 1), (1, .istore_n 3, 1), (2, .iconst 0, 1), (3, .istore 4, 2), (5, .iload 4, 2), (7, .iload_n 1, 1), (8, .if_icmp .ge 31, 3), (11, .aload_n 0, 1), (12, .getfield 31, 3), (15, .iload 4, 2), (17, .iaload, 1), (18, .iconst (-1), 1), (19, .if_icmp .ne 14, 3), (22, .aload_n 0, 1), (23, .getfield 31, 3), (26, .iload 4, 2)]
noncomputable def xi_184_1 : XIs := [(28, .iload_n 3, 1), (29, .iastore, 1), (30, .iinc 3 1, 3), (33, .iinc 4 1, 3), (36, .goto (-31), 3), (39, .iload_n 3, 1), (40, .ireturn, 1)]
set_option maxRecDepth 100000 in
theorem xi_w184 : xi_ok cX9_nameOthers (xi_184_0 ++ (xi_184_1)) = true := dl_all _ _ (by decide +kernel)
theorem xi_ok184_0 : xi_ok cX9_nameOthers xi_184_0 = true := (xi_ap xi_w184).1
theorem xi_r184_1 : xi_ok cX9_nameOthers (xi_184_1) = true := (xi_ap xi_w184).2
theorem xi_ok184_1 : xi_ok cX9_nameOthers xi_184_1 = true := xi_r184_1
noncomputable def xi_184 (pc : Nat) : XIs := cond (Nat.blt pc 28) (xi_184_0) (xi_184_1)
theorem xi_ok184 (pc : Nat) : xi_ok cX9_nameOthers (xi_184 pc) = true := xi_c (xi_ok184_0) (xi_ok184_1)
noncomputable def xi_185_0 : XIs := [(0, .iconst 0, 1), (1, .istore_n 1, 1), (2, .iload_n 1, 1), (3, .aload_n 0, 1), (4, .getfield 69, 3), (7, .if_icmp .ge 67, 3), (10, .aload_n 0, 1), (11, .getfield 15, 3), (14, .iload_n 1, 1), (15, .iaload, 1), (16, .istore_n 2, 1), (17, .aload_n 0, 1), (18, .getfield 9, 3), (21, .iload_n 1, 1), (22, .iaload, 1), (23, .istore_n 3, 1)]
noncomputable def xi_185_1 : XIs := [(24, .iload_n 3, 1), (25, .iload_n 2, 1), (26, .if_icmp .eq 18, 3), (29, .aload_n 0, 1), (30, .getfield 18, 3), (33, .iload_n 1, 1), (34, .dup2, 1), (35, .laload, 1), (36, .aload_n 0, 1), (37, .getfield 22, 3), (40, .iload_n 2, 1), (41, .laload, 1), (42, .lsub, 1), (43, .lastore, 1), (44, .aload_n 0, 1), (45, .getfield 9, 3)]
noncomputable def xi_185_2 : XIs := [(48, .iload_n 1, 1), (49, .aload_n 0, 1), (50, .getfield 31, 3), (53, .iload_n 3, 1), (54, .iaload, 1), (55, .iastore, 1), (56, .aload_n 0, 1), (57, .getfield 15, 3), (60, .iload_n 1, 1), (61, .aload_n 0, 1), (62, .getfield 31, 3), (65, .iload_n 2, 1), (66, .iaload, 1), (67, .iastore, 1), (68, .iinc 1 1, 3), (71, .goto (-69), 3)]
noncomputable def xi_185_3 : XIs := [(74, .return_, 1)]
set_option maxRecDepth 100000 in
theorem xi_w185 : xi_ok cX9_shrinkRings (xi_185_0 ++ (xi_185_1 ++ (xi_185_2 ++ (xi_185_3)))) = true := dl_all _ _ (by decide +kernel)
theorem xi_ok185_0 : xi_ok cX9_shrinkRings xi_185_0 = true := (xi_ap xi_w185).1
theorem xi_r185_1 : xi_ok cX9_shrinkRings (xi_185_1 ++ (xi_185_2 ++ (xi_185_3))) = true := (xi_ap xi_w185).2
theorem xi_ok185_1 : xi_ok cX9_shrinkRings xi_185_1 = true := (xi_ap xi_r185_1).1
theorem xi_r185_2 : xi_ok cX9_shrinkRings (xi_185_2 ++ (xi_185_3)) = true := (xi_ap xi_r185_1).2
theorem xi_ok185_2 : xi_ok cX9_shrinkRings xi_185_2 = true := (xi_ap xi_r185_2).1
theorem xi_r185_3 : xi_ok cX9_shrinkRings (xi_185_3) = true := (xi_ap xi_r185_2).2
theorem xi_ok185_3 : xi_ok cX9_shrinkRings xi_185_3 = true := xi_r185_3
noncomputable def xi_185 (pc : Nat) : XIs := cond (Nat.blt pc 48) (cond (Nat.blt pc 24) (xi_185_0) (xi_185_1)) (cond (Nat.blt pc 74) (xi_185_2) (xi_185_3))
theorem xi_ok185 (pc : Nat) : xi_ok cX9_shrinkRings (xi_185 pc) = true := xi_c (xi_c (xi_ok185_0) (xi_ok185_1)) (xi_c (xi_ok185_2) (xi_ok185_3))
noncomputable def xi_186_0 : XIs := [(0, .aload_n 1, 1), (1, .iload_n 2, 1), (2, .invokevirtual 75, 3), (5, .ifCond .ne 5, 3), (8, .iconst 0, 1), (9, .ireturn, 1), (10, .aload_n 0, 1), (11, .getfield 34, 3), (14, .iconst 0, 1), (15, .invokestatic 96, 3), (18, .iconst 0, 1), (19, .istore_n 3, 1), (20, .iload_n 3, 1), (21, .aload_n 1, 1), (22, .getfield 72, 3), (25, .if_icmp .ge 70, 3)]
noncomputable def xi_186_1 : XIs := [(28, .aload_n 1, 1), (29, .iload_n 3, 1), (30, .invokevirtual 75, 3), (33, .ifCond .eq 56, 3), (36, .aload_n 1, 1), (37, .iload_n 3, 1), (38, .iload_n 2, 1), (39, .invokestatic 99, 3), (42, .ifCond .eq 47, 3), (45, .aload_n 0, 1), (46, .getfield 34, 3), (49, .aload_n 1, 1), (50, .getfield 79, 3), (53, .iload_n 3, 1), (54, .iaload, 1), (55, .dup2, 1)]
noncomputable def xi_186_2 : XIs := [(56, .iaload, 1), (57, .iconst 1, 1), (58, .aload_n 1, 1), (59, .getfield 82, 3), (62, .iload_n 3, 1), (63, .iaload, 1), (64, .ishl, 1), (65, .ior, 1), (66, .iastore, 1), (67, .aload_n 0, 1), (68, .getfield 34, 3), (71, .aload_n 1, 1), (72, .getfield 82, 3), (75, .iload_n 3, 1), (76, .iaload, 1), (77, .dup2, 1)]
noncomputable def xi_186_3 : XIs := [(78, .iaload, 1), (79, .iconst 1, 1), (80, .aload_n 1, 1), (81, .getfield 79, 3), (84, .iload_n 3, 1), (85, .iaload, 1), (86, .ishl, 1), (87, .ior, 1), (88, .iastore, 1), (89, .iinc 3 1, 3), (92, .goto (-72), 3), (95, .aload_n 0, 1), (96, .getfield 34, 3), (99, .iconst 1, 1), (100, .aload_n 1, 1), (101, .getfield 79, 3)]
noncomputable def xi_186_4 : XIs := [(104, .iload_n 2, 1), (105, .iaload, 1), (106, .ishl, 1), (107, .iconst (-1), 1), (108, .invokestatic 103, 3), (111, .aload_n 1, 1), (112, .getfield 82, 3), (115, .iload_n 2, 1), (116, .iaload, 1), (117, .ishr, 1), (118, .iconst 1, 1), (119, .iand, 1), (120, .ifCond .ne 7, 3), (123, .iconst 1, 1), (124, .goto 4, 3), (127, .iconst 0, 1)]
noncomputable def xi_186_5 : XIs := [(128, .ireturn, 1)]
set_option maxRecDepth 100000 in
theorem xi_w186 : xi_ok cX9_isSpanning (xi_186_0 ++ (xi_186_1 ++ (xi_186_2 ++ (xi_186_3 ++ (xi_186_4 ++ (xi_186_5)))))) = true := dl_all _ _ (by decide +kernel)
theorem xi_ok186_0 : xi_ok cX9_isSpanning xi_186_0 = true := (xi_ap xi_w186).1
theorem xi_r186_1 : xi_ok cX9_isSpanning (xi_186_1 ++ (xi_186_2 ++ (xi_186_3 ++ (xi_186_4 ++ (xi_186_5))))) = true := (xi_ap xi_w186).2
theorem xi_ok186_1 : xi_ok cX9_isSpanning xi_186_1 = true := (xi_ap xi_r186_1).1
theorem xi_r186_2 : xi_ok cX9_isSpanning (xi_186_2 ++ (xi_186_3 ++ (xi_186_4 ++ (xi_186_5)))) = true := (xi_ap xi_r186_1).2
theorem xi_ok186_2 : xi_ok cX9_isSpanning xi_186_2 = true := (xi_ap xi_r186_2).1
theorem xi_r186_3 : xi_ok cX9_isSpanning (xi_186_3 ++ (xi_186_4 ++ (xi_186_5))) = true := (xi_ap xi_r186_2).2
theorem xi_ok186_3 : xi_ok cX9_isSpanning xi_186_3 = true := (xi_ap xi_r186_3).1
theorem xi_r186_4 : xi_ok cX9_isSpanning (xi_186_4 ++ (xi_186_5)) = true := (xi_ap xi_r186_3).2
theorem xi_ok186_4 : xi_ok cX9_isSpanning xi_186_4 = true := (xi_ap xi_r186_4).1
theorem xi_r186_5 : xi_ok cX9_isSpanning (xi_186_5) = true := (xi_ap xi_r186_4).2
theorem xi_ok186_5 : xi_ok cX9_isSpanning xi_186_5 = true := xi_r186_5
noncomputable def xi_186 (pc : Nat) : XIs := cond (Nat.blt pc 78) (cond (Nat.blt pc 28) (xi_186_0) (cond (Nat.blt pc 56) (xi_186_1) (xi_186_2))) (cond (Nat.blt pc 104) (xi_186_3) (cond (Nat.blt pc 128) (xi_186_4) (xi_186_5)))
theorem xi_ok186 (pc : Nat) : xi_ok cX9_isSpanning (xi_186 pc) = true := xi_c (xi_c (xi_ok186_0) (xi_c (xi_ok186_1) (xi_ok186_2))) (xi_c (xi_ok186_3) (xi_c (xi_ok186_4) (xi_ok186_5)))
noncomputable def xi_187_0 : XIs := [(0, .aload_n 0, 1), (1, .getfield 85, 3), (4, .iload_n 1, 1), (5, .iaload, 1), (6, .aload_n 0, 1), (7, .getfield 85, 3), (10, .iload_n 2, 1), (11, .iaload, 1), (12, .if_icmp .lt 23, 3), (15, .aload_n 0, 1), (16, .getfield 85, 3), (19, .iload_n 1, 1), (20, .iaload, 1), (21, .aload_n 0, 1), (22, .getfield 85, 3), (25, .iload_n 2, 1)]
noncomputable def xi_187_1 : XIs := [(26, .iaload, 1), (27, .if_icmp .ne 12, 3), (30, .iload_n 1, 1), (31, .iload_n 2, 1), (32, .if_icmp .ge 7, 3), (35, .iconst 1, 1), (36, .goto 4, 3), (39, .iconst 0, 1), (40, .ireturn, 1)]
set_option maxRecDepth 100000 in
theorem xi_w187 : xi_ok cX9_isBefore (xi_187_0 ++ (xi_187_1)) = true := dl_all _ _ (by decide +kernel)
theorem xi_ok187_0 : xi_ok cX9_isBefore xi_187_0 = true := (xi_ap xi_w187).1
theorem xi_r187_1 : xi_ok cX9_isBefore (xi_187_1) = true := (xi_ap xi_w187).2
theorem xi_ok187_1 : xi_ok cX9_isBefore xi_187_1 = true := xi_r187_1
noncomputable def xi_187 (pc : Nat) : XIs := cond (Nat.blt pc 26) (xi_187_0) (xi_187_1)
theorem xi_ok187 (pc : Nat) : xi_ok cX9_isBefore (xi_187 pc) = true := xi_c (xi_ok187_0) (xi_ok187_1)
noncomputable def xi_188_0 : XIs := [(0, .aload_n 0, 1), (1, .getfield 37, 3), (4, .aload_n 1, 1), (5, .getfield 107, 3), (8, .if_icmp .eq 31, 3), (11, .aload_n 0, 1), (12, .aload_n 1, 1), (13, .getfield 107, 3), (16, .putfield 37, 3), (19, .aload_n 0, 1), (20, .aload_n 1, 1), (21, .getfield 48, 3), (24, .ifCond .ne 7, 3), (27, .iconst 0, 1), (28, .goto 8, 3), (31, .aload_n 0, 1)]
noncomputable def xi_188_1 : XIs := [(32, .aload_n 1, 1), (33, .invokevirtual 110, 3), (36, .putfield 114, 3), (39, .aload_n 0, 1), (40, .getfield 114, 3), (43, .ireturn, 1)]
set_option maxRecDepth 100000 in
theorem xi_w188 : xi_ok cX9_countSpanning (xi_188_0 ++ (xi_188_1)) = true := dl_all _ _ (by decide +kernel)
theorem xi_ok188_0 : xi_ok cX9_countSpanning xi_188_0 = true := (xi_ap xi_w188).1
theorem xi_r188_1 : xi_ok cX9_countSpanning (xi_188_1) = true := (xi_ap xi_w188).2
theorem xi_ok188_1 : xi_ok cX9_countSpanning xi_188_1 = true := xi_r188_1
noncomputable def xi_188 (pc : Nat) : XIs := cond (Nat.blt pc 32) (xi_188_0) (xi_188_1)
theorem xi_ok188 (pc : Nat) : xi_ok cX9_countSpanning (xi_188 pc) = true := xi_c (xi_ok188_0) (xi_ok188_1)
noncomputable def xi_189_0 : XIs := [(0, .aload_n 0, 1), (1, .getfield 41, 3), (4, .lconst 0, 1), (5, .invokestatic 90, 3), (8, .iconst 0, 1), (9, .istore_n 2, 1), (10, .iload_n 2, 1), (11, .aload_n 1, 1), (12, .getfield 72, 3), (15, .if_icmp .ge 117, 3), (18, .aload_n 1, 1), (19, .iload_n 2, 1), (20, .invokevirtual 75, 3), (23, .ifCond .eq 103, 3), (26, .aload_n 0, 1), (27, .getfield 41, 3)]
noncomputable def xi_189_1 : XIs := [(30, .aload_n 1, 1), (31, .getfield 79, 3), (34, .iload_n 2, 1), (35, .iaload, 1), (36, .bipush 32, 2), (38, .imul, 1), (39, .aload_n 1, 1), (40, .getfield 79, 3), (43, .iload_n 2, 1), (44, .iaload, 1), (45, .iadd, 1), (46, .dup2, 1), (47, .laload, 1), (48, .lconst 1, 1), (49, .ladd, 1), (50, .lastore, 1)]
noncomputable def xi_189_2 : XIs := [(51, .aload_n 0, 1), (52, .getfield 41, 3), (55, .aload_n 1, 1), (56, .getfield 82, 3), (59, .iload_n 2, 1), (60, .iaload, 1), (61, .bipush 32, 2), (63, .imul, 1), (64, .aload_n 1, 1), (65, .getfield 82, 3), (68, .iload_n 2, 1), (69, .iaload, 1), (70, .iadd, 1), (71, .dup2, 1), (72, .laload, 1), (73, .lconst 1, 1)]
noncomputable def xi_189_3 : XIs := [(74, .ladd, 1), (75, .lastore, 1), (76, .aload_n 0, 1), (77, .getfield 41, 3), (80, .aload_n 1, 1), (81, .getfield 79, 3), (84, .iload_n 2, 1), (85, .iaload, 1), (86, .bipush 32, 2), (88, .imul, 1), (89, .aload_n 1, 1), (90, .getfield 82, 3), (93, .iload_n 2, 1), (94, .iaload, 1), (95, .iadd, 1), (96, .dup2, 1)]
noncomputable def xi_189_4 : XIs := [(97, .laload, 1), (98, .lconst 1, 1), (99, .lsub, 1), (100, .lastore, 1), (101, .aload_n 0, 1), (102, .getfield 41, 3), (105, .aload_n 1, 1), (106, .getfield 82, 3), (109, .iload_n 2, 1), (110, .iaload, 1), (111, .bipush 32, 2), (113, .imul, 1), (114, .aload_n 1, 1), (115, .getfield 79, 3), (118, .iload_n 2, 1), (119, .iaload, 1)]
noncomputable def xi_189_5 : XIs := [(120, .iadd, 1), (121, .dup2, 1), (122, .laload, 1), (123, .lconst 1, 1), (124, .lsub, 1), (125, .lastore, 1), (126, .iinc 2 1, 3), (129, .goto (-119), 3), (132, .iconst 0, 1), (133, .istore_n 2, 1), (134, .iload_n 2, 1), (135, .aload_n 0, 1), (136, .getfield 41, 3), (139, .arraylength, 1), (140, .if_icmp .ge 27, 3), (143, .aload_n 0, 1)]
noncomputable def xi_189_6 : XIs := [(144, .getfield 41, 3), (147, .iload_n 2, 1), (148, .aload_n 0, 1), (149, .getfield 41, 3), (152, .iload_n 2, 1), (153, .laload, 1), (154, .ldc2_w 117, 3), (157, .invokestatic 119, 3), (160, .lastore, 1), (161, .iinc 2 1, 3), (164, .goto (-30), 3), (167, .aload_n 1, 1), (168, .getfield 48, 3), (171, .iconst 1, 1), (172, .isub, 1), (173, .istore_n 2, 1)]
noncomputable def xi_189_7 : XIs := [(174, .lconst 1, 1), (175, .lstore_n 3, 1), (176, .iconst 0, 1), (177, .istore 5, 2), (179, .iload 5, 2), (181, .iload_n 2, 1), (182, .if_icmp .ge 29, 3), (185, .lload_n 3, 1), (186, .lconst 0, 1), (187, .lcmp, 1), (188, .ifCond .eq 23, 3), (191, .lload_n 3, 1), (192, .aload_n 0, 1), (193, .iload 5, 2), (195, .iload_n 2, 1), (196, .invokevirtual 125, 3)]
noncomputable def xi_189_8 : XIs := [(199, .lmul, 1), (200, .ldc2_w 117, 3), (203, .lrem, 1), (204, .lstore_n 3, 1), (205, .iinc 5 1, 3), (208, .goto (-29), 3), (211, .lload_n 3, 1), (212, .l2i, 1), (213, .ireturn, 1)]
set_option maxRecDepth 100000 in
theorem xi_w189 : xi_ok cX9_countTrees (xi_189_0 ++ (xi_189_1 ++ (xi_189_2 ++ (xi_189_3 ++ (xi_189_4 ++ (xi_189_5 ++ (xi_189_6 ++ (xi_189_7 ++ (xi_189_8))))))))) = true := dl_all _ _ (by decide +kernel)
theorem xi_ok189_0 : xi_ok cX9_countTrees xi_189_0 = true := (xi_ap xi_w189).1
theorem xi_r189_1 : xi_ok cX9_countTrees (xi_189_1 ++ (xi_189_2 ++ (xi_189_3 ++ (xi_189_4 ++ (xi_189_5 ++ (xi_189_6 ++ (xi_189_7 ++ (xi_189_8)))))))) = true := (xi_ap xi_w189).2
theorem xi_ok189_1 : xi_ok cX9_countTrees xi_189_1 = true := (xi_ap xi_r189_1).1
theorem xi_r189_2 : xi_ok cX9_countTrees (xi_189_2 ++ (xi_189_3 ++ (xi_189_4 ++ (xi_189_5 ++ (xi_189_6 ++ (xi_189_7 ++ (xi_189_8))))))) = true := (xi_ap xi_r189_1).2
theorem xi_ok189_2 : xi_ok cX9_countTrees xi_189_2 = true := (xi_ap xi_r189_2).1
theorem xi_r189_3 : xi_ok cX9_countTrees (xi_189_3 ++ (xi_189_4 ++ (xi_189_5 ++ (xi_189_6 ++ (xi_189_7 ++ (xi_189_8)))))) = true := (xi_ap xi_r189_2).2
theorem xi_ok189_3 : xi_ok cX9_countTrees xi_189_3 = true := (xi_ap xi_r189_3).1
theorem xi_r189_4 : xi_ok cX9_countTrees (xi_189_4 ++ (xi_189_5 ++ (xi_189_6 ++ (xi_189_7 ++ (xi_189_8))))) = true := (xi_ap xi_r189_3).2
theorem xi_ok189_4 : xi_ok cX9_countTrees xi_189_4 = true := (xi_ap xi_r189_4).1
theorem xi_r189_5 : xi_ok cX9_countTrees (xi_189_5 ++ (xi_189_6 ++ (xi_189_7 ++ (xi_189_8)))) = true := (xi_ap xi_r189_4).2
theorem xi_ok189_5 : xi_ok cX9_countTrees xi_189_5 = true := (xi_ap xi_r189_5).1
theorem xi_r189_6 : xi_ok cX9_countTrees (xi_189_6 ++ (xi_189_7 ++ (xi_189_8))) = true := (xi_ap xi_r189_5).2
theorem xi_ok189_6 : xi_ok cX9_countTrees xi_189_6 = true := (xi_ap xi_r189_6).1
theorem xi_r189_7 : xi_ok cX9_countTrees (xi_189_7 ++ (xi_189_8)) = true := (xi_ap xi_r189_6).2
theorem xi_ok189_7 : xi_ok cX9_countTrees xi_189_7 = true := (xi_ap xi_r189_7).1
theorem xi_r189_8 : xi_ok cX9_countTrees (xi_189_8) = true := (xi_ap xi_r189_7).2
theorem xi_ok189_8 : xi_ok cX9_countTrees xi_189_8 = true := xi_r189_8
noncomputable def xi_189 (pc : Nat) : XIs := cond (Nat.blt pc 97) (cond (Nat.blt pc 51) (cond (Nat.blt pc 30) (xi_189_0) (xi_189_1)) (cond (Nat.blt pc 74) (xi_189_2) (xi_189_3))) (cond (Nat.blt pc 144) (cond (Nat.blt pc 120) (xi_189_4) (xi_189_5)) (cond (Nat.blt pc 174) (xi_189_6) (cond (Nat.blt pc 199) (xi_189_7) (xi_189_8))))
theorem xi_ok189 (pc : Nat) : xi_ok cX9_countTrees (xi_189 pc) = true := xi_c (xi_c (xi_c (xi_ok189_0) (xi_ok189_1)) (xi_c (xi_ok189_2) (xi_ok189_3))) (xi_c (xi_c (xi_ok189_4) (xi_ok189_5)) (xi_c (xi_ok189_6) (xi_c (xi_ok189_7) (xi_ok189_8))))
noncomputable def xi_190_0 : XIs := [(0, .iload_n 1, 1), (1, .istore_n 3, 1), (2, .iload_n 3, 1), (3, .iload_n 2, 1), (4, .if_icmp .ge 25, 3), (7, .aload_n 0, 1), (8, .getfield 41, 3), (11, .iload_n 3, 1), (12, .bipush 32, 2), (14, .imul, 1), (15, .iload_n 1, 1), (16, .iadd, 1), (17, .laload, 1), (18, .lconst 0, 1), (19, .lcmp, 1), (20, .ifCond .ne 9, 3)]
noncomputable def xi_190_1 : XIs := [(23, .iinc 3 1, 3), (26, .goto (-24), 3), (29, .iload_n 3, 1), (30, .iload_n 2, 1), (31, .if_icmp .lt 5, 3), (34, .lconst 0, 1), (35, .lreturn, 1), (36, .iload_n 3, 1), (37, .iload_n 1, 1), (38, .if_icmp .eq 9, 3), (41, .aload_n 0, 1), (42, .iload_n 3, 1), (43, .iload_n 1, 1), (44, .invokevirtual 129, 3), (47, .aload_n 0, 1), (48, .getfield 41, 3)]
noncomputable def xi_190_2 : XIs := [(51, .iload_n 1, 1), (52, .bipush 32, 2), (54, .imul, 1), (55, .iload_n 1, 1), (56, .iadd, 1), (57, .laload, 1), (58, .lstore 4, 2), (60, .lload 4, 2), (62, .ldc2_w 133, 3), (65, .invokestatic 135, 3), (68, .lstore 6, 2), (70, .iload_n 1, 1), (71, .iconst 1, 1), (72, .iadd, 1), (73, .istore 8, 2), (75, .iload 8, 2)]
noncomputable def xi_190_3 : XIs := [(77, .iload_n 2, 1), (78, .if_icmp .ge 102, 3), (81, .ldc2_w 117, 3), (84, .aload_n 0, 1), (85, .getfield 41, 3), (88, .iload 8, 2), (90, .bipush 32, 2), (92, .imul, 1), (93, .iload_n 1, 1), (94, .iadd, 1), (95, .laload, 1), (96, .lsub, 1), (97, .lload 6, 2), (99, .lmul, 1), (100, .ldc2_w 117, 3), (103, .lrem, 1)]
noncomputable def xi_190_4 : XIs := [(104, .lstore 9, 2), (106, .iload_n 1, 1), (107, .istore 11, 2), (109, .iload 11, 2), (111, .iload_n 2, 1), (112, .if_icmp .ge 62, 3), (115, .lload 9, 2), (117, .lconst 0, 1), (118, .lcmp, 1), (119, .ifCond .eq 55, 3), (122, .aload_n 0, 1), (123, .getfield 41, 3), (126, .iload 8, 2), (128, .bipush 32, 2), (130, .imul, 1), (131, .iload 11, 2)]
noncomputable def xi_190_5 : XIs := [(133, .iadd, 1), (134, .aload_n 0, 1), (135, .getfield 41, 3), (138, .iload 8, 2), (140, .bipush 32, 2), (142, .imul, 1), (143, .iload 11, 2), (145, .iadd, 1), (146, .laload, 1), (147, .lload 9, 2), (149, .aload_n 0, 1), (150, .getfield 41, 3), (153, .iload_n 1, 1), (154, .bipush 32, 2), (156, .imul, 1), (157, .iload 11, 2)]
noncomputable def xi_190_6 : XIs := [(159, .iadd, 1), (160, .laload, 1), (161, .lmul, 1), (162, .ladd, 1), (163, .ldc2_w 117, 3), (166, .lrem, 1), (167, .lastore, 1), (168, .iinc 11 1, 3), (171, .goto (-62), 3), (174, .iinc 8 1, 3), (177, .goto (-102), 3), (180, .iload_n 3, 1), (181, .iload_n 1, 1), (182, .if_icmp .ne 8, 3), (185, .lload 4, 2), (187, .goto 9, 3)]
noncomputable def xi_190_7 : XIs := [(190, .ldc2_w 117, 3), (193, .lload 4, 2), (195, .lsub, 1), (196, .lreturn, 1)]
set_option maxRecDepth 100000 in
theorem xi_w190 : xi_ok cX9_pivot (xi_190_0 ++ (xi_190_1 ++ (xi_190_2 ++ (xi_190_3 ++ (xi_190_4 ++ (xi_190_5 ++ (xi_190_6 ++ (xi_190_7)))))))) = true := dl_all _ _ (by decide +kernel)
theorem xi_ok190_0 : xi_ok cX9_pivot xi_190_0 = true := (xi_ap xi_w190).1
theorem xi_r190_1 : xi_ok cX9_pivot (xi_190_1 ++ (xi_190_2 ++ (xi_190_3 ++ (xi_190_4 ++ (xi_190_5 ++ (xi_190_6 ++ (xi_190_7))))))) = true := (xi_ap xi_w190).2
theorem xi_ok190_1 : xi_ok cX9_pivot xi_190_1 = true := (xi_ap xi_r190_1).1
theorem xi_r190_2 : xi_ok cX9_pivot (xi_190_2 ++ (xi_190_3 ++ (xi_190_4 ++ (xi_190_5 ++ (xi_190_6 ++ (xi_190_7)))))) = true := (xi_ap xi_r190_1).2
theorem xi_ok190_2 : xi_ok cX9_pivot xi_190_2 = true := (xi_ap xi_r190_2).1
theorem xi_r190_3 : xi_ok cX9_pivot (xi_190_3 ++ (xi_190_4 ++ (xi_190_5 ++ (xi_190_6 ++ (xi_190_7))))) = true := (xi_ap xi_r190_2).2
theorem xi_ok190_3 : xi_ok cX9_pivot xi_190_3 = true := (xi_ap xi_r190_3).1
theorem xi_r190_4 : xi_ok cX9_pivot (xi_190_4 ++ (xi_190_5 ++ (xi_190_6 ++ (xi_190_7)))) = true := (xi_ap xi_r190_3).2
theorem xi_ok190_4 : xi_ok cX9_pivot xi_190_4 = true := (xi_ap xi_r190_4).1
theorem xi_r190_5 : xi_ok cX9_pivot (xi_190_5 ++ (xi_190_6 ++ (xi_190_7))) = true := (xi_ap xi_r190_4).2
theorem xi_ok190_5 : xi_ok cX9_pivot xi_190_5 = true := (xi_ap xi_r190_5).1
theorem xi_r190_6 : xi_ok cX9_pivot (xi_190_6 ++ (xi_190_7)) = true := (xi_ap xi_r190_5).2
theorem xi_ok190_6 : xi_ok cX9_pivot xi_190_6 = true := (xi_ap xi_r190_6).1
theorem xi_r190_7 : xi_ok cX9_pivot (xi_190_7) = true := (xi_ap xi_r190_6).2
theorem xi_ok190_7 : xi_ok cX9_pivot xi_190_7 = true := xi_r190_7
noncomputable def xi_190 (pc : Nat) : XIs := cond (Nat.blt pc 104) (cond (Nat.blt pc 51) (cond (Nat.blt pc 23) (xi_190_0) (xi_190_1)) (cond (Nat.blt pc 77) (xi_190_2) (xi_190_3))) (cond (Nat.blt pc 159) (cond (Nat.blt pc 133) (xi_190_4) (xi_190_5)) (cond (Nat.blt pc 190) (xi_190_6) (xi_190_7)))
theorem xi_ok190 (pc : Nat) : xi_ok cX9_pivot (xi_190 pc) = true := xi_c (xi_c (xi_c (xi_ok190_0) (xi_ok190_1)) (xi_c (xi_ok190_2) (xi_ok190_3))) (xi_c (xi_c (xi_ok190_4) (xi_ok190_5)) (xi_c (xi_ok190_6) (xi_ok190_7)))
noncomputable def xi_191_0 : XIs := [(0, .iconst 0, 1), (1, .istore_n 3, 1), (2, .iload_n 3, 1), (3, .bipush 32, 2), (5, .if_icmp .ge 57, 3), (8, .aload_n 0, 1), (9, .getfield 41, 3), (12, .iload_n 1, 1), (13, .bipush 32, 2), (15, .imul, 1), (16, .iload_n 3, 1), (17, .iadd, 1), (18, .laload, 1), (19, .lstore 4, 2), (21, .aload_n 0, 1), (22, .getfield 41, 3)]
noncomputable def xi_191_1 : XIs := [(25, .iload_n 1, 1), (26, .bipush 32, 2), (28, .imul, 1), (29, .iload_n 3, 1), (30, .iadd, 1), (31, .aload_n 0, 1), (32, .getfield 41, 3), (35, .iload_n 2, 1), (36, .bipush 32, 2), (38, .imul, 1), (39, .iload_n 3, 1), (40, .iadd, 1), (41, .laload, 1), (42, .lastore, 1), (43, .aload_n 0, 1), (44, .getfield 41, 3)]
noncomputable def xi_191_2 : XIs := [(47, .iload_n 2, 1), (48, .bipush 32, 2), (50, .imul, 1), (51, .iload_n 3, 1), (52, .iadd, 1), (53, .lload 4, 2), (55, .lastore, 1), (56, .iinc 3 1, 3), (59, .goto (-57), 3), (62, .return_, 1)]
set_option maxRecDepth 100000 in
theorem xi_w191 : xi_ok cX9_swapRows (xi_191_0 ++ (xi_191_1 ++ (xi_191_2))) = true := dl_all _ _ (by decide +kernel)
theorem xi_ok191_0 : xi_ok cX9_swapRows xi_191_0 = true := (xi_ap xi_w191).1
theorem xi_r191_1 : xi_ok cX9_swapRows (xi_191_1 ++ (xi_191_2)) = true := (xi_ap xi_w191).2
theorem xi_ok191_1 : xi_ok cX9_swapRows xi_191_1 = true := (xi_ap xi_r191_1).1
theorem xi_r191_2 : xi_ok cX9_swapRows (xi_191_2) = true := (xi_ap xi_r191_1).2
theorem xi_ok191_2 : xi_ok cX9_swapRows xi_191_2 = true := xi_r191_2
noncomputable def xi_191 (pc : Nat) : XIs := cond (Nat.blt pc 25) (xi_191_0) (cond (Nat.blt pc 47) (xi_191_1) (xi_191_2))
theorem xi_ok191 (pc : Nat) : xi_ok cX9_swapRows (xi_191 pc) = true := xi_c (xi_ok191_0) (xi_c (xi_ok191_1) (xi_ok191_2))
noncomputable def xi_192_0 : XIs := [(0, .lconst 1, 1), (1, .lstore 4, 2), (3, .lload_n 0, 1), (4, .lstore 6, 2), (6, .lload_n 2, 1), (7, .lstore 8, 2), (9, .lload 8, 2), (11, .lconst 0, 1), (12, .lcmp, 1), (13, .ifCond .le 43, 3), (16, .lload 8, 2), (18, .lconst 1, 1), (19, .land, 1), (20, .lconst 0, 1), (21, .lcmp, 1), (22, .ifCond .eq 14, 3)]
noncomputable def xi_192_1 : XIs := [(25, .lload 4, 2), (27, .lload 6, 2), (29, .lmul, 1), (30, .ldc2_w 117, 3), (33, .lrem, 1), (34, .lstore 4, 2), (36, .lload 6, 2), (38, .lload 6, 2), (40, .lmul, 1), (41, .ldc2_w 117, 3), (44, .lrem, 1), (45, .lstore 6, 2), (47, .lload 8, 2), (49, .iconst 1, 1), (50, .lshr, 1), (51, .lstore 8, 2)]
noncomputable def xi_192_2 : XIs := [(53, .goto (-44), 3), (56, .lload 4, 2), (58, .lreturn, 1)]
set_option maxRecDepth 100000 in
theorem xi_w192 : xi_ok cX9_power (xi_192_0 ++ (xi_192_1 ++ (xi_192_2))) = true := dl_all _ _ (by decide +kernel)
theorem xi_ok192_0 : xi_ok cX9_power xi_192_0 = true := (xi_ap xi_w192).1
theorem xi_r192_1 : xi_ok cX9_power (xi_192_1 ++ (xi_192_2)) = true := (xi_ap xi_w192).2
theorem xi_ok192_1 : xi_ok cX9_power xi_192_1 = true := (xi_ap xi_r192_1).1
theorem xi_r192_2 : xi_ok cX9_power (xi_192_2) = true := (xi_ap xi_r192_1).2
theorem xi_ok192_2 : xi_ok cX9_power xi_192_2 = true := xi_r192_2
noncomputable def xi_192 (pc : Nat) : XIs := cond (Nat.blt pc 25) (xi_192_0) (cond (Nat.blt pc 53) (xi_192_1) (xi_192_2))
theorem xi_ok192 (pc : Nat) : xi_ok cX9_power (xi_192 pc) = true := xi_c (xi_ok192_0) (xi_c (xi_ok192_1) (xi_ok192_2))
noncomputable def xi_193_0 : XIs := [(0, .aload_n 0, 1), (1, .invokespecial 3, 3), (4, .aload_n 0, 1), (5, .iconst (-1), 1), (6, .putfield 9, 3), (9, .aload_n 0, 1), (10, .bipush 32, 2), (12, .newarray .long, 2), (14, .putfield 15, 3), (17, .aload_n 0, 1), (18, .bipush 32, 2), (20, .newarray .int, 2), (22, .putfield 19, 3), (25, .aload_n 0, 1), (26, .bipush 32, 2), (28, .newarray .int, 2)]
noncomputable def xi_193_1 : XIs := [(30, .putfield 23, 3), (33, .aload_n 0, 1), (34, .bipush 32, 2), (36, .newarray .long, 2), (38, .putfield 26, 3), (41, .aload_n 0, 1), (42, .bipush 32, 2), (44, .newarray .int, 2), (46, .putfield 29, 3), (49, .aload_n 0, 1), (50, .iconst (-1), 1), (51, .putfield 32, 3), (54, .aload_n 0, 1), (55, .sipush 2001, 3), (58, .newarray .long, 2), (60, .putfield 35, 3)]
noncomputable def xi_193_2 : XIs := [(63, .return_, 1)]
set_option maxRecDepth 100000 in
theorem xi_w193 : xi_ok cX10_init (xi_193_0 ++ (xi_193_1 ++ (xi_193_2))) = true := dl_all _ _ (by decide +kernel)
theorem xi_ok193_0 : xi_ok cX10_init xi_193_0 = true := (xi_ap xi_w193).1
theorem xi_r193_1 : xi_ok cX10_init (xi_193_1 ++ (xi_193_2)) = true := (xi_ap xi_w193).2
theorem xi_ok193_1 : xi_ok cX10_init xi_193_1 = true := (xi_ap xi_r193_1).1
theorem xi_r193_2 : xi_ok cX10_init (xi_193_2) = true := (xi_ap xi_r193_1).2
theorem xi_ok193_2 : xi_ok cX10_init xi_193_2 = true := xi_r193_2
noncomputable def xi_193 (pc : Nat) : XIs := cond (Nat.blt pc 30) (xi_193_0) (cond (Nat.blt pc 63) (xi_193_1) (xi_193_2))
theorem xi_ok193 (pc : Nat) : xi_ok cX10_init (xi_193 pc) = true := xi_c (xi_ok193_0) (xi_c (xi_ok193_1) (xi_ok193_2))
noncomputable def xi_194_0 : XIs := [(0, .aload_n 0, 1), (1, .aload_n 1, 1), (2, .iload_n 3, 1), (3, .invokevirtual 38, 3), (6, .aload_n 0, 1), (7, .getfield 42, 3), (10, .iload_n 2, 1), (11, .ishr, 1), (12, .iconst 1, 1), (13, .iand, 1), (14, .ifCond .eq 7, 3), (17, .ldc2_w 45, 3), (20, .lreturn, 1), (21, .aload_n 0, 1), (22, .getfield 15, 3), (25, .iload_n 2, 1)]
noncomputable def xi_194_1 : XIs := [(26, .laload, 1), (27, .ldc2_w 47, 3), (30, .lcmp, 1), (31, .ifCond .ne 9, 3), (34, .ldc2_w 49, 3), (37, .goto 15, 3), (40, .aload_n 0, 1), (41, .getfield 15, 3), (44, .iload_n 2, 1), (45, .laload, 1), (46, .ldc2_w 51, 3), (49, .invokestatic 53, 3), (52, .lreturn, 1)]
set_option maxRecDepth 100000 in
theorem xi_w194 : xi_ok cX10_leastWeight (xi_194_0 ++ (xi_194_1)) = true := dl_all _ _ (by decide +kernel)
theorem xi_ok194_0 : xi_ok cX10_leastWeight xi_194_0 = true := (xi_ap xi_w194).1
theorem xi_r194_1 : xi_ok cX10_leastWeight (xi_194_1) = true := (xi_ap xi_w194).2
theorem xi_ok194_1 : xi_ok cX10_leastWeight xi_194_1 = true := xi_r194_1
noncomputable def xi_194 (pc : Nat) : XIs := cond (Nat.blt pc 26) (xi_194_0) (xi_194_1)
theorem xi_ok194 (pc : Nat) : xi_ok cX10_leastWeight (xi_194 pc) = true := xi_c (xi_ok194_0) (xi_ok194_1)
noncomputable def xi_195_0 : XIs := [(0, .aload_n 0, 1), (1, .aload_n 1, 1), (2, .iload_n 3, 1), (3, .invokevirtual 38, 3), (6, .aload_n 0, 1), (7, .getfield 42, 3), (10, .iload_n 2, 1), (11, .ishr, 1), (12, .iconst 1, 1), (13, .iand, 1), (14, .ifCond .ne 35, 3), (17, .aload_n 0, 1), (18, .getfield 15, 3), (21, .iload_n 2, 1), (22, .laload, 1), (23, .ldc2_w 47, 3)]
noncomputable def xi_195_1 : XIs := [(26, .lcmp, 1), (27, .ifCond .eq 22, 3), (30, .iload 4, 2), (32, .i2l, 1), (33, .aload_n 0, 1), (34, .getfield 15, 3), (37, .iload_n 2, 1), (38, .laload, 1), (39, .ldc2_w 51, 3), (42, .invokestatic 59, 3), (45, .lcmp, 1), (46, .ifCond .lt 5, 3), (49, .iconst (-1), 1), (50, .ireturn, 1), (51, .iconst (-1), 1), (52, .istore 5, 2)]
noncomputable def xi_195_2 : XIs := [(54, .iload_n 2, 1), (55, .istore 6, 2), (57, .iconst 0, 1), (58, .istore 7, 2), (60, .iload 7, 2), (62, .iload 4, 2), (64, .if_icmp .gt 35, 3), (67, .aload_n 0, 1), (68, .aload_n 1, 1), (69, .iload 6, 2), (71, .invokevirtual 62, 3), (74, .istore 5, 2), (76, .iload 5, 2), (78, .iconst (-1), 1), (79, .if_icmp .ne 5, 3), (82, .iconst (-1), 1)]
noncomputable def xi_195_3 : XIs := [(83, .ireturn, 1), (84, .aload_n 1, 1), (85, .getfield 66, 3), (88, .iload 5, 2), (90, .iaload, 1), (91, .istore 6, 2), (93, .iinc 7 1, 3), (96, .goto (-36), 3), (99, .iload 5, 2), (101, .ireturn, 1)]
set_option maxRecDepth 100000 in
theorem xi_w195 : xi_ok cX10_leastArc (xi_195_0 ++ (xi_195_1 ++ (xi_195_2 ++ (xi_195_3)))) = true := dl_all _ _ (by decide +kernel)
theorem xi_ok195_0 : xi_ok cX10_leastArc xi_195_0 = true := (xi_ap xi_w195).1
theorem xi_r195_1 : xi_ok cX10_leastArc (xi_195_1 ++ (xi_195_2 ++ (xi_195_3))) = true := (xi_ap xi_w195).2
theorem xi_ok195_1 : xi_ok cX10_leastArc xi_195_1 = true := (xi_ap xi_r195_1).1
theorem xi_r195_2 : xi_ok cX10_leastArc (xi_195_2 ++ (xi_195_3)) = true := (xi_ap xi_r195_1).2
theorem xi_ok195_2 : xi_ok cX10_leastArc xi_195_2 = true := (xi_ap xi_r195_2).1
theorem xi_r195_3 : xi_ok cX10_leastArc (xi_195_3) = true := (xi_ap xi_r195_2).2
theorem xi_ok195_3 : xi_ok cX10_leastArc xi_195_3 = true := xi_r195_3
noncomputable def xi_195 (pc : Nat) : XIs := cond (Nat.blt pc 54) (cond (Nat.blt pc 26) (xi_195_0) (xi_195_1)) (cond (Nat.blt pc 83) (xi_195_2) (xi_195_3))
theorem xi_ok195 (pc : Nat) : xi_ok cX10_leastArc (xi_195 pc) = true := xi_c (xi_c (xi_ok195_0) (xi_ok195_1)) (xi_c (xi_ok195_2) (xi_ok195_3))
noncomputable def xi_196_0 : XIs := [(0, .aload_n 1, 1), (1, .getfield 71, 3), (4, .iload_n 2, 1), (5, .iaload, 1), (6, .istore_n 3, 1), (7, .iload_n 3, 1), (8, .aload_n 1, 1), (9, .getfield 71, 3), (12, .iload_n 2, 1), (13, .iconst 1, 1), (14, .iadd, 1), (15, .iaload, 1), (16, .if_icmp .ge 68, 3), (19, .aload_n 1, 1), (20, .getfield 74, 3), (23, .iload_n 3, 1)]
noncomputable def xi_196_1 : XIs := [(24, .iaload, 1), (25, .istore 4, 2), (27, .aload_n 0, 1), (28, .getfield 15, 3), (31, .aload_n 1, 1), (32, .getfield 66, 3), (35, .iload 4, 2), (37, .iaload, 1), (38, .laload, 1), (39, .ldc2_w 47, 3), (42, .lcmp, 1), (43, .ifCond .eq 35, 3), (46, .aload_n 1, 1), (47, .iload 4, 2), (49, .invokestatic 77, 3), (52, .aload_n 0, 1)]
noncomputable def xi_196_2 : XIs := [(53, .getfield 15, 3), (56, .aload_n 1, 1), (57, .getfield 66, 3), (60, .iload 4, 2), (62, .iaload, 1), (63, .laload, 1), (64, .ladd, 1), (65, .aload_n 0, 1), (66, .getfield 15, 3), (69, .iload_n 2, 1), (70, .laload, 1), (71, .lcmp, 1), (72, .ifCond .ne 6, 3), (75, .iload 4, 2), (77, .ireturn, 1), (78, .iinc 3 1, 3)]
noncomputable def xi_196_3 : XIs := [(81, .goto (-74), 3), (84, .iconst (-1), 1), (85, .ireturn, 1)]
set_option maxRecDepth 100000 in
theorem xi_w196 : xi_ok cX10_stepFrom (xi_196_0 ++ (xi_196_1 ++ (xi_196_2 ++ (xi_196_3)))) = true := dl_all _ _ (by decide +kernel)
theorem xi_ok196_0 : xi_ok cX10_stepFrom xi_196_0 = true := (xi_ap xi_w196).1
theorem xi_r196_1 : xi_ok cX10_stepFrom (xi_196_1 ++ (xi_196_2 ++ (xi_196_3))) = true := (xi_ap xi_w196).2
theorem xi_ok196_1 : xi_ok cX10_stepFrom xi_196_1 = true := (xi_ap xi_r196_1).1
theorem xi_r196_2 : xi_ok cX10_stepFrom (xi_196_2 ++ (xi_196_3)) = true := (xi_ap xi_r196_1).2
theorem xi_ok196_2 : xi_ok cX10_stepFrom xi_196_2 = true := (xi_ap xi_r196_2).1
theorem xi_r196_3 : xi_ok cX10_stepFrom (xi_196_3) = true := (xi_ap xi_r196_2).2
theorem xi_ok196_3 : xi_ok cX10_stepFrom xi_196_3 = true := xi_r196_3
noncomputable def xi_196 (pc : Nat) : XIs := cond (Nat.blt pc 53) (cond (Nat.blt pc 24) (xi_196_0) (xi_196_1)) (cond (Nat.blt pc 81) (xi_196_2) (xi_196_3))
theorem xi_ok196 (pc : Nat) : xi_ok cX10_stepFrom (xi_196 pc) = true := xi_c (xi_c (xi_ok196_0) (xi_ok196_1)) (xi_c (xi_ok196_2) (xi_ok196_3))
noncomputable def xi_197_0 : XIs := [(0, .aload_n 0, 1), (1, .getfield 81, 3), (4, .iload_n 1, 1), (5, .iaload, 1), (6, .i2l, 1), (7, .ldc2_w 51, 3), (10, .lmul, 1), (11, .lconst 1, 1), (12, .ladd, 1), (13, .lreturn, 1)]
set_option maxRecDepth 100000 in
theorem xi_w197 : xi_ok cX10_costOf (xi_197_0) = true := dl_all _ _ (by decide +kernel)
theorem xi_ok197_0 : xi_ok cX10_costOf xi_197_0 = true := xi_w197
noncomputable def xi_197 (pc : Nat) : XIs := xi_197_0
theorem xi_ok197 (pc : Nat) : xi_ok cX10_costOf (xi_197 pc) = true := xi_ok197_0
noncomputable def xi_198_0 : XIs := [(0, .aload_n 1, 1), (1, .invokevirtual 84, 3), (4, .aload_n 0, 1), (5, .getfield 9, 3), (8, .aload_n 1, 1), (9, .getfield 87, 3), (12, .if_icmp .ne 12, 3), (15, .aload_n 0, 1), (16, .getfield 90, 3), (19, .iload_n 2, 1), (20, .if_icmp .ne 4, 3), (23, .return_, 1), (24, .aload_n 0, 1), (25, .aload_n 1, 1), (26, .getfield 87, 3), (29, .putfield 9, 3)]
noncomputable def xi_198_1 : XIs := [(32, .aload_n 0, 1), (33, .iload_n 2, 1), (34, .putfield 90, 3), (37, .aload_n 0, 1), (38, .getfield 15, 3), (41, .ldc2_w 47, 3), (44, .invokestatic 93, 3), (47, .aload_n 0, 1), (48, .getfield 15, 3), (51, .iload_n 2, 1), (52, .lconst 0, 1), (53, .lastore, 1), (54, .iconst 1, 1), (55, .iload_n 2, 1), (56, .ishl, 1), (57, .istore_n 3, 1)]
noncomputable def xi_198_2 : XIs := [(58, .iconst 0, 1), (59, .istore 4, 2), (61, .iload 4, 2), (63, .aload_n 1, 1), (64, .getfield 99, 3), (67, .if_icmp .ge 20, 3), (70, .iload_n 3, 1), (71, .ifCond .eq 16, 3), (74, .aload_n 0, 1), (75, .aload_n 1, 1), (76, .iload_n 3, 1), (77, .invokevirtual 102, 3), (80, .istore_n 3, 1), (81, .iinc 4 1, 3), (84, .goto (-23), 3), (87, .aload_n 0, 1)]
noncomputable def xi_198_3 : XIs := [(88, .iload_n 3, 1), (89, .ifCond .ne 7, 3), (92, .iconst 0, 1), (93, .goto 17, 3), (96, .aload_n 1, 1), (97, .getfield 105, 3), (100, .aload_n 0, 1), (101, .aload_n 1, 1), (102, .iload_n 3, 1), (103, .invokevirtual 102, 3), (106, .iconst (-1), 1), (107, .invokestatic 108, 3), (110, .putfield 42, 3), (113, .return_, 1)]
set_option maxRecDepth 100000 in
theorem xi_w198 : xi_ok cX10_measure (xi_198_0 ++ (xi_198_1 ++ (xi_198_2 ++ (xi_198_3)))) = true := dl_all _ _ (by decide +kernel)
theorem xi_ok198_0 : xi_ok cX10_measure xi_198_0 = true := (xi_ap xi_w198).1
theorem xi_r198_1 : xi_ok cX10_measure (xi_198_1 ++ (xi_198_2 ++ (xi_198_3))) = true := (xi_ap xi_w198).2
theorem xi_ok198_1 : xi_ok cX10_measure xi_198_1 = true := (xi_ap xi_r198_1).1
theorem xi_r198_2 : xi_ok cX10_measure (xi_198_2 ++ (xi_198_3)) = true := (xi_ap xi_r198_1).2
theorem xi_ok198_2 : xi_ok cX10_measure xi_198_2 = true := (xi_ap xi_r198_2).1
theorem xi_r198_3 : xi_ok cX10_measure (xi_198_3) = true := (xi_ap xi_r198_2).2
theorem xi_ok198_3 : xi_ok cX10_measure xi_198_3 = true := xi_r198_3
noncomputable def xi_198 (pc : Nat) : XIs := cond (Nat.blt pc 58) (cond (Nat.blt pc 32) (xi_198_0) (xi_198_1)) (cond (Nat.blt pc 88) (xi_198_2) (xi_198_3))
theorem xi_ok198 (pc : Nat) : xi_ok cX10_measure (xi_198 pc) = true := xi_c (xi_c (xi_ok198_0) (xi_ok198_1)) (xi_c (xi_ok198_2) (xi_ok198_3))
noncomputable def xi_199_0 : XIs := [(0, .iconst 0, 1), (1, .istore_n 3, 1), (2, .iload_n 2, 1), (3, .istore 4, 2), (5, .iload 4, 2), (7, .ifCond .eq 122, 3), (10, .iload 4, 2), (12, .invokestatic 112, 3), (15, .istore 5, 2), (17, .aload_n 1, 1), (18, .getfield 116, 3), (21, .iload 5, 2), (23, .iaload, 1), (24, .istore 6, 2), (26, .iload 6, 2), (28, .aload_n 1, 1)]
noncomputable def xi_199_1 : XIs := [(29, .getfield 116, 3), (32, .iload 5, 2), (34, .iconst 1, 1), (35, .iadd, 1), (36, .iaload, 1), (37, .if_icmp .ge 80, 3), (40, .aload_n 1, 1), (41, .getfield 119, 3), (44, .iload 6, 2), (46, .iaload, 1), (47, .istore 7, 2), (49, .aload_n 1, 1), (50, .getfield 122, 3), (53, .iload 7, 2), (55, .iaload, 1), (56, .istore 8, 2)]
noncomputable def xi_199_2 : XIs := [(58, .aload_n 1, 1), (59, .iload 7, 2), (61, .invokestatic 77, 3), (64, .aload_n 0, 1), (65, .getfield 15, 3), (68, .iload 5, 2), (70, .laload, 1), (71, .ladd, 1), (72, .aload_n 0, 1), (73, .getfield 15, 3), (76, .iload 8, 2), (78, .laload, 1), (79, .lcmp, 1), (80, .ifCond .ge 31, 3), (83, .aload_n 0, 1), (84, .getfield 15, 3)]
noncomputable def xi_199_3 : XIs := [(87, .iload 8, 2), (89, .aload_n 1, 1), (90, .iload 7, 2), (92, .invokestatic 77, 3), (95, .aload_n 0, 1), (96, .getfield 15, 3), (99, .iload 5, 2), (101, .laload, 1), (102, .ladd, 1), (103, .lastore, 1), (104, .iload_n 3, 1), (105, .iconst 1, 1), (106, .iload 8, 2), (108, .ishl, 1), (109, .ior, 1), (110, .istore_n 3, 1)]
noncomputable def xi_199_4 : XIs := [(111, .iinc 6 1, 3), (114, .goto (-88), 3), (117, .iload 4, 2), (119, .iload 4, 2), (121, .iconst 1, 1), (122, .isub, 1), (123, .iand, 1), (124, .istore 4, 2), (126, .goto (-121), 3), (129, .iload_n 3, 1), (130, .ireturn, 1)]
set_option maxRecDepth 100000 in
theorem xi_w199 : xi_ok cX10_relax (xi_199_0 ++ (xi_199_1 ++ (xi_199_2 ++ (xi_199_3 ++ (xi_199_4))))) = true := dl_all _ _ (by decide +kernel)
theorem xi_ok199_0 : xi_ok cX10_relax xi_199_0 = true := (xi_ap xi_w199).1
theorem xi_r199_1 : xi_ok cX10_relax (xi_199_1 ++ (xi_199_2 ++ (xi_199_3 ++ (xi_199_4)))) = true := (xi_ap xi_w199).2
theorem xi_ok199_1 : xi_ok cX10_relax xi_199_1 = true := (xi_ap xi_r199_1).1
theorem xi_r199_2 : xi_ok cX10_relax (xi_199_2 ++ (xi_199_3 ++ (xi_199_4))) = true := (xi_ap xi_r199_1).2
theorem xi_ok199_2 : xi_ok cX10_relax xi_199_2 = true := (xi_ap xi_r199_2).1
theorem xi_r199_3 : xi_ok cX10_relax (xi_199_3 ++ (xi_199_4)) = true := (xi_ap xi_r199_2).2
theorem xi_ok199_3 : xi_ok cX10_relax xi_199_3 = true := (xi_ap xi_r199_3).1
theorem xi_r199_4 : xi_ok cX10_relax (xi_199_4) = true := (xi_ap xi_r199_3).2
theorem xi_ok199_4 : xi_ok cX10_relax xi_199_4 = true := xi_r199_4
noncomputable def xi_199 (pc : Nat) : XIs := cond (Nat.blt pc 58) (cond (Nat.blt pc 29) (xi_199_0) (xi_199_1)) (cond (Nat.blt pc 87) (xi_199_2) (cond (Nat.blt pc 111) (xi_199_3) (xi_199_4)))
theorem xi_ok199 (pc : Nat) : xi_ok cX10_relax (xi_199 pc) = true := xi_c (xi_c (xi_ok199_0) (xi_ok199_1)) (xi_c (xi_ok199_2) (xi_c (xi_ok199_3) (xi_ok199_4)))
noncomputable def xi_200_0 : XIs := [(0, .aload_n 1, 1), (1, .invokevirtual 84, 3), (4, .aload_n 0, 1), (5, .getfield 19, 3), (8, .iconst (-1), 1), (9, .invokestatic 125, 3), (12, .aload_n 0, 1), (13, .getfield 19, 3), (16, .iload_n 2, 1), (17, .ldc 128, 2), (19, .iastore, 1), (20, .aload_n 1, 1), (21, .invokevirtual 129, 3), (24, .istore 4, 2), (26, .iconst 0, 1), (27, .istore 5, 2)]
noncomputable def xi_200_1 : XIs := [(29, .iload 5, 2), (31, .aload_n 1, 1), (32, .getfield 99, 3), (35, .if_icmp .ge 134, 3), (38, .aload_n 0, 1), (39, .iload 4, 2), (41, .invokevirtual 133, 3), (44, .istore 6, 2), (46, .iload 6, 2), (48, .iload_n 3, 1), (49, .if_icmp .eq 14, 3), (52, .aload_n 0, 1), (53, .getfield 19, 3), (56, .iload 6, 2), (58, .iaload, 1), (59, .iconst (-1), 1)]
noncomputable def xi_200_2 : XIs := [(60, .if_icmp .ne 10, 3), (63, .aload_n 0, 1), (64, .getfield 19, 3), (67, .iload_n 3, 1), (68, .iaload, 1), (69, .ireturn, 1), (70, .iload 4, 2), (72, .iconst 1, 1), (73, .iload 6, 2), (75, .ishl, 1), (76, .iconst (-1), 1), (77, .ixor, 1), (78, .iand, 1), (79, .istore 4, 2), (81, .aload_n 1, 1), (82, .getfield 71, 3)]
noncomputable def xi_200_3 : XIs := [(85, .iload 6, 2), (87, .iaload, 1), (88, .istore 7, 2), (90, .iload 7, 2), (92, .aload_n 1, 1), (93, .getfield 71, 3), (96, .iload 6, 2), (98, .iconst 1, 1), (99, .iadd, 1), (100, .iaload, 1), (101, .if_icmp .ge 62, 3), (104, .aload_n 1, 1), (105, .getfield 74, 3), (108, .iload 7, 2), (110, .iaload, 1), (111, .istore 8, 2)]
noncomputable def xi_200_4 : XIs := [(113, .aload_n 0, 1), (114, .getfield 19, 3), (117, .aload_n 1, 1), (118, .getfield 66, 3), (121, .iload 8, 2), (123, .iaload, 1), (124, .aload_n 0, 1), (125, .getfield 19, 3), (128, .aload_n 1, 1), (129, .getfield 66, 3), (132, .iload 8, 2), (134, .iaload, 1), (135, .iaload, 1), (136, .aload_n 0, 1), (137, .getfield 19, 3), (140, .iload 6, 2)]
noncomputable def xi_200_5 : XIs := [(142, .iaload, 1), (143, .aload_n 1, 1), (144, .getfield 136, 3), (147, .iload 8, 2), (149, .iaload, 1), (150, .invokestatic 139, 3), (153, .invokestatic 143, 3), (156, .iastore, 1), (157, .iinc 7 1, 3), (160, .goto (-70), 3), (163, .iinc 5 1, 3), (166, .goto (-137), 3), (169, .aload_n 0, 1), (170, .getfield 19, 3), (173, .iload_n 3, 1), (174, .iaload, 1)]
noncomputable def xi_200_6 : XIs := [(175, .ireturn, 1)]
set_option maxRecDepth 100000 in
theorem xi_w200 : xi_ok cX10_widest (xi_200_0 ++ (xi_200_1 ++ (xi_200_2 ++ (xi_200_3 ++ (xi_200_4 ++ (xi_200_5 ++ (xi_200_6))))))) = true := dl_all _ _ (by decide +kernel)
theorem xi_ok200_0 : xi_ok cX10_widest xi_200_0 = true := (xi_ap xi_w200).1
theorem xi_r200_1 : xi_ok cX10_widest (xi_200_1 ++ (xi_200_2 ++ (xi_200_3 ++ (xi_200_4 ++ (xi_200_5 ++ (xi_200_6)))))) = true := (xi_ap xi_w200).2
theorem xi_ok200_1 : xi_ok cX10_widest xi_200_1 = true := (xi_ap xi_r200_1).1
theorem xi_r200_2 : xi_ok cX10_widest (xi_200_2 ++ (xi_200_3 ++ (xi_200_4 ++ (xi_200_5 ++ (xi_200_6))))) = true := (xi_ap xi_r200_1).2
theorem xi_ok200_2 : xi_ok cX10_widest xi_200_2 = true := (xi_ap xi_r200_2).1
theorem xi_r200_3 : xi_ok cX10_widest (xi_200_3 ++ (xi_200_4 ++ (xi_200_5 ++ (xi_200_6)))) = true := (xi_ap xi_r200_2).2
theorem xi_ok200_3 : xi_ok cX10_widest xi_200_3 = true := (xi_ap xi_r200_3).1
theorem xi_r200_4 : xi_ok cX10_widest (xi_200_4 ++ (xi_200_5 ++ (xi_200_6))) = true := (xi_ap xi_r200_3).2
theorem xi_ok200_4 : xi_ok cX10_widest xi_200_4 = true := (xi_ap xi_r200_4).1
theorem xi_r200_5 : xi_ok cX10_widest (xi_200_5 ++ (xi_200_6)) = true := (xi_ap xi_r200_4).2
theorem xi_ok200_5 : xi_ok cX10_widest xi_200_5 = true := (xi_ap xi_r200_5).1
theorem xi_r200_6 : xi_ok cX10_widest (xi_200_6) = true := (xi_ap xi_r200_5).2
theorem xi_ok200_6 : xi_ok cX10_widest xi_200_6 = true := xi_r200_6
noncomputable def xi_200 (pc : Nat) : XIs := cond (Nat.blt pc 85) (cond (Nat.blt pc 29) (xi_200_0) (cond (Nat.blt pc 60) (xi_200_1) (xi_200_2))) (cond (Nat.blt pc 142) (cond (Nat.blt pc 113) (xi_200_3) (xi_200_4)) (cond (Nat.blt pc 175) (xi_200_5) (xi_200_6)))
theorem xi_ok200 (pc : Nat) : xi_ok cX10_widest (xi_200 pc) = true := xi_c (xi_c (xi_ok200_0) (xi_c (xi_ok200_1) (xi_ok200_2))) (xi_c (xi_c (xi_ok200_3) (xi_ok200_4)) (xi_c (xi_ok200_5) (xi_ok200_6)))
noncomputable def xi_201_0 : XIs := [(0, .iload_n 1, 1), (1, .invokestatic 112, 3), (4, .istore_n 2, 1), (5, .iload_n 1, 1), (6, .istore_n 3, 1), (7, .iload_n 3, 1), (8, .ifCond .eq 35, 3), (11, .aload_n 0, 1), (12, .getfield 19, 3), (15, .iload_n 3, 1), (16, .invokestatic 112, 3), (19, .iaload, 1), (20, .aload_n 0, 1), (21, .getfield 19, 3), (24, .iload_n 2, 1), (25, .iaload, 1)]
noncomputable def xi_201_1 : XIs := [(26, .if_icmp .le 8, 3), (29, .iload_n 3, 1), (30, .invokestatic 112, 3), (33, .istore_n 2, 1), (34, .iload_n 3, 1), (35, .iload_n 3, 1), (36, .iconst 1, 1), (37, .isub, 1), (38, .iand, 1), (39, .istore_n 3, 1), (40, .goto (-33), 3), (43, .iload_n 2, 1), (44, .ireturn, 1)]
set_option maxRecDepth 100000 in
theorem xi_w201 : xi_ok cX10_widestOf (xi_201_0 ++ (xi_201_1)) = true := dl_all _ _ (by decide +kernel)
theorem xi_ok201_0 : xi_ok cX10_widestOf xi_201_0 = true := (xi_ap xi_w201).1
theorem xi_r201_1 : xi_ok cX10_widestOf (xi_201_1) = true := (xi_ap xi_w201).2
theorem xi_ok201_1 : xi_ok cX10_widestOf xi_201_1 = true := xi_r201_1
noncomputable def xi_201 (pc : Nat) : XIs := cond (Nat.blt pc 26) (xi_201_0) (xi_201_1)
theorem xi_ok201 (pc : Nat) : xi_ok cX10_widestOf (xi_201 pc) = true := xi_c (xi_ok201_0) (xi_ok201_1)
noncomputable def xi_202_0 : XIs := [(0, .aload_n 0, 1), (1, .aload_n 1, 1), (2, .iload_n 2, 1), (3, .invokevirtual 146, 3), (6, .aload_n 0, 1), (7, .getfield 23, 3), (10, .iload_n 3, 1), (11, .iaload, 1), (12, .ireturn, 1)]
set_option maxRecDepth 100000 in
theorem xi_w202 : xi_ok cX10_fewestArcs (xi_202_0) = true := dl_all _ _ (by decide +kernel)
theorem xi_ok202_0 : xi_ok cX10_fewestArcs xi_202_0 = true := xi_w202
noncomputable def xi_202 (pc : Nat) : XIs := xi_202_0
theorem xi_ok202 (pc : Nat) : xi_ok cX10_fewestArcs (xi_202 pc) = true := xi_ok202_0
noncomputable def xi_203_0 : XIs := [(0, .aload_n 0, 1), (1, .aload_n 1, 1), (2, .iload_n 2, 1), (3, .invokevirtual 146, 3), (6, .aload_n 0, 1), (7, .getfield 23, 3), (10, .iload_n 3, 1), (11, .iaload, 1), (12, .istore 5, 2), (14, .aload_n 0, 1), (15, .getfield 23, 3), (18, .iload 4, 2), (20, .iaload, 1), (21, .istore 6, 2), (23, .aload_n 0, 1), (24, .getfield 26, 3)]
noncomputable def xi_203_1 : XIs := [(27, .iload 4, 2), (29, .laload, 1), (30, .lstore 7, 2), (32, .iload 5, 2), (34, .iconst (-1), 1), (35, .if_icmp .eq 9, 3), (38, .iload 6, 2), (40, .iconst (-1), 1), (41, .if_icmp .ne 5, 3), (44, .iconst 0, 1), (45, .ireturn, 1), (46, .iload 4, 2), (48, .iload_n 2, 1), (49, .if_icmp .eq 10, 3), (52, .aload_n 0, 1), (53, .aload_n 1, 1)]
noncomputable def xi_203_2 : XIs := [(54, .iload 4, 2), (56, .invokevirtual 146, 3), (59, .aload_n 0, 1), (60, .getfield 23, 3), (63, .iload_n 3, 1), (64, .iaload, 1), (65, .iconst (-1), 1), (66, .if_icmp .eq 17, 3), (69, .iload 6, 2), (71, .aload_n 0, 1), (72, .getfield 23, 3), (75, .iload_n 3, 1), (76, .iaload, 1), (77, .iadd, 1), (78, .iload 5, 2), (80, .if_icmp .eq 5, 3)]
noncomputable def xi_203_3 : XIs := [(83, .iconst 0, 1), (84, .ireturn, 1), (85, .lload 7, 2), (87, .aload_n 0, 1), (88, .getfield 26, 3), (91, .iload_n 3, 1), (92, .laload, 1), (93, .lmul, 1), (94, .ldc2_w 149, 3), (97, .lrem, 1), (98, .l2i, 1), (99, .ireturn, 1)]
set_option maxRecDepth 100000 in
theorem xi_w203 : xi_ok cX10_countBy (xi_203_0 ++ (xi_203_1 ++ (xi_203_2 ++ (xi_203_3)))) = true := dl_all _ _ (by decide +kernel)
theorem xi_ok203_0 : xi_ok cX10_countBy xi_203_0 = true := (xi_ap xi_w203).1
theorem xi_r203_1 : xi_ok cX10_countBy (xi_203_1 ++ (xi_203_2 ++ (xi_203_3))) = true := (xi_ap xi_w203).2
theorem xi_ok203_1 : xi_ok cX10_countBy xi_203_1 = true := (xi_ap xi_r203_1).1
theorem xi_r203_2 : xi_ok cX10_countBy (xi_203_2 ++ (xi_203_3)) = true := (xi_ap xi_r203_1).2
theorem xi_ok203_2 : xi_ok cX10_countBy xi_203_2 = true := (xi_ap xi_r203_2).1
theorem xi_r203_3 : xi_ok cX10_countBy (xi_203_3) = true := (xi_ap xi_r203_2).2
theorem xi_ok203_3 : xi_ok cX10_countBy xi_203_3 = true := xi_r203_3
noncomputable def xi_203 (pc : Nat) : XIs := cond (Nat.blt pc 54) (cond (Nat.blt pc 27) (xi_203_0) (xi_203_1)) (cond (Nat.blt pc 83) (xi_203_2) (xi_203_3))
theorem xi_ok203 (pc : Nat) : xi_ok cX10_countBy (xi_203 pc) = true := xi_c (xi_c (xi_ok203_0) (xi_ok203_1)) (xi_c (xi_ok203_2) (xi_ok203_3))
noncomputable def xi_204_0 : XIs := [(0, .aload_n 1, 1), (1, .invokevirtual 84, 3), (4, .aload_n 0, 1), (5, .getfield 23, 3), (8, .iconst (-1), 1), (9, .invokestatic 125, 3), (12, .aload_n 0, 1), (13, .getfield 26, 3), (16, .lconst 0, 1), (17, .invokestatic 93, 3), (20, .aload_n 0, 1), (21, .getfield 23, 3), (24, .iload_n 2, 1), (25, .iconst 0, 1), (26, .iastore, 1), (27, .aload_n 0, 1)]
noncomputable def xi_204_1 : XIs := [(28, .getfield 26, 3), (31, .iload_n 2, 1), (32, .lconst 1, 1), (33, .lastore, 1), (34, .aload_n 0, 1), (35, .getfield 29, 3), (38, .iconst 0, 1), (39, .iload_n 2, 1), (40, .iastore, 1), (41, .iconst 1, 1), (42, .istore_n 3, 1), (43, .iconst 0, 1), (44, .istore 4, 2), (46, .iload 4, 2), (48, .iload_n 3, 1), (49, .if_icmp .ge 150, 3)]
noncomputable def xi_204_2 : XIs := [(52, .aload_n 0, 1), (53, .getfield 29, 3), (56, .iload 4, 2), (58, .iaload, 1), (59, .istore 5, 2), (61, .aload_n 1, 1), (62, .getfield 71, 3), (65, .iload 5, 2), (67, .iaload, 1), (68, .istore 6, 2), (70, .iload 6, 2), (72, .aload_n 1, 1), (73, .getfield 71, 3), (76, .iload 5, 2), (78, .iconst 1, 1), (79, .iadd, 1)]
noncomputable def xi_204_3 : XIs := [(80, .iaload, 1), (81, .if_icmp .ge 112, 3), (84, .aload_n 1, 1), (85, .getfield 66, 3), (88, .aload_n 1, 1), (89, .getfield 74, 3), (92, .iload 6, 2), (94, .iaload, 1), (95, .iaload, 1), (96, .istore 7, 2), (98, .aload_n 0, 1), (99, .getfield 23, 3), (102, .iload 7, 2), (104, .iaload, 1), (105, .iconst (-1), 1), (106, .if_icmp .ne 36, 3)]
noncomputable def xi_204_4 : XIs := [(109, .iload_n 3, 1), (110, .bipush 32, 2), (112, .if_icmp .ge 30, 3), (115, .aload_n 0, 1), (116, .getfield 23, 3), (119, .iload 7, 2), (121, .aload_n 0, 1), (122, .getfield 23, 3), (125, .iload 5, 2), (127, .iaload, 1), (128, .iconst 1, 1), (129, .iadd, 1), (130, .iastore, 1), (131, .aload_n 0, 1), (132, .getfield 29, 3), (135, .iload_n 3, 1)]
noncomputable def xi_204_5 : XIs := [(136, .iload 7, 2), (138, .iastore, 1), (139, .iinc 3 1, 3), (142, .aload_n 0, 1), (143, .getfield 23, 3), (146, .iload 7, 2), (148, .iaload, 1), (149, .aload_n 0, 1), (150, .getfield 23, 3), (153, .iload 5, 2), (155, .iaload, 1), (156, .iconst 1, 1), (157, .iadd, 1), (158, .if_icmp .ne 29, 3), (161, .aload_n 0, 1), (162, .getfield 26, 3)]
noncomputable def xi_204_6 : XIs := [(165, .iload 7, 2), (167, .aload_n 0, 1), (168, .getfield 26, 3), (171, .iload 7, 2), (173, .laload, 1), (174, .aload_n 0, 1), (175, .getfield 26, 3), (178, .iload 5, 2), (180, .laload, 1), (181, .ladd, 1), (182, .ldc2_w 149, 3), (185, .lrem, 1), (186, .lastore, 1), (187, .iinc 6 1, 3), (190, .goto (-120), 3), (193, .iinc 4 1, 3)]
noncomputable def xi_204_7 : XIs := [(196, .goto (-150), 3), (199, .return_, 1)]
set_option maxRecDepth 100000 in
theorem xi_w204 : xi_ok cX10_spread (xi_204_0 ++ (xi_204_1 ++ (xi_204_2 ++ (xi_204_3 ++ (xi_204_4 ++ (xi_204_5 ++ (xi_204_6 ++ (xi_204_7)))))))) = true := dl_all _ _ (by decide +kernel)
theorem xi_ok204_0 : xi_ok cX10_spread xi_204_0 = true := (xi_ap xi_w204).1
theorem xi_r204_1 : xi_ok cX10_spread (xi_204_1 ++ (xi_204_2 ++ (xi_204_3 ++ (xi_204_4 ++ (xi_204_5 ++ (xi_204_6 ++ (xi_204_7))))))) = true := (xi_ap xi_w204).2
theorem xi_ok204_1 : xi_ok cX10_spread xi_204_1 = true := (xi_ap xi_r204_1).1
theorem xi_r204_2 : xi_ok cX10_spread (xi_204_2 ++ (xi_204_3 ++ (xi_204_4 ++ (xi_204_5 ++ (xi_204_6 ++ (xi_204_7)))))) = true := (xi_ap xi_r204_1).2
theorem xi_ok204_2 : xi_ok cX10_spread xi_204_2 = true := (xi_ap xi_r204_2).1
theorem xi_r204_3 : xi_ok cX10_spread (xi_204_3 ++ (xi_204_4 ++ (xi_204_5 ++ (xi_204_6 ++ (xi_204_7))))) = true := (xi_ap xi_r204_2).2
theorem xi_ok204_3 : xi_ok cX10_spread xi_204_3 = true := (xi_ap xi_r204_3).1
theorem xi_r204_4 : xi_ok cX10_spread (xi_204_4 ++ (xi_204_5 ++ (xi_204_6 ++ (xi_204_7)))) = true := (xi_ap xi_r204_3).2
theorem xi_ok204_4 : xi_ok cX10_spread xi_204_4 = true := (xi_ap xi_r204_4).1
theorem xi_r204_5 : xi_ok cX10_spread (xi_204_5 ++ (xi_204_6 ++ (xi_204_7))) = true := (xi_ap xi_r204_4).2
theorem xi_ok204_5 : xi_ok cX10_spread xi_204_5 = true := (xi_ap xi_r204_5).1
theorem xi_r204_6 : xi_ok cX10_spread (xi_204_6 ++ (xi_204_7)) = true := (xi_ap xi_r204_5).2
theorem xi_ok204_6 : xi_ok cX10_spread xi_204_6 = true := (xi_ap xi_r204_6).1
theorem xi_r204_7 : xi_ok cX10_spread (xi_204_7) = true := (xi_ap xi_r204_6).2
theorem xi_ok204_7 : xi_ok cX10_spread xi_204_7 = true := xi_r204_7
noncomputable def xi_204 (pc : Nat) : XIs := cond (Nat.blt pc 109) (cond (Nat.blt pc 52) (cond (Nat.blt pc 28) (xi_204_0) (xi_204_1)) (cond (Nat.blt pc 80) (xi_204_2) (xi_204_3))) (cond (Nat.blt pc 165) (cond (Nat.blt pc 136) (xi_204_4) (xi_204_5)) (cond (Nat.blt pc 196) (xi_204_6) (xi_204_7)))
theorem xi_ok204 (pc : Nat) : xi_ok cX10_spread (xi_204 pc) = true := xi_c (xi_c (xi_c (xi_ok204_0) (xi_ok204_1)) (xi_c (xi_ok204_2) (xi_ok204_3))) (xi_c (xi_c (xi_ok204_4) (xi_ok204_5)) (xi_c (xi_ok204_6) (xi_ok204_7)))
noncomputable def xi_205_0 : XIs := [(0, .aload_n 0, 1), (1, .aload_n 1, 1), (2, .iload_n 2, 1), (3, .iload_n 3, 1), (4, .invokevirtual 151, 3), (7, .aload_n 0, 1), (8, .getfield 155, 3), (11, .sipush 2000, 3), (14, .if_icmp .le 8, 3), (17, .bipush (-2), 2), (19, .goto 7, 3), (22, .aload_n 0, 1), (23, .getfield 155, 3), (26, .ireturn, 1)]
set_option maxRecDepth 100000 in
theorem xi_w205 : xi_ok cX10_countShort (xi_205_0) = true := dl_all _ _ (by decide +kernel)
theorem xi_ok205_0 : xi_ok cX10_countShort xi_205_0 = true := xi_w205
noncomputable def xi_205 (pc : Nat) : XIs := xi_205_0
theorem xi_ok205 (pc : Nat) : xi_ok cX10_countShort (xi_205 pc) = true := xi_ok205_0
noncomputable def xi_206_0 : XIs := [(0, .aload_n 0, 1), (1, .aload_n 1, 1), (2, .iload_n 2, 1), (3, .iload_n 3, 1), (4, .invokevirtual 151, 3), (7, .aload_n 0, 1), (8, .getfield 155, 3), (11, .sipush 2000, 3), (14, .if_icmp .gt 12, 3), (17, .iload 4, 2), (19, .aload_n 0, 1), (20, .getfield 155, 3), (23, .if_icmp .lt 5, 3), (26, .iconst (-1), 1), (27, .ireturn, 1), (28, .aload_n 0, 1)]
noncomputable def xi_206_1 : XIs := [(29, .getfield 35, 3), (32, .iload 4, 2), (34, .laload, 1), (35, .lstore 6, 2), (37, .iload 5, 2), (39, .lload 6, 2), (41, .bipush 32, 2), (43, .lshr, 1), (44, .ldc2_w 158, 3), (47, .land, 1), (48, .l2i, 1), (49, .if_icmp .lt 5, 3), (52, .iconst (-1), 1), (53, .ireturn, 1), (54, .lload 6, 2), (56, .bipush 24, 2)]
noncomputable def xi_206_2 : XIs := [(58, .bipush 8, 2), (60, .iload 5, 2), (62, .imul, 1), (63, .isub, 1), (64, .lshr, 1), (65, .ldc2_w 160, 3), (68, .land, 1), (69, .l2i, 1), (70, .ireturn, 1)]
set_option maxRecDepth 100000 in
theorem xi_w206 : xi_ok cX10_arcOfShort (xi_206_0 ++ (xi_206_1 ++ (xi_206_2))) = true := dl_all _ _ (by decide +kernel)
theorem xi_ok206_0 : xi_ok cX10_arcOfShort xi_206_0 = true := (xi_ap xi_w206).1
theorem xi_r206_1 : xi_ok cX10_arcOfShort (xi_206_1 ++ (xi_206_2)) = true := (xi_ap xi_w206).2
theorem xi_ok206_1 : xi_ok cX10_arcOfShort xi_206_1 = true := (xi_ap xi_r206_1).1
theorem xi_r206_2 : xi_ok cX10_arcOfShort (xi_206_2) = true := (xi_ap xi_r206_1).2
theorem xi_ok206_2 : xi_ok cX10_arcOfShort xi_206_2 = true := xi_r206_2
noncomputable def xi_206 (pc : Nat) : XIs := cond (Nat.blt pc 29) (xi_206_0) (cond (Nat.blt pc 58) (xi_206_1) (xi_206_2))
theorem xi_ok206 (pc : Nat) : xi_ok cX10_arcOfShort (xi_206 pc) = true := xi_c (xi_ok206_0) (xi_c (xi_ok206_1) (xi_ok206_2))
noncomputable def xi_207_0 : XIs := [(0, .aload_n 0, 1), (1, .getfield 32, 3), (4, .aload_n 1, 1), (5, .getfield 87, 3), (8, .if_icmp .ne 20, 3), (11, .aload_n 0, 1), (12, .getfield 162, 3), (15, .iload_n 2, 1), (16, .if_icmp .ne 12, 3), (19, .aload_n 0, 1), (20, .getfield 165, 3), (23, .iload_n 3, 1), (24, .if_icmp .ne 4, 3), (27, .return_, 1), (28, .aload_n 1, 1), (29, .invokevirtual 84, 3)]
noncomputable def xi_207_1 : XIs := [(32, .aload_n 0, 1), (33, .aload_n 1, 1), (34, .getfield 87, 3), (37, .putfield 32, 3), (40, .aload_n 0, 1), (41, .iload_n 2, 1), (42, .putfield 162, 3), (45, .aload_n 0, 1), (46, .iload_n 3, 1), (47, .putfield 165, 3), (50, .aload_n 0, 1), (51, .iconst 0, 1), (52, .putfield 155, 3), (55, .aload_n 0, 1), (56, .aload_n 1, 1), (57, .iload_n 2, 1)]
noncomputable def xi_207_2 : XIs := [(58, .iconst 1, 1), (59, .iload_n 2, 1), (60, .ishl, 1), (61, .iconst 0, 1), (62, .lconst 0, 1), (63, .invokevirtual 168, 3), (66, .aload_n 0, 1), (67, .getfield 155, 3), (70, .sipush 2000, 3), (73, .if_icmp .gt 7, 3), (76, .aload_n 0, 1), (77, .invokevirtual 172, 3), (80, .return_, 1)]
set_option maxRecDepth 100000 in
theorem xi_w207 : xi_ok cX10_collect (xi_207_0 ++ (xi_207_1 ++ (xi_207_2))) = true := dl_all _ _ (by decide +kernel)
theorem xi_ok207_0 : xi_ok cX10_collect xi_207_0 = true := (xi_ap xi_w207).1
theorem xi_r207_1 : xi_ok cX10_collect (xi_207_1 ++ (xi_207_2)) = true := (xi_ap xi_w207).2
theorem xi_ok207_1 : xi_ok cX10_collect xi_207_1 = true := (xi_ap xi_r207_1).1
theorem xi_r207_2 : xi_ok cX10_collect (xi_207_2) = true := (xi_ap xi_r207_1).2
theorem xi_ok207_2 : xi_ok cX10_collect xi_207_2 = true := xi_r207_2
noncomputable def xi_207 (pc : Nat) : XIs := cond (Nat.blt pc 32) (xi_207_0) (cond (Nat.blt pc 58) (xi_207_1) (xi_207_2))
theorem xi_ok207 (pc : Nat) : xi_ok cX10_collect (xi_207 pc) = true := xi_c (xi_ok207_0) (xi_c (xi_ok207_1) (xi_ok207_2))
noncomputable def xi_208_0 : XIs := [(0, .aload_n 1, 1), (1, .getfield 71, 3), (4, .iload_n 2, 1), (5, .iaload, 1), (6, .istore 7, 2), (8, .iload 7, 2), (10, .aload_n 1, 1), (11, .getfield 71, 3), (14, .iload_n 2, 1), (15, .iconst 1, 1), (16, .iadd, 1), (17, .iaload, 1), (18, .if_icmp .ge 166, 3), (21, .aload_n 0, 1), (22, .getfield 155, 3), (25, .sipush 2000, 3)]
noncomputable def xi_208_1 : XIs := [(28, .if_icmp .gt 156, 3), (31, .iload 4, 2), (33, .iconst 4, 1), (34, .if_icmp .ge 150, 3), (37, .aload_n 1, 1), (38, .getfield 74, 3), (41, .iload 7, 2), (43, .iaload, 1), (44, .istore 8, 2), (46, .aload_n 1, 1), (47, .getfield 66, 3), (50, .iload 8, 2), (52, .iaload, 1), (53, .istore 9, 2), (55, .lload 5, 2), (57, .aload_n 1, 1)]
noncomputable def xi_208_2 : XIs := [(58, .getfield 81, 3), (61, .iload 8, 2), (63, .iaload, 1), (64, .i2l, 1), (65, .bipush 35, 2), (67, .lshl, 1), (68, .ladd, 1), (69, .iload 8, 2), (71, .i2l, 1), (72, .bipush 24, 2), (74, .bipush 8, 2), (76, .iload 4, 2), (78, .imul, 1), (79, .isub, 1), (80, .lshl, 1), (81, .ladd, 1)]
noncomputable def xi_208_3 : XIs := [(82, .lstore 10, 2), (84, .iload 9, 2), (86, .aload_n 0, 1), (87, .getfield 165, 3), (90, .if_icmp .ne 40, 3), (93, .aload_n 0, 1), (94, .getfield 35, 3), (97, .aload_n 0, 1), (98, .getfield 155, 3), (101, .lload 10, 2), (103, .ldc2_w 175, 3), (106, .ladd, 1), (107, .iload 4, 2), (109, .iconst 1, 1), (110, .iadd, 1), (111, .i2l, 1)]
noncomputable def xi_208_4 : XIs := [(112, .bipush 32, 2), (114, .lshl, 1), (115, .ladd, 1), (116, .lastore, 1), (117, .aload_n 0, 1), (118, .dup, 1), (119, .getfield 155, 3), (122, .iconst 1, 1), (123, .iadd, 1), (124, .putfield 155, 3), (127, .goto 51, 3), (130, .iload_n 3, 1), (131, .iload 9, 2), (133, .ishr, 1), (134, .iconst 1, 1), (135, .iand, 1)]
noncomputable def xi_208_5 : XIs := [(136, .ifCond .ne 42, 3), (139, .aload_n 0, 1), (140, .aload_n 1, 1), (141, .iload 9, 2), (143, .iload_n 3, 1), (144, .iconst 1, 1), (145, .iload 9, 2), (147, .ishl, 1), (148, .ior, 1), (149, .iconst 3, 1), (150, .iload 4, 2), (152, .isub, 1), (153, .invokevirtual 177, 3), (156, .ifCond .eq 22, 3), (159, .aload_n 0, 1), (160, .aload_n 1, 1)]
noncomputable def xi_208_6 : XIs := [(161, .iload 9, 2), (163, .iload_n 3, 1), (164, .iconst 1, 1), (165, .iload 9, 2), (167, .ishl, 1), (168, .ior, 1), (169, .iload 4, 2), (171, .iconst 1, 1), (172, .iadd, 1), (173, .lload 10, 2), (175, .invokevirtual 168, 3), (178, .iinc 7 1, 3), (181, .goto (-173), 3), (184, .return_, 1)]
set_option maxRecDepth 100000 in
theorem xi_w208 : xi_ok cX10_gather (xi_208_0 ++ (xi_208_1 ++ (xi_208_2 ++ (xi_208_3 ++ (xi_208_4 ++ (xi_208_5 ++ (xi_208_6))))))) = true := dl_all _ _ (by decide +kernel)
theorem xi_ok208_0 : xi_ok cX10_gather xi_208_0 = true := (xi_ap xi_w208).1
theorem xi_r208_1 : xi_ok cX10_gather (xi_208_1 ++ (xi_208_2 ++ (xi_208_3 ++ (xi_208_4 ++ (xi_208_5 ++ (xi_208_6)))))) = true := (xi_ap xi_w208).2
theorem xi_ok208_1 : xi_ok cX10_gather xi_208_1 = true := (xi_ap xi_r208_1).1
theorem xi_r208_2 : xi_ok cX10_gather (xi_208_2 ++ (xi_208_3 ++ (xi_208_4 ++ (xi_208_5 ++ (xi_208_6))))) = true := (xi_ap xi_r208_1).2
theorem xi_ok208_2 : xi_ok cX10_gather xi_208_2 = true := (xi_ap xi_r208_2).1
theorem xi_r208_3 : xi_ok cX10_gather (xi_208_3 ++ (xi_208_4 ++ (xi_208_5 ++ (xi_208_6)))) = true := (xi_ap xi_r208_2).2
theorem xi_ok208_3 : xi_ok cX10_gather xi_208_3 = true := (xi_ap xi_r208_3).1
theorem xi_r208_4 : xi_ok cX10_gather (xi_208_4 ++ (xi_208_5 ++ (xi_208_6))) = true := (xi_ap xi_r208_3).2
theorem xi_ok208_4 : xi_ok cX10_gather xi_208_4 = true := (xi_ap xi_r208_4).1
theorem xi_r208_5 : xi_ok cX10_gather (xi_208_5 ++ (xi_208_6)) = true := (xi_ap xi_r208_4).2
theorem xi_ok208_5 : xi_ok cX10_gather xi_208_5 = true := (xi_ap xi_r208_5).1
theorem xi_r208_6 : xi_ok cX10_gather (xi_208_6) = true := (xi_ap xi_r208_5).2
theorem xi_ok208_6 : xi_ok cX10_gather xi_208_6 = true := xi_r208_6
noncomputable def xi_208 (pc : Nat) : XIs := cond (Nat.blt pc 82) (cond (Nat.blt pc 28) (xi_208_0) (cond (Nat.blt pc 58) (xi_208_1) (xi_208_2))) (cond (Nat.blt pc 136) (cond (Nat.blt pc 112) (xi_208_3) (xi_208_4)) (cond (Nat.blt pc 161) (xi_208_5) (xi_208_6)))
theorem xi_ok208 (pc : Nat) : xi_ok cX10_gather (xi_208 pc) = true := xi_c (xi_c (xi_ok208_0) (xi_c (xi_ok208_1) (xi_ok208_2))) (xi_c (xi_c (xi_ok208_3) (xi_ok208_4)) (xi_c (xi_ok208_5) (xi_ok208_6)))
noncomputable def xi_209_0 : XIs := [(0, .aload_n 1, 1), (1, .getfield 105, 3), (4, .aload_n 0, 1), (5, .getfield 165, 3), (8, .iaload, 1), (9, .istore 5, 2), (11, .iload 4, 2), (13, .iconst 1, 1), (14, .if_icmp .lt 14, 3), (17, .iload 5, 2), (19, .iload_n 2, 1), (20, .ishr, 1), (21, .iconst 1, 1), (22, .iand, 1), (23, .ifCond .eq 5, 3), (26, .iconst 1, 1)]
noncomputable def xi_209_1 : XIs := [(27, .ireturn, 1), (28, .aload_n 1, 1), (29, .getfield 181, 3), (32, .iload_n 2, 1), (33, .iaload, 1), (34, .iload_n 3, 1), (35, .iconst (-1), 1), (36, .ixor, 1), (37, .iand, 1), (38, .istore 6, 2), (40, .iload 4, 2), (42, .iconst 2, 1), (43, .if_icmp .lt 13, 3), (46, .iload 6, 2), (48, .iload 5, 2), (50, .iand, 1)]
noncomputable def xi_209_2 : XIs := [(51, .ifCond .eq 5, 3), (54, .iconst 1, 1), (55, .ireturn, 1), (56, .iload 6, 2), (58, .istore 7, 2), (60, .iload 4, 2), (62, .iconst 3, 1), (63, .if_icmp .lt 42, 3), (66, .iload 7, 2), (68, .ifCond .eq 37, 3), (71, .aload_n 1, 1), (72, .getfield 181, 3), (75, .iload 7, 2), (77, .invokestatic 112, 3), (80, .iaload, 1), (81, .iload_n 3, 1)]
noncomputable def xi_209_3 : XIs := [(82, .iconst (-1), 1), (83, .ixor, 1), (84, .iand, 1), (85, .iload 5, 2), (87, .iand, 1), (88, .ifCond .eq 5, 3), (91, .iconst 1, 1), (92, .ireturn, 1), (93, .iload 7, 2), (95, .iload 7, 2), (97, .iconst 1, 1), (98, .isub, 1), (99, .iand, 1), (100, .istore 7, 2), (102, .goto (-42), 3), (105, .iconst 0, 1)]
noncomputable def xi_209_4 : XIs := [(106, .ireturn, 1)]
set_option maxRecDepth 100000 in
theorem xi_w209 : xi_ok cX10_leads (xi_209_0 ++ (xi_209_1 ++ (xi_209_2 ++ (xi_209_3 ++ (xi_209_4))))) = true := dl_all _ _ (by decide +kernel)
theorem xi_ok209_0 : xi_ok cX10_leads xi_209_0 = true := (xi_ap xi_w209).1
theorem xi_r209_1 : xi_ok cX10_leads (xi_209_1 ++ (xi_209_2 ++ (xi_209_3 ++ (xi_209_4)))) = true := (xi_ap xi_w209).2
theorem xi_ok209_1 : xi_ok cX10_leads xi_209_1 = true := (xi_ap xi_r209_1).1
theorem xi_r209_2 : xi_ok cX10_leads (xi_209_2 ++ (xi_209_3 ++ (xi_209_4))) = true := (xi_ap xi_r209_1).2
theorem xi_ok209_2 : xi_ok cX10_leads xi_209_2 = true := (xi_ap xi_r209_2).1
theorem xi_r209_3 : xi_ok cX10_leads (xi_209_3 ++ (xi_209_4)) = true := (xi_ap xi_r209_2).2
theorem xi_ok209_3 : xi_ok cX10_leads xi_209_3 = true := (xi_ap xi_r209_3).1
theorem xi_r209_4 : xi_ok cX10_leads (xi_209_4) = true := (xi_ap xi_r209_3).2
theorem xi_ok209_4 : xi_ok cX10_leads xi_209_4 = true := xi_r209_4
noncomputable def xi_209 (pc : Nat) : XIs := cond (Nat.blt pc 51) (cond (Nat.blt pc 27) (xi_209_0) (xi_209_1)) (cond (Nat.blt pc 82) (xi_209_2) (cond (Nat.blt pc 106) (xi_209_3) (xi_209_4)))
theorem xi_ok209 (pc : Nat) : xi_ok cX10_leads (xi_209 pc) = true := xi_c (xi_c (xi_ok209_0) (xi_ok209_1)) (xi_c (xi_ok209_2) (xi_c (xi_ok209_3) (xi_ok209_4)))
noncomputable def xi_210_0 : XIs := [(0, .iconst 1, 1), (1, .istore_n 1, 1), (2, .iload_n 1, 1), (3, .aload_n 0, 1), (4, .getfield 155, 3), (7, .iconst 3, 1), (8, .idiv, 1), (9, .if_icmp .ge 12, 3), (12, .iconst 3, 1), (13, .iload_n 1, 1), (14, .imul, 1), (15, .iconst 1, 1), (16, .iadd, 1), (17, .istore_n 1, 1), (18, .goto (-16), 3), (21, .iload_n 1, 1)]
noncomputable def xi_210_1 : XIs := [(22, .ifCond .le 89, 3), (25, .iload_n 1, 1), (26, .istore_n 2, 1), (27, .iload_n 2, 1), (28, .aload_n 0, 1), (29, .getfield 155, 3), (32, .if_icmp .ge 72, 3), (35, .aload_n 0, 1), (36, .getfield 35, 3), (39, .iload_n 2, 1), (40, .laload, 1), (41, .lstore_n 3, 1), (42, .iload_n 2, 1), (43, .istore 5, 2), (45, .iload 5, 2), (47, .iload_n 1, 1)]
noncomputable def xi_210_2 : XIs := [(48, .if_icmp .lt 42, 3), (51, .aload_n 0, 1), (52, .getfield 35, 3), (55, .iload 5, 2), (57, .iload_n 1, 1), (58, .isub, 1), (59, .laload, 1), (60, .lload_n 3, 1), (61, .lcmp, 1), (62, .ifCond .le 28, 3), (65, .aload_n 0, 1), (66, .getfield 35, 3), (69, .iload 5, 2), (71, .aload_n 0, 1), (72, .getfield 35, 3), (75, .iload 5, 2)]
noncomputable def xi_210_3 : XIs := [(77, .iload_n 1, 1), (78, .isub, 1), (79, .laload, 1), (80, .lastore, 1), (81, .iload 5, 2), (83, .iload_n 1, 1), (84, .isub, 1), (85, .istore 5, 2), (87, .goto (-42), 3), (90, .aload_n 0, 1), (91, .getfield 35, 3), (94, .iload 5, 2), (96, .lload_n 3, 1), (97, .lastore, 1), (98, .iinc 2 1, 3), (101, .goto (-74), 3)]
noncomputable def xi_210_4 : XIs := [(104, .iload_n 1, 1), (105, .iconst 3, 1), (106, .idiv, 1), (107, .istore_n 1, 1), (108, .goto (-87), 3), (111, .return_, 1)]
set_option maxRecDepth 100000 in
theorem xi_w210 : xi_ok cX10_sortKeys (xi_210_0 ++ (xi_210_1 ++ (xi_210_2 ++ (xi_210_3 ++ (xi_210_4))))) = true := dl_all _ _ (by decide +kernel)
theorem xi_ok210_0 : xi_ok cX10_sortKeys xi_210_0 = true := (xi_ap xi_w210).1
theorem xi_r210_1 : xi_ok cX10_sortKeys (xi_210_1 ++ (xi_210_2 ++ (xi_210_3 ++ (xi_210_4)))) = true := (xi_ap xi_w210).2
theorem xi_ok210_1 : xi_ok cX10_sortKeys xi_210_1 = true := (xi_ap xi_r210_1).1
theorem xi_r210_2 : xi_ok cX10_sortKeys (xi_210_2 ++ (xi_210_3 ++ (xi_210_4))) = true := (xi_ap xi_r210_1).2
theorem xi_ok210_2 : xi_ok cX10_sortKeys xi_210_2 = true := (xi_ap xi_r210_2).1
theorem xi_r210_3 : xi_ok cX10_sortKeys (xi_210_3 ++ (xi_210_4)) = true := (xi_ap xi_r210_2).2
theorem xi_ok210_3 : xi_ok cX10_sortKeys xi_210_3 = true := (xi_ap xi_r210_3).1
theorem xi_r210_4 : xi_ok cX10_sortKeys (xi_210_4) = true := (xi_ap xi_r210_3).2
theorem xi_ok210_4 : xi_ok cX10_sortKeys xi_210_4 = true := xi_r210_4
noncomputable def xi_210 (pc : Nat) : XIs := cond (Nat.blt pc 48) (cond (Nat.blt pc 22) (xi_210_0) (xi_210_1)) (cond (Nat.blt pc 77) (xi_210_2) (cond (Nat.blt pc 104) (xi_210_3) (xi_210_4)))
theorem xi_ok210 (pc : Nat) : xi_ok cX10_sortKeys (xi_210 pc) = true := xi_c (xi_c (xi_ok210_0) (xi_ok210_1)) (xi_c (xi_ok210_2) (xi_c (xi_ok210_3) (xi_ok210_4)))
noncomputable def xi_211_0 : XIs := [(0, .aload_n 0, 1), (1, .invokespecial 1, 3), (4, .aload_n 0, 1), (5, .new 7, 3), (8, .dup, 1), (9, .invokespecial 9, 3), (12, .putfield 10, 3), (15, .aload_n 0, 1), (16, .new 16, 3), (19, .dup, 1), (20, .invokespecial 18, 3), (23, .putfield 19, 3), (26, .aload_n 0, 1), (27, .iconst (-1), 1), (28, .putfield 23, 3), (31, .aload_n 0, 1)]
noncomputable def xi_211_1 : XIs := [(32, .new 27, 3), (35, .dup, 1), (36, .invokespecial 29, 3), (39, .putfield 30, 3), (42, .aload_n 0, 1), (43, .new 34, 3), (46, .dup, 1), (47, .invokespecial 36, 3), (50, .putfield 37, 3), (53, .aload_n 0, 1), (54, .new 41, 3), (57, .dup, 1), (58, .invokespecial 43, 3), (61, .putfield 44, 3), (64, .aload_n 0, 1), (65, .new 48, 3)]
noncomputable def xi_211_2 : XIs := [(68, .dup, 1), (69, .invokespecial 50, 3), (72, .putfield 51, 3), (75, .aload_n 0, 1), (76, .new 55, 3), (79, .dup, 1), (80, .invokespecial 57, 3), (83, .putfield 58, 3), (86, .aload_n 0, 1), (87, .new 62, 3), (90, .dup, 1), (91, .invokespecial 64, 3), (94, .putfield 65, 3), (97, .aload_n 0, 1), (98, .new 69, 3), (101, .dup, 1)]
noncomputable def xi_211_3 : XIs := [(102, .invokespecial 71, 3), (105, .putfield 72, 3), (108, .aload_n 0, 1), (109, .new 76, 3), (112, .dup, 1), (113, .invokespecial 78, 3), (116, .putfield 79, 3), (119, .aload_n 0, 1), (120, .new 83, 3), (123, .dup, 1), (124, .invokespecial 85, 3), (127, .putfield 86, 3), (130, .return_, 1)]
set_option maxRecDepth 100000 in
theorem xi_w211 : xi_ok cX11_init (xi_211_0 ++ (xi_211_1 ++ (xi_211_2 ++ (xi_211_3)))) = true := dl_all _ _ (by decide +kernel)
theorem xi_ok211_0 : xi_ok cX11_init xi_211_0 = true := (xi_ap xi_w211).1
theorem xi_r211_1 : xi_ok cX11_init (xi_211_1 ++ (xi_211_2 ++ (xi_211_3))) = true := (xi_ap xi_w211).2
theorem xi_ok211_1 : xi_ok cX11_init xi_211_1 = true := (xi_ap xi_r211_1).1
theorem xi_r211_2 : xi_ok cX11_init (xi_211_2 ++ (xi_211_3)) = true := (xi_ap xi_r211_1).2
theorem xi_ok211_2 : xi_ok cX11_init xi_211_2 = true := (xi_ap xi_r211_2).1
theorem xi_r211_3 : xi_ok cX11_init (xi_211_3) = true := (xi_ap xi_r211_2).2
theorem xi_ok211_3 : xi_ok cX11_init xi_211_3 = true := xi_r211_3
noncomputable def xi_211 (pc : Nat) : XIs := cond (Nat.blt pc 68) (cond (Nat.blt pc 32) (xi_211_0) (xi_211_1)) (cond (Nat.blt pc 102) (xi_211_2) (xi_211_3))
theorem xi_ok211 (pc : Nat) : xi_ok cX11_init (xi_211 pc) = true := xi_c (xi_c (xi_ok211_0) (xi_ok211_1)) (xi_c (xi_ok211_2) (xi_ok211_3))
noncomputable def xi_212_0 : XIs := [(0, .iload_n 1, 1), (1, .invokestatic 90, 3), (4, .invokestatic 94, 3), (7, .aload_n 0, 1), (8, .getfield 10, 3), (11, .getfield 98, 3), (14, .getfield 101, 3), (17, .bipush 32, 2), (19, .if_icmp .ge 17, 3), (22, .aload_n 0, 1), (23, .getfield 10, 3), (26, .invokevirtual 104, 3), (29, .ifCond .ne 7, 3), (32, .iconst 1, 1), (33, .goto 4, 3), (36, .iconst 0, 1)]
noncomputable def xi_212_1 : XIs := [(37, .invokestatic 108, 3), (40, .aload_n 0, 1), (41, .getfield 10, 3), (44, .iload_n 1, 1), (45, .invokevirtual 111, 3), (48, .ireturn, 1)]
set_option maxRecDepth 100000 in
theorem xi_w212 : xi_ok cX11_node (xi_212_0 ++ (xi_212_1)) = true := dl_all _ _ (by decide +kernel)
theorem xi_ok212_0 : xi_ok cX11_node xi_212_0 = true := (xi_ap xi_w212).1
theorem xi_r212_1 : xi_ok cX11_node (xi_212_1) = true := (xi_ap xi_w212).2
theorem xi_ok212_1 : xi_ok cX11_node xi_212_1 = true := xi_r212_1
noncomputable def xi_212 (pc : Nat) : XIs := cond (Nat.blt pc 37) (xi_212_0) (xi_212_1)
theorem xi_ok212 (pc : Nat) : xi_ok cX11_node (xi_212 pc) = true := xi_c (xi_ok212_0) (xi_ok212_1)
noncomputable def xi_213_0 : XIs := [(0, .aload_n 0, 1), (1, .getfield 10, 3), (4, .iload_n 1, 1), (5, .iload_n 2, 1), (6, .iload_n 3, 1), (7, .iload 4, 2), (9, .iload 5, 2), (11, .invokevirtual 115, 3), (14, .invokestatic 94, 3), (17, .aload_n 0, 1), (18, .getfield 10, 3), (21, .invokevirtual 104, 3), (24, .ifCond .ne 7, 3), (27, .iconst 1, 1), (28, .goto 4, 3), (31, .iconst 0, 1)]
noncomputable def xi_213_1 : XIs := [(32, .invokestatic 108, 3), (35, .aload_n 0, 1), (36, .getfield 10, 3), (39, .iload_n 1, 1), (40, .iload_n 2, 1), (41, .iload_n 3, 1), (42, .iload 4, 2), (44, .iload 5, 2), (46, .invokevirtual 119, 3), (49, .ireturn, 1)]
set_option maxRecDepth 100000 in
theorem xi_w213 : xi_ok cX11_arc (xi_213_0 ++ (xi_213_1)) = true := dl_all _ _ (by decide +kernel)
theorem xi_ok213_0 : xi_ok cX11_arc xi_213_0 = true := (xi_ap xi_w213).1
theorem xi_r213_1 : xi_ok cX11_arc (xi_213_1) = true := (xi_ap xi_w213).2
theorem xi_ok213_1 : xi_ok cX11_arc xi_213_1 = true := xi_r213_1
noncomputable def xi_213 (pc : Nat) : XIs := cond (Nat.blt pc 32) (xi_213_0) (xi_213_1)
theorem xi_ok213 (pc : Nat) : xi_ok cX11_arc (xi_213 pc) = true := xi_c (xi_ok213_0) (xi_ok213_1)
noncomputable def xi_214_0 : XIs := [(0, .aload_n 0, 1), (1, .getfield 10, 3), (4, .getfield 98, 3), (7, .iload_n 1, 1), (8, .invokevirtual 123, 3), (11, .invokestatic 94, 3), (14, .aload_n 0, 1), (15, .getfield 10, 3), (18, .invokevirtual 104, 3), (21, .ifCond .ne 7, 3), (24, .iconst 1, 1), (25, .goto 4, 3), (28, .iconst 0, 1), (29, .invokestatic 108, 3), (32, .aload_n 0, 1), (33, .getfield 10, 3)]
noncomputable def xi_214_1 : XIs := [(36, .iload_n 1, 1), (37, .invokevirtual 126, 3), (40, .aload_n 0, 1), (41, .getfield 10, 3), (44, .getfield 98, 3), (47, .getfield 130, 3), (50, .ireturn, 1)]
set_option maxRecDepth 100000 in
theorem xi_w214 : xi_ok cX11_take (xi_214_0 ++ (xi_214_1)) = true := dl_all _ _ (by decide +kernel)
theorem xi_ok214_0 : xi_ok cX11_take xi_214_0 = true := (xi_ap xi_w214).1
theorem xi_r214_1 : xi_ok cX11_take (xi_214_1) = true := (xi_ap xi_w214).2
theorem xi_ok214_1 : xi_ok cX11_take xi_214_1 = true := xi_r214_1
noncomputable def xi_214 (pc : Nat) : XIs := cond (Nat.blt pc 36) (xi_214_0) (xi_214_1)
theorem xi_ok214 (pc : Nat) : xi_ok cX11_take (xi_214 pc) = true := xi_c (xi_ok214_0) (xi_ok214_1)
noncomputable def xi_215_0 : XIs := [(0, .aload_n 0, 1), (1, .getfield 10, 3), (4, .getfield 98, 3), (7, .iload_n 1, 1), (8, .invokevirtual 123, 3), (11, .ifCond .eq 15, 3), (14, .iload_n 2, 1), (15, .iload_n 3, 1), (16, .invokestatic 133, 3), (19, .ifCond .eq 7, 3), (22, .iconst 1, 1), (23, .goto 4, 3), (26, .iconst 0, 1), (27, .invokestatic 94, 3), (30, .aload_n 0, 1), (31, .getfield 10, 3)]
noncomputable def xi_215_1 : XIs := [(34, .invokevirtual 104, 3), (37, .ifCond .ne 7, 3), (40, .iconst 1, 1), (41, .goto 4, 3), (44, .iconst 0, 1), (45, .invokestatic 108, 3), (48, .aload_n 0, 1), (49, .getfield 10, 3), (52, .getfield 98, 3), (55, .iload_n 1, 1), (56, .iload_n 2, 1), (57, .invokevirtual 137, 3), (60, .istore 4, 2), (62, .aload_n 0, 1), (63, .getfield 10, 3), (66, .iload_n 1, 1)]
noncomputable def xi_215_2 : XIs := [(67, .iload_n 2, 1), (68, .iload_n 3, 1), (69, .invokevirtual 141, 3), (72, .iload 4, 2), (74, .ireturn, 1)]
set_option maxRecDepth 100000 in
theorem xi_w215 : xi_ok cX11_set (xi_215_0 ++ (xi_215_1 ++ (xi_215_2))) = true := dl_all _ _ (by decide +kernel)
theorem xi_ok215_0 : xi_ok cX11_set xi_215_0 = true := (xi_ap xi_w215).1
theorem xi_r215_1 : xi_ok cX11_set (xi_215_1 ++ (xi_215_2)) = true := (xi_ap xi_w215).2
theorem xi_ok215_1 : xi_ok cX11_set xi_215_1 = true := (xi_ap xi_r215_1).1
theorem xi_r215_2 : xi_ok cX11_set (xi_215_2) = true := (xi_ap xi_r215_1).2
theorem xi_ok215_2 : xi_ok cX11_set xi_215_2 = true := xi_r215_2
noncomputable def xi_215 (pc : Nat) : XIs := cond (Nat.blt pc 34) (xi_215_0) (cond (Nat.blt pc 67) (xi_215_1) (xi_215_2))
theorem xi_ok215 (pc : Nat) : xi_ok cX11_set (xi_215 pc) = true := xi_c (xi_ok215_0) (xi_c (xi_ok215_1) (xi_ok215_2))
noncomputable def xi_216_0 : XIs := [(0, .aload_n 0, 1), (1, .getfield 10, 3), (4, .getfield 98, 3), (7, .iload_n 1, 1), (8, .invokevirtual 145, 3), (11, .ifCond .eq 14, 3), (14, .iload_n 2, 1), (15, .invokestatic 90, 3), (18, .ifCond .eq 7, 3), (21, .iconst 1, 1), (22, .goto 4, 3), (25, .iconst 0, 1), (26, .invokestatic 94, 3), (29, .aload_n 0, 1), (30, .getfield 10, 3), (33, .invokevirtual 104, 3)]
noncomputable def xi_216_1 : XIs := [(36, .ifCond .ne 7, 3), (39, .iconst 1, 1), (40, .goto 4, 3), (43, .iconst 0, 1), (44, .invokestatic 108, 3), (47, .aload_n 0, 1), (48, .getfield 10, 3), (51, .getfield 98, 3), (54, .getfield 148, 3), (57, .iload_n 1, 1), (58, .iaload, 1), (59, .istore_n 3, 1), (60, .aload_n 0, 1), (61, .getfield 10, 3), (64, .iload_n 1, 1), (65, .iload_n 2, 1)]
noncomputable def xi_216_2 : XIs := [(66, .invokevirtual 152, 3), (69, .iload_n 3, 1), (70, .ireturn, 1)]
set_option maxRecDepth 100000 in
theorem xi_w216 : xi_ok cX11_label (xi_216_0 ++ (xi_216_1 ++ (xi_216_2))) = true := dl_all _ _ (by decide +kernel)
theorem xi_ok216_0 : xi_ok cX11_label xi_216_0 = true := (xi_ap xi_w216).1
theorem xi_r216_1 : xi_ok cX11_label (xi_216_1 ++ (xi_216_2)) = true := (xi_ap xi_w216).2
theorem xi_ok216_1 : xi_ok cX11_label xi_216_1 = true := (xi_ap xi_r216_1).1
theorem xi_r216_2 : xi_ok cX11_label (xi_216_2) = true := (xi_ap xi_r216_1).2
theorem xi_ok216_2 : xi_ok cX11_label xi_216_2 = true := xi_r216_2
noncomputable def xi_216 (pc : Nat) : XIs := cond (Nat.blt pc 36) (xi_216_0) (cond (Nat.blt pc 66) (xi_216_1) (xi_216_2))
theorem xi_ok216 (pc : Nat) : xi_ok cX11_label (xi_216 pc) = true := xi_c (xi_ok216_0) (xi_c (xi_ok216_1) (xi_ok216_2))
noncomputable def xi_217_0 : XIs := [(0, .iload_n 1, 1), (1, .iconst (-1), 1), (2, .if_icmp .lt 21, 3), (5, .iload_n 1, 1), (6, .aload_n 0, 1), (7, .getfield 10, 3), (10, .getfield 98, 3), (13, .getfield 130, 3), (16, .if_icmp .gt 7, 3), (19, .iconst 1, 1), (20, .goto 4, 3), (23, .iconst 0, 1), (24, .invokestatic 94, 3), (27, .aload_n 0, 1), (28, .iload_n 1, 1), (29, .putfield 23, 3)]
noncomputable def xi_217_1 : XIs := [(32, .iload_n 1, 1), (33, .iconst (-1), 1), (34, .if_icmp .eq 15, 3), (37, .aload_n 0, 1), (38, .getfield 10, 3), (41, .aload_n 0, 1), (42, .getfield 19, 3), (45, .iload_n 1, 1), (46, .invokevirtual 156, 3), (49, .aload_n 0, 1), (50, .invokevirtual 160, 3), (53, .getfield 130, 3), (56, .ireturn, 1)]
set_option maxRecDepth 100000 in
theorem xi_w217 : xi_ok cX11_view (xi_217_0 ++ (xi_217_1)) = true := dl_all _ _ (by decide +kernel)
theorem xi_ok217_0 : xi_ok cX11_view xi_217_0 = true := (xi_ap xi_w217).1
theorem xi_r217_1 : xi_ok cX11_view (xi_217_1) = true := (xi_ap xi_w217).2
theorem xi_ok217_1 : xi_ok cX11_view xi_217_1 = true := xi_r217_1
noncomputable def xi_217 (pc : Nat) : XIs := cond (Nat.blt pc 32) (xi_217_0) (xi_217_1)
theorem xi_ok217 (pc : Nat) : xi_ok cX11_view (xi_217 pc) = true := xi_c (xi_ok217_0) (xi_ok217_1)
noncomputable def xi_218_0 : XIs := [(0, .aload_n 0, 1), (1, .getfield 10, 3), (4, .getfield 98, 3), (7, .getfield 130, 3), (10, .ireturn, 1)]
set_option maxRecDepth 100000 in
theorem xi_w218 : xi_ok cX11_version (xi_218_0) = true := dl_all _ _ (by decide +kernel)
theorem xi_ok218_0 : xi_ok cX11_version xi_218_0 = true := xi_w218
noncomputable def xi_218 (pc : Nat) : XIs := xi_218_0
theorem xi_ok218 (pc : Nat) : xi_ok cX11_version (xi_218 pc) = true := xi_ok218_0
noncomputable def xi_219_0 : XIs := [(0, .iload_n 1, 1), (1, .ifCond .lt 12, 3), (4, .iload_n 1, 1), (5, .iconst 3, 1), (6, .if_icmp .gt 7, 3), (9, .iconst 1, 1), (10, .goto 4, 3), (13, .iconst 0, 1), (14, .invokestatic 94, 3), (17, .aload_n 0, 1), (18, .invokevirtual 160, 3), (21, .astore_n 2, 1), (22, .iload_n 1, 1)]
noncomputable def xi_219_1 : XIs := [(23, .tableswitch 40 0 2 #[25, 30, 35], 25)]
set_option maxRecDepth 100000 in
theorem xi_ok219_1 : xi_ok cX11_size xi_219_1 = true := by decide +kernel
noncomputable def xi_219_2 : XIs := [(48, .aload_n 2, 1), (49, .getfield 101, 3), (52, .ireturn, 1), (53, .aload_n 2, 1), (54, .getfield 164, 3), (57, .ireturn, 1), (58, .aload_n 2, 1), (59, .invokevirtual 167, 3), (62, .ireturn, 1), (63, .aload_n 2, 1), (64, .getfield 171, 3), (67, .iconst 1, 1), (68, .isub, 1), (69, .ireturn, 1)]
set_option maxRecDepth 100000 in
theorem xi_w219 : xi_ok cX11_size (xi_219_0 ++ (xi_219_2)) = true := dl_all _ _ (by decide +kernel)
theorem xi_ok219_0 : xi_ok cX11_size xi_219_0 = true := (xi_ap xi_w219).1
theorem xi_r219_1 : xi_ok cX11_size (xi_219_2) = true := (xi_ap xi_w219).2
theorem xi_ok219_2 : xi_ok cX11_size xi_219_2 = true := xi_r219_1
noncomputable def xi_219 (pc : Nat) : XIs := cond (Nat.blt pc 23) (xi_219_0) (cond (Nat.blt pc 48) (xi_219_1) (xi_219_2))
theorem xi_ok219 (pc : Nat) : xi_ok cX11_size (xi_219 pc) = true := xi_c (xi_ok219_0) (xi_c (xi_ok219_1) (xi_ok219_2))
noncomputable def xi_220_0 : XIs := [(0, .iload_n 1, 1), (1, .ifCond .lt 23, 3), (4, .iload_n 1, 1), (5, .sipush 160, 3), (8, .if_icmp .ge 16, 3), (11, .iload_n 2, 1), (12, .ifCond .lt 12, 3), (15, .iload_n 2, 1), (16, .iconst 4, 1), (17, .if_icmp .gt 7, 3), (20, .iconst 1, 1), (21, .goto 4, 3), (24, .iconst 0, 1), (25, .invokestatic 94, 3), (28, .aload_n 0, 1), (29, .invokevirtual 160, 3)]
noncomputable def xi_220_1 : XIs := [(32, .astore_n 3, 1), (33, .aload_n 3, 1), (34, .iload_n 1, 1), (35, .invokevirtual 123, 3), (38, .ifCond .ne 7, 3), (41, .ldc2_w 174, 3), (44, .lreturn, 1), (45, .iload_n 2, 1), (46, .ifCond .ne 11, 3), (49, .aload_n 3, 1), (50, .getfield 176, 3), (53, .iload_n 1, 1), (54, .iaload, 1), (55, .i2l, 1), (56, .lreturn, 1), (57, .iload_n 2, 1)]
noncomputable def xi_220_2 : XIs := [(58, .iconst 1, 1), (59, .if_icmp .ne 13, 3), (62, .aload_n 3, 1), (63, .getfield 179, 3), (66, .iload_n 1, 1), (67, .iaload, 1), (68, .i2l, 1), (69, .goto 12, 3), (72, .aload_n 3, 1), (73, .iload_n 1, 1), (74, .iload_n 2, 1), (75, .iconst 2, 1), (76, .isub, 1), (77, .invokevirtual 137, 3), (80, .i2l, 1), (81, .lreturn, 1)]
set_option maxRecDepth 100000 in
theorem xi_w220 : xi_ok cX11_told (xi_220_0 ++ (xi_220_1 ++ (xi_220_2))) = true := dl_all _ _ (by decide +kernel)
theorem xi_ok220_0 : xi_ok cX11_told xi_220_0 = true := (xi_ap xi_w220).1
theorem xi_r220_1 : xi_ok cX11_told (xi_220_1 ++ (xi_220_2)) = true := (xi_ap xi_w220).2
theorem xi_ok220_1 : xi_ok cX11_told xi_220_1 = true := (xi_ap xi_r220_1).1
theorem xi_r220_2 : xi_ok cX11_told (xi_220_2) = true := (xi_ap xi_r220_1).2
theorem xi_ok220_2 : xi_ok cX11_told xi_220_2 = true := xi_r220_2
noncomputable def xi_220 (pc : Nat) : XIs := cond (Nat.blt pc 32) (xi_220_0) (cond (Nat.blt pc 58) (xi_220_1) (xi_220_2))
theorem xi_ok220 (pc : Nat) : xi_ok cX11_told (xi_220 pc) = true := xi_c (xi_ok220_0) (xi_c (xi_ok220_1) (xi_ok220_2))
noncomputable def xi_221_0 : XIs := [(0, .aload_n 0, 1), (1, .invokevirtual 160, 3), (4, .astore_n 2, 1), (5, .aload_n 2, 1), (6, .iload_n 1, 1), (7, .invokevirtual 145, 3), (10, .invokestatic 94, 3), (13, .aload_n 2, 1), (14, .getfield 148, 3), (17, .iload_n 1, 1), (18, .iaload, 1), (19, .ireturn, 1)]
set_option maxRecDepth 100000 in
theorem xi_w221 : xi_ok cX11_labelOf (xi_221_0) = true := dl_all _ _ (by decide +kernel)
theorem xi_ok221_0 : xi_ok cX11_labelOf xi_221_0 = true := xi_w221
noncomputable def xi_221 (pc : Nat) : XIs := xi_221_0
theorem xi_ok221 (pc : Nat) : xi_ok cX11_labelOf (xi_221 pc) = true := xi_ok221_0
noncomputable def xi_222_0 : XIs := [(0, .aload_n 0, 1), (1, .invokevirtual 160, 3), (4, .astore 4, 2), (6, .aload 4, 2), (8, .iload_n 1, 1), (9, .invokevirtual 145, 3), (12, .ifCond .eq 20, 3), (15, .iload_n 2, 1), (16, .ifCond .lt 16, 3), (19, .iload_n 2, 1), (20, .iconst 1, 1), (21, .if_icmp .gt 11, 3), (24, .iload_n 3, 1), (25, .ifCond .lt 7, 3), (28, .iconst 1, 1), (29, .goto 4, 3)]
noncomputable def xi_222_1 : XIs := [(32, .iconst 0, 1), (33, .invokestatic 94, 3), (36, .aload 4, 2), (38, .invokevirtual 182, 3), (41, .iload_n 2, 1), (42, .ifCond .ne 33, 3), (45, .iload_n 3, 1), (46, .aload 4, 2), (48, .iload_n 1, 1), (49, .invokevirtual 185, 3), (52, .if_icmp .ge 21, 3), (55, .aload 4, 2), (57, .getfield 188, 3), (60, .aload 4, 2), (62, .getfield 191, 3), (65, .iload_n 1, 1)]
noncomputable def xi_222_2 : XIs := [(66, .iaload, 1), (67, .iload_n 3, 1), (68, .iadd, 1), (69, .iaload, 1), (70, .goto 4, 3), (73, .iconst (-1), 1), (74, .ireturn, 1), (75, .iload_n 3, 1), (76, .aload 4, 2), (78, .iload_n 1, 1), (79, .invokevirtual 194, 3), (82, .if_icmp .ge 21, 3), (85, .aload 4, 2), (87, .getfield 197, 3), (90, .aload 4, 2), (92, .getfield 200, 3)]
noncomputable def xi_222_3 : XIs := [(95, .iload_n 1, 1), (96, .iaload, 1), (97, .iload_n 3, 1), (98, .iadd, 1), (99, .iaload, 1), (100, .goto 4, 3), (103, .iconst (-1), 1), (104, .ireturn, 1)]
set_option maxRecDepth 100000 in
theorem xi_w222 : xi_ok cX11_arcAt (xi_222_0 ++ (xi_222_1 ++ (xi_222_2 ++ (xi_222_3)))) = true := dl_all _ _ (by decide +kernel)
theorem xi_ok222_0 : xi_ok cX11_arcAt xi_222_0 = true := (xi_ap xi_w222).1
theorem xi_r222_1 : xi_ok cX11_arcAt (xi_222_1 ++ (xi_222_2 ++ (xi_222_3))) = true := (xi_ap xi_w222).2
theorem xi_ok222_1 : xi_ok cX11_arcAt xi_222_1 = true := (xi_ap xi_r222_1).1
theorem xi_r222_2 : xi_ok cX11_arcAt (xi_222_2 ++ (xi_222_3)) = true := (xi_ap xi_r222_1).2
theorem xi_ok222_2 : xi_ok cX11_arcAt xi_222_2 = true := (xi_ap xi_r222_2).1
theorem xi_r222_3 : xi_ok cX11_arcAt (xi_222_3) = true := (xi_ap xi_r222_2).2
theorem xi_ok222_3 : xi_ok cX11_arcAt xi_222_3 = true := xi_r222_3
noncomputable def xi_222 (pc : Nat) : XIs := cond (Nat.blt pc 66) (cond (Nat.blt pc 32) (xi_222_0) (xi_222_1)) (cond (Nat.blt pc 95) (xi_222_2) (xi_222_3))
theorem xi_ok222 (pc : Nat) : xi_ok cX11_arcAt (xi_222 pc) = true := xi_c (xi_c (xi_ok222_0) (xi_ok222_1)) (xi_c (xi_ok222_2) (xi_ok222_3))
noncomputable def xi_223_0 : XIs := [(0, .iload_n 1, 1), (1, .bipush 32, 2), (3, .if_icmp .lt 13, 3), (6, .iload_n 1, 1), (7, .bipush 126, 2), (9, .if_icmp .gt 7, 3), (12, .iconst 1, 1), (13, .goto 4, 3), (16, .iconst 0, 1), (17, .invokestatic 94, 3), (20, .aload_n 0, 1), (21, .getfield 30, 3), (24, .getfield 203, 3), (27, .sipush 1000, 3), (30, .if_icmp .ge 7, 3), (33, .iconst 1, 1)]
noncomputable def xi_223_1 : XIs := [(34, .goto 4, 3), (37, .iconst 0, 1), (38, .invokestatic 108, 3), (41, .aload_n 0, 1), (42, .getfield 30, 3), (45, .getfield 206, 3), (48, .aload_n 0, 1), (49, .getfield 30, 3), (52, .getfield 203, 3), (55, .iload_n 1, 1), (56, .i2c, 1), (57, .castore, 1), (58, .aload_n 0, 1), (59, .getfield 30, 3), (62, .dup, 1), (63, .getfield 203, 3)]
noncomputable def xi_223_2 : XIs := [(66, .iconst 1, 1), (67, .iadd, 1), (68, .putfield 203, 3), (71, .aload_n 0, 1), (72, .getfield 30, 3), (75, .getfield 203, 3), (78, .ireturn, 1)]
set_option maxRecDepth 100000 in
theorem xi_w223 : xi_ok cX11_type (xi_223_0 ++ (xi_223_1 ++ (xi_223_2))) = true := dl_all _ _ (by decide +kernel)
theorem xi_ok223_0 : xi_ok cX11_type xi_223_0 = true := (xi_ap xi_w223).1
theorem xi_r223_1 : xi_ok cX11_type (xi_223_1 ++ (xi_223_2)) = true := (xi_ap xi_w223).2
theorem xi_ok223_1 : xi_ok cX11_type xi_223_1 = true := (xi_ap xi_r223_1).1
theorem xi_r223_2 : xi_ok cX11_type (xi_223_2) = true := (xi_ap xi_r223_1).2
theorem xi_ok223_2 : xi_ok cX11_type xi_223_2 = true := xi_r223_2
noncomputable def xi_223 (pc : Nat) : XIs := cond (Nat.blt pc 34) (xi_223_0) (cond (Nat.blt pc 66) (xi_223_1) (xi_223_2))
theorem xi_ok223 (pc : Nat) : xi_ok cX11_type (xi_223 pc) = true := xi_c (xi_ok223_0) (xi_c (xi_ok223_1) (xi_ok223_2))
noncomputable def xi_224_0 : XIs := [(0, .aload_n 0, 1), (1, .getfield 30, 3), (4, .getfield 203, 3), (7, .istore_n 1, 1), (8, .aload_n 0, 1), (9, .getfield 30, 3), (12, .iconst 0, 1), (13, .putfield 203, 3), (16, .iload_n 1, 1), (17, .ireturn, 1)]
set_option maxRecDepth 100000 in
theorem xi_w224 : xi_ok cX11_wipe (xi_224_0) = true := dl_all _ _ (by decide +kernel)
theorem xi_ok224_0 : xi_ok cX11_wipe xi_224_0 = true := xi_w224
noncomputable def xi_224 (pc : Nat) : XIs := xi_224_0
theorem xi_ok224 (pc : Nat) : xi_ok cX11_wipe (xi_224 pc) = true := xi_ok224_0
noncomputable def xi_225_0 : XIs := [(0, .aload_n 0, 1), (1, .getfield 10, 3), (4, .aload_n 0, 1), (5, .getfield 30, 3), (8, .invokevirtual 210, 3), (11, .ireturn, 1)]
set_option maxRecDepth 100000 in
theorem xi_w225 : xi_ok cX11_load (xi_225_0) = true := dl_all _ _ (by decide +kernel)
theorem xi_ok225_0 : xi_ok cX11_load xi_225_0 = true := xi_w225
noncomputable def xi_225 (pc : Nat) : XIs := xi_225_0
theorem xi_ok225 (pc : Nat) : xi_ok cX11_load (xi_225 pc) = true := xi_ok225_0
noncomputable def xi_226_0 : XIs := [(0, .iload_n 1, 1), (1, .ifCond .lt 12, 3), (4, .iload_n 1, 1), (5, .iconst 1, 1), (6, .if_icmp .gt 7, 3), (9, .iconst 1, 1), (10, .goto 4, 3), (13, .iconst 0, 1), (14, .invokestatic 94, 3), (17, .iload_n 1, 1), (18, .ifCond .ne 13, 3), (21, .aload_n 0, 1), (22, .getfield 30, 3), (25, .getfield 214, 3), (28, .goto 10, 3), (31, .aload_n 0, 1)]
noncomputable def xi_226_1 : XIs := [(32, .getfield 30, 3), (35, .getfield 217, 3), (38, .ireturn, 1)]
set_option maxRecDepth 100000 in
theorem xi_w226 : xi_ok cX11_fault (xi_226_0 ++ (xi_226_1)) = true := dl_all _ _ (by decide +kernel)
theorem xi_ok226_0 : xi_ok cX11_fault xi_226_0 = true := (xi_ap xi_w226).1
theorem xi_r226_1 : xi_ok cX11_fault (xi_226_1) = true := (xi_ap xi_w226).2
theorem xi_ok226_1 : xi_ok cX11_fault xi_226_1 = true := xi_r226_1
noncomputable def xi_226 (pc : Nat) : XIs := cond (Nat.blt pc 32) (xi_226_0) (xi_226_1)
theorem xi_ok226 (pc : Nat) : xi_ok cX11_fault (xi_226 pc) = true := xi_c (xi_ok226_0) (xi_ok226_1)
noncomputable def xi_227_0 : XIs := [(0, .aload_n 0, 1), (1, .getfield 30, 3), (4, .aload_n 0, 1), (5, .invokevirtual 160, 3), (8, .invokevirtual 220, 3), (11, .ireturn, 1)]
set_option maxRecDepth 100000 in
theorem xi_w227 : xi_ok cX11_print (xi_227_0) = true := dl_all _ _ (by decide +kernel)
theorem xi_ok227_0 : xi_ok cX11_print xi_227_0 = true := xi_w227
noncomputable def xi_227 (pc : Nat) : XIs := xi_227_0
theorem xi_ok227 (pc : Nat) : xi_ok cX11_print (xi_227 pc) = true := xi_ok227_0
noncomputable def xi_228_0 : XIs := [(0, .iload_n 1, 1), (1, .ifCond .lt 18, 3), (4, .iload_n 1, 1), (5, .aload_n 0, 1), (6, .getfield 30, 3), (9, .getfield 224, 3), (12, .if_icmp .ge 7, 3), (15, .iconst 1, 1), (16, .goto 4, 3), (19, .iconst 0, 1), (20, .invokestatic 94, 3), (23, .aload_n 0, 1), (24, .getfield 30, 3), (27, .getfield 227, 3), (30, .iload_n 1, 1), (31, .caload, 1)]
noncomputable def xi_228_1 : XIs := [(32, .ireturn, 1)]
set_option maxRecDepth 100000 in
theorem xi_w228 : xi_ok cX11_printed (xi_228_0 ++ (xi_228_1)) = true := dl_all _ _ (by decide +kernel)
theorem xi_ok228_0 : xi_ok cX11_printed xi_228_0 = true := (xi_ap xi_w228).1
theorem xi_r228_1 : xi_ok cX11_printed (xi_228_1) = true := (xi_ap xi_w228).2
theorem xi_ok228_1 : xi_ok cX11_printed xi_228_1 = true := xi_r228_1
noncomputable def xi_228 (pc : Nat) : XIs := cond (Nat.blt pc 32) (xi_228_0) (xi_228_1)
theorem xi_ok228 (pc : Nat) : xi_ok cX11_printed (xi_228 pc) = true := xi_c (xi_ok228_0) (xi_ok228_1)
noncomputable def xi_229_0 : XIs := [(0, .aload_n 0, 1), (1, .invokevirtual 160, 3), (4, .astore_n 3, 1), (5, .aload_n 3, 1), (6, .iload_n 1, 1), (7, .invokevirtual 145, 3), (10, .ifCond .eq 15, 3), (13, .aload_n 3, 1), (14, .iload_n 2, 1), (15, .invokevirtual 145, 3), (18, .ifCond .eq 7, 3), (21, .iconst 1, 1), (22, .goto 4, 3), (25, .iconst 0, 1), (26, .invokestatic 94, 3), (29, .aload_n 0, 1)]
noncomputable def xi_229_1 : XIs := [(30, .getfield 37, 3), (33, .aload_n 3, 1), (34, .iload_n 1, 1), (35, .iload_n 2, 1), (36, .invokevirtual 230, 3), (39, .lreturn, 1)]
set_option maxRecDepth 100000 in
theorem xi_w229 : xi_ok cX11_distance (xi_229_0 ++ (xi_229_1)) = true := dl_all _ _ (by decide +kernel)
theorem xi_ok229_0 : xi_ok cX11_distance xi_229_0 = true := (xi_ap xi_w229).1
theorem xi_r229_1 : xi_ok cX11_distance (xi_229_1) = true := (xi_ap xi_w229).2
theorem xi_ok229_1 : xi_ok cX11_distance xi_229_1 = true := xi_r229_1
noncomputable def xi_229 (pc : Nat) : XIs := cond (Nat.blt pc 30) (xi_229_0) (xi_229_1)
theorem xi_ok229 (pc : Nat) : xi_ok cX11_distance (xi_229 pc) = true := xi_c (xi_ok229_0) (xi_ok229_1)
noncomputable def xi_230_0 : XIs := [(0, .aload_n 0, 1), (1, .invokevirtual 160, 3), (4, .astore 4, 2), (6, .aload 4, 2), (8, .iload_n 1, 1), (9, .invokevirtual 145, 3), (12, .ifCond .eq 20, 3), (15, .aload 4, 2), (17, .iload_n 2, 1), (18, .invokevirtual 145, 3), (21, .ifCond .eq 11, 3), (24, .iload_n 3, 1), (25, .ifCond .lt 7, 3), (28, .iconst 1, 1), (29, .goto 4, 3), (32, .iconst 0, 1)]
noncomputable def xi_230_1 : XIs := [(33, .invokestatic 94, 3), (36, .aload_n 0, 1), (37, .getfield 37, 3), (40, .aload 4, 2), (42, .iload_n 1, 1), (43, .iload_n 2, 1), (44, .iload_n 3, 1), (45, .invokevirtual 234, 3), (48, .ireturn, 1)]
set_option maxRecDepth 100000 in
theorem xi_w230 : xi_ok cX11_way (xi_230_0 ++ (xi_230_1)) = true := dl_all _ _ (by decide +kernel)
theorem xi_ok230_0 : xi_ok cX11_way xi_230_0 = true := (xi_ap xi_w230).1
theorem xi_r230_1 : xi_ok cX11_way (xi_230_1) = true := (xi_ap xi_w230).2
theorem xi_ok230_1 : xi_ok cX11_way xi_230_1 = true := xi_r230_1
noncomputable def xi_230 (pc : Nat) : XIs := cond (Nat.blt pc 33) (xi_230_0) (xi_230_1)
theorem xi_ok230 (pc : Nat) : xi_ok cX11_way (xi_230 pc) = true := xi_c (xi_ok230_0) (xi_ok230_1)
noncomputable def xi_231_0 : XIs := [(0, .aload_n 0, 1), (1, .invokevirtual 160, 3), (4, .astore_n 3, 1), (5, .aload_n 3, 1), (6, .iload_n 1, 1), (7, .invokevirtual 145, 3), (10, .ifCond .eq 15, 3), (13, .aload_n 3, 1), (14, .iload_n 2, 1), (15, .invokevirtual 145, 3), (18, .ifCond .eq 7, 3), (21, .iconst 1, 1), (22, .goto 4, 3), (25, .iconst 0, 1), (26, .invokestatic 94, 3), (29, .aload_n 0, 1)]
noncomputable def xi_231_1 : XIs := [(30, .getfield 37, 3), (33, .aload_n 3, 1), (34, .iload_n 1, 1), (35, .iload_n 2, 1), (36, .invokevirtual 238, 3), (39, .ireturn, 1)]
set_option maxRecDepth 100000 in
theorem xi_w231 : xi_ok cX11_width (xi_231_0 ++ (xi_231_1)) = true := dl_all _ _ (by decide +kernel)
theorem xi_ok231_0 : xi_ok cX11_width xi_231_0 = true := (xi_ap xi_w231).1
theorem xi_r231_1 : xi_ok cX11_width (xi_231_1) = true := (xi_ap xi_w231).2
theorem xi_ok231_1 : xi_ok cX11_width xi_231_1 = true := xi_r231_1
noncomputable def xi_231 (pc : Nat) : XIs := cond (Nat.blt pc 30) (xi_231_0) (xi_231_1)
theorem xi_ok231 (pc : Nat) : xi_ok cX11_width (xi_231 pc) = true := xi_c (xi_ok231_0) (xi_ok231_1)
noncomputable def xi_232_0 : XIs := [(0, .aload_n 0, 1), (1, .invokevirtual 160, 3), (4, .astore_n 3, 1), (5, .aload_n 3, 1), (6, .iload_n 1, 1), (7, .iload_n 2, 1), (8, .invokevirtual 242, 3), (11, .invokestatic 94, 3), (14, .aload_n 0, 1), (15, .getfield 37, 3), (18, .aload_n 3, 1), (19, .iload_n 1, 1), (20, .iload_n 2, 1), (21, .invokevirtual 245, 3), (24, .ireturn, 1)]
set_option maxRecDepth 100000 in
theorem xi_w232 : xi_ok cX11_shorts (xi_232_0) = true := dl_all _ _ (by decide +kernel)
theorem xi_ok232_0 : xi_ok cX11_shorts xi_232_0 = true := xi_w232
noncomputable def xi_232 (pc : Nat) : XIs := xi_232_0
theorem xi_ok232 (pc : Nat) : xi_ok cX11_shorts (xi_232 pc) = true := xi_ok232_0
noncomputable def xi_233_0 : XIs := [(0, .aload_n 0, 1), (1, .invokevirtual 160, 3), (4, .astore 5, 2), (6, .aload 5, 2), (8, .iload_n 1, 1), (9, .iload_n 2, 1), (10, .invokevirtual 242, 3), (13, .ifCond .eq 16, 3), (16, .iload_n 3, 1), (17, .ifCond .lt 12, 3), (20, .iload 4, 2), (22, .ifCond .lt 7, 3), (25, .iconst 1, 1), (26, .goto 4, 3), (29, .iconst 0, 1), (30, .invokestatic 94, 3)]
noncomputable def xi_233_1 : XIs := [(33, .aload_n 0, 1), (34, .getfield 37, 3), (37, .aload 5, 2), (39, .iload_n 1, 1), (40, .iload_n 2, 1), (41, .iload_n 3, 1), (42, .iload 4, 2), (44, .invokevirtual 248, 3), (47, .ireturn, 1)]
set_option maxRecDepth 100000 in
theorem xi_w233 : xi_ok cX11_shortArc (xi_233_0 ++ (xi_233_1)) = true := dl_all _ _ (by decide +kernel)
theorem xi_ok233_0 : xi_ok cX11_shortArc xi_233_0 = true := (xi_ap xi_w233).1
theorem xi_r233_1 : xi_ok cX11_shortArc (xi_233_1) = true := (xi_ap xi_w233).2
theorem xi_ok233_1 : xi_ok cX11_shortArc xi_233_1 = true := xi_r233_1
noncomputable def xi_233 (pc : Nat) : XIs := cond (Nat.blt pc 33) (xi_233_0) (xi_233_1)
theorem xi_ok233 (pc : Nat) : xi_ok cX11_shortArc (xi_233 pc) = true := xi_c (xi_ok233_0) (xi_ok233_1)
noncomputable def xi_234_0 : XIs := [(0, .aload_n 0, 1), (1, .invokevirtual 160, 3), (4, .astore_n 3, 1), (5, .iload_n 1, 1), (6, .ifCond .lt 20, 3), (9, .iload_n 1, 1), (10, .iconst 1, 1), (11, .if_icmp .gt 15, 3), (14, .aload_n 3, 1), (15, .iload_n 2, 1), (16, .invokevirtual 145, 3), (19, .ifCond .eq 7, 3), (22, .iconst 1, 1), (23, .goto 4, 3), (26, .iconst 0, 1), (27, .invokestatic 94, 3)]
noncomputable def xi_234_1 : XIs := [(30, .iload_n 1, 1), (31, .ifCond .ne 15, 3), (34, .aload_n 0, 1), (35, .getfield 44, 3), (38, .aload_n 3, 1), (39, .iload_n 2, 1), (40, .invokevirtual 252, 3), (43, .goto 12, 3), (46, .aload_n 0, 1), (47, .getfield 44, 3), (50, .aload_n 3, 1), (51, .iload_n 2, 1), (52, .invokevirtual 256, 3), (55, .ireturn, 1)]
set_option maxRecDepth 100000 in
theorem xi_w234 : xi_ok cX11_part (xi_234_0 ++ (xi_234_1)) = true := dl_all _ _ (by decide +kernel)
theorem xi_ok234_0 : xi_ok cX11_part xi_234_0 = true := (xi_ap xi_w234).1
theorem xi_r234_1 : xi_ok cX11_part (xi_234_1) = true := (xi_ap xi_w234).2
theorem xi_ok234_1 : xi_ok cX11_part xi_234_1 = true := xi_r234_1
noncomputable def xi_234 (pc : Nat) : XIs := cond (Nat.blt pc 30) (xi_234_0) (xi_234_1)
theorem xi_ok234 (pc : Nat) : xi_ok cX11_part (xi_234 pc) = true := xi_c (xi_ok234_0) (xi_ok234_1)
noncomputable def xi_235_0 : XIs := [(0, .aload_n 0, 1), (1, .invokevirtual 160, 3), (4, .astore_n 2, 1), (5, .aload_n 2, 1), (6, .iload_n 1, 1), (7, .invokevirtual 123, 3), (10, .invokestatic 94, 3), (13, .aload_n 0, 1), (14, .getfield 44, 3), (17, .aload_n 2, 1), (18, .iload_n 1, 1), (19, .invokevirtual 259, 3), (22, .ireturn, 1)]
set_option maxRecDepth 100000 in
theorem xi_w235 : xi_ok cX11_bridge (xi_235_0) = true := dl_all _ _ (by decide +kernel)
theorem xi_ok235_0 : xi_ok cX11_bridge xi_235_0 = true := xi_w235
noncomputable def xi_235 (pc : Nat) : XIs := xi_235_0
theorem xi_ok235 (pc : Nat) : xi_ok cX11_bridge (xi_235 pc) = true := xi_ok235_0
noncomputable def xi_236_0 : XIs := [(0, .aload_n 0, 1), (1, .invokevirtual 160, 3), (4, .astore_n 2, 1), (5, .aload_n 2, 1), (6, .iload_n 1, 1), (7, .invokevirtual 145, 3), (10, .invokestatic 94, 3), (13, .aload_n 0, 1), (14, .getfield 44, 3), (17, .aload_n 2, 1), (18, .iload_n 1, 1), (19, .invokevirtual 263, 3), (22, .ireturn, 1)]
set_option maxRecDepth 100000 in
theorem xi_w236 : xi_ok cX11_cut (xi_236_0) = true := dl_all _ _ (by decide +kernel)
theorem xi_ok236_0 : xi_ok cX11_cut xi_236_0 = true := xi_w236
noncomputable def xi_236 (pc : Nat) : XIs := xi_236_0
theorem xi_ok236 (pc : Nat) : xi_ok cX11_cut (xi_236 pc) = true := xi_ok236_0
noncomputable def xi_237_0 : XIs := [(0, .iload_n 1, 1), (1, .ifCond .lt 7, 3), (4, .iconst 1, 1), (5, .goto 4, 3), (8, .iconst 0, 1), (9, .invokestatic 94, 3), (12, .aload_n 0, 1), (13, .getfield 44, 3), (16, .aload_n 0, 1), (17, .invokevirtual 160, 3), (20, .iload_n 1, 1), (21, .invokevirtual 266, 3), (24, .ireturn, 1)]
set_option maxRecDepth 100000 in
theorem xi_w237 : xi_ok cX11_order (xi_237_0) = true := dl_all _ _ (by decide +kernel)
theorem xi_ok237_0 : xi_ok cX11_order xi_237_0 = true := xi_w237
noncomputable def xi_237 (pc : Nat) : XIs := xi_237_0
theorem xi_ok237 (pc : Nat) : xi_ok cX11_order (xi_237 pc) = true := xi_ok237_0
noncomputable def xi_238_0 : XIs := [(0, .aload_n 0, 1), (1, .invokevirtual 160, 3), (4, .astore_n 2, 1), (5, .aload_n 2, 1), (6, .iload_n 1, 1), (7, .invokevirtual 145, 3), (10, .invokestatic 94, 3), (13, .aload_n 0, 1), (14, .getfield 44, 3), (17, .aload_n 2, 1), (18, .iload_n 1, 1), (19, .invokevirtual 269, 3), (22, .ireturn, 1)]
set_option maxRecDepth 100000 in
theorem xi_w238 : xi_ok cX11_core (xi_238_0) = true := dl_all _ _ (by decide +kernel)
theorem xi_ok238_0 : xi_ok cX11_core xi_238_0 = true := xi_w238
noncomputable def xi_238 (pc : Nat) : XIs := xi_238_0
theorem xi_ok238 (pc : Nat) : xi_ok cX11_core (xi_238 pc) = true := xi_ok238_0
noncomputable def xi_239_0 : XIs := [(0, .iload_n 1, 1), (1, .ifCond .lt 7, 3), (4, .iconst 1, 1), (5, .goto 4, 3), (8, .iconst 0, 1), (9, .invokestatic 94, 3), (12, .aload_n 0, 1), (13, .getfield 51, 3), (16, .aload_n 0, 1), (17, .invokevirtual 160, 3), (20, .invokevirtual 272, 3), (23, .istore_n 2, 1), (24, .iload_n 1, 1), (25, .iload_n 2, 1), (26, .invokestatic 275, 3), (29, .if_icmp .lt 5, 3)]
noncomputable def xi_239_1 : XIs := [(32, .iconst (-1), 1), (33, .ireturn, 1), (34, .iconst 0, 1), (35, .istore_n 3, 1), (36, .iload_n 3, 1), (37, .iload_n 1, 1), (38, .if_icmp .ge 15, 3), (41, .iload_n 2, 1), (42, .iload_n 2, 1), (43, .iconst 1, 1), (44, .isub, 1), (45, .iand, 1), (46, .istore_n 2, 1), (47, .iinc 3 1, 3), (50, .goto (-14), 3), (53, .iload_n 2, 1)]
noncomputable def xi_239_2 : XIs := [(54, .invokestatic 280, 3), (57, .ireturn, 1)]
set_option maxRecDepth 100000 in
theorem xi_w239 : xi_ok cX11_clique (xi_239_0 ++ (xi_239_1 ++ (xi_239_2))) = true := dl_all _ _ (by decide +kernel)
theorem xi_ok239_0 : xi_ok cX11_clique xi_239_0 = true := (xi_ap xi_w239).1
theorem xi_r239_1 : xi_ok cX11_clique (xi_239_1 ++ (xi_239_2)) = true := (xi_ap xi_w239).2
theorem xi_ok239_1 : xi_ok cX11_clique xi_239_1 = true := (xi_ap xi_r239_1).1
theorem xi_r239_2 : xi_ok cX11_clique (xi_239_2) = true := (xi_ap xi_r239_1).2
theorem xi_ok239_2 : xi_ok cX11_clique xi_239_2 = true := xi_r239_2
noncomputable def xi_239 (pc : Nat) : XIs := cond (Nat.blt pc 32) (xi_239_0) (cond (Nat.blt pc 54) (xi_239_1) (xi_239_2))
theorem xi_ok239 (pc : Nat) : xi_ok cX11_clique (xi_239 pc) = true := xi_c (xi_ok239_0) (xi_c (xi_ok239_1) (xi_ok239_2))
noncomputable def xi_240_0 : XIs := [(0, .aload_n 0, 1), (1, .invokevirtual 160, 3), (4, .astore_n 2, 1), (5, .aload_n 2, 1), (6, .iload_n 1, 1), (7, .invokevirtual 145, 3), (10, .invokestatic 94, 3), (13, .aload_n 0, 1), (14, .getfield 51, 3), (17, .aload_n 2, 1), (18, .iload_n 1, 1), (19, .invokevirtual 283, 3), (22, .ireturn, 1)]
set_option maxRecDepth 100000 in
theorem xi_w240 : xi_ok cX11_colour (xi_240_0) = true := dl_all _ _ (by decide +kernel)
theorem xi_ok240_0 : xi_ok cX11_colour xi_240_0 = true := xi_w240
noncomputable def xi_240 (pc : Nat) : XIs := xi_240_0
theorem xi_ok240 (pc : Nat) : xi_ok cX11_colour (xi_240 pc) = true := xi_ok240_0
noncomputable def xi_241_0 : XIs := [(0, .aload_n 0, 1), (1, .invokevirtual 160, 3), (4, .astore_n 3, 1), (5, .aload_n 3, 1), (6, .iload_n 1, 1), (7, .iload_n 2, 1), (8, .invokevirtual 242, 3), (11, .invokestatic 94, 3), (14, .aload_n 0, 1), (15, .getfield 58, 3), (18, .aload_n 3, 1), (19, .iload_n 1, 1), (20, .iload_n 2, 1), (21, .invokevirtual 286, 3), (24, .lreturn, 1)]
set_option maxRecDepth 100000 in
theorem xi_w241 : xi_ok cX11_flow (xi_241_0) = true := dl_all _ _ (by decide +kernel)
theorem xi_ok241_0 : xi_ok cX11_flow xi_241_0 = true := xi_w241
noncomputable def xi_241 (pc : Nat) : XIs := xi_241_0
theorem xi_ok241 (pc : Nat) : xi_ok cX11_flow (xi_241 pc) = true := xi_ok241_0
noncomputable def xi_242_0 : XIs := [(0, .aload_n 0, 1), (1, .invokevirtual 160, 3), (4, .astore 4, 2), (6, .aload 4, 2), (8, .iload_n 1, 1), (9, .iload_n 2, 1), (10, .invokevirtual 242, 3), (13, .ifCond .eq 16, 3), (16, .aload 4, 2), (18, .iload_n 3, 1), (19, .invokevirtual 145, 3), (22, .ifCond .eq 7, 3), (25, .iconst 1, 1), (26, .goto 4, 3), (29, .iconst 0, 1), (30, .invokestatic 94, 3)]
noncomputable def xi_242_1 : XIs := [(33, .aload_n 0, 1), (34, .getfield 58, 3), (37, .aload 4, 2), (39, .iload_n 1, 1), (40, .iload_n 2, 1), (41, .invokevirtual 286, 3), (44, .pop2, 1), (45, .aload_n 0, 1), (46, .getfield 58, 3), (49, .getfield 289, 3), (52, .iload_n 3, 1), (53, .ishr, 1), (54, .iconst 1, 1), (55, .iand, 1), (56, .ifCond .eq 7, 3), (59, .iconst 1, 1)]
noncomputable def xi_242_2 : XIs := [(60, .goto 4, 3), (63, .iconst 0, 1), (64, .ireturn, 1)]
set_option maxRecDepth 100000 in
theorem xi_w242 : xi_ok cX11_side (xi_242_0 ++ (xi_242_1 ++ (xi_242_2))) = true := dl_all _ _ (by decide +kernel)
theorem xi_ok242_0 : xi_ok cX11_side xi_242_0 = true := (xi_ap xi_w242).1
theorem xi_r242_1 : xi_ok cX11_side (xi_242_1 ++ (xi_242_2)) = true := (xi_ap xi_w242).2
theorem xi_ok242_1 : xi_ok cX11_side xi_242_1 = true := (xi_ap xi_r242_1).1
theorem xi_r242_2 : xi_ok cX11_side (xi_242_2) = true := (xi_ap xi_r242_1).2
theorem xi_ok242_2 : xi_ok cX11_side xi_242_2 = true := xi_r242_2
noncomputable def xi_242 (pc : Nat) : XIs := cond (Nat.blt pc 33) (xi_242_0) (cond (Nat.blt pc 60) (xi_242_1) (xi_242_2))
theorem xi_ok242 (pc : Nat) : xi_ok cX11_side (xi_242 pc) = true := xi_c (xi_ok242_0) (xi_c (xi_ok242_1) (xi_ok242_2))
noncomputable def xi_243_0 : XIs := [(0, .aload_n 0, 1), (1, .invokevirtual 160, 3), (4, .astore 4, 2), (6, .aload 4, 2), (8, .iload_n 1, 1), (9, .iload_n 2, 1), (10, .invokevirtual 242, 3), (13, .ifCond .eq 18, 3), (16, .iload_n 3, 1), (17, .ifCond .lt 14, 3), (20, .iload_n 3, 1), (21, .ldc_w 292, 3), (24, .if_icmp .gt 7, 3), (27, .iconst 1, 1), (28, .goto 4, 3), (31, .iconst 0, 1)]
noncomputable def xi_243_1 : XIs := [(32, .invokestatic 94, 3), (35, .aload_n 0, 1), (36, .getfield 58, 3), (39, .aload 4, 2), (41, .iload_n 1, 1), (42, .iload_n 2, 1), (43, .iload_n 3, 1), (44, .invokevirtual 293, 3), (47, .lreturn, 1)]
set_option maxRecDepth 100000 in
theorem xi_w243 : xi_ok cX11_cost (xi_243_0 ++ (xi_243_1)) = true := dl_all _ _ (by decide +kernel)
theorem xi_ok243_0 : xi_ok cX11_cost xi_243_0 = true := (xi_ap xi_w243).1
theorem xi_r243_1 : xi_ok cX11_cost (xi_243_1) = true := (xi_ap xi_w243).2
theorem xi_ok243_1 : xi_ok cX11_cost xi_243_1 = true := xi_r243_1
noncomputable def xi_243 (pc : Nat) : XIs := cond (Nat.blt pc 32) (xi_243_0) (xi_243_1)
theorem xi_ok243 (pc : Nat) : xi_ok cX11_cost (xi_243 pc) = true := xi_c (xi_ok243_0) (xi_ok243_1)
noncomputable def xi_244_0 : XIs := [(0, .iload_n 1, 1), (1, .ifCond .lt 12, 3), (4, .iload_n 1, 1), (5, .iconst 1, 1), (6, .if_icmp .gt 7, 3), (9, .iconst 1, 1), (10, .goto 4, 3), (13, .iconst 0, 1), (14, .invokestatic 94, 3), (17, .aload_n 0, 1), (18, .getfield 58, 3), (21, .aload_n 0, 1), (22, .invokevirtual 160, 3), (25, .invokevirtual 297, 3), (28, .iload_n 1, 1), (29, .ifCond .ne 14, 3)]
noncomputable def xi_244_1 : XIs := [(32, .aload_n 0, 1), (33, .getfield 58, 3), (36, .getfield 301, 3), (39, .i2l, 1), (40, .goto 10, 3), (43, .aload_n 0, 1), (44, .getfield 58, 3), (47, .getfield 304, 3), (50, .lreturn, 1)]
set_option maxRecDepth 100000 in
theorem xi_w244 : xi_ok cX11_pairing (xi_244_0 ++ (xi_244_1)) = true := dl_all _ _ (by decide +kernel)
theorem xi_ok244_0 : xi_ok cX11_pairing xi_244_0 = true := (xi_ap xi_w244).1
theorem xi_r244_1 : xi_ok cX11_pairing (xi_244_1) = true := (xi_ap xi_w244).2
theorem xi_ok244_1 : xi_ok cX11_pairing xi_244_1 = true := xi_r244_1
noncomputable def xi_244 (pc : Nat) : XIs := cond (Nat.blt pc 32) (xi_244_0) (xi_244_1)
theorem xi_ok244 (pc : Nat) : xi_ok cX11_pairing (xi_244 pc) = true := xi_c (xi_ok244_0) (xi_ok244_1)
noncomputable def xi_245_0 : XIs := [(0, .aload_n 0, 1), (1, .invokevirtual 160, 3), (4, .astore_n 2, 1), (5, .aload_n 2, 1), (6, .iload_n 1, 1), (7, .invokevirtual 145, 3), (10, .invokestatic 94, 3), (13, .aload_n 0, 1), (14, .getfield 65, 3), (17, .aload_n 2, 1), (18, .iload_n 1, 1), (19, .invokevirtual 308, 3), (22, .lreturn, 1)]
set_option maxRecDepth 100000 in
theorem xi_w245 : xi_ok cX11_tree (xi_245_0) = true := dl_all _ _ (by decide +kernel)
theorem xi_ok245_0 : xi_ok cX11_tree xi_245_0 = true := xi_w245
noncomputable def xi_245 (pc : Nat) : XIs := xi_245_0
theorem xi_ok245 (pc : Nat) : xi_ok cX11_tree (xi_245 pc) = true := xi_ok245_0
noncomputable def xi_246_0 : XIs := [(0, .aload_n 0, 1), (1, .invokevirtual 160, 3), (4, .astore_n 2, 1), (5, .aload_n 2, 1), (6, .iload_n 1, 1), (7, .invokevirtual 123, 3), (10, .invokestatic 94, 3), (13, .aload_n 0, 1), (14, .getfield 65, 3), (17, .aload_n 2, 1), (18, .iload_n 1, 1), (19, .invokevirtual 312, 3), (22, .ireturn, 1)]
set_option maxRecDepth 100000 in
theorem xi_w246 : xi_ok cX11_span (xi_246_0) = true := dl_all _ _ (by decide +kernel)
theorem xi_ok246_0 : xi_ok cX11_span xi_246_0 = true := xi_w246
noncomputable def xi_246 (pc : Nat) : XIs := xi_246_0
theorem xi_ok246 (pc : Nat) : xi_ok cX11_span (xi_246 pc) = true := xi_ok246_0
noncomputable def xi_247_0 : XIs := [(0, .aload_n 0, 1), (1, .getfield 65, 3), (4, .aload_n 0, 1), (5, .invokevirtual 160, 3), (8, .invokevirtual 315, 3), (11, .ireturn, 1)]
set_option maxRecDepth 100000 in
theorem xi_w247 : xi_ok cX11_trees (xi_247_0) = true := dl_all _ _ (by decide +kernel)
theorem xi_ok247_0 : xi_ok cX11_trees xi_247_0 = true := xi_w247
noncomputable def xi_247 (pc : Nat) : XIs := xi_247_0
theorem xi_ok247 (pc : Nat) : xi_ok cX11_trees (xi_247 pc) = true := xi_ok247_0
noncomputable def xi_248_0 : XIs := [(0, .aload_n 0, 1), (1, .invokevirtual 160, 3), (4, .astore_n 3, 1), (5, .aload_n 3, 1), (6, .iload_n 1, 1), (7, .invokevirtual 145, 3), (10, .ifCond .eq 17, 3), (13, .iload_n 2, 1), (14, .ifCond .lt 13, 3), (17, .iload_n 2, 1), (18, .bipush 40, 2), (20, .if_icmp .gt 7, 3), (23, .iconst 1, 1), (24, .goto 4, 3), (27, .iconst 0, 1), (28, .invokestatic 94, 3)]
noncomputable def xi_248_1 : XIs := [(31, .aload_n 0, 1), (32, .getfield 72, 3), (35, .aload_n 3, 1), (36, .iload_n 1, 1), (37, .iload_n 2, 1), (38, .invokevirtual 318, 3), (41, .lreturn, 1)]
set_option maxRecDepth 100000 in
theorem xi_w248 : xi_ok cX11_rank (xi_248_0 ++ (xi_248_1)) = true := dl_all _ _ (by decide +kernel)
theorem xi_ok248_0 : xi_ok cX11_rank xi_248_0 = true := (xi_ap xi_w248).1
theorem xi_r248_1 : xi_ok cX11_rank (xi_248_1) = true := (xi_ap xi_w248).2
theorem xi_ok248_1 : xi_ok cX11_rank xi_248_1 = true := xi_r248_1
noncomputable def xi_248 (pc : Nat) : XIs := cond (Nat.blt pc 31) (xi_248_0) (xi_248_1)
theorem xi_ok248 (pc : Nat) : xi_ok cX11_rank (xi_248 pc) = true := xi_c (xi_ok248_0) (xi_ok248_1)
noncomputable def xi_249_0 : XIs := [(0, .aload_n 0, 1), (1, .invokevirtual 160, 3), (4, .astore 5, 2), (6, .aload 5, 2), (8, .iload_n 1, 1), (9, .invokevirtual 145, 3), (12, .ifCond .eq 35, 3), (15, .aload 5, 2), (17, .iload_n 2, 1), (18, .invokevirtual 145, 3), (21, .ifCond .eq 26, 3), (24, .iload_n 3, 1), (25, .ifCond .lt 22, 3), (28, .iload_n 3, 1), (29, .iconst 2, 1), (30, .if_icmp .gt 17, 3)]
noncomputable def xi_249_1 : XIs := [(33, .aload 5, 2), (35, .iload 4, 2), (37, .invokevirtual 145, 3), (40, .ifCond .eq 7, 3), (43, .iconst 1, 1), (44, .goto 4, 3), (47, .iconst 0, 1), (48, .invokestatic 94, 3), (51, .iload_n 3, 1), (52, .ifCond .ne 15, 3), (55, .aload_n 0, 1), (56, .getfield 37, 3), (59, .aload 5, 2), (61, .iload_n 1, 1), (62, .iload_n 2, 1), (63, .invokevirtual 321, 3)]
noncomputable def xi_249_2 : XIs := [(66, .ireturn, 1), (67, .iload_n 3, 1), (68, .iconst 1, 1), (69, .if_icmp .ne 18, 3), (72, .aload_n 0, 1), (73, .getfield 37, 3), (76, .aload 5, 2), (78, .iload_n 1, 1), (79, .iload_n 2, 1), (80, .iload_n 1, 1), (81, .invokevirtual 324, 3), (84, .goto 16, 3), (87, .aload_n 0, 1), (88, .getfield 37, 3), (91, .aload 5, 2), (93, .iload_n 1, 1)]
noncomputable def xi_249_3 : XIs := [(94, .iload_n 2, 1), (95, .iload 4, 2), (97, .invokevirtual 324, 3), (100, .ireturn, 1)]
set_option maxRecDepth 100000 in
theorem xi_w249 : xi_ok cX11_shortest (xi_249_0 ++ (xi_249_1 ++ (xi_249_2 ++ (xi_249_3)))) = true := dl_all _ _ (by decide +kernel)
theorem xi_ok249_0 : xi_ok cX11_shortest xi_249_0 = true := (xi_ap xi_w249).1
theorem xi_r249_1 : xi_ok cX11_shortest (xi_249_1 ++ (xi_249_2 ++ (xi_249_3))) = true := (xi_ap xi_w249).2
theorem xi_ok249_1 : xi_ok cX11_shortest xi_249_1 = true := (xi_ap xi_r249_1).1
theorem xi_r249_2 : xi_ok cX11_shortest (xi_249_2 ++ (xi_249_3)) = true := (xi_ap xi_r249_1).2
theorem xi_ok249_2 : xi_ok cX11_shortest xi_249_2 = true := (xi_ap xi_r249_2).1
theorem xi_r249_3 : xi_ok cX11_shortest (xi_249_3) = true := (xi_ap xi_r249_2).2
theorem xi_ok249_3 : xi_ok cX11_shortest xi_249_3 = true := xi_r249_3
noncomputable def xi_249 (pc : Nat) : XIs := cond (Nat.blt pc 66) (cond (Nat.blt pc 33) (xi_249_0) (xi_249_1)) (cond (Nat.blt pc 94) (xi_249_2) (xi_249_3))
theorem xi_ok249 (pc : Nat) : xi_ok cX11_shortest (xi_249 pc) = true := xi_c (xi_c (xi_ok249_0) (xi_ok249_1)) (xi_c (xi_ok249_2) (xi_ok249_3))
noncomputable def xi_250_0 : XIs := [(0, .aload_n 0, 1), (1, .invokevirtual 160, 3), (4, .astore_n 2, 1), (5, .aload_n 2, 1), (6, .iload_n 1, 1), (7, .invokevirtual 145, 3), (10, .invokestatic 94, 3), (13, .aload_n 0, 1), (14, .getfield 72, 3), (17, .aload_n 2, 1), (18, .iload_n 1, 1), (19, .invokevirtual 327, 3), (22, .ireturn, 1)]
set_option maxRecDepth 100000 in
theorem xi_w250 : xi_ok cX11_group (xi_250_0) = true := dl_all _ _ (by decide +kernel)
theorem xi_ok250_0 : xi_ok cX11_group xi_250_0 = true := xi_w250
noncomputable def xi_250 (pc : Nat) : XIs := xi_250_0
theorem xi_ok250 (pc : Nat) : xi_ok cX11_group (xi_250 pc) = true := xi_ok250_0
noncomputable def xi_251_0 : XIs := [(0, .aload_n 0, 1), (1, .getfield 72, 3), (4, .aload_n 0, 1), (5, .invokevirtual 160, 3), (8, .invokevirtual 330, 3), (11, .lreturn, 1)]
set_option maxRecDepth 100000 in
theorem xi_w251 : xi_ok cX11_gain (xi_251_0) = true := dl_all _ _ (by decide +kernel)
theorem xi_ok251_0 : xi_ok cX11_gain xi_251_0 = true := xi_w251
noncomputable def xi_251 (pc : Nat) : XIs := xi_251_0
theorem xi_ok251 (pc : Nat) : xi_ok cX11_gain (xi_251 pc) = true := xi_ok251_0
noncomputable def xi_252_0 : XIs := [(0, .iload_n 1, 1), (1, .ifCond .lt 12, 3), (4, .iload_n 1, 1), (5, .iconst 1, 1), (6, .if_icmp .gt 7, 3), (9, .iconst 1, 1), (10, .goto 4, 3), (13, .iconst 0, 1), (14, .invokestatic 94, 3), (17, .iload_n 1, 1), (18, .ifCond .ne 17, 3), (21, .aload_n 0, 1), (22, .getfield 44, 3), (25, .aload_n 0, 1), (26, .invokevirtual 160, 3), (29, .invokevirtual 334, 3)]
noncomputable def xi_252_1 : XIs := [(32, .goto 14, 3), (35, .aload_n 0, 1), (36, .getfield 44, 3), (39, .aload_n 0, 1), (40, .invokevirtual 160, 3), (43, .invokevirtual 337, 3), (46, .lreturn, 1)]
set_option maxRecDepth 100000 in
theorem xi_w252 : xi_ok cX11_figures (xi_252_0 ++ (xi_252_1)) = true := dl_all _ _ (by decide +kernel)
theorem xi_ok252_0 : xi_ok cX11_figures xi_252_0 = true := (xi_ap xi_w252).1
theorem xi_r252_1 : xi_ok cX11_figures (xi_252_1) = true := (xi_ap xi_w252).2
theorem xi_ok252_1 : xi_ok cX11_figures xi_252_1 = true := xi_r252_1
noncomputable def xi_252 (pc : Nat) : XIs := cond (Nat.blt pc 32) (xi_252_0) (xi_252_1)
theorem xi_ok252 (pc : Nat) : xi_ok cX11_figures (xi_252 pc) = true := xi_c (xi_ok252_0) (xi_ok252_1)
noncomputable def xi_253_0 : XIs := [(0, .aload_n 0, 1), (1, .getfield 79, 3), (4, .aload_n 0, 1), (5, .getfield 30, 3), (8, .invokevirtual 340, 3), (11, .ifCond .eq 7, 3), (14, .iconst 0, 1), (15, .goto 5, 3), (18, .bipush (-4), 2), (20, .ireturn, 1)]
set_option maxRecDepth 100000 in
theorem xi_w253 : xi_ok cX11_pattern (xi_253_0) = true := dl_all _ _ (by decide +kernel)
theorem xi_ok253_0 : xi_ok cX11_pattern xi_253_0 = true := xi_w253
noncomputable def xi_253 (pc : Nat) : XIs := xi_253_0
theorem xi_ok253 (pc : Nat) : xi_ok cX11_pattern (xi_253 pc) = true := xi_ok253_0
noncomputable def xi_254_0 : XIs := [(0, .aload_n 0, 1), (1, .invokevirtual 160, 3), (4, .astore_n 3, 1), (5, .aload_n 3, 1), (6, .iload_n 1, 1), (7, .invokevirtual 145, 3), (10, .ifCond .eq 15, 3), (13, .aload_n 3, 1), (14, .iload_n 2, 1), (15, .invokevirtual 145, 3), (18, .ifCond .eq 7, 3), (21, .iconst 1, 1), (22, .goto 4, 3), (25, .iconst 0, 1), (26, .invokestatic 94, 3), (29, .aload_n 0, 1)]
noncomputable def xi_254_1 : XIs := [(30, .getfield 79, 3), (33, .aload_n 3, 1), (34, .iload_n 1, 1), (35, .iload_n 2, 1), (36, .invokevirtual 344, 3), (39, .ireturn, 1)]
set_option maxRecDepth 100000 in
theorem xi_w254 : xi_ok cX11_fits (xi_254_0 ++ (xi_254_1)) = true := dl_all _ _ (by decide +kernel)
theorem xi_ok254_0 : xi_ok cX11_fits xi_254_0 = true := (xi_ap xi_w254).1
theorem xi_r254_1 : xi_ok cX11_fits (xi_254_1) = true := (xi_ap xi_w254).2
theorem xi_ok254_1 : xi_ok cX11_fits xi_254_1 = true := xi_r254_1
noncomputable def xi_254 (pc : Nat) : XIs := cond (Nat.blt pc 30) (xi_254_0) (xi_254_1)
theorem xi_ok254 (pc : Nat) : xi_ok cX11_fits (xi_254 pc) = true := xi_c (xi_ok254_0) (xi_ok254_1)
noncomputable def xi_255_0 : XIs := [(0, .aload_n 0, 1), (1, .getfield 86, 3), (4, .aload_n 0, 1), (5, .getfield 30, 3), (8, .invokevirtual 347, 3), (11, .ifCond .eq 7, 3), (14, .iconst 0, 1), (15, .goto 5, 3), (18, .bipush (-4), 2), (20, .ireturn, 1)]
set_option maxRecDepth 100000 in
theorem xi_w255 : xi_ok cX11_program (xi_255_0) = true := dl_all _ _ (by decide +kernel)
theorem xi_ok255_0 : xi_ok cX11_program xi_255_0 = true := xi_w255
noncomputable def xi_255 (pc : Nat) : XIs := xi_255_0
theorem xi_ok255 (pc : Nat) : xi_ok cX11_program (xi_255 pc) = true := xi_ok255_0
noncomputable def xi_256_0 : XIs := [(0, .iload_n 1, 1), (1, .ifCond .lt 34, 3), (4, .iload_n 1, 1), (5, .sipush 200, 3), (8, .if_icmp .gt 27, 3), (11, .iload_n 2, 1), (12, .iconst 1, 1), (13, .if_icmp .lt 22, 3), (16, .iload_n 2, 1), (17, .iconst 4, 1), (18, .if_icmp .gt 17, 3), (21, .iload_n 3, 1), (22, .ifCond .lt 13, 3), (25, .iload_n 3, 1), (26, .bipush 90, 2), (28, .if_icmp .gt 7, 3)]
noncomputable def xi_256_1 : XIs := [(31, .iconst 1, 1), (32, .goto 4, 3), (35, .iconst 0, 1), (36, .invokestatic 94, 3), (39, .aload_n 0, 1), (40, .invokevirtual 160, 3), (43, .astore 6, 2), (45, .aload_n 0, 1), (46, .getfield 86, 3), (49, .aload 6, 2), (51, .iload_n 1, 1), (52, .invokevirtual 348, 3), (55, .istore 7, 2), (57, .aload_n 0, 1), (58, .getfield 86, 3), (61, .aload 6, 2)]
noncomputable def xi_256_2 : XIs := [(63, .iload 7, 2), (65, .iload_n 2, 1), (66, .iload_n 3, 1), (67, .lload 4, 2), (69, .invokevirtual 351, 3), (72, .iload 7, 2), (74, .ireturn, 1)]
set_option maxRecDepth 100000 in
theorem xi_w256 : xi_ok cX11_run (xi_256_0 ++ (xi_256_1 ++ (xi_256_2))) = true := dl_all _ _ (by decide +kernel)
theorem xi_ok256_0 : xi_ok cX11_run xi_256_0 = true := (xi_ap xi_w256).1
theorem xi_r256_1 : xi_ok cX11_run (xi_256_1 ++ (xi_256_2)) = true := (xi_ap xi_w256).2
theorem xi_ok256_1 : xi_ok cX11_run xi_256_1 = true := (xi_ap xi_r256_1).1
theorem xi_r256_2 : xi_ok cX11_run (xi_256_2) = true := (xi_ap xi_r256_1).2
theorem xi_ok256_2 : xi_ok cX11_run xi_256_2 = true := xi_r256_2
noncomputable def xi_256 (pc : Nat) : XIs := cond (Nat.blt pc 31) (xi_256_0) (cond (Nat.blt pc 63) (xi_256_1) (xi_256_2))
theorem xi_ok256 (pc : Nat) : xi_ok cX11_run (xi_256 pc) = true := xi_c (xi_ok256_0) (xi_c (xi_ok256_1) (xi_ok256_2))
noncomputable def xi_257_0 : XIs := [(0, .iload_n 1, 1), (1, .ifCond .lt 18, 3), (4, .iload_n 1, 1), (5, .aload_n 0, 1), (6, .getfield 86, 3), (9, .getfield 355, 3), (12, .if_icmp .ge 7, 3), (15, .iconst 1, 1), (16, .goto 4, 3), (19, .iconst 0, 1), (20, .invokestatic 94, 3), (23, .aload_n 0, 1), (24, .getfield 86, 3), (27, .getfield 356, 3), (30, .iload_n 1, 1), (31, .laload, 1)]
noncomputable def xi_257_1 : XIs := [(32, .lreturn, 1)]
set_option maxRecDepth 100000 in
theorem xi_w257 : xi_ok cX11_state (xi_257_0 ++ (xi_257_1)) = true := dl_all _ _ (by decide +kernel)
theorem xi_ok257_0 : xi_ok cX11_state xi_257_0 = true := (xi_ap xi_w257).1
theorem xi_r257_1 : xi_ok cX11_state (xi_257_1) = true := (xi_ap xi_w257).2
theorem xi_ok257_1 : xi_ok cX11_state xi_257_1 = true := xi_r257_1
noncomputable def xi_257 (pc : Nat) : XIs := cond (Nat.blt pc 32) (xi_257_0) (xi_257_1)
theorem xi_ok257 (pc : Nat) : xi_ok cX11_state (xi_257 pc) = true := xi_c (xi_ok257_0) (xi_ok257_1)
noncomputable def xi_258_0 : XIs := [(0, .iload_n 1, 1), (1, .ifCond .lt 12, 3), (4, .iload_n 1, 1), (5, .iconst 2, 1), (6, .if_icmp .gt 7, 3), (9, .iconst 1, 1), (10, .goto 4, 3), (13, .iconst 0, 1), (14, .invokestatic 94, 3), (17, .iload_n 1, 1), (18, .ifCond .ne 11, 3), (21, .aload_n 0, 1), (22, .getfield 86, 3), (25, .getfield 360, 3), (28, .ireturn, 1), (29, .iload_n 1, 1)]
noncomputable def xi_258_1 : XIs := [(30, .iconst 1, 1), (31, .if_icmp .ne 13, 3), (34, .aload_n 0, 1), (35, .getfield 86, 3), (38, .getfield 363, 3), (41, .goto 10, 3), (44, .aload_n 0, 1), (45, .getfield 86, 3), (48, .getfield 366, 3), (51, .ireturn, 1)]
set_option maxRecDepth 100000 in
theorem xi_w258 : xi_ok cX11_letters (xi_258_0 ++ (xi_258_1)) = true := dl_all _ _ (by decide +kernel)
theorem xi_ok258_0 : xi_ok cX11_letters xi_258_0 = true := (xi_ap xi_w258).1
theorem xi_r258_1 : xi_ok cX11_letters (xi_258_1) = true := (xi_ap xi_w258).2
theorem xi_ok258_1 : xi_ok cX11_letters xi_258_1 = true := xi_r258_1
noncomputable def xi_258 (pc : Nat) : XIs := cond (Nat.blt pc 30) (xi_258_0) (xi_258_1)
theorem xi_ok258 (pc : Nat) : xi_ok cX11_letters (xi_258 pc) = true := xi_c (xi_ok258_0) (xi_ok258_1)
noncomputable def xi_259_0 : XIs := [(0, .aload_n 0, 1), (1, .getfield 23, 3), (4, .iconst (-1), 1), (5, .if_icmp .ne 13, 3), (8, .aload_n 0, 1), (9, .getfield 10, 3), (12, .getfield 98, 3), (15, .goto 7, 3), (18, .aload_n 0, 1), (19, .getfield 19, 3), (22, .areturn, 1)]
set_option maxRecDepth 100000 in
theorem xi_w259 : xi_ok cX11_graph (xi_259_0) = true := dl_all _ _ (by decide +kernel)
theorem xi_ok259_0 : xi_ok cX11_graph xi_259_0 = true := xi_w259
noncomputable def xi_259 (pc : Nat) : XIs := xi_259_0
theorem xi_ok259 (pc : Nat) : xi_ok cX11_graph (xi_259 pc) = true := xi_ok259_0
noncomputable def xi_260_0 : XIs := [(0, .iload_n 0, 1), (1, .ifCond .lt 13, 3), (4, .iload_n 0, 1), (5, .bipush 26, 2), (7, .if_icmp .ge 7, 3), (10, .iconst 1, 1), (11, .goto 4, 3), (14, .iconst 0, 1), (15, .ireturn, 1)]
set_option maxRecDepth 100000 in
theorem xi_w260 : xi_ok cX11_isLetter (xi_260_0) = true := dl_all _ _ (by decide +kernel)
theorem xi_ok260_0 : xi_ok cX11_isLetter xi_260_0 = true := xi_w260
noncomputable def xi_260 (pc : Nat) : XIs := xi_260_0
theorem xi_ok260 (pc : Nat) : xi_ok cX11_isLetter (xi_260 pc) = true := xi_ok260_0
noncomputable def xi_261_0 : XIs := [(0, .iload_n 0, 1), (1, .ldc_w 375, 3), (4, .if_icmp .lt 14, 3), (7, .iload_n 0, 1), (8, .ldc_w 376, 3), (11, .if_icmp .gt 7, 3), (14, .iconst 1, 1), (15, .goto 4, 3), (18, .iconst 0, 1), (19, .ireturn, 1)]
set_option maxRecDepth 100000 in
theorem xi_w261 : xi_ok cX11_isWeight (xi_261_0) = true := dl_all _ _ (by decide +kernel)
theorem xi_ok261_0 : xi_ok cX11_isWeight xi_261_0 = true := xi_w261
noncomputable def xi_261 (pc : Nat) : XIs := xi_261_0
theorem xi_ok261 (pc : Nat) : xi_ok cX11_isWeight (xi_261 pc) = true := xi_ok261_0
noncomputable def xi_262_0 : XIs := [(0, .iload_n 0, 1), (1, .ifCond .lt 14, 3), (4, .iload_n 0, 1), (5, .ldc_w 376, 3), (8, .if_icmp .gt 7, 3), (11, .iconst 1, 1), (12, .goto 4, 3), (15, .iconst 0, 1), (16, .ireturn, 1)]
set_option maxRecDepth 100000 in
theorem xi_w262 : xi_ok cX11_isRoom (xi_262_0) = true := dl_all _ _ (by decide +kernel)
theorem xi_ok262_0 : xi_ok cX11_isRoom xi_262_0 = true := xi_w262
noncomputable def xi_262 (pc : Nat) : XIs := xi_262_0
theorem xi_ok262 (pc : Nat) : xi_ok cX11_isRoom (xi_262 pc) = true := xi_ok262_0
noncomputable def xi_263_0 : XIs := [(0, .iload_n 0, 1), (1, .ifCond .ne 8, 3), (4, .iload_n 1, 1), (5, .invokestatic 377, 3), (8, .ireturn, 1), (9, .iload_n 0, 1), (10, .iconst 1, 1), (11, .if_icmp .ne 8, 3), (14, .iload_n 1, 1), (15, .invokestatic 380, 3), (18, .ireturn, 1), (19, .iload_n 0, 1), (20, .iconst 2, 1), (21, .if_icmp .ne 14, 3), (24, .iload_n 1, 1), (25, .invokestatic 90, 3)]
noncomputable def xi_263_1 : XIs := [(28, .ifCond .eq 7, 3), (31, .iconst 1, 1), (32, .goto 4, 3), (35, .iconst 0, 1), (36, .ireturn, 1)]
set_option maxRecDepth 100000 in
theorem xi_w263 : xi_ok cX11_isGoodValue (xi_263_0 ++ (xi_263_1)) = true := dl_all _ _ (by decide +kernel)
theorem xi_ok263_0 : xi_ok cX11_isGoodValue xi_263_0 = true := (xi_ap xi_w263).1
theorem xi_r263_1 : xi_ok cX11_isGoodValue (xi_263_1) = true := (xi_ap xi_w263).2
theorem xi_ok263_1 : xi_ok cX11_isGoodValue xi_263_1 = true := xi_r263_1
noncomputable def xi_263 (pc : Nat) : XIs := cond (Nat.blt pc 28) (xi_263_0) (xi_263_1)
theorem xi_ok263 (pc : Nat) : xi_ok cX11_isGoodValue (xi_263 pc) = true := xi_c (xi_ok263_0) (xi_ok263_1)
noncomputable def xi_264_0 : XIs := [(0, .iload_n 0, 1), (1, .iload_n 0, 1), (2, .ineg, 1), (3, .iand, 1), (4, .iconst 1, 1), (5, .isub, 1), (6, .invokestatic 275, 3), (9, .ireturn, 1)]
set_option maxRecDepth 100000 in
theorem xi_w264 : xi_ok cX11_lowest (xi_264_0) = true := dl_all _ _ (by decide +kernel)
theorem xi_ok264_0 : xi_ok cX11_lowest xi_264_0 = true := xi_w264
noncomputable def xi_264 (pc : Nat) : XIs := xi_264_0
theorem xi_ok264 (pc : Nat) : xi_ok cX11_lowest (xi_264 pc) = true := xi_ok264_0
noncomputable def xi_265_0 : XIs := [(0, .lload_n 0, 1), (1, .lload_n 0, 1), (2, .lneg, 1), (3, .land, 1), (4, .lconst 1, 1), (5, .lsub, 1), (6, .invokestatic 383, 3), (9, .ireturn, 1)]
set_option maxRecDepth 100000 in
theorem xi_w265 : xi_ok cX11_lowestOfLong (xi_265_0) = true := dl_all _ _ (by decide +kernel)
theorem xi_ok265_0 : xi_ok cX11_lowestOfLong xi_265_0 = true := xi_w265
noncomputable def xi_265 (pc : Nat) : XIs := xi_265_0
theorem xi_ok265 (pc : Nat) : xi_ok cX11_lowestOfLong (xi_265 pc) = true := xi_ok265_0
noncomputable def xi_266_0 : XIs := [(0, .iload_n 1, 1), (1, .istore_n 3, 1), (2, .iload_n 1, 1), (3, .istore 4, 2), (5, .iconst 0, 1), (6, .istore 5, 2), (8, .iload 5, 2), (10, .bipush 32, 2), (12, .if_icmp .ge 50, 3), (15, .iload 4, 2), (17, .ifCond .eq 45, 3), (20, .aload_n 0, 1), (21, .iload 4, 2), (23, .invokestatic 280, 3), (26, .iaload, 1), (27, .iload_n 2, 1)]
noncomputable def xi_266_1 : XIs := [(28, .iand, 1), (29, .iload_n 3, 1), (30, .iconst (-1), 1), (31, .ixor, 1), (32, .iand, 1), (33, .istore 6, 2), (35, .iload 4, 2), (37, .iload 4, 2), (39, .iconst 1, 1), (40, .isub, 1), (41, .iand, 1), (42, .istore 4, 2), (44, .iload 4, 2), (46, .iload 6, 2), (48, .ior, 1), (49, .istore 4, 2)]
noncomputable def xi_266_2 : XIs := [(51, .iload_n 3, 1), (52, .iload 6, 2), (54, .ior, 1), (55, .istore_n 3, 1), (56, .iinc 5 1, 3), (59, .goto (-51), 3), (62, .iload_n 3, 1), (63, .ireturn, 1)]
set_option maxRecDepth 100000 in
theorem xi_w266 : xi_ok cX11_flood (xi_266_0 ++ (xi_266_1 ++ (xi_266_2))) = true := dl_all _ _ (by decide +kernel)
theorem xi_ok266_0 : xi_ok cX11_flood xi_266_0 = true := (xi_ap xi_w266).1
theorem xi_r266_1 : xi_ok cX11_flood (xi_266_1 ++ (xi_266_2)) = true := (xi_ap xi_w266).2
theorem xi_ok266_1 : xi_ok cX11_flood xi_266_1 = true := (xi_ap xi_r266_1).1
theorem xi_r266_2 : xi_ok cX11_flood (xi_266_2) = true := (xi_ap xi_r266_1).2
theorem xi_ok266_2 : xi_ok cX11_flood xi_266_2 = true := xi_r266_2
noncomputable def xi_266 (pc : Nat) : XIs := cond (Nat.blt pc 28) (xi_266_0) (cond (Nat.blt pc 51) (xi_266_1) (xi_266_2))
theorem xi_ok266 (pc : Nat) : xi_ok cX11_flood (xi_266 pc) = true := xi_c (xi_ok266_0) (xi_c (xi_ok266_1) (xi_ok266_2))
noncomputable def xi_267_0 : XIs := [(0, .aload_n 0, 1), (1, .invokespecial 1, 3), (4, .aload_n 0, 1), (5, .iconst 3, 1), (6, .newarray .int, 2), (8, .putfield 7, 3), (11, .aload_n 0, 1), (12, .bipush 96, 2), (14, .newarray .int, 2), (16, .putfield 13, 3), (19, .aload_n 0, 1), (20, .sipush 480, 3), (23, .newarray .boolean, 2), (25, .putfield 16, 3), (28, .aload_n 0, 1), (29, .sipush 480, 3)]
noncomputable def xi_267_1 : XIs := [(32, .newarray .int, 2), (34, .putfield 20, 3), (37, .aload_n 0, 1), (38, .sipush 480, 3), (41, .newarray .int, 2), (43, .putfield 23, 3), (46, .aload_n 0, 1), (47, .sipush 480, 3), (50, .newarray .int, 2), (52, .putfield 26, 3), (55, .aload_n 0, 1), (56, .sipush 480, 3), (59, .newarray .int, 2), (61, .putfield 29, 3), (64, .aload_n 0, 1), (65, .sipush 480, 3)]
noncomputable def xi_267_2 : XIs := [(68, .newarray .int, 2), (70, .putfield 32, 3), (73, .aload_n 0, 1), (74, .sipush 4000, 3), (77, .newarray .int, 2), (79, .putfield 35, 3), (82, .aload_n 0, 1), (83, .sipush 4000, 3), (86, .newarray .int, 2), (88, .putfield 38, 3), (91, .aload_n 0, 1), (92, .sipush 4000, 3), (95, .newarray .int, 2), (97, .putfield 41, 3), (100, .aload_n 0, 1), (101, .sipush 4000, 3)]
noncomputable def xi_267_3 : XIs := [(104, .newarray .int, 2), (106, .putfield 44, 3), (109, .aload_n 0, 1), (110, .sipush 4000, 3), (113, .newarray .int, 2), (115, .putfield 47, 3), (118, .aload_n 0, 1), (119, .sipush 4000, 3), (122, .newarray .int, 2), (124, .putfield 50, 3), (127, .aload_n 0, 1), (128, .sipush 4000, 3), (131, .newarray .int, 2), (133, .putfield 53, 3), (136, .aload_n 0, 1), (137, .iconst (-1), 1)]
noncomputable def xi_267_4 : XIs := [(138, .putfield 56, 3), (141, .aload_n 0, 1), (142, .sipush 1000, 3), (145, .newarray .int, 2), (147, .putfield 60, 3), (150, .aload_n 0, 1), (151, .sipush 8000, 3), (154, .newarray .int, 2), (156, .putfield 63, 3), (159, .aload_n 0, 1), (160, .sipush 500, 3), (163, .newarray .int, 2), (165, .putfield 66, 3), (168, .aload_n 0, 1), (169, .sipush 2500, 3), (172, .newarray .int, 2)]
noncomputable def xi_267_5 : XIs := [(174, .putfield 69, 3), (177, .aload_n 0, 1), (178, .bipush 32, 2), (180, .newarray .int, 2), (182, .putfield 72, 3), (185, .aload_n 0, 1), (186, .bipush 32, 2), (188, .newarray .long, 2), (190, .putfield 75, 3), (193, .aload_n 0, 1), (194, .bipush 32, 2), (196, .newarray .int, 2), (198, .putfield 79, 3), (201, .aload_n 0, 1), (202, .sipush 4000, 3), (205, .newarray .int, 2)]
noncomputable def xi_267_6 : XIs := [(207, .putfield 82, 3), (210, .aload_n 0, 1), (211, .bipush 32, 2), (213, .newarray .int, 2), (215, .putfield 85, 3), (218, .aload_n 0, 1), (219, .sipush 10005, 3), (222, .newarray .int, 2), (224, .putfield 88, 3), (227, .aload_n 0, 1), (228, .sipush 2001, 3), (231, .newarray .long, 2), (233, .putfield 91, 3), (236, .aload_n 0, 1), (237, .sipush 2001, 3), (240, .newarray .int, 2)]
noncomputable def xi_267_7 : XIs := [(242, .putfield 94, 3), (245, .aload_n 0, 1), (246, .sipush 2001, 3), (249, .newarray .int, 2), (251, .putfield 97, 3), (254, .aload_n 0, 1), (255, .bipush 32, 2), (257, .newarray .int, 2), (259, .putfield 100, 3), (262, .aload_n 0, 1), (263, .bipush 33, 2), (265, .newarray .int, 2), (267, .putfield 103, 3), (270, .aload_n 0, 1), (271, .bipush 33, 2), (273, .newarray .int, 2)]
noncomputable def xi_267_8 : XIs := [(275, .putfield 106, 3), (278, .aload_n 0, 1), (279, .bipush 32, 2), (281, .newarray .int, 2), (283, .putfield 109, 3), (286, .aload_n 0, 1), (287, .bipush 32, 2), (289, .newarray .int, 2), (291, .putfield 112, 3), (294, .aload_n 0, 1), (295, .bipush 32, 2), (297, .newarray .int, 2), (299, .putfield 115, 3), (302, .aload_n 0, 1), (303, .bipush 33, 2), (305, .newarray .int, 2)]
noncomputable def xi_267_9 : XIs := [(307, .putfield 118, 3), (310, .aload_n 0, 1), (311, .bipush 33, 2), (313, .newarray .int, 2), (315, .putfield 121, 3), (318, .aload_n 0, 1), (319, .bipush 33, 2), (321, .newarray .int, 2), (323, .putfield 124, 3), (326, .aload_n 0, 1), (327, .sipush 160, 3), (330, .newarray .long, 2), (332, .putfield 127, 3), (335, .aload_n 0, 1), (336, .bipush 34, 2), (338, .newarray .int, 2)]
noncomputable def xi_267_10 : XIs := [(340, .putfield 130, 3), (343, .aload_n 0, 1), (344, .bipush 34, 2), (346, .newarray .long, 2), (348, .putfield 133, 3), (351, .aload_n 0, 1), (352, .bipush 32, 2), (354, .newarray .long, 2), (356, .putfield 136, 3), (359, .aload_n 0, 1), (360, .bipush 32, 2), (362, .newarray .int, 2), (364, .putfield 139, 3), (367, .aload_n 0, 1), (368, .sipush 1024, 3), (371, .newarray .long, 2)]
noncomputable def xi_267_11 : XIs := [(373, .putfield 142, 3), (376, .aload_n 0, 1), (377, .sipush 160, 3), (380, .newarray .int, 2), (382, .putfield 145, 3), (385, .aload_n 0, 1), (386, .sipush 160, 3), (389, .newarray .int, 2), (391, .putfield 148, 3), (394, .aload_n 0, 1), (395, .sipush 160, 3), (398, .newarray .long, 2), (400, .putfield 151, 3), (403, .aload_n 0, 1), (404, .bipush 32, 2), (406, .newarray .long, 2)]
noncomputable def xi_267_12 : XIs := [(408, .putfield 154, 3), (411, .aload_n 0, 1), (412, .bipush 32, 2), (414, .newarray .int, 2), (416, .putfield 157, 3), (419, .aload_n 0, 1), (420, .bipush 32, 2), (422, .newarray .int, 2), (424, .putfield 160, 3), (427, .aload_n 0, 1), (428, .bipush 32, 2), (430, .newarray .int, 2), (432, .putfield 163, 3), (435, .aload_n 0, 1), (436, .bipush 32, 2), (438, .newarray .int, 2)]
noncomputable def xi_267_13 : XIs := [(440, .putfield 166, 3), (443, .aload_n 0, 1), (444, .sipush 1024, 3), (447, .newarray .long, 2), (449, .putfield 169, 3), (452, .aload_n 0, 1), (453, .bipush 32, 2), (455, .newarray .long, 2), (457, .putfield 172, 3), (460, .aload_n 0, 1), (461, .bipush 32, 2), (463, .newarray .long, 2), (465, .putfield 175, 3), (468, .aload_n 0, 1), (469, .bipush 32, 2), (471, .newarray .int, 2)]
noncomputable def xi_267_14 : XIs := [(473, .putfield 178, 3), (476, .aload_n 0, 1), (477, .bipush 32, 2), (479, .newarray .int, 2), (481, .putfield 181, 3), (484, .aload_n 0, 1), (485, .bipush 32, 2), (487, .newarray .long, 2), (489, .putfield 184, 3), (492, .aload_n 0, 1), (493, .bipush 32, 2), (495, .newarray .int, 2), (497, .putfield 187, 3), (500, .aload_n 0, 1), (501, .bipush 32, 2), (503, .newarray .long, 2)]
noncomputable def xi_267_15 : XIs := [(505, .putfield 190, 3), (508, .aload_n 0, 1), (509, .bipush 32, 2), (511, .newarray .int, 2), (513, .putfield 193, 3), (516, .aload_n 0, 1), (517, .bipush 32, 2), (519, .newarray .int, 2), (521, .putfield 196, 3), (524, .aload_n 0, 1), (525, .sipush 1024, 3), (528, .newarray .int, 2), (530, .putfield 199, 3), (533, .aload_n 0, 1), (534, .bipush 60, 2), (536, .newarray .int, 2)]
noncomputable def xi_267_16 : XIs := [(538, .putfield 202, 3), (541, .aload_n 0, 1), (542, .bipush 60, 2), (544, .newarray .long, 2), (546, .putfield 205, 3), (549, .aload_n 0, 1), (550, .iconst 1, 1), (551, .putfield 208, 3), (554, .aload_n 0, 1), (555, .bipush 60, 2), (557, .newarray .int, 2), (559, .putfield 212, 3), (562, .aload_n 0, 1), (563, .bipush 60, 2), (565, .newarray .long, 2), (567, .putfield 215, 3)]
noncomputable def xi_267_17 : XIs := [(570, .aload_n 0, 1), (571, .bipush 12, 2), (573, .newarray .boolean, 2), (575, .putfield 218, 3), (578, .aload_n 0, 1), (579, .bipush 12, 2), (581, .newarray .boolean, 2), (583, .putfield 221, 3), (586, .aload_n 0, 1), (587, .bipush 12, 2), (589, .newarray .long, 2), (591, .putfield 224, 3), (594, .aload_n 0, 1), (595, .bipush 12, 2), (597, .newarray .long, 2), (599, .putfield 227, 3)]
noncomputable def xi_267_18 : XIs := [(602, .aload_n 0, 1), (603, .bipush 12, 2), (605, .newarray .boolean, 2), (607, .putfield 230, 3), (610, .aload_n 0, 1), (611, .bipush 12, 2), (613, .newarray .long, 2), (615, .putfield 233, 3), (618, .aload_n 0, 1), (619, .bipush 12, 2), (621, .newarray .long, 2), (623, .putfield 236, 3), (626, .aload_n 0, 1), (627, .sipush 2000, 3), (630, .newarray .int, 2), (632, .putfield 239, 3)]
noncomputable def xi_267_19 : XIs := [(635, .aload_n 0, 1), (636, .sipush 400, 3), (639, .newarray .int, 2), (641, .putfield 242, 3), (644, .aload_n 0, 1), (645, .sipush 400, 3), (648, .newarray .int, 2), (650, .putfield 245, 3), (653, .aload_n 0, 1), (654, .iconst 3, 1), (655, .newarray .int, 2), (657, .putfield 248, 3), (660, .aload_n 0, 1), (661, .sipush 400, 3), (664, .newarray .int, 2), (666, .putfield 251, 3)]
noncomputable def xi_267_20 : XIs := [(669, .aload_n 0, 1), (670, .sipush 400, 3), (673, .newarray .int, 2), (675, .putfield 254, 3), (678, .aload_n 0, 1), (679, .iconst 3, 1), (680, .newarray .int, 2), (682, .putfield 257, 3), (685, .aload_n 0, 1), (686, .sipush 200, 3), (689, .newarray .int, 2), (691, .putfield 260, 3), (694, .aload_n 0, 1), (695, .bipush 32, 2), (697, .newarray .long, 2), (699, .putfield 263, 3)]
noncomputable def xi_267_21 : XIs := [(702, .aload_n 0, 1), (703, .bipush 32, 2), (705, .newarray .long, 2), (707, .putfield 266, 3), (710, .aload_n 0, 1), (711, .sipush 200, 3), (714, .newarray .long, 2), (716, .putfield 269, 3), (719, .aload_n 0, 1), (720, .bipush 9, 2), (722, .newarray .long, 2), (724, .putfield 272, 3), (727, .aload_n 0, 1), (728, .invokevirtual 275, 3), (731, .return_, 1)]
set_option maxRecDepth 100000 in
theorem xi_w267 : xi_ok cX12_init (xi_267_0 ++ (xi_267_1 ++ (xi_267_2 ++ (xi_267_3 ++ (xi_267_4 ++ (xi_267_5 ++ (xi_267_6 ++ (xi_267_7 ++ (xi_267_8 ++ (xi_267_9 ++ (xi_267_10 ++ (xi_267_11 ++ (xi_267_12 ++ (xi_267_13 ++ (xi_267_14 ++ (xi_267_15 ++ (xi_267_16 ++ (xi_267_17 ++ (xi_267_18 ++ (xi_267_19 ++ (xi_267_20 ++ (xi_267_21)))))))))))))))))))))) = true := dl_all _ _ (by decide +kernel)
theorem xi_ok267_0 : xi_ok cX12_init xi_267_0 = true := (xi_ap xi_w267).1
theorem xi_r267_1 : xi_ok cX12_init (xi_267_1 ++ (xi_267_2 ++ (xi_267_3 ++ (xi_267_4 ++ (xi_267_5 ++ (xi_267_6 ++ (xi_267_7 ++ (xi_267_8 ++ (xi_267_9 ++ (xi_267_10 ++ (xi_267_11 ++ (xi_267_12 ++ (xi_267_13 ++ (xi_267_14 ++ (xi_267_15 ++ (xi_267_16 ++ (xi_267_17 ++ (xi_267_18 ++ (xi_267_19 ++ (xi_267_20 ++ (xi_267_21))))))))))))))))))))) = true := (xi_ap xi_w267).2
theorem xi_ok267_1 : xi_ok cX12_init xi_267_1 = true := (xi_ap xi_r267_1).1
theorem xi_r267_2 : xi_ok cX12_init (xi_267_2 ++ (xi_267_3 ++ (xi_267_4 ++ (xi_267_5 ++ (xi_267_6 ++ (xi_267_7 ++ (xi_267_8 ++ (xi_267_9 ++ (xi_267_10 ++ (xi_267_11 ++ (xi_267_12 ++ (xi_267_13 ++ (xi_267_14 ++ (xi_267_15 ++ (xi_267_16 ++ (xi_267_17 ++ (xi_267_18 ++ (xi_267_19 ++ (xi_267_20 ++ (xi_267_21)))))))))))))))))))) = true := (xi_ap xi_r267_1).2
theorem xi_ok267_2 : xi_ok cX12_init xi_267_2 = true := (xi_ap xi_r267_2).1
theorem xi_r267_3 : xi_ok cX12_init (xi_267_3 ++ (xi_267_4 ++ (xi_267_5 ++ (xi_267_6 ++ (xi_267_7 ++ (xi_267_8 ++ (xi_267_9 ++ (xi_267_10 ++ (xi_267_11 ++ (xi_267_12 ++ (xi_267_13 ++ (xi_267_14 ++ (xi_267_15 ++ (xi_267_16 ++ (xi_267_17 ++ (xi_267_18 ++ (xi_267_19 ++ (xi_267_20 ++ (xi_267_21))))))))))))))))))) = true := (xi_ap xi_r267_2).2
theorem xi_ok267_3 : xi_ok cX12_init xi_267_3 = true := (xi_ap xi_r267_3).1
theorem xi_r267_4 : xi_ok cX12_init (xi_267_4 ++ (xi_267_5 ++ (xi_267_6 ++ (xi_267_7 ++ (xi_267_8 ++ (xi_267_9 ++ (xi_267_10 ++ (xi_267_11 ++ (xi_267_12 ++ (xi_267_13 ++ (xi_267_14 ++ (xi_267_15 ++ (xi_267_16 ++ (xi_267_17 ++ (xi_267_18 ++ (xi_267_19 ++ (xi_267_20 ++ (xi_267_21)))))))))))))))))) = true := (xi_ap xi_r267_3).2
theorem xi_ok267_4 : xi_ok cX12_init xi_267_4 = true := (xi_ap xi_r267_4).1
theorem xi_r267_5 : xi_ok cX12_init (xi_267_5 ++ (xi_267_6 ++ (xi_267_7 ++ (xi_267_8 ++ (xi_267_9 ++ (xi_267_10 ++ (xi_267_11 ++ (xi_267_12 ++ (xi_267_13 ++ (xi_267_14 ++ (xi_267_15 ++ (xi_267_16 ++ (xi_267_17 ++ (xi_267_18 ++ (xi_267_19 ++ (xi_267_20 ++ (xi_267_21))))))))))))))))) = true := (xi_ap xi_r267_4).2
theorem xi_ok267_5 : xi_ok cX12_init xi_267_5 = true := (xi_ap xi_r267_5).1
theorem xi_r267_6 : xi_ok cX12_init (xi_267_6 ++ (xi_267_7 ++ (xi_267_8 ++ (xi_267_9 ++ (xi_267_10 ++ (xi_267_11 ++ (xi_267_12 ++ (xi_267_13 ++ (xi_267_14 ++ (xi_267_15 ++ (xi_267_16 ++ (xi_267_17 ++ (xi_267_18 ++ (xi_267_19 ++ (xi_267_20 ++ (xi_267_21)))))))))))))))) = true := (xi_ap xi_r267_5).2
theorem xi_ok267_6 : xi_ok cX12_init xi_267_6 = true := (xi_ap xi_r267_6).1
theorem xi_r267_7 : xi_ok cX12_init (xi_267_7 ++ (xi_267_8 ++ (xi_267_9 ++ (xi_267_10 ++ (xi_267_11 ++ (xi_267_12 ++ (xi_267_13 ++ (xi_267_14 ++ (xi_267_15 ++ (xi_267_16 ++ (xi_267_17 ++ (xi_267_18 ++ (xi_267_19 ++ (xi_267_20 ++ (xi_267_21))))))))))))))) = true := (xi_ap xi_r267_6).2
theorem xi_ok267_7 : xi_ok cX12_init xi_267_7 = true := (xi_ap xi_r267_7).1
theorem xi_r267_8 : xi_ok cX12_init (xi_267_8 ++ (xi_267_9 ++ (xi_267_10 ++ (xi_267_11 ++ (xi_267_12 ++ (xi_267_13 ++ (xi_267_14 ++ (xi_267_15 ++ (xi_267_16 ++ (xi_267_17 ++ (xi_267_18 ++ (xi_267_19 ++ (xi_267_20 ++ (xi_267_21)))))))))))))) = true := (xi_ap xi_r267_7).2
theorem xi_ok267_8 : xi_ok cX12_init xi_267_8 = true := (xi_ap xi_r267_8).1
theorem xi_r267_9 : xi_ok cX12_init (xi_267_9 ++ (xi_267_10 ++ (xi_267_11 ++ (xi_267_12 ++ (xi_267_13 ++ (xi_267_14 ++ (xi_267_15 ++ (xi_267_16 ++ (xi_267_17 ++ (xi_267_18 ++ (xi_267_19 ++ (xi_267_20 ++ (xi_267_21))))))))))))) = true := (xi_ap xi_r267_8).2
theorem xi_ok267_9 : xi_ok cX12_init xi_267_9 = true := (xi_ap xi_r267_9).1
theorem xi_r267_10 : xi_ok cX12_init (xi_267_10 ++ (xi_267_11 ++ (xi_267_12 ++ (xi_267_13 ++ (xi_267_14 ++ (xi_267_15 ++ (xi_267_16 ++ (xi_267_17 ++ (xi_267_18 ++ (xi_267_19 ++ (xi_267_20 ++ (xi_267_21)))))))))))) = true := (xi_ap xi_r267_9).2
theorem xi_ok267_10 : xi_ok cX12_init xi_267_10 = true := (xi_ap xi_r267_10).1
theorem xi_r267_11 : xi_ok cX12_init (xi_267_11 ++ (xi_267_12 ++ (xi_267_13 ++ (xi_267_14 ++ (xi_267_15 ++ (xi_267_16 ++ (xi_267_17 ++ (xi_267_18 ++ (xi_267_19 ++ (xi_267_20 ++ (xi_267_21))))))))))) = true := (xi_ap xi_r267_10).2
theorem xi_ok267_11 : xi_ok cX12_init xi_267_11 = true := (xi_ap xi_r267_11).1
theorem xi_r267_12 : xi_ok cX12_init (xi_267_12 ++ (xi_267_13 ++ (xi_267_14 ++ (xi_267_15 ++ (xi_267_16 ++ (xi_267_17 ++ (xi_267_18 ++ (xi_267_19 ++ (xi_267_20 ++ (xi_267_21)))))))))) = true := (xi_ap xi_r267_11).2
theorem xi_ok267_12 : xi_ok cX12_init xi_267_12 = true := (xi_ap xi_r267_12).1
theorem xi_r267_13 : xi_ok cX12_init (xi_267_13 ++ (xi_267_14 ++ (xi_267_15 ++ (xi_267_16 ++ (xi_267_17 ++ (xi_267_18 ++ (xi_267_19 ++ (xi_267_20 ++ (xi_267_21))))))))) = true := (xi_ap xi_r267_12).2
theorem xi_ok267_13 : xi_ok cX12_init xi_267_13 = true := (xi_ap xi_r267_13).1
theorem xi_r267_14 : xi_ok cX12_init (xi_267_14 ++ (xi_267_15 ++ (xi_267_16 ++ (xi_267_17 ++ (xi_267_18 ++ (xi_267_19 ++ (xi_267_20 ++ (xi_267_21)))))))) = true := (xi_ap xi_r267_13).2
theorem xi_ok267_14 : xi_ok cX12_init xi_267_14 = true := (xi_ap xi_r267_14).1
theorem xi_r267_15 : xi_ok cX12_init (xi_267_15 ++ (xi_267_16 ++ (xi_267_17 ++ (xi_267_18 ++ (xi_267_19 ++ (xi_267_20 ++ (xi_267_21))))))) = true := (xi_ap xi_r267_14).2
theorem xi_ok267_15 : xi_ok cX12_init xi_267_15 = true := (xi_ap xi_r267_15).1
theorem xi_r267_16 : xi_ok cX12_init (xi_267_16 ++ (xi_267_17 ++ (xi_267_18 ++ (xi_267_19 ++ (xi_267_20 ++ (xi_267_21)))))) = true := (xi_ap xi_r267_15).2
theorem xi_ok267_16 : xi_ok cX12_init xi_267_16 = true := (xi_ap xi_r267_16).1
theorem xi_r267_17 : xi_ok cX12_init (xi_267_17 ++ (xi_267_18 ++ (xi_267_19 ++ (xi_267_20 ++ (xi_267_21))))) = true := (xi_ap xi_r267_16).2
theorem xi_ok267_17 : xi_ok cX12_init xi_267_17 = true := (xi_ap xi_r267_17).1
theorem xi_r267_18 : xi_ok cX12_init (xi_267_18 ++ (xi_267_19 ++ (xi_267_20 ++ (xi_267_21)))) = true := (xi_ap xi_r267_17).2
theorem xi_ok267_18 : xi_ok cX12_init xi_267_18 = true := (xi_ap xi_r267_18).1
theorem xi_r267_19 : xi_ok cX12_init (xi_267_19 ++ (xi_267_20 ++ (xi_267_21))) = true := (xi_ap xi_r267_18).2
theorem xi_ok267_19 : xi_ok cX12_init xi_267_19 = true := (xi_ap xi_r267_19).1
theorem xi_r267_20 : xi_ok cX12_init (xi_267_20 ++ (xi_267_21)) = true := (xi_ap xi_r267_19).2
theorem xi_ok267_20 : xi_ok cX12_init xi_267_20 = true := (xi_ap xi_r267_20).1
theorem xi_r267_21 : xi_ok cX12_init (xi_267_21) = true := (xi_ap xi_r267_20).2
theorem xi_ok267_21 : xi_ok cX12_init xi_267_21 = true := xi_r267_21
noncomputable def xi_267 (pc : Nat) : XIs := cond (Nat.blt pc 373) (cond (Nat.blt pc 174) (cond (Nat.blt pc 68) (cond (Nat.blt pc 32) (xi_267_0) (xi_267_1)) (cond (Nat.blt pc 104) (xi_267_2) (cond (Nat.blt pc 138) (xi_267_3) (xi_267_4)))) (cond (Nat.blt pc 275) (cond (Nat.blt pc 207) (xi_267_5) (cond (Nat.blt pc 242) (xi_267_6) (xi_267_7))) (cond (Nat.blt pc 307) (xi_267_8) (cond (Nat.blt pc 340) (xi_267_9) (xi_267_10))))) (cond (Nat.blt pc 538) (cond (Nat.blt pc 440) (cond (Nat.blt pc 408) (xi_267_11) (xi_267_12)) (cond (Nat.blt pc 473) (xi_267_13) (cond (Nat.blt pc 505) (xi_267_14) (xi_267_15)))) (cond (Nat.blt pc 635) (cond (Nat.blt pc 570) (xi_267_16) (cond (Nat.blt pc 602) (xi_267_17) (xi_267_18))) (cond (Nat.blt pc 669) (xi_267_19) (cond (Nat.blt pc 702) (xi_267_20) (xi_267_21)))))
theorem xi_ok267 (pc : Nat) : xi_ok cX12_init (xi_267 pc) = true := xi_c (xi_c (xi_c (xi_c (xi_ok267_0) (xi_ok267_1)) (xi_c (xi_ok267_2) (xi_c (xi_ok267_3) (xi_ok267_4)))) (xi_c (xi_c (xi_ok267_5) (xi_c (xi_ok267_6) (xi_ok267_7))) (xi_c (xi_ok267_8) (xi_c (xi_ok267_9) (xi_ok267_10))))) (xi_c (xi_c (xi_c (xi_ok267_11) (xi_ok267_12)) (xi_c (xi_ok267_13) (xi_c (xi_ok267_14) (xi_ok267_15)))) (xi_c (xi_c (xi_ok267_16) (xi_c (xi_ok267_17) (xi_ok267_18))) (xi_c (xi_ok267_19) (xi_c (xi_ok267_20) (xi_ok267_21)))))
noncomputable def xi_268_0 : XIs := [(0, .aload_n 0, 1), (1, .getfield 278, 3), (4, .ireturn, 1)]
set_option maxRecDepth 100000 in
theorem xi_w268 : xi_ok cX12_thrown (xi_268_0) = true := dl_all _ _ (by decide +kernel)
theorem xi_ok268_0 : xi_ok cX12_thrown xi_268_0 = true := xi_w268
noncomputable def xi_268 (pc : Nat) : XIs := xi_268_0
theorem xi_ok268 (pc : Nat) : xi_ok cX12_thrown (xi_268 pc) = true := xi_ok268_0
noncomputable def xi_269_0 : XIs := [(0, .lload_n 0, 1), (1, .lload_n 2, 1), (2, .lcmp, 1), (3, .ifCond .lt 14, 3), (6, .lload_n 0, 1), (7, .lload 4, 2), (9, .lcmp, 1), (10, .ifCond .gt 7, 3), (13, .iconst 1, 1), (14, .goto 4, 3), (17, .iconst 0, 1), (18, .ireturn, 1)]
set_option maxRecDepth 100000 in
theorem xi_w269 : xi_ok cX12_in (xi_269_0) = true := dl_all _ _ (by decide +kernel)
theorem xi_ok269_0 : xi_ok cX12_in xi_269_0 = true := xi_w269
noncomputable def xi_269 (pc : Nat) : XIs := xi_269_0
theorem xi_ok269 (pc : Nat) : xi_ok cX12_in (xi_269 pc) = true := xi_ok269_0
noncomputable def xi_270_0 : XIs := [(0, .aload_n 0, 1), (1, .iload_n 1, 1), (2, .ifCond .ne 7, 3), (5, .iconst 1, 1), (6, .goto 12, 3), (9, .iload_n 2, 1), (10, .ifCond .ne 7, 3), (13, .iconst 2, 1), (14, .goto 4, 3), (17, .iconst 0, 1), (18, .putfield 278, 3), (21, .aload_n 0, 1), (22, .getfield 278, 3), (25, .ifCond .le 7, 3), (28, .iconst 1, 1), (29, .goto 4, 3)]
noncomputable def xi_270_1 : XIs := [(32, .iconst 0, 1), (33, .ireturn, 1)]
set_option maxRecDepth 100000 in
theorem xi_w270 : xi_ok cX12_fails (xi_270_0 ++ (xi_270_1)) = true := dl_all _ _ (by decide +kernel)
theorem xi_ok270_0 : xi_ok cX12_fails xi_270_0 = true := (xi_ap xi_w270).1
theorem xi_r270_1 : xi_ok cX12_fails (xi_270_1) = true := (xi_ap xi_w270).2
theorem xi_ok270_1 : xi_ok cX12_fails xi_270_1 = true := xi_r270_1
noncomputable def xi_270 (pc : Nat) : XIs := cond (Nat.blt pc 32) (xi_270_0) (xi_270_1)
theorem xi_ok270 (pc : Nat) : xi_ok cX12_fails (xi_270 pc) = true := xi_c (xi_ok270_0) (xi_ok270_1)
noncomputable def xi_271_0 : XIs := [(0, .aload_n 0, 1), (1, .iload_n 1, 1), (2, .iconst 1, 1), (3, .invokevirtual 281, 3), (6, .ireturn, 1)]
set_option maxRecDepth 100000 in
theorem xi_w271 : xi_ok cX12_wrongArgument (xi_271_0) = true := dl_all _ _ (by decide +kernel)
theorem xi_ok271_0 : xi_ok cX12_wrongArgument xi_271_0 = true := xi_w271
noncomputable def xi_271 (pc : Nat) : XIs := xi_271_0
theorem xi_ok271 (pc : Nat) : xi_ok cX12_wrongArgument (xi_271 pc) = true := xi_ok271_0
noncomputable def xi_272_0 : XIs := [(0, .iload_n 1, 1), (1, .ifCond .lt 15, 3), (4, .iload_n 1, 1), (5, .aload_n 0, 1), (6, .getfield 285, 3), (9, .if_icmp .ge 7, 3), (12, .iconst 1, 1), (13, .goto 4, 3), (16, .iconst 0, 1), (17, .ireturn, 1)]
set_option maxRecDepth 100000 in
theorem xi_w272 : xi_ok cX12_isNode (xi_272_0) = true := dl_all _ _ (by decide +kernel)
theorem xi_ok272_0 : xi_ok cX12_isNode xi_272_0 = true := xi_w272
noncomputable def xi_272 (pc : Nat) : XIs := xi_272_0
theorem xi_ok272 (pc : Nat) : xi_ok cX12_isNode (xi_272 pc) = true := xi_ok272_0
noncomputable def xi_273_0 : XIs := [(0, .iload_n 1, 1), (1, .ifCond .lt 28, 3), (4, .iload_n 1, 1), (5, .sipush 160, 3), (8, .if_icmp .ge 21, 3), (11, .aload_n 0, 1), (12, .getfield 16, 3), (15, .aload_n 0, 1), (16, .getfield 288, 3), (19, .iload_n 1, 1), (20, .iadd, 1), (21, .baload, 1), (22, .ifCond .eq 7, 3), (25, .iconst 1, 1), (26, .goto 4, 3), (29, .iconst 0, 1)]
noncomputable def xi_273_1 : XIs := [(30, .ireturn, 1)]
set_option maxRecDepth 100000 in
theorem xi_w273 : xi_ok cX12_isArc (xi_273_0 ++ (xi_273_1)) = true := dl_all _ _ (by decide +kernel)
theorem xi_ok273_0 : xi_ok cX12_isArc xi_273_0 = true := (xi_ap xi_w273).1
theorem xi_r273_1 : xi_ok cX12_isArc (xi_273_1) = true := (xi_ap xi_w273).2
theorem xi_ok273_1 : xi_ok cX12_isArc xi_273_1 = true := xi_r273_1
noncomputable def xi_273 (pc : Nat) : XIs := cond (Nat.blt pc 30) (xi_273_0) (xi_273_1)
theorem xi_ok273 (pc : Nat) : xi_ok cX12_isArc (xi_273 pc) = true := xi_c (xi_ok273_0) (xi_ok273_1)
noncomputable def xi_274_0 : XIs := [(0, .aload_n 0, 1), (1, .getfield 35, 3), (4, .aload_n 0, 1), (5, .getfield 291, 3), (8, .iload_n 1, 1), (9, .iastore, 1), (10, .aload_n 0, 1), (11, .getfield 38, 3), (14, .aload_n 0, 1), (15, .getfield 291, 3), (18, .iload_n 2, 1), (19, .iastore, 1), (20, .aload_n 0, 1), (21, .getfield 41, 3), (24, .aload_n 0, 1), (25, .getfield 291, 3)]
noncomputable def xi_274_1 : XIs := [(28, .iload_n 3, 1), (29, .iastore, 1), (30, .aload_n 0, 1), (31, .getfield 44, 3), (34, .aload_n 0, 1), (35, .getfield 291, 3), (38, .iload 4, 2), (40, .iastore, 1), (41, .aload_n 0, 1), (42, .getfield 47, 3), (45, .aload_n 0, 1), (46, .getfield 291, 3), (49, .iload 5, 2), (51, .iastore, 1), (52, .aload_n 0, 1), (53, .getfield 50, 3)]
noncomputable def xi_274_2 : XIs := [(56, .aload_n 0, 1), (57, .getfield 291, 3), (60, .iload 6, 2), (62, .iastore, 1), (63, .aload_n 0, 1), (64, .getfield 53, 3), (67, .aload_n 0, 1), (68, .getfield 291, 3), (71, .iload 7, 2), (73, .iastore, 1), (74, .aload_n 0, 1), (75, .aload_n 0, 1), (76, .getfield 291, 3), (79, .iconst 0, 1), (80, .invokevirtual 294, 3), (83, .aload_n 0, 1)]
noncomputable def xi_274_3 : XIs := [(84, .dup, 1), (85, .getfield 291, 3), (88, .iconst 1, 1), (89, .iadd, 1), (90, .putfield 291, 3), (93, .aload_n 0, 1), (94, .invokevirtual 298, 3), (97, .return_, 1)]
set_option maxRecDepth 100000 in
theorem xi_w274 : xi_ok cX12_make (xi_274_0 ++ (xi_274_1 ++ (xi_274_2 ++ (xi_274_3)))) = true := dl_all _ _ (by decide +kernel)
theorem xi_ok274_0 : xi_ok cX12_make xi_274_0 = true := (xi_ap xi_w274).1
theorem xi_r274_1 : xi_ok cX12_make (xi_274_1 ++ (xi_274_2 ++ (xi_274_3))) = true := (xi_ap xi_w274).2
theorem xi_ok274_1 : xi_ok cX12_make xi_274_1 = true := (xi_ap xi_r274_1).1
theorem xi_r274_2 : xi_ok cX12_make (xi_274_2 ++ (xi_274_3)) = true := (xi_ap xi_r274_1).2
theorem xi_ok274_2 : xi_ok cX12_make xi_274_2 = true := (xi_ap xi_r274_2).1
theorem xi_r274_3 : xi_ok cX12_make (xi_274_3) = true := (xi_ap xi_r274_2).2
theorem xi_ok274_3 : xi_ok cX12_make xi_274_3 = true := xi_r274_3
noncomputable def xi_274 (pc : Nat) : XIs := cond (Nat.blt pc 56) (cond (Nat.blt pc 28) (xi_274_0) (xi_274_1)) (cond (Nat.blt pc 84) (xi_274_2) (xi_274_3))
theorem xi_ok274 (pc : Nat) : xi_ok cX12_make (xi_274 pc) = true := xi_c (xi_c (xi_ok274_0) (xi_ok274_1)) (xi_c (xi_ok274_2) (xi_ok274_3))
noncomputable def xi_275_0 : XIs := [(0, .sipush 160, 3), (3, .iload_n 2, 1), (4, .imul, 1), (5, .aload_n 0, 1), (6, .getfield 38, 3), (9, .iload_n 1, 1), (10, .iaload, 1), (11, .iadd, 1), (12, .istore_n 3, 1), (13, .aload_n 0, 1), (14, .getfield 35, 3), (17, .iload_n 1, 1), (18, .iaload, 1)]
noncomputable def xi_275_1 : XIs := [(19, .tableswitch 208 0 3 #[29, 64, 134, 144], 29)]
set_option maxRecDepth 100000 in
theorem xi_ok275_1 : xi_ok cX12_apply xi_275_1 = true := by decide +kernel
noncomputable def xi_275_2 : XIs := [(48, .aload_n 0, 1), (49, .getfield 13, 3), (52, .bipush 32, 2), (54, .iload_n 2, 1), (55, .imul, 1), (56, .aload_n 0, 1), (57, .getfield 7, 3), (60, .iload_n 2, 1), (61, .iaload, 1), (62, .iadd, 1), (63, .aload_n 0, 1), (64, .getfield 38, 3), (67, .iload_n 1, 1), (68, .iaload, 1), (69, .iastore, 1), (70, .aload_n 0, 1)]
noncomputable def xi_275_3 : XIs := [(71, .getfield 7, 3), (74, .iload_n 2, 1), (75, .dup2, 1), (76, .iaload, 1), (77, .iconst 1, 1), (78, .iadd, 1), (79, .iastore, 1), (80, .goto 169, 3), (83, .aload_n 0, 1), (84, .getfield 16, 3), (87, .iload_n 3, 1), (88, .iconst 1, 1), (89, .bastore, 1), (90, .aload_n 0, 1), (91, .getfield 20, 3), (94, .iload_n 3, 1)]
noncomputable def xi_275_4 : XIs := [(95, .aload_n 0, 1), (96, .getfield 41, 3), (99, .iload_n 1, 1), (100, .iaload, 1), (101, .iastore, 1), (102, .aload_n 0, 1), (103, .getfield 23, 3), (106, .iload_n 3, 1), (107, .aload_n 0, 1), (108, .getfield 44, 3), (111, .iload_n 1, 1), (112, .iaload, 1), (113, .iastore, 1), (114, .aload_n 0, 1), (115, .getfield 26, 3), (118, .iload_n 3, 1)]
noncomputable def xi_275_5 : XIs := [(119, .aload_n 0, 1), (120, .getfield 47, 3), (123, .iload_n 1, 1), (124, .iaload, 1), (125, .iastore, 1), (126, .aload_n 0, 1), (127, .getfield 29, 3), (130, .iload_n 3, 1), (131, .aload_n 0, 1), (132, .getfield 50, 3), (135, .iload_n 1, 1), (136, .iaload, 1), (137, .iastore, 1), (138, .aload_n 0, 1), (139, .getfield 32, 3), (142, .iload_n 3, 1)]
noncomputable def xi_275_6 : XIs := [(143, .aload_n 0, 1), (144, .getfield 53, 3), (147, .iload_n 1, 1), (148, .iaload, 1), (149, .iastore, 1), (150, .goto 99, 3), (153, .aload_n 0, 1), (154, .getfield 16, 3), (157, .iload_n 3, 1), (158, .iconst 0, 1), (159, .bastore, 1), (160, .goto 89, 3), (163, .aload_n 0, 1), (164, .getfield 41, 3), (167, .iload_n 1, 1), (168, .iaload, 1)]
noncomputable def xi_275_7 : XIs := [(169, .ifCond .ne 18, 3), (172, .aload_n 0, 1), (173, .getfield 26, 3), (176, .iload_n 3, 1), (177, .aload_n 0, 1), (178, .getfield 44, 3), (181, .iload_n 1, 1), (182, .iaload, 1), (183, .iastore, 1), (184, .goto 65, 3), (187, .aload_n 0, 1), (188, .getfield 41, 3), (191, .iload_n 1, 1), (192, .iaload, 1), (193, .iconst 1, 1), (194, .if_icmp .ne 18, 3)]
noncomputable def xi_275_8 : XIs := [(197, .aload_n 0, 1), (198, .getfield 29, 3), (201, .iload_n 3, 1), (202, .aload_n 0, 1), (203, .getfield 44, 3), (206, .iload_n 1, 1), (207, .iaload, 1), (208, .iastore, 1), (209, .goto 40, 3), (212, .aload_n 0, 1), (213, .getfield 32, 3), (216, .iload_n 3, 1), (217, .aload_n 0, 1), (218, .getfield 44, 3), (221, .iload_n 1, 1), (222, .iaload, 1)]
noncomputable def xi_275_9 : XIs := [(223, .iastore, 1), (224, .goto 25, 3), (227, .aload_n 0, 1), (228, .getfield 13, 3), (231, .bipush 32, 2), (233, .iload_n 2, 1), (234, .imul, 1), (235, .aload_n 0, 1), (236, .getfield 38, 3), (239, .iload_n 1, 1), (240, .iaload, 1), (241, .iadd, 1), (242, .aload_n 0, 1), (243, .getfield 41, 3), (246, .iload_n 1, 1), (247, .iaload, 1)]
noncomputable def xi_275_10 : XIs := [(248, .iastore, 1), (249, .return_, 1)]
set_option maxRecDepth 100000 in
theorem xi_w275 : xi_ok cX12_apply (xi_275_0 ++ (xi_275_2 ++ (xi_275_3 ++ (xi_275_4 ++ (xi_275_5 ++ (xi_275_6 ++ (xi_275_7 ++ (xi_275_8 ++ (xi_275_9 ++ (xi_275_10)))))))))) = true := dl_all _ _ (by decide +kernel)
theorem xi_ok275_0 : xi_ok cX12_apply xi_275_0 = true := (xi_ap xi_w275).1
theorem xi_r275_1 : xi_ok cX12_apply (xi_275_2 ++ (xi_275_3 ++ (xi_275_4 ++ (xi_275_5 ++ (xi_275_6 ++ (xi_275_7 ++ (xi_275_8 ++ (xi_275_9 ++ (xi_275_10))))))))) = true := (xi_ap xi_w275).2
theorem xi_ok275_2 : xi_ok cX12_apply xi_275_2 = true := (xi_ap xi_r275_1).1
theorem xi_r275_2 : xi_ok cX12_apply (xi_275_3 ++ (xi_275_4 ++ (xi_275_5 ++ (xi_275_6 ++ (xi_275_7 ++ (xi_275_8 ++ (xi_275_9 ++ (xi_275_10)))))))) = true := (xi_ap xi_r275_1).2
theorem xi_ok275_3 : xi_ok cX12_apply xi_275_3 = true := (xi_ap xi_r275_2).1
theorem xi_r275_3 : xi_ok cX12_apply (xi_275_4 ++ (xi_275_5 ++ (xi_275_6 ++ (xi_275_7 ++ (xi_275_8 ++ (xi_275_9 ++ (xi_275_10))))))) = true := (xi_ap xi_r275_2).2
theorem xi_ok275_4 : xi_ok cX12_apply xi_275_4 = true := (xi_ap xi_r275_3).1
theorem xi_r275_4 : xi_ok cX12_apply (xi_275_5 ++ (xi_275_6 ++ (xi_275_7 ++ (xi_275_8 ++ (xi_275_9 ++ (xi_275_10)))))) = true := (xi_ap xi_r275_3).2
theorem xi_ok275_5 : xi_ok cX12_apply xi_275_5 = true := (xi_ap xi_r275_4).1
theorem xi_r275_5 : xi_ok cX12_apply (xi_275_6 ++ (xi_275_7 ++ (xi_275_8 ++ (xi_275_9 ++ (xi_275_10))))) = true := (xi_ap xi_r275_4).2
theorem xi_ok275_6 : xi_ok cX12_apply xi_275_6 = true := (xi_ap xi_r275_5).1
theorem xi_r275_6 : xi_ok cX12_apply (xi_275_7 ++ (xi_275_8 ++ (xi_275_9 ++ (xi_275_10)))) = true := (xi_ap xi_r275_5).2
theorem xi_ok275_7 : xi_ok cX12_apply xi_275_7 = true := (xi_ap xi_r275_6).1
theorem xi_r275_7 : xi_ok cX12_apply (xi_275_8 ++ (xi_275_9 ++ (xi_275_10))) = true := (xi_ap xi_r275_6).2
theorem xi_ok275_8 : xi_ok cX12_apply xi_275_8 = true := (xi_ap xi_r275_7).1
theorem xi_r275_8 : xi_ok cX12_apply (xi_275_9 ++ (xi_275_10)) = true := (xi_ap xi_r275_7).2
theorem xi_ok275_9 : xi_ok cX12_apply xi_275_9 = true := (xi_ap xi_r275_8).1
theorem xi_r275_9 : xi_ok cX12_apply (xi_275_10) = true := (xi_ap xi_r275_8).2
theorem xi_ok275_10 : xi_ok cX12_apply xi_275_10 = true := xi_r275_9
noncomputable def xi_275 (pc : Nat) : XIs := cond (Nat.blt pc 119) (cond (Nat.blt pc 48) (cond (Nat.blt pc 19) (xi_275_0) (xi_275_1)) (cond (Nat.blt pc 71) (xi_275_2) (cond (Nat.blt pc 95) (xi_275_3) (xi_275_4)))) (cond (Nat.blt pc 197) (cond (Nat.blt pc 143) (xi_275_5) (cond (Nat.blt pc 169) (xi_275_6) (xi_275_7))) (cond (Nat.blt pc 223) (xi_275_8) (cond (Nat.blt pc 248) (xi_275_9) (xi_275_10))))
theorem xi_ok275 (pc : Nat) : xi_ok cX12_apply (xi_275 pc) = true := xi_c (xi_c (xi_c (xi_ok275_0) (xi_ok275_1)) (xi_c (xi_ok275_2) (xi_c (xi_ok275_3) (xi_ok275_4)))) (xi_c (xi_c (xi_ok275_5) (xi_c (xi_ok275_6) (xi_ok275_7))) (xi_c (xi_ok275_8) (xi_c (xi_ok275_9) (xi_ok275_10))))
noncomputable def xi_276_0 : XIs := [(0, .aload_n 0, 1), (1, .aload_n 0, 1), (2, .getfield 56, 3), (5, .ifCond .ge 7, 3), (8, .iconst 0, 1), (9, .goto 4, 3), (12, .iconst 1, 1), (13, .putfield 301, 3), (16, .aload_n 0, 1), (17, .sipush 160, 3), (20, .aload_n 0, 1), (21, .getfield 301, 3), (24, .imul, 1), (25, .putfield 288, 3), (28, .aload_n 0, 1), (29, .aload_n 0, 1)]
noncomputable def xi_276_1 : XIs := [(30, .getfield 7, 3), (33, .aload_n 0, 1), (34, .getfield 301, 3), (37, .iaload, 1), (38, .putfield 285, 3), (41, .return_, 1)]
set_option maxRecDepth 100000 in
theorem xi_w276 : xi_ok cX12_look (xi_276_0 ++ (xi_276_1)) = true := dl_all _ _ (by decide +kernel)
theorem xi_ok276_0 : xi_ok cX12_look xi_276_0 = true := (xi_ap xi_w276).1
theorem xi_r276_1 : xi_ok cX12_look (xi_276_1) = true := (xi_ap xi_w276).2
theorem xi_ok276_1 : xi_ok cX12_look xi_276_1 = true := xi_r276_1
noncomputable def xi_276 (pc : Nat) : XIs := cond (Nat.blt pc 30) (xi_276_0) (xi_276_1)
theorem xi_ok276 (pc : Nat) : xi_ok cX12_look (xi_276 pc) = true := xi_c (xi_ok276_0) (xi_ok276_1)
noncomputable def xi_277_0 : XIs := [(0, .iload_n 1, 1), (1, .ifCond .lt 17, 3), (4, .iload_n 1, 1), (5, .aload_n 0, 1), (6, .getfield 7, 3), (9, .iconst 0, 1), (10, .iaload, 1), (11, .if_icmp .ge 7, 3), (14, .iconst 1, 1), (15, .goto 4, 3), (18, .iconst 0, 1), (19, .ireturn, 1)]
set_option maxRecDepth 100000 in
theorem xi_w277 : xi_ok cX12_isNewNode (xi_277_0) = true := dl_all _ _ (by decide +kernel)
theorem xi_ok277_0 : xi_ok cX12_isNewNode xi_277_0 = true := xi_w277
noncomputable def xi_277 (pc : Nat) : XIs := xi_277_0
theorem xi_ok277 (pc : Nat) : xi_ok cX12_isNewNode (xi_277 pc) = true := xi_ok277_0
noncomputable def xi_278_0 : XIs := [(0, .iload_n 1, 1), (1, .ifCond .lt 23, 3), (4, .iload_n 1, 1), (5, .sipush 160, 3), (8, .if_icmp .ge 16, 3), (11, .aload_n 0, 1), (12, .getfield 16, 3), (15, .iload_n 1, 1), (16, .baload, 1), (17, .ifCond .eq 7, 3), (20, .iconst 1, 1), (21, .goto 4, 3), (24, .iconst 0, 1), (25, .ireturn, 1)]
set_option maxRecDepth 100000 in
theorem xi_w278 : xi_ok cX12_isNewArc (xi_278_0) = true := dl_all _ _ (by decide +kernel)
theorem xi_ok278_0 : xi_ok cX12_isNewArc xi_278_0 = true := xi_w278
noncomputable def xi_278 (pc : Nat) : XIs := xi_278_0
theorem xi_ok278 (pc : Nat) : xi_ok cX12_isNewArc (xi_278 pc) = true := xi_ok278_0
noncomputable def xi_279_0 : XIs := [(0, .iload_n 0, 1), (1, .i2l, 1), (2, .ldc2_w 304, 3), (5, .ldc2_w 306, 3), (8, .invokestatic 308, 3), (11, .ireturn, 1)]
set_option maxRecDepth 100000 in
theorem xi_w279 : xi_ok cX12_isWeight (xi_279_0) = true := dl_all _ _ (by decide +kernel)
theorem xi_ok279_0 : xi_ok cX12_isWeight xi_279_0 = true := xi_w279
noncomputable def xi_279 (pc : Nat) : XIs := xi_279_0
theorem xi_ok279 (pc : Nat) : xi_ok cX12_isWeight (xi_279 pc) = true := xi_ok279_0
noncomputable def xi_280_0 : XIs := [(0, .iconst 0, 1), (1, .istore_n 2, 1), (2, .iload_n 2, 1), (3, .sipush 160, 3), (6, .if_icmp .ge 24, 3), (9, .aload_n 0, 1), (10, .getfield 16, 3), (13, .sipush 160, 3), (16, .iload_n 1, 1), (17, .imul, 1), (18, .iload_n 2, 1), (19, .iadd, 1), (20, .baload, 1), (21, .ifCond .eq 9, 3), (24, .iinc 2 1, 3), (27, .goto (-25), 3)]
noncomputable def xi_280_1 : XIs := [(30, .iload_n 2, 1), (31, .ireturn, 1)]
set_option maxRecDepth 100000 in
theorem xi_w280 : xi_ok cX12_freePlace (xi_280_0 ++ (xi_280_1)) = true := dl_all _ _ (by decide +kernel)
theorem xi_ok280_0 : xi_ok cX12_freePlace xi_280_0 = true := (xi_ap xi_w280).1
theorem xi_r280_1 : xi_ok cX12_freePlace (xi_280_1) = true := (xi_ap xi_w280).2
theorem xi_ok280_1 : xi_ok cX12_freePlace xi_280_1 = true := xi_r280_1
noncomputable def xi_280 (pc : Nat) : XIs := cond (Nat.blt pc 30) (xi_280_0) (xi_280_1)
theorem xi_ok280 (pc : Nat) : xi_ok cX12_freePlace (xi_280 pc) = true := xi_c (xi_ok280_0) (xi_ok280_1)
noncomputable def xi_281_0 : XIs := [(0, .aload_n 0, 1), (1, .iload_n 1, 1), (2, .i2l, 1), (3, .lconst 0, 1), (4, .ldc2_w 312, 3), (7, .invokestatic 308, 3), (10, .aload_n 0, 1), (11, .getfield 7, 3), (14, .iconst 0, 1), (15, .iaload, 1), (16, .bipush 32, 2), (18, .if_icmp .ge 17, 3), (21, .aload_n 0, 1), (22, .getfield 291, 3), (25, .sipush 4000, 3), (28, .if_icmp .ge 7, 3)]
noncomputable def xi_281_1 : XIs := [(31, .iconst 1, 1), (32, .goto 4, 3), (35, .iconst 0, 1), (36, .invokevirtual 281, 3), (39, .ifCond .eq 5, 3), (42, .iconst 0, 1), (43, .ireturn, 1), (44, .aload_n 0, 1), (45, .iconst 0, 1), (46, .iload_n 1, 1), (47, .iconst 0, 1), (48, .iconst 0, 1), (49, .iconst 0, 1), (50, .iconst 0, 1), (51, .iconst 0, 1), (52, .invokevirtual 314, 3)]
noncomputable def xi_281_2 : XIs := [(55, .aload_n 0, 1), (56, .getfield 7, 3), (59, .iconst 0, 1), (60, .iaload, 1), (61, .iconst 1, 1), (62, .isub, 1), (63, .ireturn, 1)]
set_option maxRecDepth 100000 in
theorem xi_w281 : xi_ok cX12_node (xi_281_0 ++ (xi_281_1 ++ (xi_281_2))) = true := dl_all _ _ (by decide +kernel)
theorem xi_ok281_0 : xi_ok cX12_node xi_281_0 = true := (xi_ap xi_w281).1
theorem xi_r281_1 : xi_ok cX12_node (xi_281_1 ++ (xi_281_2)) = true := (xi_ap xi_w281).2
theorem xi_ok281_1 : xi_ok cX12_node xi_281_1 = true := (xi_ap xi_r281_1).1
theorem xi_r281_2 : xi_ok cX12_node (xi_281_2) = true := (xi_ap xi_r281_1).2
theorem xi_ok281_2 : xi_ok cX12_node xi_281_2 = true := xi_r281_2
noncomputable def xi_281 (pc : Nat) : XIs := cond (Nat.blt pc 31) (xi_281_0) (cond (Nat.blt pc 55) (xi_281_1) (xi_281_2))
theorem xi_ok281 (pc : Nat) : xi_ok cX12_node (xi_281 pc) = true := xi_c (xi_ok281_0) (xi_c (xi_ok281_1) (xi_ok281_2))
noncomputable def xi_282_0 : XIs := [(0, .aload_n 0, 1), (1, .aload_n 0, 1), (2, .iload_n 1, 1), (3, .invokevirtual 318, 3), (6, .ifCond .eq 48, 3), (9, .aload_n 0, 1), (10, .iload_n 2, 1), (11, .invokevirtual 318, 3), (14, .ifCond .eq 40, 3), (17, .iload_n 3, 1), (18, .invokestatic 322, 3), (21, .ifCond .eq 33, 3), (24, .iload 4, 2), (26, .i2l, 1), (27, .lconst 0, 1), (28, .ldc2_w 306, 3)]
noncomputable def xi_282_1 : XIs := [(31, .invokestatic 308, 3), (34, .ifCond .eq 20, 3), (37, .iload 5, 2), (39, .i2l, 1), (40, .lconst 0, 1), (41, .ldc2_w 312, 3), (44, .invokestatic 308, 3), (47, .ifCond .eq 7, 3), (50, .iconst 1, 1), (51, .goto 4, 3), (54, .iconst 0, 1), (55, .aload_n 0, 1), (56, .getfield 291, 3), (59, .sipush 4000, 3), (62, .if_icmp .ge 7, 3), (65, .iconst 1, 1)]
noncomputable def xi_282_2 : XIs := [(66, .goto 4, 3), (69, .iconst 0, 1), (70, .invokevirtual 281, 3), (73, .ifCond .eq 5, 3), (76, .iconst 0, 1), (77, .ireturn, 1), (78, .aload_n 0, 1), (79, .iconst 0, 1), (80, .invokevirtual 325, 3), (83, .istore 6, 2), (85, .iload 6, 2), (87, .sipush 160, 3), (90, .if_icmp .ne 6, 3), (93, .bipush (-3), 2), (95, .ireturn, 1), (96, .aload_n 0, 1)]
noncomputable def xi_282_3 : XIs := [(97, .iconst 1, 1), (98, .iload 6, 2), (100, .iload_n 1, 1), (101, .iload_n 2, 1), (102, .iload_n 3, 1), (103, .iload 4, 2), (105, .iload 5, 2), (107, .invokevirtual 314, 3), (110, .iload 6, 2), (112, .ireturn, 1)]
set_option maxRecDepth 100000 in
theorem xi_w282 : xi_ok cX12_arc (xi_282_0 ++ (xi_282_1 ++ (xi_282_2 ++ (xi_282_3)))) = true := dl_all _ _ (by decide +kernel)
theorem xi_ok282_0 : xi_ok cX12_arc xi_282_0 = true := (xi_ap xi_w282).1
theorem xi_r282_1 : xi_ok cX12_arc (xi_282_1 ++ (xi_282_2 ++ (xi_282_3))) = true := (xi_ap xi_w282).2
theorem xi_ok282_1 : xi_ok cX12_arc xi_282_1 = true := (xi_ap xi_r282_1).1
theorem xi_r282_2 : xi_ok cX12_arc (xi_282_2 ++ (xi_282_3)) = true := (xi_ap xi_r282_1).2
theorem xi_ok282_2 : xi_ok cX12_arc xi_282_2 = true := (xi_ap xi_r282_2).1
theorem xi_r282_3 : xi_ok cX12_arc (xi_282_3) = true := (xi_ap xi_r282_2).2
theorem xi_ok282_3 : xi_ok cX12_arc xi_282_3 = true := xi_r282_3
noncomputable def xi_282 (pc : Nat) : XIs := cond (Nat.blt pc 66) (cond (Nat.blt pc 31) (xi_282_0) (xi_282_1)) (cond (Nat.blt pc 97) (xi_282_2) (xi_282_3))
theorem xi_ok282 (pc : Nat) : xi_ok cX12_arc (xi_282 pc) = true := xi_c (xi_c (xi_ok282_0) (xi_ok282_1)) (xi_c (xi_ok282_2) (xi_ok282_3))
noncomputable def xi_283_0 : XIs := [(0, .aload_n 0, 1), (1, .aload_n 0, 1), (2, .iload_n 1, 1), (3, .invokevirtual 329, 3), (6, .aload_n 0, 1), (7, .getfield 291, 3), (10, .sipush 4000, 3), (13, .if_icmp .ge 7, 3), (16, .iconst 1, 1), (17, .goto 4, 3), (20, .iconst 0, 1), (21, .invokevirtual 281, 3), (24, .ifCond .eq 5, 3), (27, .iconst 0, 1), (28, .ireturn, 1), (29, .aload_n 0, 1)]
noncomputable def xi_283_1 : XIs := [(30, .iconst 2, 1), (31, .iload_n 1, 1), (32, .iconst 0, 1), (33, .iconst 0, 1), (34, .iconst 0, 1), (35, .iconst 0, 1), (36, .iconst 0, 1), (37, .invokevirtual 314, 3), (40, .aload_n 0, 1), (41, .getfield 291, 3), (44, .ireturn, 1)]
set_option maxRecDepth 100000 in
theorem xi_w283 : xi_ok cX12_take (xi_283_0 ++ (xi_283_1)) = true := dl_all _ _ (by decide +kernel)
theorem xi_ok283_0 : xi_ok cX12_take xi_283_0 = true := (xi_ap xi_w283).1
theorem xi_r283_1 : xi_ok cX12_take (xi_283_1) = true := (xi_ap xi_w283).2
theorem xi_ok283_1 : xi_ok cX12_take xi_283_1 = true := xi_r283_1
noncomputable def xi_283 (pc : Nat) : XIs := cond (Nat.blt pc 30) (xi_283_0) (xi_283_1)
theorem xi_ok283 (pc : Nat) : xi_ok cX12_take (xi_283 pc) = true := xi_c (xi_ok283_0) (xi_ok283_1)
noncomputable def xi_284_0 : XIs := [(0, .iload_n 2, 1), (1, .ifCond .ne 10, 3), (4, .iload_n 3, 1), (5, .invokestatic 322, 3), (8, .goto 42, 3), (11, .iload_n 2, 1), (12, .iconst 1, 1), (13, .if_icmp .ne 15, 3), (16, .iload_n 3, 1), (17, .i2l, 1), (18, .lconst 0, 1), (19, .ldc2_w 306, 3), (22, .invokestatic 308, 3), (25, .goto 25, 3), (28, .iload_n 2, 1), (29, .iconst 2, 1)]
noncomputable def xi_284_1 : XIs := [(30, .if_icmp .ne 19, 3), (33, .iload_n 3, 1), (34, .i2l, 1), (35, .lconst 0, 1), (36, .ldc2_w 312, 3), (39, .invokestatic 308, 3), (42, .ifCond .eq 7, 3), (45, .iconst 1, 1), (46, .goto 4, 3), (49, .iconst 0, 1), (50, .istore 4, 2), (52, .aload_n 0, 1), (53, .aload_n 0, 1), (54, .iload_n 1, 1), (55, .invokevirtual 329, 3), (58, .ifCond .eq 12, 3)]
noncomputable def xi_284_2 : XIs := [(61, .iload 4, 2), (63, .ifCond .eq 7, 3), (66, .iconst 1, 1), (67, .goto 4, 3), (70, .iconst 0, 1), (71, .aload_n 0, 1), (72, .getfield 291, 3), (75, .sipush 4000, 3), (78, .if_icmp .ge 7, 3), (81, .iconst 1, 1), (82, .goto 4, 3), (85, .iconst 0, 1), (86, .invokevirtual 281, 3), (89, .ifCond .eq 5, 3), (92, .iconst 0, 1), (93, .ireturn, 1)]
noncomputable def xi_284_3 : XIs := [(94, .iload_n 2, 1), (95, .ifCond .ne 12, 3), (98, .aload_n 0, 1), (99, .getfield 26, 3), (102, .iload_n 1, 1), (103, .iaload, 1), (104, .goto 23, 3), (107, .iload_n 2, 1), (108, .iconst 1, 1), (109, .if_icmp .ne 12, 3), (112, .aload_n 0, 1), (113, .getfield 29, 3), (116, .iload_n 1, 1), (117, .iaload, 1), (118, .goto 9, 3), (121, .aload_n 0, 1)]
noncomputable def xi_284_4 : XIs := [(122, .getfield 32, 3), (125, .iload_n 1, 1), (126, .iaload, 1), (127, .istore 5, 2), (129, .aload_n 0, 1), (130, .iconst 3, 1), (131, .iload_n 1, 1), (132, .iload_n 2, 1), (133, .iload_n 3, 1), (134, .iconst 0, 1), (135, .iconst 0, 1), (136, .iconst 0, 1), (137, .invokevirtual 314, 3), (140, .iload 5, 2), (142, .ireturn, 1)]
set_option maxRecDepth 100000 in
theorem xi_w284 : xi_ok cX12_set (xi_284_0 ++ (xi_284_1 ++ (xi_284_2 ++ (xi_284_3 ++ (xi_284_4))))) = true := dl_all _ _ (by decide +kernel)
theorem xi_ok284_0 : xi_ok cX12_set xi_284_0 = true := (xi_ap xi_w284).1
theorem xi_r284_1 : xi_ok cX12_set (xi_284_1 ++ (xi_284_2 ++ (xi_284_3 ++ (xi_284_4)))) = true := (xi_ap xi_w284).2
theorem xi_ok284_1 : xi_ok cX12_set xi_284_1 = true := (xi_ap xi_r284_1).1
theorem xi_r284_2 : xi_ok cX12_set (xi_284_2 ++ (xi_284_3 ++ (xi_284_4))) = true := (xi_ap xi_r284_1).2
theorem xi_ok284_2 : xi_ok cX12_set xi_284_2 = true := (xi_ap xi_r284_2).1
theorem xi_r284_3 : xi_ok cX12_set (xi_284_3 ++ (xi_284_4)) = true := (xi_ap xi_r284_2).2
theorem xi_ok284_3 : xi_ok cX12_set xi_284_3 = true := (xi_ap xi_r284_3).1
theorem xi_r284_4 : xi_ok cX12_set (xi_284_4) = true := (xi_ap xi_r284_3).2
theorem xi_ok284_4 : xi_ok cX12_set xi_284_4 = true := xi_r284_4
noncomputable def xi_284 (pc : Nat) : XIs := cond (Nat.blt pc 61) (cond (Nat.blt pc 30) (xi_284_0) (xi_284_1)) (cond (Nat.blt pc 94) (xi_284_2) (cond (Nat.blt pc 122) (xi_284_3) (xi_284_4)))
theorem xi_ok284 (pc : Nat) : xi_ok cX12_set (xi_284 pc) = true := xi_c (xi_c (xi_ok284_0) (xi_ok284_1)) (xi_c (xi_ok284_2) (xi_c (xi_ok284_3) (xi_ok284_4)))
