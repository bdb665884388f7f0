noncomputable def xi_370_0 : XIs := [(0, .iconst 0, 1), (1, .istore 5, 2), (3, .iload 5, 2), (5, .aload_n 0, 1), (6, .getfield 285, 3), (9, .if_icmp .ge 40, 3), (12, .aload_n 3, 1), (13, .iload 5, 2), (15, .iload 5, 2), (17, .iload_n 1, 1), (18, .if_icmp .ne 7, 3), (21, .iconst 0, 1), (22, .goto 4, 3), (25, .iconst (-1), 1), (26, .iastore, 1), (27, .aload 4, 2)]
noncomputable def xi_370_1 : XIs := [(29, .iload 5, 2), (31, .iload 5, 2), (33, .iload_n 1, 1), (34, .if_icmp .ne 7, 3), (37, .lconst 1, 1), (38, .goto 4, 3), (41, .lconst 0, 1), (42, .lastore, 1), (43, .iinc 5 1, 3), (46, .goto (-43), 3), (49, .iconst 0, 1), (50, .istore 5, 2), (52, .iload 5, 2), (54, .aload_n 0, 1), (55, .getfield 285, 3), (58, .if_icmp .ge 145, 3)]
noncomputable def xi_370_2 : XIs := [(61, .aload_n 0, 1), (62, .getfield 288, 3), (65, .istore 6, 2), (67, .iload 6, 2), (69, .aload_n 0, 1), (70, .getfield 288, 3), (73, .sipush 160, 3), (76, .iadd, 1), (77, .if_icmp .ge 120, 3), (80, .iload_n 2, 1), (81, .ifCond .eq 13, 3), (84, .aload_n 0, 1), (85, .getfield 23, 3), (88, .iload 6, 2), (90, .iaload, 1), (91, .goto 10, 3)]
noncomputable def xi_370_3 : XIs := [(94, .aload_n 0, 1), (95, .getfield 20, 3), (98, .iload 6, 2), (100, .iaload, 1), (101, .istore 7, 2), (103, .iload_n 2, 1), (104, .ifCond .eq 13, 3), (107, .aload_n 0, 1), (108, .getfield 20, 3), (111, .iload 6, 2), (113, .iaload, 1), (114, .goto 10, 3), (117, .aload_n 0, 1), (118, .getfield 23, 3), (121, .iload 6, 2), (123, .iaload, 1)]
noncomputable def xi_370_4 : XIs := [(124, .istore 8, 2), (126, .aload_n 0, 1), (127, .getfield 16, 3), (130, .iload 6, 2), (132, .baload, 1), (133, .ifCond .eq 58, 3), (136, .aload_n 3, 1), (137, .iload 7, 2), (139, .iaload, 1), (140, .iload 5, 2), (142, .if_icmp .ne 49, 3), (145, .aload_n 3, 1), (146, .iload 8, 2), (148, .iaload, 1), (149, .ifCond .lt 14, 3), (152, .aload_n 3, 1)]
noncomputable def xi_370_5 : XIs := [(153, .iload 8, 2), (155, .iaload, 1), (156, .iload 5, 2), (158, .iconst 1, 1), (159, .iadd, 1), (160, .if_icmp .ne 31, 3), (163, .aload_n 3, 1), (164, .iload 8, 2), (166, .iload 5, 2), (168, .iconst 1, 1), (169, .iadd, 1), (170, .iastore, 1), (171, .aload 4, 2), (173, .iload 8, 2), (175, .aload 4, 2), (177, .iload 8, 2)]
noncomputable def xi_370_6 : XIs := [(179, .laload, 1), (180, .aload 4, 2), (182, .iload 7, 2), (184, .laload, 1), (185, .ladd, 1), (186, .ldc2_w 572, 3), (189, .lrem, 1), (190, .lastore, 1), (191, .iinc 6 1, 3), (194, .goto (-127), 3), (197, .iinc 5 1, 3), (200, .goto (-148), 3), (203, .return_, 1)]
set_option maxRecDepth 100000 in
theorem xi_w370 : xi_ok cX12_hop (xi_370_0 ++ (xi_370_1 ++ (xi_370_2 ++ (xi_370_3 ++ (xi_370_4 ++ (xi_370_5 ++ (xi_370_6))))))) = true := dl_all _ _ (by decide +kernel)
theorem xi_ok370_0 : xi_ok cX12_hop xi_370_0 = true := (xi_ap xi_w370).1
theorem xi_r370_1 : xi_ok cX12_hop (xi_370_1 ++ (xi_370_2 ++ (xi_370_3 ++ (xi_370_4 ++ (xi_370_5 ++ (xi_370_6)))))) = true := (xi_ap xi_w370).2
theorem xi_ok370_1 : xi_ok cX12_hop xi_370_1 = true := (xi_ap xi_r370_1).1
theorem xi_r370_2 : xi_ok cX12_hop (xi_370_2 ++ (xi_370_3 ++ (xi_370_4 ++ (xi_370_5 ++ (xi_370_6))))) = true := (xi_ap xi_r370_1).2
theorem xi_ok370_2 : xi_ok cX12_hop xi_370_2 = true := (xi_ap xi_r370_2).1
theorem xi_r370_3 : xi_ok cX12_hop (xi_370_3 ++ (xi_370_4 ++ (xi_370_5 ++ (xi_370_6)))) = true := (xi_ap xi_r370_2).2
theorem xi_ok370_3 : xi_ok cX12_hop xi_370_3 = true := (xi_ap xi_r370_3).1
theorem xi_r370_4 : xi_ok cX12_hop (xi_370_4 ++ (xi_370_5 ++ (xi_370_6))) = true := (xi_ap xi_r370_3).2
theorem xi_ok370_4 : xi_ok cX12_hop xi_370_4 = true := (xi_ap xi_r370_4).1
theorem xi_r370_5 : xi_ok cX12_hop (xi_370_5 ++ (xi_370_6)) = true := (xi_ap xi_r370_4).2
theorem xi_ok370_5 : xi_ok cX12_hop xi_370_5 = true := (xi_ap xi_r370_5).1
theorem xi_r370_6 : xi_ok cX12_hop (xi_370_6) = true := (xi_ap xi_r370_5).2
theorem xi_ok370_6 : xi_ok cX12_hop xi_370_6 = true := xi_r370_6
noncomputable def xi_370 (pc : Nat) : XIs := cond (Nat.blt pc 94) (cond (Nat.blt pc 29) (xi_370_0) (cond (Nat.blt pc 61) (xi_370_1) (xi_370_2))) (cond (Nat.blt pc 153) (cond (Nat.blt pc 124) (xi_370_3) (xi_370_4)) (cond (Nat.blt pc 179) (xi_370_5) (xi_370_6)))
theorem xi_ok370 (pc : Nat) : xi_ok cX12_hop (xi_370 pc) = true := xi_c (xi_c (xi_ok370_0) (xi_c (xi_ok370_1) (xi_ok370_2))) (xi_c (xi_c (xi_ok370_3) (xi_ok370_4)) (xi_c (xi_ok370_5) (xi_ok370_6)))
noncomputable def xi_371_0 : XIs := [(0, .aload_n 0, 1), (1, .aload_n 0, 1), (2, .iload_n 1, 1), (3, .invokevirtual 349, 3), (6, .ifCond .eq 36, 3), (9, .aload_n 0, 1), (10, .iload_n 2, 1), (11, .invokevirtual 349, 3), (14, .ifCond .eq 28, 3), (17, .iload_n 3, 1), (18, .i2l, 1), (19, .lconst 0, 1), (20, .ldc2_w 570, 3), (23, .invokestatic 308, 3), (26, .ifCond .eq 16, 3), (29, .aload_n 0, 1)]
noncomputable def xi_371_1 : XIs := [(30, .iload 4, 2), (32, .invokevirtual 349, 3), (35, .ifCond .eq 7, 3), (38, .iconst 1, 1), (39, .goto 4, 3), (42, .iconst 0, 1), (43, .invokevirtual 334, 3), (46, .ifCond .eq 5, 3), (49, .iconst 0, 1), (50, .ireturn, 1), (51, .aload_n 0, 1), (52, .iload_n 1, 1), (53, .iconst 0, 1), (54, .aload_n 0, 1), (55, .getfield 181, 3), (58, .aload_n 0, 1)]
noncomputable def xi_371_2 : XIs := [(59, .getfield 184, 3), (62, .invokevirtual 590, 3), (65, .aload_n 0, 1), (66, .iload_n 2, 1), (67, .iconst 1, 1), (68, .aload_n 0, 1), (69, .getfield 187, 3), (72, .aload_n 0, 1), (73, .getfield 190, 3), (76, .invokevirtual 590, 3), (79, .iload_n 3, 1), (80, .ifCond .ne 10, 3), (83, .aload_n 0, 1), (84, .getfield 181, 3), (87, .iload_n 2, 1), (88, .iaload, 1)]
noncomputable def xi_371_3 : XIs := [(89, .ireturn, 1), (90, .iload_n 3, 1), (91, .iconst 1, 1), (92, .if_icmp .ne 11, 3), (95, .aload_n 0, 1), (96, .getfield 184, 3), (99, .iload_n 2, 1), (100, .laload, 1), (101, .l2i, 1), (102, .ireturn, 1), (103, .aload_n 0, 1), (104, .getfield 181, 3), (107, .iload 4, 2), (109, .iaload, 1), (110, .ifCond .lt 41, 3), (113, .aload_n 0, 1)]
noncomputable def xi_371_4 : XIs := [(114, .getfield 187, 3), (117, .iload 4, 2), (119, .iaload, 1), (120, .ifCond .lt 31, 3), (123, .aload_n 0, 1), (124, .getfield 181, 3), (127, .iload 4, 2), (129, .iaload, 1), (130, .aload_n 0, 1), (131, .getfield 187, 3), (134, .iload 4, 2), (136, .iaload, 1), (137, .iadd, 1), (138, .aload_n 0, 1), (139, .getfield 181, 3), (142, .iload_n 2, 1)]
noncomputable def xi_371_5 : XIs := [(143, .iaload, 1), (144, .if_icmp .ne 7, 3), (147, .iconst 1, 1), (148, .goto 4, 3), (151, .iconst 0, 1), (152, .istore 5, 2), (154, .iload 5, 2), (156, .ifCond .eq 26, 3), (159, .aload_n 0, 1), (160, .getfield 184, 3), (163, .iload 4, 2), (165, .laload, 1), (166, .aload_n 0, 1), (167, .getfield 190, 3), (170, .iload 4, 2), (172, .laload, 1)]
noncomputable def xi_371_6 : XIs := [(173, .lmul, 1), (174, .ldc2_w 572, 3), (177, .lrem, 1), (178, .l2i, 1), (179, .goto 4, 3), (182, .iconst 0, 1), (183, .ireturn, 1)]
set_option maxRecDepth 100000 in
theorem xi_w371 : xi_ok cX12_shortest (xi_371_0 ++ (xi_371_1 ++ (xi_371_2 ++ (xi_371_3 ++ (xi_371_4 ++ (xi_371_5 ++ (xi_371_6))))))) = true := dl_all _ _ (by decide +kernel)
theorem xi_ok371_0 : xi_ok cX12_shortest xi_371_0 = true := (xi_ap xi_w371).1
theorem xi_r371_1 : xi_ok cX12_shortest (xi_371_1 ++ (xi_371_2 ++ (xi_371_3 ++ (xi_371_4 ++ (xi_371_5 ++ (xi_371_6)))))) = true := (xi_ap xi_w371).2
theorem xi_ok371_1 : xi_ok cX12_shortest xi_371_1 = true := (xi_ap xi_r371_1).1
theorem xi_r371_2 : xi_ok cX12_shortest (xi_371_2 ++ (xi_371_3 ++ (xi_371_4 ++ (xi_371_5 ++ (xi_371_6))))) = true := (xi_ap xi_r371_1).2
theorem xi_ok371_2 : xi_ok cX12_shortest xi_371_2 = true := (xi_ap xi_r371_2).1
theorem xi_r371_3 : xi_ok cX12_shortest (xi_371_3 ++ (xi_371_4 ++ (xi_371_5 ++ (xi_371_6)))) = true := (xi_ap xi_r371_2).2
theorem xi_ok371_3 : xi_ok cX12_shortest xi_371_3 = true := (xi_ap xi_r371_3).1
theorem xi_r371_4 : xi_ok cX12_shortest (xi_371_4 ++ (xi_371_5 ++ (xi_371_6))) = true := (xi_ap xi_r371_3).2
theorem xi_ok371_4 : xi_ok cX12_shortest xi_371_4 = true := (xi_ap xi_r371_4).1
theorem xi_r371_5 : xi_ok cX12_shortest (xi_371_5 ++ (xi_371_6)) = true := (xi_ap xi_r371_4).2
theorem xi_ok371_5 : xi_ok cX12_shortest xi_371_5 = true := (xi_ap xi_r371_5).1
theorem xi_r371_6 : xi_ok cX12_shortest (xi_371_6) = true := (xi_ap xi_r371_5).2
theorem xi_ok371_6 : xi_ok cX12_shortest xi_371_6 = true := xi_r371_6
noncomputable def xi_371 (pc : Nat) : XIs := cond (Nat.blt pc 89) (cond (Nat.blt pc 30) (xi_371_0) (cond (Nat.blt pc 59) (xi_371_1) (xi_371_2))) (cond (Nat.blt pc 143) (cond (Nat.blt pc 114) (xi_371_3) (xi_371_4)) (cond (Nat.blt pc 173) (xi_371_5) (xi_371_6)))
theorem xi_ok371 (pc : Nat) : xi_ok cX12_shortest (xi_371 pc) = true := xi_c (xi_c (xi_ok371_0) (xi_c (xi_ok371_1) (xi_ok371_2))) (xi_c (xi_c (xi_ok371_3) (xi_ok371_4)) (xi_c (xi_ok371_5) (xi_ok371_6)))
noncomputable def xi_372_0 : XIs := [(0, .ldc2_w 570, 3), (3, .aload_n 0, 1), (4, .getfield 594, 3), (7, .i2l, 1), (8, .lmul, 1), (9, .aload_n 0, 1), (10, .getfield 199, 3), (13, .bipush 32, 2), (15, .iload_n 1, 1), (16, .imul, 1), (17, .iload_n 2, 1), (18, .iadd, 1), (19, .iaload, 1), (20, .i2l, 1), (21, .lmul, 1), (22, .aload_n 0, 1)]
noncomputable def xi_372_1 : XIs := [(23, .getfield 196, 3), (26, .iload_n 1, 1), (27, .iaload, 1), (28, .i2l, 1), (29, .aload_n 0, 1), (30, .getfield 196, 3), (33, .iload_n 2, 1), (34, .iaload, 1), (35, .i2l, 1), (36, .lmul, 1), (37, .lsub, 1), (38, .lreturn, 1)]
set_option maxRecDepth 100000 in
theorem xi_w372 : xi_ok cX12_gainOf (xi_372_0 ++ (xi_372_1)) = true := dl_all _ _ (by decide +kernel)
theorem xi_ok372_0 : xi_ok cX12_gainOf xi_372_0 = true := (xi_ap xi_w372).1
theorem xi_r372_1 : xi_ok cX12_gainOf (xi_372_1) = true := (xi_ap xi_w372).2
theorem xi_ok372_1 : xi_ok cX12_gainOf xi_372_1 = true := xi_r372_1
noncomputable def xi_372 (pc : Nat) : XIs := cond (Nat.blt pc 23) (xi_372_0) (xi_372_1)
theorem xi_ok372 (pc : Nat) : xi_ok cX12_gainOf (xi_372 pc) = true := xi_c (xi_ok372_0) (xi_ok372_1)
noncomputable def xi_373_0 : XIs := [(0, .lconst 0, 1), (1, .lstore_n 3, 1), (2, .iconst 0, 1), (3, .istore 5, 2), (5, .iload 5, 2), (7, .aload_n 0, 1), (8, .getfield 285, 3), (11, .if_icmp .ge 40, 3), (14, .lload_n 3, 1), (15, .iload 5, 2), (17, .iload_n 1, 1), (18, .if_icmp .eq 24, 3), (21, .aload_n 0, 1), (22, .getfield 193, 3), (25, .iload 5, 2), (27, .iaload, 1)]
noncomputable def xi_373_1 : XIs := [(28, .iload_n 2, 1), (29, .if_icmp .ne 13, 3), (32, .aload_n 0, 1), (33, .iload_n 1, 1), (34, .iload 5, 2), (36, .invokevirtual 597, 3), (39, .goto 4, 3), (42, .lconst 0, 1), (43, .ladd, 1), (44, .lstore_n 3, 1), (45, .iinc 5 1, 3), (48, .goto (-43), 3), (51, .lload_n 3, 1), (52, .lreturn, 1)]
set_option maxRecDepth 100000 in
theorem xi_w373 : xi_ok cX12_gainIn (xi_373_0 ++ (xi_373_1)) = true := dl_all _ _ (by decide +kernel)
theorem xi_ok373_0 : xi_ok cX12_gainIn xi_373_0 = true := (xi_ap xi_w373).1
theorem xi_r373_1 : xi_ok cX12_gainIn (xi_373_1) = true := (xi_ap xi_w373).2
theorem xi_ok373_1 : xi_ok cX12_gainIn xi_373_1 = true := xi_r373_1
noncomputable def xi_373 (pc : Nat) : XIs := cond (Nat.blt pc 28) (xi_373_0) (xi_373_1)
theorem xi_ok373 (pc : Nat) : xi_ok cX12_gainIn (xi_373 pc) = true := xi_c (xi_ok373_0) (xi_ok373_1)
noncomputable def xi_374_0 : XIs := [(0, .aload_n 0, 1), (1, .iconst 0, 1), (2, .putfield 594, 3), (5, .iconst 0, 1), (6, .istore_n 1, 1), (7, .iload_n 1, 1), (8, .sipush 1024, 3), (11, .if_icmp .ge 16, 3), (14, .aload_n 0, 1), (15, .getfield 199, 3), (18, .iload_n 1, 1), (19, .iconst 0, 1), (20, .iastore, 1), (21, .iinc 1 1, 3), (24, .goto (-17), 3), (27, .iconst 0, 1)]
noncomputable def xi_374_1 : XIs := [(28, .istore_n 1, 1), (29, .iload_n 1, 1), (30, .aload_n 0, 1), (31, .getfield 285, 3), (34, .if_icmp .ge 23, 3), (37, .aload_n 0, 1), (38, .getfield 196, 3), (41, .iload_n 1, 1), (42, .iconst 0, 1), (43, .iastore, 1), (44, .aload_n 0, 1), (45, .getfield 193, 3), (48, .iload_n 1, 1), (49, .iload_n 1, 1), (50, .iastore, 1), (51, .iinc 1 1, 3)]
noncomputable def xi_374_2 : XIs := [(54, .goto (-25), 3), (57, .iconst 0, 1), (58, .istore_n 1, 1), (59, .iload_n 1, 1), (60, .sipush 160, 3), (63, .if_icmp .ge 137, 3), (66, .aload_n 0, 1), (67, .iload_n 1, 1), (68, .invokevirtual 340, 3), (71, .ifCond .eq 123, 3), (74, .aload_n 0, 1), (75, .dup, 1), (76, .getfield 594, 3), (79, .iconst 1, 1), (80, .iadd, 1), (81, .putfield 594, 3)]
noncomputable def xi_374_3 : XIs := [(84, .aload_n 0, 1), (85, .getfield 196, 3), (88, .aload_n 0, 1), (89, .getfield 20, 3), (92, .aload_n 0, 1), (93, .getfield 288, 3), (96, .iload_n 1, 1), (97, .iadd, 1), (98, .iaload, 1), (99, .dup2, 1), (100, .iaload, 1), (101, .iconst 1, 1), (102, .iadd, 1), (103, .iastore, 1), (104, .aload_n 0, 1), (105, .getfield 196, 3)]
noncomputable def xi_374_4 : XIs := [(108, .aload_n 0, 1), (109, .getfield 23, 3), (112, .aload_n 0, 1), (113, .getfield 288, 3), (116, .iload_n 1, 1), (117, .iadd, 1), (118, .iaload, 1), (119, .dup2, 1), (120, .iaload, 1), (121, .iconst 1, 1), (122, .iadd, 1), (123, .iastore, 1), (124, .aload_n 0, 1), (125, .getfield 199, 3), (128, .bipush 32, 2), (130, .aload_n 0, 1)]
noncomputable def xi_374_5 : XIs := [(131, .getfield 20, 3), (134, .aload_n 0, 1), (135, .getfield 288, 3), (138, .iload_n 1, 1), (139, .iadd, 1), (140, .iaload, 1), (141, .imul, 1), (142, .aload_n 0, 1), (143, .getfield 23, 3), (146, .aload_n 0, 1), (147, .getfield 288, 3), (150, .iload_n 1, 1), (151, .iadd, 1), (152, .iaload, 1), (153, .iadd, 1), (154, .dup2, 1)]
noncomputable def xi_374_6 : XIs := [(155, .iaload, 1), (156, .iconst 1, 1), (157, .iadd, 1), (158, .iastore, 1), (159, .aload_n 0, 1), (160, .getfield 199, 3), (163, .bipush 32, 2), (165, .aload_n 0, 1), (166, .getfield 23, 3), (169, .aload_n 0, 1), (170, .getfield 288, 3), (173, .iload_n 1, 1), (174, .iadd, 1), (175, .iaload, 1), (176, .imul, 1), (177, .aload_n 0, 1)]
noncomputable def xi_374_7 : XIs := [(178, .getfield 20, 3), (181, .aload_n 0, 1), (182, .getfield 288, 3), (185, .iload_n 1, 1), (186, .iadd, 1), (187, .iaload, 1), (188, .iadd, 1), (189, .dup2, 1), (190, .iaload, 1), (191, .iconst 1, 1), (192, .iadd, 1), (193, .iastore, 1), (194, .iinc 1 1, 3), (197, .goto (-138), 3), (200, .iconst 1, 1), (201, .istore_n 1, 1)]
noncomputable def xi_374_8 : XIs := [(202, .iconst 0, 1), (203, .istore_n 2, 1), (204, .iload_n 2, 1), (205, .bipush 20, 2), (207, .if_icmp .ge 67, 3), (210, .iload_n 1, 1), (211, .ifCond .eq 63, 3), (214, .iconst 0, 1), (215, .istore_n 1, 1), (216, .iconst 0, 1), (217, .istore_n 3, 1), (218, .iload_n 3, 1), (219, .aload_n 0, 1), (220, .getfield 285, 3), (223, .if_icmp .ge 45, 3), (226, .aload_n 0, 1)]
noncomputable def xi_374_9 : XIs := [(227, .iload_n 3, 1), (228, .invokevirtual 600, 3), (231, .istore 4, 2), (233, .iload_n 1, 1), (234, .ifCond .ne 14, 3), (237, .iload 4, 2), (239, .aload_n 0, 1), (240, .getfield 193, 3), (243, .iload_n 3, 1), (244, .iaload, 1), (245, .if_icmp .eq 7, 3), (248, .iconst 1, 1), (249, .goto 4, 3), (252, .iconst 0, 1), (253, .istore_n 1, 1), (254, .aload_n 0, 1)]
noncomputable def xi_374_10 : XIs := [(255, .getfield 193, 3), (258, .iload_n 3, 1), (259, .iload 4, 2), (261, .iastore, 1), (262, .iinc 3 1, 3), (265, .goto (-47), 3), (268, .iinc 2 1, 3), (271, .goto (-67), 3), (274, .return_, 1)]
set_option maxRecDepth 100000 in
theorem xi_w374 : xi_ok cX12_findGroups (xi_374_0 ++ (xi_374_1 ++ (xi_374_2 ++ (xi_374_3 ++ (xi_374_4 ++ (xi_374_5 ++ (xi_374_6 ++ (xi_374_7 ++ (xi_374_8 ++ (xi_374_9 ++ (xi_374_10))))))))))) = true := dl_all _ _ (by decide +kernel)
theorem xi_ok374_0 : xi_ok cX12_findGroups xi_374_0 = true := (xi_ap xi_w374).1
theorem xi_r374_1 : xi_ok cX12_findGroups (xi_374_1 ++ (xi_374_2 ++ (xi_374_3 ++ (xi_374_4 ++ (xi_374_5 ++ (xi_374_6 ++ (xi_374_7 ++ (xi_374_8 ++ (xi_374_9 ++ (xi_374_10)))))))))) = true := (xi_ap xi_w374).2
theorem xi_ok374_1 : xi_ok cX12_findGroups xi_374_1 = true := (xi_ap xi_r374_1).1
theorem xi_r374_2 : xi_ok cX12_findGroups (xi_374_2 ++ (xi_374_3 ++ (xi_374_4 ++ (xi_374_5 ++ (xi_374_6 ++ (xi_374_7 ++ (xi_374_8 ++ (xi_374_9 ++ (xi_374_10))))))))) = true := (xi_ap xi_r374_1).2
theorem xi_ok374_2 : xi_ok cX12_findGroups xi_374_2 = true := (xi_ap xi_r374_2).1
theorem xi_r374_3 : xi_ok cX12_findGroups (xi_374_3 ++ (xi_374_4 ++ (xi_374_5 ++ (xi_374_6 ++ (xi_374_7 ++ (xi_374_8 ++ (xi_374_9 ++ (xi_374_10)))))))) = true := (xi_ap xi_r374_2).2
theorem xi_ok374_3 : xi_ok cX12_findGroups xi_374_3 = true := (xi_ap xi_r374_3).1
theorem xi_r374_4 : xi_ok cX12_findGroups (xi_374_4 ++ (xi_374_5 ++ (xi_374_6 ++ (xi_374_7 ++ (xi_374_8 ++ (xi_374_9 ++ (xi_374_10))))))) = true := (xi_ap xi_r374_3).2
theorem xi_ok374_4 : xi_ok cX12_findGroups xi_374_4 = true := (xi_ap xi_r374_4).1
theorem xi_r374_5 : xi_ok cX12_findGroups (xi_374_5 ++ (xi_374_6 ++ (xi_374_7 ++ (xi_374_8 ++ (xi_374_9 ++ (xi_374_10)))))) = true := (xi_ap xi_r374_4).2
theorem xi_ok374_5 : xi_ok cX12_findGroups xi_374_5 = true := (xi_ap xi_r374_5).1
theorem xi_r374_6 : xi_ok cX12_findGroups (xi_374_6 ++ (xi_374_7 ++ (xi_374_8 ++ (xi_374_9 ++ (xi_374_10))))) = true := (xi_ap xi_r374_5).2
theorem xi_ok374_6 : xi_ok cX12_findGroups xi_374_6 = true := (xi_ap xi_r374_6).1
theorem xi_r374_7 : xi_ok cX12_findGroups (xi_374_7 ++ (xi_374_8 ++ (xi_374_9 ++ (xi_374_10)))) = true := (xi_ap xi_r374_6).2
theorem xi_ok374_7 : xi_ok cX12_findGroups xi_374_7 = true := (xi_ap xi_r374_7).1
theorem xi_r374_8 : xi_ok cX12_findGroups (xi_374_8 ++ (xi_374_9 ++ (xi_374_10))) = true := (xi_ap xi_r374_7).2
theorem xi_ok374_8 : xi_ok cX12_findGroups xi_374_8 = true := (xi_ap xi_r374_8).1
theorem xi_r374_9 : xi_ok cX12_findGroups (xi_374_9 ++ (xi_374_10)) = true := (xi_ap xi_r374_8).2
theorem xi_ok374_9 : xi_ok cX12_findGroups xi_374_9 = true := (xi_ap xi_r374_9).1
theorem xi_r374_10 : xi_ok cX12_findGroups (xi_374_10) = true := (xi_ap xi_r374_9).2
theorem xi_ok374_10 : xi_ok cX12_findGroups xi_374_10 = true := xi_r374_10
noncomputable def xi_374 (pc : Nat) : XIs := cond (Nat.blt pc 131) (cond (Nat.blt pc 54) (cond (Nat.blt pc 28) (xi_374_0) (xi_374_1)) (cond (Nat.blt pc 84) (xi_374_2) (cond (Nat.blt pc 108) (xi_374_3) (xi_374_4)))) (cond (Nat.blt pc 202) (cond (Nat.blt pc 155) (xi_374_5) (cond (Nat.blt pc 178) (xi_374_6) (xi_374_7))) (cond (Nat.blt pc 227) (xi_374_8) (cond (Nat.blt pc 255) (xi_374_9) (xi_374_10))))
theorem xi_ok374 (pc : Nat) : xi_ok cX12_findGroups (xi_374 pc) = true := xi_c (xi_c (xi_c (xi_ok374_0) (xi_ok374_1)) (xi_c (xi_ok374_2) (xi_c (xi_ok374_3) (xi_ok374_4)))) (xi_c (xi_c (xi_ok374_5) (xi_c (xi_ok374_6) (xi_ok374_7))) (xi_c (xi_ok374_8) (xi_c (xi_ok374_9) (xi_ok374_10))))
noncomputable def xi_375_0 : XIs := [(0, .bipush 40, 2), (2, .istore_n 3, 1), (3, .aload_n 0, 1), (4, .getfield 285, 3), (7, .iconst 1, 1), (8, .isub, 1), (9, .istore 4, 2), (11, .iload 4, 2), (13, .ifCond .lt 33, 3), (16, .aload_n 0, 1), (17, .getfield 193, 3), (20, .iload 4, 2), (22, .iaload, 1), (23, .iload_n 1, 1), (24, .if_icmp .ne 14, 3), (27, .iload 4, 2)]
noncomputable def xi_375_1 : XIs := [(29, .iload_n 2, 1), (30, .if_icmp .eq 8, 3), (33, .iload 4, 2), (35, .goto 4, 3), (38, .iload_n 3, 1), (39, .istore_n 3, 1), (40, .iinc 4 (-1), 3), (43, .goto (-32), 3), (46, .iload_n 3, 1), (47, .ireturn, 1)]
set_option maxRecDepth 100000 in
theorem xi_w375 : xi_ok cX12_leastOf (xi_375_0 ++ (xi_375_1)) = true := dl_all _ _ (by decide +kernel)
theorem xi_ok375_0 : xi_ok cX12_leastOf xi_375_0 = true := (xi_ap xi_w375).1
theorem xi_r375_1 : xi_ok cX12_leastOf (xi_375_1) = true := (xi_ap xi_w375).2
theorem xi_ok375_1 : xi_ok cX12_leastOf xi_375_1 = true := xi_r375_1
noncomputable def xi_375 (pc : Nat) : XIs := cond (Nat.blt pc 29) (xi_375_0) (xi_375_1)
theorem xi_ok375 (pc : Nat) : xi_ok cX12_leastOf (xi_375 pc) = true := xi_c (xi_ok375_0) (xi_ok375_1)
noncomputable def xi_376_0 : XIs := [(0, .aload_n 0, 1), (1, .iload_n 1, 1), (2, .aload_n 0, 1), (3, .getfield 193, 3), (6, .iload_n 1, 1), (7, .iaload, 1), (8, .invokevirtual 603, 3), (11, .lstore_n 2, 1), (12, .aload_n 0, 1), (13, .getfield 193, 3), (16, .iload_n 1, 1), (17, .iaload, 1), (18, .istore 4, 2), (20, .iconst (-1), 1), (21, .istore 5, 2), (23, .aload_n 0, 1)]
noncomputable def xi_376_1 : XIs := [(24, .aload_n 0, 1), (25, .getfield 193, 3), (28, .iload_n 1, 1), (29, .iaload, 1), (30, .iload_n 1, 1), (31, .invokevirtual 606, 3), (34, .bipush 40, 2), (36, .if_icmp .ne 7, 3), (39, .iconst 1, 1), (40, .goto 4, 3), (43, .iconst 0, 1), (44, .istore 6, 2), (46, .iconst 0, 1), (47, .istore 7, 2), (49, .iload 7, 2), (51, .aload_n 0, 1)]
noncomputable def xi_376_2 : XIs := [(52, .getfield 285, 3), (55, .if_icmp .ge 116, 3), (58, .iload 7, 2), (60, .iload_n 1, 1), (61, .if_icmp .eq 104, 3), (64, .aload_n 0, 1), (65, .getfield 199, 3), (68, .bipush 32, 2), (70, .iload_n 1, 1), (71, .imul, 1), (72, .iload 7, 2), (74, .iadd, 1), (75, .iaload, 1), (76, .ifCond .le 89, 3), (79, .aload_n 0, 1), (80, .getfield 193, 3)]
noncomputable def xi_376_3 : XIs := [(83, .iload 7, 2), (85, .iaload, 1), (86, .aload_n 0, 1), (87, .getfield 193, 3), (90, .iload_n 1, 1), (91, .iaload, 1), (92, .if_icmp .eq 73, 3), (95, .aload_n 0, 1), (96, .iload_n 1, 1), (97, .aload_n 0, 1), (98, .getfield 193, 3), (101, .iload 7, 2), (103, .iaload, 1), (104, .invokevirtual 603, 3), (107, .lstore 8, 2), (109, .aload_n 0, 1)]
noncomputable def xi_376_4 : XIs := [(110, .aload_n 0, 1), (111, .getfield 193, 3), (114, .iload 7, 2), (116, .iaload, 1), (117, .iload_n 1, 1), (118, .invokevirtual 606, 3), (121, .istore 10, 2), (123, .lload 8, 2), (125, .lload_n 2, 1), (126, .lcmp, 1), (127, .ifCond .gt 22, 3), (130, .lload 8, 2), (132, .lload_n 2, 1), (133, .lcmp, 1), (134, .ifCond .ne 31, 3), (137, .iload 5, 2)]
noncomputable def xi_376_5 : XIs := [(139, .ifCond .lt 26, 3), (142, .iload 10, 2), (144, .iload 5, 2), (146, .if_icmp .ge 19, 3), (149, .lload 8, 2), (151, .lstore_n 2, 1), (152, .aload_n 0, 1), (153, .getfield 193, 3), (156, .iload 7, 2), (158, .iaload, 1), (159, .istore 4, 2), (161, .iload 10, 2), (163, .istore 5, 2), (165, .iinc 7 1, 3), (168, .goto (-119), 3), (171, .iload 6, 2)]
noncomputable def xi_376_6 : XIs := [(173, .ifCond .ne 14, 3), (176, .lload_n 2, 1), (177, .lconst 0, 1), (178, .lcmp, 1), (179, .ifCond .ge 8, 3), (182, .aload_n 0, 1), (183, .invokevirtual 609, 3), (186, .ireturn, 1), (187, .iload 4, 2), (189, .ireturn, 1)]
set_option maxRecDepth 100000 in
theorem xi_w376 : xi_ok cX12_bestGroup (xi_376_0 ++ (xi_376_1 ++ (xi_376_2 ++ (xi_376_3 ++ (xi_376_4 ++ (xi_376_5 ++ (xi_376_6))))))) = true := dl_all _ _ (by decide +kernel)
theorem xi_ok376_0 : xi_ok cX12_bestGroup xi_376_0 = true := (xi_ap xi_w376).1
theorem xi_r376_1 : xi_ok cX12_bestGroup (xi_376_1 ++ (xi_376_2 ++ (xi_376_3 ++ (xi_376_4 ++ (xi_376_5 ++ (xi_376_6)))))) = true := (xi_ap xi_w376).2
theorem xi_ok376_1 : xi_ok cX12_bestGroup xi_376_1 = true := (xi_ap xi_r376_1).1
theorem xi_r376_2 : xi_ok cX12_bestGroup (xi_376_2 ++ (xi_376_3 ++ (xi_376_4 ++ (xi_376_5 ++ (xi_376_6))))) = true := (xi_ap xi_r376_1).2
theorem xi_ok376_2 : xi_ok cX12_bestGroup xi_376_2 = true := (xi_ap xi_r376_2).1
theorem xi_r376_3 : xi_ok cX12_bestGroup (xi_376_3 ++ (xi_376_4 ++ (xi_376_5 ++ (xi_376_6)))) = true := (xi_ap xi_r376_2).2
theorem xi_ok376_3 : xi_ok cX12_bestGroup xi_376_3 = true := (xi_ap xi_r376_3).1
theorem xi_r376_4 : xi_ok cX12_bestGroup (xi_376_4 ++ (xi_376_5 ++ (xi_376_6))) = true := (xi_ap xi_r376_3).2
theorem xi_ok376_4 : xi_ok cX12_bestGroup xi_376_4 = true := (xi_ap xi_r376_4).1
theorem xi_r376_5 : xi_ok cX12_bestGroup (xi_376_5 ++ (xi_376_6)) = true := (xi_ap xi_r376_4).2
theorem xi_ok376_5 : xi_ok cX12_bestGroup xi_376_5 = true := (xi_ap xi_r376_5).1
theorem xi_r376_6 : xi_ok cX12_bestGroup (xi_376_6) = true := (xi_ap xi_r376_5).2
theorem xi_ok376_6 : xi_ok cX12_bestGroup xi_376_6 = true := xi_r376_6
noncomputable def xi_376 (pc : Nat) : XIs := cond (Nat.blt pc 83) (cond (Nat.blt pc 24) (xi_376_0) (cond (Nat.blt pc 52) (xi_376_1) (xi_376_2))) (cond (Nat.blt pc 139) (cond (Nat.blt pc 110) (xi_376_3) (xi_376_4)) (cond (Nat.blt pc 173) (xi_376_5) (xi_376_6)))
theorem xi_ok376 (pc : Nat) : xi_ok cX12_bestGroup (xi_376 pc) = true := xi_c (xi_c (xi_ok376_0) (xi_c (xi_ok376_1) (xi_ok376_2))) (xi_c (xi_c (xi_ok376_3) (xi_ok376_4)) (xi_c (xi_ok376_5) (xi_ok376_6)))
noncomputable def xi_377_0 : XIs := [(0, .iconst 0, 1), (1, .istore_n 1, 1), (2, .aload_n 0, 1), (3, .iload_n 1, 1), (4, .iconst (-1), 1), (5, .invokevirtual 606, 3), (8, .bipush 40, 2), (10, .if_icmp .ge 9, 3), (13, .iinc 1 1, 3), (16, .goto (-14), 3), (19, .iload_n 1, 1), (20, .ireturn, 1)]
set_option maxRecDepth 100000 in
theorem xi_w377 : xi_ok cX12_freeGroup (xi_377_0) = true := dl_all _ _ (by decide +kernel)
theorem xi_ok377_0 : xi_ok cX12_freeGroup xi_377_0 = true := xi_w377
noncomputable def xi_377 (pc : Nat) : XIs := xi_377_0
theorem xi_ok377 (pc : Nat) : xi_ok cX12_freeGroup (xi_377 pc) = true := xi_ok377_0
noncomputable def xi_378_0 : XIs := [(0, .aload_n 0, 1), (1, .aload_n 0, 1), (2, .iload_n 1, 1), (3, .invokevirtual 349, 3), (6, .invokevirtual 334, 3), (9, .ifCond .eq 5, 3), (12, .iconst 0, 1), (13, .ireturn, 1), (14, .aload_n 0, 1), (15, .invokevirtual 612, 3), (18, .aload_n 0, 1), (19, .aload_n 0, 1), (20, .getfield 193, 3), (23, .iload_n 1, 1), (24, .iaload, 1), (25, .iconst (-1), 1)]
noncomputable def xi_378_1 : XIs := [(26, .invokevirtual 606, 3), (29, .ireturn, 1)]
set_option maxRecDepth 100000 in
theorem xi_w378 : xi_ok cX12_group (xi_378_0 ++ (xi_378_1)) = true := dl_all _ _ (by decide +kernel)
theorem xi_ok378_0 : xi_ok cX12_group xi_378_0 = true := (xi_ap xi_w378).1
theorem xi_r378_1 : xi_ok cX12_group (xi_378_1) = true := (xi_ap xi_w378).2
theorem xi_ok378_1 : xi_ok cX12_group xi_378_1 = true := xi_r378_1
noncomputable def xi_378 (pc : Nat) : XIs := cond (Nat.blt pc 26) (xi_378_0) (xi_378_1)
theorem xi_ok378 (pc : Nat) : xi_ok cX12_group (xi_378 pc) = true := xi_c (xi_ok378_0) (xi_ok378_1)
noncomputable def xi_379_0 : XIs := [(0, .aload_n 0, 1), (1, .iconst 0, 1), (2, .putfield 278, 3), (5, .aload_n 0, 1), (6, .invokevirtual 612, 3), (9, .lconst 0, 1), (10, .lstore_n 1, 1), (11, .iconst 0, 1), (12, .istore_n 3, 1), (13, .iload_n 3, 1), (14, .aload_n 0, 1), (15, .getfield 285, 3), (18, .if_icmp .ge 23, 3), (21, .lload_n 1, 1), (22, .aload_n 0, 1), (23, .iload_n 3, 1)]
noncomputable def xi_379_1 : XIs := [(24, .aload_n 0, 1), (25, .getfield 193, 3), (28, .iload_n 3, 1), (29, .iaload, 1), (30, .invokevirtual 603, 3), (33, .ladd, 1), (34, .lstore_n 1, 1), (35, .iinc 3 1, 3), (38, .goto (-25), 3), (41, .lload_n 1, 1), (42, .lreturn, 1)]
set_option maxRecDepth 100000 in
theorem xi_w379 : xi_ok cX12_gain (xi_379_0 ++ (xi_379_1)) = true := dl_all _ _ (by decide +kernel)
theorem xi_ok379_0 : xi_ok cX12_gain xi_379_0 = true := (xi_ap xi_w379).1
theorem xi_r379_1 : xi_ok cX12_gain (xi_379_1) = true := (xi_ap xi_w379).2
theorem xi_ok379_1 : xi_ok cX12_gain xi_379_1 = true := xi_r379_1
noncomputable def xi_379 (pc : Nat) : XIs := cond (Nat.blt pc 24) (xi_379_0) (xi_379_1)
theorem xi_ok379 (pc : Nat) : xi_ok cX12_gain (xi_379 pc) = true := xi_c (xi_ok379_0) (xi_ok379_1)
noncomputable def xi_380_0 : XIs := [(0, .aload_n 0, 1), (1, .iload_n 1, 1), (2, .i2l, 1), (3, .lconst 0, 1), (4, .lconst 1, 1), (5, .invokestatic 308, 3), (8, .invokevirtual 334, 3), (11, .ifCond .eq 5, 3), (14, .lconst 0, 1), (15, .lreturn, 1), (16, .aload_n 0, 1), (17, .invokevirtual 485, 3), (20, .lconst 0, 1), (21, .lstore_n 2, 1), (22, .iconst 0, 1), (23, .istore 4, 2)]
noncomputable def xi_380_1 : XIs := [(25, .iload 4, 2), (27, .aload_n 0, 1), (28, .getfield 285, 3), (31, .if_icmp .ge 94, 3), (34, .iload 4, 2), (36, .iconst 1, 1), (37, .iadd, 1), (38, .istore 5, 2), (40, .iload 5, 2), (42, .aload_n 0, 1), (43, .getfield 285, 3), (46, .if_icmp .ge 73, 3), (49, .aload_n 0, 1), (50, .getfield 100, 3), (53, .iload 4, 2), (55, .iaload, 1)]
noncomputable def xi_380_2 : XIs := [(56, .aload_n 0, 1), (57, .getfield 100, 3), (60, .iload 5, 2), (62, .iaload, 1), (63, .iand, 1), (64, .invokestatic 488, 3), (67, .i2l, 1), (68, .lstore 6, 2), (70, .lload_n 2, 1), (71, .iload_n 1, 1), (72, .iconst 1, 1), (73, .if_icmp .ne 17, 3), (76, .lload 6, 2), (78, .lload 6, 2), (80, .lconst 1, 1), (81, .lsub, 1)]
noncomputable def xi_380_3 : XIs := [(82, .lmul, 1), (83, .ldc2_w 570, 3), (86, .ldiv, 1), (87, .goto 24, 3), (90, .aload_n 0, 1), (91, .getfield 100, 3), (94, .iload 4, 2), (96, .iaload, 1), (97, .iload 5, 2), (99, .invokestatic 427, 3), (102, .ifCond .eq 8, 3), (105, .lload 6, 2), (107, .goto 4, 3), (110, .lconst 0, 1), (111, .ladd, 1), (112, .lstore_n 2, 1)]
noncomputable def xi_380_4 : XIs := [(113, .iinc 5 1, 3), (116, .goto (-76), 3), (119, .iinc 4 1, 3), (122, .goto (-97), 3), (125, .iload_n 1, 1), (126, .ifCond .ne 11, 3), (129, .lload_n 2, 1), (130, .ldc2_w 338, 3), (133, .ldiv, 1), (134, .goto 8, 3), (137, .lload_n 2, 1), (138, .ldc2_w 570, 3), (141, .ldiv, 1), (142, .lreturn, 1)]
set_option maxRecDepth 100000 in
theorem xi_w380 : xi_ok cX12_figures (xi_380_0 ++ (xi_380_1 ++ (xi_380_2 ++ (xi_380_3 ++ (xi_380_4))))) = true := dl_all _ _ (by decide +kernel)
theorem xi_ok380_0 : xi_ok cX12_figures xi_380_0 = true := (xi_ap xi_w380).1
theorem xi_r380_1 : xi_ok cX12_figures (xi_380_1 ++ (xi_380_2 ++ (xi_380_3 ++ (xi_380_4)))) = true := (xi_ap xi_w380).2
theorem xi_ok380_1 : xi_ok cX12_figures xi_380_1 = true := (xi_ap xi_r380_1).1
theorem xi_r380_2 : xi_ok cX12_figures (xi_380_2 ++ (xi_380_3 ++ (xi_380_4))) = true := (xi_ap xi_r380_1).2
theorem xi_ok380_2 : xi_ok cX12_figures xi_380_2 = true := (xi_ap xi_r380_2).1
theorem xi_r380_3 : xi_ok cX12_figures (xi_380_3 ++ (xi_380_4)) = true := (xi_ap xi_r380_2).2
theorem xi_ok380_3 : xi_ok cX12_figures xi_380_3 = true := (xi_ap xi_r380_3).1
theorem xi_r380_4 : xi_ok cX12_figures (xi_380_4) = true := (xi_ap xi_r380_3).2
theorem xi_ok380_4 : xi_ok cX12_figures xi_380_4 = true := xi_r380_4
noncomputable def xi_380 (pc : Nat) : XIs := cond (Nat.blt pc 56) (cond (Nat.blt pc 25) (xi_380_0) (xi_380_1)) (cond (Nat.blt pc 82) (xi_380_2) (cond (Nat.blt pc 113) (xi_380_3) (xi_380_4)))
theorem xi_ok380 (pc : Nat) : xi_ok cX12_figures (xi_380 pc) = true := xi_c (xi_c (xi_ok380_0) (xi_ok380_1)) (xi_c (xi_ok380_2) (xi_c (xi_ok380_3) (xi_ok380_4)))
noncomputable def xi_381_0 : XIs := [(0, .aload_n 0, 1), (1, .getfield 218, 3), (4, .aload_n 0, 1), (5, .getfield 615, 3), (8, .iconst 0, 1), (9, .bastore, 1), (10, .aload_n 0, 1), (11, .getfield 221, 3), (14, .aload_n 0, 1), (15, .getfield 615, 3), (18, .iconst 0, 1), (19, .bastore, 1), (20, .aload_n 0, 1), (21, .getfield 224, 3), (24, .aload_n 0, 1), (25, .getfield 615, 3)]
noncomputable def xi_381_1 : XIs := [(28, .lconst 0, 1), (29, .lastore, 1), (30, .aload_n 0, 1), (31, .getfield 227, 3), (34, .aload_n 0, 1), (35, .getfield 615, 3), (38, .lconst 0, 1), (39, .lastore, 1), (40, .aload_n 0, 1), (41, .invokevirtual 618, 3), (44, .return_, 1)]
set_option maxRecDepth 100000 in
theorem xi_w381 : xi_ok cX12_beginAlternative (xi_381_0 ++ (xi_381_1)) = true := dl_all _ _ (by decide +kernel)
theorem xi_ok381_0 : xi_ok cX12_beginAlternative xi_381_0 = true := (xi_ap xi_w381).1
theorem xi_r381_1 : xi_ok cX12_beginAlternative (xi_381_1) = true := (xi_ap xi_w381).2
theorem xi_ok381_1 : xi_ok cX12_beginAlternative xi_381_1 = true := xi_r381_1
noncomputable def xi_381 (pc : Nat) : XIs := cond (Nat.blt pc 28) (xi_381_0) (xi_381_1)
theorem xi_ok381 (pc : Nat) : xi_ok cX12_beginAlternative (xi_381 pc) = true := xi_c (xi_ok381_0) (xi_ok381_1)
noncomputable def xi_382_0 : XIs := [(0, .aload_n 0, 1), (1, .getfield 230, 3), (4, .aload_n 0, 1), (5, .getfield 615, 3), (8, .iconst 1, 1), (9, .bastore, 1), (10, .aload_n 0, 1), (11, .getfield 233, 3), (14, .aload_n 0, 1), (15, .getfield 615, 3), (18, .lconst 0, 1), (19, .lastore, 1), (20, .aload_n 0, 1), (21, .getfield 236, 3), (24, .aload_n 0, 1), (25, .getfield 615, 3)]
noncomputable def xi_382_1 : XIs := [(28, .lconst 0, 1), (29, .lastore, 1), (30, .aload_n 0, 1), (31, .iconst 0, 1), (32, .putfield 621, 3), (35, .aload_n 0, 1), (36, .iconst 0, 1), (37, .putfield 624, 3), (40, .return_, 1)]
set_option maxRecDepth 100000 in
theorem xi_w382 : xi_ok cX12_beginSequence (xi_382_0 ++ (xi_382_1)) = true := dl_all _ _ (by decide +kernel)
theorem xi_ok382_0 : xi_ok cX12_beginSequence xi_382_0 = true := (xi_ap xi_w382).1
theorem xi_r382_1 : xi_ok cX12_beginSequence (xi_382_1) = true := (xi_ap xi_w382).2
theorem xi_ok382_1 : xi_ok cX12_beginSequence xi_382_1 = true := xi_r382_1
noncomputable def xi_382 (pc : Nat) : XIs := cond (Nat.blt pc 28) (xi_382_0) (xi_382_1)
theorem xi_ok382 (pc : Nat) : xi_ok cX12_beginSequence (xi_382 pc) = true := xi_c (xi_ok382_0) (xi_ok382_1)
noncomputable def xi_383_0 : XIs := [(0, .iconst 0, 1), (1, .istore 5, 2), (3, .iload 5, 2), (5, .bipush 60, 2), (7, .if_icmp .ge 35, 3), (10, .aload_n 0, 1), (11, .getfield 215, 3), (14, .iload 5, 2), (16, .dup2, 1), (17, .laload, 1), (18, .lload_n 1, 1), (19, .iload 5, 2), (21, .lshr, 1), (22, .lconst 1, 1), (23, .land, 1), (24, .lconst 1, 1)]
noncomputable def xi_383_1 : XIs := [(25, .lcmp, 1), (26, .ifCond .ne 7, 3), (29, .lload_n 3, 1), (30, .goto 4, 3), (33, .lconst 0, 1), (34, .lor, 1), (35, .lastore, 1), (36, .iinc 5 1, 3), (39, .goto (-36), 3), (42, .return_, 1)]
set_option maxRecDepth 100000 in
theorem xi_w383 : xi_ok cX12_follow (xi_383_0 ++ (xi_383_1)) = true := dl_all _ _ (by decide +kernel)
theorem xi_ok383_0 : xi_ok cX12_follow xi_383_0 = true := (xi_ap xi_w383).1
theorem xi_r383_1 : xi_ok cX12_follow (xi_383_1) = true := (xi_ap xi_w383).2
theorem xi_ok383_1 : xi_ok cX12_follow xi_383_1 = true := xi_r383_1
noncomputable def xi_383 (pc : Nat) : XIs := cond (Nat.blt pc 25) (xi_383_0) (xi_383_1)
theorem xi_ok383 (pc : Nat) : xi_ok cX12_follow (xi_383 pc) = true := xi_c (xi_ok383_0) (xi_ok383_1)
noncomputable def xi_384_0 : XIs := [(0, .aload_n 0, 1), (1, .getfield 621, 3), (4, .ifCond .eq 119, 3), (7, .aload_n 0, 1), (8, .aload_n 0, 1), (9, .getfield 236, 3), (12, .aload_n 0, 1), (13, .getfield 615, 3), (16, .laload, 1), (17, .aload_n 0, 1), (18, .getfield 627, 3), (21, .invokevirtual 630, 3), (24, .aload_n 0, 1), (25, .getfield 233, 3), (28, .aload_n 0, 1), (29, .getfield 615, 3)]
noncomputable def xi_384_1 : XIs := [(32, .dup2, 1), (33, .laload, 1), (34, .aload_n 0, 1), (35, .getfield 230, 3), (38, .aload_n 0, 1), (39, .getfield 615, 3), (42, .baload, 1), (43, .ifCond .eq 10, 3), (46, .aload_n 0, 1), (47, .getfield 627, 3), (50, .goto 4, 3), (53, .lconst 0, 1), (54, .lor, 1), (55, .lastore, 1), (56, .aload_n 0, 1), (57, .getfield 236, 3)]
noncomputable def xi_384_2 : XIs := [(60, .aload_n 0, 1), (61, .getfield 615, 3), (64, .aload_n 0, 1), (65, .getfield 634, 3), (68, .aload_n 0, 1), (69, .getfield 637, 3), (72, .ifCond .eq 15, 3), (75, .aload_n 0, 1), (76, .getfield 236, 3), (79, .aload_n 0, 1), (80, .getfield 615, 3), (83, .laload, 1), (84, .goto 4, 3), (87, .lconst 0, 1), (88, .lor, 1), (89, .lastore, 1)]
noncomputable def xi_384_3 : XIs := [(90, .aload_n 0, 1), (91, .getfield 230, 3), (94, .aload_n 0, 1), (95, .getfield 615, 3), (98, .aload_n 0, 1), (99, .getfield 230, 3), (102, .aload_n 0, 1), (103, .getfield 615, 3), (106, .baload, 1), (107, .ifCond .eq 14, 3), (110, .aload_n 0, 1), (111, .getfield 637, 3), (114, .ifCond .eq 7, 3), (117, .iconst 1, 1), (118, .goto 4, 3), (121, .iconst 0, 1)]
noncomputable def xi_384_4 : XIs := [(122, .bastore, 1), (123, .aload_n 0, 1), (124, .iconst 0, 1), (125, .putfield 621, 3), (128, .aload_n 0, 1), (129, .iconst 0, 1), (130, .putfield 624, 3), (133, .return_, 1)]
set_option maxRecDepth 100000 in
theorem xi_w384 : xi_ok cX12_flush (xi_384_0 ++ (xi_384_1 ++ (xi_384_2 ++ (xi_384_3 ++ (xi_384_4))))) = true := dl_all _ _ (by decide +kernel)
theorem xi_ok384_0 : xi_ok cX12_flush xi_384_0 = true := (xi_ap xi_w384).1
theorem xi_r384_1 : xi_ok cX12_flush (xi_384_1 ++ (xi_384_2 ++ (xi_384_3 ++ (xi_384_4)))) = true := (xi_ap xi_w384).2
theorem xi_ok384_1 : xi_ok cX12_flush xi_384_1 = true := (xi_ap xi_r384_1).1
theorem xi_r384_2 : xi_ok cX12_flush (xi_384_2 ++ (xi_384_3 ++ (xi_384_4))) = true := (xi_ap xi_r384_1).2
theorem xi_ok384_2 : xi_ok cX12_flush xi_384_2 = true := (xi_ap xi_r384_2).1
theorem xi_r384_3 : xi_ok cX12_flush (xi_384_3 ++ (xi_384_4)) = true := (xi_ap xi_r384_2).2
theorem xi_ok384_3 : xi_ok cX12_flush xi_384_3 = true := (xi_ap xi_r384_3).1
theorem xi_r384_4 : xi_ok cX12_flush (xi_384_4) = true := (xi_ap xi_r384_3).2
theorem xi_ok384_4 : xi_ok cX12_flush xi_384_4 = true := xi_r384_4
noncomputable def xi_384 (pc : Nat) : XIs := cond (Nat.blt pc 60) (cond (Nat.blt pc 32) (xi_384_0) (xi_384_1)) (cond (Nat.blt pc 90) (xi_384_2) (cond (Nat.blt pc 122) (xi_384_3) (xi_384_4)))
theorem xi_ok384 (pc : Nat) : xi_ok cX12_flush (xi_384 pc) = true := xi_c (xi_c (xi_ok384_0) (xi_ok384_1)) (xi_c (xi_ok384_2) (xi_c (xi_ok384_3) (xi_ok384_4)))
noncomputable def xi_385_0 : XIs := [(0, .aload_n 0, 1), (1, .invokevirtual 640, 3), (4, .aload_n 0, 1), (5, .getfield 218, 3), (8, .aload_n 0, 1), (9, .getfield 615, 3), (12, .iconst 1, 1), (13, .bastore, 1), (14, .aload_n 0, 1), (15, .getfield 221, 3), (18, .aload_n 0, 1), (19, .getfield 615, 3), (22, .aload_n 0, 1), (23, .getfield 221, 3), (26, .aload_n 0, 1), (27, .getfield 615, 3)]
noncomputable def xi_385_1 : XIs := [(30, .baload, 1), (31, .ifCond .ne 15, 3), (34, .aload_n 0, 1), (35, .getfield 230, 3), (38, .aload_n 0, 1), (39, .getfield 615, 3), (42, .baload, 1), (43, .ifCond .eq 7, 3), (46, .iconst 1, 1), (47, .goto 4, 3), (50, .iconst 0, 1), (51, .bastore, 1), (52, .aload_n 0, 1), (53, .getfield 224, 3), (56, .aload_n 0, 1), (57, .getfield 615, 3)]
noncomputable def xi_385_2 : XIs := [(60, .dup2, 1), (61, .laload, 1), (62, .aload_n 0, 1), (63, .getfield 233, 3), (66, .aload_n 0, 1), (67, .getfield 615, 3), (70, .laload, 1), (71, .lor, 1), (72, .lastore, 1), (73, .aload_n 0, 1), (74, .getfield 227, 3), (77, .aload_n 0, 1), (78, .getfield 615, 3), (81, .dup2, 1), (82, .laload, 1), (83, .aload_n 0, 1)]
noncomputable def xi_385_3 : XIs := [(84, .getfield 236, 3), (87, .aload_n 0, 1), (88, .getfield 615, 3), (91, .laload, 1), (92, .lor, 1), (93, .lastore, 1), (94, .return_, 1)]
set_option maxRecDepth 100000 in
theorem xi_w385 : xi_ok cX12_endSequence (xi_385_0 ++ (xi_385_1 ++ (xi_385_2 ++ (xi_385_3)))) = true := dl_all _ _ (by decide +kernel)
theorem xi_ok385_0 : xi_ok cX12_endSequence xi_385_0 = true := (xi_ap xi_w385).1
theorem xi_r385_1 : xi_ok cX12_endSequence (xi_385_1 ++ (xi_385_2 ++ (xi_385_3))) = true := (xi_ap xi_w385).2
theorem xi_ok385_1 : xi_ok cX12_endSequence xi_385_1 = true := (xi_ap xi_r385_1).1
theorem xi_r385_2 : xi_ok cX12_endSequence (xi_385_2 ++ (xi_385_3)) = true := (xi_ap xi_r385_1).2
theorem xi_ok385_2 : xi_ok cX12_endSequence xi_385_2 = true := (xi_ap xi_r385_2).1
theorem xi_r385_3 : xi_ok cX12_endSequence (xi_385_3) = true := (xi_ap xi_r385_2).2
theorem xi_ok385_3 : xi_ok cX12_endSequence xi_385_3 = true := xi_r385_3
noncomputable def xi_385 (pc : Nat) : XIs := cond (Nat.blt pc 60) (cond (Nat.blt pc 30) (xi_385_0) (xi_385_1)) (cond (Nat.blt pc 84) (xi_385_2) (xi_385_3))
theorem xi_ok385 (pc : Nat) : xi_ok cX12_endSequence (xi_385 pc) = true := xi_c (xi_c (xi_ok385_0) (xi_ok385_1)) (xi_c (xi_ok385_2) (xi_ok385_3))
noncomputable def xi_386_0 : XIs := [(0, .aload_n 0, 1), (1, .iconst 0, 1), (2, .putfield 278, 3), (5, .aload_n 0, 1), (6, .iconst 0, 1), (7, .putfield 359, 3), (10, .aload_n 0, 1), (11, .getfield 356, 3), (14, .bipush 60, 2), (16, .if_icmp .le 13, 3), (19, .aload_n 0, 1), (20, .iconst 2, 1), (21, .bipush 60, 2), (23, .invokevirtual 391, 3), (26, .bipush (-4), 2), (28, .ireturn, 1)]
noncomputable def xi_386_1 : XIs := [(29, .iconst 0, 1), (30, .istore_n 1, 1), (31, .iconst 0, 1), (32, .istore_n 2, 1), (33, .iload_n 2, 1), (34, .bipush 60, 2), (36, .if_icmp .ge 16, 3), (39, .aload_n 0, 1), (40, .getfield 215, 3), (43, .iload_n 2, 1), (44, .lconst 0, 1), (45, .lastore, 1), (46, .iinc 2 1, 3), (49, .goto (-16), 3), (52, .aload_n 0, 1), (53, .iconst 0, 1)]
noncomputable def xi_386_2 : XIs := [(54, .putfield 615, 3), (57, .aload_n 0, 1), (58, .invokevirtual 643, 3), (61, .iconst 0, 1), (62, .istore_n 2, 1), (63, .iload_n 2, 1), (64, .aload_n 0, 1), (65, .getfield 356, 3), (68, .if_icmp .ge 84, 3), (71, .aload_n 0, 1), (72, .getfield 359, 3), (75, .ifCond .ne 77, 3), (78, .aload_n 0, 1), (79, .getfield 60, 3), (82, .iload_n 2, 1), (83, .iaload, 1)]
noncomputable def xi_386_3 : XIs := [(84, .istore_n 3, 1), (85, .iload_n 3, 1), (86, .invokestatic 388, 3), (89, .ifCond .ne 9, 3), (92, .iload_n 3, 1), (93, .bipush 46, 2), (95, .if_icmp .ne 45, 3), (98, .aload_n 0, 1), (99, .invokevirtual 640, 3), (102, .aload_n 0, 1), (103, .getfield 212, 3), (106, .iload_n 1, 1), (107, .iload_n 3, 1), (108, .bipush 46, 2), (110, .if_icmp .ne 8, 3), (113, .bipush 26, 2)]
noncomputable def xi_386_4 : XIs := [(115, .goto 7, 3), (118, .iload_n 3, 1), (119, .bipush 97, 2), (121, .isub, 1), (122, .iastore, 1), (123, .aload_n 0, 1), (124, .iconst 0, 1), (125, .lconst 1, 1), (126, .iload_n 1, 1), (127, .lshl, 1), (128, .lconst 1, 1), (129, .iload_n 1, 1), (130, .lshl, 1), (131, .invokevirtual 646, 3), (134, .iinc 1 1, 3), (137, .goto 9, 3)]
noncomputable def xi_386_5 : XIs := [(140, .aload_n 0, 1), (141, .iload_n 3, 1), (142, .iload_n 2, 1), (143, .invokevirtual 650, 3), (146, .iinc 2 1, 3), (149, .goto (-86), 3), (152, .aload_n 0, 1), (153, .getfield 359, 3), (156, .ifCond .ne 19, 3), (159, .aload_n 0, 1), (160, .getfield 615, 3), (163, .ifCond .le 12, 3), (166, .aload_n 0, 1), (167, .iconst 2, 1), (168, .aload_n 0, 1), (169, .getfield 356, 3)]
noncomputable def xi_386_6 : XIs := [(172, .invokevirtual 391, 3), (175, .aload_n 0, 1), (176, .getfield 359, 3), (179, .ifCond .le 6, 3), (182, .bipush (-4), 2), (184, .ireturn, 1), (185, .aload_n 0, 1), (186, .invokevirtual 653, 3), (189, .aload_n 0, 1), (190, .iload_n 1, 1), (191, .putfield 656, 3), (194, .aload_n 0, 1), (195, .aload_n 0, 1), (196, .getfield 221, 3), (199, .iconst 0, 1), (200, .baload, 1)]
noncomputable def xi_386_7 : XIs := [(201, .putfield 208, 3), (204, .aload_n 0, 1), (205, .aload_n 0, 1), (206, .getfield 224, 3), (209, .iconst 0, 1), (210, .laload, 1), (211, .putfield 659, 3), (214, .aload_n 0, 1), (215, .aload_n 0, 1), (216, .getfield 227, 3), (219, .iconst 0, 1), (220, .laload, 1), (221, .putfield 662, 3), (224, .iconst 0, 1), (225, .istore_n 2, 1), (226, .iload_n 2, 1)]
noncomputable def xi_386_8 : XIs := [(227, .bipush 60, 2), (229, .if_icmp .ge 33, 3), (232, .aload_n 0, 1), (233, .getfield 202, 3), (236, .iload_n 2, 1), (237, .aload_n 0, 1), (238, .getfield 212, 3), (241, .iload_n 2, 1), (242, .iaload, 1), (243, .iastore, 1), (244, .aload_n 0, 1), (245, .getfield 205, 3), (248, .iload_n 2, 1), (249, .aload_n 0, 1), (250, .getfield 215, 3), (253, .iload_n 2, 1)]
noncomputable def xi_386_9 : XIs := [(254, .laload, 1), (255, .lastore, 1), (256, .iinc 2 1, 3), (259, .goto (-33), 3), (262, .iconst 0, 1), (263, .ireturn, 1)]
set_option maxRecDepth 100000 in
theorem xi_w386 : xi_ok cX12_pattern (xi_386_0 ++ (xi_386_1 ++ (xi_386_2 ++ (xi_386_3 ++ (xi_386_4 ++ (xi_386_5 ++ (xi_386_6 ++ (xi_386_7 ++ (xi_386_8 ++ (xi_386_9)))))))))) = true := dl_all _ _ (by decide +kernel)
theorem xi_ok386_0 : xi_ok cX12_pattern xi_386_0 = true := (xi_ap xi_w386).1
theorem xi_r386_1 : xi_ok cX12_pattern (xi_386_1 ++ (xi_386_2 ++ (xi_386_3 ++ (xi_386_4 ++ (xi_386_5 ++ (xi_386_6 ++ (xi_386_7 ++ (xi_386_8 ++ (xi_386_9))))))))) = true := (xi_ap xi_w386).2
theorem xi_ok386_1 : xi_ok cX12_pattern xi_386_1 = true := (xi_ap xi_r386_1).1
theorem xi_r386_2 : xi_ok cX12_pattern (xi_386_2 ++ (xi_386_3 ++ (xi_386_4 ++ (xi_386_5 ++ (xi_386_6 ++ (xi_386_7 ++ (xi_386_8 ++ (xi_386_9)))))))) = true := (xi_ap xi_r386_1).2
theorem xi_ok386_2 : xi_ok cX12_pattern xi_386_2 = true := (xi_ap xi_r386_2).1
theorem xi_r386_3 : xi_ok cX12_pattern (xi_386_3 ++ (xi_386_4 ++ (xi_386_5 ++ (xi_386_6 ++ (xi_386_7 ++ (xi_386_8 ++ (xi_386_9))))))) = true := (xi_ap xi_r386_2).2
theorem xi_ok386_3 : xi_ok cX12_pattern xi_386_3 = true := (xi_ap xi_r386_3).1
theorem xi_r386_4 : xi_ok cX12_pattern (xi_386_4 ++ (xi_386_5 ++ (xi_386_6 ++ (xi_386_7 ++ (xi_386_8 ++ (xi_386_9)))))) = true := (xi_ap xi_r386_3).2
theorem xi_ok386_4 : xi_ok cX12_pattern xi_386_4 = true := (xi_ap xi_r386_4).1
theorem xi_r386_5 : xi_ok cX12_pattern (xi_386_5 ++ (xi_386_6 ++ (xi_386_7 ++ (xi_386_8 ++ (xi_386_9))))) = true := (xi_ap xi_r386_4).2
theorem xi_ok386_5 : xi_ok cX12_pattern xi_386_5 = true := (xi_ap xi_r386_5).1
theorem xi_r386_6 : xi_ok cX12_pattern (xi_386_6 ++ (xi_386_7 ++ (xi_386_8 ++ (xi_386_9)))) = true := (xi_ap xi_r386_5).2
theorem xi_ok386_6 : xi_ok cX12_pattern xi_386_6 = true := (xi_ap xi_r386_6).1
theorem xi_r386_7 : xi_ok cX12_pattern (xi_386_7 ++ (xi_386_8 ++ (xi_386_9))) = true := (xi_ap xi_r386_6).2
theorem xi_ok386_7 : xi_ok cX12_pattern xi_386_7 = true := (xi_ap xi_r386_7).1
theorem xi_r386_8 : xi_ok cX12_pattern (xi_386_8 ++ (xi_386_9)) = true := (xi_ap xi_r386_7).2
theorem xi_ok386_8 : xi_ok cX12_pattern xi_386_8 = true := (xi_ap xi_r386_8).1
theorem xi_r386_9 : xi_ok cX12_pattern (xi_386_9) = true := (xi_ap xi_r386_8).2
theorem xi_ok386_9 : xi_ok cX12_pattern xi_386_9 = true := xi_r386_9
noncomputable def xi_386 (pc : Nat) : XIs := cond (Nat.blt pc 140) (cond (Nat.blt pc 54) (cond (Nat.blt pc 29) (xi_386_0) (xi_386_1)) (cond (Nat.blt pc 84) (xi_386_2) (cond (Nat.blt pc 115) (xi_386_3) (xi_386_4)))) (cond (Nat.blt pc 201) (cond (Nat.blt pc 172) (xi_386_5) (xi_386_6)) (cond (Nat.blt pc 227) (xi_386_7) (cond (Nat.blt pc 254) (xi_386_8) (xi_386_9))))
theorem xi_ok386 (pc : Nat) : xi_ok cX12_pattern (xi_386 pc) = true := xi_c (xi_c (xi_c (xi_ok386_0) (xi_ok386_1)) (xi_c (xi_ok386_2) (xi_c (xi_ok386_3) (xi_ok386_4)))) (xi_c (xi_c (xi_ok386_5) (xi_ok386_6)) (xi_c (xi_ok386_7) (xi_c (xi_ok386_8) (xi_ok386_9))))
noncomputable def xi_387_0 : XIs := [(0, .aload_n 0, 1), (1, .iconst 1, 1), (2, .putfield 621, 3), (5, .aload_n 0, 1), (6, .iconst 1, 1), (7, .putfield 624, 3), (10, .aload_n 0, 1), (11, .iload_n 1, 1), (12, .putfield 637, 3), (15, .aload_n 0, 1), (16, .lload_n 2, 1), (17, .putfield 627, 3), (20, .aload_n 0, 1), (21, .lload 4, 2), (23, .putfield 634, 3), (26, .return_, 1)]
set_option maxRecDepth 100000 in
theorem xi_w387 : xi_ok cX12_setAtom (xi_387_0) = true := dl_all _ _ (by decide +kernel)
theorem xi_ok387_0 : xi_ok cX12_setAtom xi_387_0 = true := xi_w387
noncomputable def xi_387 (pc : Nat) : XIs := xi_387_0
theorem xi_ok387 (pc : Nat) : xi_ok cX12_setAtom (xi_387 pc) = true := xi_ok387_0
noncomputable def xi_388_0 : XIs := [(0, .iload_n 1, 1)]
noncomputable def xi_388_1 : XIs := [(1, .lookupswitch 241 #[(40, 70), (41, 107), (42, 179), (43, 179), (63, 179), (124, 59)], 59)]
set_option maxRecDepth 100000 in
theorem xi_ok388_1 : xi_ok cX12_sign xi_388_1 = true := by decide +kernel
noncomputable def xi_388_2 : XIs := [(60, .aload_n 0, 1), (61, .invokevirtual 653, 3), (64, .aload_n 0, 1), (65, .invokevirtual 618, 3), (68, .goto 180, 3), (71, .aload_n 0, 1), (72, .getfield 615, 3), (75, .bipush 10, 2), (77, .if_icmp .ne 10, 3), (80, .aload_n 0, 1), (81, .iconst 3, 1), (82, .iload_n 2, 1), (83, .invokevirtual 391, 3), (86, .return_, 1), (87, .aload_n 0, 1), (88, .invokevirtual 640, 3)]
noncomputable def xi_388_3 : XIs := [(91, .aload_n 0, 1), (92, .dup, 1), (93, .getfield 615, 3), (96, .iconst 1, 1), (97, .iadd, 1), (98, .putfield 615, 3), (101, .aload_n 0, 1), (102, .invokevirtual 643, 3), (105, .goto 143, 3), (108, .aload_n 0, 1), (109, .getfield 615, 3), (112, .ifCond .ne 10, 3), (115, .aload_n 0, 1), (116, .iconst 2, 1), (117, .iload_n 2, 1), (118, .invokevirtual 391, 3)]
noncomputable def xi_388_4 : XIs := [(121, .return_, 1), (122, .aload_n 0, 1), (123, .invokevirtual 653, 3), (126, .aload_n 0, 1), (127, .getfield 221, 3), (130, .aload_n 0, 1), (131, .getfield 615, 3), (134, .baload, 1), (135, .istore_n 3, 1), (136, .aload_n 0, 1), (137, .getfield 224, 3), (140, .aload_n 0, 1), (141, .getfield 615, 3), (144, .laload, 1), (145, .lstore 4, 2), (147, .aload_n 0, 1)]
noncomputable def xi_388_5 : XIs := [(148, .getfield 227, 3), (151, .aload_n 0, 1), (152, .getfield 615, 3), (155, .laload, 1), (156, .lstore 6, 2), (158, .aload_n 0, 1), (159, .dup, 1), (160, .getfield 615, 3), (163, .iconst 1, 1), (164, .isub, 1), (165, .putfield 615, 3), (168, .aload_n 0, 1), (169, .iload_n 3, 1), (170, .lload 4, 2), (172, .lload 6, 2), (174, .invokevirtual 646, 3)]
noncomputable def xi_388_6 : XIs := [(177, .goto 71, 3), (180, .aload_n 0, 1), (181, .getfield 624, 3), (184, .ifCond .ne 10, 3), (187, .aload_n 0, 1), (188, .iconst 2, 1), (189, .iload_n 2, 1), (190, .invokevirtual 391, 3), (193, .return_, 1), (194, .iload_n 1, 1), (195, .bipush 63, 2), (197, .if_icmp .eq 15, 3), (200, .aload_n 0, 1), (201, .aload_n 0, 1), (202, .getfield 634, 3), (205, .aload_n 0, 1)]
noncomputable def xi_388_7 : XIs := [(206, .getfield 627, 3), (209, .invokevirtual 630, 3), (212, .aload_n 0, 1), (213, .aload_n 0, 1), (214, .getfield 637, 3), (217, .ifCond .ne 9, 3), (220, .iload_n 1, 1), (221, .bipush 43, 2), (223, .if_icmp .eq 7, 3), (226, .iconst 1, 1), (227, .goto 4, 3), (230, .iconst 0, 1), (231, .putfield 637, 3), (234, .aload_n 0, 1), (235, .iconst 0, 1), (236, .putfield 624, 3)]
noncomputable def xi_388_8 : XIs := [(239, .goto 9, 3), (242, .aload_n 0, 1), (243, .iconst 1, 1), (244, .iload_n 2, 1), (245, .invokevirtual 391, 3), (248, .return_, 1)]
set_option maxRecDepth 100000 in
theorem xi_w388 : xi_ok cX12_sign (xi_388_0 ++ (xi_388_2 ++ (xi_388_3 ++ (xi_388_4 ++ (xi_388_5 ++ (xi_388_6 ++ (xi_388_7 ++ (xi_388_8)))))))) = true := dl_all _ _ (by decide +kernel)
theorem xi_ok388_0 : xi_ok cX12_sign xi_388_0 = true := (xi_ap xi_w388).1
theorem xi_r388_1 : xi_ok cX12_sign (xi_388_2 ++ (xi_388_3 ++ (xi_388_4 ++ (xi_388_5 ++ (xi_388_6 ++ (xi_388_7 ++ (xi_388_8))))))) = true := (xi_ap xi_w388).2
theorem xi_ok388_2 : xi_ok cX12_sign xi_388_2 = true := (xi_ap xi_r388_1).1
theorem xi_r388_2 : xi_ok cX12_sign (xi_388_3 ++ (xi_388_4 ++ (xi_388_5 ++ (xi_388_6 ++ (xi_388_7 ++ (xi_388_8)))))) = true := (xi_ap xi_r388_1).2
theorem xi_ok388_3 : xi_ok cX12_sign xi_388_3 = true := (xi_ap xi_r388_2).1
theorem xi_r388_3 : xi_ok cX12_sign (xi_388_4 ++ (xi_388_5 ++ (xi_388_6 ++ (xi_388_7 ++ (xi_388_8))))) = true := (xi_ap xi_r388_2).2
theorem xi_ok388_4 : xi_ok cX12_sign xi_388_4 = true := (xi_ap xi_r388_3).1
theorem xi_r388_4 : xi_ok cX12_sign (xi_388_5 ++ (xi_388_6 ++ (xi_388_7 ++ (xi_388_8)))) = true := (xi_ap xi_r388_3).2
theorem xi_ok388_5 : xi_ok cX12_sign xi_388_5 = true := (xi_ap xi_r388_4).1
theorem xi_r388_5 : xi_ok cX12_sign (xi_388_6 ++ (xi_388_7 ++ (xi_388_8))) = true := (xi_ap xi_r388_4).2
theorem xi_ok388_6 : xi_ok cX12_sign xi_388_6 = true := (xi_ap xi_r388_5).1
theorem xi_r388_6 : xi_ok cX12_sign (xi_388_7 ++ (xi_388_8)) = true := (xi_ap xi_r388_5).2
theorem xi_ok388_7 : xi_ok cX12_sign xi_388_7 = true := (xi_ap xi_r388_6).1
theorem xi_r388_7 : xi_ok cX12_sign (xi_388_8) = true := (xi_ap xi_r388_6).2
theorem xi_ok388_8 : xi_ok cX12_sign xi_388_8 = true := xi_r388_7
noncomputable def xi_388 (pc : Nat) : XIs := cond (Nat.blt pc 121) (cond (Nat.blt pc 60) (cond (Nat.blt pc 1) (xi_388_0) (xi_388_1)) (cond (Nat.blt pc 91) (xi_388_2) (xi_388_3))) (cond (Nat.blt pc 177) (cond (Nat.blt pc 148) (xi_388_4) (xi_388_5)) (cond (Nat.blt pc 206) (xi_388_6) (cond (Nat.blt pc 239) (xi_388_7) (xi_388_8))))
theorem xi_ok388 (pc : Nat) : xi_ok cX12_sign (xi_388 pc) = true := xi_c (xi_c (xi_c (xi_ok388_0) (xi_ok388_1)) (xi_c (xi_ok388_2) (xi_ok388_3))) (xi_c (xi_c (xi_ok388_4) (xi_ok388_5)) (xi_c (xi_ok388_6) (xi_c (xi_ok388_7) (xi_ok388_8))))
noncomputable def xi_389_0 : XIs := [(0, .aload_n 0, 1), (1, .aload_n 0, 1), (2, .iload_n 1, 1), (3, .invokevirtual 349, 3), (6, .ifCond .eq 15, 3), (9, .aload_n 0, 1), (10, .iload_n 2, 1), (11, .invokevirtual 349, 3), (14, .ifCond .eq 7, 3), (17, .iconst 1, 1), (18, .goto 4, 3), (21, .iconst 0, 1), (22, .invokevirtual 334, 3), (25, .ifCond .eq 5, 3), (28, .iconst 0, 1), (29, .ireturn, 1)]
noncomputable def xi_389_1 : XIs := [(30, .iconst 0, 1), (31, .istore_n 3, 1), (32, .iload_n 3, 1), (33, .sipush 2000, 3), (36, .if_icmp .ge 16, 3), (39, .aload_n 0, 1), (40, .getfield 239, 3), (43, .iload_n 3, 1), (44, .iconst (-1), 1), (45, .iastore, 1), (46, .iinc 3 1, 3), (49, .goto (-17), 3), (52, .iconst 0, 1), (53, .istore_n 3, 1), (54, .iconst 1, 1), (55, .istore 4, 2)]
noncomputable def xi_389_2 : XIs := [(57, .aload_n 0, 1), (58, .getfield 82, 3), (61, .iconst 0, 1), (62, .bipush 61, 2), (64, .iload_n 1, 1), (65, .imul, 1), (66, .iastore, 1), (67, .aload_n 0, 1), (68, .getfield 239, 3), (71, .bipush 61, 2), (73, .iload_n 1, 1), (74, .imul, 1), (75, .iconst 0, 1), (76, .iastore, 1), (77, .iload_n 3, 1), (78, .iload 4, 2)]
noncomputable def xi_389_3 : XIs := [(80, .if_icmp .ge 174, 3), (83, .aload_n 0, 1), (84, .getfield 82, 3), (87, .iload_n 3, 1), (88, .iaload, 1), (89, .istore 5, 2), (91, .iinc 3 1, 3), (94, .iload 5, 2), (96, .bipush 61, 2), (98, .idiv, 1), (99, .istore 6, 2), (101, .iload 5, 2), (103, .bipush 61, 2), (105, .irem, 1), (106, .iconst 1, 1), (107, .isub, 1)]
noncomputable def xi_389_4 : XIs := [(108, .istore 7, 2), (110, .iload 7, 2), (112, .ifCond .ge 10, 3), (115, .aload_n 0, 1), (116, .getfield 208, 3), (119, .goto 22, 3), (122, .aload_n 0, 1), (123, .getfield 662, 3), (126, .iload 7, 2), (128, .lshr, 1), (129, .lconst 1, 1), (130, .land, 1), (131, .lconst 1, 1), (132, .lcmp, 1), (133, .ifCond .ne 7, 3), (136, .iconst 1, 1)]
noncomputable def xi_389_5 : XIs := [(137, .goto 4, 3), (140, .iconst 0, 1), (141, .istore 8, 2), (143, .iload 6, 2), (145, .iload_n 2, 1), (146, .if_icmp .ne 16, 3), (149, .iload 8, 2), (151, .ifCond .eq 11, 3), (154, .aload_n 0, 1), (155, .getfield 239, 3), (158, .iload 5, 2), (160, .iaload, 1), (161, .ireturn, 1), (162, .iload 7, 2), (164, .ifCond .ge 10, 3), (167, .aload_n 0, 1)]
noncomputable def xi_389_6 : XIs := [(168, .getfield 659, 3), (171, .goto 10, 3), (174, .aload_n 0, 1), (175, .getfield 205, 3), (178, .iload 7, 2), (180, .laload, 1), (181, .lstore 9, 2), (183, .aload_n 0, 1), (184, .getfield 288, 3), (187, .istore 11, 2), (189, .iload 11, 2), (191, .aload_n 0, 1), (192, .getfield 288, 3), (195, .sipush 160, 3), (198, .iadd, 1), (199, .if_icmp .ge 52, 3)]
noncomputable def xi_389_7 : XIs := [(202, .aload_n 0, 1), (203, .getfield 16, 3), (206, .iload 11, 2), (208, .baload, 1), (209, .ifCond .eq 36, 3), (212, .aload_n 0, 1), (213, .getfield 20, 3), (216, .iload 11, 2), (218, .iaload, 1), (219, .iload 6, 2), (221, .if_icmp .ne 24, 3), (224, .aload_n 0, 1), (225, .iload 11, 2), (227, .lload 9, 2), (229, .aload_n 0, 1), (230, .getfield 239, 3)]
noncomputable def xi_389_8 : XIs := [(233, .iload 5, 2), (235, .iaload, 1), (236, .iconst 1, 1), (237, .iadd, 1), (238, .iload 4, 2), (240, .invokevirtual 665, 3), (243, .istore 4, 2), (245, .iinc 11 1, 3), (248, .goto (-59), 3), (251, .goto (-174), 3), (254, .iconst (-1), 1), (255, .ireturn, 1)]
set_option maxRecDepth 100000 in
theorem xi_w389 : xi_ok cX12_fits (xi_389_0 ++ (xi_389_1 ++ (xi_389_2 ++ (xi_389_3 ++ (xi_389_4 ++ (xi_389_5 ++ (xi_389_6 ++ (xi_389_7 ++ (xi_389_8))))))))) = true := dl_all _ _ (by decide +kernel)
theorem xi_ok389_0 : xi_ok cX12_fits xi_389_0 = true := (xi_ap xi_w389).1
theorem xi_r389_1 : xi_ok cX12_fits (xi_389_1 ++ (xi_389_2 ++ (xi_389_3 ++ (xi_389_4 ++ (xi_389_5 ++ (xi_389_6 ++ (xi_389_7 ++ (xi_389_8)))))))) = true := (xi_ap xi_w389).2
theorem xi_ok389_1 : xi_ok cX12_fits xi_389_1 = true := (xi_ap xi_r389_1).1
theorem xi_r389_2 : xi_ok cX12_fits (xi_389_2 ++ (xi_389_3 ++ (xi_389_4 ++ (xi_389_5 ++ (xi_389_6 ++ (xi_389_7 ++ (xi_389_8))))))) = true := (xi_ap xi_r389_1).2
theorem xi_ok389_2 : xi_ok cX12_fits xi_389_2 = true := (xi_ap xi_r389_2).1
theorem xi_r389_3 : xi_ok cX12_fits (xi_389_3 ++ (xi_389_4 ++ (xi_389_5 ++ (xi_389_6 ++ (xi_389_7 ++ (xi_389_8)))))) = true := (xi_ap xi_r389_2).2
theorem xi_ok389_3 : xi_ok cX12_fits xi_389_3 = true := (xi_ap xi_r389_3).1
theorem xi_r389_4 : xi_ok cX12_fits (xi_389_4 ++ (xi_389_5 ++ (xi_389_6 ++ (xi_389_7 ++ (xi_389_8))))) = true := (xi_ap xi_r389_3).2
theorem xi_ok389_4 : xi_ok cX12_fits xi_389_4 = true := (xi_ap xi_r389_4).1
theorem xi_r389_5 : xi_ok cX12_fits (xi_389_5 ++ (xi_389_6 ++ (xi_389_7 ++ (xi_389_8)))) = true := (xi_ap xi_r389_4).2
theorem xi_ok389_5 : xi_ok cX12_fits xi_389_5 = true := (xi_ap xi_r389_5).1
theorem xi_r389_6 : xi_ok cX12_fits (xi_389_6 ++ (xi_389_7 ++ (xi_389_8))) = true := (xi_ap xi_r389_5).2
theorem xi_ok389_6 : xi_ok cX12_fits xi_389_6 = true := (xi_ap xi_r389_6).1
theorem xi_r389_7 : xi_ok cX12_fits (xi_389_7 ++ (xi_389_8)) = true := (xi_ap xi_r389_6).2
theorem xi_ok389_7 : xi_ok cX12_fits xi_389_7 = true := (xi_ap xi_r389_7).1
theorem xi_r389_8 : xi_ok cX12_fits (xi_389_8) = true := (xi_ap xi_r389_7).2
theorem xi_ok389_8 : xi_ok cX12_fits xi_389_8 = true := xi_r389_8
noncomputable def xi_389 (pc : Nat) : XIs := cond (Nat.blt pc 108) (cond (Nat.blt pc 57) (cond (Nat.blt pc 30) (xi_389_0) (xi_389_1)) (cond (Nat.blt pc 80) (xi_389_2) (xi_389_3))) (cond (Nat.blt pc 168) (cond (Nat.blt pc 137) (xi_389_4) (xi_389_5)) (cond (Nat.blt pc 202) (xi_389_6) (cond (Nat.blt pc 233) (xi_389_7) (xi_389_8))))
theorem xi_ok389 (pc : Nat) : xi_ok cX12_fits (xi_389 pc) = true := xi_c (xi_c (xi_c (xi_ok389_0) (xi_ok389_1)) (xi_c (xi_ok389_2) (xi_ok389_3))) (xi_c (xi_c (xi_ok389_4) (xi_ok389_5)) (xi_c (xi_ok389_6) (xi_c (xi_ok389_7) (xi_ok389_8))))
noncomputable def xi_390_0 : XIs := [(0, .iload 5, 2), (2, .istore 6, 2), (4, .iconst 0, 1), (5, .istore 7, 2), (7, .iload 7, 2), (9, .aload_n 0, 1), (10, .getfield 656, 3), (13, .if_icmp .ge 107, 3), (16, .lload_n 2, 1), (17, .iload 7, 2), (19, .lshr, 1), (20, .lconst 1, 1), (21, .land, 1), (22, .lconst 1, 1), (23, .lcmp, 1), (24, .ifCond .ne 35, 3)]
noncomputable def xi_390_1 : XIs := [(27, .aload_n 0, 1), (28, .getfield 202, 3), (31, .iload 7, 2), (33, .iaload, 1), (34, .bipush 26, 2), (36, .if_icmp .eq 19, 3), (39, .aload_n 0, 1), (40, .getfield 202, 3), (43, .iload 7, 2), (45, .iaload, 1), (46, .aload_n 0, 1), (47, .getfield 32, 3), (50, .iload_n 1, 1), (51, .iaload, 1), (52, .if_icmp .ne 7, 3), (55, .iconst 1, 1)]
noncomputable def xi_390_2 : XIs := [(56, .goto 4, 3), (59, .iconst 0, 1), (60, .istore 8, 2), (62, .bipush 61, 2), (64, .aload_n 0, 1), (65, .getfield 23, 3), (68, .iload_n 1, 1), (69, .iaload, 1), (70, .imul, 1), (71, .iload 7, 2), (73, .iadd, 1), (74, .iconst 1, 1), (75, .iadd, 1), (76, .istore 9, 2), (78, .iload 8, 2), (80, .ifCond .eq 34, 3)]
noncomputable def xi_390_3 : XIs := [(83, .aload_n 0, 1), (84, .getfield 239, 3), (87, .iload 9, 2), (89, .iaload, 1), (90, .ifCond .ge 24, 3), (93, .aload_n 0, 1), (94, .getfield 239, 3), (97, .iload 9, 2), (99, .iload 4, 2), (101, .iastore, 1), (102, .aload_n 0, 1), (103, .getfield 82, 3), (106, .iload 6, 2), (108, .iload 9, 2), (110, .iastore, 1), (111, .iinc 6 1, 3)]
noncomputable def xi_390_4 : XIs := [(114, .iinc 7 1, 3), (117, .goto (-110), 3), (120, .iload 6, 2), (122, .ireturn, 1)]
set_option maxRecDepth 100000 in
theorem xi_w390 : xi_ok cX12_goOn (xi_390_0 ++ (xi_390_1 ++ (xi_390_2 ++ (xi_390_3 ++ (xi_390_4))))) = true := dl_all _ _ (by decide +kernel)
theorem xi_ok390_0 : xi_ok cX12_goOn xi_390_0 = true := (xi_ap xi_w390).1
theorem xi_r390_1 : xi_ok cX12_goOn (xi_390_1 ++ (xi_390_2 ++ (xi_390_3 ++ (xi_390_4)))) = true := (xi_ap xi_w390).2
theorem xi_ok390_1 : xi_ok cX12_goOn xi_390_1 = true := (xi_ap xi_r390_1).1
theorem xi_r390_2 : xi_ok cX12_goOn (xi_390_2 ++ (xi_390_3 ++ (xi_390_4))) = true := (xi_ap xi_r390_1).2
theorem xi_ok390_2 : xi_ok cX12_goOn xi_390_2 = true := (xi_ap xi_r390_2).1
theorem xi_r390_3 : xi_ok cX12_goOn (xi_390_3 ++ (xi_390_4)) = true := (xi_ap xi_r390_2).2
theorem xi_ok390_3 : xi_ok cX12_goOn xi_390_3 = true := (xi_ap xi_r390_3).1
theorem xi_r390_4 : xi_ok cX12_goOn (xi_390_4) = true := (xi_ap xi_r390_3).2
theorem xi_ok390_4 : xi_ok cX12_goOn xi_390_4 = true := xi_r390_4
noncomputable def xi_390 (pc : Nat) : XIs := cond (Nat.blt pc 56) (cond (Nat.blt pc 27) (xi_390_0) (xi_390_1)) (cond (Nat.blt pc 83) (xi_390_2) (cond (Nat.blt pc 114) (xi_390_3) (xi_390_4)))
theorem xi_ok390 (pc : Nat) : xi_ok cX12_goOn (xi_390 pc) = true := xi_c (xi_c (xi_ok390_0) (xi_ok390_1)) (xi_c (xi_ok390_2) (xi_c (xi_ok390_3) (xi_ok390_4)))
noncomputable def xi_391_0 : XIs := [(0, .aload_n 0, 1), (1, .getfield 248, 3), (4, .iconst 1, 1), (5, .iconst 1, 1), (6, .iastore, 1), (7, .aload_n 0, 1), (8, .getfield 248, 3), (11, .iconst 2, 1), (12, .iconst 2, 1), (13, .iastore, 1), (14, .return_, 1)]
set_option maxRecDepth 100000 in
theorem xi_w391 : xi_ok cX12_program0 (xi_391_0) = true := dl_all _ _ (by decide +kernel)
theorem xi_ok391_0 : xi_ok cX12_program0 xi_391_0 = true := xi_w391
noncomputable def xi_391 (pc : Nat) : XIs := xi_391_0
theorem xi_ok391 (pc : Nat) : xi_ok cX12_program0 (xi_391 pc) = true := xi_ok391_0
noncomputable def xi_392_0 : XIs := [(0, .aload_n 0, 1), (1, .getfield 365, 3), (4, .aload_n 0, 1), (5, .getfield 356, 3), (8, .if_icmp .ge 30, 3), (11, .aload_n 0, 1), (12, .getfield 60, 3), (15, .aload_n 0, 1), (16, .getfield 365, 3), (19, .iaload, 1), (20, .bipush 32, 2), (22, .if_icmp .ne 16, 3), (25, .aload_n 0, 1), (26, .dup, 1), (27, .getfield 365, 3), (30, .iconst 1, 1)]
noncomputable def xi_392_1 : XIs := [(31, .iadd, 1), (32, .putfield 365, 3), (35, .goto (-35), 3), (38, .aload_n 0, 1), (39, .aload_n 0, 1), (40, .getfield 365, 3), (43, .putfield 368, 3), (46, .aload_n 0, 1), (47, .getfield 365, 3), (50, .aload_n 0, 1), (51, .getfield 356, 3), (54, .if_icmp .ne 9, 3), (57, .aload_n 0, 1), (58, .iconst 0, 1), (59, .putfield 371, 3), (62, .return_, 1)]
noncomputable def xi_392_2 : XIs := [(63, .aload_n 0, 1), (64, .getfield 60, 3), (67, .aload_n 0, 1), (68, .getfield 365, 3), (71, .iaload, 1), (72, .istore_n 1, 1), (73, .aload_n 0, 1), (74, .iload_n 1, 1), (75, .putfield 374, 3), (78, .iload_n 1, 1), (79, .invokestatic 377, 3), (82, .ifCond .eq 15, 3), (85, .aload_n 0, 1), (86, .iconst 2, 1), (87, .putfield 371, 3), (90, .aload_n 0, 1)]
noncomputable def xi_392_3 : XIs := [(91, .bipush 6, 2), (93, .invokevirtual 380, 3), (96, .return_, 1), (97, .aload_n 0, 1), (98, .iload_n 1, 1), (99, .invokestatic 388, 3), (102, .ifCond .eq 7, 3), (105, .iconst 1, 1), (106, .goto 4, 3), (109, .iconst 3, 1), (110, .putfield 371, 3), (113, .aload_n 0, 1), (114, .dup, 1), (115, .getfield 365, 3), (118, .iconst 1, 1), (119, .iadd, 1)]
noncomputable def xi_392_4 : XIs := [(120, .putfield 365, 3), (123, .iload_n 1, 1), (124, .bipush 59, 2), (126, .if_icmp .eq 45, 3), (129, .iload_n 1, 1), (130, .bipush 60, 2), (132, .if_icmp .eq 39, 3), (135, .iload_n 1, 1), (136, .bipush 61, 2), (138, .if_icmp .eq 33, 3), (141, .iload_n 1, 1), (142, .bipush 43, 2), (144, .if_icmp .eq 27, 3), (147, .iload_n 1, 1), (148, .bipush 45, 2), (150, .if_icmp .eq 21, 3)]
noncomputable def xi_392_5 : XIs := [(153, .iload_n 1, 1), (154, .bipush 42, 2), (156, .if_icmp .eq 15, 3), (159, .iload_n 1, 1), (160, .bipush 40, 2), (162, .if_icmp .eq 9, 3), (165, .iload_n 1, 1), (166, .bipush 41, 2), (168, .if_icmp .ne 7, 3), (171, .iconst 1, 1), (172, .goto 4, 3), (175, .iconst 0, 1), (176, .istore_n 2, 1), (177, .aload_n 0, 1), (178, .getfield 371, 3), (181, .iconst 3, 1)]
noncomputable def xi_392_6 : XIs := [(182, .if_icmp .ne 16, 3), (185, .iload_n 2, 1), (186, .ifCond .ne 12, 3), (189, .aload_n 0, 1), (190, .iconst 1, 1), (191, .aload_n 0, 1), (192, .getfield 368, 3), (195, .invokevirtual 391, 3), (198, .return_, 1)]
set_option maxRecDepth 100000 in
theorem xi_w392 : xi_ok cX12_nextOfProgram (xi_392_0 ++ (xi_392_1 ++ (xi_392_2 ++ (xi_392_3 ++ (xi_392_4 ++ (xi_392_5 ++ (xi_392_6))))))) = true := dl_all _ _ (by decide +kernel)
theorem xi_ok392_0 : xi_ok cX12_nextOfProgram xi_392_0 = true := (xi_ap xi_w392).1
theorem xi_r392_1 : xi_ok cX12_nextOfProgram (xi_392_1 ++ (xi_392_2 ++ (xi_392_3 ++ (xi_392_4 ++ (xi_392_5 ++ (xi_392_6)))))) = true := (xi_ap xi_w392).2
theorem xi_ok392_1 : xi_ok cX12_nextOfProgram xi_392_1 = true := (xi_ap xi_r392_1).1
theorem xi_r392_2 : xi_ok cX12_nextOfProgram (xi_392_2 ++ (xi_392_3 ++ (xi_392_4 ++ (xi_392_5 ++ (xi_392_6))))) = true := (xi_ap xi_r392_1).2
theorem xi_ok392_2 : xi_ok cX12_nextOfProgram xi_392_2 = true := (xi_ap xi_r392_2).1
theorem xi_r392_3 : xi_ok cX12_nextOfProgram (xi_392_3 ++ (xi_392_4 ++ (xi_392_5 ++ (xi_392_6)))) = true := (xi_ap xi_r392_2).2
theorem xi_ok392_3 : xi_ok cX12_nextOfProgram xi_392_3 = true := (xi_ap xi_r392_3).1
theorem xi_r392_4 : xi_ok cX12_nextOfProgram (xi_392_4 ++ (xi_392_5 ++ (xi_392_6))) = true := (xi_ap xi_r392_3).2
theorem xi_ok392_4 : xi_ok cX12_nextOfProgram xi_392_4 = true := (xi_ap xi_r392_4).1
theorem xi_r392_5 : xi_ok cX12_nextOfProgram (xi_392_5 ++ (xi_392_6)) = true := (xi_ap xi_r392_4).2
theorem xi_ok392_5 : xi_ok cX12_nextOfProgram xi_392_5 = true := (xi_ap xi_r392_5).1
theorem xi_r392_6 : xi_ok cX12_nextOfProgram (xi_392_6) = true := (xi_ap xi_r392_5).2
theorem xi_ok392_6 : xi_ok cX12_nextOfProgram xi_392_6 = true := xi_r392_6
noncomputable def xi_392 (pc : Nat) : XIs := cond (Nat.blt pc 91) (cond (Nat.blt pc 31) (xi_392_0) (cond (Nat.blt pc 63) (xi_392_1) (xi_392_2))) (cond (Nat.blt pc 153) (cond (Nat.blt pc 120) (xi_392_3) (xi_392_4)) (cond (Nat.blt pc 182) (xi_392_5) (xi_392_6)))
theorem xi_ok392 (pc : Nat) : xi_ok cX12_nextOfProgram (xi_392 pc) = true := xi_c (xi_c (xi_ok392_0) (xi_c (xi_ok392_1) (xi_ok392_2))) (xi_c (xi_c (xi_ok392_3) (xi_ok392_4)) (xi_c (xi_ok392_5) (xi_ok392_6)))
noncomputable def xi_393_0 : XIs := [(0, .aload_n 0, 1), (1, .getfield 251, 3), (4, .aload_n 0, 1), (5, .getfield 669, 3), (8, .iload_n 1, 1), (9, .iastore, 1), (10, .aload_n 0, 1), (11, .getfield 254, 3), (14, .aload_n 0, 1), (15, .getfield 669, 3), (18, .iload_n 2, 1), (19, .iastore, 1), (20, .aload_n 0, 1), (21, .dup, 1), (22, .getfield 669, 3), (25, .iconst 1, 1)]
noncomputable def xi_393_1 : XIs := [(26, .iadd, 1), (27, .putfield 669, 3), (30, .return_, 1)]
set_option maxRecDepth 100000 in
theorem xi_w393 : xi_ok cX12_add (xi_393_0 ++ (xi_393_1)) = true := dl_all _ _ (by decide +kernel)
theorem xi_ok393_0 : xi_ok cX12_add xi_393_0 = true := (xi_ap xi_w393).1
theorem xi_r393_1 : xi_ok cX12_add (xi_393_1) = true := (xi_ap xi_w393).2
theorem xi_ok393_1 : xi_ok cX12_add xi_393_1 = true := xi_r393_1
noncomputable def xi_393 (pc : Nat) : XIs := cond (Nat.blt pc 26) (xi_393_0) (xi_393_1)
theorem xi_ok393 (pc : Nat) : xi_ok cX12_add (xi_393 pc) = true := xi_c (xi_ok393_0) (xi_ok393_1)
noncomputable def xi_394_0 : XIs := [(0, .iload_n 0, 1)]
noncomputable def xi_394_1 : XIs := [(1, .tableswitch 120 100 120 #[105, 120, 120, 117, 120, 107, 120, 120, 103, 114, 101, 120, 120, 120, 109, 111, 120, 120, 120, 120, 99], 99)]
set_option maxRecDepth 100000 in
theorem xi_ok394_1 : xi_ok cX12_nameOf xi_394_1 = true := by decide +kernel
noncomputable def xi_394_2 : XIs := [(100, .iconst 0, 1), (101, .ireturn, 1), (102, .iconst 1, 1), (103, .ireturn, 1), (104, .iconst 2, 1), (105, .ireturn, 1), (106, .iconst 3, 1), (107, .ireturn, 1), (108, .iconst 4, 1), (109, .ireturn, 1), (110, .iconst 5, 1), (111, .ireturn, 1), (112, .bipush 6, 2), (114, .ireturn, 1), (115, .bipush 7, 2), (117, .ireturn, 1)]
noncomputable def xi_394_3 : XIs := [(118, .bipush 8, 2), (120, .ireturn, 1), (121, .iconst (-1), 1), (122, .ireturn, 1)]
set_option maxRecDepth 100000 in
theorem xi_w394 : xi_ok cX12_nameOf (xi_394_0 ++ (xi_394_2 ++ (xi_394_3))) = true := dl_all _ _ (by decide +kernel)
theorem xi_ok394_0 : xi_ok cX12_nameOf xi_394_0 = true := (xi_ap xi_w394).1
theorem xi_r394_1 : xi_ok cX12_nameOf (xi_394_2 ++ (xi_394_3)) = true := (xi_ap xi_w394).2
theorem xi_ok394_2 : xi_ok cX12_nameOf xi_394_2 = true := (xi_ap xi_r394_1).1
theorem xi_r394_2 : xi_ok cX12_nameOf (xi_394_3) = true := (xi_ap xi_r394_1).2
theorem xi_ok394_3 : xi_ok cX12_nameOf xi_394_3 = true := xi_r394_2
noncomputable def xi_394 (pc : Nat) : XIs := cond (Nat.blt pc 100) (cond (Nat.blt pc 1) (xi_394_0) (xi_394_1)) (cond (Nat.blt pc 118) (xi_394_2) (xi_394_3))
theorem xi_ok394 (pc : Nat) : xi_ok cX12_nameOf (xi_394 pc) = true := xi_c (xi_c (xi_ok394_0) (xi_ok394_1)) (xi_c (xi_ok394_2) (xi_ok394_3))
noncomputable def xi_395_0 : XIs := [(0, .aload_n 0, 1), (1, .getfield 672, 3), (4, .ifCond .ne 7, 3), (7, .iconst 0, 1), (8, .goto 14, 3), (11, .aload_n 0, 1), (12, .getfield 260, 3), (15, .aload_n 0, 1), (16, .getfield 672, 3), (19, .iconst 1, 1), (20, .isub, 1), (21, .iaload, 1), (22, .ireturn, 1)]
set_option maxRecDepth 100000 in
theorem xi_w395 : xi_ok cX12_top (xi_395_0) = true := dl_all _ _ (by decide +kernel)
theorem xi_ok395_0 : xi_ok cX12_top xi_395_0 = true := xi_w395
noncomputable def xi_395 (pc : Nat) : XIs := xi_395_0
theorem xi_ok395 (pc : Nat) : xi_ok cX12_top (xi_395 pc) = true := xi_ok395_0
noncomputable def xi_396_0 : XIs := [(0, .aload_n 0, 1), (1, .getfield 260, 3), (4, .aload_n 0, 1), (5, .getfield 672, 3), (8, .iload_n 1, 1), (9, .iastore, 1), (10, .aload_n 0, 1), (11, .dup, 1), (12, .getfield 672, 3), (15, .iconst 1, 1), (16, .iadd, 1), (17, .putfield 672, 3), (20, .aload_n 0, 1), (21, .dup, 1), (22, .getfield 675, 3), (25, .iload_n 1, 1)]
noncomputable def xi_396_1 : XIs := [(26, .iconst 2, 1), (27, .if_icmp .eq 9, 3), (30, .iload_n 1, 1), (31, .bipush 40, 2), (33, .if_icmp .ne 7, 3), (36, .iconst 1, 1), (37, .goto 4, 3), (40, .iconst 0, 1), (41, .iadd, 1), (42, .putfield 675, 3), (45, .return_, 1)]
set_option maxRecDepth 100000 in
theorem xi_w396 : xi_ok cX12_hold (xi_396_0 ++ (xi_396_1)) = true := dl_all _ _ (by decide +kernel)
theorem xi_ok396_0 : xi_ok cX12_hold xi_396_0 = true := (xi_ap xi_w396).1
theorem xi_r396_1 : xi_ok cX12_hold (xi_396_1) = true := (xi_ap xi_w396).2
theorem xi_ok396_1 : xi_ok cX12_hold xi_396_1 = true := xi_r396_1
noncomputable def xi_396 (pc : Nat) : XIs := cond (Nat.blt pc 26) (xi_396_0) (xi_396_1)
theorem xi_ok396 (pc : Nat) : xi_ok cX12_hold (xi_396 pc) = true := xi_c (xi_ok396_0) (xi_ok396_1)
noncomputable def xi_397_0 : XIs := [(0, .aload_n 0, 1), (1, .dup, 1), (2, .getfield 672, 3), (5, .iconst 1, 1), (6, .isub, 1), (7, .putfield 672, 3), (10, .aload_n 0, 1), (11, .dup, 1), (12, .getfield 675, 3), (15, .aload_n 0, 1), (16, .getfield 260, 3), (19, .aload_n 0, 1), (20, .getfield 672, 3), (23, .iaload, 1), (24, .iconst 2, 1), (25, .if_icmp .eq 17, 3)]
noncomputable def xi_397_1 : XIs := [(28, .aload_n 0, 1), (29, .getfield 260, 3), (32, .aload_n 0, 1), (33, .getfield 672, 3), (36, .iaload, 1), (37, .bipush 40, 2), (39, .if_icmp .ne 7, 3), (42, .iconst 1, 1), (43, .goto 4, 3), (46, .iconst 0, 1), (47, .isub, 1), (48, .putfield 675, 3), (51, .return_, 1)]
set_option maxRecDepth 100000 in
theorem xi_w397 : xi_ok cX12_drop (xi_397_0 ++ (xi_397_1)) = true := dl_all _ _ (by decide +kernel)
theorem xi_ok397_0 : xi_ok cX12_drop xi_397_0 = true := (xi_ap xi_w397).1
theorem xi_r397_1 : xi_ok cX12_drop (xi_397_1) = true := (xi_ap xi_w397).2
theorem xi_ok397_1 : xi_ok cX12_drop xi_397_1 = true := xi_r397_1
noncomputable def xi_397 (pc : Nat) : XIs := cond (Nat.blt pc 28) (xi_397_0) (xi_397_1)
theorem xi_ok397 (pc : Nat) : xi_ok cX12_drop (xi_397 pc) = true := xi_c (xi_ok397_0) (xi_ok397_1)
noncomputable def xi_398_0 : XIs := [(0, .iload_n 0, 1), (1, .bipush 42, 2), (3, .if_icmp .ne 7, 3), (6, .iconst 3, 1), (7, .goto 36, 3), (10, .iload_n 0, 1), (11, .bipush 43, 2), (13, .if_icmp .eq 9, 3), (16, .iload_n 0, 1), (17, .bipush 45, 2), (19, .if_icmp .ne 7, 3), (22, .iconst 2, 1), (23, .goto 20, 3), (26, .iload_n 0, 1), (27, .bipush 60, 2), (29, .if_icmp .eq 9, 3)]
noncomputable def xi_398_1 : XIs := [(32, .iload_n 0, 1), (33, .bipush 61, 2), (35, .if_icmp .ne 7, 3), (38, .iconst 1, 1), (39, .goto 4, 3), (42, .iconst 0, 1), (43, .ireturn, 1)]
set_option maxRecDepth 100000 in
theorem xi_w398 : xi_ok cX12_strength (xi_398_0 ++ (xi_398_1)) = true := dl_all _ _ (by decide +kernel)
theorem xi_ok398_0 : xi_ok cX12_strength xi_398_0 = true := (xi_ap xi_w398).1
theorem xi_r398_1 : xi_ok cX12_strength (xi_398_1) = true := (xi_ap xi_w398).2
theorem xi_ok398_1 : xi_ok cX12_strength xi_398_1 = true := xi_r398_1
noncomputable def xi_398 (pc : Nat) : XIs := cond (Nat.blt pc 32) (xi_398_0) (xi_398_1)
theorem xi_ok398 (pc : Nat) : xi_ok cX12_strength (xi_398 pc) = true := xi_c (xi_ok398_0) (xi_ok398_1)
noncomputable def xi_399_0 : XIs := [(0, .aload_n 0, 1), (1, .getfield 672, 3), (4, .ifCond .le 30, 3), (7, .aload_n 0, 1), (8, .invokevirtual 678, 3), (11, .invokestatic 681, 3), (14, .iload_n 1, 1), (15, .if_icmp .lt 19, 3), (18, .aload_n 0, 1), (19, .aload_n 0, 1), (20, .invokevirtual 678, 3), (23, .iconst 0, 1), (24, .invokevirtual 684, 3), (27, .aload_n 0, 1), (28, .invokevirtual 687, 3), (31, .goto (-31), 3)]
noncomputable def xi_399_1 : XIs := [(34, .return_, 1)]
set_option maxRecDepth 100000 in
theorem xi_w399 : xi_ok cX12_settle (xi_399_0 ++ (xi_399_1)) = true := dl_all _ _ (by decide +kernel)
theorem xi_ok399_0 : xi_ok cX12_settle xi_399_0 = true := (xi_ap xi_w399).1
theorem xi_r399_1 : xi_ok cX12_settle (xi_399_1) = true := (xi_ap xi_w399).2
theorem xi_ok399_1 : xi_ok cX12_settle xi_399_1 = true := xi_r399_1
noncomputable def xi_399 (pc : Nat) : XIs := cond (Nat.blt pc 34) (xi_399_0) (xi_399_1)
theorem xi_ok399 (pc : Nat) : xi_ok cX12_settle (xi_399 pc) = true := xi_c (xi_ok399_0) (xi_ok399_1)
noncomputable def xi_400_0 : XIs := [(0, .aload_n 0, 1), (1, .invokevirtual 678, 3), (4, .iconst 2, 1), (5, .if_icmp .ne 16, 3), (8, .aload_n 0, 1), (9, .iconst 2, 1), (10, .iconst 0, 1), (11, .invokevirtual 684, 3), (14, .aload_n 0, 1), (15, .invokevirtual 687, 3), (18, .goto (-18), 3), (21, .return_, 1)]
set_option maxRecDepth 100000 in
theorem xi_w400 : xi_ok cX12_turn (xi_400_0) = true := dl_all _ _ (by decide +kernel)
theorem xi_ok400_0 : xi_ok cX12_turn xi_400_0 = true := xi_w400
noncomputable def xi_400 (pc : Nat) : XIs := xi_400_0
theorem xi_ok400 (pc : Nat) : xi_ok cX12_turn (xi_400 pc) = true := xi_ok400_0
noncomputable def xi_401_0 : XIs := [(0, .aload_n 0, 1), (1, .getfield 371, 3), (4, .iconst 2, 1), (5, .if_icmp .ne 19, 3), (8, .aload_n 0, 1), (9, .iconst 0, 1), (10, .aload_n 0, 1), (11, .getfield 384, 3), (14, .l2i, 1), (15, .invokevirtual 684, 3), (18, .aload_n 0, 1), (19, .invokevirtual 690, 3), (22, .iconst 1, 1), (23, .ireturn, 1), (24, .aload_n 0, 1), (25, .getfield 371, 3)]
noncomputable def xi_401_1 : XIs := [(28, .iconst 1, 1), (29, .if_icmp .ne 36, 3), (32, .aload_n 0, 1), (33, .getfield 374, 3), (36, .invokestatic 692, 3), (39, .istore_n 1, 1), (40, .iload_n 1, 1), (41, .ifCond .ge 12, 3), (44, .aload_n 0, 1), (45, .iconst 5, 1), (46, .aload_n 0, 1), (47, .getfield 368, 3), (50, .invokevirtual 391, 3), (53, .aload_n 0, 1), (54, .iconst 1, 1), (55, .iload_n 1, 1)]
noncomputable def xi_401_2 : XIs := [(56, .invokevirtual 684, 3), (59, .aload_n 0, 1), (60, .invokevirtual 690, 3), (63, .iconst 1, 1), (64, .ireturn, 1), (65, .aload_n 0, 1), (66, .getfield 371, 3), (69, .iconst 3, 1), (70, .if_icmp .ne 21, 3), (73, .aload_n 0, 1), (74, .getfield 374, 3), (77, .bipush 45, 2), (79, .if_icmp .eq 24, 3), (82, .aload_n 0, 1), (83, .getfield 374, 3), (86, .bipush 40, 2)]
noncomputable def xi_401_3 : XIs := [(88, .if_icmp .eq 15, 3), (91, .aload_n 0, 1), (92, .iconst 2, 1), (93, .aload_n 0, 1), (94, .getfield 368, 3), (97, .invokevirtual 391, 3), (100, .goto 43, 3), (103, .aload_n 0, 1), (104, .getfield 675, 3), (107, .bipush 10, 2), (109, .if_icmp .lt 15, 3), (112, .aload_n 0, 1), (113, .iconst 3, 1), (114, .aload_n 0, 1), (115, .getfield 368, 3), (118, .invokevirtual 391, 3)]
noncomputable def xi_401_4 : XIs := [(121, .goto 22, 3), (124, .aload_n 0, 1), (125, .aload_n 0, 1), (126, .getfield 374, 3), (129, .bipush 45, 2), (131, .if_icmp .ne 7, 3), (134, .iconst 2, 1), (135, .goto 5, 3), (138, .bipush 40, 2), (140, .invokevirtual 695, 3), (143, .iconst 0, 1), (144, .ireturn, 1)]
set_option maxRecDepth 100000 in
theorem xi_w401 : xi_ok cX12_factor (xi_401_0 ++ (xi_401_1 ++ (xi_401_2 ++ (xi_401_3 ++ (xi_401_4))))) = true := dl_all _ _ (by decide +kernel)
theorem xi_ok401_0 : xi_ok cX12_factor xi_401_0 = true := (xi_ap xi_w401).1
theorem xi_r401_1 : xi_ok cX12_factor (xi_401_1 ++ (xi_401_2 ++ (xi_401_3 ++ (xi_401_4)))) = true := (xi_ap xi_w401).2
theorem xi_ok401_1 : xi_ok cX12_factor xi_401_1 = true := (xi_ap xi_r401_1).1
theorem xi_r401_2 : xi_ok cX12_factor (xi_401_2 ++ (xi_401_3 ++ (xi_401_4))) = true := (xi_ap xi_r401_1).2
theorem xi_ok401_2 : xi_ok cX12_factor xi_401_2 = true := (xi_ap xi_r401_2).1
theorem xi_r401_3 : xi_ok cX12_factor (xi_401_3 ++ (xi_401_4)) = true := (xi_ap xi_r401_2).2
theorem xi_ok401_3 : xi_ok cX12_factor xi_401_3 = true := (xi_ap xi_r401_3).1
theorem xi_r401_4 : xi_ok cX12_factor (xi_401_4) = true := (xi_ap xi_r401_3).2
theorem xi_ok401_4 : xi_ok cX12_factor xi_401_4 = true := xi_r401_4
noncomputable def xi_401 (pc : Nat) : XIs := cond (Nat.blt pc 56) (cond (Nat.blt pc 28) (xi_401_0) (xi_401_1)) (cond (Nat.blt pc 88) (xi_401_2) (cond (Nat.blt pc 121) (xi_401_3) (xi_401_4)))
theorem xi_ok401 (pc : Nat) : xi_ok cX12_factor (xi_401 pc) = true := xi_c (xi_c (xi_ok401_0) (xi_ok401_1)) (xi_c (xi_ok401_2) (xi_c (xi_ok401_3) (xi_ok401_4)))
noncomputable def xi_402_0 : XIs := [(0, .aload_n 0, 1), (1, .getfield 371, 3), (4, .ifCond .eq 20, 3), (7, .aload_n 0, 1), (8, .getfield 371, 3), (11, .iconst 3, 1), (12, .if_icmp .ne 52, 3), (15, .aload_n 0, 1), (16, .getfield 374, 3), (19, .bipush 59, 2), (21, .if_icmp .ne 43, 3), (24, .aload_n 0, 1), (25, .iconst 1, 1), (26, .invokevirtual 698, 3), (29, .aload_n 0, 1), (30, .getfield 672, 3)]
noncomputable def xi_402_1 : XIs := [(33, .ifCond .gt 20, 3), (36, .iload_n 1, 1), (37, .aload_n 0, 1), (38, .getfield 371, 3), (41, .iconst 3, 1), (42, .if_icmp .ne 7, 3), (45, .iconst 1, 1), (46, .goto 4, 3), (49, .iconst 0, 1), (50, .if_icmp .eq 12, 3), (53, .aload_n 0, 1), (54, .iconst 2, 1), (55, .aload_n 0, 1), (56, .getfield 368, 3), (59, .invokevirtual 391, 3), (62, .iconst 2, 1)]
noncomputable def xi_402_2 : XIs := [(63, .ireturn, 1), (64, .aload_n 0, 1), (65, .getfield 371, 3), (68, .iconst 3, 1), (69, .if_icmp .ne 13, 3), (72, .aload_n 0, 1), (73, .getfield 374, 3), (76, .invokestatic 681, 3), (79, .goto 4, 3), (82, .iconst 0, 1), (83, .istore_n 2, 1), (84, .iload_n 2, 1), (85, .iconst 1, 1), (86, .if_icmp .le 18, 3), (89, .aload_n 0, 1), (90, .iload_n 2, 1)]
noncomputable def xi_402_3 : XIs := [(91, .invokevirtual 698, 3), (94, .aload_n 0, 1), (95, .aload_n 0, 1), (96, .getfield 374, 3), (99, .invokevirtual 695, 3), (102, .iconst 0, 1), (103, .ireturn, 1), (104, .iload_n 2, 1), (105, .iconst 1, 1), (106, .if_icmp .ne 38, 3), (109, .aload_n 0, 1), (110, .iconst 2, 1), (111, .invokevirtual 698, 3), (114, .aload_n 0, 1), (115, .invokevirtual 678, 3), (118, .invokestatic 681, 3)]
noncomputable def xi_402_4 : XIs := [(121, .iconst 1, 1), (122, .if_icmp .ne 12, 3), (125, .aload_n 0, 1), (126, .iconst 2, 1), (127, .aload_n 0, 1), (128, .getfield 368, 3), (131, .invokevirtual 391, 3), (134, .aload_n 0, 1), (135, .aload_n 0, 1), (136, .getfield 374, 3), (139, .invokevirtual 695, 3), (142, .iconst 0, 1), (143, .ireturn, 1), (144, .aload_n 0, 1), (145, .getfield 371, 3), (148, .iconst 3, 1)]
noncomputable def xi_402_5 : XIs := [(149, .if_icmp .ne 47, 3), (152, .aload_n 0, 1), (153, .getfield 374, 3), (156, .bipush 41, 2), (158, .if_icmp .ne 38, 3), (161, .aload_n 0, 1), (162, .iconst 1, 1), (163, .invokevirtual 698, 3), (166, .aload_n 0, 1), (167, .invokevirtual 678, 3), (170, .bipush 40, 2), (172, .if_icmp .eq 14, 3), (175, .aload_n 0, 1), (176, .iconst 2, 1), (177, .aload_n 0, 1), (178, .getfield 368, 3)]
noncomputable def xi_402_6 : XIs := [(181, .invokevirtual 391, 3), (184, .iconst 1, 1), (185, .ireturn, 1), (186, .aload_n 0, 1), (187, .invokevirtual 687, 3), (190, .aload_n 0, 1), (191, .invokevirtual 690, 3), (194, .iconst 1, 1), (195, .ireturn, 1), (196, .aload_n 0, 1), (197, .iconst 2, 1), (198, .aload_n 0, 1), (199, .getfield 368, 3), (202, .invokevirtual 391, 3), (205, .iconst 1, 1), (206, .ireturn, 1)]
set_option maxRecDepth 100000 in
theorem xi_w402 : xi_ok cX12_behindFactor (xi_402_0 ++ (xi_402_1 ++ (xi_402_2 ++ (xi_402_3 ++ (xi_402_4 ++ (xi_402_5 ++ (xi_402_6))))))) = true := dl_all _ _ (by decide +kernel)
theorem xi_ok402_0 : xi_ok cX12_behindFactor xi_402_0 = true := (xi_ap xi_w402).1
theorem xi_r402_1 : xi_ok cX12_behindFactor (xi_402_1 ++ (xi_402_2 ++ (xi_402_3 ++ (xi_402_4 ++ (xi_402_5 ++ (xi_402_6)))))) = true := (xi_ap xi_w402).2
theorem xi_ok402_1 : xi_ok cX12_behindFactor xi_402_1 = true := (xi_ap xi_r402_1).1
theorem xi_r402_2 : xi_ok cX12_behindFactor (xi_402_2 ++ (xi_402_3 ++ (xi_402_4 ++ (xi_402_5 ++ (xi_402_6))))) = true := (xi_ap xi_r402_1).2
theorem xi_ok402_2 : xi_ok cX12_behindFactor xi_402_2 = true := (xi_ap xi_r402_2).1
theorem xi_r402_3 : xi_ok cX12_behindFactor (xi_402_3 ++ (xi_402_4 ++ (xi_402_5 ++ (xi_402_6)))) = true := (xi_ap xi_r402_2).2
theorem xi_ok402_3 : xi_ok cX12_behindFactor xi_402_3 = true := (xi_ap xi_r402_3).1
theorem xi_r402_4 : xi_ok cX12_behindFactor (xi_402_4 ++ (xi_402_5 ++ (xi_402_6))) = true := (xi_ap xi_r402_3).2
theorem xi_ok402_4 : xi_ok cX12_behindFactor xi_402_4 = true := (xi_ap xi_r402_4).1
theorem xi_r402_5 : xi_ok cX12_behindFactor (xi_402_5 ++ (xi_402_6)) = true := (xi_ap xi_r402_4).2
theorem xi_ok402_5 : xi_ok cX12_behindFactor xi_402_5 = true := (xi_ap xi_r402_5).1
theorem xi_r402_6 : xi_ok cX12_behindFactor (xi_402_6) = true := (xi_ap xi_r402_5).2
theorem xi_ok402_6 : xi_ok cX12_behindFactor xi_402_6 = true := xi_r402_6
noncomputable def xi_402 (pc : Nat) : XIs := cond (Nat.blt pc 91) (cond (Nat.blt pc 33) (xi_402_0) (cond (Nat.blt pc 63) (xi_402_1) (xi_402_2))) (cond (Nat.blt pc 149) (cond (Nat.blt pc 121) (xi_402_3) (xi_402_4)) (cond (Nat.blt pc 181) (xi_402_5) (xi_402_6)))
theorem xi_ok402 (pc : Nat) : xi_ok cX12_behindFactor (xi_402 pc) = true := xi_c (xi_c (xi_ok402_0) (xi_c (xi_ok402_1) (xi_ok402_2))) (xi_c (xi_c (xi_ok402_3) (xi_ok402_4)) (xi_c (xi_ok402_5) (xi_ok402_6)))
noncomputable def xi_403_0 : XIs := [(0, .aload_n 0, 1), (1, .iconst 0, 1), (2, .putfield 672, 3), (5, .aload_n 0, 1), (6, .iconst 0, 1), (7, .putfield 675, 3), (10, .iconst 1, 1), (11, .istore_n 2, 1), (12, .iconst 1, 1), (13, .istore_n 3, 1), (14, .iload_n 3, 1), (15, .ifCond .eq 81, 3), (18, .aload_n 0, 1), (19, .getfield 359, 3), (22, .ifCond .ne 74, 3), (25, .aload_n 0, 1)]
noncomputable def xi_403_1 : XIs := [(26, .invokevirtual 701, 3), (29, .aload_n 0, 1), (30, .getfield 359, 3), (33, .ifCond .ne 23, 3), (36, .iload_n 2, 1), (37, .ifCond .eq 19, 3), (40, .aload_n 0, 1), (41, .invokevirtual 704, 3), (44, .ifCond .ne 7, 3), (47, .iconst 1, 1), (48, .goto 4, 3), (51, .iconst 0, 1), (52, .istore_n 2, 1), (53, .goto (-39), 3), (56, .aload_n 0, 1), (57, .getfield 359, 3)]
noncomputable def xi_403_2 : XIs := [(60, .ifCond .ne (-46), 3), (63, .aload_n 0, 1), (64, .iload_n 1, 1), (65, .invokevirtual 708, 3), (68, .istore 4, 2), (70, .iload 4, 2), (72, .ifCond .ne 7, 3), (75, .iconst 1, 1), (76, .goto 4, 3), (79, .iconst 0, 1), (80, .istore_n 2, 1), (81, .iload 4, 2), (83, .iconst 2, 1), (84, .if_icmp .ge 7, 3), (87, .iconst 1, 1), (88, .goto 4, 3)]
noncomputable def xi_403_3 : XIs := [(91, .iconst 0, 1), (92, .istore_n 3, 1), (93, .goto (-79), 3), (96, .return_, 1)]
set_option maxRecDepth 100000 in
theorem xi_w403 : xi_ok cX12_expression (xi_403_0 ++ (xi_403_1 ++ (xi_403_2 ++ (xi_403_3)))) = true := dl_all _ _ (by decide +kernel)
theorem xi_ok403_0 : xi_ok cX12_expression xi_403_0 = true := (xi_ap xi_w403).1
theorem xi_r403_1 : xi_ok cX12_expression (xi_403_1 ++ (xi_403_2 ++ (xi_403_3))) = true := (xi_ap xi_w403).2
theorem xi_ok403_1 : xi_ok cX12_expression xi_403_1 = true := (xi_ap xi_r403_1).1
theorem xi_r403_2 : xi_ok cX12_expression (xi_403_2 ++ (xi_403_3)) = true := (xi_ap xi_r403_1).2
theorem xi_ok403_2 : xi_ok cX12_expression xi_403_2 = true := (xi_ap xi_r403_2).1
theorem xi_r403_3 : xi_ok cX12_expression (xi_403_3) = true := (xi_ap xi_r403_2).2
theorem xi_ok403_3 : xi_ok cX12_expression xi_403_3 = true := xi_r403_3
noncomputable def xi_403 (pc : Nat) : XIs := cond (Nat.blt pc 60) (cond (Nat.blt pc 26) (xi_403_0) (xi_403_1)) (cond (Nat.blt pc 91) (xi_403_2) (xi_403_3))
theorem xi_ok403 (pc : Nat) : xi_ok cX12_expression (xi_403 pc) = true := xi_c (xi_c (xi_ok403_0) (xi_ok403_1)) (xi_c (xi_ok403_2) (xi_ok403_3))
noncomputable def xi_404_0 : XIs := [(0, .aload_n 0, 1), (1, .iconst 0, 1), (2, .putfield 278, 3), (5, .aload_n 0, 1), (6, .iconst 0, 1), (7, .putfield 359, 3), (10, .aload_n 0, 1), (11, .getfield 356, 3), (14, .bipush 120, 2), (16, .if_icmp .le 13, 3), (19, .aload_n 0, 1), (20, .iconst 2, 1), (21, .bipush 120, 2), (23, .invokevirtual 391, 3), (26, .bipush (-4), 2), (28, .ireturn, 1)]
noncomputable def xi_404_1 : XIs := [(29, .aload_n 0, 1), (30, .iconst 0, 1), (31, .putfield 365, 3), (34, .aload_n 0, 1), (35, .iconst 0, 1), (36, .putfield 669, 3), (39, .aload_n 0, 1), (40, .iconst 1, 1), (41, .invokevirtual 712, 3), (44, .aload_n 0, 1), (45, .getfield 257, 3), (48, .iconst 1, 1), (49, .aload_n 0, 1), (50, .getfield 669, 3), (53, .iastore, 1), (54, .aload_n 0, 1)]
noncomputable def xi_404_2 : XIs := [(55, .getfield 359, 3), (58, .ifCond .ne 8, 3), (61, .aload_n 0, 1), (62, .iconst 0, 1), (63, .invokevirtual 712, 3), (66, .aload_n 0, 1), (67, .getfield 257, 3), (70, .iconst 2, 1), (71, .aload_n 0, 1), (72, .getfield 669, 3), (75, .iastore, 1), (76, .aload_n 0, 1), (77, .getfield 359, 3), (80, .ifCond .le 6, 3), (83, .bipush (-4), 2), (85, .ireturn, 1)]
noncomputable def xi_404_3 : XIs := [(86, .iconst 0, 1), (87, .istore_n 1, 1), (88, .iload_n 1, 1), (89, .aload_n 0, 1), (90, .getfield 669, 3), (93, .if_icmp .ge 33, 3), (96, .aload_n 0, 1), (97, .getfield 242, 3), (100, .iload_n 1, 1), (101, .aload_n 0, 1), (102, .getfield 251, 3), (105, .iload_n 1, 1), (106, .iaload, 1), (107, .iastore, 1), (108, .aload_n 0, 1), (109, .getfield 245, 3)]
noncomputable def xi_404_4 : XIs := [(112, .iload_n 1, 1), (113, .aload_n 0, 1), (114, .getfield 254, 3), (117, .iload_n 1, 1), (118, .iaload, 1), (119, .iastore, 1), (120, .iinc 1 1, 3), (123, .goto (-35), 3), (126, .aload_n 0, 1), (127, .getfield 248, 3), (130, .iconst 1, 1), (131, .aload_n 0, 1), (132, .getfield 257, 3), (135, .iconst 1, 1), (136, .iaload, 1), (137, .iastore, 1)]
noncomputable def xi_404_5 : XIs := [(138, .aload_n 0, 1), (139, .getfield 248, 3), (142, .iconst 2, 1), (143, .aload_n 0, 1), (144, .getfield 257, 3), (147, .iconst 2, 1), (148, .iaload, 1), (149, .iastore, 1), (150, .iconst 0, 1), (151, .ireturn, 1)]
set_option maxRecDepth 100000 in
theorem xi_w404 : xi_ok cX12_program (xi_404_0 ++ (xi_404_1 ++ (xi_404_2 ++ (xi_404_3 ++ (xi_404_4 ++ (xi_404_5)))))) = true := dl_all _ _ (by decide +kernel)
theorem xi_ok404_0 : xi_ok cX12_program xi_404_0 = true := (xi_ap xi_w404).1
theorem xi_r404_1 : xi_ok cX12_program (xi_404_1 ++ (xi_404_2 ++ (xi_404_3 ++ (xi_404_4 ++ (xi_404_5))))) = true := (xi_ap xi_w404).2
theorem xi_ok404_1 : xi_ok cX12_program xi_404_1 = true := (xi_ap xi_r404_1).1
theorem xi_r404_2 : xi_ok cX12_program (xi_404_2 ++ (xi_404_3 ++ (xi_404_4 ++ (xi_404_5)))) = true := (xi_ap xi_r404_1).2
theorem xi_ok404_2 : xi_ok cX12_program xi_404_2 = true := (xi_ap xi_r404_2).1
theorem xi_r404_3 : xi_ok cX12_program (xi_404_3 ++ (xi_404_4 ++ (xi_404_5))) = true := (xi_ap xi_r404_2).2
theorem xi_ok404_3 : xi_ok cX12_program xi_404_3 = true := (xi_ap xi_r404_3).1
theorem xi_r404_4 : xi_ok cX12_program (xi_404_4 ++ (xi_404_5)) = true := (xi_ap xi_r404_3).2
theorem xi_ok404_4 : xi_ok cX12_program xi_404_4 = true := (xi_ap xi_r404_4).1
theorem xi_r404_5 : xi_ok cX12_program (xi_404_5) = true := (xi_ap xi_r404_4).2
theorem xi_ok404_5 : xi_ok cX12_program xi_404_5 = true := xi_r404_5
noncomputable def xi_404 (pc : Nat) : XIs := cond (Nat.blt pc 86) (cond (Nat.blt pc 29) (xi_404_0) (cond (Nat.blt pc 55) (xi_404_1) (xi_404_2))) (cond (Nat.blt pc 112) (xi_404_3) (cond (Nat.blt pc 138) (xi_404_4) (xi_404_5)))
theorem xi_ok404 (pc : Nat) : xi_ok cX12_program (xi_404 pc) = true := xi_c (xi_c (xi_ok404_0) (xi_c (xi_ok404_1) (xi_ok404_2))) (xi_c (xi_ok404_3) (xi_c (xi_ok404_4) (xi_ok404_5)))
noncomputable def xi_405_0 : XIs := [(0, .lload_n 0, 1), (1, .ldc2_w 584, 3), (4, .lcmp, 1), (5, .ifCond .le 9, 3), (8, .ldc2_w 584, 3), (11, .goto 18, 3), (14, .lload_n 0, 1), (15, .ldc2_w 716, 3), (18, .lcmp, 1), (19, .ifCond .ge 9, 3), (22, .ldc2_w 716, 3), (25, .goto 4, 3), (28, .lload_n 0, 1), (29, .lreturn, 1)]
set_option maxRecDepth 100000 in
theorem xi_w405 : xi_ok cX12_fit (xi_405_0) = true := dl_all _ _ (by decide +kernel)
theorem xi_ok405_0 : xi_ok cX12_fit xi_405_0 = true := xi_w405
noncomputable def xi_405 (pc : Nat) : XIs := xi_405_0
theorem xi_ok405 (pc : Nat) : xi_ok cX12_fit (xi_405 pc) = true := xi_ok405_0
noncomputable def xi_406_0 : XIs := [(0, .lload_n 0, 1), (1, .lconst 0, 1), (2, .lcmp, 1), (3, .ifCond .eq 9, 3), (6, .lload_n 2, 1), (7, .lconst 0, 1), (8, .lcmp, 1), (9, .ifCond .ne 5, 3), (12, .lconst 0, 1), (13, .lreturn, 1), (14, .lload_n 0, 1), (15, .lconst 0, 1), (16, .lcmp, 1), (17, .ifCond .ge 8, 3), (20, .lload_n 0, 1), (21, .lneg, 1)]
noncomputable def xi_406_1 : XIs := [(22, .goto 4, 3), (25, .lload_n 0, 1), (26, .lstore 4, 2), (28, .lload_n 2, 1), (29, .lconst 0, 1), (30, .lcmp, 1), (31, .ifCond .ge 8, 3), (34, .lload_n 2, 1), (35, .lneg, 1), (36, .goto 4, 3), (39, .lload_n 2, 1), (40, .lstore 6, 2), (42, .lload 4, 2), (44, .ldc2_w 584, 3), (47, .lload 6, 2), (49, .ldiv, 1)]
noncomputable def xi_406_2 : XIs := [(50, .lcmp, 1), (51, .ifCond .le 9, 3), (54, .ldc2_w 584, 3), (57, .goto 8, 3), (60, .lload 4, 2), (62, .lload 6, 2), (64, .lmul, 1), (65, .lstore 8, 2), (67, .lload_n 0, 1), (68, .lconst 0, 1), (69, .lcmp, 1), (70, .ifCond .ge 7, 3), (73, .iconst 1, 1), (74, .goto 4, 3), (77, .iconst 0, 1), (78, .lload_n 2, 1)]
noncomputable def xi_406_3 : XIs := [(79, .lconst 0, 1), (80, .lcmp, 1), (81, .ifCond .ge 7, 3), (84, .iconst 1, 1), (85, .goto 4, 3), (88, .iconst 0, 1), (89, .if_icmp .ne 8, 3), (92, .lload 8, 2), (94, .goto 6, 3), (97, .lload 8, 2), (99, .lneg, 1), (100, .lreturn, 1)]
set_option maxRecDepth 100000 in
theorem xi_w406 : xi_ok cX12_product (xi_406_0 ++ (xi_406_1 ++ (xi_406_2 ++ (xi_406_3)))) = true := dl_all _ _ (by decide +kernel)
theorem xi_ok406_0 : xi_ok cX12_product xi_406_0 = true := (xi_ap xi_w406).1
theorem xi_r406_1 : xi_ok cX12_product (xi_406_1 ++ (xi_406_2 ++ (xi_406_3))) = true := (xi_ap xi_w406).2
theorem xi_ok406_1 : xi_ok cX12_product xi_406_1 = true := (xi_ap xi_r406_1).1
theorem xi_r406_2 : xi_ok cX12_product (xi_406_2 ++ (xi_406_3)) = true := (xi_ap xi_r406_1).2
theorem xi_ok406_2 : xi_ok cX12_product xi_406_2 = true := (xi_ap xi_r406_2).1
theorem xi_r406_3 : xi_ok cX12_product (xi_406_3) = true := (xi_ap xi_r406_2).2
theorem xi_ok406_3 : xi_ok cX12_product xi_406_3 = true := xi_r406_3
noncomputable def xi_406 (pc : Nat) : XIs := cond (Nat.blt pc 50) (cond (Nat.blt pc 22) (xi_406_0) (xi_406_1)) (cond (Nat.blt pc 79) (xi_406_2) (xi_406_3))
theorem xi_ok406 (pc : Nat) : xi_ok cX12_product (xi_406 pc) = true := xi_c (xi_c (xi_ok406_0) (xi_ok406_1)) (xi_c (xi_ok406_2) (xi_ok406_3))
noncomputable def xi_407_0 : XIs := [(0, .aload_n 0, 1), (1, .getfield 272, 3), (4, .iconst 0, 1), (5, .aload_n 0, 1), (6, .getfield 263, 3), (9, .iload_n 1, 1), (10, .laload, 1), (11, .lastore, 1), (12, .aload_n 0, 1), (13, .getfield 272, 3), (16, .iconst 1, 1), (17, .iload_n 1, 1), (18, .i2l, 1), (19, .lastore, 1), (20, .aload_n 0, 1), (21, .getfield 272, 3)]
noncomputable def xi_407_1 : XIs := [(24, .iconst 2, 1), (25, .aload_n 0, 1), (26, .getfield 13, 3), (29, .bipush 32, 2), (31, .aload_n 0, 1), (32, .getfield 301, 3), (35, .imul, 1), (36, .iload_n 1, 1), (37, .iadd, 1), (38, .iaload, 1), (39, .i2l, 1), (40, .lastore, 1), (41, .aload_n 0, 1), (42, .getfield 272, 3), (45, .iconst 3, 1), (46, .lconst 0, 1)]
noncomputable def xi_407_2 : XIs := [(47, .lastore, 1), (48, .aload_n 0, 1), (49, .getfield 272, 3), (52, .iconst 4, 1), (53, .lconst 0, 1), (54, .lastore, 1), (55, .aload_n 0, 1), (56, .getfield 272, 3), (59, .iconst 5, 1), (60, .iload_n 2, 1), (61, .i2l, 1), (62, .lastore, 1), (63, .aload_n 0, 1), (64, .getfield 272, 3), (67, .bipush 6, 2), (69, .lconst 0, 1)]
noncomputable def xi_407_3 : XIs := [(70, .lastore, 1), (71, .aload_n 0, 1), (72, .getfield 272, 3), (75, .bipush 7, 2), (77, .ldc2_w 584, 3), (80, .lastore, 1), (81, .aload_n 0, 1), (82, .getfield 272, 3), (85, .bipush 8, 2), (87, .ldc2_w 716, 3), (90, .lastore, 1), (91, .aload_n 0, 1), (92, .getfield 288, 3), (95, .istore_n 3, 1), (96, .iload_n 3, 1), (97, .aload_n 0, 1)]
noncomputable def xi_407_4 : XIs := [(98, .getfield 288, 3), (101, .sipush 160, 3), (104, .iadd, 1), (105, .if_icmp .ge 171, 3), (108, .aload_n 0, 1), (109, .getfield 16, 3), (112, .iload_n 3, 1), (113, .baload, 1), (114, .ifCond .eq 23, 3), (117, .aload_n 0, 1), (118, .getfield 20, 3), (121, .iload_n 3, 1), (122, .iaload, 1), (123, .iload_n 1, 1), (124, .if_icmp .ne 13, 3), (127, .aload_n 0, 1)]
noncomputable def xi_407_5 : XIs := [(128, .getfield 272, 3), (131, .iconst 3, 1), (132, .dup2, 1), (133, .laload, 1), (134, .lconst 1, 1), (135, .ladd, 1), (136, .lastore, 1), (137, .aload_n 0, 1), (138, .getfield 16, 3), (141, .iload_n 3, 1), (142, .baload, 1), (143, .ifCond .eq 127, 3), (146, .aload_n 0, 1), (147, .getfield 23, 3), (150, .iload_n 3, 1), (151, .iaload, 1)]
noncomputable def xi_407_6 : XIs := [(152, .iload_n 1, 1), (153, .if_icmp .ne 117, 3), (156, .aload_n 0, 1), (157, .getfield 263, 3), (160, .aload_n 0, 1), (161, .getfield 20, 3), (164, .iload_n 3, 1), (165, .iaload, 1), (166, .laload, 1), (167, .lstore 4, 2), (169, .lload 4, 2), (171, .aload_n 0, 1), (172, .getfield 26, 3), (175, .iload_n 3, 1), (176, .iaload, 1), (177, .i2l, 1)]
noncomputable def xi_407_7 : XIs := [(178, .ladd, 1), (179, .invokestatic 718, 3), (182, .lstore 6, 2), (184, .aload_n 0, 1), (185, .getfield 272, 3), (188, .iconst 4, 1), (189, .dup2, 1), (190, .laload, 1), (191, .lconst 1, 1), (192, .ladd, 1), (193, .lastore, 1), (194, .aload_n 0, 1), (195, .getfield 272, 3), (198, .bipush 6, 2), (200, .dup2, 1), (201, .laload, 1)]
noncomputable def xi_407_8 : XIs := [(202, .lload 4, 2), (204, .ladd, 1), (205, .lastore, 1), (206, .aload_n 0, 1), (207, .getfield 272, 3), (210, .bipush 7, 2), (212, .lload 6, 2), (214, .aload_n 0, 1), (215, .getfield 272, 3), (218, .bipush 7, 2), (220, .laload, 1), (221, .lcmp, 1), (222, .ifCond .ge 8, 3), (225, .lload 6, 2), (227, .goto 10, 3), (230, .aload_n 0, 1)]
noncomputable def xi_407_9 : XIs := [(231, .getfield 272, 3), (234, .bipush 7, 2), (236, .laload, 1), (237, .lastore, 1), (238, .aload_n 0, 1), (239, .getfield 272, 3), (242, .bipush 8, 2), (244, .lload 6, 2), (246, .aload_n 0, 1), (247, .getfield 272, 3), (250, .bipush 8, 2), (252, .laload, 1), (253, .lcmp, 1), (254, .ifCond .le 8, 3), (257, .lload 6, 2), (259, .goto 10, 3)]
noncomputable def xi_407_10 : XIs := [(262, .aload_n 0, 1), (263, .getfield 272, 3), (266, .bipush 8, 2), (268, .laload, 1), (269, .lastore, 1), (270, .iinc 3 1, 3), (273, .goto (-177), 3), (276, .aload_n 0, 1), (277, .getfield 272, 3), (280, .bipush 6, 2), (282, .aload_n 0, 1), (283, .getfield 272, 3), (286, .bipush 6, 2), (288, .laload, 1), (289, .invokestatic 718, 3), (292, .lastore, 1)]
noncomputable def xi_407_11 : XIs := [(293, .return_, 1)]
set_option maxRecDepth 100000 in
theorem xi_w407 : xi_ok cX12_nameAll (xi_407_0 ++ (xi_407_1 ++ (xi_407_2 ++ (xi_407_3 ++ (xi_407_4 ++ (xi_407_5 ++ (xi_407_6 ++ (xi_407_7 ++ (xi_407_8 ++ (xi_407_9 ++ (xi_407_10 ++ (xi_407_11)))))))))))) = true := dl_all _ _ (by decide +kernel)
theorem xi_ok407_0 : xi_ok cX12_nameAll xi_407_0 = true := (xi_ap xi_w407).1
theorem xi_r407_1 : xi_ok cX12_nameAll (xi_407_1 ++ (xi_407_2 ++ (xi_407_3 ++ (xi_407_4 ++ (xi_407_5 ++ (xi_407_6 ++ (xi_407_7 ++ (xi_407_8 ++ (xi_407_9 ++ (xi_407_10 ++ (xi_407_11))))))))))) = true := (xi_ap xi_w407).2
theorem xi_ok407_1 : xi_ok cX12_nameAll xi_407_1 = true := (xi_ap xi_r407_1).1
theorem xi_r407_2 : xi_ok cX12_nameAll (xi_407_2 ++ (xi_407_3 ++ (xi_407_4 ++ (xi_407_5 ++ (xi_407_6 ++ (xi_407_7 ++ (xi_407_8 ++ (xi_407_9 ++ (xi_407_10 ++ (xi_407_11)))))))))) = true := (xi_ap xi_r407_1).2
theorem xi_ok407_2 : xi_ok cX12_nameAll xi_407_2 = true := (xi_ap xi_r407_2).1
theorem xi_r407_3 : xi_ok cX12_nameAll (xi_407_3 ++ (xi_407_4 ++ (xi_407_5 ++ (xi_407_6 ++ (xi_407_7 ++ (xi_407_8 ++ (xi_407_9 ++ (xi_407_10 ++ (xi_407_11))))))))) = true := (xi_ap xi_r407_2).2
theorem xi_ok407_3 : xi_ok cX12_nameAll xi_407_3 = true := (xi_ap xi_r407_3).1
theorem xi_r407_4 : xi_ok cX12_nameAll (xi_407_4 ++ (xi_407_5 ++ (xi_407_6 ++ (xi_407_7 ++ (xi_407_8 ++ (xi_407_9 ++ (xi_407_10 ++ (xi_407_11)))))))) = true := (xi_ap xi_r407_3).2
theorem xi_ok407_4 : xi_ok cX12_nameAll xi_407_4 = true := (xi_ap xi_r407_4).1
theorem xi_r407_5 : xi_ok cX12_nameAll (xi_407_5 ++ (xi_407_6 ++ (xi_407_7 ++ (xi_407_8 ++ (xi_407_9 ++ (xi_407_10 ++ (xi_407_11))))))) = true := (xi_ap xi_r407_4).2
theorem xi_ok407_5 : xi_ok cX12_nameAll xi_407_5 = true := (xi_ap xi_r407_5).1
theorem xi_r407_6 : xi_ok cX12_nameAll (xi_407_6 ++ (xi_407_7 ++ (xi_407_8 ++ (xi_407_9 ++ (xi_407_10 ++ (xi_407_11)))))) = true := (xi_ap xi_r407_5).2
theorem xi_ok407_6 : xi_ok cX12_nameAll xi_407_6 = true := (xi_ap xi_r407_6).1
theorem xi_r407_7 : xi_ok cX12_nameAll (xi_407_7 ++ (xi_407_8 ++ (xi_407_9 ++ (xi_407_10 ++ (xi_407_11))))) = true := (xi_ap xi_r407_6).2
theorem xi_ok407_7 : xi_ok cX12_nameAll xi_407_7 = true := (xi_ap xi_r407_7).1
theorem xi_r407_8 : xi_ok cX12_nameAll (xi_407_8 ++ (xi_407_9 ++ (xi_407_10 ++ (xi_407_11)))) = true := (xi_ap xi_r407_7).2
theorem xi_ok407_8 : xi_ok cX12_nameAll xi_407_8 = true := (xi_ap xi_r407_8).1
theorem xi_r407_9 : xi_ok cX12_nameAll (xi_407_9 ++ (xi_407_10 ++ (xi_407_11))) = true := (xi_ap xi_r407_8).2
theorem xi_ok407_9 : xi_ok cX12_nameAll xi_407_9 = true := (xi_ap xi_r407_9).1
theorem xi_r407_10 : xi_ok cX12_nameAll (xi_407_10 ++ (xi_407_11)) = true := (xi_ap xi_r407_9).2
theorem xi_ok407_10 : xi_ok cX12_nameAll xi_407_10 = true := (xi_ap xi_r407_10).1
theorem xi_r407_11 : xi_ok cX12_nameAll (xi_407_11) = true := (xi_ap xi_r407_10).2
theorem xi_ok407_11 : xi_ok cX12_nameAll xi_407_11 = true := xi_r407_11
noncomputable def xi_407 (pc : Nat) : XIs := cond (Nat.blt pc 152) (cond (Nat.blt pc 70) (cond (Nat.blt pc 24) (xi_407_0) (cond (Nat.blt pc 47) (xi_407_1) (xi_407_2))) (cond (Nat.blt pc 98) (xi_407_3) (cond (Nat.blt pc 128) (xi_407_4) (xi_407_5)))) (cond (Nat.blt pc 231) (cond (Nat.blt pc 178) (xi_407_6) (cond (Nat.blt pc 202) (xi_407_7) (xi_407_8))) (cond (Nat.blt pc 262) (xi_407_9) (cond (Nat.blt pc 293) (xi_407_10) (xi_407_11))))
theorem xi_ok407 (pc : Nat) : xi_ok cX12_nameAll (xi_407 pc) = true := xi_c (xi_c (xi_c (xi_ok407_0) (xi_c (xi_ok407_1) (xi_ok407_2))) (xi_c (xi_ok407_3) (xi_c (xi_ok407_4) (xi_ok407_5)))) (xi_c (xi_c (xi_ok407_6) (xi_c (xi_ok407_7) (xi_ok407_8))) (xi_c (xi_ok407_9) (xi_c (xi_ok407_10) (xi_ok407_11))))
noncomputable def xi_408_0 : XIs := [(0, .iconst 0, 1), (1, .istore_n 2, 1), (2, .iload_n 1, 1), (3, .ifCond .ne 7, 3), (6, .iconst 0, 1), (7, .goto 9, 3), (10, .aload_n 0, 1), (11, .getfield 248, 3), (14, .iconst 1, 1), (15, .iaload, 1), (16, .istore_n 3, 1), (17, .iload_n 3, 1), (18, .aload_n 0, 1), (19, .getfield 248, 3), (22, .iload_n 1, 1), (23, .iconst 1, 1)]
noncomputable def xi_408_1 : XIs := [(24, .iadd, 1), (25, .iaload, 1), (26, .if_icmp .ge 206, 3), (29, .aload_n 0, 1), (30, .getfield 242, 3), (33, .iload_n 3, 1), (34, .iaload, 1), (35, .istore 4, 2), (37, .iload 4, 2), (39, .iconst 2, 1), (40, .if_icmp .ge 41, 3), (43, .aload_n 0, 1), (44, .getfield 269, 3), (47, .iload_n 2, 1), (48, .iload 4, 2), (50, .ifCond .ne 13, 3)]
noncomputable def xi_408_2 : XIs := [(53, .aload_n 0, 1), (54, .getfield 245, 3), (57, .iload_n 3, 1), (58, .iaload, 1), (59, .i2l, 1), (60, .goto 14, 3), (63, .aload_n 0, 1), (64, .getfield 272, 3), (67, .aload_n 0, 1), (68, .getfield 245, 3), (71, .iload_n 3, 1), (72, .iaload, 1), (73, .laload, 1), (74, .lastore, 1), (75, .iinc 2 1, 3), (78, .goto 148, 3)]
noncomputable def xi_408_3 : XIs := [(81, .iload 4, 2), (83, .iconst 2, 1), (84, .if_icmp .ne 26, 3), (87, .aload_n 0, 1), (88, .getfield 269, 3), (91, .iload_n 2, 1), (92, .iconst 1, 1), (93, .isub, 1), (94, .aload_n 0, 1), (95, .getfield 269, 3), (98, .iload_n 2, 1), (99, .iconst 1, 1), (100, .isub, 1), (101, .laload, 1), (102, .lneg, 1), (103, .invokestatic 718, 3)]
noncomputable def xi_408_4 : XIs := [(106, .lastore, 1), (107, .goto 119, 3), (110, .iinc 2 (-1), 3), (113, .aload_n 0, 1), (114, .getfield 269, 3), (117, .iload_n 2, 1), (118, .iconst 1, 1), (119, .isub, 1), (120, .laload, 1), (121, .lstore 5, 2), (123, .aload_n 0, 1), (124, .getfield 269, 3), (127, .iload_n 2, 1), (128, .laload, 1), (129, .lstore 7, 2), (131, .aload_n 0, 1)]
noncomputable def xi_408_5 : XIs := [(132, .getfield 269, 3), (135, .iload_n 2, 1), (136, .iconst 1, 1), (137, .isub, 1), (138, .iload 4, 2), (140, .bipush 42, 2), (142, .if_icmp .ne 16, 3), (145, .lload 5, 2), (147, .lload 7, 2), (149, .invokestatic 722, 3), (152, .invokestatic 718, 3), (155, .goto 70, 3), (158, .iload 4, 2), (160, .bipush 43, 2), (162, .if_icmp .ne 14, 3), (165, .lload 5, 2)]
noncomputable def xi_408_6 : XIs := [(167, .lload 7, 2), (169, .ladd, 1), (170, .invokestatic 718, 3), (173, .goto 52, 3), (176, .iload 4, 2), (178, .bipush 45, 2), (180, .if_icmp .ne 14, 3), (183, .lload 5, 2), (185, .lload 7, 2), (187, .lsub, 1), (188, .invokestatic 718, 3), (191, .goto 34, 3), (194, .iload 4, 2), (196, .bipush 60, 2), (198, .if_icmp .ne 14, 3), (201, .lload 5, 2)]
noncomputable def xi_408_7 : XIs := [(203, .lload 7, 2), (205, .lcmp, 1), (206, .ifCond .ge 18, 3), (209, .goto 11, 3), (212, .lload 5, 2), (214, .lload 7, 2), (216, .lcmp, 1), (217, .ifCond .ne 7, 3), (220, .lconst 1, 1), (221, .goto 4, 3), (224, .lconst 0, 1), (225, .lastore, 1), (226, .iinc 3 1, 3), (229, .goto (-212), 3), (232, .aload_n 0, 1), (233, .getfield 269, 3)]
noncomputable def xi_408_8 : XIs := [(236, .iconst 0, 1), (237, .laload, 1), (238, .lreturn, 1)]
set_option maxRecDepth 100000 in
theorem xi_w408 : xi_ok cX12_workOut (xi_408_0 ++ (xi_408_1 ++ (xi_408_2 ++ (xi_408_3 ++ (xi_408_4 ++ (xi_408_5 ++ (xi_408_6 ++ (xi_408_7 ++ (xi_408_8))))))))) = true := dl_all _ _ (by decide +kernel)
theorem xi_ok408_0 : xi_ok cX12_workOut xi_408_0 = true := (xi_ap xi_w408).1
theorem xi_r408_1 : xi_ok cX12_workOut (xi_408_1 ++ (xi_408_2 ++ (xi_408_3 ++ (xi_408_4 ++ (xi_408_5 ++ (xi_408_6 ++ (xi_408_7 ++ (xi_408_8)))))))) = true := (xi_ap xi_w408).2
theorem xi_ok408_1 : xi_ok cX12_workOut xi_408_1 = true := (xi_ap xi_r408_1).1
theorem xi_r408_2 : xi_ok cX12_workOut (xi_408_2 ++ (xi_408_3 ++ (xi_408_4 ++ (xi_408_5 ++ (xi_408_6 ++ (xi_408_7 ++ (xi_408_8))))))) = true := (xi_ap xi_r408_1).2
theorem xi_ok408_2 : xi_ok cX12_workOut xi_408_2 = true := (xi_ap xi_r408_2).1
theorem xi_r408_3 : xi_ok cX12_workOut (xi_408_3 ++ (xi_408_4 ++ (xi_408_5 ++ (xi_408_6 ++ (xi_408_7 ++ (xi_408_8)))))) = true := (xi_ap xi_r408_2).2
theorem xi_ok408_3 : xi_ok cX12_workOut xi_408_3 = true := (xi_ap xi_r408_3).1
theorem xi_r408_4 : xi_ok cX12_workOut (xi_408_4 ++ (xi_408_5 ++ (xi_408_6 ++ (xi_408_7 ++ (xi_408_8))))) = true := (xi_ap xi_r408_3).2
theorem xi_ok408_4 : xi_ok cX12_workOut xi_408_4 = true := (xi_ap xi_r408_4).1
theorem xi_r408_5 : xi_ok cX12_workOut (xi_408_5 ++ (xi_408_6 ++ (xi_408_7 ++ (xi_408_8)))) = true := (xi_ap xi_r408_4).2
theorem xi_ok408_5 : xi_ok cX12_workOut xi_408_5 = true := (xi_ap xi_r408_5).1
theorem xi_r408_6 : xi_ok cX12_workOut (xi_408_6 ++ (xi_408_7 ++ (xi_408_8))) = true := (xi_ap xi_r408_5).2
theorem xi_ok408_6 : xi_ok cX12_workOut xi_408_6 = true := (xi_ap xi_r408_6).1
theorem xi_r408_7 : xi_ok cX12_workOut (xi_408_7 ++ (xi_408_8)) = true := (xi_ap xi_r408_6).2
theorem xi_ok408_7 : xi_ok cX12_workOut xi_408_7 = true := (xi_ap xi_r408_7).1
theorem xi_r408_8 : xi_ok cX12_workOut (xi_408_8) = true := (xi_ap xi_r408_7).2
theorem xi_ok408_8 : xi_ok cX12_workOut xi_408_8 = true := xi_r408_8
noncomputable def xi_408 (pc : Nat) : XIs := cond (Nat.blt pc 106) (cond (Nat.blt pc 53) (cond (Nat.blt pc 24) (xi_408_0) (xi_408_1)) (cond (Nat.blt pc 81) (xi_408_2) (xi_408_3))) (cond (Nat.blt pc 167) (cond (Nat.blt pc 132) (xi_408_4) (xi_408_5)) (cond (Nat.blt pc 203) (xi_408_6) (cond (Nat.blt pc 236) (xi_408_7) (xi_408_8))))
theorem xi_ok408 (pc : Nat) : xi_ok cX12_workOut (xi_408 pc) = true := xi_c (xi_c (xi_c (xi_ok408_0) (xi_ok408_1)) (xi_c (xi_ok408_2) (xi_ok408_3))) (xi_c (xi_c (xi_ok408_4) (xi_ok408_5)) (xi_c (xi_ok408_6) (xi_c (xi_ok408_7) (xi_ok408_8))))
noncomputable def xi_409_0 : XIs := [(0, .aload_n 0, 1), (1, .iload_n 1, 1), (2, .i2l, 1), (3, .lconst 0, 1), (4, .ldc2_w 725, 3), (7, .invokestatic 308, 3), (10, .ifCond .eq 31, 3), (13, .iload_n 2, 1), (14, .i2l, 1), (15, .lconst 1, 1), (16, .ldc2_w 345, 3), (19, .invokestatic 308, 3), (22, .ifCond .eq 19, 3), (25, .iload_n 3, 1), (26, .i2l, 1), (27, .lconst 0, 1)]
noncomputable def xi_409_1 : XIs := [(28, .ldc2_w 727, 3), (31, .invokestatic 308, 3), (34, .ifCond .eq 7, 3), (37, .iconst 1, 1), (38, .goto 4, 3), (41, .iconst 0, 1), (42, .invokevirtual 334, 3), (45, .ifCond .eq 5, 3), (48, .iconst 0, 1), (49, .ireturn, 1), (50, .aload_n 0, 1), (51, .aload_n 0, 1), (52, .getfield 285, 3), (55, .putfield 729, 3), (58, .aload_n 0, 1), (59, .iconst 0, 1)]
noncomputable def xi_409_2 : XIs := [(60, .putfield 732, 3), (63, .aload_n 0, 1), (64, .iconst 0, 1), (65, .putfield 735, 3), (68, .aload_n 0, 1), (69, .iconst 0, 1), (70, .putfield 738, 3), (73, .aload_n 0, 1), (74, .lconst 0, 1), (75, .putfield 741, 3), (78, .iconst 0, 1), (79, .istore 6, 2), (81, .iload 6, 2), (83, .aload_n 0, 1), (84, .getfield 285, 3), (87, .if_icmp .ge 17, 3)]
noncomputable def xi_409_3 : XIs := [(90, .aload_n 0, 1), (91, .getfield 263, 3), (94, .iload 6, 2), (96, .lconst 0, 1), (97, .lastore, 1), (98, .iinc 6 1, 3), (101, .goto (-20), 3), (104, .iconst 0, 1), (105, .istore 6, 2), (107, .iload 6, 2), (109, .aload_n 0, 1), (110, .getfield 285, 3), (113, .if_icmp .ge 28, 3), (116, .aload_n 0, 1), (117, .iload 6, 2), (119, .iconst 0, 1)]
noncomputable def xi_409_4 : XIs := [(120, .invokevirtual 744, 3), (123, .aload_n 0, 1), (124, .getfield 266, 3), (127, .iload 6, 2), (129, .aload_n 0, 1), (130, .iconst 0, 1), (131, .invokevirtual 747, 3), (134, .lastore, 1), (135, .iinc 6 1, 3), (138, .goto (-31), 3), (141, .iconst 0, 1), (142, .istore 6, 2), (144, .iload 6, 2), (146, .aload_n 0, 1), (147, .getfield 285, 3), (150, .if_icmp .ge 23, 3)]
noncomputable def xi_409_5 : XIs := [(153, .aload_n 0, 1), (154, .getfield 263, 3), (157, .iload 6, 2), (159, .aload_n 0, 1), (160, .getfield 266, 3), (163, .iload 6, 2), (165, .laload, 1), (166, .lastore, 1), (167, .iinc 6 1, 3), (170, .goto (-26), 3), (173, .iconst 0, 1), (174, .istore 6, 2), (176, .iconst 1, 1), (177, .istore 7, 2), (179, .iload 7, 2), (181, .ifCond .eq 126, 3)]
noncomputable def xi_409_6 : XIs := [(184, .iload 6, 2), (186, .iload_n 1, 1), (187, .if_icmp .ge 120, 3), (190, .iinc 6 1, 3), (193, .aload_n 0, 1), (194, .iload_n 2, 1), (195, .iload_n 3, 1), (196, .lload 4, 2), (198, .invokevirtual 750, 3), (201, .iconst 0, 1), (202, .istore 7, 2), (204, .iconst 0, 1), (205, .istore 8, 2), (207, .iload 8, 2), (209, .aload_n 0, 1), (210, .getfield 285, 3)]
noncomputable def xi_409_7 : XIs := [(213, .if_icmp .ge 59, 3), (216, .aload_n 0, 1), (217, .iload 8, 2), (219, .iload 6, 2), (221, .invokevirtual 744, 3), (224, .aload_n 0, 1), (225, .getfield 266, 3), (228, .iload 8, 2), (230, .aload_n 0, 1), (231, .iconst 1, 1), (232, .invokevirtual 747, 3), (235, .lastore, 1), (236, .iload 7, 2), (238, .ifCond .ne 21, 3), (241, .aload_n 0, 1), (242, .getfield 266, 3)]
noncomputable def xi_409_8 : XIs := [(245, .iload 8, 2), (247, .laload, 1), (248, .aload_n 0, 1), (249, .getfield 263, 3), (252, .iload 8, 2), (254, .laload, 1), (255, .lcmp, 1), (256, .ifCond .eq 7, 3), (259, .iconst 1, 1), (260, .goto 4, 3), (263, .iconst 0, 1), (264, .istore 7, 2), (266, .iinc 8 1, 3), (269, .goto (-62), 3), (272, .iconst 0, 1), (273, .istore 8, 2)]
noncomputable def xi_409_9 : XIs := [(275, .iload 8, 2), (277, .aload_n 0, 1), (278, .getfield 285, 3), (281, .if_icmp .ge 23, 3), (284, .aload_n 0, 1), (285, .getfield 263, 3), (288, .iload 8, 2), (290, .aload_n 0, 1), (291, .getfield 266, 3), (294, .iload 8, 2), (296, .laload, 1), (297, .lastore, 1), (298, .iinc 8 1, 3), (301, .goto (-26), 3), (304, .goto (-125), 3), (307, .iload 6, 2)]
noncomputable def xi_409_10 : XIs := [(309, .ireturn, 1)]
set_option maxRecDepth 100000 in
theorem xi_w409 : xi_ok cX12_run (xi_409_0 ++ (xi_409_1 ++ (xi_409_2 ++ (xi_409_3 ++ (xi_409_4 ++ (xi_409_5 ++ (xi_409_6 ++ (xi_409_7 ++ (xi_409_8 ++ (xi_409_9 ++ (xi_409_10))))))))))) = true := dl_all _ _ (by decide +kernel)
theorem xi_ok409_0 : xi_ok cX12_run xi_409_0 = true := (xi_ap xi_w409).1
theorem xi_r409_1 : xi_ok cX12_run (xi_409_1 ++ (xi_409_2 ++ (xi_409_3 ++ (xi_409_4 ++ (xi_409_5 ++ (xi_409_6 ++ (xi_409_7 ++ (xi_409_8 ++ (xi_409_9 ++ (xi_409_10)))))))))) = true := (xi_ap xi_w409).2
theorem xi_ok409_1 : xi_ok cX12_run xi_409_1 = true := (xi_ap xi_r409_1).1
theorem xi_r409_2 : xi_ok cX12_run (xi_409_2 ++ (xi_409_3 ++ (xi_409_4 ++ (xi_409_5 ++ (xi_409_6 ++ (xi_409_7 ++ (xi_409_8 ++ (xi_409_9 ++ (xi_409_10))))))))) = true := (xi_ap xi_r409_1).2
theorem xi_ok409_2 : xi_ok cX12_run xi_409_2 = true := (xi_ap xi_r409_2).1
theorem xi_r409_3 : xi_ok cX12_run (xi_409_3 ++ (xi_409_4 ++ (xi_409_5 ++ (xi_409_6 ++ (xi_409_7 ++ (xi_409_8 ++ (xi_409_9 ++ (xi_409_10)))))))) = true := (xi_ap xi_r409_2).2
theorem xi_ok409_3 : xi_ok cX12_run xi_409_3 = true := (xi_ap xi_r409_3).1
theorem xi_r409_4 : xi_ok cX12_run (xi_409_4 ++ (xi_409_5 ++ (xi_409_6 ++ (xi_409_7 ++ (xi_409_8 ++ (xi_409_9 ++ (xi_409_10))))))) = true := (xi_ap xi_r409_3).2
theorem xi_ok409_4 : xi_ok cX12_run xi_409_4 = true := (xi_ap xi_r409_4).1
theorem xi_r409_5 : xi_ok cX12_run (xi_409_5 ++ (xi_409_6 ++ (xi_409_7 ++ (xi_409_8 ++ (xi_409_9 ++ (xi_409_10)))))) = true := (xi_ap xi_r409_4).2
theorem xi_ok409_5 : xi_ok cX12_run xi_409_5 = true := (xi_ap xi_r409_5).1
theorem xi_r409_6 : xi_ok cX12_run (xi_409_6 ++ (xi_409_7 ++ (xi_409_8 ++ (xi_409_9 ++ (xi_409_10))))) = true := (xi_ap xi_r409_5).2
theorem xi_ok409_6 : xi_ok cX12_run xi_409_6 = true := (xi_ap xi_r409_6).1
theorem xi_r409_7 : xi_ok cX12_run (xi_409_7 ++ (xi_409_8 ++ (xi_409_9 ++ (xi_409_10)))) = true := (xi_ap xi_r409_6).2
theorem xi_ok409_7 : xi_ok cX12_run xi_409_7 = true := (xi_ap xi_r409_7).1
theorem xi_r409_8 : xi_ok cX12_run (xi_409_8 ++ (xi_409_9 ++ (xi_409_10))) = true := (xi_ap xi_r409_7).2
theorem xi_ok409_8 : xi_ok cX12_run xi_409_8 = true := (xi_ap xi_r409_8).1
theorem xi_r409_9 : xi_ok cX12_run (xi_409_9 ++ (xi_409_10)) = true := (xi_ap xi_r409_8).2
theorem xi_ok409_9 : xi_ok cX12_run xi_409_9 = true := (xi_ap xi_r409_9).1
theorem xi_r409_10 : xi_ok cX12_run (xi_409_10) = true := (xi_ap xi_r409_9).2
theorem xi_ok409_10 : xi_ok cX12_run xi_409_10 = true := xi_r409_10
noncomputable def xi_409 (pc : Nat) : XIs := cond (Nat.blt pc 153) (cond (Nat.blt pc 60) (cond (Nat.blt pc 28) (xi_409_0) (xi_409_1)) (cond (Nat.blt pc 90) (xi_409_2) (cond (Nat.blt pc 120) (xi_409_3) (xi_409_4)))) (cond (Nat.blt pc 245) (cond (Nat.blt pc 184) (xi_409_5) (cond (Nat.blt pc 213) (xi_409_6) (xi_409_7))) (cond (Nat.blt pc 275) (xi_409_8) (cond (Nat.blt pc 309) (xi_409_9) (xi_409_10))))
theorem xi_ok409 (pc : Nat) : xi_ok cX12_run (xi_409 pc) = true := xi_c (xi_c (xi_c (xi_ok409_0) (xi_ok409_1)) (xi_c (xi_ok409_2) (xi_c (xi_ok409_3) (xi_ok409_4)))) (xi_c (xi_c (xi_ok409_5) (xi_c (xi_ok409_6) (xi_ok409_7))) (xi_c (xi_ok409_8) (xi_c (xi_ok409_9) (xi_ok409_10))))
noncomputable def xi_410_0 : XIs := [(0, .iconst 0, 1), (1, .istore 4, 2), (3, .aload_n 0, 1), (4, .getfield 288, 3), (7, .istore 5, 2), (9, .iload 5, 2), (11, .aload_n 0, 1), (12, .getfield 288, 3), (15, .sipush 160, 3), (18, .iadd, 1), (19, .if_icmp .ge 55, 3), (22, .iload 4, 2), (24, .ifCond .ne 37, 3), (27, .aload_n 0, 1), (28, .getfield 16, 3), (31, .iload 5, 2)]
noncomputable def xi_410_1 : XIs := [(33, .baload, 1), (34, .ifCond .eq 31, 3), (37, .aload_n 0, 1), (38, .getfield 20, 3), (41, .iload 5, 2), (43, .iaload, 1), (44, .iload_n 1, 1), (45, .if_icmp .ne 20, 3), (48, .aload_n 0, 1), (49, .getfield 23, 3), (52, .iload 5, 2), (54, .iaload, 1), (55, .iload_n 3, 1), (56, .irem, 1), (57, .iload_n 2, 1), (58, .if_icmp .ne 7, 3)]
noncomputable def xi_410_2 : XIs := [(61, .iconst 1, 1), (62, .goto 4, 3), (65, .iconst 0, 1), (66, .istore 4, 2), (68, .iinc 5 1, 3), (71, .goto (-62), 3), (74, .iload 4, 2), (76, .ifCond .eq 14, 3), (79, .iload_n 1, 1), (80, .iload_n 3, 1), (81, .irem, 1), (82, .iload_n 2, 1), (83, .if_icmp .eq 7, 3), (86, .iconst 1, 1), (87, .goto 4, 3), (90, .iconst 0, 1)]
noncomputable def xi_410_3 : XIs := [(91, .ireturn, 1)]
set_option maxRecDepth 100000 in
theorem xi_w410 : xi_ok cX12_goesTo (xi_410_0 ++ (xi_410_1 ++ (xi_410_2 ++ (xi_410_3)))) = true := dl_all _ _ (by decide +kernel)
theorem xi_ok410_0 : xi_ok cX12_goesTo xi_410_0 = true := (xi_ap xi_w410).1
theorem xi_r410_1 : xi_ok cX12_goesTo (xi_410_1 ++ (xi_410_2 ++ (xi_410_3))) = true := (xi_ap xi_w410).2
theorem xi_ok410_1 : xi_ok cX12_goesTo xi_410_1 = true := (xi_ap xi_r410_1).1
theorem xi_r410_2 : xi_ok cX12_goesTo (xi_410_2 ++ (xi_410_3)) = true := (xi_ap xi_r410_1).2
theorem xi_ok410_2 : xi_ok cX12_goesTo xi_410_2 = true := (xi_ap xi_r410_2).1
theorem xi_r410_3 : xi_ok cX12_goesTo (xi_410_3) = true := (xi_ap xi_r410_2).2
theorem xi_ok410_3 : xi_ok cX12_goesTo xi_410_3 = true := xi_r410_3
noncomputable def xi_410 (pc : Nat) : XIs := cond (Nat.blt pc 61) (cond (Nat.blt pc 33) (xi_410_0) (xi_410_1)) (cond (Nat.blt pc 91) (xi_410_2) (xi_410_3))
theorem xi_ok410 (pc : Nat) : xi_ok cX12_goesTo (xi_410 pc) = true := xi_c (xi_c (xi_ok410_0) (xi_ok410_1)) (xi_c (xi_ok410_2) (xi_ok410_3))
noncomputable def xi_411_0 : XIs := [(0, .iconst 0, 1), (1, .istore 5, 2), (3, .iconst 0, 1), (4, .istore 6, 2), (6, .iload 6, 2), (8, .aload_n 0, 1), (9, .getfield 285, 3), (12, .if_icmp .ge 46, 3), (15, .iconst 0, 1), (16, .istore 7, 2), (18, .iload 7, 2), (20, .iload_n 1, 1), (21, .if_icmp .ge 31, 3), (24, .iload 5, 2), (26, .aload_n 0, 1), (27, .iload 6, 2)]
noncomputable def xi_411_1 : XIs := [(29, .iload 7, 2), (31, .iload_n 1, 1), (32, .invokevirtual 754, 3), (35, .ifCond .eq 7, 3), (38, .iconst 1, 1), (39, .goto 4, 3), (42, .iconst 0, 1), (43, .iadd, 1), (44, .istore 5, 2), (46, .iinc 7 1, 3), (49, .goto (-31), 3), (52, .iinc 6 1, 3), (55, .goto (-49), 3), (58, .iload 5, 2), (60, .ifCond .le 146, 3), (63, .aload_n 0, 1)]
noncomputable def xi_411_2 : XIs := [(64, .dup, 1), (65, .getfield 738, 3), (68, .iconst 1, 1), (69, .iadd, 1), (70, .putfield 738, 3), (73, .iconst 0, 1), (74, .istore 6, 2), (76, .iconst 0, 1), (77, .istore 7, 2), (79, .iload 7, 2), (81, .iload 5, 2), (83, .if_icmp .ge 94, 3), (86, .aload_n 0, 1), (87, .dup, 1), (88, .getfield 741, 3), (91, .lconst 1, 1)]
noncomputable def xi_411_3 : XIs := [(92, .ladd, 1), (93, .putfield 741, 3), (96, .lload_n 3, 1), (97, .ldc2_w 757, 3), (100, .aload_n 0, 1), (101, .getfield 741, 3), (104, .lmul, 1), (105, .ladd, 1), (106, .lstore 8, 2), (108, .lload 8, 2), (110, .lload 8, 2), (112, .bipush 30, 2), (114, .lushr, 1), (115, .lxor, 1), (116, .ldc2_w 759, 3), (119, .lmul, 1)]
noncomputable def xi_411_4 : XIs := [(120, .lstore 8, 2), (122, .lload 8, 2), (124, .lload 8, 2), (126, .bipush 27, 2), (128, .lushr, 1), (129, .lxor, 1), (130, .ldc2_w 761, 3), (133, .lmul, 1), (134, .lstore 8, 2), (136, .lload 8, 2), (138, .lload 8, 2), (140, .bipush 31, 2), (142, .lushr, 1), (143, .lxor, 1), (144, .lstore 8, 2), (146, .iload 6, 2)]
noncomputable def xi_411_5 : XIs := [(148, .lload 8, 2), (150, .bipush 33, 2), (152, .lushr, 1), (153, .ldc2_w 588, 3), (156, .lrem, 1), (157, .iload_n 2, 1), (158, .i2l, 1), (159, .lcmp, 1), (160, .ifCond .ge 7, 3), (163, .iconst 1, 1), (164, .goto 4, 3), (167, .iconst 0, 1), (168, .iadd, 1), (169, .istore 6, 2), (171, .iinc 7 1, 3), (174, .goto (-95), 3)]
noncomputable def xi_411_6 : XIs := [(177, .aload_n 0, 1), (178, .dup, 1), (179, .getfield 732, 3), (182, .iload 5, 2), (184, .iadd, 1), (185, .putfield 732, 3), (188, .aload_n 0, 1), (189, .dup, 1), (190, .getfield 735, 3), (193, .iload 6, 2), (195, .iadd, 1), (196, .putfield 735, 3), (199, .iload 6, 2), (201, .istore 5, 2), (203, .goto (-145), 3), (206, .return_, 1)]
set_option maxRecDepth 100000 in
theorem xi_w411 : xi_ok cX12_send (xi_411_0 ++ (xi_411_1 ++ (xi_411_2 ++ (xi_411_3 ++ (xi_411_4 ++ (xi_411_5 ++ (xi_411_6))))))) = true := dl_all _ _ (by decide +kernel)
theorem xi_ok411_0 : xi_ok cX12_send xi_411_0 = true := (xi_ap xi_w411).1
theorem xi_r411_1 : xi_ok cX12_send (xi_411_1 ++ (xi_411_2 ++ (xi_411_3 ++ (xi_411_4 ++ (xi_411_5 ++ (xi_411_6)))))) = true := (xi_ap xi_w411).2
theorem xi_ok411_1 : xi_ok cX12_send xi_411_1 = true := (xi_ap xi_r411_1).1
theorem xi_r411_2 : xi_ok cX12_send (xi_411_2 ++ (xi_411_3 ++ (xi_411_4 ++ (xi_411_5 ++ (xi_411_6))))) = true := (xi_ap xi_r411_1).2
theorem xi_ok411_2 : xi_ok cX12_send xi_411_2 = true := (xi_ap xi_r411_2).1
theorem xi_r411_3 : xi_ok cX12_send (xi_411_3 ++ (xi_411_4 ++ (xi_411_5 ++ (xi_411_6)))) = true := (xi_ap xi_r411_2).2
theorem xi_ok411_3 : xi_ok cX12_send xi_411_3 = true := (xi_ap xi_r411_3).1
theorem xi_r411_4 : xi_ok cX12_send (xi_411_4 ++ (xi_411_5 ++ (xi_411_6))) = true := (xi_ap xi_r411_3).2
theorem xi_ok411_4 : xi_ok cX12_send xi_411_4 = true := (xi_ap xi_r411_4).1
theorem xi_r411_5 : xi_ok cX12_send (xi_411_5 ++ (xi_411_6)) = true := (xi_ap xi_r411_4).2
theorem xi_ok411_5 : xi_ok cX12_send xi_411_5 = true := (xi_ap xi_r411_5).1
theorem xi_r411_6 : xi_ok cX12_send (xi_411_6) = true := (xi_ap xi_r411_5).2
theorem xi_ok411_6 : xi_ok cX12_send xi_411_6 = true := xi_r411_6
noncomputable def xi_411 (pc : Nat) : XIs := cond (Nat.blt pc 92) (cond (Nat.blt pc 29) (xi_411_0) (cond (Nat.blt pc 64) (xi_411_1) (xi_411_2))) (cond (Nat.blt pc 148) (cond (Nat.blt pc 120) (xi_411_3) (xi_411_4)) (cond (Nat.blt pc 177) (xi_411_5) (xi_411_6)))
theorem xi_ok411 (pc : Nat) : xi_ok cX12_send (xi_411 pc) = true := xi_c (xi_c (xi_ok411_0) (xi_c (xi_ok411_1) (xi_ok411_2))) (xi_c (xi_c (xi_ok411_3) (xi_ok411_4)) (xi_c (xi_ok411_5) (xi_ok411_6)))
noncomputable def xi_412_0 : XIs := [(0, .aload_n 0, 1), (1, .iload_n 1, 1), (2, .ifCond .lt 15, 3), (5, .iload_n 1, 1), (6, .aload_n 0, 1), (7, .getfield 729, 3), (10, .if_icmp .ge 7, 3), (13, .iconst 1, 1), (14, .goto 4, 3), (17, .iconst 0, 1), (18, .invokevirtual 334, 3), (21, .ifCond .eq 7, 3), (24, .lconst 0, 1), (25, .goto 9, 3), (28, .aload_n 0, 1), (29, .getfield 263, 3)]
noncomputable def xi_412_1 : XIs := [(32, .iload_n 1, 1), (33, .laload, 1), (34, .lreturn, 1)]
set_option maxRecDepth 100000 in
theorem xi_w412 : xi_ok cX12_state (xi_412_0 ++ (xi_412_1)) = true := dl_all _ _ (by decide +kernel)
theorem xi_ok412_0 : xi_ok cX12_state xi_412_0 = true := (xi_ap xi_w412).1
theorem xi_r412_1 : xi_ok cX12_state (xi_412_1) = true := (xi_ap xi_w412).2
theorem xi_ok412_1 : xi_ok cX12_state xi_412_1 = true := xi_r412_1
noncomputable def xi_412 (pc : Nat) : XIs := cond (Nat.blt pc 32) (xi_412_0) (xi_412_1)
theorem xi_ok412 (pc : Nat) : xi_ok cX12_state (xi_412 pc) = true := xi_c (xi_ok412_0) (xi_ok412_1)
noncomputable def xi_413_0 : XIs := [(0, .aload_n 0, 1), (1, .iload_n 1, 1), (2, .i2l, 1), (3, .lconst 0, 1), (4, .ldc2_w 570, 3), (7, .invokestatic 308, 3), (10, .invokevirtual 334, 3), (13, .ifCond .eq 5, 3), (16, .iconst 0, 1), (17, .ireturn, 1), (18, .iload_n 1, 1), (19, .ifCond .ne 10, 3), (22, .aload_n 0, 1), (23, .getfield 732, 3), (26, .goto 19, 3), (29, .iload_n 1, 1)]
noncomputable def xi_413_1 : XIs := [(30, .iconst 1, 1), (31, .if_icmp .ne 10, 3), (34, .aload_n 0, 1), (35, .getfield 735, 3), (38, .goto 7, 3), (41, .aload_n 0, 1), (42, .getfield 738, 3), (45, .ireturn, 1)]
set_option maxRecDepth 100000 in
theorem xi_w413 : xi_ok cX12_letters (xi_413_0 ++ (xi_413_1)) = true := dl_all _ _ (by decide +kernel)
theorem xi_ok413_0 : xi_ok cX12_letters xi_413_0 = true := (xi_ap xi_w413).1
theorem xi_r413_1 : xi_ok cX12_letters (xi_413_1) = true := (xi_ap xi_w413).2
theorem xi_ok413_1 : xi_ok cX12_letters xi_413_1 = true := xi_r413_1
noncomputable def xi_413 (pc : Nat) : XIs := cond (Nat.blt pc 30) (xi_413_0) (xi_413_1)
theorem xi_ok413 (pc : Nat) : xi_ok cX12_letters (xi_413 pc) = true := xi_c (xi_ok413_0) (xi_ok413_1)
noncomputable def xi_414_0 : XIs := [(0, .iload_n 0, 1), (1, .iload_n 0, 1), (2, .iconst 1, 1), (3, .iushr, 1), (4, .ldc_w 265, 3), (7, .iand, 1), (8, .isub, 1), (9, .istore_n 0, 1), (10, .iload_n 0, 1), (11, .ldc_w 266, 3), (14, .iand, 1), (15, .iload_n 0, 1), (16, .iconst 2, 1), (17, .iushr, 1), (18, .ldc_w 266, 3), (21, .iand, 1)]
noncomputable def xi_414_1 : XIs := [(22, .iadd, 1), (23, .istore_n 0, 1), (24, .iload_n 0, 1), (25, .iload_n 0, 1), (26, .iconst 4, 1), (27, .iushr, 1), (28, .iadd, 1), (29, .ldc_w 267, 3), (32, .iand, 1), (33, .istore_n 0, 1), (34, .iload_n 0, 1), (35, .iload_n 0, 1), (36, .bipush 8, 2), (38, .iushr, 1), (39, .iadd, 1), (40, .istore_n 0, 1)]
noncomputable def xi_414_2 : XIs := [(41, .iload_n 0, 1), (42, .iload_n 0, 1), (43, .bipush 16, 2), (45, .iushr, 1), (46, .iadd, 1), (47, .istore_n 0, 1), (48, .iload_n 0, 1), (49, .bipush 63, 2), (51, .iand, 1), (52, .ireturn, 1)]
set_option maxRecDepth 100000 in
theorem xi_w414 : xi_ok cJ6_bitCount_0f7a4 (xi_414_0 ++ (xi_414_1 ++ (xi_414_2))) = true := dl_all _ _ (by decide +kernel)
theorem xi_ok414_0 : xi_ok cJ6_bitCount_0f7a4 xi_414_0 = true := (xi_ap xi_w414).1
theorem xi_r414_1 : xi_ok cJ6_bitCount_0f7a4 (xi_414_1 ++ (xi_414_2)) = true := (xi_ap xi_w414).2
theorem xi_ok414_1 : xi_ok cJ6_bitCount_0f7a4 xi_414_1 = true := (xi_ap xi_r414_1).1
theorem xi_r414_2 : xi_ok cJ6_bitCount_0f7a4 (xi_414_2) = true := (xi_ap xi_r414_1).2
theorem xi_ok414_2 : xi_ok cJ6_bitCount_0f7a4 xi_414_2 = true := xi_r414_2
noncomputable def xi_414 (pc : Nat) : XIs := cond (Nat.blt pc 22) (xi_414_0) (cond (Nat.blt pc 41) (xi_414_1) (xi_414_2))
theorem xi_ok414 (pc : Nat) : xi_ok cJ6_bitCount_0f7a4 (xi_414 pc) = true := xi_c (xi_ok414_0) (xi_c (xi_ok414_1) (xi_ok414_2))
noncomputable def xi_415_0 : XIs := [(0, .lload_n 0, 1), (1, .lload_n 0, 1), (2, .iconst 1, 1), (3, .lushr, 1), (4, .ldc2_w 314, 3), (7, .land, 1), (8, .lsub, 1), (9, .lstore_n 0, 1), (10, .lload_n 0, 1), (11, .ldc2_w 316, 3), (14, .land, 1), (15, .lload_n 0, 1), (16, .iconst 2, 1), (17, .lushr, 1), (18, .ldc2_w 316, 3), (21, .land, 1)]
noncomputable def xi_415_1 : XIs := [(22, .ladd, 1), (23, .lstore_n 0, 1), (24, .lload_n 0, 1), (25, .lload_n 0, 1), (26, .iconst 4, 1), (27, .lushr, 1), (28, .ladd, 1), (29, .ldc2_w 318, 3), (32, .land, 1), (33, .lstore_n 0, 1), (34, .lload_n 0, 1), (35, .lload_n 0, 1), (36, .bipush 8, 2), (38, .lushr, 1), (39, .ladd, 1), (40, .lstore_n 0, 1)]
noncomputable def xi_415_2 : XIs := [(41, .lload_n 0, 1), (42, .lload_n 0, 1), (43, .bipush 16, 2), (45, .lushr, 1), (46, .ladd, 1), (47, .lstore_n 0, 1), (48, .lload_n 0, 1), (49, .lload_n 0, 1), (50, .bipush 32, 2), (52, .lushr, 1), (53, .ladd, 1), (54, .lstore_n 0, 1), (55, .lload_n 0, 1), (56, .l2i, 1), (57, .bipush 127, 2), (59, .iand, 1)]
noncomputable def xi_415_3 : XIs := [(60, .ireturn, 1)]
set_option maxRecDepth 100000 in
theorem xi_w415 : xi_ok cJ13_bitCount_95d88 (xi_415_0 ++ (xi_415_1 ++ (xi_415_2 ++ (xi_415_3)))) = true := dl_all _ _ (by decide +kernel)
theorem xi_ok415_0 : xi_ok cJ13_bitCount_95d88 xi_415_0 = true := (xi_ap xi_w415).1
theorem xi_r415_1 : xi_ok cJ13_bitCount_95d88 (xi_415_1 ++ (xi_415_2 ++ (xi_415_3))) = true := (xi_ap xi_w415).2
theorem xi_ok415_1 : xi_ok cJ13_bitCount_95d88 xi_415_1 = true := (xi_ap xi_r415_1).1
theorem xi_r415_2 : xi_ok cJ13_bitCount_95d88 (xi_415_2 ++ (xi_415_3)) = true := (xi_ap xi_r415_1).2
theorem xi_ok415_2 : xi_ok cJ13_bitCount_95d88 xi_415_2 = true := (xi_ap xi_r415_2).1
theorem xi_r415_3 : xi_ok cJ13_bitCount_95d88 (xi_415_3) = true := (xi_ap xi_r415_2).2
theorem xi_ok415_3 : xi_ok cJ13_bitCount_95d88 xi_415_3 = true := xi_r415_3
noncomputable def xi_415 (pc : Nat) : XIs := cond (Nat.blt pc 41) (cond (Nat.blt pc 22) (xi_415_0) (xi_415_1)) (cond (Nat.blt pc 60) (xi_415_2) (xi_415_3))
theorem xi_ok415 (pc : Nat) : xi_ok cJ13_bitCount_95d88 (xi_415 pc) = true := xi_c (xi_c (xi_ok415_0) (xi_ok415_1)) (xi_c (xi_ok415_2) (xi_ok415_3))
noncomputable def xi_416_0 : XIs := [(0, .iconst 0, 1), (1, .istore_n 3, 1), (2, .aload_n 0, 1), (3, .arraylength, 1), (4, .istore 4, 2), (6, .iload_n 3, 1), (7, .iload 4, 2), (9, .if_icmp .ge 13, 3), (12, .aload_n 0, 1), (13, .iload_n 3, 1), (14, .lload_n 1, 1), (15, .lastore, 1), (16, .iinc 3 1, 3), (19, .goto (-13), 3), (22, .return_, 1)]
set_option maxRecDepth 100000 in
theorem xi_w416 : xi_ok cJ7_fill_d0a16 (xi_416_0) = true := dl_all _ _ (by decide +kernel)
theorem xi_ok416_0 : xi_ok cJ7_fill_d0a16 xi_416_0 = true := xi_w416
noncomputable def xi_416 (pc : Nat) : XIs := xi_416_0
theorem xi_ok416 (pc : Nat) : xi_ok cJ7_fill_d0a16 (xi_416 pc) = true := xi_ok416_0
noncomputable def xi_417_0 : XIs := [(0, .iconst 0, 1), (1, .istore_n 2, 1), (2, .aload_n 0, 1), (3, .arraylength, 1), (4, .istore_n 3, 1), (5, .iload_n 2, 1), (6, .iload_n 3, 1), (7, .if_icmp .ge 13, 3), (10, .aload_n 0, 1), (11, .iload_n 2, 1), (12, .iload_n 1, 1), (13, .iastore, 1), (14, .iinc 2 1, 3), (17, .goto (-12), 3), (20, .return_, 1)]
set_option maxRecDepth 100000 in
theorem xi_w417 : xi_ok cJ7_fill_53178 (xi_417_0) = true := dl_all _ _ (by decide +kernel)
theorem xi_ok417_0 : xi_ok cJ7_fill_53178 xi_417_0 = true := xi_w417
noncomputable def xi_417 (pc : Nat) : XIs := xi_417_0
theorem xi_ok417 (pc : Nat) : xi_ok cJ7_fill_53178 (xi_417 pc) = true := xi_ok417_0
noncomputable def xi_418_0 : XIs := [(0, .lload_n 0, 1), (1, .lload_n 2, 1), (2, .ldiv, 1), (3, .lstore 4, 2), (5, .lload_n 0, 1), (6, .lload_n 2, 1), (7, .lxor, 1), (8, .lconst 0, 1), (9, .lcmp, 1), (10, .ifCond .ge 17, 3), (13, .lload 4, 2), (15, .lload_n 2, 1), (16, .lmul, 1), (17, .lload_n 0, 1), (18, .lcmp, 1), (19, .ifCond .eq 8, 3)]
noncomputable def xi_418_1 : XIs := [(22, .lload 4, 2), (24, .lconst 1, 1), (25, .lsub, 1), (26, .lreturn, 1), (27, .lload 4, 2), (29, .lreturn, 1)]
set_option maxRecDepth 100000 in
theorem xi_w418 : xi_ok cJ9_floorDiv_f86c9 (xi_418_0 ++ (xi_418_1)) = true := dl_all _ _ (by decide +kernel)
theorem xi_ok418_0 : xi_ok cJ9_floorDiv_f86c9 xi_418_0 = true := (xi_ap xi_w418).1
theorem xi_r418_1 : xi_ok cJ9_floorDiv_f86c9 (xi_418_1) = true := (xi_ap xi_w418).2
theorem xi_ok418_1 : xi_ok cJ9_floorDiv_f86c9 xi_418_1 = true := xi_r418_1
noncomputable def xi_418 (pc : Nat) : XIs := cond (Nat.blt pc 22) (xi_418_0) (xi_418_1)
theorem xi_ok418 (pc : Nat) : xi_ok cJ9_floorDiv_f86c9 (xi_418 pc) = true := xi_c (xi_ok418_0) (xi_ok418_1)
noncomputable def xi_419_0 : XIs := [(0, .lload_n 0, 1), (1, .lload_n 2, 1), (2, .lrem, 1), (3, .lstore 4, 2), (5, .lload_n 0, 1), (6, .lload_n 2, 1), (7, .lxor, 1), (8, .lconst 0, 1), (9, .lcmp, 1), (10, .ifCond .ge 15, 3), (13, .lload 4, 2), (15, .lconst 0, 1), (16, .lcmp, 1), (17, .ifCond .eq 8, 3), (20, .lload 4, 2), (22, .lload_n 2, 1)]
noncomputable def xi_419_1 : XIs := [(23, .ladd, 1), (24, .lreturn, 1), (25, .lload 4, 2), (27, .lreturn, 1)]
set_option maxRecDepth 100000 in
theorem xi_w419 : xi_ok cJ9_floorMod_f86c9 (xi_419_0 ++ (xi_419_1)) = true := dl_all _ _ (by decide +kernel)
theorem xi_ok419_0 : xi_ok cJ9_floorMod_f86c9 xi_419_0 = true := (xi_ap xi_w419).1
theorem xi_r419_1 : xi_ok cJ9_floorMod_f86c9 (xi_419_1) = true := (xi_ap xi_w419).2
theorem xi_ok419_1 : xi_ok cJ9_floorMod_f86c9 xi_419_1 = true := xi_r419_1
noncomputable def xi_419 (pc : Nat) : XIs := cond (Nat.blt pc 23) (xi_419_0) (xi_419_1)
theorem xi_ok419 (pc : Nat) : xi_ok cJ9_floorMod_f86c9 (xi_419 pc) = true := xi_c (xi_ok419_0) (xi_ok419_1)
noncomputable def xi_420_0 : XIs := [(0, .iload_n 0, 1), (1, .ifCond .ge 8, 3), (4, .iload_n 0, 1), (5, .ineg, 1), (6, .goto 4, 3), (9, .iload_n 0, 1), (10, .ireturn, 1)]
set_option maxRecDepth 100000 in
theorem xi_w420 : xi_ok cJ9_abs_0f7a4 (xi_420_0) = true := dl_all _ _ (by decide +kernel)
theorem xi_ok420_0 : xi_ok cJ9_abs_0f7a4 xi_420_0 = true := xi_w420
noncomputable def xi_420 (pc : Nat) : XIs := xi_420_0
theorem xi_ok420 (pc : Nat) : xi_ok cJ9_abs_0f7a4 (xi_420 pc) = true := xi_ok420_0
noncomputable def xi_421_0 : XIs := [(0, .lload_n 0, 1), (1, .lconst 0, 1), (2, .lcmp, 1), (3, .ifCond .ge 8, 3), (6, .lload_n 0, 1), (7, .lneg, 1), (8, .goto 4, 3), (11, .lload_n 0, 1), (12, .lreturn, 1)]
set_option maxRecDepth 100000 in
theorem xi_w421 : xi_ok cJ9_abs_067f4 (xi_421_0) = true := dl_all _ _ (by decide +kernel)
theorem xi_ok421_0 : xi_ok cJ9_abs_067f4 xi_421_0 = true := xi_w421
noncomputable def xi_421 (pc : Nat) : XIs := xi_421_0
theorem xi_ok421 (pc : Nat) : xi_ok cJ9_abs_067f4 (xi_421 pc) = true := xi_ok421_0
noncomputable def xi_422_0 : XIs := [(0, .iload_n 0, 1), (1, .iload_n 1, 1), (2, .if_icmp .lt 7, 3), (5, .iload_n 0, 1), (6, .goto 4, 3), (9, .iload_n 1, 1), (10, .ireturn, 1)]
set_option maxRecDepth 100000 in
theorem xi_w422 : xi_ok cJ9_max_7cf53 (xi_422_0) = true := dl_all _ _ (by decide +kernel)
theorem xi_ok422_0 : xi_ok cJ9_max_7cf53 xi_422_0 = true := xi_w422
noncomputable def xi_422 (pc : Nat) : XIs := xi_422_0
theorem xi_ok422 (pc : Nat) : xi_ok cJ9_max_7cf53 (xi_422 pc) = true := xi_ok422_0
noncomputable def xi_423_0 : XIs := [(0, .lload_n 0, 1), (1, .lload_n 2, 1), (2, .lcmp, 1), (3, .ifCond .lt 7, 3), (6, .lload_n 0, 1), (7, .goto 4, 3), (10, .lload_n 2, 1), (11, .lreturn, 1)]
set_option maxRecDepth 100000 in
theorem xi_w423 : xi_ok cJ9_max_f86c9 (xi_423_0) = true := dl_all _ _ (by decide +kernel)
theorem xi_ok423_0 : xi_ok cJ9_max_f86c9 xi_423_0 = true := xi_w423
noncomputable def xi_423 (pc : Nat) : XIs := xi_423_0
theorem xi_ok423 (pc : Nat) : xi_ok cJ9_max_f86c9 (xi_423 pc) = true := xi_ok423_0
noncomputable def xi_424_0 : XIs := [(0, .iload_n 0, 1), (1, .iload_n 1, 1), (2, .if_icmp .gt 7, 3), (5, .iload_n 0, 1), (6, .goto 4, 3), (9, .iload_n 1, 1), (10, .ireturn, 1)]
set_option maxRecDepth 100000 in
theorem xi_w424 : xi_ok cJ9_min_7cf53 (xi_424_0) = true := dl_all _ _ (by decide +kernel)
theorem xi_ok424_0 : xi_ok cJ9_min_7cf53 xi_424_0 = true := xi_w424
noncomputable def xi_424 (pc : Nat) : XIs := xi_424_0
theorem xi_ok424 (pc : Nat) : xi_ok cJ9_min_7cf53 (xi_424 pc) = true := xi_ok424_0
noncomputable def xi_425_0 : XIs := [(0, .lload_n 0, 1), (1, .lload_n 2, 1), (2, .lcmp, 1), (3, .ifCond .gt 7, 3), (6, .lload_n 0, 1), (7, .goto 4, 3), (10, .lload_n 2, 1), (11, .lreturn, 1)]
set_option maxRecDepth 100000 in
theorem xi_w425 : xi_ok cJ9_min_f86c9 (xi_425_0) = true := dl_all _ _ (by decide +kernel)
theorem xi_ok425_0 : xi_ok cJ9_min_f86c9 xi_425_0 = true := xi_w425
noncomputable def xi_425 (pc : Nat) : XIs := xi_425_0
theorem xi_ok425 (pc : Nat) : xi_ok cJ9_min_f86c9 (xi_425 pc) = true := xi_ok425_0
noncomputable def xi_426_0 : XIs := [(0, .iload_n 1, 1), (1, .aload_n 0, 1), (2, .arraylength, 1), (3, .if_icmp .ne 11, 3), (6, .aload_n 0, 1), (7, .invokevirtual 316, 3), (10, .checkcast 317, 3), (13, .areturn, 1), (14, .iload_n 1, 1), (15, .newarray .int, 2), (17, .astore_n 2, 1), (18, .aload_n 0, 1), (19, .iconst 0, 1), (20, .aload_n 2, 1), (21, .iconst 0, 1), (22, .aload_n 0, 1)]
noncomputable def xi_426_1 : XIs := [(23, .arraylength, 1), (24, .iload_n 1, 1), (25, .invokestatic 304, 3), (28, .invokestatic 150, 3), (31, .aload_n 2, 1), (32, .areturn, 1)]
set_option maxRecDepth 100000 in
theorem xi_w426 : xi_ok cJ7_copyOf_59c91 (xi_426_0 ++ (xi_426_1)) = true := dl_all _ _ (by decide +kernel)
theorem xi_ok426_0 : xi_ok cJ7_copyOf_59c91 xi_426_0 = true := (xi_ap xi_w426).1
theorem xi_r426_1 : xi_ok cJ7_copyOf_59c91 (xi_426_1) = true := (xi_ap xi_w426).2
theorem xi_ok426_1 : xi_ok cJ7_copyOf_59c91 xi_426_1 = true := xi_r426_1
noncomputable def xi_426 (pc : Nat) : XIs := cond (Nat.blt pc 23) (xi_426_0) (xi_426_1)
theorem xi_ok426 (pc : Nat) : xi_ok cJ7_copyOf_59c91 (xi_426 pc) = true := xi_c (xi_ok426_0) (xi_ok426_1)
noncomputable def xi_427_0 : XIs := [(0, .aload_n 0, 1), (1, .getfield 9, 3), (4, .arraylength, 1), (5, .aload_n 0, 1), (6, .invokevirtual 335, 3), (9, .ishr, 1), (10, .ireturn, 1)]
set_option maxRecDepth 100000 in
theorem xi_w427 : xi_ok cJ0_length_8abf5 (xi_427_0) = true := dl_all _ _ (by decide +kernel)
theorem xi_ok427_0 : xi_ok cJ0_length_8abf5 xi_427_0 = true := xi_w427
noncomputable def xi_427 (pc : Nat) : XIs := xi_427_0
theorem xi_ok427 (pc : Nat) : xi_ok cJ0_length_8abf5 (xi_427 pc) = true := xi_ok427_0
noncomputable def xi_428_0 : XIs := [(0, .aload_n 0, 1), (1, .getfield 9, 3), (4, .arraylength, 1), (5, .ifCond .ne 7, 3), (8, .iconst 1, 1), (9, .goto 4, 3), (12, .iconst 0, 1), (13, .ireturn, 1)]
set_option maxRecDepth 100000 in
theorem xi_w428 : xi_ok cJ0_isEmpty_aae02 (xi_428_0) = true := dl_all _ _ (by decide +kernel)
theorem xi_ok428_0 : xi_ok cJ0_isEmpty_aae02 xi_428_0 = true := xi_w428
noncomputable def xi_428 (pc : Nat) : XIs := xi_428_0
theorem xi_ok428 (pc : Nat) : xi_ok cJ0_isEmpty_aae02 (xi_428 pc) = true := xi_ok428_0
noncomputable def xi_429_0 : XIs := [(0, .aload_n 0, 1), (1, .invokevirtual 492, 3), (4, .ifCond .eq 12, 3), (7, .aload_n 0, 1), (8, .getfield 9, 3), (11, .iload_n 1, 1), (12, .invokestatic 495, 3), (15, .ireturn, 1), (16, .aload_n 0, 1), (17, .getfield 9, 3), (20, .iload_n 1, 1), (21, .invokestatic 498, 3), (24, .ireturn, 1)]
set_option maxRecDepth 100000 in
theorem xi_w429 : xi_ok cJ0_charAt_5068e (xi_429_0) = true := dl_all _ _ (by decide +kernel)
theorem xi_ok429_0 : xi_ok cJ0_charAt_5068e xi_429_0 = true := xi_w429
noncomputable def xi_429 (pc : Nat) : XIs := xi_429_0
theorem xi_ok429 (pc : Nat) : xi_ok cJ0_charAt_5068e (xi_429 pc) = true := xi_ok429_0
noncomputable def xi_430_0 : XIs := [(0, .aload_n 0, 1), (1, .iload_n 1, 1), (2, .iconst 0, 1), (3, .invokevirtual 633, 3), (6, .ireturn, 1)]
set_option maxRecDepth 100000 in
theorem xi_w430 : xi_ok cJ0_indexOf_0f7a4 (xi_430_0) = true := dl_all _ _ (by decide +kernel)
theorem xi_ok430_0 : xi_ok cJ0_indexOf_0f7a4 xi_430_0 = true := xi_w430
noncomputable def xi_430 (pc : Nat) : XIs := xi_430_0
theorem xi_ok430 (pc : Nat) : xi_ok cJ0_indexOf_0f7a4 (xi_430 pc) = true := xi_ok430_0
noncomputable def xi_431_0 : XIs := [(0, .aload_n 0, 1), (1, .invokevirtual 492, 3), (4, .ifCond .eq 19, 3), (7, .aload_n 0, 1), (8, .getfield 9, 3), (11, .iload_n 1, 1), (12, .iload_n 2, 1), (13, .aload_n 0, 1), (14, .invokevirtual 505, 3), (17, .invokestatic 637, 3), (20, .goto 16, 3), (23, .aload_n 0, 1), (24, .getfield 9, 3), (27, .iload_n 1, 1), (28, .iload_n 2, 1), (29, .aload_n 0, 1)]
noncomputable def xi_431_1 : XIs := [(30, .invokevirtual 505, 3), (33, .invokestatic 640, 3), (36, .ireturn, 1)]
set_option maxRecDepth 100000 in
theorem xi_w431 : xi_ok cJ0_indexOf_7cf53 (xi_431_0 ++ (xi_431_1)) = true := dl_all _ _ (by decide +kernel)
theorem xi_ok431_0 : xi_ok cJ0_indexOf_7cf53 xi_431_0 = true := (xi_ap xi_w431).1
theorem xi_r431_1 : xi_ok cJ0_indexOf_7cf53 (xi_431_1) = true := (xi_ap xi_w431).2
theorem xi_ok431_1 : xi_ok cJ0_indexOf_7cf53 xi_431_1 = true := xi_r431_1
noncomputable def xi_431 (pc : Nat) : XIs := cond (Nat.blt pc 30) (xi_431_0) (xi_431_1)
theorem xi_ok431 (pc : Nat) : xi_ok cJ0_indexOf_7cf53 (xi_431 pc) = true := xi_c (xi_ok431_0) (xi_ok431_1)
noncomputable def xi_432_0 : XIs := [(0, .getstatic 38, 3), (3, .ifCond .eq 10, 3), (6, .aload_n 0, 1), (7, .getfield 15, 3), (10, .goto 4, 3), (13, .iconst 1, 1), (14, .ireturn, 1)]
set_option maxRecDepth 100000 in
theorem xi_w432 : xi_ok cJ0_coder_7d493 (xi_432_0) = true := dl_all _ _ (by decide +kernel)
theorem xi_ok432_0 : xi_ok cJ0_coder_7d493 xi_432_0 = true := xi_w432
noncomputable def xi_432 (pc : Nat) : XIs := xi_432_0
theorem xi_ok432 (pc : Nat) : xi_ok cJ0_coder_7d493 (xi_432 pc) = true := xi_ok432_0
noncomputable def xi_433_0 : XIs := [(0, .getstatic 38, 3), (3, .ifCond .eq 14, 3), (6, .aload_n 0, 1), (7, .getfield 15, 3), (10, .ifCond .ne 7, 3), (13, .iconst 1, 1), (14, .goto 4, 3), (17, .iconst 0, 1), (18, .ireturn, 1)]
set_option maxRecDepth 100000 in
theorem xi_w433 : xi_ok cJ0_isLatin1_aae02 (xi_433_0) = true := dl_all _ _ (by decide +kernel)
theorem xi_ok433_0 : xi_ok cJ0_isLatin1_aae02 xi_433_0 = true := xi_w433
noncomputable def xi_433 (pc : Nat) : XIs := xi_433_0
theorem xi_ok433 (pc : Nat) : xi_ok cJ0_isLatin1_aae02 (xi_433 pc) = true := xi_ok433_0
noncomputable def xi_434_0 : XIs := [(0, .iload_n 0, 1), (1, .iload_n 1, 1), (2, .getstatic 1053, 3), (5, .invokestatic 1059, 3), (8, .pop, 1), (9, .return_, 1)]
set_option maxRecDepth 100000 in
theorem xi_w434 : xi_ok cJ0_checkIndex_df160 (xi_434_0) = true := dl_all _ _ (by decide +kernel)
theorem xi_ok434_0 : xi_ok cJ0_checkIndex_df160 xi_434_0 = true := xi_w434
noncomputable def xi_434 (pc : Nat) : XIs := xi_434_0
theorem xi_ok434 (pc : Nat) : xi_ok cJ0_checkIndex_df160 (xi_434 pc) = true := xi_ok434_0
noncomputable def xi_435_0 : XIs := [(0, .iload_n 1, 1), (1, .aload_n 0, 1), (2, .arraylength, 1), (3, .invokestatic 9, 3), (6, .aload_n 0, 1), (7, .iload_n 1, 1), (8, .baload, 1), (9, .sipush 255, 3), (12, .iand, 1), (13, .i2c, 1), (14, .ireturn, 1)]
set_option maxRecDepth 100000 in
theorem xi_w435 : xi_ok cJ1_charAt_3b067 (xi_435_0) = true := dl_all _ _ (by decide +kernel)
theorem xi_ok435_0 : xi_ok cJ1_charAt_3b067 xi_435_0 = true := xi_w435
noncomputable def xi_435 (pc : Nat) : XIs := xi_435_0
theorem xi_ok435 (pc : Nat) : xi_ok cJ1_charAt_3b067 (xi_435 pc) = true := xi_ok435_0
noncomputable def xi_436_0 : XIs := [(0, .iload_n 0, 1), (1, .ifCond .lt 14, 3), (4, .iload_n 0, 1), (5, .sipush 255, 3), (8, .if_icmp .gt 7, 3), (11, .iconst 1, 1), (12, .goto 4, 3), (15, .iconst 0, 1), (16, .ireturn, 1)]
set_option maxRecDepth 100000 in
theorem xi_w436 : xi_ok cJ1_canEncode_9a6ad (xi_436_0) = true := dl_all _ _ (by decide +kernel)
theorem xi_ok436_0 : xi_ok cJ1_canEncode_9a6ad xi_436_0 = true := xi_w436
noncomputable def xi_436 (pc : Nat) : XIs := xi_436_0
theorem xi_ok436 (pc : Nat) : xi_ok cJ1_canEncode_9a6ad (xi_436 pc) = true := xi_ok436_0
noncomputable def xi_437_0 : XIs := [(0, .iload_n 1, 1), (1, .invokestatic 88, 3), (4, .ifCond .ne 5, 3), (7, .iconst (-1), 1), (8, .ireturn, 1), (9, .iload_n 2, 1), (10, .iconst 0, 1), (11, .invokestatic 92, 3), (14, .istore_n 2, 1), (15, .iload_n 3, 1), (16, .aload_n 0, 1), (17, .arraylength, 1), (18, .invokestatic 38, 3), (21, .istore_n 3, 1), (22, .iload_n 2, 1), (23, .iload_n 3, 1)]
noncomputable def xi_437_1 : XIs := [(24, .if_icmp .lt 5, 3), (27, .iconst (-1), 1), (28, .ireturn, 1), (29, .aload_n 0, 1), (30, .iload_n 1, 1), (31, .iload_n 2, 1), (32, .iload_n 3, 1), (33, .invokestatic 95, 3), (36, .ireturn, 1)]
set_option maxRecDepth 100000 in
theorem xi_w437 : xi_ok cJ1_indexOf_4cfef (xi_437_0 ++ (xi_437_1)) = true := dl_all _ _ (by decide +kernel)
theorem xi_ok437_0 : xi_ok cJ1_indexOf_4cfef xi_437_0 = true := (xi_ap xi_w437).1
theorem xi_r437_1 : xi_ok cJ1_indexOf_4cfef (xi_437_1) = true := (xi_ap xi_w437).2
theorem xi_ok437_1 : xi_ok cJ1_indexOf_4cfef xi_437_1 = true := xi_r437_1
noncomputable def xi_437 (pc : Nat) : XIs := cond (Nat.blt pc 24) (xi_437_0) (xi_437_1)
theorem xi_ok437 (pc : Nat) : xi_ok cJ1_indexOf_4cfef (xi_437 pc) = true := xi_c (xi_ok437_0) (xi_ok437_1)
noncomputable def xi_438_0 : XIs := [(0, .iload_n 1, 1), (1, .i2b, 1), (2, .istore 4, 2), (4, .iload_n 2, 1), (5, .istore 5, 2), (7, .iload 5, 2), (9, .iload_n 3, 1), (10, .if_icmp .ge 21, 3), (13, .aload_n 0, 1), (14, .iload 5, 2), (16, .baload, 1), (17, .iload 4, 2), (19, .if_icmp .ne 6, 3), (22, .iload 5, 2), (24, .ireturn, 1), (25, .iinc 5 1, 3)]
noncomputable def xi_438_1 : XIs := [(28, .goto (-21), 3), (31, .iconst (-1), 1), (32, .ireturn, 1)]
set_option maxRecDepth 100000 in
theorem xi_w438 : xi_ok cJ1_indexOfChar_4cfef (xi_438_0 ++ (xi_438_1)) = true := dl_all _ _ (by decide +kernel)
theorem xi_ok438_0 : xi_ok cJ1_indexOfChar_4cfef xi_438_0 = true := (xi_ap xi_w438).1
theorem xi_r438_1 : xi_ok cJ1_indexOfChar_4cfef (xi_438_1) = true := (xi_ap xi_w438).2
theorem xi_ok438_1 : xi_ok cJ1_indexOfChar_4cfef xi_438_1 = true := xi_r438_1
noncomputable def xi_438 (pc : Nat) : XIs := cond (Nat.blt pc 28) (xi_438_0) (xi_438_1)
theorem xi_ok438 (pc : Nat) : xi_ok cJ1_indexOfChar_4cfef (xi_438 pc) = true := xi_c (xi_ok438_0) (xi_ok438_1)
noncomputable def xi_439_0 : XIs := [(0, .iload_n 0, 1), (1, .ifCond .lt 8, 3), (4, .iload_n 0, 1), (5, .iload_n 1, 1), (6, .if_icmp .lt 10, 3), (9, .aload_n 2, 1), (10, .iload_n 0, 1), (11, .iload_n 1, 1), (12, .invokestatic 95, 3), (15, .athrow, 1), (16, .iload_n 0, 1), (17, .ireturn, 1)]
set_option maxRecDepth 100000 in
theorem xi_w439 : xi_ok cJ3_checkIndex_8e157 (xi_439_0) = true := dl_all _ _ (by decide +kernel)
theorem xi_ok439_0 : xi_ok cJ3_checkIndex_8e157 xi_439_0 = true := xi_w439
noncomputable def xi_439 (pc : Nat) : XIs := xi_439_0
theorem xi_ok439 (pc : Nat) : xi_ok cJ3_checkIndex_8e157 (xi_439 pc) = true := xi_ok439_0
