def xi_365_0 : XIs := [(0, .aload_n 0, 1), (1, .aload_n 0, 1), (2, .iload_n 1, 1), (3, .invokevirtual 476, 3), (6, .invokevirtual 334, 3), (9, .ifCond .eq 5, 3), (12, .iconst 0, 1), (13, .ireturn, 1), (14, .aload_n 0, 1), (15, .iload_n 1, 1), (16, .invokevirtual 340, 3), (19, .ifCond .ne 5, 3), (22, .iconst 0, 1), (23, .ireturn, 1), (24, .iconst 0, 1), (25, .istore_n 2, 1)]
set_option maxRecDepth 100000 in
theorem xi_ok365_0 : xi_ok cX12_span xi_365_0 = true := by decide +kernel
def xi_365_1 : XIs := [(26, .iload_n 2, 1), (27, .aload_n 0, 1), (28, .getfield 285, 3), (31, .if_icmp .ge 16, 3), (34, .aload_n 0, 1), (35, .getfield 166, 3), (38, .iload_n 2, 1), (39, .iload_n 2, 1), (40, .iastore, 1), (41, .iinc 2 1, 3), (44, .goto (-18), 3), (47, .aload_n 0, 1), (48, .aload_n 0, 1), (49, .getfield 288, 3), (52, .iload_n 1, 1), (53, .iadd, 1)]
set_option maxRecDepth 100000 in
theorem xi_ok365_1 : xi_ok cX12_span xi_365_1 = true := by decide +kernel
def xi_365_2 : XIs := [(54, .iload_n 1, 1), (55, .invokevirtual 565, 3), (58, .lstore_n 2, 1), (59, .iconst 0, 1), (60, .istore 4, 2), (62, .iload 4, 2), (64, .aload_n 0, 1), (65, .getfield 285, 3), (68, .if_icmp .ge 145, 3), (71, .iconst 0, 1), (72, .istore 5, 2), (74, .iload 5, 2), (76, .sipush 160, 3), (79, .if_icmp .ge 128, 3), (82, .aload_n 0, 1), (83, .iload 5, 2)]
set_option maxRecDepth 100000 in
theorem xi_ok365_2 : xi_ok cX12_span xi_365_2 = true := by decide +kernel
def xi_365_3 : XIs := [(85, .invokevirtual 340, 3), (88, .ifCond .eq 113, 3), (91, .aload_n 0, 1), (92, .aload_n 0, 1), (93, .getfield 288, 3), (96, .iload 5, 2), (98, .iadd, 1), (99, .iload 5, 2), (101, .invokevirtual 565, 3), (104, .lload_n 2, 1), (105, .lcmp, 1), (106, .ifCond .ge 95, 3), (109, .aload_n 0, 1), (110, .getfield 166, 3), (113, .aload_n 0, 1), (114, .getfield 20, 3)]
set_option maxRecDepth 100000 in
theorem xi_ok365_3 : xi_ok cX12_span xi_365_3 = true := by decide +kernel
def xi_365_4 : XIs := [(117, .aload_n 0, 1), (118, .getfield 288, 3), (121, .iload 5, 2), (123, .iadd, 1), (124, .iaload, 1), (125, .iaload, 1), (126, .istore 6, 2), (128, .aload_n 0, 1), (129, .getfield 166, 3), (132, .aload_n 0, 1), (133, .getfield 23, 3), (136, .aload_n 0, 1), (137, .getfield 288, 3), (140, .iload 5, 2), (142, .iadd, 1), (143, .iaload, 1)]
set_option maxRecDepth 100000 in
theorem xi_ok365_4 : xi_ok cX12_span xi_365_4 = true := by decide +kernel
def xi_365_5 : XIs := [(144, .iaload, 1), (145, .istore 7, 2), (147, .iload 6, 2), (149, .iload 7, 2), (151, .if_icmp .ge 8, 3), (154, .iload 6, 2), (156, .goto 5, 3), (159, .iload 7, 2), (161, .istore 8, 2), (163, .aload_n 0, 1), (164, .getfield 166, 3), (167, .aload_n 0, 1), (168, .getfield 20, 3), (171, .aload_n 0, 1), (172, .getfield 288, 3), (175, .iload 5, 2)]
set_option maxRecDepth 100000 in
theorem xi_ok365_5 : xi_ok cX12_span xi_365_5 = true := by decide +kernel
def xi_365_6 : XIs := [(177, .iadd, 1), (178, .iaload, 1), (179, .iload 8, 2), (181, .iastore, 1), (182, .aload_n 0, 1), (183, .getfield 166, 3), (186, .aload_n 0, 1), (187, .getfield 23, 3), (190, .aload_n 0, 1), (191, .getfield 288, 3), (194, .iload 5, 2), (196, .iadd, 1), (197, .iaload, 1), (198, .iload 8, 2), (200, .iastore, 1), (201, .iinc 5 1, 3)]
set_option maxRecDepth 100000 in
theorem xi_ok365_6 : xi_ok cX12_span xi_365_6 = true := by decide +kernel
def xi_365_7 : XIs := [(204, .goto (-130), 3), (207, .iinc 4 1, 3), (210, .goto (-148), 3), (213, .aload_n 0, 1), (214, .getfield 166, 3), (217, .aload_n 0, 1), (218, .getfield 20, 3), (221, .aload_n 0, 1), (222, .getfield 288, 3), (225, .iload_n 1, 1), (226, .iadd, 1), (227, .iaload, 1), (228, .iaload, 1), (229, .aload_n 0, 1), (230, .getfield 166, 3), (233, .aload_n 0, 1)]
set_option maxRecDepth 100000 in
theorem xi_ok365_7 : xi_ok cX12_span xi_365_7 = true := by decide +kernel
def xi_365_8 : XIs := [(234, .getfield 23, 3), (237, .aload_n 0, 1), (238, .getfield 288, 3), (241, .iload_n 1, 1), (242, .iadd, 1), (243, .iaload, 1), (244, .iaload, 1), (245, .if_icmp .eq 7, 3), (248, .iconst 1, 1), (249, .goto 4, 3), (252, .iconst 0, 1), (253, .ireturn, 1)]
set_option maxRecDepth 100000 in
theorem xi_ok365_8 : xi_ok cX12_span xi_365_8 = true := by decide +kernel
def xi_365 (pc : Nat) : XIs := cond (Nat.blt pc 117) (cond (Nat.blt pc 54) (cond (Nat.blt pc 26) (xi_365_0) (xi_365_1)) (cond (Nat.blt pc 85) (xi_365_2) (xi_365_3))) (cond (Nat.blt pc 177) (cond (Nat.blt pc 144) (xi_365_4) (xi_365_5)) (cond (Nat.blt pc 204) (xi_365_6) (cond (Nat.blt pc 234) (xi_365_7) (xi_365_8))))
theorem xi_ok365 (pc : Nat) : xi_ok cX12_span (xi_365 pc) = true := xi_c (xi_c (xi_c (xi_ok365_0) (xi_ok365_1)) (xi_c (xi_ok365_2) (xi_ok365_3))) (xi_c (xi_c (xi_ok365_4) (xi_ok365_5)) (xi_c (xi_ok365_6) (xi_c (xi_ok365_7) (xi_ok365_8))))
def xi_366_0 : XIs := [(0, .ldc2_w 568, 3), (3, .aload_n 0, 1), (4, .getfield 26, 3), (7, .iload_n 1, 1), (8, .iaload, 1), (9, .i2l, 1), (10, .ldc2_w 306, 3), (13, .ladd, 1), (14, .lmul, 1), (15, .iload_n 2, 1), (16, .i2l, 1), (17, .ladd, 1), (18, .lreturn, 1)]
set_option maxRecDepth 100000 in
theorem xi_ok366_0 : xi_ok cX12_orderOf xi_366_0 = true := by decide +kernel
def xi_366 (pc : Nat) : XIs := xi_366_0
theorem xi_ok366 (pc : Nat) : xi_ok cX12_orderOf (xi_366 pc) = true := xi_ok366_0
def xi_367_0 : XIs := [(0, .lconst 1, 1), (1, .lstore 4, 2), (3, .lload_n 0, 1), (4, .lstore 6, 2), (6, .lload_n 2, 1), (7, .lstore 8, 2), (9, .lload 8, 2), (11, .lconst 0, 1), (12, .lcmp, 1), (13, .ifCond .le 52, 3), (16, .lload 8, 2), (18, .ldc2_w 570, 3), (21, .lrem, 1), (22, .lconst 1, 1), (23, .lcmp, 1), (24, .ifCond .ne 15, 3)]
set_option maxRecDepth 100000 in
theorem xi_ok367_0 : xi_ok cX12_power xi_367_0 = true := by decide +kernel
def xi_367_1 : XIs := [(27, .lload 4, 2), (29, .lload 6, 2), (31, .lmul, 1), (32, .ldc2_w 572, 3), (35, .lrem, 1), (36, .goto 5, 3), (39, .lload 4, 2), (41, .lstore 4, 2), (43, .lload 6, 2), (45, .lload 6, 2), (47, .lmul, 1), (48, .ldc2_w 572, 3), (51, .lrem, 1), (52, .lstore 6, 2), (54, .lload 8, 2), (56, .ldc2_w 570, 3)]
set_option maxRecDepth 100000 in
theorem xi_ok367_1 : xi_ok cX12_power xi_367_1 = true := by decide +kernel
def xi_367_2 : XIs := [(59, .ldiv, 1), (60, .lstore 8, 2), (62, .goto (-53), 3), (65, .lload 4, 2), (67, .lreturn, 1)]
set_option maxRecDepth 100000 in
theorem xi_ok367_2 : xi_ok cX12_power xi_367_2 = true := by decide +kernel
def xi_367 (pc : Nat) : XIs := cond (Nat.blt pc 27) (xi_367_0) (cond (Nat.blt pc 59) (xi_367_1) (xi_367_2))
theorem xi_ok367 (pc : Nat) : xi_ok cX12_power (xi_367 pc) = true := xi_c (xi_ok367_0) (xi_c (xi_ok367_1) (xi_ok367_2))
def xi_368_0 : XIs := [(0, .aload_n 0, 1), (1, .iconst 0, 1), (2, .putfield 278, 3), (5, .aload_n 0, 1), (6, .getfield 285, 3), (9, .ifCond .ne 5, 3), (12, .iconst 0, 1), (13, .ireturn, 1), (14, .iconst 0, 1), (15, .istore_n 1, 1), (16, .iload_n 1, 1), (17, .sipush 1024, 3), (20, .if_icmp .ge 16, 3), (23, .aload_n 0, 1), (24, .getfield 169, 3), (27, .iload_n 1, 1)]
set_option maxRecDepth 100000 in
theorem xi_ok368_0 : xi_ok cX12_trees xi_368_0 = true := by decide +kernel
def xi_368_1 : XIs := [(28, .lconst 0, 1), (29, .lastore, 1), (30, .iinc 1 1, 3), (33, .goto (-17), 3), (36, .iconst 0, 1), (37, .istore_n 1, 1), (38, .iload_n 1, 1), (39, .sipush 160, 3), (42, .if_icmp .ge 101, 3), (45, .aload_n 0, 1), (46, .iload_n 1, 1), (47, .invokevirtual 340, 3), (50, .ifCond .eq 87, 3), (53, .aload_n 0, 1), (54, .getfield 20, 3), (57, .aload_n 0, 1)]
set_option maxRecDepth 100000 in
theorem xi_ok368_1 : xi_ok cX12_trees xi_368_1 = true := by decide +kernel
def xi_368_2 : XIs := [(58, .getfield 288, 3), (61, .iload_n 1, 1), (62, .iadd, 1), (63, .iaload, 1), (64, .istore_n 2, 1), (65, .aload_n 0, 1), (66, .getfield 23, 3), (69, .aload_n 0, 1), (70, .getfield 288, 3), (73, .iload_n 1, 1), (74, .iadd, 1), (75, .iaload, 1), (76, .istore_n 3, 1), (77, .aload_n 0, 1), (78, .getfield 169, 3), (81, .bipush 33, 2)]
set_option maxRecDepth 100000 in
theorem xi_ok368_2 : xi_ok cX12_trees xi_368_2 = true := by decide +kernel
def xi_368_3 : XIs := [(83, .iload_n 2, 1), (84, .imul, 1), (85, .dup2, 1), (86, .laload, 1), (87, .lconst 1, 1), (88, .ladd, 1), (89, .lastore, 1), (90, .aload_n 0, 1), (91, .getfield 169, 3), (94, .bipush 33, 2), (96, .iload_n 3, 1), (97, .imul, 1), (98, .dup2, 1), (99, .laload, 1), (100, .lconst 1, 1), (101, .ladd, 1)]
set_option maxRecDepth 100000 in
theorem xi_ok368_3 : xi_ok cX12_trees xi_368_3 = true := by decide +kernel
def xi_368_4 : XIs := [(102, .lastore, 1), (103, .aload_n 0, 1), (104, .getfield 169, 3), (107, .bipush 32, 2), (109, .iload_n 2, 1), (110, .imul, 1), (111, .iload_n 3, 1), (112, .iadd, 1), (113, .dup2, 1), (114, .laload, 1), (115, .ldc2_w 574, 3), (118, .ladd, 1), (119, .lastore, 1), (120, .aload_n 0, 1), (121, .getfield 169, 3), (124, .bipush 32, 2)]
set_option maxRecDepth 100000 in
theorem xi_ok368_4 : xi_ok cX12_trees xi_368_4 = true := by decide +kernel
def xi_368_5 : XIs := [(126, .iload_n 3, 1), (127, .imul, 1), (128, .iload_n 2, 1), (129, .iadd, 1), (130, .dup2, 1), (131, .laload, 1), (132, .ldc2_w 574, 3), (135, .ladd, 1), (136, .lastore, 1), (137, .iinc 1 1, 3), (140, .goto (-102), 3), (143, .iconst 0, 1), (144, .istore_n 1, 1), (145, .iload_n 1, 1), (146, .sipush 1024, 3), (149, .if_icmp .ge 21, 3)]
set_option maxRecDepth 100000 in
theorem xi_ok368_5 : xi_ok cX12_trees xi_368_5 = true := by decide +kernel
def xi_368_6 : XIs := [(152, .aload_n 0, 1), (153, .getfield 169, 3), (156, .iload_n 1, 1), (157, .dup2, 1), (158, .laload, 1), (159, .ldc2_w 572, 3), (162, .lrem, 1), (163, .lastore, 1), (164, .iinc 1 1, 3), (167, .goto (-22), 3), (170, .lconst 1, 1), (171, .lstore_n 1, 1), (172, .iconst 1, 1), (173, .istore_n 3, 1), (174, .iload_n 3, 1), (175, .aload_n 0, 1)]
set_option maxRecDepth 100000 in
theorem xi_ok368_6 : xi_ok cX12_trees xi_368_6 = true := by decide +kernel
def xi_368_7 : XIs := [(176, .getfield 285, 3), (179, .if_icmp .ge 295, 3), (182, .iload_n 3, 1), (183, .istore 4, 2), (185, .iload 4, 2), (187, .aload_n 0, 1), (188, .getfield 285, 3), (191, .if_icmp .ge 26, 3), (194, .aload_n 0, 1), (195, .getfield 169, 3), (198, .bipush 32, 2), (200, .iload 4, 2), (202, .imul, 1), (203, .iload_n 3, 1), (204, .iadd, 1), (205, .laload, 1)]
set_option maxRecDepth 100000 in
theorem xi_ok368_7 : xi_ok cX12_trees xi_368_7 = true := by decide +kernel
def xi_368_8 : XIs := [(206, .lconst 0, 1), (207, .lcmp, 1), (208, .ifCond .ne 9, 3), (211, .iinc 4 1, 3), (214, .goto (-29), 3), (217, .iload 4, 2), (219, .aload_n 0, 1), (220, .getfield 285, 3), (223, .if_icmp .ne 5, 3), (226, .iconst 0, 1), (227, .ireturn, 1), (228, .iconst 0, 1), (229, .istore 5, 2), (231, .iload 5, 2), (233, .aload_n 0, 1), (234, .getfield 285, 3)]
set_option maxRecDepth 100000 in
theorem xi_ok368_8 : xi_ok cX12_trees xi_368_8 = true := by decide +kernel
def xi_368_9 : XIs := [(237, .if_icmp .ge 69, 3), (240, .iload 4, 2), (242, .iload_n 3, 1), (243, .if_icmp .eq 63, 3), (246, .aload_n 0, 1), (247, .getfield 169, 3), (250, .bipush 32, 2), (252, .iload 4, 2), (254, .imul, 1), (255, .iload 5, 2), (257, .iadd, 1), (258, .laload, 1), (259, .lstore 6, 2), (261, .aload_n 0, 1), (262, .getfield 169, 3), (265, .bipush 32, 2)]
set_option maxRecDepth 100000 in
theorem xi_ok368_9 : xi_ok cX12_trees xi_368_9 = true := by decide +kernel
def xi_368_10 : XIs := [(267, .iload 4, 2), (269, .imul, 1), (270, .iload 5, 2), (272, .iadd, 1), (273, .aload_n 0, 1), (274, .getfield 169, 3), (277, .bipush 32, 2), (279, .iload_n 3, 1), (280, .imul, 1), (281, .iload 5, 2), (283, .iadd, 1), (284, .laload, 1), (285, .lastore, 1), (286, .aload_n 0, 1), (287, .getfield 169, 3), (290, .bipush 32, 2)]
set_option maxRecDepth 100000 in
theorem xi_ok368_10 : xi_ok cX12_trees xi_368_10 = true := by decide +kernel
def xi_368_11 : XIs := [(292, .iload_n 3, 1), (293, .imul, 1), (294, .iload 5, 2), (296, .iadd, 1), (297, .lload 6, 2), (299, .lastore, 1), (300, .iinc 5 1, 3), (303, .goto (-72), 3), (306, .iload 4, 2), (308, .iload_n 3, 1), (309, .if_icmp .eq 15, 3), (312, .ldc2_w 572, 3), (315, .lload_n 1, 1), (316, .lsub, 1), (317, .ldc2_w 572, 3), (320, .lrem, 1)]
set_option maxRecDepth 100000 in
theorem xi_ok368_11 : xi_ok cX12_trees xi_368_11 = true := by decide +kernel
def xi_368_12 : XIs := [(321, .goto 4, 3), (324, .lload_n 1, 1), (325, .lstore_n 1, 1), (326, .lload_n 1, 1), (327, .aload_n 0, 1), (328, .getfield 169, 3), (331, .bipush 33, 2), (333, .iload_n 3, 1), (334, .imul, 1), (335, .laload, 1), (336, .lmul, 1), (337, .ldc2_w 572, 3), (340, .lrem, 1), (341, .lstore_n 1, 1), (342, .aload_n 0, 1), (343, .getfield 169, 3)]
set_option maxRecDepth 100000 in
theorem xi_ok368_12 : xi_ok cX12_trees xi_368_12 = true := by decide +kernel
def xi_368_13 : XIs := [(346, .bipush 33, 2), (348, .iload_n 3, 1), (349, .imul, 1), (350, .laload, 1), (351, .ldc2_w 576, 3), (354, .invokestatic 578, 3), (357, .lstore 5, 2), (359, .iload_n 3, 1), (360, .iconst 1, 1), (361, .iadd, 1), (362, .istore 7, 2), (364, .iload 7, 2), (366, .aload_n 0, 1), (367, .getfield 285, 3), (370, .if_icmp .ge 98, 3), (373, .aload_n 0, 1)]
set_option maxRecDepth 100000 in
theorem xi_ok368_13 : xi_ok cX12_trees xi_368_13 = true := by decide +kernel
def xi_368_14 : XIs := [(374, .getfield 169, 3), (377, .bipush 32, 2), (379, .iload 7, 2), (381, .imul, 1), (382, .iload_n 3, 1), (383, .iadd, 1), (384, .laload, 1), (385, .lload 5, 2), (387, .lmul, 1), (388, .ldc2_w 572, 3), (391, .lrem, 1), (392, .lstore 8, 2), (394, .iload_n 3, 1), (395, .istore 10, 2), (397, .iload 10, 2), (399, .aload_n 0, 1)]
set_option maxRecDepth 100000 in
theorem xi_ok368_14 : xi_ok cX12_trees xi_368_14 = true := by decide +kernel
def xi_368_15 : XIs := [(400, .getfield 285, 3), (403, .if_icmp .ge 59, 3), (406, .aload_n 0, 1), (407, .getfield 169, 3), (410, .bipush 32, 2), (412, .iload 7, 2), (414, .imul, 1), (415, .iload 10, 2), (417, .iadd, 1), (418, .aload_n 0, 1), (419, .getfield 169, 3), (422, .bipush 32, 2), (424, .iload 7, 2), (426, .imul, 1), (427, .iload 10, 2), (429, .iadd, 1)]
set_option maxRecDepth 100000 in
theorem xi_ok368_15 : xi_ok cX12_trees xi_368_15 = true := by decide +kernel
def xi_368_16 : XIs := [(430, .laload, 1), (431, .ldc2_w 572, 3), (434, .lload 8, 2), (436, .lsub, 1), (437, .aload_n 0, 1), (438, .getfield 169, 3), (441, .bipush 32, 2), (443, .iload_n 3, 1), (444, .imul, 1), (445, .iload 10, 2), (447, .iadd, 1), (448, .laload, 1), (449, .lmul, 1), (450, .ladd, 1), (451, .ldc2_w 572, 3), (454, .lrem, 1)]
set_option maxRecDepth 100000 in
theorem xi_ok368_16 : xi_ok cX12_trees xi_368_16 = true := by decide +kernel
def xi_368_17 : XIs := [(455, .lastore, 1), (456, .iinc 10 1, 3), (459, .goto (-62), 3), (462, .iinc 7 1, 3), (465, .goto (-101), 3), (468, .iinc 3 1, 3), (471, .goto (-297), 3), (474, .lload_n 1, 1), (475, .l2i, 1), (476, .ireturn, 1)]
set_option maxRecDepth 100000 in
theorem xi_ok368_17 : xi_ok cX12_trees xi_368_17 = true := by decide +kernel
def xi_368 (pc : Nat) : XIs := cond (Nat.blt pc 237) (cond (Nat.blt pc 102) (cond (Nat.blt pc 58) (cond (Nat.blt pc 28) (xi_368_0) (xi_368_1)) (cond (Nat.blt pc 83) (xi_368_2) (xi_368_3))) (cond (Nat.blt pc 152) (cond (Nat.blt pc 126) (xi_368_4) (xi_368_5)) (cond (Nat.blt pc 176) (xi_368_6) (cond (Nat.blt pc 206) (xi_368_7) (xi_368_8))))) (cond (Nat.blt pc 346) (cond (Nat.blt pc 292) (cond (Nat.blt pc 267) (xi_368_9) (xi_368_10)) (cond (Nat.blt pc 321) (xi_368_11) (xi_368_12))) (cond (Nat.blt pc 400) (cond (Nat.blt pc 374) (xi_368_13) (xi_368_14)) (cond (Nat.blt pc 430) (xi_368_15) (cond (Nat.blt pc 455) (xi_368_16) (xi_368_17)))))
theorem xi_ok368 (pc : Nat) : xi_ok cX12_trees (xi_368 pc) = true := xi_c (xi_c (xi_c (xi_c (xi_ok368_0) (xi_ok368_1)) (xi_c (xi_ok368_2) (xi_ok368_3))) (xi_c (xi_c (xi_ok368_4) (xi_ok368_5)) (xi_c (xi_ok368_6) (xi_c (xi_ok368_7) (xi_ok368_8))))) (xi_c (xi_c (xi_c (xi_ok368_9) (xi_ok368_10)) (xi_c (xi_ok368_11) (xi_ok368_12))) (xi_c (xi_c (xi_ok368_13) (xi_ok368_14)) (xi_c (xi_ok368_15) (xi_c (xi_ok368_16) (xi_ok368_17)))))
def xi_369_0 : XIs := [(0, .aload_n 0, 1), (1, .aload_n 0, 1), (2, .iload_n 1, 1), (3, .invokevirtual 349, 3), (6, .ifCond .eq 19, 3), (9, .iload_n 2, 1), (10, .i2l, 1), (11, .lconst 0, 1), (12, .ldc2_w 582, 3), (15, .invokestatic 308, 3), (18, .ifCond .eq 7, 3), (21, .iconst 1, 1), (22, .goto 4, 3), (25, .iconst 0, 1), (26, .invokevirtual 334, 3), (29, .ifCond .eq 5, 3)]
set_option maxRecDepth 100000 in
theorem xi_ok369_0 : xi_ok cX12_rank xi_369_0 = true := by decide +kernel
def xi_369_1 : XIs := [(32, .lconst 0, 1), (33, .lreturn, 1), (34, .iconst 0, 1), (35, .istore_n 3, 1), (36, .iload_n 3, 1), (37, .aload_n 0, 1), (38, .getfield 285, 3), (41, .if_icmp .ge 25, 3), (44, .aload_n 0, 1), (45, .getfield 172, 3), (48, .iload_n 3, 1), (49, .ldc2_w 584, 3), (52, .lastore, 1), (53, .aload_n 0, 1), (54, .getfield 178, 3), (57, .iload_n 3, 1)]
set_option maxRecDepth 100000 in
theorem xi_ok369_1 : xi_ok cX12_rank xi_369_1 = true := by decide +kernel
def xi_369_2 : XIs := [(58, .iconst 0, 1), (59, .iastore, 1), (60, .iinc 3 1, 3), (63, .goto (-27), 3), (66, .aload_n 0, 1), (67, .getfield 288, 3), (70, .istore_n 3, 1), (71, .iload_n 3, 1), (72, .aload_n 0, 1), (73, .getfield 288, 3), (76, .sipush 160, 3), (79, .iadd, 1), (80, .if_icmp .ge 33, 3), (83, .aload_n 0, 1), (84, .getfield 16, 3), (87, .iload_n 3, 1)]
set_option maxRecDepth 100000 in
theorem xi_ok369_2 : xi_ok cX12_rank xi_369_2 = true := by decide +kernel
def xi_369_3 : XIs := [(88, .baload, 1), (89, .ifCond .eq 18, 3), (92, .aload_n 0, 1), (93, .getfield 178, 3), (96, .aload_n 0, 1), (97, .getfield 20, 3), (100, .iload_n 3, 1), (101, .iaload, 1), (102, .dup2, 1), (103, .iaload, 1), (104, .iconst 1, 1), (105, .iadd, 1), (106, .iastore, 1), (107, .iinc 3 1, 3), (110, .goto (-39), 3), (113, .iconst 0, 1)]
set_option maxRecDepth 100000 in
theorem xi_ok369_3 : xi_ok cX12_rank xi_369_3 = true := by decide +kernel
def xi_369_4 : XIs := [(114, .istore_n 3, 1), (115, .iload_n 3, 1), (116, .iload_n 2, 1), (117, .if_icmp .ge 207, 3), (120, .lconst 0, 1), (121, .lstore 4, 2), (123, .iconst 0, 1), (124, .istore 6, 2), (126, .iload 6, 2), (128, .aload_n 0, 1), (129, .getfield 285, 3), (132, .if_icmp .ge 29, 3), (135, .lload 4, 2), (137, .aload_n 0, 1), (138, .getfield 172, 3), (141, .iload 6, 2)]
set_option maxRecDepth 100000 in
theorem xi_ok369_4 : xi_ok cX12_rank xi_369_4 = true := by decide +kernel
def xi_369_5 : XIs := [(143, .laload, 1), (144, .ladd, 1), (145, .lstore 4, 2), (147, .aload_n 0, 1), (148, .getfield 175, 3), (151, .iload 6, 2), (153, .lconst 0, 1), (154, .lastore, 1), (155, .iinc 6 1, 3), (158, .goto (-32), 3), (161, .aload_n 0, 1), (162, .getfield 288, 3), (165, .istore 6, 2), (167, .iload 6, 2), (169, .aload_n 0, 1), (170, .getfield 288, 3)]
set_option maxRecDepth 100000 in
theorem xi_ok369_5 : xi_ok cX12_rank xi_369_5 = true := by decide +kernel
def xi_369_6 : XIs := [(173, .sipush 160, 3), (176, .iadd, 1), (177, .if_icmp .ge 79, 3), (180, .aload_n 0, 1), (181, .getfield 16, 3), (184, .iload 6, 2), (186, .baload, 1), (187, .ifCond .eq 63, 3), (190, .aload_n 0, 1), (191, .getfield 172, 3), (194, .aload_n 0, 1), (195, .getfield 20, 3), (198, .iload 6, 2), (200, .iaload, 1), (201, .laload, 1), (202, .ldc2_w 586, 3)]
set_option maxRecDepth 100000 in
theorem xi_ok369_6 : xi_ok cX12_rank xi_369_6 = true := by decide +kernel
def xi_369_7 : XIs := [(205, .lmul, 1), (206, .ldc2_w 588, 3), (209, .aload_n 0, 1), (210, .getfield 178, 3), (213, .aload_n 0, 1), (214, .getfield 20, 3), (217, .iload 6, 2), (219, .iaload, 1), (220, .iaload, 1), (221, .i2l, 1), (222, .lmul, 1), (223, .ldiv, 1), (224, .lstore 7, 2), (226, .aload_n 0, 1), (227, .getfield 175, 3), (230, .aload_n 0, 1)]
set_option maxRecDepth 100000 in
theorem xi_ok369_7 : xi_ok cX12_rank xi_369_7 = true := by decide +kernel
def xi_369_8 : XIs := [(231, .getfield 23, 3), (234, .iload 6, 2), (236, .iaload, 1), (237, .dup2, 1), (238, .laload, 1), (239, .lload 7, 2), (241, .ladd, 1), (242, .lastore, 1), (243, .lload 4, 2), (245, .lload 7, 2), (247, .lsub, 1), (248, .lstore 4, 2), (250, .iinc 6 1, 3), (253, .goto (-86), 3), (256, .iconst 0, 1), (257, .istore 6, 2)]
set_option maxRecDepth 100000 in
theorem xi_ok369_8 : xi_ok cX12_rank xi_369_8 = true := by decide +kernel
def xi_369_9 : XIs := [(259, .iload 6, 2), (261, .aload_n 0, 1), (262, .getfield 285, 3), (265, .if_icmp .ge 53, 3), (268, .aload_n 0, 1), (269, .getfield 172, 3), (272, .iload 6, 2), (274, .aload_n 0, 1), (275, .getfield 175, 3), (278, .iload 6, 2), (280, .laload, 1), (281, .lload 4, 2), (283, .aload_n 0, 1), (284, .getfield 285, 3), (287, .i2l, 1), (288, .ldiv, 1)]
set_option maxRecDepth 100000 in
theorem xi_ok369_9 : xi_ok cX12_rank xi_369_9 = true := by decide +kernel
def xi_369_10 : XIs := [(289, .ladd, 1), (290, .iload 6, 2), (292, .i2l, 1), (293, .lload 4, 2), (295, .aload_n 0, 1), (296, .getfield 285, 3), (299, .i2l, 1), (300, .lrem, 1), (301, .lcmp, 1), (302, .ifCond .ge 7, 3), (305, .lconst 1, 1), (306, .goto 4, 3), (309, .lconst 0, 1), (310, .ladd, 1), (311, .lastore, 1), (312, .iinc 6 1, 3)]
set_option maxRecDepth 100000 in
theorem xi_ok369_10 : xi_ok cX12_rank xi_369_10 = true := by decide +kernel
def xi_369_11 : XIs := [(315, .goto (-56), 3), (318, .iinc 3 1, 3), (321, .goto (-206), 3), (324, .aload_n 0, 1), (325, .getfield 172, 3), (328, .iload_n 1, 1), (329, .laload, 1), (330, .lreturn, 1)]
set_option maxRecDepth 100000 in
theorem xi_ok369_11 : xi_ok cX12_rank xi_369_11 = true := by decide +kernel
def xi_369 (pc : Nat) : XIs := cond (Nat.blt pc 173) (cond (Nat.blt pc 88) (cond (Nat.blt pc 32) (xi_369_0) (cond (Nat.blt pc 58) (xi_369_1) (xi_369_2))) (cond (Nat.blt pc 114) (xi_369_3) (cond (Nat.blt pc 143) (xi_369_4) (xi_369_5)))) (cond (Nat.blt pc 259) (cond (Nat.blt pc 205) (xi_369_6) (cond (Nat.blt pc 231) (xi_369_7) (xi_369_8))) (cond (Nat.blt pc 289) (xi_369_9) (cond (Nat.blt pc 315) (xi_369_10) (xi_369_11))))
theorem xi_ok369 (pc : Nat) : xi_ok cX12_rank (xi_369 pc) = true := xi_c (xi_c (xi_c (xi_ok369_0) (xi_c (xi_ok369_1) (xi_ok369_2))) (xi_c (xi_ok369_3) (xi_c (xi_ok369_4) (xi_ok369_5)))) (xi_c (xi_c (xi_ok369_6) (xi_c (xi_ok369_7) (xi_ok369_8))) (xi_c (xi_ok369_9) (xi_c (xi_ok369_10) (xi_ok369_11))))
def xi_370_0 : XIs := [(0, .iconst 0, 1), (1, .istore 5, 2), (3, .iload 5, 2), (5, .aload_n 0, 1), (6, .getfield 285, 3), (9, .if_icmp .ge 40, 3), (12, .aload_n 3, 1), (13, .iload 5, 2), (15, .iload 5, 2), (17, .iload_n 1, 1), (18, .if_icmp .ne 7, 3), (21, .iconst 0, 1), (22, .goto 4, 3), (25, .iconst (-1), 1), (26, .iastore, 1), (27, .aload 4, 2)]
set_option maxRecDepth 100000 in
theorem xi_ok370_0 : xi_ok cX12_hop xi_370_0 = true := by decide +kernel
def xi_370_1 : XIs := [(29, .iload 5, 2), (31, .iload 5, 2), (33, .iload_n 1, 1), (34, .if_icmp .ne 7, 3), (37, .lconst 1, 1), (38, .goto 4, 3), (41, .lconst 0, 1), (42, .lastore, 1), (43, .iinc 5 1, 3), (46, .goto (-43), 3), (49, .iconst 0, 1), (50, .istore 5, 2), (52, .iload 5, 2), (54, .aload_n 0, 1), (55, .getfield 285, 3), (58, .if_icmp .ge 145, 3)]
set_option maxRecDepth 100000 in
theorem xi_ok370_1 : xi_ok cX12_hop xi_370_1 = true := by decide +kernel
def xi_370_2 : XIs := [(61, .aload_n 0, 1), (62, .getfield 288, 3), (65, .istore 6, 2), (67, .iload 6, 2), (69, .aload_n 0, 1), (70, .getfield 288, 3), (73, .sipush 160, 3), (76, .iadd, 1), (77, .if_icmp .ge 120, 3), (80, .iload_n 2, 1), (81, .ifCond .eq 13, 3), (84, .aload_n 0, 1), (85, .getfield 23, 3), (88, .iload 6, 2), (90, .iaload, 1), (91, .goto 10, 3)]
set_option maxRecDepth 100000 in
theorem xi_ok370_2 : xi_ok cX12_hop xi_370_2 = true := by decide +kernel
def xi_370_3 : XIs := [(94, .aload_n 0, 1), (95, .getfield 20, 3), (98, .iload 6, 2), (100, .iaload, 1), (101, .istore 7, 2), (103, .iload_n 2, 1), (104, .ifCond .eq 13, 3), (107, .aload_n 0, 1), (108, .getfield 20, 3), (111, .iload 6, 2), (113, .iaload, 1), (114, .goto 10, 3), (117, .aload_n 0, 1), (118, .getfield 23, 3), (121, .iload 6, 2), (123, .iaload, 1)]
set_option maxRecDepth 100000 in
theorem xi_ok370_3 : xi_ok cX12_hop xi_370_3 = true := by decide +kernel
def xi_370_4 : XIs := [(124, .istore 8, 2), (126, .aload_n 0, 1), (127, .getfield 16, 3), (130, .iload 6, 2), (132, .baload, 1), (133, .ifCond .eq 58, 3), (136, .aload_n 3, 1), (137, .iload 7, 2), (139, .iaload, 1), (140, .iload 5, 2), (142, .if_icmp .ne 49, 3), (145, .aload_n 3, 1), (146, .iload 8, 2), (148, .iaload, 1), (149, .ifCond .lt 14, 3), (152, .aload_n 3, 1)]
set_option maxRecDepth 100000 in
theorem xi_ok370_4 : xi_ok cX12_hop xi_370_4 = true := by decide +kernel
def xi_370_5 : XIs := [(153, .iload 8, 2), (155, .iaload, 1), (156, .iload 5, 2), (158, .iconst 1, 1), (159, .iadd, 1), (160, .if_icmp .ne 31, 3), (163, .aload_n 3, 1), (164, .iload 8, 2), (166, .iload 5, 2), (168, .iconst 1, 1), (169, .iadd, 1), (170, .iastore, 1), (171, .aload 4, 2), (173, .iload 8, 2), (175, .aload 4, 2), (177, .iload 8, 2)]
set_option maxRecDepth 100000 in
theorem xi_ok370_5 : xi_ok cX12_hop xi_370_5 = true := by decide +kernel
def xi_370_6 : XIs := [(179, .laload, 1), (180, .aload 4, 2), (182, .iload 7, 2), (184, .laload, 1), (185, .ladd, 1), (186, .ldc2_w 572, 3), (189, .lrem, 1), (190, .lastore, 1), (191, .iinc 6 1, 3), (194, .goto (-127), 3), (197, .iinc 5 1, 3), (200, .goto (-148), 3), (203, .return_, 1)]
set_option maxRecDepth 100000 in
theorem xi_ok370_6 : xi_ok cX12_hop xi_370_6 = true := by decide +kernel
def xi_370 (pc : Nat) : XIs := cond (Nat.blt pc 94) (cond (Nat.blt pc 29) (xi_370_0) (cond (Nat.blt pc 61) (xi_370_1) (xi_370_2))) (cond (Nat.blt pc 153) (cond (Nat.blt pc 124) (xi_370_3) (xi_370_4)) (cond (Nat.blt pc 179) (xi_370_5) (xi_370_6)))
theorem xi_ok370 (pc : Nat) : xi_ok cX12_hop (xi_370 pc) = true := xi_c (xi_c (xi_ok370_0) (xi_c (xi_ok370_1) (xi_ok370_2))) (xi_c (xi_c (xi_ok370_3) (xi_ok370_4)) (xi_c (xi_ok370_5) (xi_ok370_6)))
def xi_371_0 : XIs := [(0, .aload_n 0, 1), (1, .aload_n 0, 1), (2, .iload_n 1, 1), (3, .invokevirtual 349, 3), (6, .ifCond .eq 36, 3), (9, .aload_n 0, 1), (10, .iload_n 2, 1), (11, .invokevirtual 349, 3), (14, .ifCond .eq 28, 3), (17, .iload_n 3, 1), (18, .i2l, 1), (19, .lconst 0, 1), (20, .ldc2_w 570, 3), (23, .invokestatic 308, 3), (26, .ifCond .eq 16, 3), (29, .aload_n 0, 1)]
set_option maxRecDepth 100000 in
theorem xi_ok371_0 : xi_ok cX12_shortest xi_371_0 = true := by decide +kernel
def xi_371_1 : XIs := [(30, .iload 4, 2), (32, .invokevirtual 349, 3), (35, .ifCond .eq 7, 3), (38, .iconst 1, 1), (39, .goto 4, 3), (42, .iconst 0, 1), (43, .invokevirtual 334, 3), (46, .ifCond .eq 5, 3), (49, .iconst 0, 1), (50, .ireturn, 1), (51, .aload_n 0, 1), (52, .iload_n 1, 1), (53, .iconst 0, 1), (54, .aload_n 0, 1), (55, .getfield 181, 3), (58, .aload_n 0, 1)]
set_option maxRecDepth 100000 in
theorem xi_ok371_1 : xi_ok cX12_shortest xi_371_1 = true := by decide +kernel
def xi_371_2 : XIs := [(59, .getfield 184, 3), (62, .invokevirtual 590, 3), (65, .aload_n 0, 1), (66, .iload_n 2, 1), (67, .iconst 1, 1), (68, .aload_n 0, 1), (69, .getfield 187, 3), (72, .aload_n 0, 1), (73, .getfield 190, 3), (76, .invokevirtual 590, 3), (79, .iload_n 3, 1), (80, .ifCond .ne 10, 3), (83, .aload_n 0, 1), (84, .getfield 181, 3), (87, .iload_n 2, 1), (88, .iaload, 1)]
set_option maxRecDepth 100000 in
theorem xi_ok371_2 : xi_ok cX12_shortest xi_371_2 = true := by decide +kernel
def xi_371_3 : XIs := [(89, .ireturn, 1), (90, .iload_n 3, 1), (91, .iconst 1, 1), (92, .if_icmp .ne 11, 3), (95, .aload_n 0, 1), (96, .getfield 184, 3), (99, .iload_n 2, 1), (100, .laload, 1), (101, .l2i, 1), (102, .ireturn, 1), (103, .aload_n 0, 1), (104, .getfield 181, 3), (107, .iload 4, 2), (109, .iaload, 1), (110, .ifCond .lt 41, 3), (113, .aload_n 0, 1)]
set_option maxRecDepth 100000 in
theorem xi_ok371_3 : xi_ok cX12_shortest xi_371_3 = true := by decide +kernel
def xi_371_4 : XIs := [(114, .getfield 187, 3), (117, .iload 4, 2), (119, .iaload, 1), (120, .ifCond .lt 31, 3), (123, .aload_n 0, 1), (124, .getfield 181, 3), (127, .iload 4, 2), (129, .iaload, 1), (130, .aload_n 0, 1), (131, .getfield 187, 3), (134, .iload 4, 2), (136, .iaload, 1), (137, .iadd, 1), (138, .aload_n 0, 1), (139, .getfield 181, 3), (142, .iload_n 2, 1)]
set_option maxRecDepth 100000 in
theorem xi_ok371_4 : xi_ok cX12_shortest xi_371_4 = true := by decide +kernel
def xi_371_5 : XIs := [(143, .iaload, 1), (144, .if_icmp .ne 7, 3), (147, .iconst 1, 1), (148, .goto 4, 3), (151, .iconst 0, 1), (152, .istore 5, 2), (154, .iload 5, 2), (156, .ifCond .eq 26, 3), (159, .aload_n 0, 1), (160, .getfield 184, 3), (163, .iload 4, 2), (165, .laload, 1), (166, .aload_n 0, 1), (167, .getfield 190, 3), (170, .iload 4, 2), (172, .laload, 1)]
set_option maxRecDepth 100000 in
theorem xi_ok371_5 : xi_ok cX12_shortest xi_371_5 = true := by decide +kernel
def xi_371_6 : XIs := [(173, .lmul, 1), (174, .ldc2_w 572, 3), (177, .lrem, 1), (178, .l2i, 1), (179, .goto 4, 3), (182, .iconst 0, 1), (183, .ireturn, 1)]
set_option maxRecDepth 100000 in
theorem xi_ok371_6 : xi_ok cX12_shortest xi_371_6 = true := by decide +kernel
def xi_371 (pc : Nat) : XIs := cond (Nat.blt pc 89) (cond (Nat.blt pc 30) (xi_371_0) (cond (Nat.blt pc 59) (xi_371_1) (xi_371_2))) (cond (Nat.blt pc 143) (cond (Nat.blt pc 114) (xi_371_3) (xi_371_4)) (cond (Nat.blt pc 173) (xi_371_5) (xi_371_6)))
theorem xi_ok371 (pc : Nat) : xi_ok cX12_shortest (xi_371 pc) = true := xi_c (xi_c (xi_ok371_0) (xi_c (xi_ok371_1) (xi_ok371_2))) (xi_c (xi_c (xi_ok371_3) (xi_ok371_4)) (xi_c (xi_ok371_5) (xi_ok371_6)))
def xi_372_0 : XIs := [(0, .ldc2_w 570, 3), (3, .aload_n 0, 1), (4, .getfield 594, 3), (7, .i2l, 1), (8, .lmul, 1), (9, .aload_n 0, 1), (10, .getfield 199, 3), (13, .bipush 32, 2), (15, .iload_n 1, 1), (16, .imul, 1), (17, .iload_n 2, 1), (18, .iadd, 1), (19, .iaload, 1), (20, .i2l, 1), (21, .lmul, 1), (22, .aload_n 0, 1)]
set_option maxRecDepth 100000 in
theorem xi_ok372_0 : xi_ok cX12_gainOf xi_372_0 = true := by decide +kernel
def xi_372_1 : XIs := [(23, .getfield 196, 3), (26, .iload_n 1, 1), (27, .iaload, 1), (28, .i2l, 1), (29, .aload_n 0, 1), (30, .getfield 196, 3), (33, .iload_n 2, 1), (34, .iaload, 1), (35, .i2l, 1), (36, .lmul, 1), (37, .lsub, 1), (38, .lreturn, 1)]
set_option maxRecDepth 100000 in
theorem xi_ok372_1 : xi_ok cX12_gainOf xi_372_1 = true := by decide +kernel
def xi_372 (pc : Nat) : XIs := cond (Nat.blt pc 23) (xi_372_0) (xi_372_1)
theorem xi_ok372 (pc : Nat) : xi_ok cX12_gainOf (xi_372 pc) = true := xi_c (xi_ok372_0) (xi_ok372_1)
def xi_373_0 : XIs := [(0, .lconst 0, 1), (1, .lstore_n 3, 1), (2, .iconst 0, 1), (3, .istore 5, 2), (5, .iload 5, 2), (7, .aload_n 0, 1), (8, .getfield 285, 3), (11, .if_icmp .ge 40, 3), (14, .lload_n 3, 1), (15, .iload 5, 2), (17, .iload_n 1, 1), (18, .if_icmp .eq 24, 3), (21, .aload_n 0, 1), (22, .getfield 193, 3), (25, .iload 5, 2), (27, .iaload, 1)]
set_option maxRecDepth 100000 in
theorem xi_ok373_0 : xi_ok cX12_gainIn xi_373_0 = true := by decide +kernel
def xi_373_1 : XIs := [(28, .iload_n 2, 1), (29, .if_icmp .ne 13, 3), (32, .aload_n 0, 1), (33, .iload_n 1, 1), (34, .iload 5, 2), (36, .invokevirtual 597, 3), (39, .goto 4, 3), (42, .lconst 0, 1), (43, .ladd, 1), (44, .lstore_n 3, 1), (45, .iinc 5 1, 3), (48, .goto (-43), 3), (51, .lload_n 3, 1), (52, .lreturn, 1)]
set_option maxRecDepth 100000 in
theorem xi_ok373_1 : xi_ok cX12_gainIn xi_373_1 = true := by decide +kernel
def xi_373 (pc : Nat) : XIs := cond (Nat.blt pc 28) (xi_373_0) (xi_373_1)
theorem xi_ok373 (pc : Nat) : xi_ok cX12_gainIn (xi_373 pc) = true := xi_c (xi_ok373_0) (xi_ok373_1)
def xi_374_0 : XIs := [(0, .aload_n 0, 1), (1, .iconst 0, 1), (2, .putfield 594, 3), (5, .iconst 0, 1), (6, .istore_n 1, 1), (7, .iload_n 1, 1), (8, .sipush 1024, 3), (11, .if_icmp .ge 16, 3), (14, .aload_n 0, 1), (15, .getfield 199, 3), (18, .iload_n 1, 1), (19, .iconst 0, 1), (20, .iastore, 1), (21, .iinc 1 1, 3), (24, .goto (-17), 3), (27, .iconst 0, 1)]
set_option maxRecDepth 100000 in
theorem xi_ok374_0 : xi_ok cX12_findGroups xi_374_0 = true := by decide +kernel
def xi_374_1 : XIs := [(28, .istore_n 1, 1), (29, .iload_n 1, 1), (30, .aload_n 0, 1), (31, .getfield 285, 3), (34, .if_icmp .ge 23, 3), (37, .aload_n 0, 1), (38, .getfield 196, 3), (41, .iload_n 1, 1), (42, .iconst 0, 1), (43, .iastore, 1), (44, .aload_n 0, 1), (45, .getfield 193, 3), (48, .iload_n 1, 1), (49, .iload_n 1, 1), (50, .iastore, 1), (51, .iinc 1 1, 3)]
set_option maxRecDepth 100000 in
theorem xi_ok374_1 : xi_ok cX12_findGroups xi_374_1 = true := by decide +kernel
def xi_374_2 : XIs := [(54, .goto (-25), 3), (57, .iconst 0, 1), (58, .istore_n 1, 1), (59, .iload_n 1, 1), (60, .sipush 160, 3), (63, .if_icmp .ge 137, 3), (66, .aload_n 0, 1), (67, .iload_n 1, 1), (68, .invokevirtual 340, 3), (71, .ifCond .eq 123, 3), (74, .aload_n 0, 1), (75, .dup, 1), (76, .getfield 594, 3), (79, .iconst 1, 1), (80, .iadd, 1), (81, .putfield 594, 3)]
set_option maxRecDepth 100000 in
theorem xi_ok374_2 : xi_ok cX12_findGroups xi_374_2 = true := by decide +kernel
def xi_374_3 : XIs := [(84, .aload_n 0, 1), (85, .getfield 196, 3), (88, .aload_n 0, 1), (89, .getfield 20, 3), (92, .aload_n 0, 1), (93, .getfield 288, 3), (96, .iload_n 1, 1), (97, .iadd, 1), (98, .iaload, 1), (99, .dup2, 1), (100, .iaload, 1), (101, .iconst 1, 1), (102, .iadd, 1), (103, .iastore, 1), (104, .aload_n 0, 1), (105, .getfield 196, 3)]
set_option maxRecDepth 100000 in
theorem xi_ok374_3 : xi_ok cX12_findGroups xi_374_3 = true := by decide +kernel
def xi_374_4 : XIs := [(108, .aload_n 0, 1), (109, .getfield 23, 3), (112, .aload_n 0, 1), (113, .getfield 288, 3), (116, .iload_n 1, 1), (117, .iadd, 1), (118, .iaload, 1), (119, .dup2, 1), (120, .iaload, 1), (121, .iconst 1, 1), (122, .iadd, 1), (123, .iastore, 1), (124, .aload_n 0, 1), (125, .getfield 199, 3), (128, .bipush 32, 2), (130, .aload_n 0, 1)]
set_option maxRecDepth 100000 in
theorem xi_ok374_4 : xi_ok cX12_findGroups xi_374_4 = true := by decide +kernel
def xi_374_5 : XIs := [(131, .getfield 20, 3), (134, .aload_n 0, 1), (135, .getfield 288, 3), (138, .iload_n 1, 1), (139, .iadd, 1), (140, .iaload, 1), (141, .imul, 1), (142, .aload_n 0, 1), (143, .getfield 23, 3), (146, .aload_n 0, 1), (147, .getfield 288, 3), (150, .iload_n 1, 1), (151, .iadd, 1), (152, .iaload, 1), (153, .iadd, 1), (154, .dup2, 1)]
set_option maxRecDepth 100000 in
theorem xi_ok374_5 : xi_ok cX12_findGroups xi_374_5 = true := by decide +kernel
def xi_374_6 : XIs := [(155, .iaload, 1), (156, .iconst 1, 1), (157, .iadd, 1), (158, .iastore, 1), (159, .aload_n 0, 1), (160, .getfield 199, 3), (163, .bipush 32, 2), (165, .aload_n 0, 1), (166, .getfield 23, 3), (169, .aload_n 0, 1), (170, .getfield 288, 3), (173, .iload_n 1, 1), (174, .iadd, 1), (175, .iaload, 1), (176, .imul, 1), (177, .aload_n 0, 1)]
set_option maxRecDepth 100000 in
theorem xi_ok374_6 : xi_ok cX12_findGroups xi_374_6 = true := by decide +kernel
def xi_374_7 : XIs := [(178, .getfield 20, 3), (181, .aload_n 0, 1), (182, .getfield 288, 3), (185, .iload_n 1, 1), (186, .iadd, 1), (187, .iaload, 1), (188, .iadd, 1), (189, .dup2, 1), (190, .iaload, 1), (191, .iconst 1, 1), (192, .iadd, 1), (193, .iastore, 1), (194, .iinc 1 1, 3), (197, .goto (-138), 3), (200, .iconst 1, 1), (201, .istore_n 1, 1)]
set_option maxRecDepth 100000 in
theorem xi_ok374_7 : xi_ok cX12_findGroups xi_374_7 = true := by decide +kernel
def xi_374_8 : XIs := [(202, .iconst 0, 1), (203, .istore_n 2, 1), (204, .iload_n 2, 1), (205, .bipush 20, 2), (207, .if_icmp .ge 67, 3), (210, .iload_n 1, 1), (211, .ifCond .eq 63, 3), (214, .iconst 0, 1), (215, .istore_n 1, 1), (216, .iconst 0, 1), (217, .istore_n 3, 1), (218, .iload_n 3, 1), (219, .aload_n 0, 1), (220, .getfield 285, 3), (223, .if_icmp .ge 45, 3), (226, .aload_n 0, 1)]
set_option maxRecDepth 100000 in
theorem xi_ok374_8 : xi_ok cX12_findGroups xi_374_8 = true := by decide +kernel
def xi_374_9 : XIs := [(227, .iload_n 3, 1), (228, .invokevirtual 600, 3), (231, .istore 4, 2), (233, .iload_n 1, 1), (234, .ifCond .ne 14, 3), (237, .iload 4, 2), (239, .aload_n 0, 1), (240, .getfield 193, 3), (243, .iload_n 3, 1), (244, .iaload, 1), (245, .if_icmp .eq 7, 3), (248, .iconst 1, 1), (249, .goto 4, 3), (252, .iconst 0, 1), (253, .istore_n 1, 1), (254, .aload_n 0, 1)]
set_option maxRecDepth 100000 in
theorem xi_ok374_9 : xi_ok cX12_findGroups xi_374_9 = true := by decide +kernel
def xi_374_10 : XIs := [(255, .getfield 193, 3), (258, .iload_n 3, 1), (259, .iload 4, 2), (261, .iastore, 1), (262, .iinc 3 1, 3), (265, .goto (-47), 3), (268, .iinc 2 1, 3), (271, .goto (-67), 3), (274, .return_, 1)]
set_option maxRecDepth 100000 in
theorem xi_ok374_10 : xi_ok cX12_findGroups xi_374_10 = true := by decide +kernel
def xi_374 (pc : Nat) : XIs := cond (Nat.blt pc 131) (cond (Nat.blt pc 54) (cond (Nat.blt pc 28) (xi_374_0) (xi_374_1)) (cond (Nat.blt pc 84) (xi_374_2) (cond (Nat.blt pc 108) (xi_374_3) (xi_374_4)))) (cond (Nat.blt pc 202) (cond (Nat.blt pc 155) (xi_374_5) (cond (Nat.blt pc 178) (xi_374_6) (xi_374_7))) (cond (Nat.blt pc 227) (xi_374_8) (cond (Nat.blt pc 255) (xi_374_9) (xi_374_10))))
theorem xi_ok374 (pc : Nat) : xi_ok cX12_findGroups (xi_374 pc) = true := xi_c (xi_c (xi_c (xi_ok374_0) (xi_ok374_1)) (xi_c (xi_ok374_2) (xi_c (xi_ok374_3) (xi_ok374_4)))) (xi_c (xi_c (xi_ok374_5) (xi_c (xi_ok374_6) (xi_ok374_7))) (xi_c (xi_ok374_8) (xi_c (xi_ok374_9) (xi_ok374_10))))
def xi_375_0 : XIs := [(0, .bipush 40, 2), (2, .istore_n 3, 1), (3, .aload_n 0, 1), (4, .getfield 285, 3), (7, .iconst 1, 1), (8, .isub, 1), (9, .istore 4, 2), (11, .iload 4, 2), (13, .ifCond .lt 33, 3), (16, .aload_n 0, 1), (17, .getfield 193, 3), (20, .iload 4, 2), (22, .iaload, 1), (23, .iload_n 1, 1), (24, .if_icmp .ne 14, 3), (27, .iload 4, 2)]
set_option maxRecDepth 100000 in
theorem xi_ok375_0 : xi_ok cX12_leastOf xi_375_0 = true := by decide +kernel
def xi_375_1 : XIs := [(29, .iload_n 2, 1), (30, .if_icmp .eq 8, 3), (33, .iload 4, 2), (35, .goto 4, 3), (38, .iload_n 3, 1), (39, .istore_n 3, 1), (40, .iinc 4 (-1), 3), (43, .goto (-32), 3), (46, .iload_n 3, 1), (47, .ireturn, 1)]
set_option maxRecDepth 100000 in
theorem xi_ok375_1 : xi_ok cX12_leastOf xi_375_1 = true := by decide +kernel
def xi_375 (pc : Nat) : XIs := cond (Nat.blt pc 29) (xi_375_0) (xi_375_1)
theorem xi_ok375 (pc : Nat) : xi_ok cX12_leastOf (xi_375 pc) = true := xi_c (xi_ok375_0) (xi_ok375_1)
def xi_376_0 : XIs := [(0, .aload_n 0, 1), (1, .iload_n 1, 1), (2, .aload_n 0, 1), (3, .getfield 193, 3), (6, .iload_n 1, 1), (7, .iaload, 1), (8, .invokevirtual 603, 3), (11, .lstore_n 2, 1), (12, .aload_n 0, 1), (13, .getfield 193, 3), (16, .iload_n 1, 1), (17, .iaload, 1), (18, .istore 4, 2), (20, .iconst (-1), 1), (21, .istore 5, 2), (23, .aload_n 0, 1)]
set_option maxRecDepth 100000 in
theorem xi_ok376_0 : xi_ok cX12_bestGroup xi_376_0 = true := by decide +kernel
def xi_376_1 : XIs := [(24, .aload_n 0, 1), (25, .getfield 193, 3), (28, .iload_n 1, 1), (29, .iaload, 1), (30, .iload_n 1, 1), (31, .invokevirtual 606, 3), (34, .bipush 40, 2), (36, .if_icmp .ne 7, 3), (39, .iconst 1, 1), (40, .goto 4, 3), (43, .iconst 0, 1), (44, .istore 6, 2), (46, .iconst 0, 1), (47, .istore 7, 2), (49, .iload 7, 2), (51, .aload_n 0, 1)]
set_option maxRecDepth 100000 in
theorem xi_ok376_1 : xi_ok cX12_bestGroup xi_376_1 = true := by decide +kernel
def xi_376_2 : XIs := [(52, .getfield 285, 3), (55, .if_icmp .ge 116, 3), (58, .iload 7, 2), (60, .iload_n 1, 1), (61, .if_icmp .eq 104, 3), (64, .aload_n 0, 1), (65, .getfield 199, 3), (68, .bipush 32, 2), (70, .iload_n 1, 1), (71, .imul, 1), (72, .iload 7, 2), (74, .iadd, 1), (75, .iaload, 1), (76, .ifCond .le 89, 3), (79, .aload_n 0, 1), (80, .getfield 193, 3)]
set_option maxRecDepth 100000 in
theorem xi_ok376_2 : xi_ok cX12_bestGroup xi_376_2 = true := by decide +kernel
def xi_376_3 : XIs := [(83, .iload 7, 2), (85, .iaload, 1), (86, .aload_n 0, 1), (87, .getfield 193, 3), (90, .iload_n 1, 1), (91, .iaload, 1), (92, .if_icmp .eq 73, 3), (95, .aload_n 0, 1), (96, .iload_n 1, 1), (97, .aload_n 0, 1), (98, .getfield 193, 3), (101, .iload 7, 2), (103, .iaload, 1), (104, .invokevirtual 603, 3), (107, .lstore 8, 2), (109, .aload_n 0, 1)]
set_option maxRecDepth 100000 in
theorem xi_ok376_3 : xi_ok cX12_bestGroup xi_376_3 = true := by decide +kernel
def xi_376_4 : XIs := [(110, .aload_n 0, 1), (111, .getfield 193, 3), (114, .iload 7, 2), (116, .iaload, 1), (117, .iload_n 1, 1), (118, .invokevirtual 606, 3), (121, .istore 10, 2), (123, .lload 8, 2), (125, .lload_n 2, 1), (126, .lcmp, 1), (127, .ifCond .gt 22, 3), (130, .lload 8, 2), (132, .lload_n 2, 1), (133, .lcmp, 1), (134, .ifCond .ne 31, 3), (137, .iload 5, 2)]
set_option maxRecDepth 100000 in
theorem xi_ok376_4 : xi_ok cX12_bestGroup xi_376_4 = true := by decide +kernel
def xi_376_5 : XIs := [(139, .ifCond .lt 26, 3), (142, .iload 10, 2), (144, .iload 5, 2), (146, .if_icmp .ge 19, 3), (149, .lload 8, 2), (151, .lstore_n 2, 1), (152, .aload_n 0, 1), (153, .getfield 193, 3), (156, .iload 7, 2), (158, .iaload, 1), (159, .istore 4, 2), (161, .iload 10, 2), (163, .istore 5, 2), (165, .iinc 7 1, 3), (168, .goto (-119), 3), (171, .iload 6, 2)]
set_option maxRecDepth 100000 in
theorem xi_ok376_5 : xi_ok cX12_bestGroup xi_376_5 = true := by decide +kernel
def xi_376_6 : XIs := [(173, .ifCond .ne 14, 3), (176, .lload_n 2, 1), (177, .lconst 0, 1), (178, .lcmp, 1), (179, .ifCond .ge 8, 3), (182, .aload_n 0, 1), (183, .invokevirtual 609, 3), (186, .ireturn, 1), (187, .iload 4, 2), (189, .ireturn, 1)]
set_option maxRecDepth 100000 in
theorem xi_ok376_6 : xi_ok cX12_bestGroup xi_376_6 = true := by decide +kernel
def xi_376 (pc : Nat) : XIs := cond (Nat.blt pc 83) (cond (Nat.blt pc 24) (xi_376_0) (cond (Nat.blt pc 52) (xi_376_1) (xi_376_2))) (cond (Nat.blt pc 139) (cond (Nat.blt pc 110) (xi_376_3) (xi_376_4)) (cond (Nat.blt pc 173) (xi_376_5) (xi_376_6)))
theorem xi_ok376 (pc : Nat) : xi_ok cX12_bestGroup (xi_376 pc) = true := xi_c (xi_c (xi_ok376_0) (xi_c (xi_ok376_1) (xi_ok376_2))) (xi_c (xi_c (xi_ok376_3) (xi_ok376_4)) (xi_c (xi_ok376_5) (xi_ok376_6)))
def xi_377_0 : XIs := [(0, .iconst 0, 1), (1, .istore_n 1, 1), (2, .aload_n 0, 1), (3, .iload_n 1, 1), (4, .iconst (-1), 1), (5, .invokevirtual 606, 3), (8, .bipush 40, 2), (10, .if_icmp .ge 9, 3), (13, .iinc 1 1, 3), (16, .goto (-14), 3), (19, .iload_n 1, 1), (20, .ireturn, 1)]
set_option maxRecDepth 100000 in
theorem xi_ok377_0 : xi_ok cX12_freeGroup xi_377_0 = true := by decide +kernel
def xi_377 (pc : Nat) : XIs := xi_377_0
theorem xi_ok377 (pc : Nat) : xi_ok cX12_freeGroup (xi_377 pc) = true := xi_ok377_0
def xi_378_0 : XIs := [(0, .aload_n 0, 1), (1, .aload_n 0, 1), (2, .iload_n 1, 1), (3, .invokevirtual 349, 3), (6, .invokevirtual 334, 3), (9, .ifCond .eq 5, 3), (12, .iconst 0, 1), (13, .ireturn, 1), (14, .aload_n 0, 1), (15, .invokevirtual 612, 3), (18, .aload_n 0, 1), (19, .aload_n 0, 1), (20, .getfield 193, 3), (23, .iload_n 1, 1), (24, .iaload, 1), (25, .iconst (-1), 1)]
set_option maxRecDepth 100000 in
theorem xi_ok378_0 : xi_ok cX12_group xi_378_0 = true := by decide +kernel
def xi_378_1 : XIs := [(26, .invokevirtual 606, 3), (29, .ireturn, 1)]
set_option maxRecDepth 100000 in
theorem xi_ok378_1 : xi_ok cX12_group xi_378_1 = true := by decide +kernel
def xi_378 (pc : Nat) : XIs := cond (Nat.blt pc 26) (xi_378_0) (xi_378_1)
theorem xi_ok378 (pc : Nat) : xi_ok cX12_group (xi_378 pc) = true := xi_c (xi_ok378_0) (xi_ok378_1)
def xi_379_0 : XIs := [(0, .aload_n 0, 1), (1, .iconst 0, 1), (2, .putfield 278, 3), (5, .aload_n 0, 1), (6, .invokevirtual 612, 3), (9, .lconst 0, 1), (10, .lstore_n 1, 1), (11, .iconst 0, 1), (12, .istore_n 3, 1), (13, .iload_n 3, 1), (14, .aload_n 0, 1), (15, .getfield 285, 3), (18, .if_icmp .ge 23, 3), (21, .lload_n 1, 1), (22, .aload_n 0, 1), (23, .iload_n 3, 1)]
set_option maxRecDepth 100000 in
theorem xi_ok379_0 : xi_ok cX12_gain xi_379_0 = true := by decide +kernel
def xi_379_1 : XIs := [(24, .aload_n 0, 1), (25, .getfield 193, 3), (28, .iload_n 3, 1), (29, .iaload, 1), (30, .invokevirtual 603, 3), (33, .ladd, 1), (34, .lstore_n 1, 1), (35, .iinc 3 1, 3), (38, .goto (-25), 3), (41, .lload_n 1, 1), (42, .lreturn, 1)]
set_option maxRecDepth 100000 in
theorem xi_ok379_1 : xi_ok cX12_gain xi_379_1 = true := by decide +kernel
def xi_379 (pc : Nat) : XIs := cond (Nat.blt pc 24) (xi_379_0) (xi_379_1)
theorem xi_ok379 (pc : Nat) : xi_ok cX12_gain (xi_379 pc) = true := xi_c (xi_ok379_0) (xi_ok379_1)
def xi_380_0 : XIs := [(0, .aload_n 0, 1), (1, .iload_n 1, 1), (2, .i2l, 1), (3, .lconst 0, 1), (4, .lconst 1, 1), (5, .invokestatic 308, 3), (8, .invokevirtual 334, 3), (11, .ifCond .eq 5, 3), (14, .lconst 0, 1), (15, .lreturn, 1), (16, .aload_n 0, 1), (17, .invokevirtual 485, 3), (20, .lconst 0, 1), (21, .lstore_n 2, 1), (22, .iconst 0, 1), (23, .istore 4, 2)]
set_option maxRecDepth 100000 in
theorem xi_ok380_0 : xi_ok cX12_figures xi_380_0 = true := by decide +kernel
def xi_380_1 : XIs := [(25, .iload 4, 2), (27, .aload_n 0, 1), (28, .getfield 285, 3), (31, .if_icmp .ge 94, 3), (34, .iload 4, 2), (36, .iconst 1, 1), (37, .iadd, 1), (38, .istore 5, 2), (40, .iload 5, 2), (42, .aload_n 0, 1), (43, .getfield 285, 3), (46, .if_icmp .ge 73, 3), (49, .aload_n 0, 1), (50, .getfield 100, 3), (53, .iload 4, 2), (55, .iaload, 1)]
set_option maxRecDepth 100000 in
theorem xi_ok380_1 : xi_ok cX12_figures xi_380_1 = true := by decide +kernel
def xi_380_2 : XIs := [(56, .aload_n 0, 1), (57, .getfield 100, 3), (60, .iload 5, 2), (62, .iaload, 1), (63, .iand, 1), (64, .invokestatic 488, 3), (67, .i2l, 1), (68, .lstore 6, 2), (70, .lload_n 2, 1), (71, .iload_n 1, 1), (72, .iconst 1, 1), (73, .if_icmp .ne 17, 3), (76, .lload 6, 2), (78, .lload 6, 2), (80, .lconst 1, 1), (81, .lsub, 1)]
set_option maxRecDepth 100000 in
theorem xi_ok380_2 : xi_ok cX12_figures xi_380_2 = true := by decide +kernel
def xi_380_3 : XIs := [(82, .lmul, 1), (83, .ldc2_w 570, 3), (86, .ldiv, 1), (87, .goto 24, 3), (90, .aload_n 0, 1), (91, .getfield 100, 3), (94, .iload 4, 2), (96, .iaload, 1), (97, .iload 5, 2), (99, .invokestatic 427, 3), (102, .ifCond .eq 8, 3), (105, .lload 6, 2), (107, .goto 4, 3), (110, .lconst 0, 1), (111, .ladd, 1), (112, .lstore_n 2, 1)]
set_option maxRecDepth 100000 in
theorem xi_ok380_3 : xi_ok cX12_figures xi_380_3 = true := by decide +kernel
def xi_380_4 : XIs := [(113, .iinc 5 1, 3), (116, .goto (-76), 3), (119, .iinc 4 1, 3), (122, .goto (-97), 3), (125, .iload_n 1, 1), (126, .ifCond .ne 11, 3), (129, .lload_n 2, 1), (130, .ldc2_w 338, 3), (133, .ldiv, 1), (134, .goto 8, 3), (137, .lload_n 2, 1), (138, .ldc2_w 570, 3), (141, .ldiv, 1), (142, .lreturn, 1)]
set_option maxRecDepth 100000 in
theorem xi_ok380_4 : xi_ok cX12_figures xi_380_4 = true := by decide +kernel
def xi_380 (pc : Nat) : XIs := cond (Nat.blt pc 56) (cond (Nat.blt pc 25) (xi_380_0) (xi_380_1)) (cond (Nat.blt pc 82) (xi_380_2) (cond (Nat.blt pc 113) (xi_380_3) (xi_380_4)))
theorem xi_ok380 (pc : Nat) : xi_ok cX12_figures (xi_380 pc) = true := xi_c (xi_c (xi_ok380_0) (xi_ok380_1)) (xi_c (xi_ok380_2) (xi_c (xi_ok380_3) (xi_ok380_4)))
def xi_381_0 : XIs := [(0, .aload_n 0, 1), (1, .getfield 218, 3), (4, .aload_n 0, 1), (5, .getfield 615, 3), (8, .iconst 0, 1), (9, .bastore, 1), (10, .aload_n 0, 1), (11, .getfield 221, 3), (14, .aload_n 0, 1), (15, .getfield 615, 3), (18, .iconst 0, 1), (19, .bastore, 1), (20, .aload_n 0, 1), (21, .getfield 224, 3), (24, .aload_n 0, 1), (25, .getfield 615, 3)]
set_option maxRecDepth 100000 in
theorem xi_ok381_0 : xi_ok cX12_beginAlternative xi_381_0 = true := by decide +kernel
def xi_381_1 : XIs := [(28, .lconst 0, 1), (29, .lastore, 1), (30, .aload_n 0, 1), (31, .getfield 227, 3), (34, .aload_n 0, 1), (35, .getfield 615, 3), (38, .lconst 0, 1), (39, .lastore, 1), (40, .aload_n 0, 1), (41, .invokevirtual 618, 3), (44, .return_, 1)]
set_option maxRecDepth 100000 in
theorem xi_ok381_1 : xi_ok cX12_beginAlternative xi_381_1 = true := by decide +kernel
def xi_381 (pc : Nat) : XIs := cond (Nat.blt pc 28) (xi_381_0) (xi_381_1)
theorem xi_ok381 (pc : Nat) : xi_ok cX12_beginAlternative (xi_381 pc) = true := xi_c (xi_ok381_0) (xi_ok381_1)
def xi_382_0 : XIs := [(0, .aload_n 0, 1), (1, .getfield 230, 3), (4, .aload_n 0, 1), (5, .getfield 615, 3), (8, .iconst 1, 1), (9, .bastore, 1), (10, .aload_n 0, 1), (11, .getfield 233, 3), (14, .aload_n 0, 1), (15, .getfield 615, 3), (18, .lconst 0, 1), (19, .lastore, 1), (20, .aload_n 0, 1), (21, .getfield 236, 3), (24, .aload_n 0, 1), (25, .getfield 615, 3)]
set_option maxRecDepth 100000 in
theorem xi_ok382_0 : xi_ok cX12_beginSequence xi_382_0 = true := by decide +kernel
def xi_382_1 : XIs := [(28, .lconst 0, 1), (29, .lastore, 1), (30, .aload_n 0, 1), (31, .iconst 0, 1), (32, .putfield 621, 3), (35, .aload_n 0, 1), (36, .iconst 0, 1), (37, .putfield 624, 3), (40, .return_, 1)]
set_option maxRecDepth 100000 in
theorem xi_ok382_1 : xi_ok cX12_beginSequence xi_382_1 = true := by decide +kernel
def xi_382 (pc : Nat) : XIs := cond (Nat.blt pc 28) (xi_382_0) (xi_382_1)
theorem xi_ok382 (pc : Nat) : xi_ok cX12_beginSequence (xi_382 pc) = true := xi_c (xi_ok382_0) (xi_ok382_1)
def xi_383_0 : XIs := [(0, .iconst 0, 1), (1, .istore 5, 2), (3, .iload 5, 2), (5, .bipush 60, 2), (7, .if_icmp .ge 35, 3), (10, .aload_n 0, 1), (11, .getfield 215, 3), (14, .iload 5, 2), (16, .dup2, 1), (17, .laload, 1), (18, .lload_n 1, 1), (19, .iload 5, 2), (21, .lshr, 1), (22, .lconst 1, 1), (23, .land, 1), (24, .lconst 1, 1)]
set_option maxRecDepth 100000 in
theorem xi_ok383_0 : xi_ok cX12_follow xi_383_0 = true := by decide +kernel
def xi_383_1 : XIs := [(25, .lcmp, 1), (26, .ifCond .ne 7, 3), (29, .lload_n 3, 1), (30, .goto 4, 3), (33, .lconst 0, 1), (34, .lor, 1), (35, .lastore, 1), (36, .iinc 5 1, 3), (39, .goto (-36), 3), (42, .return_, 1)]
set_option maxRecDepth 100000 in
theorem xi_ok383_1 : xi_ok cX12_follow xi_383_1 = true := by decide +kernel
def xi_383 (pc : Nat) : XIs := cond (Nat.blt pc 25) (xi_383_0) (xi_383_1)
theorem xi_ok383 (pc : Nat) : xi_ok cX12_follow (xi_383 pc) = true := xi_c (xi_ok383_0) (xi_ok383_1)
def xi_384_0 : XIs := [(0, .aload_n 0, 1), (1, .getfield 621, 3), (4, .ifCond .eq 119, 3), (7, .aload_n 0, 1), (8, .aload_n 0, 1), (9, .getfield 236, 3), (12, .aload_n 0, 1), (13, .getfield 615, 3), (16, .laload, 1), (17, .aload_n 0, 1), (18, .getfield 627, 3), (21, .invokevirtual 630, 3), (24, .aload_n 0, 1), (25, .getfield 233, 3), (28, .aload_n 0, 1), (29, .getfield 615, 3)]
set_option maxRecDepth 100000 in
theorem xi_ok384_0 : xi_ok cX12_flush xi_384_0 = true := by decide +kernel
def xi_384_1 : XIs := [(32, .dup2, 1), (33, .laload, 1), (34, .aload_n 0, 1), (35, .getfield 230, 3), (38, .aload_n 0, 1), (39, .getfield 615, 3), (42, .baload, 1), (43, .ifCond .eq 10, 3), (46, .aload_n 0, 1), (47, .getfield 627, 3), (50, .goto 4, 3), (53, .lconst 0, 1), (54, .lor, 1), (55, .lastore, 1), (56, .aload_n 0, 1), (57, .getfield 236, 3)]
set_option maxRecDepth 100000 in
theorem xi_ok384_1 : xi_ok cX12_flush xi_384_1 = true := by decide +kernel
def xi_384_2 : XIs := [(60, .aload_n 0, 1), (61, .getfield 615, 3), (64, .aload_n 0, 1), (65, .getfield 634, 3), (68, .aload_n 0, 1), (69, .getfield 637, 3), (72, .ifCond .eq 15, 3), (75, .aload_n 0, 1), (76, .getfield 236, 3), (79, .aload_n 0, 1), (80, .getfield 615, 3), (83, .laload, 1), (84, .goto 4, 3), (87, .lconst 0, 1), (88, .lor, 1), (89, .lastore, 1)]
set_option maxRecDepth 100000 in
theorem xi_ok384_2 : xi_ok cX12_flush xi_384_2 = true := by decide +kernel
def xi_384_3 : XIs := [(90, .aload_n 0, 1), (91, .getfield 230, 3), (94, .aload_n 0, 1), (95, .getfield 615, 3), (98, .aload_n 0, 1), (99, .getfield 230, 3), (102, .aload_n 0, 1), (103, .getfield 615, 3), (106, .baload, 1), (107, .ifCond .eq 14, 3), (110, .aload_n 0, 1), (111, .getfield 637, 3), (114, .ifCond .eq 7, 3), (117, .iconst 1, 1), (118, .goto 4, 3), (121, .iconst 0, 1)]
set_option maxRecDepth 100000 in
theorem xi_ok384_3 : xi_ok cX12_flush xi_384_3 = true := by decide +kernel
def xi_384_4 : XIs := [(122, .bastore, 1), (123, .aload_n 0, 1), (124, .iconst 0, 1), (125, .putfield 621, 3), (128, .aload_n 0, 1), (129, .iconst 0, 1), (130, .putfield 624, 3), (133, .return_, 1)]
set_option maxRecDepth 100000 in
theorem xi_ok384_4 : xi_ok cX12_flush xi_384_4 = true := by decide +kernel
def xi_384 (pc : Nat) : XIs := cond (Nat.blt pc 60) (cond (Nat.blt pc 32) (xi_384_0) (xi_384_1)) (cond (Nat.blt pc 90) (xi_384_2) (cond (Nat.blt pc 122) (xi_384_3) (xi_384_4)))
theorem xi_ok384 (pc : Nat) : xi_ok cX12_flush (xi_384 pc) = true := xi_c (xi_c (xi_ok384_0) (xi_ok384_1)) (xi_c (xi_ok384_2) (xi_c (xi_ok384_3) (xi_ok384_4)))
def xi_385_0 : XIs := [(0, .aload_n 0, 1), (1, .invokevirtual 640, 3), (4, .aload_n 0, 1), (5, .getfield 218, 3), (8, .aload_n 0, 1), (9, .getfield 615, 3), (12, .iconst 1, 1), (13, .bastore, 1), (14, .aload_n 0, 1), (15, .getfield 221, 3), (18, .aload_n 0, 1), (19, .getfield 615, 3), (22, .aload_n 0, 1), (23, .getfield 221, 3), (26, .aload_n 0, 1), (27, .getfield 615, 3)]
set_option maxRecDepth 100000 in
theorem xi_ok385_0 : xi_ok cX12_endSequence xi_385_0 = true := by decide +kernel
def xi_385_1 : XIs := [(30, .baload, 1), (31, .ifCond .ne 15, 3), (34, .aload_n 0, 1), (35, .getfield 230, 3), (38, .aload_n 0, 1), (39, .getfield 615, 3), (42, .baload, 1), (43, .ifCond .eq 7, 3), (46, .iconst 1, 1), (47, .goto 4, 3), (50, .iconst 0, 1), (51, .bastore, 1), (52, .aload_n 0, 1), (53, .getfield 224, 3), (56, .aload_n 0, 1), (57, .getfield 615, 3)]
set_option maxRecDepth 100000 in
theorem xi_ok385_1 : xi_ok cX12_endSequence xi_385_1 = true := by decide +kernel
def xi_385_2 : XIs := [(60, .dup2, 1), (61, .laload, 1), (62, .aload_n 0, 1), (63, .getfield 233, 3), (66, .aload_n 0, 1), (67, .getfield 615, 3), (70, .laload, 1), (71, .lor, 1), (72, .lastore, 1), (73, .aload_n 0, 1), (74, .getfield 227, 3), (77, .aload_n 0, 1), (78, .getfield 615, 3), (81, .dup2, 1), (82, .laload, 1), (83, .aload_n 0, 1)]
set_option maxRecDepth 100000 in
theorem xi_ok385_2 : xi_ok cX12_endSequence xi_385_2 = true := by decide +kernel
def xi_385_3 : XIs := [(84, .getfield 236, 3), (87, .aload_n 0, 1), (88, .getfield 615, 3), (91, .laload, 1), (92, .lor, 1), (93, .lastore, 1), (94, .return_, 1)]
set_option maxRecDepth 100000 in
theorem xi_ok385_3 : xi_ok cX12_endSequence xi_385_3 = true := by decide +kernel
def xi_385 (pc : Nat) : XIs := cond (Nat.blt pc 60) (cond (Nat.blt pc 30) (xi_385_0) (xi_385_1)) (cond (Nat.blt pc 84) (xi_385_2) (xi_385_3))
theorem xi_ok385 (pc : Nat) : xi_ok cX12_endSequence (xi_385 pc) = true := xi_c (xi_c (xi_ok385_0) (xi_ok385_1)) (xi_c (xi_ok385_2) (xi_ok385_3))
def xi_386_0 : XIs := [(0, .aload_n 0, 1), (1, .iconst 0, 1), (2, .putfield 278, 3), (5, .aload_n 0, 1), (6, .iconst 0, 1), (7, .putfield 359, 3), (10, .aload_n 0, 1), (11, .getfield 356, 3), (14, .bipush 60, 2), (16, .if_icmp .le 13, 3), (19, .aload_n 0, 1), (20, .iconst 2, 1), (21, .bipush 60, 2), (23, .invokevirtual 391, 3), (26, .bipush (-4), 2), (28, .ireturn, 1)]
set_option maxRecDepth 100000 in
theorem xi_ok386_0 : xi_ok cX12_pattern xi_386_0 = true := by decide +kernel
def xi_386_1 : XIs := [(29, .iconst 0, 1), (30, .istore_n 1, 1), (31, .iconst 0, 1), (32, .istore_n 2, 1), (33, .iload_n 2, 1), (34, .bipush 60, 2), (36, .if_icmp .ge 16, 3), (39, .aload_n 0, 1), (40, .getfield 215, 3), (43, .iload_n 2, 1), (44, .lconst 0, 1), (45, .lastore, 1), (46, .iinc 2 1, 3), (49, .goto (-16), 3), (52, .aload_n 0, 1), (53, .iconst 0, 1)]
set_option maxRecDepth 100000 in
theorem xi_ok386_1 : xi_ok cX12_pattern xi_386_1 = true := by decide +kernel
def xi_386_2 : XIs := [(54, .putfield 615, 3), (57, .aload_n 0, 1), (58, .invokevirtual 643, 3), (61, .iconst 0, 1), (62, .istore_n 2, 1), (63, .iload_n 2, 1), (64, .aload_n 0, 1), (65, .getfield 356, 3), (68, .if_icmp .ge 84, 3), (71, .aload_n 0, 1), (72, .getfield 359, 3), (75, .ifCond .ne 77, 3), (78, .aload_n 0, 1), (79, .getfield 60, 3), (82, .iload_n 2, 1), (83, .iaload, 1)]
set_option maxRecDepth 100000 in
theorem xi_ok386_2 : xi_ok cX12_pattern xi_386_2 = true := by decide +kernel
def xi_386_3 : XIs := [(84, .istore_n 3, 1), (85, .iload_n 3, 1), (86, .invokestatic 388, 3), (89, .ifCond .ne 9, 3), (92, .iload_n 3, 1), (93, .bipush 46, 2), (95, .if_icmp .ne 45, 3), (98, .aload_n 0, 1), (99, .invokevirtual 640, 3), (102, .aload_n 0, 1), (103, .getfield 212, 3), (106, .iload_n 1, 1), (107, .iload_n 3, 1), (108, .bipush 46, 2), (110, .if_icmp .ne 8, 3), (113, .bipush 26, 2)]
set_option maxRecDepth 100000 in
theorem xi_ok386_3 : xi_ok cX12_pattern xi_386_3 = true := by decide +kernel
def xi_386_4 : XIs := [(115, .goto 7, 3), (118, .iload_n 3, 1), (119, .bipush 97, 2), (121, .isub, 1), (122, .iastore, 1), (123, .aload_n 0, 1), (124, .iconst 0, 1), (125, .lconst 1, 1), (126, .iload_n 1, 1), (127, .lshl, 1), (128, .lconst 1, 1), (129, .iload_n 1, 1), (130, .lshl, 1), (131, .invokevirtual 646, 3), (134, .iinc 1 1, 3), (137, .goto 9, 3)]
set_option maxRecDepth 100000 in
theorem xi_ok386_4 : xi_ok cX12_pattern xi_386_4 = true := by decide +kernel
def xi_386_5 : XIs := [(140, .aload_n 0, 1), (141, .iload_n 3, 1), (142, .iload_n 2, 1), (143, .invokevirtual 650, 3), (146, .iinc 2 1, 3), (149, .goto (-86), 3), (152, .aload_n 0, 1), (153, .getfield 359, 3), (156, .ifCond .ne 19, 3), (159, .aload_n 0, 1), (160, .getfield 615, 3), (163, .ifCond .le 12, 3), (166, .aload_n 0, 1), (167, .iconst 2, 1), (168, .aload_n 0, 1), (169, .getfield 356, 3)]
set_option maxRecDepth 100000 in
theorem xi_ok386_5 : xi_ok cX12_pattern xi_386_5 = true := by decide +kernel
def xi_386_6 : XIs := [(172, .invokevirtual 391, 3), (175, .aload_n 0, 1), (176, .getfield 359, 3), (179, .ifCond .le 6, 3), (182, .bipush (-4), 2), (184, .ireturn, 1), (185, .aload_n 0, 1), (186, .invokevirtual 653, 3), (189, .aload_n 0, 1), (190, .iload_n 1, 1), (191, .putfield 656, 3), (194, .aload_n 0, 1), (195, .aload_n 0, 1), (196, .getfield 221, 3), (199, .iconst 0, 1), (200, .baload, 1)]
set_option maxRecDepth 100000 in
theorem xi_ok386_6 : xi_ok cX12_pattern xi_386_6 = true := by decide +kernel
def xi_386_7 : XIs := [(201, .putfield 208, 3), (204, .aload_n 0, 1), (205, .aload_n 0, 1), (206, .getfield 224, 3), (209, .iconst 0, 1), (210, .laload, 1), (211, .putfield 659, 3), (214, .aload_n 0, 1), (215, .aload_n 0, 1), (216, .getfield 227, 3), (219, .iconst 0, 1), (220, .laload, 1), (221, .putfield 662, 3), (224, .iconst 0, 1), (225, .istore_n 2, 1), (226, .iload_n 2, 1)]
set_option maxRecDepth 100000 in
theorem xi_ok386_7 : xi_ok cX12_pattern xi_386_7 = true := by decide +kernel
def xi_386_8 : XIs := [(227, .bipush 60, 2), (229, .if_icmp .ge 33, 3), (232, .aload_n 0, 1), (233, .getfield 202, 3), (236, .iload_n 2, 1), (237, .aload_n 0, 1), (238, .getfield 212, 3), (241, .iload_n 2, 1), (242, .iaload, 1), (243, .iastore, 1), (244, .aload_n 0, 1), (245, .getfield 205, 3), (248, .iload_n 2, 1), (249, .aload_n 0, 1), (250, .getfield 215, 3), (253, .iload_n 2, 1)]
set_option maxRecDepth 100000 in
theorem xi_ok386_8 : xi_ok cX12_pattern xi_386_8 = true := by decide +kernel
def xi_386_9 : XIs := [(254, .laload, 1), (255, .lastore, 1), (256, .iinc 2 1, 3), (259, .goto (-33), 3), (262, .iconst 0, 1), (263, .ireturn, 1)]
set_option maxRecDepth 100000 in
theorem xi_ok386_9 : xi_ok cX12_pattern xi_386_9 = true := by decide +kernel
def xi_386 (pc : Nat) : XIs := cond (Nat.blt pc 140) (cond (Nat.blt pc 54) (cond (Nat.blt pc 29) (xi_386_0) (xi_386_1)) (cond (Nat.blt pc 84) (xi_386_2) (cond (Nat.blt pc 115) (xi_386_3) (xi_386_4)))) (cond (Nat.blt pc 201) (cond (Nat.blt pc 172) (xi_386_5) (xi_386_6)) (cond (Nat.blt pc 227) (xi_386_7) (cond (Nat.blt pc 254) (xi_386_8) (xi_386_9))))
theorem xi_ok386 (pc : Nat) : xi_ok cX12_pattern (xi_386 pc) = true := xi_c (xi_c (xi_c (xi_ok386_0) (xi_ok386_1)) (xi_c (xi_ok386_2) (xi_c (xi_ok386_3) (xi_ok386_4)))) (xi_c (xi_c (xi_ok386_5) (xi_ok386_6)) (xi_c (xi_ok386_7) (xi_c (xi_ok386_8) (xi_ok386_9))))
def xi_387_0 : XIs := [(0, .aload_n 0, 1), (1, .iconst 1, 1), (2, .putfield 621, 3), (5, .aload_n 0, 1), (6, .iconst 1, 1), (7, .putfield 624, 3), (10, .aload_n 0, 1), (11, .iload_n 1, 1), (12, .putfield 637, 3), (15, .aload_n 0, 1), (16, .lload_n 2, 1), (17, .putfield 627, 3), (20, .aload_n 0, 1), (21, .lload 4, 2), (23, .putfield 634, 3), (26, .return_, 1)]
set_option maxRecDepth 100000 in
theorem xi_ok387_0 : xi_ok cX12_setAtom xi_387_0 = true := by decide +kernel
def xi_387 (pc : Nat) : XIs := xi_387_0
theorem xi_ok387 (pc : Nat) : xi_ok cX12_setAtom (xi_387 pc) = true := xi_ok387_0
def xi_388_0 : XIs := [(0, .iload_n 1, 1), (1, .lookupswitch 241 #[(40, 70), (41, 107), (42, 179), (43, 179), (63, 179), (124, 59)], 59), (60, .aload_n 0, 1), (61, .invokevirtual 653, 3), (64, .aload_n 0, 1), (65, .invokevirtual 618, 3), (68, .goto 180, 3), (71, .aload_n 0, 1), (72, .getfield 615, 3), (75, .bipush 10, 2), (77, .if_icmp .ne 10, 3), (80, .aload_n 0, 1), (81, .iconst 3, 1), (82, .iload_n 2, 1), (83, .invokevirtual 391, 3), (86, .return_, 1)]
set_option maxRecDepth 100000 in
theorem xi_ok388_0 : xi_ok cX12_sign xi_388_0 = true := by decide +kernel
def xi_388_1 : XIs := [(87, .aload_n 0, 1), (88, .invokevirtual 640, 3), (91, .aload_n 0, 1), (92, .dup, 1), (93, .getfield 615, 3), (96, .iconst 1, 1), (97, .iadd, 1), (98, .putfield 615, 3), (101, .aload_n 0, 1), (102, .invokevirtual 643, 3), (105, .goto 143, 3), (108, .aload_n 0, 1), (109, .getfield 615, 3), (112, .ifCond .ne 10, 3), (115, .aload_n 0, 1), (116, .iconst 2, 1)]
set_option maxRecDepth 100000 in
theorem xi_ok388_1 : xi_ok cX12_sign xi_388_1 = true := by decide +kernel
def xi_388_2 : XIs := [(117, .iload_n 2, 1), (118, .invokevirtual 391, 3), (121, .return_, 1), (122, .aload_n 0, 1), (123, .invokevirtual 653, 3), (126, .aload_n 0, 1), (127, .getfield 221, 3), (130, .aload_n 0, 1), (131, .getfield 615, 3), (134, .baload, 1), (135, .istore_n 3, 1), (136, .aload_n 0, 1), (137, .getfield 224, 3), (140, .aload_n 0, 1), (141, .getfield 615, 3), (144, .laload, 1)]
set_option maxRecDepth 100000 in
theorem xi_ok388_2 : xi_ok cX12_sign xi_388_2 = true := by decide +kernel
def xi_388_3 : XIs := [(145, .lstore 4, 2), (147, .aload_n 0, 1), (148, .getfield 227, 3), (151, .aload_n 0, 1), (152, .getfield 615, 3), (155, .laload, 1), (156, .lstore 6, 2), (158, .aload_n 0, 1), (159, .dup, 1), (160, .getfield 615, 3), (163, .iconst 1, 1), (164, .isub, 1), (165, .putfield 615, 3), (168, .aload_n 0, 1), (169, .iload_n 3, 1), (170, .lload 4, 2)]
set_option maxRecDepth 100000 in
theorem xi_ok388_3 : xi_ok cX12_sign xi_388_3 = true := by decide +kernel
def xi_388_4 : XIs := [(172, .lload 6, 2), (174, .invokevirtual 646, 3), (177, .goto 71, 3), (180, .aload_n 0, 1), (181, .getfield 624, 3), (184, .ifCond .ne 10, 3), (187, .aload_n 0, 1), (188, .iconst 2, 1), (189, .iload_n 2, 1), (190, .invokevirtual 391, 3), (193, .return_, 1), (194, .iload_n 1, 1), (195, .bipush 63, 2), (197, .if_icmp .eq 15, 3), (200, .aload_n 0, 1), (201, .aload_n 0, 1)]
set_option maxRecDepth 100000 in
theorem xi_ok388_4 : xi_ok cX12_sign xi_388_4 = true := by decide +kernel
