def xi_267_15 : XIs := [(505, .putfield 190, 3), (508, .aload_n 0, 1), (509, .bipush 32, 2), (511, .newarray .int, 2), (513, .putfield 193, 3), (516, .aload_n 0, 1), (517, .bipush 32, 2), (519, .newarray .int, 2), (521, .putfield 196, 3), (524, .aload_n 0, 1), (525, .sipush 1024, 3), (528, .newarray .int, 2), (530, .putfield 199, 3), (533, .aload_n 0, 1), (534, .bipush 60, 2), (536, .newarray .int, 2)]
set_option maxRecDepth 100000 in
theorem xi_ok267_15 : xi_ok cX12_init xi_267_15 = true := by decide +kernel
def xi_267_16 : XIs := [(538, .putfield 202, 3), (541, .aload_n 0, 1), (542, .bipush 60, 2), (544, .newarray .long, 2), (546, .putfield 205, 3), (549, .aload_n 0, 1), (550, .iconst 1, 1), (551, .putfield 208, 3), (554, .aload_n 0, 1), (555, .bipush 60, 2), (557, .newarray .int, 2), (559, .putfield 212, 3), (562, .aload_n 0, 1), (563, .bipush 60, 2), (565, .newarray .long, 2), (567, .putfield 215, 3)]
set_option maxRecDepth 100000 in
theorem xi_ok267_16 : xi_ok cX12_init xi_267_16 = true := by decide +kernel
def xi_267_17 : XIs := [(570, .aload_n 0, 1), (571, .bipush 12, 2), (573, .newarray .boolean, 2), (575, .putfield 218, 3), (578, .aload_n 0, 1), (579, .bipush 12, 2), (581, .newarray .boolean, 2), (583, .putfield 221, 3), (586, .aload_n 0, 1), (587, .bipush 12, 2), (589, .newarray .long, 2), (591, .putfield 224, 3), (594, .aload_n 0, 1), (595, .bipush 12, 2), (597, .newarray .long, 2)]
set_option maxRecDepth 100000 in
theorem xi_ok267_17 : xi_ok cX12_init xi_267_17 = true := by decide +kernel
def xi_267_18 : XIs := [(599, .putfield 227, 3), (602, .aload_n 0, 1), (603, .bipush 12, 2), (605, .newarray .boolean, 2), (607, .putfield 230, 3), (610, .aload_n 0, 1), (611, .bipush 12, 2), (613, .newarray .long, 2), (615, .putfield 233, 3), (618, .aload_n 0, 1), (619, .bipush 12, 2), (621, .newarray .long, 2), (623, .putfield 236, 3), (626, .aload_n 0, 1), (627, .sipush 2000, 3)]
set_option maxRecDepth 100000 in
theorem xi_ok267_18 : xi_ok cX12_init xi_267_18 = true := by decide +kernel
def xi_267_19 : XIs := [(630, .newarray .int, 2), (632, .putfield 239, 3), (635, .aload_n 0, 1), (636, .sipush 400, 3), (639, .newarray .int, 2), (641, .putfield 242, 3), (644, .aload_n 0, 1), (645, .sipush 400, 3), (648, .newarray .int, 2), (650, .putfield 245, 3), (653, .aload_n 0, 1), (654, .iconst 3, 1), (655, .newarray .int, 2), (657, .putfield 248, 3)]
set_option maxRecDepth 100000 in
theorem xi_ok267_19 : xi_ok cX12_init xi_267_19 = true := by decide +kernel
def xi_267_20 : XIs := [(660, .aload_n 0, 1), (661, .sipush 400, 3), (664, .newarray .int, 2), (666, .putfield 251, 3), (669, .aload_n 0, 1), (670, .sipush 400, 3), (673, .newarray .int, 2), (675, .putfield 254, 3), (678, .aload_n 0, 1), (679, .iconst 3, 1), (680, .newarray .int, 2), (682, .putfield 257, 3), (685, .aload_n 0, 1)]
set_option maxRecDepth 100000 in
theorem xi_ok267_20 : xi_ok cX12_init xi_267_20 = true := by decide +kernel
def xi_267_21 : XIs := [(686, .sipush 200, 3), (689, .newarray .int, 2), (691, .putfield 260, 3), (694, .aload_n 0, 1), (695, .bipush 32, 2), (697, .newarray .long, 2), (699, .putfield 263, 3), (702, .aload_n 0, 1), (703, .bipush 32, 2), (705, .newarray .long, 2), (707, .putfield 266, 3), (710, .aload_n 0, 1), (711, .sipush 200, 3)]
set_option maxRecDepth 100000 in
theorem xi_ok267_21 : xi_ok cX12_init xi_267_21 = true := by decide +kernel
def xi_267_22 : XIs := [(714, .newarray .long, 2), (716, .putfield 269, 3), (719, .aload_n 0, 1), (720, .bipush 9, 2), (722, .newarray .long, 2), (724, .putfield 272, 3), (727, .aload_n 0, 1), (728, .invokevirtual 275, 3), (731, .return_, 1)]
set_option maxRecDepth 100000 in
theorem xi_ok267_22 : xi_ok cX12_init xi_267_22 = true := by decide +kernel
def xi_267 (pc : Nat) : XIs := cond (Nat.blt pc 373) (cond (Nat.blt pc 174) (cond (Nat.blt pc 68) (cond (Nat.blt pc 32) (xi_267_0) (xi_267_1)) (cond (Nat.blt pc 104) (xi_267_2) (cond (Nat.blt pc 138) (xi_267_3) (xi_267_4)))) (cond (Nat.blt pc 275) (cond (Nat.blt pc 207) (xi_267_5) (cond (Nat.blt pc 242) (xi_267_6) (xi_267_7))) (cond (Nat.blt pc 307) (xi_267_8) (cond (Nat.blt pc 340) (xi_267_9) (xi_267_10))))) (cond (Nat.blt pc 570) (cond (Nat.blt pc 473) (cond (Nat.blt pc 408) (xi_267_11) (cond (Nat.blt pc 440) (xi_267_12) (xi_267_13))) (cond (Nat.blt pc 505) (xi_267_14) (cond (Nat.blt pc 538) (xi_267_15) (xi_267_16)))) (cond (Nat.blt pc 660) (cond (Nat.blt pc 599) (xi_267_17) (cond (Nat.blt pc 630) (xi_267_18) (xi_267_19))) (cond (Nat.blt pc 686) (xi_267_20) (cond (Nat.blt pc 714) (xi_267_21) (xi_267_22)))))
theorem xi_ok267 (pc : Nat) : xi_ok cX12_init (xi_267 pc) = true := xi_c (xi_c (xi_c (xi_c (xi_ok267_0) (xi_ok267_1)) (xi_c (xi_ok267_2) (xi_c (xi_ok267_3) (xi_ok267_4)))) (xi_c (xi_c (xi_ok267_5) (xi_c (xi_ok267_6) (xi_ok267_7))) (xi_c (xi_ok267_8) (xi_c (xi_ok267_9) (xi_ok267_10))))) (xi_c (xi_c (xi_c (xi_ok267_11) (xi_c (xi_ok267_12) (xi_ok267_13))) (xi_c (xi_ok267_14) (xi_c (xi_ok267_15) (xi_ok267_16)))) (xi_c (xi_c (xi_ok267_17) (xi_c (xi_ok267_18) (xi_ok267_19))) (xi_c (xi_ok267_20) (xi_c (xi_ok267_21) (xi_ok267_22)))))
def xi_268_0 : XIs := [(0, .aload_n 0, 1), (1, .getfield 278, 3), (4, .ireturn, 1)]
set_option maxRecDepth 100000 in
theorem xi_ok268_0 : xi_ok cX12_thrown xi_268_0 = true := by decide +kernel
def xi_268 (pc : Nat) : XIs := xi_268_0
theorem xi_ok268 (pc : Nat) : xi_ok cX12_thrown (xi_268 pc) = true := xi_ok268_0
def xi_269_0 : XIs := [(0, .lload_n 0, 1), (1, .lload_n 2, 1), (2, .lcmp, 1), (3, .ifCond .lt 14, 3), (6, .lload_n 0, 1), (7, .lload 4, 2), (9, .lcmp, 1), (10, .ifCond .gt 7, 3), (13, .iconst 1, 1), (14, .goto 4, 3), (17, .iconst 0, 1), (18, .ireturn, 1)]
set_option maxRecDepth 100000 in
theorem xi_ok269_0 : xi_ok cX12_in xi_269_0 = true := by decide +kernel
def xi_269 (pc : Nat) : XIs := xi_269_0
theorem xi_ok269 (pc : Nat) : xi_ok cX12_in (xi_269 pc) = true := xi_ok269_0
def xi_270_0 : XIs := [(0, .aload_n 0, 1), (1, .iload_n 1, 1), (2, .ifCond .ne 7, 3), (5, .iconst 1, 1), (6, .goto 12, 3), (9, .iload_n 2, 1), (10, .ifCond .ne 7, 3), (13, .iconst 2, 1), (14, .goto 4, 3), (17, .iconst 0, 1), (18, .putfield 278, 3), (21, .aload_n 0, 1), (22, .getfield 278, 3), (25, .ifCond .le 7, 3), (28, .iconst 1, 1), (29, .goto 4, 3)]
set_option maxRecDepth 100000 in
theorem xi_ok270_0 : xi_ok cX12_fails xi_270_0 = true := by decide +kernel
def xi_270_1 : XIs := [(32, .iconst 0, 1), (33, .ireturn, 1)]
set_option maxRecDepth 100000 in
theorem xi_ok270_1 : xi_ok cX12_fails xi_270_1 = true := by decide +kernel
def xi_270 (pc : Nat) : XIs := cond (Nat.blt pc 32) (xi_270_0) (xi_270_1)
theorem xi_ok270 (pc : Nat) : xi_ok cX12_fails (xi_270 pc) = true := xi_c (xi_ok270_0) (xi_ok270_1)
def xi_271_0 : XIs := [(0, .aload_n 0, 1), (1, .iload_n 1, 1), (2, .iconst 1, 1), (3, .invokevirtual 281, 3), (6, .ireturn, 1)]
set_option maxRecDepth 100000 in
theorem xi_ok271_0 : xi_ok cX12_wrongArgument xi_271_0 = true := by decide +kernel
def xi_271 (pc : Nat) : XIs := xi_271_0
theorem xi_ok271 (pc : Nat) : xi_ok cX12_wrongArgument (xi_271 pc) = true := xi_ok271_0
def xi_272_0 : XIs := [(0, .iload_n 1, 1), (1, .ifCond .lt 15, 3), (4, .iload_n 1, 1), (5, .aload_n 0, 1), (6, .getfield 285, 3), (9, .if_icmp .ge 7, 3), (12, .iconst 1, 1), (13, .goto 4, 3), (16, .iconst 0, 1), (17, .ireturn, 1)]
set_option maxRecDepth 100000 in
theorem xi_ok272_0 : xi_ok cX12_isNode xi_272_0 = true := by decide +kernel
def xi_272 (pc : Nat) : XIs := xi_272_0
theorem xi_ok272 (pc : Nat) : xi_ok cX12_isNode (xi_272 pc) = true := xi_ok272_0
def xi_273_0 : XIs := [(0, .iload_n 1, 1), (1, .ifCond .lt 28, 3), (4, .iload_n 1, 1), (5, .sipush 160, 3), (8, .if_icmp .ge 21, 3), (11, .aload_n 0, 1), (12, .getfield 16, 3), (15, .aload_n 0, 1), (16, .getfield 288, 3), (19, .iload_n 1, 1), (20, .iadd, 1), (21, .baload, 1), (22, .ifCond .eq 7, 3), (25, .iconst 1, 1), (26, .goto 4, 3), (29, .iconst 0, 1)]
set_option maxRecDepth 100000 in
theorem xi_ok273_0 : xi_ok cX12_isArc xi_273_0 = true := by decide +kernel
def xi_273_1 : XIs := [(30, .ireturn, 1)]
set_option maxRecDepth 100000 in
theorem xi_ok273_1 : xi_ok cX12_isArc xi_273_1 = true := by decide +kernel
def xi_273 (pc : Nat) : XIs := cond (Nat.blt pc 30) (xi_273_0) (xi_273_1)
theorem xi_ok273 (pc : Nat) : xi_ok cX12_isArc (xi_273 pc) = true := xi_c (xi_ok273_0) (xi_ok273_1)
def xi_274_0 : XIs := [(0, .aload_n 0, 1), (1, .getfield 35, 3), (4, .aload_n 0, 1), (5, .getfield 291, 3), (8, .iload_n 1, 1), (9, .iastore, 1), (10, .aload_n 0, 1), (11, .getfield 38, 3), (14, .aload_n 0, 1), (15, .getfield 291, 3), (18, .iload_n 2, 1), (19, .iastore, 1), (20, .aload_n 0, 1), (21, .getfield 41, 3), (24, .aload_n 0, 1), (25, .getfield 291, 3)]
set_option maxRecDepth 100000 in
theorem xi_ok274_0 : xi_ok cX12_make xi_274_0 = true := by decide +kernel
def xi_274_1 : XIs := [(28, .iload_n 3, 1), (29, .iastore, 1), (30, .aload_n 0, 1), (31, .getfield 44, 3), (34, .aload_n 0, 1), (35, .getfield 291, 3), (38, .iload 4, 2), (40, .iastore, 1), (41, .aload_n 0, 1), (42, .getfield 47, 3), (45, .aload_n 0, 1), (46, .getfield 291, 3), (49, .iload 5, 2), (51, .iastore, 1), (52, .aload_n 0, 1), (53, .getfield 50, 3)]
set_option maxRecDepth 100000 in
theorem xi_ok274_1 : xi_ok cX12_make xi_274_1 = true := by decide +kernel
def xi_274_2 : XIs := [(56, .aload_n 0, 1), (57, .getfield 291, 3), (60, .iload 6, 2), (62, .iastore, 1), (63, .aload_n 0, 1), (64, .getfield 53, 3), (67, .aload_n 0, 1), (68, .getfield 291, 3), (71, .iload 7, 2), (73, .iastore, 1), (74, .aload_n 0, 1), (75, .aload_n 0, 1), (76, .getfield 291, 3), (79, .iconst 0, 1), (80, .invokevirtual 294, 3), (83, .aload_n 0, 1)]
set_option maxRecDepth 100000 in
theorem xi_ok274_2 : xi_ok cX12_make xi_274_2 = true := by decide +kernel
def xi_274_3 : XIs := [(84, .dup, 1), (85, .getfield 291, 3), (88, .iconst 1, 1), (89, .iadd, 1), (90, .putfield 291, 3), (93, .aload_n 0, 1), (94, .invokevirtual 298, 3), (97, .return_, 1)]
set_option maxRecDepth 100000 in
theorem xi_ok274_3 : xi_ok cX12_make xi_274_3 = true := by decide +kernel
def xi_274 (pc : Nat) : XIs := cond (Nat.blt pc 56) (cond (Nat.blt pc 28) (xi_274_0) (xi_274_1)) (cond (Nat.blt pc 84) (xi_274_2) (xi_274_3))
theorem xi_ok274 (pc : Nat) : xi_ok cX12_make (xi_274 pc) = true := xi_c (xi_c (xi_ok274_0) (xi_ok274_1)) (xi_c (xi_ok274_2) (xi_ok274_3))
def xi_275_0 : XIs := [(0, .sipush 160, 3), (3, .iload_n 2, 1), (4, .imul, 1), (5, .aload_n 0, 1), (6, .getfield 38, 3), (9, .iload_n 1, 1), (10, .iaload, 1), (11, .iadd, 1), (12, .istore_n 3, 1), (13, .aload_n 0, 1), (14, .getfield 35, 3), (17, .iload_n 1, 1), (18, .iaload, 1), (19, .tableswitch 208 0 3 #[29, 64, 134, 144], 29), (48, .aload_n 0, 1), (49, .getfield 13, 3)]
set_option maxRecDepth 100000 in
theorem xi_ok275_0 : xi_ok cX12_apply xi_275_0 = true := by decide +kernel
def xi_275_1 : XIs := [(52, .bipush 32, 2), (54, .iload_n 2, 1), (55, .imul, 1), (56, .aload_n 0, 1), (57, .getfield 7, 3), (60, .iload_n 2, 1), (61, .iaload, 1), (62, .iadd, 1), (63, .aload_n 0, 1), (64, .getfield 38, 3), (67, .iload_n 1, 1), (68, .iaload, 1), (69, .iastore, 1), (70, .aload_n 0, 1), (71, .getfield 7, 3), (74, .iload_n 2, 1)]
set_option maxRecDepth 100000 in
theorem xi_ok275_1 : xi_ok cX12_apply xi_275_1 = true := by decide +kernel
def xi_275_2 : XIs := [(75, .dup2, 1), (76, .iaload, 1), (77, .iconst 1, 1), (78, .iadd, 1), (79, .iastore, 1), (80, .goto 169, 3), (83, .aload_n 0, 1), (84, .getfield 16, 3), (87, .iload_n 3, 1), (88, .iconst 1, 1), (89, .bastore, 1), (90, .aload_n 0, 1), (91, .getfield 20, 3), (94, .iload_n 3, 1), (95, .aload_n 0, 1), (96, .getfield 41, 3)]
set_option maxRecDepth 100000 in
theorem xi_ok275_2 : xi_ok cX12_apply xi_275_2 = true := by decide +kernel
def xi_275_3 : XIs := [(99, .iload_n 1, 1), (100, .iaload, 1), (101, .iastore, 1), (102, .aload_n 0, 1), (103, .getfield 23, 3), (106, .iload_n 3, 1), (107, .aload_n 0, 1), (108, .getfield 44, 3), (111, .iload_n 1, 1), (112, .iaload, 1), (113, .iastore, 1), (114, .aload_n 0, 1), (115, .getfield 26, 3), (118, .iload_n 3, 1), (119, .aload_n 0, 1), (120, .getfield 47, 3)]
set_option maxRecDepth 100000 in
theorem xi_ok275_3 : xi_ok cX12_apply xi_275_3 = true := by decide +kernel
def xi_275_4 : XIs := [(123, .iload_n 1, 1), (124, .iaload, 1), (125, .iastore, 1), (126, .aload_n 0, 1), (127, .getfield 29, 3), (130, .iload_n 3, 1), (131, .aload_n 0, 1), (132, .getfield 50, 3), (135, .iload_n 1, 1), (136, .iaload, 1), (137, .iastore, 1), (138, .aload_n 0, 1), (139, .getfield 32, 3), (142, .iload_n 3, 1), (143, .aload_n 0, 1), (144, .getfield 53, 3)]
set_option maxRecDepth 100000 in
theorem xi_ok275_4 : xi_ok cX12_apply xi_275_4 = true := by decide +kernel
def xi_275_5 : XIs := [(147, .iload_n 1, 1), (148, .iaload, 1), (149, .iastore, 1), (150, .goto 99, 3), (153, .aload_n 0, 1), (154, .getfield 16, 3), (157, .iload_n 3, 1), (158, .iconst 0, 1), (159, .bastore, 1), (160, .goto 89, 3), (163, .aload_n 0, 1), (164, .getfield 41, 3), (167, .iload_n 1, 1), (168, .iaload, 1), (169, .ifCond .ne 18, 3), (172, .aload_n 0, 1)]
set_option maxRecDepth 100000 in
theorem xi_ok275_5 : xi_ok cX12_apply xi_275_5 = true := by decide +kernel
def xi_275_6 : XIs := [(173, .getfield 26, 3), (176, .iload_n 3, 1), (177, .aload_n 0, 1), (178, .getfield 44, 3), (181, .iload_n 1, 1), (182, .iaload, 1), (183, .iastore, 1), (184, .goto 65, 3), (187, .aload_n 0, 1), (188, .getfield 41, 3), (191, .iload_n 1, 1), (192, .iaload, 1), (193, .iconst 1, 1), (194, .if_icmp .ne 18, 3), (197, .aload_n 0, 1), (198, .getfield 29, 3)]
set_option maxRecDepth 100000 in
theorem xi_ok275_6 : xi_ok cX12_apply xi_275_6 = true := by decide +kernel
def xi_275_7 : XIs := [(201, .iload_n 3, 1), (202, .aload_n 0, 1), (203, .getfield 44, 3), (206, .iload_n 1, 1), (207, .iaload, 1), (208, .iastore, 1), (209, .goto 40, 3), (212, .aload_n 0, 1), (213, .getfield 32, 3), (216, .iload_n 3, 1), (217, .aload_n 0, 1), (218, .getfield 44, 3), (221, .iload_n 1, 1), (222, .iaload, 1), (223, .iastore, 1), (224, .goto 25, 3)]
set_option maxRecDepth 100000 in
theorem xi_ok275_7 : xi_ok cX12_apply xi_275_7 = true := by decide +kernel
def xi_275_8 : XIs := [(227, .aload_n 0, 1), (228, .getfield 13, 3), (231, .bipush 32, 2), (233, .iload_n 2, 1), (234, .imul, 1), (235, .aload_n 0, 1), (236, .getfield 38, 3), (239, .iload_n 1, 1), (240, .iaload, 1), (241, .iadd, 1), (242, .aload_n 0, 1), (243, .getfield 41, 3), (246, .iload_n 1, 1), (247, .iaload, 1), (248, .iastore, 1), (249, .return_, 1)]
set_option maxRecDepth 100000 in
theorem xi_ok275_8 : xi_ok cX12_apply xi_275_8 = true := by decide +kernel
def xi_275 (pc : Nat) : XIs := cond (Nat.blt pc 123) (cond (Nat.blt pc 75) (cond (Nat.blt pc 52) (xi_275_0) (xi_275_1)) (cond (Nat.blt pc 99) (xi_275_2) (xi_275_3))) (cond (Nat.blt pc 173) (cond (Nat.blt pc 147) (xi_275_4) (xi_275_5)) (cond (Nat.blt pc 201) (xi_275_6) (cond (Nat.blt pc 227) (xi_275_7) (xi_275_8))))
theorem xi_ok275 (pc : Nat) : xi_ok cX12_apply (xi_275 pc) = true := xi_c (xi_c (xi_c (xi_ok275_0) (xi_ok275_1)) (xi_c (xi_ok275_2) (xi_ok275_3))) (xi_c (xi_c (xi_ok275_4) (xi_ok275_5)) (xi_c (xi_ok275_6) (xi_c (xi_ok275_7) (xi_ok275_8))))
def xi_276_0 : XIs := [(0, .aload_n 0, 1), (1, .aload_n 0, 1), (2, .getfield 56, 3), (5, .ifCond .ge 7, 3), (8, .iconst 0, 1), (9, .goto 4, 3), (12, .iconst 1, 1), (13, .putfield 301, 3), (16, .aload_n 0, 1), (17, .sipush 160, 3), (20, .aload_n 0, 1), (21, .getfield 301, 3), (24, .imul, 1), (25, .putfield 288, 3), (28, .aload_n 0, 1), (29, .aload_n 0, 1)]
set_option maxRecDepth 100000 in
theorem xi_ok276_0 : xi_ok cX12_look xi_276_0 = true := by decide +kernel
def xi_276_1 : XIs := [(30, .getfield 7, 3), (33, .aload_n 0, 1), (34, .getfield 301, 3), (37, .iaload, 1), (38, .putfield 285, 3), (41, .return_, 1)]
set_option maxRecDepth 100000 in
theorem xi_ok276_1 : xi_ok cX12_look xi_276_1 = true := by decide +kernel
def xi_276 (pc : Nat) : XIs := cond (Nat.blt pc 30) (xi_276_0) (xi_276_1)
theorem xi_ok276 (pc : Nat) : xi_ok cX12_look (xi_276 pc) = true := xi_c (xi_ok276_0) (xi_ok276_1)
def xi_277_0 : XIs := [(0, .iload_n 1, 1), (1, .ifCond .lt 17, 3), (4, .iload_n 1, 1), (5, .aload_n 0, 1), (6, .getfield 7, 3), (9, .iconst 0, 1), (10, .iaload, 1), (11, .if_icmp .ge 7, 3), (14, .iconst 1, 1), (15, .goto 4, 3), (18, .iconst 0, 1), (19, .ireturn, 1)]
set_option maxRecDepth 100000 in
theorem xi_ok277_0 : xi_ok cX12_isNewNode xi_277_0 = true := by decide +kernel
def xi_277 (pc : Nat) : XIs := xi_277_0
theorem xi_ok277 (pc : Nat) : xi_ok cX12_isNewNode (xi_277 pc) = true := xi_ok277_0
def xi_278_0 : XIs := [(0, .iload_n 1, 1), (1, .ifCond .lt 23, 3), (4, .iload_n 1, 1), (5, .sipush 160, 3), (8, .if_icmp .ge 16, 3), (11, .aload_n 0, 1), (12, .getfield 16, 3), (15, .iload_n 1, 1), (16, .baload, 1), (17, .ifCond .eq 7, 3), (20, .iconst 1, 1), (21, .goto 4, 3), (24, .iconst 0, 1), (25, .ireturn, 1)]
set_option maxRecDepth 100000 in
theorem xi_ok278_0 : xi_ok cX12_isNewArc xi_278_0 = true := by decide +kernel
def xi_278 (pc : Nat) : XIs := xi_278_0
theorem xi_ok278 (pc : Nat) : xi_ok cX12_isNewArc (xi_278 pc) = true := xi_ok278_0
def xi_279_0 : XIs := [(0, .iload_n 0, 1), (1, .i2l, 1), (2, .ldc2_w 304, 3), (5, .ldc2_w 306, 3), (8, .invokestatic 308, 3), (11, .ireturn, 1)]
set_option maxRecDepth 100000 in
theorem xi_ok279_0 : xi_ok cX12_isWeight xi_279_0 = true := by decide +kernel
def xi_279 (pc : Nat) : XIs := xi_279_0
theorem xi_ok279 (pc : Nat) : xi_ok cX12_isWeight (xi_279 pc) = true := xi_ok279_0
def xi_280_0 : XIs := [(0, .iconst 0, 1), (1, .istore_n 2, 1), (2, .iload_n 2, 1), (3, .sipush 160, 3), (6, .if_icmp .ge 24, 3), (9, .aload_n 0, 1), (10, .getfield 16, 3), (13, .sipush 160, 3), (16, .iload_n 1, 1), (17, .imul, 1), (18, .iload_n 2, 1), (19, .iadd, 1), (20, .baload, 1), (21, .ifCond .eq 9, 3), (24, .iinc 2 1, 3), (27, .goto (-25), 3)]
set_option maxRecDepth 100000 in
theorem xi_ok280_0 : xi_ok cX12_freePlace xi_280_0 = true := by decide +kernel
def xi_280_1 : XIs := [(30, .iload_n 2, 1), (31, .ireturn, 1)]
set_option maxRecDepth 100000 in
theorem xi_ok280_1 : xi_ok cX12_freePlace xi_280_1 = true := by decide +kernel
def xi_280 (pc : Nat) : XIs := cond (Nat.blt pc 30) (xi_280_0) (xi_280_1)
theorem xi_ok280 (pc : Nat) : xi_ok cX12_freePlace (xi_280 pc) = true := xi_c (xi_ok280_0) (xi_ok280_1)
def xi_281_0 : XIs := [(0, .aload_n 0, 1), (1, .iload_n 1, 1), (2, .i2l, 1), (3, .lconst 0, 1), (4, .ldc2_w 312, 3), (7, .invokestatic 308, 3), (10, .aload_n 0, 1), (11, .getfield 7, 3), (14, .iconst 0, 1), (15, .iaload, 1), (16, .bipush 32, 2), (18, .if_icmp .ge 17, 3), (21, .aload_n 0, 1), (22, .getfield 291, 3), (25, .sipush 4000, 3), (28, .if_icmp .ge 7, 3)]
set_option maxRecDepth 100000 in
theorem xi_ok281_0 : xi_ok cX12_node xi_281_0 = true := by decide +kernel
def xi_281_1 : XIs := [(31, .iconst 1, 1), (32, .goto 4, 3), (35, .iconst 0, 1), (36, .invokevirtual 281, 3), (39, .ifCond .eq 5, 3), (42, .iconst 0, 1), (43, .ireturn, 1), (44, .aload_n 0, 1), (45, .iconst 0, 1), (46, .iload_n 1, 1), (47, .iconst 0, 1), (48, .iconst 0, 1), (49, .iconst 0, 1), (50, .iconst 0, 1), (51, .iconst 0, 1), (52, .invokevirtual 314, 3)]
set_option maxRecDepth 100000 in
theorem xi_ok281_1 : xi_ok cX12_node xi_281_1 = true := by decide +kernel
def xi_281_2 : XIs := [(55, .aload_n 0, 1), (56, .getfield 7, 3), (59, .iconst 0, 1), (60, .iaload, 1), (61, .iconst 1, 1), (62, .isub, 1), (63, .ireturn, 1)]
set_option maxRecDepth 100000 in
theorem xi_ok281_2 : xi_ok cX12_node xi_281_2 = true := by decide +kernel
def xi_281 (pc : Nat) : XIs := cond (Nat.blt pc 31) (xi_281_0) (cond (Nat.blt pc 55) (xi_281_1) (xi_281_2))
theorem xi_ok281 (pc : Nat) : xi_ok cX12_node (xi_281 pc) = true := xi_c (xi_ok281_0) (xi_c (xi_ok281_1) (xi_ok281_2))
def xi_282_0 : XIs := [(0, .aload_n 0, 1), (1, .aload_n 0, 1), (2, .iload_n 1, 1), (3, .invokevirtual 318, 3), (6, .ifCond .eq 48, 3), (9, .aload_n 0, 1), (10, .iload_n 2, 1), (11, .invokevirtual 318, 3), (14, .ifCond .eq 40, 3), (17, .iload_n 3, 1), (18, .invokestatic 322, 3), (21, .ifCond .eq 33, 3), (24, .iload 4, 2), (26, .i2l, 1), (27, .lconst 0, 1), (28, .ldc2_w 306, 3)]
set_option maxRecDepth 100000 in
theorem xi_ok282_0 : xi_ok cX12_arc xi_282_0 = true := by decide +kernel
def xi_282_1 : XIs := [(31, .invokestatic 308, 3), (34, .ifCond .eq 20, 3), (37, .iload 5, 2), (39, .i2l, 1), (40, .lconst 0, 1), (41, .ldc2_w 312, 3), (44, .invokestatic 308, 3), (47, .ifCond .eq 7, 3), (50, .iconst 1, 1), (51, .goto 4, 3), (54, .iconst 0, 1), (55, .aload_n 0, 1), (56, .getfield 291, 3), (59, .sipush 4000, 3), (62, .if_icmp .ge 7, 3), (65, .iconst 1, 1)]
set_option maxRecDepth 100000 in
theorem xi_ok282_1 : xi_ok cX12_arc xi_282_1 = true := by decide +kernel
def xi_282_2 : XIs := [(66, .goto 4, 3), (69, .iconst 0, 1), (70, .invokevirtual 281, 3), (73, .ifCond .eq 5, 3), (76, .iconst 0, 1), (77, .ireturn, 1), (78, .aload_n 0, 1), (79, .iconst 0, 1), (80, .invokevirtual 325, 3), (83, .istore 6, 2), (85, .iload 6, 2), (87, .sipush 160, 3), (90, .if_icmp .ne 6, 3), (93, .bipush (-3), 2), (95, .ireturn, 1), (96, .aload_n 0, 1)]
set_option maxRecDepth 100000 in
theorem xi_ok282_2 : xi_ok cX12_arc xi_282_2 = true := by decide +kernel
def xi_282_3 : XIs := [(97, .iconst 1, 1), (98, .iload 6, 2), (100, .iload_n 1, 1), (101, .iload_n 2, 1), (102, .iload_n 3, 1), (103, .iload 4, 2), (105, .iload 5, 2), (107, .invokevirtual 314, 3), (110, .iload 6, 2), (112, .ireturn, 1)]
set_option maxRecDepth 100000 in
theorem xi_ok282_3 : xi_ok cX12_arc xi_282_3 = true := by decide +kernel
def xi_282 (pc : Nat) : XIs := cond (Nat.blt pc 66) (cond (Nat.blt pc 31) (xi_282_0) (xi_282_1)) (cond (Nat.blt pc 97) (xi_282_2) (xi_282_3))
theorem xi_ok282 (pc : Nat) : xi_ok cX12_arc (xi_282 pc) = true := xi_c (xi_c (xi_ok282_0) (xi_ok282_1)) (xi_c (xi_ok282_2) (xi_ok282_3))
def xi_283_0 : XIs := [(0, .aload_n 0, 1), (1, .aload_n 0, 1), (2, .iload_n 1, 1), (3, .invokevirtual 329, 3), (6, .aload_n 0, 1), (7, .getfield 291, 3), (10, .sipush 4000, 3), (13, .if_icmp .ge 7, 3), (16, .iconst 1, 1), (17, .goto 4, 3), (20, .iconst 0, 1), (21, .invokevirtual 281, 3), (24, .ifCond .eq 5, 3), (27, .iconst 0, 1), (28, .ireturn, 1), (29, .aload_n 0, 1)]
set_option maxRecDepth 100000 in
theorem xi_ok283_0 : xi_ok cX12_take xi_283_0 = true := by decide +kernel
def xi_283_1 : XIs := [(30, .iconst 2, 1), (31, .iload_n 1, 1), (32, .iconst 0, 1), (33, .iconst 0, 1), (34, .iconst 0, 1), (35, .iconst 0, 1), (36, .iconst 0, 1), (37, .invokevirtual 314, 3), (40, .aload_n 0, 1), (41, .getfield 291, 3), (44, .ireturn, 1)]
set_option maxRecDepth 100000 in
theorem xi_ok283_1 : xi_ok cX12_take xi_283_1 = true := by decide +kernel
def xi_283 (pc : Nat) : XIs := cond (Nat.blt pc 30) (xi_283_0) (xi_283_1)
theorem xi_ok283 (pc : Nat) : xi_ok cX12_take (xi_283 pc) = true := xi_c (xi_ok283_0) (xi_ok283_1)
def xi_284_0 : XIs := [(0, .iload_n 2, 1), (1, .ifCond .ne 10, 3), (4, .iload_n 3, 1), (5, .invokestatic 322, 3), (8, .goto 42, 3), (11, .iload_n 2, 1), (12, .iconst 1, 1), (13, .if_icmp .ne 15, 3), (16, .iload_n 3, 1), (17, .i2l, 1), (18, .lconst 0, 1), (19, .ldc2_w 306, 3), (22, .invokestatic 308, 3), (25, .goto 25, 3), (28, .iload_n 2, 1), (29, .iconst 2, 1)]
set_option maxRecDepth 100000 in
theorem xi_ok284_0 : xi_ok cX12_set xi_284_0 = true := by decide +kernel
def xi_284_1 : XIs := [(30, .if_icmp .ne 19, 3), (33, .iload_n 3, 1), (34, .i2l, 1), (35, .lconst 0, 1), (36, .ldc2_w 312, 3), (39, .invokestatic 308, 3), (42, .ifCond .eq 7, 3), (45, .iconst 1, 1), (46, .goto 4, 3), (49, .iconst 0, 1), (50, .istore 4, 2), (52, .aload_n 0, 1), (53, .aload_n 0, 1), (54, .iload_n 1, 1), (55, .invokevirtual 329, 3), (58, .ifCond .eq 12, 3)]
set_option maxRecDepth 100000 in
theorem xi_ok284_1 : xi_ok cX12_set xi_284_1 = true := by decide +kernel
def xi_284_2 : XIs := [(61, .iload 4, 2), (63, .ifCond .eq 7, 3), (66, .iconst 1, 1), (67, .goto 4, 3), (70, .iconst 0, 1), (71, .aload_n 0, 1), (72, .getfield 291, 3), (75, .sipush 4000, 3), (78, .if_icmp .ge 7, 3), (81, .iconst 1, 1), (82, .goto 4, 3), (85, .iconst 0, 1), (86, .invokevirtual 281, 3), (89, .ifCond .eq 5, 3), (92, .iconst 0, 1), (93, .ireturn, 1)]
set_option maxRecDepth 100000 in
theorem xi_ok284_2 : xi_ok cX12_set xi_284_2 = true := by decide +kernel
def xi_284_3 : XIs := [(94, .iload_n 2, 1), (95, .ifCond .ne 12, 3), (98, .aload_n 0, 1), (99, .getfield 26, 3), (102, .iload_n 1, 1), (103, .iaload, 1), (104, .goto 23, 3), (107, .iload_n 2, 1), (108, .iconst 1, 1), (109, .if_icmp .ne 12, 3), (112, .aload_n 0, 1), (113, .getfield 29, 3), (116, .iload_n 1, 1), (117, .iaload, 1), (118, .goto 9, 3), (121, .aload_n 0, 1)]
set_option maxRecDepth 100000 in
theorem xi_ok284_3 : xi_ok cX12_set xi_284_3 = true := by decide +kernel
def xi_284_4 : XIs := [(122, .getfield 32, 3), (125, .iload_n 1, 1), (126, .iaload, 1), (127, .istore 5, 2), (129, .aload_n 0, 1), (130, .iconst 3, 1), (131, .iload_n 1, 1), (132, .iload_n 2, 1), (133, .iload_n 3, 1), (134, .iconst 0, 1), (135, .iconst 0, 1), (136, .iconst 0, 1), (137, .invokevirtual 314, 3), (140, .iload 5, 2), (142, .ireturn, 1)]
set_option maxRecDepth 100000 in
theorem xi_ok284_4 : xi_ok cX12_set xi_284_4 = true := by decide +kernel
def xi_284 (pc : Nat) : XIs := cond (Nat.blt pc 61) (cond (Nat.blt pc 30) (xi_284_0) (xi_284_1)) (cond (Nat.blt pc 94) (xi_284_2) (cond (Nat.blt pc 122) (xi_284_3) (xi_284_4)))
theorem xi_ok284 (pc : Nat) : xi_ok cX12_set (xi_284 pc) = true := xi_c (xi_c (xi_ok284_0) (xi_ok284_1)) (xi_c (xi_ok284_2) (xi_c (xi_ok284_3) (xi_ok284_4)))
def xi_285_0 : XIs := [(0, .aload_n 0, 1), (1, .aload_n 0, 1), (2, .iload_n 1, 1), (3, .invokevirtual 318, 3), (6, .ifCond .eq 19, 3), (9, .iload_n 2, 1), (10, .i2l, 1), (11, .lconst 0, 1), (12, .ldc2_w 312, 3), (15, .invokestatic 308, 3), (18, .ifCond .eq 7, 3), (21, .iconst 1, 1), (22, .goto 4, 3), (25, .iconst 0, 1), (26, .aload_n 0, 1), (27, .getfield 291, 3)]
set_option maxRecDepth 100000 in
theorem xi_ok285_0 : xi_ok cX12_label xi_285_0 = true := by decide +kernel
def xi_285_1 : XIs := [(30, .sipush 4000, 3), (33, .if_icmp .ge 7, 3), (36, .iconst 1, 1), (37, .goto 4, 3), (40, .iconst 0, 1), (41, .invokevirtual 281, 3), (44, .ifCond .eq 5, 3), (47, .iconst 0, 1), (48, .ireturn, 1), (49, .aload_n 0, 1), (50, .getfield 13, 3), (53, .iload_n 1, 1), (54, .iaload, 1), (55, .istore_n 3, 1), (56, .aload_n 0, 1), (57, .iconst 4, 1)]
set_option maxRecDepth 100000 in
theorem xi_ok285_1 : xi_ok cX12_label xi_285_1 = true := by decide +kernel
def xi_285_2 : XIs := [(58, .iload_n 1, 1), (59, .iload_n 2, 1), (60, .iconst 0, 1), (61, .iconst 0, 1), (62, .iconst 0, 1), (63, .iconst 0, 1), (64, .invokevirtual 314, 3), (67, .iload_n 3, 1), (68, .ireturn, 1)]
set_option maxRecDepth 100000 in
theorem xi_ok285_2 : xi_ok cX12_label xi_285_2 = true := by decide +kernel
def xi_285 (pc : Nat) : XIs := cond (Nat.blt pc 30) (xi_285_0) (cond (Nat.blt pc 58) (xi_285_1) (xi_285_2))
theorem xi_ok285 (pc : Nat) : xi_ok cX12_label (xi_285 pc) = true := xi_c (xi_ok285_0) (xi_c (xi_ok285_1) (xi_ok285_2))
def xi_286_0 : XIs := [(0, .aload_n 0, 1), (1, .iload_n 1, 1), (2, .i2l, 1), (3, .ldc2_w 332, 3), (6, .aload_n 0, 1), (7, .getfield 291, 3), (10, .i2l, 1), (11, .invokestatic 308, 3), (14, .invokevirtual 334, 3), (17, .ifCond .eq 5, 3), (20, .iconst 0, 1), (21, .ireturn, 1), (22, .aload_n 0, 1), (23, .iload_n 1, 1), (24, .putfield 56, 3), (27, .iload_n 1, 1)]
set_option maxRecDepth 100000 in
theorem xi_ok286_0 : xi_ok cX12_view xi_286_0 = true := by decide +kernel
def xi_286_1 : XIs := [(28, .ifCond .lt 55, 3), (31, .aload_n 0, 1), (32, .getfield 7, 3), (35, .iconst 1, 1), (36, .iconst 0, 1), (37, .iastore, 1), (38, .iconst 0, 1), (39, .istore_n 2, 1), (40, .iload_n 2, 1), (41, .sipush 160, 3), (44, .if_icmp .ge 20, 3), (47, .aload_n 0, 1), (48, .getfield 16, 3), (51, .sipush 160, 3), (54, .iload_n 2, 1), (55, .iadd, 1)]
set_option maxRecDepth 100000 in
theorem xi_ok286_1 : xi_ok cX12_view xi_286_1 = true := by decide +kernel
def xi_286_2 : XIs := [(56, .iconst 0, 1), (57, .bastore, 1), (58, .iinc 2 1, 3), (61, .goto (-21), 3), (64, .iconst 0, 1), (65, .istore_n 2, 1), (66, .iload_n 2, 1), (67, .iload_n 1, 1), (68, .if_icmp .ge 15, 3), (71, .aload_n 0, 1), (72, .iload_n 2, 1), (73, .iconst 1, 1), (74, .invokevirtual 294, 3), (77, .iinc 2 1, 3), (80, .goto (-14), 3), (83, .aload_n 0, 1)]
set_option maxRecDepth 100000 in
theorem xi_ok286_2 : xi_ok cX12_view xi_286_2 = true := by decide +kernel
def xi_286_3 : XIs := [(84, .invokevirtual 298, 3), (87, .iload_n 1, 1), (88, .ifCond .ge 10, 3), (91, .aload_n 0, 1), (92, .getfield 291, 3), (95, .goto 4, 3), (98, .iload_n 1, 1), (99, .ireturn, 1)]
set_option maxRecDepth 100000 in
theorem xi_ok286_3 : xi_ok cX12_view xi_286_3 = true := by decide +kernel
def xi_286 (pc : Nat) : XIs := cond (Nat.blt pc 56) (cond (Nat.blt pc 28) (xi_286_0) (xi_286_1)) (cond (Nat.blt pc 84) (xi_286_2) (xi_286_3))
theorem xi_ok286 (pc : Nat) : xi_ok cX12_view (xi_286 pc) = true := xi_c (xi_c (xi_ok286_0) (xi_ok286_1)) (xi_c (xi_ok286_2) (xi_ok286_3))
def xi_287_0 : XIs := [(0, .aload_n 0, 1), (1, .iconst 0, 1), (2, .putfield 278, 3), (5, .aload_n 0, 1), (6, .getfield 291, 3), (9, .ireturn, 1)]
set_option maxRecDepth 100000 in
theorem xi_ok287_0 : xi_ok cX12_version xi_287_0 = true := by decide +kernel
def xi_287 (pc : Nat) : XIs := xi_287_0
theorem xi_ok287 (pc : Nat) : xi_ok cX12_version (xi_287 pc) = true := xi_ok287_0
def xi_288_0 : XIs := [(0, .aload_n 0, 1), (1, .getfield 16, 3), (4, .aload_n 0, 1), (5, .getfield 288, 3), (8, .iload_n 1, 1), (9, .iadd, 1), (10, .baload, 1), (11, .ifCond .eq 32, 3), (14, .aload_n 0, 1), (15, .getfield 20, 3), (18, .aload_n 0, 1), (19, .getfield 288, 3), (22, .iload_n 1, 1), (23, .iadd, 1), (24, .iaload, 1), (25, .aload_n 0, 1)]
set_option maxRecDepth 100000 in
theorem xi_ok288_0 : xi_ok cX12_isJoint xi_288_0 = true := by decide +kernel
def xi_288_1 : XIs := [(26, .getfield 23, 3), (29, .aload_n 0, 1), (30, .getfield 288, 3), (33, .iload_n 1, 1), (34, .iadd, 1), (35, .iaload, 1), (36, .if_icmp .eq 7, 3), (39, .iconst 1, 1), (40, .goto 4, 3), (43, .iconst 0, 1), (44, .ireturn, 1)]
set_option maxRecDepth 100000 in
theorem xi_ok288_1 : xi_ok cX12_isJoint xi_288_1 = true := by decide +kernel
def xi_288 (pc : Nat) : XIs := cond (Nat.blt pc 26) (xi_288_0) (xi_288_1)
theorem xi_ok288 (pc : Nat) : xi_ok cX12_isJoint (xi_288 pc) = true := xi_c (xi_ok288_0) (xi_ok288_1)
def xi_289_0 : XIs := [(0, .aload_n 0, 1), (1, .iload_n 1, 1), (2, .i2l, 1), (3, .lconst 0, 1), (4, .ldc2_w 338, 3), (7, .invokestatic 308, 3), (10, .invokevirtual 334, 3), (13, .ifCond .eq 5, 3), (16, .iconst 0, 1), (17, .ireturn, 1), (18, .iconst 0, 1), (19, .istore_n 2, 1), (20, .iconst 0, 1), (21, .istore_n 3, 1), (22, .iconst (-1), 1), (23, .istore 4, 2)]
set_option maxRecDepth 100000 in
theorem xi_ok289_0 : xi_ok cX12_size xi_289_0 = true := by decide +kernel
def xi_289_1 : XIs := [(25, .iconst 0, 1), (26, .istore 5, 2), (28, .iload 5, 2), (30, .sipush 160, 3), (33, .if_icmp .ge 73, 3), (36, .iload_n 2, 1), (37, .aload_n 0, 1), (38, .getfield 16, 3), (41, .aload_n 0, 1), (42, .getfield 288, 3), (45, .iload 5, 2), (47, .iadd, 1), (48, .baload, 1), (49, .ifCond .eq 7, 3), (52, .iconst 1, 1), (53, .goto 4, 3)]
set_option maxRecDepth 100000 in
theorem xi_ok289_1 : xi_ok cX12_size xi_289_1 = true := by decide +kernel
def xi_289_2 : XIs := [(56, .iconst 0, 1), (57, .iadd, 1), (58, .istore_n 2, 1), (59, .iload_n 3, 1), (60, .aload_n 0, 1), (61, .iload 5, 2), (63, .invokevirtual 340, 3), (66, .ifCond .eq 7, 3), (69, .iconst 1, 1), (70, .goto 4, 3), (73, .iconst 0, 1), (74, .iadd, 1), (75, .istore_n 3, 1), (76, .aload_n 0, 1), (77, .getfield 16, 3), (80, .aload_n 0, 1)]
set_option maxRecDepth 100000 in
theorem xi_ok289_2 : xi_ok cX12_size xi_289_2 = true := by decide +kernel
def xi_289_3 : XIs := [(81, .getfield 288, 3), (84, .iload 5, 2), (86, .iadd, 1), (87, .baload, 1), (88, .ifCond .eq 8, 3), (91, .iload 5, 2), (93, .goto 5, 3), (96, .iload 4, 2), (98, .istore 4, 2), (100, .iinc 5 1, 3), (103, .goto (-75), 3), (106, .iload_n 1, 1), (107, .ifCond .ne 10, 3), (110, .aload_n 0, 1), (111, .getfield 285, 3), (114, .goto 23, 3)]
set_option maxRecDepth 100000 in
theorem xi_ok289_3 : xi_ok cX12_size xi_289_3 = true := by decide +kernel
def xi_289_4 : XIs := [(117, .iload_n 1, 1), (118, .iconst 1, 1), (119, .if_icmp .ne 7, 3), (122, .iload_n 2, 1), (123, .goto 14, 3), (126, .iload_n 1, 1), (127, .iconst 2, 1), (128, .if_icmp .ne 7, 3), (131, .iload_n 3, 1), (132, .goto 5, 3), (135, .iload 4, 2), (137, .ireturn, 1)]
set_option maxRecDepth 100000 in
theorem xi_ok289_4 : xi_ok cX12_size xi_289_4 = true := by decide +kernel
def xi_289 (pc : Nat) : XIs := cond (Nat.blt pc 56) (cond (Nat.blt pc 25) (xi_289_0) (xi_289_1)) (cond (Nat.blt pc 81) (xi_289_2) (cond (Nat.blt pc 117) (xi_289_3) (xi_289_4)))
theorem xi_ok289 (pc : Nat) : xi_ok cX12_size (xi_289 pc) = true := xi_c (xi_c (xi_ok289_0) (xi_ok289_1)) (xi_c (xi_ok289_2) (xi_c (xi_ok289_3) (xi_ok289_4)))
def xi_290_0 : XIs := [(0, .aload_n 0, 1), (1, .iload_n 1, 1), (2, .i2l, 1), (3, .lconst 0, 1), (4, .ldc2_w 343, 3), (7, .invokestatic 308, 3), (10, .ifCond .eq 19, 3), (13, .iload_n 2, 1), (14, .i2l, 1), (15, .lconst 0, 1), (16, .ldc2_w 345, 3), (19, .invokestatic 308, 3), (22, .ifCond .eq 7, 3), (25, .iconst 1, 1), (26, .goto 4, 3), (29, .iconst 0, 1)]
set_option maxRecDepth 100000 in
theorem xi_ok290_0 : xi_ok cX12_told xi_290_0 = true := by decide +kernel
def xi_290_1 : XIs := [(30, .invokevirtual 334, 3), (33, .ifCond .eq 5, 3), (36, .lconst 0, 1), (37, .lreturn, 1), (38, .aload_n 0, 1), (39, .getfield 288, 3), (42, .iload_n 1, 1), (43, .iadd, 1), (44, .istore_n 3, 1), (45, .aload_n 0, 1), (46, .getfield 16, 3), (49, .iload_n 3, 1), (50, .baload, 1), (51, .ifCond .ne 7, 3), (54, .ldc2_w 347, 3), (57, .lreturn, 1)]
set_option maxRecDepth 100000 in
theorem xi_ok290_1 : xi_ok cX12_told xi_290_1 = true := by decide +kernel
def xi_290_2 : XIs := [(58, .iload_n 2, 1), (59, .ifCond .ne 13, 3), (62, .aload_n 0, 1), (63, .getfield 20, 3), (66, .iload_n 3, 1), (67, .iaload, 1), (68, .i2l, 1), (69, .goto 55, 3), (72, .iload_n 2, 1), (73, .iconst 1, 1), (74, .if_icmp .ne 13, 3), (77, .aload_n 0, 1), (78, .getfield 23, 3), (81, .iload_n 3, 1), (82, .iaload, 1), (83, .i2l, 1)]
set_option maxRecDepth 100000 in
theorem xi_ok290_2 : xi_ok cX12_told xi_290_2 = true := by decide +kernel
def xi_290_3 : XIs := [(84, .goto 40, 3), (87, .iload_n 2, 1), (88, .iconst 2, 1), (89, .if_icmp .ne 13, 3), (92, .aload_n 0, 1), (93, .getfield 26, 3), (96, .iload_n 3, 1), (97, .iaload, 1), (98, .i2l, 1), (99, .goto 25, 3), (102, .iload_n 2, 1), (103, .iconst 3, 1), (104, .if_icmp .ne 13, 3), (107, .aload_n 0, 1), (108, .getfield 29, 3), (111, .iload_n 3, 1)]
set_option maxRecDepth 100000 in
theorem xi_ok290_3 : xi_ok cX12_told xi_290_3 = true := by decide +kernel
def xi_290_4 : XIs := [(112, .iaload, 1), (113, .i2l, 1), (114, .goto 10, 3), (117, .aload_n 0, 1), (118, .getfield 32, 3), (121, .iload_n 3, 1), (122, .iaload, 1), (123, .i2l, 1), (124, .lreturn, 1)]
set_option maxRecDepth 100000 in
theorem xi_ok290_4 : xi_ok cX12_told xi_290_4 = true := by decide +kernel
def xi_290 (pc : Nat) : XIs := cond (Nat.blt pc 58) (cond (Nat.blt pc 30) (xi_290_0) (xi_290_1)) (cond (Nat.blt pc 84) (xi_290_2) (cond (Nat.blt pc 112) (xi_290_3) (xi_290_4)))
theorem xi_ok290 (pc : Nat) : xi_ok cX12_told (xi_290 pc) = true := xi_c (xi_c (xi_ok290_0) (xi_ok290_1)) (xi_c (xi_ok290_2) (xi_c (xi_ok290_3) (xi_ok290_4)))
def xi_291_0 : XIs := [(0, .aload_n 0, 1), (1, .aload_n 0, 1), (2, .iload_n 1, 1), (3, .invokevirtual 349, 3), (6, .invokevirtual 334, 3), (9, .ifCond .eq 7, 3), (12, .iconst 0, 1), (13, .goto 17, 3), (16, .aload_n 0, 1), (17, .getfield 13, 3), (20, .bipush 32, 2), (22, .aload_n 0, 1), (23, .getfield 301, 3), (26, .imul, 1), (27, .iload_n 1, 1), (28, .iadd, 1)]
set_option maxRecDepth 100000 in
theorem xi_ok291_0 : xi_ok cX12_labelOf xi_291_0 = true := by decide +kernel
def xi_291_1 : XIs := [(29, .iaload, 1), (30, .ireturn, 1)]
set_option maxRecDepth 100000 in
theorem xi_ok291_1 : xi_ok cX12_labelOf xi_291_1 = true := by decide +kernel
def xi_291 (pc : Nat) : XIs := cond (Nat.blt pc 29) (xi_291_0) (xi_291_1)
theorem xi_ok291 (pc : Nat) : xi_ok cX12_labelOf (xi_291 pc) = true := xi_c (xi_ok291_0) (xi_ok291_1)
def xi_292_0 : XIs := [(0, .aload_n 0, 1), (1, .aload_n 0, 1), (2, .iload_n 1, 1), (3, .invokevirtual 349, 3), (6, .ifCond .eq 21, 3), (9, .iload_n 2, 1), (10, .i2l, 1), (11, .lconst 0, 1), (12, .lconst 1, 1), (13, .invokestatic 308, 3), (16, .ifCond .eq 11, 3), (19, .iload_n 3, 1), (20, .ifCond .lt 7, 3), (23, .iconst 1, 1), (24, .goto 4, 3), (27, .iconst 0, 1)]
set_option maxRecDepth 100000 in
theorem xi_ok292_0 : xi_ok cX12_arcAt xi_292_0 = true := by decide +kernel
def xi_292_1 : XIs := [(28, .invokevirtual 334, 3), (31, .ifCond .eq 5, 3), (34, .iconst 0, 1), (35, .ireturn, 1), (36, .iconst 0, 1), (37, .istore 4, 2), (39, .iconst 0, 1), (40, .istore 5, 2), (42, .iload 5, 2), (44, .sipush 160, 3), (47, .if_icmp .ge 71, 3), (50, .aload_n 0, 1), (51, .getfield 16, 3), (54, .aload_n 0, 1), (55, .getfield 288, 3), (58, .iload 5, 2)]
set_option maxRecDepth 100000 in
theorem xi_ok292_1 : xi_ok cX12_arcAt xi_292_1 = true := by decide +kernel
def xi_292_2 : XIs := [(60, .iadd, 1), (61, .baload, 1), (62, .ifCond .eq 50, 3), (65, .iload_n 2, 1), (66, .ifCond .ne 18, 3), (69, .aload_n 0, 1), (70, .getfield 20, 3), (73, .aload_n 0, 1), (74, .getfield 288, 3), (77, .iload 5, 2), (79, .iadd, 1), (80, .iaload, 1), (81, .goto 15, 3), (84, .aload_n 0, 1), (85, .getfield 23, 3), (88, .aload_n 0, 1)]
set_option maxRecDepth 100000 in
theorem xi_ok292_2 : xi_ok cX12_arcAt xi_292_2 = true := by decide +kernel
def xi_292_3 : XIs := [(89, .getfield 288, 3), (92, .iload 5, 2), (94, .iadd, 1), (95, .iaload, 1), (96, .iload_n 1, 1), (97, .if_icmp .ne 15, 3), (100, .iload 4, 2), (102, .iload_n 3, 1), (103, .if_icmp .ne 6, 3), (106, .iload 5, 2), (108, .ireturn, 1), (109, .iinc 4 1, 3), (112, .iinc 5 1, 3), (115, .goto (-73), 3), (118, .iconst (-1), 1), (119, .ireturn, 1)]
set_option maxRecDepth 100000 in
theorem xi_ok292_3 : xi_ok cX12_arcAt xi_292_3 = true := by decide +kernel
def xi_292 (pc : Nat) : XIs := cond (Nat.blt pc 60) (cond (Nat.blt pc 28) (xi_292_0) (xi_292_1)) (cond (Nat.blt pc 89) (xi_292_2) (xi_292_3))
theorem xi_ok292 (pc : Nat) : xi_ok cX12_arcAt (xi_292 pc) = true := xi_c (xi_c (xi_ok292_0) (xi_ok292_1)) (xi_c (xi_ok292_2) (xi_ok292_3))
def xi_293_0 : XIs := [(0, .aload_n 0, 1), (1, .iload_n 1, 1), (2, .i2l, 1), (3, .ldc2_w 352, 3), (6, .ldc2_w 354, 3), (9, .invokestatic 308, 3), (12, .aload_n 0, 1), (13, .getfield 356, 3), (16, .sipush 1000, 3), (19, .if_icmp .ge 7, 3), (22, .iconst 1, 1), (23, .goto 4, 3), (26, .iconst 0, 1), (27, .invokevirtual 281, 3), (30, .ifCond .eq 5, 3), (33, .iconst 0, 1)]
set_option maxRecDepth 100000 in
theorem xi_ok293_0 : xi_ok cX12_type xi_293_0 = true := by decide +kernel
def xi_293_1 : XIs := [(34, .ireturn, 1), (35, .aload_n 0, 1), (36, .getfield 60, 3), (39, .aload_n 0, 1), (40, .getfield 356, 3), (43, .iload_n 1, 1), (44, .iastore, 1), (45, .aload_n 0, 1), (46, .dup, 1), (47, .getfield 356, 3), (50, .iconst 1, 1), (51, .iadd, 1), (52, .putfield 356, 3), (55, .aload_n 0, 1), (56, .getfield 356, 3), (59, .ireturn, 1)]
set_option maxRecDepth 100000 in
theorem xi_ok293_1 : xi_ok cX12_type xi_293_1 = true := by decide +kernel
def xi_293 (pc : Nat) : XIs := cond (Nat.blt pc 34) (xi_293_0) (xi_293_1)
theorem xi_ok293 (pc : Nat) : xi_ok cX12_type (xi_293 pc) = true := xi_c (xi_ok293_0) (xi_ok293_1)
def xi_294_0 : XIs := [(0, .aload_n 0, 1), (1, .iconst 0, 1), (2, .putfield 278, 3), (5, .aload_n 0, 1), (6, .getfield 356, 3), (9, .istore_n 1, 1), (10, .aload_n 0, 1), (11, .iconst 0, 1), (12, .putfield 356, 3), (15, .iload_n 1, 1), (16, .ireturn, 1)]
set_option maxRecDepth 100000 in
theorem xi_ok294_0 : xi_ok cX12_wipe xi_294_0 = true := by decide +kernel
def xi_294 (pc : Nat) : XIs := xi_294_0
theorem xi_ok294 (pc : Nat) : xi_ok cX12_wipe (xi_294 pc) = true := xi_ok294_0
def xi_295_0 : XIs := [(0, .aload_n 0, 1), (1, .iload_n 1, 1), (2, .i2l, 1), (3, .lconst 0, 1), (4, .lconst 1, 1), (5, .invokestatic 308, 3), (8, .invokevirtual 334, 3), (11, .ifCond .eq 5, 3), (14, .iconst 0, 1), (15, .ireturn, 1), (16, .aload_n 0, 1), (17, .getfield 359, 3), (20, .ifCond .ne 7, 3), (23, .iconst (-1), 1), (24, .goto 18, 3), (27, .iload_n 1, 1)]
set_option maxRecDepth 100000 in
theorem xi_ok295_0 : xi_ok cX12_fault xi_295_0 = true := by decide +kernel
def xi_295_1 : XIs := [(28, .ifCond .ne 10, 3), (31, .aload_n 0, 1), (32, .getfield 359, 3), (35, .goto 7, 3), (38, .aload_n 0, 1), (39, .getfield 362, 3), (42, .ireturn, 1)]
set_option maxRecDepth 100000 in
theorem xi_ok295_1 : xi_ok cX12_fault xi_295_1 = true := by decide +kernel
def xi_295 (pc : Nat) : XIs := cond (Nat.blt pc 28) (xi_295_0) (xi_295_1)
theorem xi_ok295 (pc : Nat) : xi_ok cX12_fault (xi_295 pc) = true := xi_c (xi_ok295_0) (xi_ok295_1)
def xi_296_0 : XIs := [(0, .iload_n 0, 1), (1, .bipush 97, 2), (3, .if_icmp .lt 13, 3), (6, .iload_n 0, 1), (7, .bipush 122, 2), (9, .if_icmp .gt 7, 3), (12, .iconst 1, 1), (13, .goto 4, 3), (16, .iconst 0, 1), (17, .ireturn, 1)]
set_option maxRecDepth 100000 in
theorem xi_ok296_0 : xi_ok cX12_isLetter xi_296_0 = true := by decide +kernel
def xi_296 (pc : Nat) : XIs := xi_296_0
theorem xi_ok296 (pc : Nat) : xi_ok cX12_isLetter (xi_296 pc) = true := xi_ok296_0
def xi_297_0 : XIs := [(0, .iload_n 0, 1), (1, .bipush 48, 2), (3, .if_icmp .lt 13, 3), (6, .iload_n 0, 1), (7, .bipush 57, 2), (9, .if_icmp .gt 7, 3), (12, .iconst 1, 1), (13, .goto 4, 3), (16, .iconst 0, 1), (17, .ireturn, 1)]
set_option maxRecDepth 100000 in
theorem xi_ok297_0 : xi_ok cX12_isDigit xi_297_0 = true := by decide +kernel
def xi_297 (pc : Nat) : XIs := xi_297_0
theorem xi_ok297 (pc : Nat) : xi_ok cX12_isDigit (xi_297 pc) = true := xi_ok297_0
def xi_298_0 : XIs := [(0, .aload_n 0, 1), (1, .getfield 359, 3), (4, .ifCond .ne 13, 3), (7, .aload_n 0, 1), (8, .iload_n 1, 1), (9, .putfield 359, 3), (12, .aload_n 0, 1), (13, .iload_n 2, 1), (14, .putfield 362, 3), (17, .return_, 1)]
set_option maxRecDepth 100000 in
theorem xi_ok298_0 : xi_ok cX12_blame xi_298_0 = true := by decide +kernel
def xi_298 (pc : Nat) : XIs := xi_298_0
theorem xi_ok298 (pc : Nat) : xi_ok cX12_blame (xi_298 pc) = true := xi_ok298_0
def xi_299_0 : XIs := [(0, .aload_n 0, 1), (1, .getfield 365, 3), (4, .aload_n 0, 1), (5, .getfield 356, 3), (8, .if_icmp .ge 30, 3), (11, .aload_n 0, 1), (12, .getfield 60, 3), (15, .aload_n 0, 1), (16, .getfield 365, 3), (19, .iaload, 1), (20, .bipush 32, 2), (22, .if_icmp .ne 16, 3), (25, .aload_n 0, 1), (26, .dup, 1), (27, .getfield 365, 3), (30, .iconst 1, 1)]
set_option maxRecDepth 100000 in
theorem xi_ok299_0 : xi_ok cX12_nextToken xi_299_0 = true := by decide +kernel
def xi_299_1 : XIs := [(31, .iadd, 1), (32, .putfield 365, 3), (35, .goto (-35), 3), (38, .aload_n 0, 1), (39, .aload_n 0, 1), (40, .getfield 365, 3), (43, .putfield 368, 3), (46, .aload_n 0, 1), (47, .getfield 365, 3), (50, .aload_n 0, 1), (51, .getfield 356, 3), (54, .if_icmp .ne 9, 3), (57, .aload_n 0, 1), (58, .iconst 0, 1), (59, .putfield 371, 3), (62, .return_, 1)]
set_option maxRecDepth 100000 in
theorem xi_ok299_1 : xi_ok cX12_nextToken xi_299_1 = true := by decide +kernel
def xi_299_2 : XIs := [(63, .aload_n 0, 1), (64, .getfield 60, 3), (67, .aload_n 0, 1), (68, .getfield 365, 3), (71, .iaload, 1), (72, .istore_n 1, 1), (73, .aload_n 0, 1), (74, .iload_n 1, 1), (75, .putfield 374, 3), (78, .iload_n 1, 1), (79, .bipush 45, 2), (81, .if_icmp .ne 37, 3), (84, .aload_n 0, 1), (85, .getfield 365, 3), (88, .iconst 1, 1), (89, .iadd, 1)]
set_option maxRecDepth 100000 in
theorem xi_ok299_2 : xi_ok cX12_nextToken xi_299_2 = true := by decide +kernel
def xi_299_3 : XIs := [(90, .aload_n 0, 1), (91, .getfield 356, 3), (94, .if_icmp .ge 24, 3), (97, .aload_n 0, 1), (98, .getfield 60, 3), (101, .aload_n 0, 1), (102, .getfield 365, 3), (105, .iconst 1, 1), (106, .iadd, 1), (107, .iaload, 1), (108, .invokestatic 377, 3), (111, .ifCond .eq 7, 3), (114, .iconst 1, 1), (115, .goto 4, 3), (118, .iconst 0, 1), (119, .istore_n 2, 1)]
set_option maxRecDepth 100000 in
theorem xi_ok299_3 : xi_ok cX12_nextToken xi_299_3 = true := by decide +kernel
def xi_299_4 : XIs := [(120, .iload_n 1, 1), (121, .invokestatic 377, 3), (124, .ifCond .ne 7, 3), (127, .iload_n 2, 1), (128, .ifCond .eq 53, 3), (131, .aload_n 0, 1), (132, .iconst 2, 1), (133, .putfield 371, 3), (136, .aload_n 0, 1), (137, .dup, 1), (138, .getfield 365, 3), (141, .iload_n 2, 1), (142, .ifCond .eq 7, 3), (145, .iconst 1, 1), (146, .goto 4, 3), (149, .iconst 0, 1)]
set_option maxRecDepth 100000 in
theorem xi_ok299_4 : xi_ok cX12_nextToken xi_299_4 = true := by decide +kernel
def xi_299_5 : XIs := [(150, .iadd, 1), (151, .putfield 365, 3), (154, .aload_n 0, 1), (155, .bipush 7, 2), (157, .invokevirtual 380, 3), (160, .aload_n 0, 1), (161, .iload_n 2, 1), (162, .ifCond .eq 11, 3), (165, .aload_n 0, 1), (166, .getfield 384, 3), (169, .lneg, 1), (170, .goto 7, 3), (173, .aload_n 0, 1), (174, .getfield 384, 3), (177, .putfield 384, 3), (180, .return_, 1)]
set_option maxRecDepth 100000 in
theorem xi_ok299_5 : xi_ok cX12_nextToken xi_299_5 = true := by decide +kernel
def xi_299_6 : XIs := [(181, .aload_n 0, 1), (182, .iload_n 1, 1), (183, .invokestatic 388, 3), (186, .ifCond .eq 7, 3), (189, .iconst 1, 1), (190, .goto 4, 3), (193, .iconst 3, 1), (194, .putfield 371, 3), (197, .aload_n 0, 1), (198, .getfield 371, 3), (201, .iconst 3, 1), (202, .if_icmp .ne 18, 3), (205, .iload_n 1, 1), (206, .bipush 59, 2), (208, .if_icmp .eq 12, 3), (211, .aload_n 0, 1)]
set_option maxRecDepth 100000 in
theorem xi_ok299_6 : xi_ok cX12_nextToken xi_299_6 = true := by decide +kernel
def xi_299_7 : XIs := [(212, .iconst 1, 1), (213, .aload_n 0, 1), (214, .getfield 368, 3), (217, .invokevirtual 391, 3), (220, .aload_n 0, 1), (221, .dup, 1), (222, .getfield 365, 3), (225, .iconst 1, 1), (226, .iadd, 1), (227, .putfield 365, 3), (230, .return_, 1)]
set_option maxRecDepth 100000 in
theorem xi_ok299_7 : xi_ok cX12_nextToken xi_299_7 = true := by decide +kernel
def xi_299 (pc : Nat) : XIs := cond (Nat.blt pc 120) (cond (Nat.blt pc 63) (cond (Nat.blt pc 31) (xi_299_0) (xi_299_1)) (cond (Nat.blt pc 90) (xi_299_2) (xi_299_3))) (cond (Nat.blt pc 181) (cond (Nat.blt pc 150) (xi_299_4) (xi_299_5)) (cond (Nat.blt pc 212) (xi_299_6) (xi_299_7)))
theorem xi_ok299 (pc : Nat) : xi_ok cX12_nextToken (xi_299 pc) = true := xi_c (xi_c (xi_c (xi_ok299_0) (xi_ok299_1)) (xi_c (xi_ok299_2) (xi_ok299_3))) (xi_c (xi_c (xi_ok299_4) (xi_ok299_5)) (xi_c (xi_ok299_6) (xi_ok299_7)))
def xi_300_0 : XIs := [(0, .aload_n 0, 1), (1, .getfield 365, 3), (4, .istore_n 2, 1), (5, .aload_n 0, 1), (6, .lconst 0, 1), (7, .putfield 384, 3), (10, .aload_n 0, 1), (11, .getfield 365, 3), (14, .aload_n 0, 1), (15, .getfield 356, 3), (18, .if_icmp .ge 75, 3), (21, .aload_n 0, 1), (22, .getfield 60, 3), (25, .aload_n 0, 1), (26, .getfield 365, 3), (29, .iaload, 1)]
set_option maxRecDepth 100000 in
theorem xi_ok300_0 : xi_ok cX12_readNumber xi_300_0 = true := by decide +kernel
def xi_300_1 : XIs := [(30, .invokestatic 377, 3), (33, .ifCond .eq 60, 3), (36, .aload_n 0, 1), (37, .aload_n 0, 1), (38, .getfield 365, 3), (41, .iload_n 2, 1), (42, .isub, 1), (43, .iload_n 1, 1), (44, .if_icmp .ge 29, 3), (47, .ldc2_w 394, 3), (50, .aload_n 0, 1), (51, .getfield 384, 3), (54, .lmul, 1), (55, .aload_n 0, 1), (56, .getfield 60, 3), (59, .aload_n 0, 1)]
set_option maxRecDepth 100000 in
theorem xi_ok300_1 : xi_ok cX12_readNumber xi_300_1 = true := by decide +kernel
def xi_300_2 : XIs := [(60, .getfield 365, 3), (63, .iaload, 1), (64, .i2l, 1), (65, .ladd, 1), (66, .ldc2_w 396, 3), (69, .lsub, 1), (70, .goto 7, 3), (73, .aload_n 0, 1), (74, .getfield 384, 3), (77, .putfield 384, 3), (80, .aload_n 0, 1), (81, .dup, 1), (82, .getfield 365, 3), (85, .iconst 1, 1), (86, .iadd, 1), (87, .putfield 365, 3)]
set_option maxRecDepth 100000 in
theorem xi_ok300_2 : xi_ok cX12_readNumber xi_300_2 = true := by decide +kernel
def xi_300_3 : XIs := [(90, .goto (-80), 3), (93, .aload_n 0, 1), (94, .getfield 365, 3), (97, .iload_n 2, 1), (98, .isub, 1), (99, .iload_n 1, 1), (100, .if_icmp .le 22, 3), (103, .aload_n 0, 1), (104, .iload_n 1, 1), (105, .bipush 7, 2), (107, .if_icmp .ne 7, 3), (110, .iconst 3, 1), (111, .goto 4, 3), (114, .iconst 4, 1), (115, .aload_n 0, 1), (116, .getfield 368, 3)]
set_option maxRecDepth 100000 in
theorem xi_ok300_3 : xi_ok cX12_readNumber xi_300_3 = true := by decide +kernel
def xi_300_4 : XIs := [(119, .invokevirtual 391, 3), (122, .return_, 1)]
set_option maxRecDepth 100000 in
theorem xi_ok300_4 : xi_ok cX12_readNumber xi_300_4 = true := by decide +kernel
def xi_300 (pc : Nat) : XIs := cond (Nat.blt pc 60) (cond (Nat.blt pc 30) (xi_300_0) (xi_300_1)) (cond (Nat.blt pc 90) (xi_300_2) (cond (Nat.blt pc 119) (xi_300_3) (xi_300_4)))
theorem xi_ok300 (pc : Nat) : xi_ok cX12_readNumber (xi_300 pc) = true := xi_c (xi_c (xi_ok300_0) (xi_ok300_1)) (xi_c (xi_ok300_2) (xi_c (xi_ok300_3) (xi_ok300_4)))
def xi_301_0 : XIs := [(0, .iload_n 1, 1), (1, .lookupswitch 76 #[(97, 45), (110, 35), (116, 65)], 35), (36, .iload_n 2, 1), (37, .ifCond .ne 7, 3), (40, .iconst 1, 1), (41, .goto 4, 3), (44, .iconst 3, 1), (45, .ireturn, 1), (46, .iload_n 2, 1), (47, .iconst 4, 1), (48, .if_icmp .ge 7, 3), (51, .iconst 2, 1), (52, .goto 13, 3), (55, .iload_n 2, 1), (56, .iconst 4, 1), (57, .if_icmp .ne 7, 3)]
set_option maxRecDepth 100000 in
theorem xi_ok301_0 : xi_ok cX12_shape xi_301_0 = true := by decide +kernel
def xi_301_1 : XIs := [(60, .iconst 1, 1), (61, .goto 4, 3), (64, .iconst 3, 1), (65, .ireturn, 1), (66, .iload_n 2, 1), (67, .iconst 1, 1), (68, .if_icmp .ge 7, 3), (71, .iconst 2, 1), (72, .goto 4, 3), (75, .iconst 3, 1), (76, .ireturn, 1), (77, .iload_n 2, 1), (78, .iconst 2, 1), (79, .if_icmp .ge 7, 3), (82, .iconst 2, 1), (83, .goto 4, 3)]
set_option maxRecDepth 100000 in
theorem xi_ok301_1 : xi_ok cX12_shape xi_301_1 = true := by decide +kernel
def xi_301_2 : XIs := [(86, .iconst 3, 1), (87, .ireturn, 1)]
set_option maxRecDepth 100000 in
theorem xi_ok301_2 : xi_ok cX12_shape xi_301_2 = true := by decide +kernel
def xi_301 (pc : Nat) : XIs := cond (Nat.blt pc 60) (xi_301_0) (cond (Nat.blt pc 86) (xi_301_1) (xi_301_2))
theorem xi_ok301 (pc : Nat) : xi_ok cX12_shape (xi_301 pc) = true := xi_c (xi_ok301_0) (xi_c (xi_ok301_1) (xi_ok301_2))
def xi_302_0 : XIs := [(0, .aload_n 0, 1), (1, .iconst 0, 1), (2, .putfield 278, 3), (5, .aload_n 0, 1), (6, .iconst 0, 1), (7, .putfield 359, 3), (10, .aload_n 0, 1), (11, .iconst 0, 1), (12, .putfield 398, 3), (15, .aload_n 0, 1), (16, .iconst 0, 1), (17, .putfield 365, 3), (20, .aload_n 0, 1), (21, .invokevirtual 401, 3), (24, .aload_n 0, 1), (25, .invokevirtual 404, 3)]
set_option maxRecDepth 100000 in
theorem xi_ok302_0 : xi_ok cX12_load xi_302_0 = true := by decide +kernel
def xi_302_1 : XIs := [(28, .aload_n 0, 1), (29, .getfield 371, 3), (32, .ifCond .eq 28, 3), (35, .aload_n 0, 1), (36, .getfield 359, 3), (39, .ifCond .ne 21, 3), (42, .aload_n 0, 1), (43, .invokevirtual 407, 3), (46, .aload_n 0, 1), (47, .getfield 359, 3), (50, .ifCond .ne (-22), 3), (53, .aload_n 0, 1), (54, .invokevirtual 404, 3), (57, .goto (-29), 3), (60, .aload_n 0, 1), (61, .getfield 359, 3)]
set_option maxRecDepth 100000 in
theorem xi_ok302_1 : xi_ok cX12_load xi_302_1 = true := by decide +kernel
def xi_302_2 : XIs := [(64, .ifCond .le 6, 3), (67, .bipush (-4), 2), (69, .ireturn, 1), (70, .iconst 0, 1), (71, .istore_n 1, 1), (72, .iload_n 1, 1), (73, .aload_n 0, 1), (74, .getfield 398, 3), (77, .if_icmp .ge 165, 3), (80, .iconst 5, 1), (81, .iload_n 1, 1), (82, .imul, 1), (83, .istore_n 2, 1), (84, .aload_n 0, 1), (85, .getfield 66, 3), (88, .iload_n 1, 1)]
set_option maxRecDepth 100000 in
theorem xi_ok302_2 : xi_ok cX12_load xi_302_2 = true := by decide +kernel
def xi_302_3 : XIs := [(89, .iaload, 1), (90, .lookupswitch 123 #[(97, 53), (110, 34), (116, 104)], 34), (124, .aload_n 0, 1), (125, .iconst 0, 1), (126, .aload_n 0, 1), (127, .getfield 69, 3), (130, .iload_n 2, 1), (131, .iaload, 1), (132, .iconst 0, 1), (133, .iconst 0, 1), (134, .iconst 0, 1), (135, .iconst 0, 1), (136, .iconst 0, 1), (137, .invokevirtual 314, 3), (140, .goto 96, 3), (143, .aload_n 0, 1)]
set_option maxRecDepth 100000 in
theorem xi_ok302_3 : xi_ok cX12_load xi_302_3 = true := by decide +kernel
def xi_302_4 : XIs := [(144, .iconst 1, 1), (145, .aload_n 0, 1), (146, .iconst 0, 1), (147, .invokevirtual 325, 3), (150, .aload_n 0, 1), (151, .getfield 69, 3), (154, .iload_n 2, 1), (155, .iaload, 1), (156, .aload_n 0, 1), (157, .getfield 69, 3), (160, .iload_n 2, 1), (161, .iconst 1, 1), (162, .iadd, 1), (163, .iaload, 1), (164, .aload_n 0, 1), (165, .getfield 69, 3)]
set_option maxRecDepth 100000 in
theorem xi_ok302_4 : xi_ok cX12_load xi_302_4 = true := by decide +kernel
def xi_302_5 : XIs := [(168, .iload_n 2, 1), (169, .iconst 2, 1), (170, .iadd, 1), (171, .iaload, 1), (172, .aload_n 0, 1), (173, .getfield 69, 3), (176, .iload_n 2, 1), (177, .iconst 3, 1), (178, .iadd, 1), (179, .iaload, 1), (180, .aload_n 0, 1), (181, .getfield 69, 3), (184, .iload_n 2, 1), (185, .iconst 4, 1), (186, .iadd, 1), (187, .iaload, 1)]
set_option maxRecDepth 100000 in
theorem xi_ok302_5 : xi_ok cX12_load xi_302_5 = true := by decide +kernel
def xi_302_6 : XIs := [(188, .invokevirtual 314, 3), (191, .goto 45, 3), (194, .aload_n 0, 1), (195, .iconst 2, 1), (196, .aload_n 0, 1), (197, .getfield 69, 3), (200, .iload_n 2, 1), (201, .iaload, 1), (202, .iconst 0, 1), (203, .iconst 0, 1), (204, .iconst 0, 1), (205, .iconst 0, 1), (206, .iconst 0, 1), (207, .invokevirtual 314, 3), (210, .goto 26, 3), (213, .aload_n 0, 1)]
set_option maxRecDepth 100000 in
theorem xi_ok302_6 : xi_ok cX12_load xi_302_6 = true := by decide +kernel
def xi_302_7 : XIs := [(214, .iconst 3, 1), (215, .aload_n 0, 1), (216, .getfield 69, 3), (219, .iload_n 2, 1), (220, .iaload, 1), (221, .iconst 0, 1), (222, .aload_n 0, 1), (223, .getfield 69, 3), (226, .iload_n 2, 1), (227, .iconst 1, 1), (228, .iadd, 1), (229, .iaload, 1), (230, .iconst 0, 1), (231, .iconst 0, 1), (232, .iconst 0, 1), (233, .invokevirtual 314, 3)]
set_option maxRecDepth 100000 in
theorem xi_ok302_7 : xi_ok cX12_load xi_302_7 = true := by decide +kernel
def xi_302_8 : XIs := [(236, .iinc 1 1, 3), (239, .goto (-167), 3), (242, .aload_n 0, 1), (243, .getfield 398, 3), (246, .ireturn, 1)]
set_option maxRecDepth 100000 in
theorem xi_ok302_8 : xi_ok cX12_load xi_302_8 = true := by decide +kernel
def xi_302 (pc : Nat) : XIs := cond (Nat.blt pc 144) (cond (Nat.blt pc 64) (cond (Nat.blt pc 28) (xi_302_0) (xi_302_1)) (cond (Nat.blt pc 89) (xi_302_2) (xi_302_3))) (cond (Nat.blt pc 188) (cond (Nat.blt pc 168) (xi_302_4) (xi_302_5)) (cond (Nat.blt pc 214) (xi_302_6) (cond (Nat.blt pc 236) (xi_302_7) (xi_302_8))))
theorem xi_ok302 (pc : Nat) : xi_ok cX12_load (xi_302 pc) = true := xi_c (xi_c (xi_c (xi_ok302_0) (xi_ok302_1)) (xi_c (xi_ok302_2) (xi_ok302_3))) (xi_c (xi_c (xi_ok302_4) (xi_ok302_5)) (xi_c (xi_ok302_6) (xi_c (xi_ok302_7) (xi_ok302_8))))
def xi_303_0 : XIs := [(0, .aload_n 0, 1), (1, .getfield 7, 3), (4, .iconst 2, 1), (5, .aload_n 0, 1), (6, .getfield 7, 3), (9, .iconst 0, 1), (10, .iaload, 1), (11, .iastore, 1), (12, .iconst 0, 1), (13, .istore_n 1, 1), (14, .iload_n 1, 1), (15, .sipush 160, 3), (18, .if_icmp .ge 25, 3), (21, .aload_n 0, 1), (22, .getfield 16, 3), (25, .sipush 320, 3)]
set_option maxRecDepth 100000 in
theorem xi_ok303_0 : xi_ok cX12_copyGraph xi_303_0 = true := by decide +kernel
def xi_303_1 : XIs := [(28, .iload_n 1, 1), (29, .iadd, 1), (30, .aload_n 0, 1), (31, .getfield 16, 3), (34, .iload_n 1, 1), (35, .baload, 1), (36, .bastore, 1), (37, .iinc 1 1, 3), (40, .goto (-26), 3), (43, .return_, 1)]
set_option maxRecDepth 100000 in
theorem xi_ok303_1 : xi_ok cX12_copyGraph xi_303_1 = true := by decide +kernel
def xi_303 (pc : Nat) : XIs := cond (Nat.blt pc 28) (xi_303_0) (xi_303_1)
theorem xi_ok303 (pc : Nat) : xi_ok cX12_copyGraph (xi_303 pc) = true := xi_c (xi_ok303_0) (xi_ok303_1)
def xi_304_0 : XIs := [(0, .aload_n 0, 1), (1, .getfield 368, 3), (4, .istore_n 1, 1), (5, .aload_n 0, 1), (6, .getfield 374, 3), (9, .istore_n 2, 1), (10, .aload_n 0, 1), (11, .getfield 371, 3), (14, .iconst 1, 1), (15, .if_icmp .ne 27, 3), (18, .iload_n 2, 1), (19, .bipush 110, 2), (21, .if_icmp .eq 31, 3), (24, .iload_n 2, 1), (25, .bipush 97, 2), (27, .if_icmp .eq 25, 3)]
set_option maxRecDepth 100000 in
theorem xi_ok304_0 : xi_ok cX12_command xi_304_0 = true := by decide +kernel
def xi_304_1 : XIs := [(30, .iload_n 2, 1), (31, .bipush 116, 2), (33, .if_icmp .eq 19, 3), (36, .iload_n 2, 1), (37, .bipush 119, 2), (39, .if_icmp .eq 13, 3), (42, .aload_n 0, 1), (43, .iconst 2, 1), (44, .aload_n 0, 1), (45, .getfield 368, 3), (48, .invokevirtual 391, 3), (51, .return_, 1), (52, .iconst 0, 1), (53, .istore_n 3, 1), (54, .iconst 1, 1), (55, .istore 4, 2)]
set_option maxRecDepth 100000 in
theorem xi_ok304_1 : xi_ok cX12_command xi_304_1 = true := by decide +kernel
def xi_304_2 : XIs := [(57, .iload 4, 2), (59, .ifCond .eq 127, 3), (62, .aload_n 0, 1), (63, .getfield 359, 3), (66, .ifCond .ne 120, 3), (69, .aload_n 0, 1), (70, .invokevirtual 404, 3), (73, .aload_n 0, 1), (74, .iload_n 2, 1), (75, .iload_n 3, 1), (76, .invokevirtual 410, 3), (79, .istore 5, 2), (81, .aload_n 0, 1), (82, .getfield 359, 3), (85, .ifCond .ne 36, 3), (88, .aload_n 0, 1)]
set_option maxRecDepth 100000 in
theorem xi_ok304_2 : xi_ok cX12_command xi_304_2 = true := by decide +kernel
def xi_304_3 : XIs := [(89, .getfield 371, 3), (92, .iload 5, 2), (94, .if_icmp .ne 18, 3), (97, .iload 5, 2), (99, .iconst 3, 1), (100, .if_icmp .ne 21, 3), (103, .aload_n 0, 1), (104, .getfield 374, 3), (107, .bipush 59, 2), (109, .if_icmp .eq 12, 3), (112, .aload_n 0, 1), (113, .iconst 2, 1), (114, .aload_n 0, 1), (115, .getfield 368, 3), (118, .invokevirtual 391, 3), (121, .iload 5, 2)]
set_option maxRecDepth 100000 in
theorem xi_ok304_3 : xi_ok cX12_command xi_304_3 = true := by decide +kernel
def xi_304_4 : XIs := [(123, .iconst 3, 1), (124, .if_icmp .eq 7, 3), (127, .iconst 1, 1), (128, .goto 4, 3), (131, .iconst 0, 1), (132, .istore 4, 2), (134, .aload_n 0, 1), (135, .getfield 359, 3), (138, .ifCond .ne 45, 3), (141, .iload 4, 2), (143, .ifCond .eq 40, 3), (146, .aload_n 0, 1), (147, .getfield 69, 3), (150, .iconst 5, 1), (151, .aload_n 0, 1), (152, .getfield 398, 3)]
set_option maxRecDepth 100000 in
theorem xi_ok304_4 : xi_ok cX12_command xi_304_4 = true := by decide +kernel
def xi_304_5 : XIs := [(155, .imul, 1), (156, .iload_n 3, 1), (157, .iadd, 1), (158, .iload 5, 2), (160, .iconst 1, 1), (161, .if_icmp .ne 13, 3), (164, .aload_n 0, 1), (165, .getfield 374, 3), (168, .bipush 97, 2), (170, .isub, 1), (171, .goto 8, 3), (174, .aload_n 0, 1), (175, .getfield 384, 3), (178, .l2i, 1), (179, .iastore, 1), (180, .iinc 3 1, 3)]
set_option maxRecDepth 100000 in
theorem xi_ok304_5 : xi_ok cX12_command xi_304_5 = true := by decide +kernel
def xi_304_6 : XIs := [(183, .goto (-126), 3), (186, .aload_n 0, 1), (187, .getfield 359, 3), (190, .ifCond .ne 58, 3), (193, .aload_n 0, 1), (194, .getfield 66, 3), (197, .aload_n 0, 1), (198, .getfield 398, 3), (201, .iload_n 2, 1), (202, .iastore, 1), (203, .aload_n 0, 1), (204, .iload_n 2, 1), (205, .iconst 5, 1), (206, .aload_n 0, 1), (207, .getfield 398, 3), (210, .imul, 1)]
set_option maxRecDepth 100000 in
theorem xi_ok304_6 : xi_ok cX12_command xi_304_6 = true := by decide +kernel
def xi_304_7 : XIs := [(211, .invokevirtual 414, 3), (214, .ifCond .eq 18, 3), (217, .aload_n 0, 1), (218, .getfield 291, 3), (221, .aload_n 0, 1), (222, .getfield 398, 3), (225, .iadd, 1), (226, .sipush 4000, 3), (229, .if_icmp .lt 9, 3), (232, .aload_n 0, 1), (233, .iconst 4, 1), (234, .iload_n 1, 1), (235, .invokevirtual 391, 3), (238, .aload_n 0, 1), (239, .dup, 1), (240, .getfield 398, 3)]
set_option maxRecDepth 100000 in
theorem xi_ok304_7 : xi_ok cX12_command xi_304_7 = true := by decide +kernel
def xi_304_8 : XIs := [(243, .iconst 1, 1), (244, .iadd, 1), (245, .putfield 398, 3), (248, .return_, 1)]
set_option maxRecDepth 100000 in
theorem xi_ok304_8 : xi_ok cX12_command xi_304_8 = true := by decide +kernel
def xi_304 (pc : Nat) : XIs := cond (Nat.blt pc 123) (cond (Nat.blt pc 57) (cond (Nat.blt pc 30) (xi_304_0) (xi_304_1)) (cond (Nat.blt pc 89) (xi_304_2) (xi_304_3))) (cond (Nat.blt pc 183) (cond (Nat.blt pc 155) (xi_304_4) (xi_304_5)) (cond (Nat.blt pc 211) (xi_304_6) (cond (Nat.blt pc 243) (xi_304_7) (xi_304_8))))
theorem xi_ok304 (pc : Nat) : xi_ok cX12_command (xi_304 pc) = true := xi_c (xi_c (xi_c (xi_ok304_0) (xi_ok304_1)) (xi_c (xi_ok304_2) (xi_ok304_3))) (xi_c (xi_c (xi_ok304_4) (xi_ok304_5)) (xi_c (xi_ok304_6) (xi_c (xi_ok304_7) (xi_ok304_8))))
def xi_305_0 : XIs := [(0, .aload_n 0, 1), (1, .getfield 69, 3), (4, .iload_n 2, 1), (5, .iaload, 1), (6, .istore_n 3, 1), (7, .aload_n 0, 1), (8, .getfield 69, 3), (11, .iload_n 2, 1), (12, .iconst 1, 1), (13, .iadd, 1), (14, .iaload, 1), (15, .istore 4, 2), (17, .iload_n 1, 1), (18, .lookupswitch 240 #[(97, 61), (110, 34), (116, 173)], 34), (52, .aload_n 0, 1), (53, .getfield 7, 3)]
set_option maxRecDepth 100000 in
theorem xi_ok305_0 : xi_ok cX12_isDone xi_305_0 = true := by decide +kernel
def xi_305_1 : XIs := [(56, .iconst 2, 1), (57, .dup2, 1), (58, .iaload, 1), (59, .iconst 1, 1), (60, .iadd, 1), (61, .iastore, 1), (62, .aload_n 0, 1), (63, .getfield 7, 3), (66, .iconst 2, 1), (67, .iaload, 1), (68, .bipush 32, 2), (70, .if_icmp .gt 7, 3), (73, .iconst 1, 1), (74, .goto 4, 3), (77, .iconst 0, 1), (78, .ireturn, 1)]
set_option maxRecDepth 100000 in
theorem xi_ok305_1 : xi_ok cX12_isDone xi_305_1 = true := by decide +kernel
def xi_305_2 : XIs := [(79, .aload_n 0, 1), (80, .iconst 2, 1), (81, .invokevirtual 325, 3), (84, .istore 5, 2), (86, .iload 5, 2), (88, .sipush 160, 3), (91, .if_icmp .ge 77, 3), (94, .iload_n 3, 1), (95, .i2l, 1), (96, .lconst 0, 1), (97, .aload_n 0, 1), (98, .getfield 7, 3), (101, .iconst 2, 1), (102, .iaload, 1), (103, .iconst 1, 1), (104, .isub, 1)]
set_option maxRecDepth 100000 in
theorem xi_ok305_2 : xi_ok cX12_isDone xi_305_2 = true := by decide +kernel
def xi_305_3 : XIs := [(105, .i2l, 1), (106, .invokestatic 308, 3), (109, .ifCond .eq 59, 3), (112, .iload 4, 2), (114, .i2l, 1), (115, .lconst 0, 1), (116, .aload_n 0, 1), (117, .getfield 7, 3), (120, .iconst 2, 1), (121, .iaload, 1), (122, .iconst 1, 1), (123, .isub, 1), (124, .i2l, 1), (125, .invokestatic 308, 3), (128, .ifCond .eq 40, 3), (131, .aload_n 0, 1)]
set_option maxRecDepth 100000 in
theorem xi_ok305_3 : xi_ok cX12_isDone xi_305_3 = true := by decide +kernel
def xi_305_4 : XIs := [(132, .getfield 69, 3), (135, .iload_n 2, 1), (136, .iconst 2, 1), (137, .iadd, 1), (138, .iaload, 1), (139, .invokestatic 322, 3), (142, .ifCond .eq 26, 3), (145, .aload_n 0, 1), (146, .getfield 69, 3), (149, .iload_n 2, 1), (150, .iconst 3, 1), (151, .iadd, 1), (152, .iaload, 1), (153, .i2l, 1), (154, .lconst 0, 1), (155, .ldc2_w 306, 3)]
set_option maxRecDepth 100000 in
theorem xi_ok305_4 : xi_ok cX12_isDone xi_305_4 = true := by decide +kernel
def xi_305_5 : XIs := [(158, .invokestatic 308, 3), (161, .ifCond .eq 7, 3), (164, .iconst 1, 1), (165, .goto 4, 3), (168, .iconst 0, 1), (169, .istore 6, 2), (171, .iload 6, 2), (173, .ifCond .eq 15, 3), (176, .aload_n 0, 1), (177, .getfield 16, 3), (180, .sipush 320, 3), (183, .iload 5, 2), (185, .iadd, 1), (186, .iconst 1, 1), (187, .bastore, 1), (188, .iload 6, 2)]
set_option maxRecDepth 100000 in
theorem xi_ok305_5 : xi_ok cX12_isDone xi_305_5 = true := by decide +kernel
def xi_305_6 : XIs := [(190, .ireturn, 1), (191, .iload_n 3, 1), (192, .i2l, 1), (193, .lconst 0, 1), (194, .ldc2_w 343, 3), (197, .invokestatic 308, 3), (200, .ifCond .eq 36, 3), (203, .aload_n 0, 1), (204, .getfield 16, 3), (207, .sipush 320, 3), (210, .iload_n 3, 1), (211, .i2l, 1), (212, .lconst 0, 1), (213, .ldc2_w 343, 3), (216, .invokestatic 308, 3), (219, .ifCond .eq 7, 3)]
set_option maxRecDepth 100000 in
theorem xi_ok305_6 : xi_ok cX12_isDone xi_305_6 = true := by decide +kernel
def xi_305_7 : XIs := [(222, .iload_n 3, 1), (223, .goto 4, 3), (226, .iconst 0, 1), (227, .iadd, 1), (228, .baload, 1), (229, .ifCond .eq 7, 3), (232, .iconst 1, 1), (233, .goto 4, 3), (236, .iconst 0, 1), (237, .istore 7, 2), (239, .iload 7, 2), (241, .ifCond .eq 14, 3), (244, .aload_n 0, 1), (245, .getfield 16, 3), (248, .sipush 320, 3), (251, .iload_n 3, 1)]
set_option maxRecDepth 100000 in
theorem xi_ok305_7 : xi_ok cX12_isDone xi_305_7 = true := by decide +kernel
def xi_305_8 : XIs := [(252, .iadd, 1), (253, .iconst 0, 1), (254, .bastore, 1), (255, .iload 7, 2), (257, .ireturn, 1), (258, .iload_n 3, 1), (259, .i2l, 1), (260, .lconst 0, 1), (261, .ldc2_w 343, 3), (264, .invokestatic 308, 3), (267, .ifCond .eq 44, 3), (270, .aload_n 0, 1), (271, .getfield 16, 3), (274, .sipush 320, 3), (277, .iload_n 3, 1), (278, .i2l, 1)]
set_option maxRecDepth 100000 in
theorem xi_ok305_8 : xi_ok cX12_isDone xi_305_8 = true := by decide +kernel
def xi_305_9 : XIs := [(279, .lconst 0, 1), (280, .ldc2_w 343, 3), (283, .invokestatic 308, 3), (286, .ifCond .eq 7, 3), (289, .iload_n 3, 1), (290, .goto 4, 3), (293, .iconst 0, 1), (294, .iadd, 1), (295, .baload, 1), (296, .ifCond .eq 15, 3), (299, .iload 4, 2), (301, .invokestatic 322, 3), (304, .ifCond .eq 7, 3), (307, .iconst 1, 1), (308, .goto 4, 3), (311, .iconst 0, 1)]
set_option maxRecDepth 100000 in
theorem xi_ok305_9 : xi_ok cX12_isDone xi_305_9 = true := by decide +kernel
def xi_305_10 : XIs := [(312, .ireturn, 1)]
set_option maxRecDepth 100000 in
theorem xi_ok305_10 : xi_ok cX12_isDone xi_305_10 = true := by decide +kernel
def xi_305 (pc : Nat) : XIs := cond (Nat.blt pc 158) (cond (Nat.blt pc 79) (cond (Nat.blt pc 56) (xi_305_0) (xi_305_1)) (cond (Nat.blt pc 105) (xi_305_2) (cond (Nat.blt pc 132) (xi_305_3) (xi_305_4)))) (cond (Nat.blt pc 252) (cond (Nat.blt pc 190) (xi_305_5) (cond (Nat.blt pc 222) (xi_305_6) (xi_305_7))) (cond (Nat.blt pc 279) (xi_305_8) (cond (Nat.blt pc 312) (xi_305_9) (xi_305_10))))
theorem xi_ok305 (pc : Nat) : xi_ok cX12_isDone (xi_305 pc) = true := xi_c (xi_c (xi_c (xi_ok305_0) (xi_ok305_1)) (xi_c (xi_ok305_2) (xi_c (xi_ok305_3) (xi_ok305_4)))) (xi_c (xi_c (xi_ok305_5) (xi_c (xi_ok305_6) (xi_ok305_7))) (xi_c (xi_ok305_8) (xi_c (xi_ok305_9) (xi_ok305_10))))
def xi_306_0 : XIs := [(0, .aload_n 0, 1), (1, .getfield 63, 3), (4, .aload_n 0, 1), (5, .getfield 418, 3), (8, .iload_n 1, 1), (9, .iastore, 1), (10, .aload_n 0, 1), (11, .dup, 1), (12, .getfield 418, 3), (15, .iconst 1, 1), (16, .iadd, 1), (17, .putfield 418, 3), (20, .return_, 1)]
set_option maxRecDepth 100000 in
theorem xi_ok306_0 : xi_ok cX12_put xi_306_0 = true := by decide +kernel
def xi_306 (pc : Nat) : XIs := xi_306_0
theorem xi_ok306 (pc : Nat) : xi_ok cX12_put (xi_306 pc) = true := xi_ok306_0
def xi_307_0 : XIs := [(0, .aload_n 0, 1), (1, .bipush 32, 2), (3, .invokevirtual 421, 3), (6, .iload_n 1, 1), (7, .ifCond .ge 9, 3), (10, .aload_n 0, 1), (11, .bipush 45, 2), (13, .invokevirtual 421, 3), (16, .iload_n 1, 1), (17, .ifCond .ge 8, 3), (20, .iload_n 1, 1), (21, .ineg, 1), (22, .goto 4, 3), (25, .iload_n 1, 1), (26, .istore_n 2, 1), (27, .iconst 1, 1)]
set_option maxRecDepth 100000 in
theorem xi_ok307_0 : xi_ok cX12_putNumber xi_307_0 = true := by decide +kernel
def xi_307_1 : XIs := [(28, .istore_n 3, 1), (29, .iload_n 2, 1), (30, .iload_n 3, 1), (31, .idiv, 1), (32, .bipush 10, 2), (34, .if_icmp .lt 11, 3), (37, .iload_n 3, 1), (38, .bipush 10, 2), (40, .imul, 1), (41, .istore_n 3, 1), (42, .goto (-13), 3), (45, .iload_n 3, 1), (46, .ifCond .le 24, 3), (49, .aload_n 0, 1), (50, .bipush 48, 2), (52, .iload_n 2, 1)]
set_option maxRecDepth 100000 in
theorem xi_ok307_1 : xi_ok cX12_putNumber xi_307_1 = true := by decide +kernel
def xi_307_2 : XIs := [(53, .iload_n 3, 1), (54, .idiv, 1), (55, .bipush 10, 2), (57, .irem, 1), (58, .iadd, 1), (59, .invokevirtual 421, 3), (62, .iload_n 3, 1), (63, .bipush 10, 2), (65, .idiv, 1), (66, .istore_n 3, 1), (67, .goto (-22), 3), (70, .return_, 1)]
set_option maxRecDepth 100000 in
theorem xi_ok307_2 : xi_ok cX12_putNumber xi_307_2 = true := by decide +kernel
def xi_307 (pc : Nat) : XIs := cond (Nat.blt pc 28) (xi_307_0) (cond (Nat.blt pc 53) (xi_307_1) (xi_307_2))
theorem xi_ok307 (pc : Nat) : xi_ok cX12_putNumber (xi_307 pc) = true := xi_c (xi_ok307_0) (xi_c (xi_ok307_1) (xi_ok307_2))
def xi_308_0 : XIs := [(0, .aload_n 0, 1), (1, .iconst 0, 1), (2, .putfield 278, 3), (5, .aload_n 0, 1), (6, .iconst 0, 1), (7, .putfield 418, 3), (10, .iconst 0, 1), (11, .istore_n 1, 1), (12, .iload_n 1, 1), (13, .aload_n 0, 1), (14, .getfield 285, 3), (17, .if_icmp .ge 48, 3), (20, .aload_n 0, 1), (21, .bipush 110, 2), (23, .invokevirtual 421, 3), (26, .aload_n 0, 1)]
set_option maxRecDepth 100000 in
theorem xi_ok308_0 : xi_ok cX12_print xi_308_0 = true := by decide +kernel
def xi_308_1 : XIs := [(27, .bipush 32, 2), (29, .invokevirtual 421, 3), (32, .aload_n 0, 1), (33, .bipush 97, 2), (35, .aload_n 0, 1), (36, .getfield 13, 3), (39, .bipush 32, 2), (41, .aload_n 0, 1), (42, .getfield 301, 3), (45, .imul, 1), (46, .iload_n 1, 1), (47, .iadd, 1), (48, .iaload, 1), (49, .iadd, 1), (50, .invokevirtual 421, 3), (53, .aload_n 0, 1)]
set_option maxRecDepth 100000 in
theorem xi_ok308_1 : xi_ok cX12_print xi_308_1 = true := by decide +kernel
def xi_308_2 : XIs := [(54, .bipush 59, 2), (56, .invokevirtual 421, 3), (59, .iinc 1 1, 3), (62, .goto (-50), 3), (65, .aload_n 0, 1), (66, .getfield 288, 3), (69, .istore_n 1, 1), (70, .iload_n 1, 1), (71, .aload_n 0, 1), (72, .getfield 288, 3), (75, .sipush 160, 3), (78, .iadd, 1), (79, .if_icmp .ge 89, 3), (82, .aload_n 0, 1), (83, .getfield 16, 3), (86, .iload_n 1, 1)]
set_option maxRecDepth 100000 in
theorem xi_ok308_2 : xi_ok cX12_print xi_308_2 = true := by decide +kernel
def xi_308_3 : XIs := [(87, .baload, 1), (88, .ifCond .eq 74, 3), (91, .aload_n 0, 1), (92, .bipush 97, 2), (94, .invokevirtual 421, 3), (97, .aload_n 0, 1), (98, .aload_n 0, 1), (99, .getfield 20, 3), (102, .iload_n 1, 1), (103, .iaload, 1), (104, .invokevirtual 424, 3), (107, .aload_n 0, 1), (108, .aload_n 0, 1), (109, .getfield 23, 3), (112, .iload_n 1, 1), (113, .iaload, 1)]
set_option maxRecDepth 100000 in
theorem xi_ok308_3 : xi_ok cX12_print xi_308_3 = true := by decide +kernel
def xi_308_4 : XIs := [(114, .invokevirtual 424, 3), (117, .aload_n 0, 1), (118, .aload_n 0, 1), (119, .getfield 26, 3), (122, .iload_n 1, 1), (123, .iaload, 1), (124, .invokevirtual 424, 3), (127, .aload_n 0, 1), (128, .aload_n 0, 1), (129, .getfield 29, 3), (132, .iload_n 1, 1), (133, .iaload, 1), (134, .invokevirtual 424, 3), (137, .aload_n 0, 1), (138, .bipush 32, 2), (140, .invokevirtual 421, 3)]
set_option maxRecDepth 100000 in
theorem xi_ok308_4 : xi_ok cX12_print xi_308_4 = true := by decide +kernel
def xi_308_5 : XIs := [(143, .aload_n 0, 1), (144, .bipush 97, 2), (146, .aload_n 0, 1), (147, .getfield 32, 3), (150, .iload_n 1, 1), (151, .iaload, 1), (152, .iadd, 1), (153, .invokevirtual 421, 3), (156, .aload_n 0, 1), (157, .bipush 59, 2), (159, .invokevirtual 421, 3), (162, .iinc 1 1, 3), (165, .goto (-95), 3), (168, .aload_n 0, 1), (169, .getfield 418, 3), (172, .ireturn, 1)]
set_option maxRecDepth 100000 in
theorem xi_ok308_5 : xi_ok cX12_print xi_308_5 = true := by decide +kernel
def xi_308 (pc : Nat) : XIs := cond (Nat.blt pc 87) (cond (Nat.blt pc 27) (xi_308_0) (cond (Nat.blt pc 54) (xi_308_1) (xi_308_2))) (cond (Nat.blt pc 114) (xi_308_3) (cond (Nat.blt pc 143) (xi_308_4) (xi_308_5)))
theorem xi_ok308 (pc : Nat) : xi_ok cX12_print (xi_308 pc) = true := xi_c (xi_c (xi_ok308_0) (xi_c (xi_ok308_1) (xi_ok308_2))) (xi_c (xi_ok308_3) (xi_c (xi_ok308_4) (xi_ok308_5)))
