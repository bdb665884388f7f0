noncomputable def zi_370_0 : ZIs := [(0, ev_10), (1, ev_25), (3, ev_150), (5, ev_13), (6, ev_1288), (9, ev_1586), (12, ev_23), (13, ev_150), (15, ev_150), (17, ev_192), (18, ev_818), (21, ev_10), (22, ev_229), (25, ev_252), (26, ev_299), (27, ev_203)]
noncomputable def zi_370_1 : ZIs := [(29, ev_150), (31, ev_150), (33, ev_192), (34, ev_818), (37, ev_228), (38, ev_229), (41, ev_230), (42, ev_194), (43, ev_343), (46, ev_408), (49, ev_10), (50, ev_25), (52, ev_150), (54, ev_13), (55, ev_1288), (58, ev_1637)]
noncomputable def zi_370_2 : ZIs := [(61, ev_13), (62, ev_1291), (65, ev_28), (67, ev_155), (69, ev_13), (70, ev_1291), (73, ev_529), (76, ev_22), (77, ev_470), (80, ev_197), (81, ev_634), (84, ev_13), (85, ev_1038), (88, ev_155), (90, ev_18), (91, ev_633)]
noncomputable def zi_370_3 : ZIs := [(94, ev_13), (95, ev_1302), (98, ev_155), (100, ev_18), (101, ev_275), (103, ev_197), (104, ev_634), (107, ev_13), (108, ev_1302), (111, ev_155), (113, ev_18), (114, ev_633), (117, ev_13), (118, ev_1038), (121, ev_155), (123, ev_18)]
noncomputable def zi_370_4 : ZIs := [(124, ev_313), (126, ev_13), (127, ev_1290), (130, ev_155), (132, ev_1292), (133, ev_1617), (136, ev_23), (137, ev_276), (139, ev_18), (140, ev_150), (142, ev_975), (145, ev_23), (146, ev_314), (148, ev_18), (149, ev_1159), (152, ev_23)]
noncomputable def zi_370_5 : ZIs := [(153, ev_314), (155, ev_18), (156, ev_150), (158, ev_7), (159, ev_22), (160, ev_891), (163, ev_23), (164, ev_314), (166, ev_150), (168, ev_7), (169, ev_22), (170, ev_299), (171, ev_203), (173, ev_314), (175, ev_203), (177, ev_314)]
noncomputable def zi_370_6 : ZIs := [(179, ev_154), (180, ev_203), (182, ev_276), (184, ev_154), (185, ev_457), (186, ev_1646), (189, ev_527), (190, ev_194), (191, ev_320), (194, ev_1667), (197, ev_343), (200, ev_1642), (203, ev_260)]
set_option maxRecDepth 100000 in
theorem xi_w370 : zall cX12_hop [zi_370_0, zi_370_1, zi_370_2, zi_370_3, zi_370_4, zi_370_5, zi_370_6] := zall_w _ _ (by decide +kernel)
noncomputable def xi_370 (pc : Nat) : XIs := cond (Nat.blt pc 94) (cond (Nat.blt pc 29) (zx zi_370_0) (cond (Nat.blt pc 61) (zx zi_370_1) (zx zi_370_2))) (cond (Nat.blt pc 153) (cond (Nat.blt pc 124) (zx zi_370_3) (zx zi_370_4)) (cond (Nat.blt pc 179) (zx zi_370_5) (zx zi_370_6)))
theorem xi_ok370 (pc : Nat) : xi_ok cX12_hop (xi_370 pc) = true := xi_c (xi_c (zq1 xi_w370) (xi_c (zq1 (zq2 xi_w370)) (zq1 (zq2 (zq2 xi_w370))))) (xi_c (xi_c (zq1 (zq2 (zq2 (zq2 xi_w370)))) (zq1 (zq2 (zq2 (zq2 (zq2 xi_w370)))))) (xi_c (zq1 (zq2 (zq2 (zq2 (zq2 (zq2 xi_w370)))))) (zq1 (zq2 (zq2 (zq2 (zq2 (zq2 (zq2 xi_w370)))))))))
noncomputable def zi_371_0 : ZIs := [(0, ev_13), (1, ev_13), (2, ev_192), (3, ev_1335), (6, ev_1396), (9, ev_13), (10, ev_197), (11, ev_1335), (14, ev_617), (17, ev_198), (18, ev_156), (19, ev_230), (20, ev_1645), (23, ev_1316), (26, ev_417), (29, ev_13)]
noncomputable def zi_371_1 : ZIs := [(30, ev_12), (32, ev_1335), (35, ev_227), (38, ev_7), (39, ev_229), (42, ev_10), (43, ev_1176), (46, ev_158), (49, ev_10), (50, ev_152), (51, ev_13), (52, ev_192), (53, ev_10), (54, ev_13), (55, ev_1068), (58, ev_13)]
noncomputable def zi_371_2 : ZIs := [(59, ev_1668), (62, ev_1669), (65, ev_13), (66, ev_197), (67, ev_7), (68, ev_13), (69, ev_1670), (72, ev_13), (73, ev_1671), (76, ev_1669), (79, ev_198), (80, ev_381), (83, ev_13), (84, ev_1068), (87, ev_197), (88, ev_18)]
noncomputable def zi_371_3 : ZIs := [(89, ev_152), (90, ev_198), (91, ev_7), (92, ev_706), (95, ev_13), (96, ev_1668), (99, ev_197), (100, ev_154), (101, ev_991), (102, ev_152), (103, ev_13), (104, ev_1068), (107, ev_12), (109, ev_18), (110, ev_1612), (113, ev_13)]
noncomputable def zi_371_4 : ZIs := [(114, ev_1670), (117, ev_12), (119, ev_18), (120, ev_1622), (123, ev_13), (124, ev_1068), (127, ev_12), (129, ev_18), (130, ev_13), (131, ev_1670), (134, ev_12), (136, ev_18), (137, ev_22), (138, ev_13), (139, ev_1068), (142, ev_197)]
noncomputable def zi_371_5 : ZIs := [(143, ev_18), (144, ev_818), (147, ev_7), (148, ev_229), (151, ev_10), (152, ev_25), (154, ev_150), (156, ev_1170), (159, ev_13), (160, ev_1668), (163, ev_12), (165, ev_154), (166, ev_13), (167, ev_1671), (170, ev_12), (172, ev_154)]
noncomputable def zi_371_6 : ZIs := [(173, ev_492), (174, ev_1646), (177, ev_527), (178, ev_991), (179, ev_229), (182, ev_10), (183, ev_152)]
set_option maxRecDepth 100000 in
theorem xi_w371 : zall cX12_shortest [zi_371_0, zi_371_1, zi_371_2, zi_371_3, zi_371_4, zi_371_5, zi_371_6] := zall_w _ _ (by decide +kernel)
noncomputable def xi_371 (pc : Nat) : XIs := cond (Nat.blt pc 89) (cond (Nat.blt pc 30) (zx zi_371_0) (cond (Nat.blt pc 59) (zx zi_371_1) (zx zi_371_2))) (cond (Nat.blt pc 143) (cond (Nat.blt pc 114) (zx zi_371_3) (zx zi_371_4)) (cond (Nat.blt pc 173) (zx zi_371_5) (zx zi_371_6)))
theorem xi_ok371 (pc : Nat) : xi_ok cX12_shortest (xi_371 pc) = true := xi_c (xi_c (zq1 xi_w371) (xi_c (zq1 (zq2 xi_w371)) (zq1 (zq2 (zq2 xi_w371))))) (xi_c (xi_c (zq1 (zq2 (zq2 (zq2 xi_w371)))) (zq1 (zq2 (zq2 (zq2 (zq2 xi_w371)))))) (xi_c (zq1 (zq2 (zq2 (zq2 (zq2 (zq2 xi_w371)))))) (zq1 (zq2 (zq2 (zq2 (zq2 (zq2 (zq2 xi_w371)))))))))
noncomputable def zi_372_0 : ZIs := [(0, ev_1645), (3, ev_13), (4, ev_1672), (7, ev_156), (8, ev_492), (9, ev_13), (10, ev_1673), (13, ev_176), (15, ev_192), (16, ev_355), (17, ev_197), (18, ev_22), (19, ev_18), (20, ev_156), (21, ev_492), (22, ev_13)]
noncomputable def zi_372_1 : ZIs := [(23, ev_1674), (26, ev_192), (27, ev_18), (28, ev_156), (29, ev_13), (30, ev_1674), (33, ev_197), (34, ev_18), (35, ev_156), (36, ev_492), (37, ev_485), (38, ev_481)]
set_option maxRecDepth 100000 in
theorem xi_w372 : zall cX12_gainOf [zi_372_0, zi_372_1] := zall_w _ _ (by decide +kernel)
noncomputable def xi_372 (pc : Nat) : XIs := cond (Nat.blt pc 23) (zx zi_372_0) (zx zi_372_1)
theorem xi_ok372 (pc : Nat) : xi_ok cX12_gainOf (xi_372 pc) = true := xi_c (zq1 xi_w372) (zq1 (zq2 xi_w372))
noncomputable def zi_373_0 : ZIs := [(0, ev_230), (1, ev_924), (2, ev_10), (3, ev_25), (5, ev_150), (7, ev_13), (8, ev_1288), (11, ev_1586), (14, ev_484), (15, ev_150), (17, ev_192), (18, ev_1481), (21, ev_13), (22, ev_1675), (25, ev_150), (27, ev_18)]
noncomputable def zi_373_1 : ZIs := [(28, ev_197), (29, ev_927), (32, ev_13), (33, ev_192), (34, ev_150), (36, ev_1676), (39, ev_229), (42, ev_230), (43, ev_457), (44, ev_924), (45, ev_343), (48, ev_408), (51, ev_484), (52, ev_481)]
set_option maxRecDepth 100000 in
theorem xi_w373 : zall cX12_gainIn [zi_373_0, zi_373_1] := zall_w _ _ (by decide +kernel)
noncomputable def xi_373 (pc : Nat) : XIs := cond (Nat.blt pc 28) (zx zi_373_0) (zx zi_373_1)
theorem xi_ok373 (pc : Nat) : xi_ok cX12_gainIn (xi_373 pc) = true := xi_c (zq1 xi_w373) (zq1 (zq2 xi_w373))
noncomputable def zi_374_0 : ZIs := [(0, ev_13), (1, ev_10), (2, ev_1677), (5, ev_10), (6, ev_685), (7, ev_192), (8, ev_528), (11, ev_1114), (14, ev_13), (15, ev_1673), (18, ev_192), (19, ev_10), (20, ev_299), (21, ev_688), (24, ev_1509), (27, ev_10)]
noncomputable def zi_374_1 : ZIs := [(28, ev_685), (29, ev_192), (30, ev_13), (31, ev_1288), (34, ev_346), (37, ev_13), (38, ev_1674), (41, ev_192), (42, ev_10), (43, ev_299), (44, ev_13), (45, ev_1675), (48, ev_192), (49, ev_192), (50, ev_299), (51, ev_688)]
noncomputable def zi_374_2 : ZIs := [(54, ev_319), (57, ev_10), (58, ev_685), (59, ev_192), (60, ev_529), (63, ev_1678), (66, ev_13), (67, ev_192), (68, ev_1179), (71, ev_1419), (74, ev_13), (75, ev_1), (76, ev_1672), (79, ev_7), (80, ev_22), (81, ev_1677)]
noncomputable def zi_374_3 : ZIs := [(84, ev_13), (85, ev_1674), (88, ev_13), (89, ev_1302), (92, ev_13), (93, ev_1291), (96, ev_192), (97, ev_22), (98, ev_18), (99, ev_316), (100, ev_18), (101, ev_7), (102, ev_22), (103, ev_299), (104, ev_13), (105, ev_1674)]
noncomputable def zi_374_4 : ZIs := [(108, ev_13), (109, ev_1038), (112, ev_13), (113, ev_1291), (116, ev_192), (117, ev_22), (118, ev_18), (119, ev_316), (120, ev_18), (121, ev_7), (122, ev_22), (123, ev_299), (124, ev_13), (125, ev_1673), (128, ev_176), (130, ev_13)]
noncomputable def zi_374_5 : ZIs := [(131, ev_1302), (134, ev_13), (135, ev_1291), (138, ev_192), (139, ev_22), (140, ev_18), (141, ev_355), (142, ev_13), (143, ev_1038), (146, ev_13), (147, ev_1291), (150, ev_192), (151, ev_22), (152, ev_18), (153, ev_22), (154, ev_316)]
noncomputable def zi_374_6 : ZIs := [(155, ev_18), (156, ev_7), (157, ev_22), (158, ev_299), (159, ev_13), (160, ev_1673), (163, ev_176), (165, ev_13), (166, ev_1038), (169, ev_13), (170, ev_1291), (173, ev_192), (174, ev_22), (175, ev_18), (176, ev_355), (177, ev_13)]
noncomputable def zi_374_7 : ZIs := [(178, ev_1302), (181, ev_13), (182, ev_1291), (185, ev_192), (186, ev_22), (187, ev_18), (188, ev_22), (189, ev_316), (190, ev_18), (191, ev_7), (192, ev_22), (193, ev_299), (194, ev_688), (197, ev_977), (200, ev_7), (201, ev_685)]
noncomputable def zi_374_8 : ZIs := [(202, ev_10), (203, ev_294), (204, ev_197), (205, ev_732), (207, ev_505), (210, ev_192), (211, ev_272), (214, ev_10), (215, ev_685), (216, ev_10), (217, ev_295), (218, ev_198), (219, ev_13), (220, ev_1288), (223, ev_848), (226, ev_13)]
noncomputable def zi_374_9 : ZIs := [(227, ev_198), (228, ev_1679), (231, ev_11), (233, ev_192), (234, ev_390), (237, ev_12), (239, ev_13), (240, ev_1675), (243, ev_198), (244, ev_18), (245, ev_681), (248, ev_7), (249, ev_229), (252, ev_10), (253, ev_685), (254, ev_13)]
noncomputable def zi_374_10 : ZIs := [(255, ev_1675), (258, ev_198), (259, ev_12), (261, ev_299), (262, ev_300), (265, ev_850), (268, ev_304), (271, ev_1413), (274, ev_260)]
set_option maxRecDepth 100000 in
theorem xi_w374 : zall cX12_findGroups [zi_374_0, zi_374_1, zi_374_2, zi_374_3, zi_374_4, zi_374_5, zi_374_6, zi_374_7, zi_374_8, zi_374_9, zi_374_10] := zall_w _ _ (by decide +kernel)
noncomputable def xi_374 (pc : Nat) : XIs := cond (Nat.blt pc 131) (cond (Nat.blt pc 54) (cond (Nat.blt pc 28) (zx zi_374_0) (zx zi_374_1)) (cond (Nat.blt pc 84) (zx zi_374_2) (cond (Nat.blt pc 108) (zx zi_374_3) (zx zi_374_4)))) (cond (Nat.blt pc 202) (cond (Nat.blt pc 155) (zx zi_374_5) (cond (Nat.blt pc 178) (zx zi_374_6) (zx zi_374_7))) (cond (Nat.blt pc 227) (zx zi_374_8) (cond (Nat.blt pc 255) (zx zi_374_9) (zx zi_374_10))))
theorem xi_ok374 (pc : Nat) : xi_ok cX12_findGroups (xi_374 pc) = true := xi_c (xi_c (xi_c (zq1 xi_w374) (zq1 (zq2 xi_w374))) (xi_c (zq1 (zq2 (zq2 xi_w374))) (xi_c (zq1 (zq2 (zq2 (zq2 xi_w374)))) (zq1 (zq2 (zq2 (zq2 (zq2 xi_w374)))))))) (xi_c (xi_c (zq1 (zq2 (zq2 (zq2 (zq2 (zq2 xi_w374)))))) (xi_c (zq1 (zq2 (zq2 (zq2 (zq2 (zq2 (zq2 xi_w374))))))) (zq1 (zq2 (zq2 (zq2 (zq2 (zq2 (zq2 (zq2 xi_w374)))))))))) (xi_c (zq1 (zq2 (zq2 (zq2 (zq2 (zq2 (zq2 (zq2 (zq2 xi_w374))))))))) (xi_c (zq1 (zq2 (zq2 (zq2 (zq2 (zq2 (zq2 (zq2 (zq2 (zq2 xi_w374)))))))))) (zq1 (zq2 (zq2 (zq2 (zq2 (zq2 (zq2 (zq2 (zq2 (zq2 (zq2 xi_w374))))))))))))))
noncomputable def zi_375_0 : ZIs := [(0, ev_412), (2, ev_295), (3, ev_13), (4, ev_1288), (7, ev_7), (8, ev_16), (9, ev_11), (11, ev_12), (13, ev_1680), (16, ev_13), (17, ev_1675), (20, ev_12), (22, ev_18), (23, ev_192), (24, ev_798), (27, ev_12)]
noncomputable def zi_375_1 : ZIs := [(29, ev_197), (30, ev_1681), (33, ev_12), (35, ev_229), (38, ev_198), (39, ev_295), (40, ev_1682), (43, ev_693), (46, ev_198), (47, ev_152)]
set_option maxRecDepth 100000 in
theorem xi_w375 : zall cX12_leastOf [zi_375_0, zi_375_1] := zall_w _ _ (by decide +kernel)
noncomputable def xi_375 (pc : Nat) : XIs := cond (Nat.blt pc 29) (zx zi_375_0) (zx zi_375_1)
theorem xi_ok375 (pc : Nat) : xi_ok cX12_leastOf (xi_375 pc) = true := xi_c (zq1 xi_w375) (zq1 (zq2 xi_w375))
noncomputable def zi_376_0 : ZIs := [(0, ev_13), (1, ev_192), (2, ev_13), (3, ev_1675), (6, ev_192), (7, ev_18), (8, ev_1683), (11, ev_517), (12, ev_13), (13, ev_1675), (16, ev_192), (17, ev_18), (18, ev_11), (20, ev_252), (21, ev_25), (23, ev_13)]
noncomputable def zi_376_1 : ZIs := [(24, ev_13), (25, ev_1675), (28, ev_192), (29, ev_18), (30, ev_192), (31, ev_1684), (34, ev_412), (36, ev_818), (39, ev_7), (40, ev_229), (43, ev_10), (44, ev_28), (46, ev_10), (47, ev_275), (49, ev_276), (51, ev_13)]
noncomputable def zi_376_2 : ZIs := [(52, ev_1288), (55, ev_1685), (58, ev_276), (60, ev_192), (61, ev_1686), (64, ev_13), (65, ev_1673), (68, ev_176), (70, ev_192), (71, ev_355), (72, ev_276), (74, ev_22), (75, ev_18), (76, ev_1072), (79, ev_13), (80, ev_1675)]
noncomputable def zi_376_3 : ZIs := [(83, ev_276), (85, ev_18), (86, ev_13), (87, ev_1675), (90, ev_192), (91, ev_18), (92, ev_1687), (95, ev_13), (96, ev_192), (97, ev_13), (98, ev_1675), (101, ev_276), (103, ev_18), (104, ev_1683), (107, ev_445), (109, ev_13)]
noncomputable def zi_376_4 : ZIs := [(110, ev_13), (111, ev_1675), (114, ev_276), (116, ev_18), (117, ev_192), (118, ev_1684), (121, ev_447), (123, ev_462), (125, ev_489), (126, ev_157), (127, ev_1688), (130, ev_462), (132, ev_489), (133, ev_157), (134, ev_1689), (137, ev_150)]
noncomputable def zi_376_5 : ZIs := [(139, ev_1690), (142, ev_448), (144, ev_150), (146, ev_622), (149, ev_462), (151, ev_517), (152, ev_13), (153, ev_1675), (156, ev_276), (158, ev_18), (159, ev_11), (161, ev_448), (163, ev_25), (165, ev_955), (168, ev_989), (171, ev_155)]
noncomputable def zi_376_6 : ZIs := [(173, ev_390), (176, ev_489), (177, ev_230), (178, ev_157), (179, ev_1400), (182, ev_13), (183, ev_1691), (186, ev_152), (187, ev_12), (189, ev_152)]
set_option maxRecDepth 100000 in
theorem xi_w376 : zall cX12_bestGroup [zi_376_0, zi_376_1, zi_376_2, zi_376_3, zi_376_4, zi_376_5, zi_376_6] := zall_w _ _ (by decide +kernel)
noncomputable def xi_376 (pc : Nat) : XIs := cond (Nat.blt pc 83) (cond (Nat.blt pc 24) (zx zi_376_0) (cond (Nat.blt pc 52) (zx zi_376_1) (zx zi_376_2))) (cond (Nat.blt pc 139) (cond (Nat.blt pc 110) (zx zi_376_3) (zx zi_376_4)) (cond (Nat.blt pc 173) (zx zi_376_5) (zx zi_376_6)))
theorem xi_ok376 (pc : Nat) : xi_ok cX12_bestGroup (xi_376 pc) = true := xi_c (xi_c (zq1 xi_w376) (xi_c (zq1 (zq2 xi_w376)) (zq1 (zq2 (zq2 xi_w376))))) (xi_c (xi_c (zq1 (zq2 (zq2 (zq2 xi_w376)))) (zq1 (zq2 (zq2 (zq2 (zq2 xi_w376)))))) (xi_c (zq1 (zq2 (zq2 (zq2 (zq2 (zq2 xi_w376)))))) (zq1 (zq2 (zq2 (zq2 (zq2 (zq2 (zq2 xi_w376)))))))))
noncomputable def zi_377_0 : ZIs := [(0, ev_10), (1, ev_685), (2, ev_13), (3, ev_192), (4, ev_252), (5, ev_1684), (8, ev_412), (10, ev_472), (13, ev_688), (16, ev_1155), (19, ev_192), (20, ev_152)]
set_option maxRecDepth 100000 in
theorem xi_w377 : zall cX12_freeGroup [zi_377_0] := zall_w _ _ (by decide +kernel)
noncomputable def xi_377 (pc : Nat) : XIs := zx zi_377_0
theorem xi_ok377 (pc : Nat) : xi_ok cX12_freeGroup (xi_377 pc) = true := zq1 xi_w377
noncomputable def zi_378_0 : ZIs := [(0, ev_13), (1, ev_13), (2, ev_192), (3, ev_1335), (6, ev_1176), (9, ev_158), (12, ev_10), (13, ev_152), (14, ev_13), (15, ev_1692), (18, ev_13), (19, ev_13), (20, ev_1675), (23, ev_192), (24, ev_18), (25, ev_252)]
noncomputable def zi_378_1 : ZIs := [(26, ev_1684), (29, ev_152)]
set_option maxRecDepth 100000 in
theorem xi_w378 : zall cX12_group [zi_378_0, zi_378_1] := zall_w _ _ (by decide +kernel)
noncomputable def xi_378 (pc : Nat) : XIs := cond (Nat.blt pc 26) (zx zi_378_0) (zx zi_378_1)
theorem xi_ok378 (pc : Nat) : xi_ok cX12_group (xi_378 pc) = true := xi_c (zq1 xi_w378) (zq1 (zq2 xi_w378))
noncomputable def zi_379_0 : ZIs := [(0, ev_13), (1, ev_10), (2, ev_1286), (5, ev_13), (6, ev_1692), (9, ev_230), (10, ev_1651), (11, ev_10), (12, ev_295), (13, ev_198), (14, ev_13), (15, ev_1288), (18, ev_346), (21, ev_483), (22, ev_13), (23, ev_198)]
noncomputable def zi_379_1 : ZIs := [(24, ev_13), (25, ev_1675), (28, ev_198), (29, ev_18), (30, ev_1683), (33, ev_457), (34, ev_1651), (35, ev_300), (38, ev_319), (41, ev_483), (42, ev_481)]
set_option maxRecDepth 100000 in
theorem xi_w379 : zall cX12_gain [zi_379_0, zi_379_1] := zall_w _ _ (by decide +kernel)
noncomputable def xi_379 (pc : Nat) : XIs := cond (Nat.blt pc 24) (zx zi_379_0) (zx zi_379_1)
theorem xi_ok379 (pc : Nat) : xi_ok cX12_gain (xi_379 pc) = true := xi_c (zq1 xi_w379) (zq1 (zq2 xi_w379))
noncomputable def zi_380_0 : ZIs := [(0, ev_13), (1, ev_192), (2, ev_156), (3, ev_230), (4, ev_228), (5, ev_1316), (8, ev_1176), (11, ev_158), (14, ev_230), (15, ev_481), (16, ev_13), (17, ev_1510), (20, ev_230), (21, ev_517), (22, ev_10), (23, ev_11)]
noncomputable def zi_380_1 : ZIs := [(25, ev_12), (27, ev_13), (28, ev_1288), (31, ev_588), (34, ev_12), (36, ev_7), (37, ev_22), (38, ev_25), (40, ev_150), (42, ev_13), (43, ev_1288), (46, ev_449), (49, ev_13), (50, ev_1506), (53, ev_12), (55, ev_18)]
noncomputable def zi_380_2 : ZIs := [(56, ev_13), (57, ev_1506), (60, ev_150), (62, ev_18), (63, ev_20), (64, ev_1515), (67, ev_156), (68, ev_58), (70, ev_489), (71, ev_192), (72, ev_7), (73, ev_1497), (76, ev_460), (78, ev_460), (80, ev_228), (81, ev_485)]
noncomputable def zi_380_3 : ZIs := [(82, ev_492), (83, ev_1645), (86, ev_490), (87, ev_1436), (90, ev_13), (91, ev_1506), (94, ev_12), (96, ev_18), (97, ev_150), (99, ev_1418), (102, ev_330), (105, ev_460), (107, ev_229), (110, ev_230), (111, ev_457), (112, ev_517)]
noncomputable def zi_380_4 : ZIs := [(113, ev_343), (116, ev_820), (119, ev_348), (122, ev_595), (125, ev_192), (126, ev_1116), (129, ev_489), (130, ev_1330), (133, ev_490), (134, ev_986), (137, ev_489), (138, ev_1645), (141, ev_490), (142, ev_481)]
set_option maxRecDepth 100000 in
theorem xi_w380 : zall cX12_figures [zi_380_0, zi_380_1, zi_380_2, zi_380_3, zi_380_4] := zall_w _ _ (by decide +kernel)
noncomputable def xi_380 (pc : Nat) : XIs := cond (Nat.blt pc 56) (cond (Nat.blt pc 25) (zx zi_380_0) (zx zi_380_1)) (cond (Nat.blt pc 82) (zx zi_380_2) (cond (Nat.blt pc 113) (zx zi_380_3) (zx zi_380_4)))
theorem xi_ok380 (pc : Nat) : xi_ok cX12_figures (xi_380 pc) = true := xi_c (xi_c (zq1 xi_w380) (zq1 (zq2 xi_w380))) (xi_c (zq1 (zq2 (zq2 xi_w380))) (xi_c (zq1 (zq2 (zq2 (zq2 xi_w380)))) (zq1 (zq2 (zq2 (zq2 (zq2 xi_w380)))))))
noncomputable def zi_381_0 : ZIs := [(0, ev_13), (1, ev_1693), (4, ev_13), (5, ev_1694), (8, ev_10), (9, ev_1301), (10, ev_13), (11, ev_1695), (14, ev_13), (15, ev_1694), (18, ev_10), (19, ev_1301), (20, ev_13), (21, ev_1137), (24, ev_13), (25, ev_1694)]
noncomputable def zi_381_1 : ZIs := [(28, ev_230), (29, ev_194), (30, ev_13), (31, ev_1138), (34, ev_13), (35, ev_1694), (38, ev_230), (39, ev_194), (40, ev_13), (41, ev_1696), (44, ev_260)]
set_option maxRecDepth 100000 in
theorem xi_w381 : zall cX12_beginAlternative [zi_381_0, zi_381_1] := zall_w _ _ (by decide +kernel)
noncomputable def xi_381 (pc : Nat) : XIs := cond (Nat.blt pc 28) (zx zi_381_0) (zx zi_381_1)
theorem xi_ok381 (pc : Nat) : xi_ok cX12_beginAlternative (xi_381 pc) = true := xi_c (zq1 xi_w381) (zq1 (zq2 xi_w381))
noncomputable def zi_382_0 : ZIs := [(0, ev_13), (1, ev_1697), (4, ev_13), (5, ev_1694), (8, ev_7), (9, ev_1301), (10, ev_13), (11, ev_1698), (14, ev_13), (15, ev_1694), (18, ev_230), (19, ev_194), (20, ev_13), (21, ev_1699), (24, ev_13), (25, ev_1694)]
noncomputable def zi_382_1 : ZIs := [(28, ev_230), (29, ev_194), (30, ev_13), (31, ev_10), (32, ev_1700), (35, ev_13), (36, ev_10), (37, ev_1701), (40, ev_260)]
set_option maxRecDepth 100000 in
theorem xi_w382 : zall cX12_beginSequence [zi_382_0, zi_382_1] := zall_w _ _ (by decide +kernel)
noncomputable def xi_382 (pc : Nat) : XIs := cond (Nat.blt pc 28) (zx zi_382_0) (zx zi_382_1)
theorem xi_ok382 (pc : Nat) : xi_ok cX12_beginSequence (xi_382 pc) = true := xi_c (zq1 xi_w382) (zq1 (zq2 xi_w382))
noncomputable def zi_383_0 : ZIs := [(0, ev_10), (1, ev_25), (3, ev_150), (5, ev_389), (7, ev_297), (10, ev_13), (11, ev_1702), (14, ev_150), (16, ev_316), (17, ev_154), (18, ev_483), (19, ev_150), (21, ev_907), (22, ev_228), (23, ev_179), (24, ev_228)]
noncomputable def zi_383_1 : ZIs := [(25, ev_157), (26, ev_326), (29, ev_484), (30, ev_229), (33, ev_230), (34, ev_180), (35, ev_194), (36, ev_343), (39, ev_1015), (42, ev_260)]
set_option maxRecDepth 100000 in
theorem xi_w383 : zall cX12_follow [zi_383_0, zi_383_1] := zall_w _ _ (by decide +kernel)
noncomputable def xi_383 (pc : Nat) : XIs := cond (Nat.blt pc 25) (zx zi_383_0) (zx zi_383_1)
theorem xi_ok383 (pc : Nat) : xi_ok cX12_follow (xi_383 pc) = true := xi_c (zq1 xi_w383) (zq1 (zq2 xi_w383))
noncomputable def zi_384_0 : ZIs := [(0, ev_13), (1, ev_1703), (4, ev_1704), (7, ev_13), (8, ev_13), (9, ev_1699), (12, ev_13), (13, ev_1694), (16, ev_154), (17, ev_13), (18, ev_1705), (21, ev_1706), (24, ev_13), (25, ev_1698), (28, ev_13), (29, ev_1694)]
noncomputable def zi_384_1 : ZIs := [(32, ev_316), (33, ev_154), (34, ev_13), (35, ev_1697), (38, ev_13), (39, ev_1694), (42, ev_1292), (43, ev_385), (46, ev_13), (47, ev_1705), (50, ev_229), (53, ev_230), (54, ev_180), (55, ev_194), (56, ev_13), (57, ev_1699)]
noncomputable def zi_384_2 : ZIs := [(60, ev_13), (61, ev_1694), (64, ev_13), (65, ev_1707), (68, ev_13), (69, ev_1708), (72, ev_771), (75, ev_13), (76, ev_1699), (79, ev_13), (80, ev_1694), (83, ev_154), (84, ev_229), (87, ev_230), (88, ev_180), (89, ev_194)]
noncomputable def zi_384_3 : ZIs := [(90, ev_13), (91, ev_1697), (94, ev_13), (95, ev_1694), (98, ev_13), (99, ev_1697), (102, ev_13), (103, ev_1694), (106, ev_1292), (107, ev_1004), (110, ev_13), (111, ev_1708), (114, ev_227), (117, ev_7), (118, ev_229), (121, ev_10)]
noncomputable def zi_384_4 : ZIs := [(122, ev_1301), (123, ev_13), (124, ev_10), (125, ev_1700), (128, ev_13), (129, ev_10), (130, ev_1701), (133, ev_260)]
set_option maxRecDepth 100000 in
theorem xi_w384 : zall cX12_flush [zi_384_0, zi_384_1, zi_384_2, zi_384_3, zi_384_4] := zall_w _ _ (by decide +kernel)
noncomputable def xi_384 (pc : Nat) : XIs := cond (Nat.blt pc 60) (cond (Nat.blt pc 32) (zx zi_384_0) (zx zi_384_1)) (cond (Nat.blt pc 90) (zx zi_384_2) (cond (Nat.blt pc 122) (zx zi_384_3) (zx zi_384_4)))
theorem xi_ok384 (pc : Nat) : xi_ok cX12_flush (xi_384 pc) = true := xi_c (xi_c (zq1 xi_w384) (zq1 (zq2 xi_w384))) (xi_c (zq1 (zq2 (zq2 xi_w384))) (xi_c (zq1 (zq2 (zq2 (zq2 xi_w384)))) (zq1 (zq2 (zq2 (zq2 (zq2 xi_w384)))))))
noncomputable def zi_385_0 : ZIs := [(0, ev_13), (1, ev_1709), (4, ev_13), (5, ev_1693), (8, ev_13), (9, ev_1694), (12, ev_7), (13, ev_1301), (14, ev_13), (15, ev_1695), (18, ev_13), (19, ev_1694), (22, ev_13), (23, ev_1695), (26, ev_13), (27, ev_1694)]
noncomputable def zi_385_1 : ZIs := [(30, ev_1292), (31, ev_153), (34, ev_13), (35, ev_1697), (38, ev_13), (39, ev_1694), (42, ev_1292), (43, ev_227), (46, ev_7), (47, ev_229), (50, ev_10), (51, ev_1301), (52, ev_13), (53, ev_1137), (56, ev_13), (57, ev_1694)]
noncomputable def zi_385_2 : ZIs := [(60, ev_316), (61, ev_154), (62, ev_13), (63, ev_1698), (66, ev_13), (67, ev_1694), (70, ev_154), (71, ev_180), (72, ev_194), (73, ev_13), (74, ev_1138), (77, ev_13), (78, ev_1694), (81, ev_316), (82, ev_154), (83, ev_13)]
noncomputable def zi_385_3 : ZIs := [(84, ev_1699), (87, ev_13), (88, ev_1694), (91, ev_154), (92, ev_180), (93, ev_194), (94, ev_260)]
set_option maxRecDepth 100000 in
theorem xi_w385 : zall cX12_endSequence [zi_385_0, zi_385_1, zi_385_2, zi_385_3] := zall_w _ _ (by decide +kernel)
noncomputable def xi_385 (pc : Nat) : XIs := cond (Nat.blt pc 60) (cond (Nat.blt pc 30) (zx zi_385_0) (zx zi_385_1)) (cond (Nat.blt pc 84) (zx zi_385_2) (zx zi_385_3))
theorem xi_ok385 (pc : Nat) : xi_ok cX12_endSequence (xi_385 pc) = true := xi_c (xi_c (zq1 xi_w385) (zq1 (zq2 xi_w385))) (xi_c (zq1 (zq2 (zq2 xi_w385))) (zq1 (zq2 (zq2 (zq2 xi_w385)))))
noncomputable def zi_386_0 : ZIs := [(0, ev_13), (1, ev_10), (2, ev_1286), (5, ev_13), (6, ev_10), (7, ev_1345), (10, ev_13), (11, ev_1191), (14, ev_389), (16, ev_1524), (19, ev_13), (20, ev_30), (21, ev_389), (23, ev_1361), (26, ev_808), (28, ev_152)]
noncomputable def zi_386_1 : ZIs := [(29, ev_10), (30, ev_685), (31, ev_10), (32, ev_294), (33, ev_197), (34, ev_389), (36, ev_1114), (39, ev_13), (40, ev_1702), (43, ev_197), (44, ev_230), (45, ev_194), (46, ev_304), (49, ev_1071), (52, ev_13), (53, ev_10)]
noncomputable def zi_386_2 : ZIs := [(54, ev_1710), (57, ev_13), (58, ev_1711), (61, ev_10), (62, ev_294), (63, ev_197), (64, ev_13), (65, ev_1191), (68, ev_1501), (71, ev_13), (72, ev_1342), (75, ev_1712), (78, ev_13), (79, ev_840), (82, ev_197), (83, ev_18)]
noncomputable def zi_386_3 : ZIs := [(84, ev_295), (85, ev_198), (86, ev_1357), (89, ev_992), (92, ev_198), (93, ev_884), (95, ev_1633), (98, ev_13), (99, ev_1709), (102, ev_13), (103, ev_1713), (106, ev_192), (107, ev_198), (108, ev_884), (110, ev_540), (113, ev_874)]
noncomputable def zi_386_4 : ZIs := [(115, ev_212), (118, ev_198), (119, ev_422), (121, ev_16), (122, ev_299), (123, ev_13), (124, ev_10), (125, ev_228), (126, ev_192), (127, ev_177), (128, ev_228), (129, ev_192), (130, ev_177), (131, ev_1714), (134, ev_688), (137, ev_195)]
noncomputable def zi_386_5 : ZIs := [(140, ev_13), (141, ev_198), (142, ev_197), (143, ev_1715), (146, ev_304), (149, ev_1503), (152, ev_13), (153, ev_1342), (156, ev_411), (159, ev_13), (160, ev_1694), (163, ev_1716), (166, ev_13), (167, ev_30), (168, ev_13), (169, ev_1191)]
noncomputable def zi_386_6 : ZIs := [(172, ev_1361), (175, ev_13), (176, ev_1342), (179, ev_1372), (182, ev_808), (184, ev_152), (185, ev_13), (186, ev_1717), (189, ev_13), (190, ev_192), (191, ev_1718), (194, ev_13), (195, ev_13), (196, ev_1695), (199, ev_10), (200, ev_1292)]
noncomputable def zi_386_7 : ZIs := [(201, ev_1261), (204, ev_13), (205, ev_13), (206, ev_1137), (209, ev_10), (210, ev_154), (211, ev_1719), (214, ev_13), (215, ev_13), (216, ev_1138), (219, ev_10), (220, ev_154), (221, ev_1720), (224, ev_10), (225, ev_294), (226, ev_197)]
noncomputable def zi_386_8 : ZIs := [(227, ev_389), (229, ev_340), (232, ev_13), (233, ev_1721), (236, ev_197), (237, ev_13), (238, ev_1713), (241, ev_197), (242, ev_18), (243, ev_299), (244, ev_13), (245, ev_1722), (248, ev_197), (249, ev_13), (250, ev_1702), (253, ev_197)]
noncomputable def zi_386_9 : ZIs := [(254, ev_154), (255, ev_194), (256, ev_304), (259, ev_861), (262, ev_10), (263, ev_152)]
set_option maxRecDepth 100000 in
theorem xi_w386 : zall cX12_pattern [zi_386_0, zi_386_1, zi_386_2, zi_386_3, zi_386_4, zi_386_5, zi_386_6, zi_386_7, zi_386_8, zi_386_9] := zall_w _ _ (by decide +kernel)
noncomputable def xi_386 (pc : Nat) : XIs := cond (Nat.blt pc 140) (cond (Nat.blt pc 54) (cond (Nat.blt pc 29) (zx zi_386_0) (zx zi_386_1)) (cond (Nat.blt pc 84) (zx zi_386_2) (cond (Nat.blt pc 115) (zx zi_386_3) (zx zi_386_4)))) (cond (Nat.blt pc 201) (cond (Nat.blt pc 172) (zx zi_386_5) (zx zi_386_6)) (cond (Nat.blt pc 227) (zx zi_386_7) (cond (Nat.blt pc 254) (zx zi_386_8) (zx zi_386_9))))
theorem xi_ok386 (pc : Nat) : xi_ok cX12_pattern (xi_386 pc) = true := xi_c (xi_c (xi_c (zq1 xi_w386) (zq1 (zq2 xi_w386))) (xi_c (zq1 (zq2 (zq2 xi_w386))) (xi_c (zq1 (zq2 (zq2 (zq2 xi_w386)))) (zq1 (zq2 (zq2 (zq2 (zq2 xi_w386)))))))) (xi_c (xi_c (zq1 (zq2 (zq2 (zq2 (zq2 (zq2 xi_w386)))))) (zq1 (zq2 (zq2 (zq2 (zq2 (zq2 (zq2 xi_w386)))))))) (xi_c (zq1 (zq2 (zq2 (zq2 (zq2 (zq2 (zq2 (zq2 xi_w386)))))))) (xi_c (zq1 (zq2 (zq2 (zq2 (zq2 (zq2 (zq2 (zq2 (zq2 xi_w386))))))))) (zq1 (zq2 (zq2 (zq2 (zq2 (zq2 (zq2 (zq2 (zq2 (zq2 xi_w386)))))))))))))
noncomputable def zi_387_0 : ZIs := [(0, ev_13), (1, ev_7), (2, ev_1700), (5, ev_13), (6, ev_7), (7, ev_1701), (10, ev_13), (11, ev_192), (12, ev_1723), (15, ev_13), (16, ev_489), (17, ev_1724), (20, ev_13), (21, ev_247), (23, ev_1725), (26, ev_260)]
set_option maxRecDepth 100000 in
theorem xi_w387 : zall cX12_setAtom [zi_387_0] := zall_w _ _ (by decide +kernel)
noncomputable def xi_387 (pc : Nat) : XIs := zx zi_387_0
theorem xi_ok387 (pc : Nat) : xi_ok cX12_setAtom (xi_387 pc) = true := zq1 xi_w387
noncomputable def zi_388_0 : ZIs := [(0, ev_192)]
noncomputable def xi_388_1 : XIs := [(1, .lookupswitch 241 #[(40, 70), (41, 107), (42, 179), (43, 179), (63, 179), (124, 59)], 59)]
set_option maxRecDepth 100000 in
theorem xi_ok388_1 : xi_ok cX12_sign xi_388_1 = true := by decide +kernel
noncomputable def zi_388_2 : ZIs := [(60, ev_13), (61, ev_1717), (64, ev_13), (65, ev_1696), (68, ev_1726), (71, ev_13), (72, ev_1694), (75, ev_413), (77, ev_810), (80, ev_13), (81, ev_31), (82, ev_197), (83, ev_1361), (86, ev_260), (87, ev_13), (88, ev_1709)]
noncomputable def zi_388_3 : ZIs := [(91, ev_13), (92, ev_1), (93, ev_1694), (96, ev_7), (97, ev_22), (98, ev_1710), (101, ev_13), (102, ev_1711), (105, ev_1727), (108, ev_13), (109, ev_1694), (112, ev_381), (115, ev_13), (116, ev_30), (117, ev_197), (118, ev_1361)]
noncomputable def zi_388_4 : ZIs := [(121, ev_260), (122, ev_13), (123, ev_1717), (126, ev_13), (127, ev_1695), (130, ev_13), (131, ev_1694), (134, ev_1292), (135, ev_295), (136, ev_13), (137, ev_1137), (140, ev_13), (141, ev_1694), (144, ev_154), (145, ev_442), (147, ev_13)]
noncomputable def zi_388_5 : ZIs := [(148, ev_1138), (151, ev_13), (152, ev_1694), (155, ev_154), (156, ev_58), (158, ev_13), (159, ev_1), (160, ev_1694), (163, ev_7), (164, ev_16), (165, ev_1710), (168, ev_13), (169, ev_198), (170, ev_247), (172, ev_460), (174, ev_1714)]
noncomputable def zi_388_6 : ZIs := [(177, ev_1728), (180, ev_13), (181, ev_1729), (184, ev_381), (187, ev_13), (188, ev_30), (189, ev_197), (190, ev_1361), (193, ev_260), (194, ev_192), (195, ev_19), (197, ev_742), (200, ev_13), (201, ev_13), (202, ev_1707), (205, ev_13)]
noncomputable def zi_388_7 : ZIs := [(206, ev_1705), (209, ev_1706), (212, ev_13), (213, ev_13), (214, ev_1708), (217, ev_992), (220, ev_192), (221, ev_398), (223, ev_681), (226, ev_7), (227, ev_229), (230, ev_10), (231, ev_1723), (234, ev_13), (235, ev_10), (236, ev_1701)]
noncomputable def zi_388_8 : ZIs := [(239, ev_195), (242, ev_13), (243, ev_7), (244, ev_197), (245, ev_1361), (248, ev_260)]
set_option maxRecDepth 100000 in
theorem xi_w388 : zall cX12_sign [zi_388_0, zi_388_2, zi_388_3, zi_388_4, zi_388_5, zi_388_6, zi_388_7, zi_388_8] := zall_w _ _ (by decide +kernel)
noncomputable def xi_388 (pc : Nat) : XIs := cond (Nat.blt pc 121) (cond (Nat.blt pc 60) (cond (Nat.blt pc 1) (zx zi_388_0) (xi_388_1)) (cond (Nat.blt pc 91) (zx zi_388_2) (zx zi_388_3))) (cond (Nat.blt pc 177) (cond (Nat.blt pc 148) (zx zi_388_4) (zx zi_388_5)) (cond (Nat.blt pc 206) (zx zi_388_6) (cond (Nat.blt pc 239) (zx zi_388_7) (zx zi_388_8))))
theorem xi_ok388 (pc : Nat) : xi_ok cX12_sign (xi_388 pc) = true := xi_c (xi_c (xi_c (zq1 xi_w388) (xi_ok388_1)) (xi_c (zq1 (zq2 xi_w388)) (zq1 (zq2 (zq2 xi_w388))))) (xi_c (xi_c (zq1 (zq2 (zq2 (zq2 xi_w388)))) (zq1 (zq2 (zq2 (zq2 (zq2 xi_w388)))))) (xi_c (zq1 (zq2 (zq2 (zq2 (zq2 (zq2 xi_w388)))))) (xi_c (zq1 (zq2 (zq2 (zq2 (zq2 (zq2 (zq2 xi_w388))))))) (zq1 (zq2 (zq2 (zq2 (zq2 (zq2 (zq2 (zq2 xi_w388)))))))))))
noncomputable def zi_389_0 : ZIs := [(0, ev_13), (1, ev_13), (2, ev_192), (3, ev_1335), (6, ev_771), (9, ev_13), (10, ev_197), (11, ev_1335), (14, ev_227), (17, ev_7), (18, ev_229), (21, ev_10), (22, ev_1176), (25, ev_158), (28, ev_10), (29, ev_152)]
noncomputable def zi_389_1 : ZIs := [(30, ev_10), (31, ev_295), (32, ev_198), (33, ev_1045), (36, ev_1114), (39, ev_13), (40, ev_1730), (43, ev_198), (44, ev_252), (45, ev_299), (46, ev_300), (49, ev_1509), (52, ev_10), (53, ev_295), (54, ev_7), (55, ev_11)]
noncomputable def zi_389_2 : ZIs := [(57, ev_13), (58, ev_961), (61, ev_10), (62, ev_391), (64, ev_192), (65, ev_355), (66, ev_299), (67, ev_13), (68, ev_1730), (71, ev_391), (73, ev_192), (74, ev_355), (75, ev_10), (76, ev_299), (77, ev_198), (78, ev_12)]
noncomputable def zi_389_3 : ZIs := [(80, ev_1731), (83, ev_13), (84, ev_961), (87, ev_198), (88, ev_18), (89, ev_25), (91, ev_300), (94, ev_150), (96, ev_391), (98, ev_582), (99, ev_28), (101, ev_150), (103, ev_391), (105, ev_508), (106, ev_7), (107, ev_16)]
noncomputable def zi_389_4 : ZIs := [(108, ev_275), (110, ev_276), (112, ev_1328), (115, ev_13), (116, ev_1732), (119, ev_713), (122, ev_13), (123, ev_1733), (126, ev_276), (128, ev_907), (129, ev_228), (130, ev_179), (131, ev_228), (132, ev_157), (133, ev_326), (136, ev_7)]
noncomputable def zi_389_5 : ZIs := [(137, ev_229), (140, ev_10), (141, ev_313), (143, ev_155), (145, ev_197), (146, ev_538), (149, ev_314), (151, ev_931), (154, ev_13), (155, ev_1730), (158, ev_150), (160, ev_18), (161, ev_152), (162, ev_276), (164, ev_1328), (167, ev_13)]
noncomputable def zi_389_6 : ZIs := [(168, ev_1734), (171, ev_633), (174, ev_13), (175, ev_1722), (178, ev_276), (180, ev_154), (181, ev_998), (183, ev_13), (184, ev_1291), (187, ev_451), (189, ev_453), (191, ev_13), (192, ev_1291), (195, ev_529), (198, ev_22), (199, ev_854)]
noncomputable def zi_389_7 : ZIs := [(202, ev_13), (203, ev_1290), (206, ev_453), (208, ev_1292), (209, ev_1396), (212, ev_13), (213, ev_1302), (216, ev_453), (218, ev_18), (219, ev_155), (221, ev_536), (224, ev_13), (225, ev_453), (227, ev_999), (229, ev_13), (230, ev_1730)]
noncomputable def zi_389_8 : ZIs := [(233, ev_150), (235, ev_18), (236, ev_7), (237, ev_22), (238, ev_12), (240, ev_1735), (243, ev_11), (245, ev_1001), (248, ev_1736), (251, ev_1737), (254, ev_252), (255, ev_152)]
set_option maxRecDepth 100000 in
theorem xi_w389 : zall cX12_fits [zi_389_0, zi_389_1, zi_389_2, zi_389_3, zi_389_4, zi_389_5, zi_389_6, zi_389_7, zi_389_8] := zall_w _ _ (by decide +kernel)
noncomputable def xi_389 (pc : Nat) : XIs := cond (Nat.blt pc 108) (cond (Nat.blt pc 57) (cond (Nat.blt pc 30) (zx zi_389_0) (zx zi_389_1)) (cond (Nat.blt pc 80) (zx zi_389_2) (zx zi_389_3))) (cond (Nat.blt pc 168) (cond (Nat.blt pc 137) (zx zi_389_4) (zx zi_389_5)) (cond (Nat.blt pc 202) (zx zi_389_6) (cond (Nat.blt pc 233) (zx zi_389_7) (zx zi_389_8))))
theorem xi_ok389 (pc : Nat) : xi_ok cX12_fits (xi_389 pc) = true := xi_c (xi_c (xi_c (zq1 xi_w389) (zq1 (zq2 xi_w389))) (xi_c (zq1 (zq2 (zq2 xi_w389))) (zq1 (zq2 (zq2 (zq2 xi_w389)))))) (xi_c (xi_c (zq1 (zq2 (zq2 (zq2 (zq2 xi_w389))))) (zq1 (zq2 (zq2 (zq2 (zq2 (zq2 xi_w389))))))) (xi_c (zq1 (zq2 (zq2 (zq2 (zq2 (zq2 (zq2 xi_w389))))))) (xi_c (zq1 (zq2 (zq2 (zq2 (zq2 (zq2 (zq2 (zq2 xi_w389)))))))) (zq1 (zq2 (zq2 (zq2 (zq2 (zq2 (zq2 (zq2 (zq2 xi_w389))))))))))))
noncomputable def zi_390_0 : ZIs := [(0, ev_150), (2, ev_28), (4, ev_10), (5, ev_275), (7, ev_276), (9, ev_13), (10, ev_1738), (13, ev_1739), (16, ev_489), (17, ev_276), (19, ev_907), (20, ev_228), (21, ev_179), (22, ev_228), (23, ev_157), (24, ev_1011)]
noncomputable def zi_390_1 : ZIs := [(27, ev_13), (28, ev_1721), (31, ev_276), (33, ev_18), (34, ev_874), (36, ev_698), (39, ev_13), (40, ev_1721), (43, ev_276), (45, ev_18), (46, ev_13), (47, ev_434), (50, ev_192), (51, ev_18), (52, ev_818), (55, ev_7)]
noncomputable def zi_390_2 : ZIs := [(56, ev_229), (59, ev_10), (60, ev_313), (62, ev_391), (64, ev_13), (65, ev_1038), (68, ev_192), (69, ev_18), (70, ev_355), (71, ev_276), (73, ev_22), (74, ev_7), (75, ev_22), (76, ev_327), (78, ev_314), (80, ev_406)]
noncomputable def zi_390_3 : ZIs := [(83, ev_13), (84, ev_1730), (87, ev_329), (89, ev_18), (90, ev_1740), (93, ev_13), (94, ev_1730), (97, ev_329), (99, ev_12), (101, ev_299), (102, ev_13), (103, ev_961), (106, ev_155), (108, ev_329), (110, ev_299), (111, ev_320)]
noncomputable def zi_390_4 : ZIs := [(114, ev_955), (117, ev_1483), (120, ev_155), (122, ev_152)]
set_option maxRecDepth 100000 in
theorem xi_w390 : zall cX12_goOn [zi_390_0, zi_390_1, zi_390_2, zi_390_3, zi_390_4] := zall_w _ _ (by decide +kernel)
noncomputable def xi_390 (pc : Nat) : XIs := cond (Nat.blt pc 56) (cond (Nat.blt pc 27) (zx zi_390_0) (zx zi_390_1)) (cond (Nat.blt pc 83) (zx zi_390_2) (cond (Nat.blt pc 114) (zx zi_390_3) (zx zi_390_4)))
theorem xi_ok390 (pc : Nat) : xi_ok cX12_goOn (xi_390 pc) = true := xi_c (xi_c (zq1 xi_w390) (zq1 (zq2 xi_w390))) (xi_c (zq1 (zq2 (zq2 xi_w390))) (xi_c (zq1 (zq2 (zq2 (zq2 xi_w390)))) (zq1 (zq2 (zq2 (zq2 (zq2 xi_w390)))))))
noncomputable def zi_391_0 : ZIs := [(0, ev_13), (1, ev_1741), (4, ev_7), (5, ev_7), (6, ev_299), (7, ev_13), (8, ev_1741), (11, ev_30), (12, ev_30), (13, ev_299), (14, ev_260)]
set_option maxRecDepth 100000 in
theorem xi_w391 : zall cX12_program0 [zi_391_0] := zall_w _ _ (by decide +kernel)
noncomputable def xi_391 (pc : Nat) : XIs := zx zi_391_0
theorem xi_ok391 (pc : Nat) : xi_ok cX12_program0 (xi_391 pc) = true := zq1 xi_w391
noncomputable def zi_392_0 : ZIs := [(0, ev_13), (1, ev_1347), (4, ev_13), (5, ev_1191), (8, ev_929), (11, ev_13), (12, ev_840), (15, ev_13), (16, ev_1347), (19, ev_18), (20, ev_176), (22, ev_538), (25, ev_13), (26, ev_1), (27, ev_1347), (30, ev_7)]
noncomputable def zi_392_1 : ZIs := [(31, ev_22), (32, ev_1348), (35, ev_293), (38, ev_13), (39, ev_13), (40, ev_1347), (43, ev_1349), (46, ev_13), (47, ev_1347), (50, ev_13), (51, ev_1191), (54, ev_410), (57, ev_13), (58, ev_10), (59, ev_1350), (62, ev_260)]
noncomputable def zi_392_2 : ZIs := [(63, ev_13), (64, ev_840), (67, ev_13), (68, ev_1347), (71, ev_18), (72, ev_685), (73, ev_13), (74, ev_192), (75, ev_1351), (78, ev_192), (79, ev_1197), (82, ev_771), (85, ev_13), (86, ev_30), (87, ev_1350), (90, ev_13)]
noncomputable def zi_392_3 : ZIs := [(91, ev_15), (93, ev_1354), (96, ev_260), (97, ev_13), (98, ev_192), (99, ev_1357), (102, ev_227), (105, ev_7), (106, ev_229), (109, ev_31), (110, ev_1350), (113, ev_13), (114, ev_1), (115, ev_1347), (118, ev_7), (119, ev_22)]
noncomputable def zi_392_4 : ZIs := [(120, ev_1348), (123, ev_192), (124, ev_379), (126, ev_1410), (129, ev_192), (130, ev_389), (132, ev_1411), (135, ev_192), (136, ev_391), (138, ev_593), (141, ev_192), (142, ev_398), (144, ev_703), (147, ev_192), (148, ev_400), (150, ev_1742)]
noncomputable def zi_392_5 : ZIs := [(153, ev_192), (154, ev_405), (156, ev_742), (159, ev_192), (160, ev_412), (162, ev_903), (165, ev_192), (166, ev_419), (168, ev_818), (171, ev_7), (172, ev_229), (175, ev_10), (176, ev_294), (177, ev_13), (178, ev_1358), (181, ev_31)]
noncomputable def zi_392_6 : ZIs := [(182, ev_538), (185, ev_197), (186, ev_399), (189, ev_13), (190, ev_7), (191, ev_13), (192, ev_1360), (195, ev_1361), (198, ev_260)]
set_option maxRecDepth 100000 in
theorem xi_w392 : zall cX12_nextOfProgram [zi_392_0, zi_392_1, zi_392_2, zi_392_3, zi_392_4, zi_392_5, zi_392_6] := zall_w _ _ (by decide +kernel)
noncomputable def xi_392 (pc : Nat) : XIs := cond (Nat.blt pc 91) (cond (Nat.blt pc 31) (zx zi_392_0) (cond (Nat.blt pc 63) (zx zi_392_1) (zx zi_392_2))) (cond (Nat.blt pc 153) (cond (Nat.blt pc 120) (zx zi_392_3) (zx zi_392_4)) (cond (Nat.blt pc 182) (zx zi_392_5) (zx zi_392_6)))
theorem xi_ok392 (pc : Nat) : xi_ok cX12_nextOfProgram (xi_392 pc) = true := xi_c (xi_c (zq1 xi_w392) (xi_c (zq1 (zq2 xi_w392)) (zq1 (zq2 (zq2 xi_w392))))) (xi_c (xi_c (zq1 (zq2 (zq2 (zq2 xi_w392)))) (zq1 (zq2 (zq2 (zq2 (zq2 xi_w392)))))) (xi_c (zq1 (zq2 (zq2 (zq2 (zq2 (zq2 xi_w392)))))) (zq1 (zq2 (zq2 (zq2 (zq2 (zq2 (zq2 xi_w392)))))))))
noncomputable def zi_393_0 : ZIs := [(0, ev_13), (1, ev_1743), (4, ev_13), (5, ev_1744), (8, ev_192), (9, ev_299), (10, ev_13), (11, ev_1745), (14, ev_13), (15, ev_1744), (18, ev_197), (19, ev_299), (20, ev_13), (21, ev_1), (22, ev_1744), (25, ev_7)]
noncomputable def zi_393_1 : ZIs := [(26, ev_22), (27, ev_1746), (30, ev_260)]
set_option maxRecDepth 100000 in
theorem xi_w393 : zall cX12_add [zi_393_0, zi_393_1] := zall_w _ _ (by decide +kernel)
noncomputable def xi_393 (pc : Nat) : XIs := cond (Nat.blt pc 26) (zx zi_393_0) (zx zi_393_1)
theorem xi_ok393 (pc : Nat) : xi_ok cX12_add (xi_393 pc) = true := xi_c (zq1 xi_w393) (zq1 (zq2 xi_w393))
noncomputable def zi_394_0 : ZIs := [(0, ev_482)]
noncomputable def xi_394_1 : XIs := [(1, .tableswitch 120 100 120 #[105, 120, 120, 117, 120, 107, 120, 120, 103, 114, 101, 120, 120, 120, 109, 111, 120, 120, 120, 120, 99], 99)]
set_option maxRecDepth 100000 in
theorem xi_ok394_1 : xi_ok cX12_nameOf xi_394_1 = true := by decide +kernel
noncomputable def zi_394_2 : ZIs := [(100, ev_10), (101, ev_152), (102, ev_7), (103, ev_152), (104, ev_30), (105, ev_152), (106, ev_31), (107, ev_152), (108, ev_32), (109, ev_152), (110, ev_33), (111, ev_152), (112, ev_15), (114, ev_152), (115, ev_468), (117, ev_152)]
noncomputable def zi_394_3 : ZIs := [(118, ev_469), (120, ev_152), (121, ev_252), (122, ev_152)]
set_option maxRecDepth 100000 in
theorem xi_w394 : zall cX12_nameOf [zi_394_0, zi_394_2, zi_394_3] := zall_w _ _ (by decide +kernel)
noncomputable def xi_394 (pc : Nat) : XIs := cond (Nat.blt pc 100) (cond (Nat.blt pc 1) (zx zi_394_0) (xi_394_1)) (cond (Nat.blt pc 118) (zx zi_394_2) (zx zi_394_3))
theorem xi_ok394 (pc : Nat) : xi_ok cX12_nameOf (xi_394 pc) = true := xi_c (xi_c (zq1 xi_w394) (xi_ok394_1)) (xi_c (zq1 (zq2 xi_w394)) (zq1 (zq2 (zq2 xi_w394))))
noncomputable def zi_395_0 : ZIs := [(0, ev_13), (1, ev_1747), (4, ev_326), (7, ev_10), (8, ev_1177), (11, ev_13), (12, ev_1748), (15, ev_13), (16, ev_1747), (19, ev_7), (20, ev_16), (21, ev_18), (22, ev_152)]
set_option maxRecDepth 100000 in
theorem xi_w395 : zall cX12_top [zi_395_0] := zall_w _ _ (by decide +kernel)
noncomputable def xi_395 (pc : Nat) : XIs := zx zi_395_0
theorem xi_ok395 (pc : Nat) : xi_ok cX12_top (xi_395 pc) = true := zq1 xi_w395
noncomputable def zi_396_0 : ZIs := [(0, ev_13), (1, ev_1748), (4, ev_13), (5, ev_1747), (8, ev_192), (9, ev_299), (10, ev_13), (11, ev_1), (12, ev_1747), (15, ev_7), (16, ev_22), (17, ev_1749), (20, ev_13), (21, ev_1), (22, ev_1750), (25, ev_192)]
noncomputable def zi_396_1 : ZIs := [(26, ev_30), (27, ev_903), (30, ev_192), (31, ev_412), (33, ev_818), (36, ev_7), (37, ev_229), (40, ev_10), (41, ev_22), (42, ev_1751), (45, ev_260)]
set_option maxRecDepth 100000 in
theorem xi_w396 : zall cX12_hold [zi_396_0, zi_396_1] := zall_w _ _ (by decide +kernel)
noncomputable def xi_396 (pc : Nat) : XIs := cond (Nat.blt pc 26) (zx zi_396_0) (zx zi_396_1)
theorem xi_ok396 (pc : Nat) : xi_ok cX12_hold (xi_396 pc) = true := xi_c (zq1 xi_w396) (zq1 (zq2 xi_w396))
noncomputable def zi_397_0 : ZIs := [(0, ev_13), (1, ev_1), (2, ev_1747), (5, ev_7), (6, ev_16), (7, ev_1749), (10, ev_13), (11, ev_1), (12, ev_1750), (15, ev_13), (16, ev_1748), (19, ev_13), (20, ev_1747), (23, ev_18), (24, ev_30), (25, ev_900)]
noncomputable def zi_397_1 : ZIs := [(28, ev_13), (29, ev_1748), (32, ev_13), (33, ev_1747), (36, ev_18), (37, ev_412), (39, ev_818), (42, ev_7), (43, ev_229), (46, ev_10), (47, ev_16), (48, ev_1751), (51, ev_260)]
set_option maxRecDepth 100000 in
theorem xi_w397 : zall cX12_drop [zi_397_0, zi_397_1] := zall_w _ _ (by decide +kernel)
noncomputable def xi_397 (pc : Nat) : XIs := cond (Nat.blt pc 28) (zx zi_397_0) (zx zi_397_1)
theorem xi_ok397 (pc : Nat) : xi_ok cX12_drop (xi_397 pc) = true := xi_c (zq1 xi_w397) (zq1 (zq2 xi_w397))
noncomputable def zi_398_0 : ZIs := [(0, ev_482), (1, ev_405), (3, ev_818), (6, ev_31), (7, ev_477), (10, ev_482), (11, ev_398), (13, ev_903), (16, ev_482), (17, ev_400), (19, ev_818), (22, ev_30), (23, ev_1464), (26, ev_482), (27, ev_389), (29, ev_903)]
noncomputable def zi_398_1 : ZIs := [(32, ev_482), (33, ev_391), (35, ev_818), (38, ev_7), (39, ev_229), (42, ev_10), (43, ev_152)]
set_option maxRecDepth 100000 in
theorem xi_w398 : zall cX12_strength [zi_398_0, zi_398_1] := zall_w _ _ (by decide +kernel)
noncomputable def xi_398 (pc : Nat) : XIs := cond (Nat.blt pc 32) (zx zi_398_0) (zx zi_398_1)
theorem xi_ok398 (pc : Nat) : xi_ok cX12_strength (xi_398 pc) = true := xi_c (zq1 xi_w398) (zq1 (zq2 xi_w398))
noncomputable def zi_399_0 : ZIs := [(0, ev_13), (1, ev_1747), (4, ev_1752), (7, ev_13), (8, ev_1753), (11, ev_1754), (14, ev_192), (15, ev_1755), (18, ev_13), (19, ev_13), (20, ev_1753), (23, ev_10), (24, ev_1756), (27, ev_13), (28, ev_1757), (31, ev_610)]
noncomputable def zi_399_1 : ZIs := [(34, ev_260)]
set_option maxRecDepth 100000 in
theorem xi_w399 : zall cX12_settle [zi_399_0, zi_399_1] := zall_w _ _ (by decide +kernel)
noncomputable def xi_399 (pc : Nat) : XIs := cond (Nat.blt pc 34) (zx zi_399_0) (zx zi_399_1)
theorem xi_ok399 (pc : Nat) : xi_ok cX12_settle (xi_399 pc) = true := xi_c (zq1 xi_w399) (zq1 (zq2 xi_w399))
noncomputable def zi_400_0 : ZIs := [(0, ev_13), (1, ev_1753), (4, ev_30), (5, ev_538), (8, ev_13), (9, ev_30), (10, ev_10), (11, ev_1756), (14, ev_13), (15, ev_1757), (18, ev_1476), (21, ev_260)]
set_option maxRecDepth 100000 in
theorem xi_w400 : zall cX12_turn [zi_400_0] := zall_w _ _ (by decide +kernel)
noncomputable def xi_400 (pc : Nat) : XIs := zx zi_400_0
theorem xi_ok400 (pc : Nat) : xi_ok cX12_turn (xi_400 pc) = true := zq1 xi_w400
noncomputable def zi_401_0 : ZIs := [(0, ev_13), (1, ev_1358), (4, ev_30), (5, ev_756), (8, ev_13), (9, ev_10), (10, ev_13), (11, ev_1355), (14, ev_991), (15, ev_1756), (18, ev_13), (19, ev_1758), (22, ev_7), (23, ev_152), (24, ev_13), (25, ev_1358)]
noncomputable def zi_401_1 : ZIs := [(28, ev_7), (29, ev_420), (32, ev_13), (33, ev_1380), (36, ev_1759), (39, ev_685), (40, ev_192), (41, ev_1568), (44, ev_13), (45, ev_33), (46, ev_13), (47, ev_1360), (50, ev_1361), (53, ev_13), (54, ev_7), (55, ev_192)]
noncomputable def zi_401_2 : ZIs := [(56, ev_1756), (59, ev_13), (60, ev_1758), (63, ev_7), (64, ev_152), (65, ev_13), (66, ev_1358), (69, ev_31), (70, ev_1389), (73, ev_13), (74, ev_1380), (77, ev_400), (79, ev_1481), (82, ev_13), (83, ev_1380), (86, ev_412)]
noncomputable def zi_401_3 : ZIs := [(88, ev_742), (91, ev_13), (92, ev_30), (93, ev_13), (94, ev_1360), (97, ev_1361), (100, ev_1760), (103, ev_13), (104, ev_1750), (107, ev_413), (109, ev_1761), (112, ev_13), (113, ev_31), (114, ev_13), (115, ev_1360), (118, ev_1361)]
noncomputable def zi_401_4 : ZIs := [(121, ev_713), (124, ev_13), (125, ev_13), (126, ev_1380), (129, ev_400), (131, ev_818), (134, ev_30), (135, ev_638), (138, ev_412), (140, ev_1762), (143, ev_10), (144, ev_152)]
set_option maxRecDepth 100000 in
theorem xi_w401 : zall cX12_factor [zi_401_0, zi_401_1, zi_401_2, zi_401_3, zi_401_4] := zall_w _ _ (by decide +kernel)
noncomputable def xi_401 (pc : Nat) : XIs := cond (Nat.blt pc 56) (cond (Nat.blt pc 28) (zx zi_401_0) (zx zi_401_1)) (cond (Nat.blt pc 88) (zx zi_401_2) (cond (Nat.blt pc 121) (zx zi_401_3) (zx zi_401_4)))
theorem xi_ok401 (pc : Nat) : xi_ok cX12_factor (xi_401 pc) = true := xi_c (xi_c (zq1 xi_w401) (zq1 (zq2 xi_w401))) (xi_c (zq1 (zq2 (zq2 xi_w401))) (xi_c (zq1 (zq2 (zq2 (zq2 xi_w401)))) (zq1 (zq2 (zq2 (zq2 (zq2 xi_w401)))))))
noncomputable def zi_402_0 : ZIs := [(0, ev_13), (1, ev_1358), (4, ev_680), (7, ev_13), (8, ev_1358), (11, ev_31), (12, ev_1763), (15, ev_13), (16, ev_1380), (19, ev_379), (21, ev_1764), (24, ev_13), (25, ev_7), (26, ev_1765), (29, ev_13), (30, ev_1747)]
noncomputable def zi_402_1 : ZIs := [(33, ev_1766), (36, ev_192), (37, ev_13), (38, ev_1358), (41, ev_31), (42, ev_818), (45, ev_7), (46, ev_229), (49, ev_10), (50, ev_1359), (53, ev_13), (54, ev_30), (55, ev_13), (56, ev_1360), (59, ev_1361), (62, ev_30)]
noncomputable def zi_402_2 : ZIs := [(63, ev_152), (64, ev_13), (65, ev_1358), (68, ev_31), (69, ev_927), (72, ev_13), (73, ev_1380), (76, ev_1754), (79, ev_229), (82, ev_10), (83, ev_294), (84, ev_197), (85, ev_7), (86, ev_1767), (89, ev_13), (90, ev_197)]
noncomputable def zi_402_3 : ZIs := [(91, ev_1765), (94, ev_13), (95, ev_13), (96, ev_1380), (99, ev_1762), (102, ev_10), (103, ev_152), (104, ev_197), (105, ev_7), (106, ev_1768), (109, ev_13), (110, ev_30), (111, ev_1765), (114, ev_13), (115, ev_1753), (118, ev_1754)]
noncomputable def zi_402_4 : ZIs := [(121, ev_7), (122, ev_690), (125, ev_13), (126, ev_30), (127, ev_13), (128, ev_1360), (131, ev_1361), (134, ev_13), (135, ev_13), (136, ev_1380), (139, ev_1762), (142, ev_10), (143, ev_152), (144, ev_13), (145, ev_1358), (148, ev_31)]
noncomputable def zi_402_5 : ZIs := [(149, ev_1769), (152, ev_13), (153, ev_1380), (156, ev_419), (158, ev_1768), (161, ev_13), (162, ev_7), (163, ev_1765), (166, ev_13), (167, ev_1753), (170, ev_412), (172, ev_1032), (175, ev_13), (176, ev_30), (177, ev_13), (178, ev_1360)]
noncomputable def zi_402_6 : ZIs := [(181, ev_1361), (184, ev_7), (185, ev_152), (186, ev_13), (187, ev_1757), (190, ev_13), (191, ev_1758), (194, ev_7), (195, ev_152), (196, ev_13), (197, ev_30), (198, ev_13), (199, ev_1360), (202, ev_1361), (205, ev_7), (206, ev_152)]
set_option maxRecDepth 100000 in
theorem xi_w402 : zall cX12_behindFactor [zi_402_0, zi_402_1, zi_402_2, zi_402_3, zi_402_4, zi_402_5, zi_402_6] := zall_w _ _ (by decide +kernel)
noncomputable def xi_402 (pc : Nat) : XIs := cond (Nat.blt pc 91) (cond (Nat.blt pc 33) (zx zi_402_0) (cond (Nat.blt pc 63) (zx zi_402_1) (zx zi_402_2))) (cond (Nat.blt pc 149) (cond (Nat.blt pc 121) (zx zi_402_3) (zx zi_402_4)) (cond (Nat.blt pc 181) (zx zi_402_5) (zx zi_402_6)))
theorem xi_ok402 (pc : Nat) : xi_ok cX12_behindFactor (xi_402 pc) = true := xi_c (xi_c (zq1 xi_w402) (xi_c (zq1 (zq2 xi_w402)) (zq1 (zq2 (zq2 xi_w402))))) (xi_c (xi_c (zq1 (zq2 (zq2 (zq2 xi_w402)))) (zq1 (zq2 (zq2 (zq2 (zq2 xi_w402)))))) (xi_c (zq1 (zq2 (zq2 (zq2 (zq2 (zq2 xi_w402)))))) (zq1 (zq2 (zq2 (zq2 (zq2 (zq2 (zq2 xi_w402)))))))))
noncomputable def zi_403_0 : ZIs := [(0, ev_13), (1, ev_10), (2, ev_1749), (5, ev_13), (6, ev_10), (7, ev_1751), (10, ev_7), (11, ev_294), (12, ev_7), (13, ev_295), (14, ev_198), (15, ev_337), (18, ev_13), (19, ev_1342), (22, ev_1770), (25, ev_13)]
noncomputable def zi_403_1 : ZIs := [(26, ev_1771), (29, ev_13), (30, ev_1342), (33, ev_1772), (36, ev_197), (37, ev_488), (40, ev_13), (41, ev_1773), (44, ev_326), (47, ev_7), (48, ev_229), (51, ev_10), (52, ev_294), (53, ev_719), (56, ev_13), (57, ev_1342)]
noncomputable def zi_403_2 : ZIs := [(60, ev_1774), (63, ev_13), (64, ev_192), (65, ev_1775), (68, ev_11), (70, ev_12), (72, ev_326), (75, ev_7), (76, ev_229), (79, ev_10), (80, ev_294), (81, ev_12), (83, ev_30), (84, ev_656), (87, ev_7), (88, ev_229)]
noncomputable def zi_403_3 : ZIs := [(91, ev_10), (92, ev_295), (93, ev_563), (96, ev_260)]
set_option maxRecDepth 100000 in
theorem xi_w403 : zall cX12_expression [zi_403_0, zi_403_1, zi_403_2, zi_403_3] := zall_w _ _ (by decide +kernel)
noncomputable def xi_403 (pc : Nat) : XIs := cond (Nat.blt pc 60) (cond (Nat.blt pc 26) (zx zi_403_0) (zx zi_403_1)) (cond (Nat.blt pc 91) (zx zi_403_2) (zx zi_403_3))
theorem xi_ok403 (pc : Nat) : xi_ok cX12_expression (xi_403 pc) = true := xi_c (xi_c (zq1 xi_w403) (zq1 (zq2 xi_w403))) (xi_c (zq1 (zq2 (zq2 xi_w403))) (zq1 (zq2 (zq2 (zq2 xi_w403)))))
noncomputable def zi_404_0 : ZIs := [(0, ev_13), (1, ev_10), (2, ev_1286), (5, ev_13), (6, ev_10), (7, ev_1345), (10, ev_13), (11, ev_1191), (14, ev_366), (16, ev_1524), (19, ev_13), (20, ev_30), (21, ev_366), (23, ev_1361), (26, ev_808), (28, ev_152)]
noncomputable def zi_404_1 : ZIs := [(29, ev_13), (30, ev_10), (31, ev_1348), (34, ev_13), (35, ev_10), (36, ev_1746), (39, ev_13), (40, ev_7), (41, ev_1776), (44, ev_13), (45, ev_1777), (48, ev_7), (49, ev_13), (50, ev_1744), (53, ev_299), (54, ev_13)]
noncomputable def zi_404_2 : ZIs := [(55, ev_1342), (58, ev_852), (61, ev_13), (62, ev_10), (63, ev_1776), (66, ev_13), (67, ev_1777), (70, ev_30), (71, ev_13), (72, ev_1744), (75, ev_299), (76, ev_13), (77, ev_1342), (80, ev_1372), (83, ev_808), (85, ev_152)]
noncomputable def zi_404_3 : ZIs := [(86, ev_10), (87, ev_685), (88, ev_192), (89, ev_13), (90, ev_1744), (93, ev_340), (96, ev_13), (97, ev_1778), (100, ev_192), (101, ev_13), (102, ev_1743), (105, ev_192), (106, ev_18), (107, ev_299), (108, ev_13), (109, ev_1779)]
noncomputable def zi_404_4 : ZIs := [(112, ev_192), (113, ev_13), (114, ev_1745), (117, ev_192), (118, ev_18), (119, ev_299), (120, ev_688), (123, ev_293), (126, ev_13), (127, ev_1741), (130, ev_7), (131, ev_13), (132, ev_1777), (135, ev_7), (136, ev_18), (137, ev_299)]
noncomputable def zi_404_5 : ZIs := [(138, ev_13), (139, ev_1741), (142, ev_30), (143, ev_13), (144, ev_1777), (147, ev_30), (148, ev_18), (149, ev_299), (150, ev_10), (151, ev_152)]
set_option maxRecDepth 100000 in
theorem xi_w404 : zall cX12_program [zi_404_0, zi_404_1, zi_404_2, zi_404_3, zi_404_4, zi_404_5] := zall_w _ _ (by decide +kernel)
noncomputable def xi_404 (pc : Nat) : XIs := cond (Nat.blt pc 86) (cond (Nat.blt pc 29) (zx zi_404_0) (cond (Nat.blt pc 55) (zx zi_404_1) (zx zi_404_2))) (cond (Nat.blt pc 112) (zx zi_404_3) (cond (Nat.blt pc 138) (zx zi_404_4) (zx zi_404_5)))
theorem xi_ok404 (pc : Nat) : xi_ok cX12_program (xi_404 pc) = true := xi_c (xi_c (zq1 xi_w404) (xi_c (zq1 (zq2 xi_w404)) (zq1 (zq2 (zq2 xi_w404))))) (xi_c (zq1 (zq2 (zq2 (zq2 xi_w404)))) (xi_c (zq1 (zq2 (zq2 (zq2 (zq2 xi_w404))))) (zq1 (zq2 (zq2 (zq2 (zq2 (zq2 xi_w404))))))))
noncomputable def zi_405_0 : ZIs := [(0, ev_487), (1, ev_1659), (4, ev_157), (5, ev_1780), (8, ev_1659), (11, ev_1343), (14, ev_487), (15, ev_1781), (18, ev_157), (19, ev_950), (22, ev_1781), (25, ev_229), (28, ev_487), (29, ev_481)]
set_option maxRecDepth 100000 in
theorem xi_w405 : zall cX12_fit [zi_405_0] := zall_w _ _ (by decide +kernel)
noncomputable def xi_405 (pc : Nat) : XIs := zx zi_405_0
theorem xi_ok405 (pc : Nat) : xi_ok cX12_fit (xi_405 pc) = true := zq1 xi_w405
noncomputable def zi_406_0 : ZIs := [(0, ev_487), (1, ev_230), (2, ev_157), (3, ev_347), (6, ev_489), (7, ev_230), (8, ev_157), (9, ev_378), (12, ev_230), (13, ev_481), (14, ev_487), (15, ev_230), (16, ev_157), (17, ev_1400), (20, ev_487), (21, ev_476)]
noncomputable def zi_406_1 : ZIs := [(22, ev_229), (25, ev_487), (26, ev_442), (28, ev_489), (29, ev_230), (30, ev_157), (31, ev_1400), (34, ev_489), (35, ev_476), (36, ev_229), (39, ev_489), (40, ev_58), (42, ev_247), (44, ev_1659), (47, ev_460), (49, ev_490)]
noncomputable def zi_406_2 : ZIs := [(50, ev_157), (51, ev_1780), (54, ev_1659), (57, ev_986), (60, ev_247), (62, ev_460), (64, ev_492), (65, ev_445), (67, ev_487), (68, ev_230), (69, ev_157), (70, ev_486), (73, ev_7), (74, ev_229), (77, ev_10), (78, ev_489)]
noncomputable def zi_406_3 : ZIs := [(79, ev_230), (80, ev_157), (81, ev_486), (84, ev_7), (85, ev_229), (88, ev_10), (89, ev_540), (92, ev_462), (94, ev_209), (97, ev_462), (99, ev_476), (100, ev_481)]
set_option maxRecDepth 100000 in
theorem xi_w406 : zall cX12_product [zi_406_0, zi_406_1, zi_406_2, zi_406_3] := zall_w _ _ (by decide +kernel)
noncomputable def xi_406 (pc : Nat) : XIs := cond (Nat.blt pc 50) (cond (Nat.blt pc 22) (zx zi_406_0) (zx zi_406_1)) (cond (Nat.blt pc 79) (zx zi_406_2) (zx zi_406_3))
theorem xi_ok406 (pc : Nat) : xi_ok cX12_product (xi_406 pc) = true := xi_c (xi_c (zq1 xi_w406) (zq1 (zq2 xi_w406))) (xi_c (zq1 (zq2 (zq2 xi_w406))) (zq1 (zq2 (zq2 (zq2 xi_w406)))))
noncomputable def zi_407_0 : ZIs := [(0, ev_13), (1, ev_1782), (4, ev_10), (5, ev_13), (6, ev_1783), (9, ev_192), (10, ev_154), (11, ev_194), (12, ev_13), (13, ev_1782), (16, ev_7), (17, ev_192), (18, ev_156), (19, ev_194), (20, ev_13), (21, ev_1782)]
noncomputable def zi_407_1 : ZIs := [(24, ev_30), (25, ev_13), (26, ev_1298), (29, ev_176), (31, ev_13), (32, ev_1162), (35, ev_355), (36, ev_192), (37, ev_22), (38, ev_18), (39, ev_156), (40, ev_194), (41, ev_13), (42, ev_1782), (45, ev_31), (46, ev_230)]
noncomputable def zi_407_2 : ZIs := [(47, ev_194), (48, ev_13), (49, ev_1782), (52, ev_32), (53, ev_230), (54, ev_194), (55, ev_13), (56, ev_1782), (59, ev_33), (60, ev_197), (61, ev_156), (62, ev_194), (63, ev_13), (64, ev_1782), (67, ev_15), (69, ev_230)]
noncomputable def zi_407_3 : ZIs := [(70, ev_194), (71, ev_13), (72, ev_1782), (75, ev_468), (77, ev_1659), (80, ev_194), (81, ev_13), (82, ev_1782), (85, ev_469), (87, ev_1781), (90, ev_194), (91, ev_13), (92, ev_1291), (95, ev_295), (96, ev_198), (97, ev_13)]
noncomputable def zi_407_4 : ZIs := [(98, ev_1291), (101, ev_529), (104, ev_22), (105, ev_1784), (108, ev_13), (109, ev_1290), (112, ev_198), (113, ev_1292), (114, ev_769), (117, ev_13), (118, ev_1302), (121, ev_198), (122, ev_18), (123, ev_192), (124, ev_927), (127, ev_13)]
noncomputable def zi_407_5 : ZIs := [(128, ev_1782), (131, ev_31), (132, ev_316), (133, ev_154), (134, ev_228), (135, ev_457), (136, ev_194), (137, ev_13), (138, ev_1290), (141, ev_198), (142, ev_1292), (143, ev_1385), (146, ev_13), (147, ev_1038), (150, ev_198), (151, ev_18)]
noncomputable def zi_407_6 : ZIs := [(152, ev_192), (153, ev_1785), (156, ev_13), (157, ev_1783), (160, ev_13), (161, ev_1302), (164, ev_198), (165, ev_18), (166, ev_154), (167, ev_442), (169, ev_247), (171, ev_13), (172, ev_1039), (175, ev_198), (176, ev_18), (177, ev_156)]
noncomputable def zi_407_7 : ZIs := [(178, ev_457), (179, ev_1786), (182, ev_58), (184, ev_13), (185, ev_1782), (188, ev_32), (189, ev_316), (190, ev_154), (191, ev_228), (192, ev_457), (193, ev_194), (194, ev_13), (195, ev_1782), (198, ev_15), (200, ev_316), (201, ev_154)]
noncomputable def zi_407_8 : ZIs := [(202, ev_247), (204, ev_457), (205, ev_194), (206, ev_13), (207, ev_1782), (210, ev_468), (212, ev_460), (214, ev_13), (215, ev_1782), (218, ev_468), (220, ev_154), (221, ev_157), (222, ev_1400), (225, ev_460), (227, ev_633), (230, ev_13)]
noncomputable def zi_407_9 : ZIs := [(231, ev_1782), (234, ev_468), (236, ev_154), (237, ev_194), (238, ev_13), (239, ev_1782), (242, ev_469), (244, ev_460), (246, ev_13), (247, ev_1782), (250, ev_469), (252, ev_154), (253, ev_157), (254, ev_1787), (257, ev_460), (259, ev_633)]
noncomputable def zi_407_10 : ZIs := [(262, ev_13), (263, ev_1782), (266, ev_469), (268, ev_154), (269, ev_194), (270, ev_300), (273, ev_1788), (276, ev_13), (277, ev_1782), (280, ev_15), (282, ev_13), (283, ev_1782), (286, ev_15), (288, ev_154), (289, ev_1786), (292, ev_194)]
noncomputable def zi_407_11 : ZIs := [(293, ev_260)]
set_option maxRecDepth 100000 in
theorem xi_w407 : zall cX12_nameAll [zi_407_0, zi_407_1, zi_407_2, zi_407_3, zi_407_4, zi_407_5, zi_407_6, zi_407_7, zi_407_8, zi_407_9, zi_407_10, zi_407_11] := zall_w _ _ (by decide +kernel)
noncomputable def xi_407 (pc : Nat) : XIs := cond (Nat.blt pc 152) (cond (Nat.blt pc 70) (cond (Nat.blt pc 24) (zx zi_407_0) (cond (Nat.blt pc 47) (zx zi_407_1) (zx zi_407_2))) (cond (Nat.blt pc 98) (zx zi_407_3) (cond (Nat.blt pc 128) (zx zi_407_4) (zx zi_407_5)))) (cond (Nat.blt pc 231) (cond (Nat.blt pc 178) (zx zi_407_6) (cond (Nat.blt pc 202) (zx zi_407_7) (zx zi_407_8))) (cond (Nat.blt pc 262) (zx zi_407_9) (cond (Nat.blt pc 293) (zx zi_407_10) (zx zi_407_11))))
theorem xi_ok407 (pc : Nat) : xi_ok cX12_nameAll (xi_407 pc) = true := xi_c (xi_c (xi_c (zq1 xi_w407) (xi_c (zq1 (zq2 xi_w407)) (zq1 (zq2 (zq2 xi_w407))))) (xi_c (zq1 (zq2 (zq2 (zq2 xi_w407)))) (xi_c (zq1 (zq2 (zq2 (zq2 (zq2 xi_w407))))) (zq1 (zq2 (zq2 (zq2 (zq2 (zq2 xi_w407))))))))) (xi_c (xi_c (zq1 (zq2 (zq2 (zq2 (zq2 (zq2 (zq2 xi_w407))))))) (xi_c (zq1 (zq2 (zq2 (zq2 (zq2 (zq2 (zq2 (zq2 xi_w407)))))))) (zq1 (zq2 (zq2 (zq2 (zq2 (zq2 (zq2 (zq2 (zq2 xi_w407))))))))))) (xi_c (zq1 (zq2 (zq2 (zq2 (zq2 (zq2 (zq2 (zq2 (zq2 (zq2 xi_w407)))))))))) (xi_c (zq1 (zq2 (zq2 (zq2 (zq2 (zq2 (zq2 (zq2 (zq2 (zq2 (zq2 xi_w407))))))))))) (zq1 (zq2 (zq2 (zq2 (zq2 (zq2 (zq2 (zq2 (zq2 (zq2 (zq2 (zq2 xi_w407)))))))))))))))
noncomputable def zi_408_0 : ZIs := [(0, ev_10), (1, ev_294), (2, ev_192), (3, ev_326), (6, ev_10), (7, ev_195), (10, ev_13), (11, ev_1741), (14, ev_7), (15, ev_18), (16, ev_295), (17, ev_198), (18, ev_13), (19, ev_1741), (22, ev_192), (23, ev_7)]
noncomputable def zi_408_1 : ZIs := [(24, ev_22), (25, ev_18), (26, ev_1789), (29, ev_13), (30, ev_1778), (33, ev_198), (34, ev_18), (35, ev_11), (37, ev_12), (39, ev_30), (40, ev_689), (43, ev_13), (44, ev_1790), (47, ev_197), (48, ev_12), (50, ev_1132)]
noncomputable def zi_408_2 : ZIs := [(53, ev_13), (54, ev_1779), (57, ev_198), (58, ev_18), (59, ev_156), (60, ev_1177), (63, ev_13), (64, ev_1782), (67, ev_13), (68, ev_1779), (71, ev_198), (72, ev_18), (73, ev_154), (74, ev_194), (75, ev_304), (78, ev_1791)]
noncomputable def zi_408_3 : ZIs := [(81, ev_12), (83, ev_30), (84, ev_976), (87, ev_13), (88, ev_1790), (91, ev_197), (92, ev_7), (93, ev_16), (94, ev_13), (95, ev_1790), (98, ev_197), (99, ev_7), (100, ev_16), (101, ev_154), (102, ev_476), (103, ev_1786)]
noncomputable def zi_408_4 : ZIs := [(106, ev_194), (107, ev_1792), (110, ev_893), (113, ev_13), (114, ev_1790), (117, ev_197), (118, ev_7), (119, ev_16), (120, ev_154), (121, ev_574), (123, ev_13), (124, ev_1790), (127, ev_197), (128, ev_154), (129, ev_921), (131, ev_13)]
noncomputable def zi_408_5 : ZIs := [(132, ev_1790), (135, ev_197), (136, ev_7), (137, ev_16), (138, ev_12), (140, ev_405), (142, ev_538), (145, ev_501), (147, ev_922), (149, ev_1793), (152, ev_1786), (155, ev_1794), (158, ev_12), (160, ev_398), (162, ev_798), (165, ev_501)]
noncomputable def zi_408_6 : ZIs := [(167, ev_922), (169, ev_457), (170, ev_1786), (173, ev_1795), (176, ev_12), (178, ev_400), (180, ev_798), (183, ev_501), (185, ev_922), (187, ev_485), (188, ev_1786), (191, ev_1796), (194, ev_12), (196, ev_389), (198, ev_798), (201, ev_501)]
noncomputable def zi_408_7 : ZIs := [(203, ev_922), (205, ev_157), (206, ev_1602), (209, ev_200), (212, ev_501), (214, ev_922), (216, ev_157), (217, ev_326), (220, ev_228), (221, ev_229), (224, ev_230), (225, ev_194), (226, ev_300), (229, ev_1797), (232, ev_13), (233, ev_1790)]
noncomputable def zi_408_8 : ZIs := [(236, ev_10), (237, ev_154), (238, ev_481)]
set_option maxRecDepth 100000 in
theorem xi_w408 : zall cX12_workOut [zi_408_0, zi_408_1, zi_408_2, zi_408_3, zi_408_4, zi_408_5, zi_408_6, zi_408_7, zi_408_8] := zall_w _ _ (by decide +kernel)
noncomputable def xi_408 (pc : Nat) : XIs := cond (Nat.blt pc 106) (cond (Nat.blt pc 53) (cond (Nat.blt pc 24) (zx zi_408_0) (zx zi_408_1)) (cond (Nat.blt pc 81) (zx zi_408_2) (zx zi_408_3))) (cond (Nat.blt pc 167) (cond (Nat.blt pc 132) (zx zi_408_4) (zx zi_408_5)) (cond (Nat.blt pc 203) (zx zi_408_6) (cond (Nat.blt pc 236) (zx zi_408_7) (zx zi_408_8))))
theorem xi_ok408 (pc : Nat) : xi_ok cX12_workOut (xi_408 pc) = true := xi_c (xi_c (xi_c (zq1 xi_w408) (zq1 (zq2 xi_w408))) (xi_c (zq1 (zq2 (zq2 xi_w408))) (zq1 (zq2 (zq2 (zq2 xi_w408)))))) (xi_c (xi_c (zq1 (zq2 (zq2 (zq2 (zq2 xi_w408))))) (zq1 (zq2 (zq2 (zq2 (zq2 (zq2 xi_w408))))))) (xi_c (zq1 (zq2 (zq2 (zq2 (zq2 (zq2 (zq2 xi_w408))))))) (xi_c (zq1 (zq2 (zq2 (zq2 (zq2 (zq2 (zq2 (zq2 xi_w408)))))))) (zq1 (zq2 (zq2 (zq2 (zq2 (zq2 (zq2 (zq2 (zq2 xi_w408))))))))))))
noncomputable def zi_409_0 : ZIs := [(0, ev_13), (1, ev_192), (2, ev_156), (3, ev_230), (4, ev_1798), (7, ev_1316), (10, ev_851), (13, ev_197), (14, ev_156), (15, ev_228), (16, ev_1332), (19, ev_1316), (22, ev_488), (25, ev_198), (26, ev_156), (27, ev_230)]
noncomputable def zi_409_1 : ZIs := [(28, ev_1799), (31, ev_1316), (34, ev_227), (37, ev_7), (38, ev_229), (41, ev_10), (42, ev_1176), (45, ev_158), (48, ev_10), (49, ev_152), (50, ev_13), (51, ev_13), (52, ev_1288), (55, ev_1800), (58, ev_13), (59, ev_10)]
noncomputable def zi_409_2 : ZIs := [(60, ev_1801), (63, ev_13), (64, ev_10), (65, ev_1802), (68, ev_13), (69, ev_10), (70, ev_1803), (73, ev_13), (74, ev_230), (75, ev_1804), (78, ev_10), (79, ev_28), (81, ev_155), (83, ev_13), (84, ev_1288), (87, ev_683)]
noncomputable def zi_409_3 : ZIs := [(90, ev_13), (91, ev_1783), (94, ev_155), (96, ev_230), (97, ev_194), (98, ev_320), (101, ev_758), (104, ev_10), (105, ev_28), (107, ev_155), (109, ev_13), (110, ev_1288), (113, ev_643), (116, ev_13), (117, ev_155), (119, ev_10)]
noncomputable def zi_409_4 : ZIs := [(120, ev_1805), (123, ev_13), (124, ev_1806), (127, ev_155), (129, ev_13), (130, ev_10), (131, ev_1807), (134, ev_194), (135, ev_320), (138, ev_610), (141, ev_10), (142, ev_28), (144, ev_155), (146, ev_13), (147, ev_1288), (150, ev_346)]
noncomputable def zi_409_5 : ZIs := [(153, ev_13), (154, ev_1783), (157, ev_155), (159, ev_13), (160, ev_1806), (163, ev_155), (165, ev_154), (166, ev_194), (167, ev_320), (170, ev_562), (173, ev_10), (174, ev_28), (176, ev_7), (177, ev_275), (179, ev_276), (181, ev_1808)]
noncomputable def zi_409_6 : ZIs := [(184, ev_155), (186, ev_192), (187, ev_470), (190, ev_320), (193, ev_13), (194, ev_197), (195, ev_198), (196, ev_247), (198, ev_1809), (201, ev_10), (202, ev_275), (204, ev_10), (205, ev_313), (207, ev_314), (209, ev_13), (210, ev_1288)]
noncomputable def zi_409_7 : ZIs := [(213, ev_1593), (216, ev_13), (217, ev_314), (219, ev_155), (221, ev_1805), (224, ev_13), (225, ev_1806), (228, ev_314), (230, ev_13), (231, ev_7), (232, ev_1807), (235, ev_194), (236, ev_276), (238, ev_1369), (241, ev_13), (242, ev_1806)]
noncomputable def zi_409_8 : ZIs := [(245, ev_314), (247, ev_154), (248, ev_13), (249, ev_1783), (252, ev_314), (254, ev_154), (255, ev_157), (256, ev_227), (259, ev_7), (260, ev_229), (263, ev_10), (264, ev_275), (266, ev_318), (269, ev_279), (272, ev_10), (273, ev_313)]
noncomputable def zi_409_9 : ZIs := [(275, ev_314), (277, ev_13), (278, ev_1288), (281, ev_346), (284, ev_13), (285, ev_1783), (288, ev_314), (290, ev_13), (291, ev_1806), (294, ev_314), (296, ev_154), (297, ev_194), (298, ev_318), (301, ev_562), (304, ev_894), (307, ev_155)]
noncomputable def zi_409_10 : ZIs := [(309, ev_152)]
set_option maxRecDepth 100000 in
theorem xi_w409 : zall cX12_run [zi_409_0, zi_409_1, zi_409_2, zi_409_3, zi_409_4, zi_409_5, zi_409_6, zi_409_7, zi_409_8, zi_409_9, zi_409_10] := zall_w _ _ (by decide +kernel)
noncomputable def xi_409 (pc : Nat) : XIs := cond (Nat.blt pc 153) (cond (Nat.blt pc 60) (cond (Nat.blt pc 28) (zx zi_409_0) (zx zi_409_1)) (cond (Nat.blt pc 90) (zx zi_409_2) (cond (Nat.blt pc 120) (zx zi_409_3) (zx zi_409_4)))) (cond (Nat.blt pc 245) (cond (Nat.blt pc 184) (zx zi_409_5) (cond (Nat.blt pc 213) (zx zi_409_6) (zx zi_409_7))) (cond (Nat.blt pc 275) (zx zi_409_8) (cond (Nat.blt pc 309) (zx zi_409_9) (zx zi_409_10))))
theorem xi_ok409 (pc : Nat) : xi_ok cX12_run (xi_409 pc) = true := xi_c (xi_c (xi_c (zq1 xi_w409) (zq1 (zq2 xi_w409))) (xi_c (zq1 (zq2 (zq2 xi_w409))) (xi_c (zq1 (zq2 (zq2 (zq2 xi_w409)))) (zq1 (zq2 (zq2 (zq2 (zq2 xi_w409)))))))) (xi_c (xi_c (zq1 (zq2 (zq2 (zq2 (zq2 (zq2 xi_w409)))))) (xi_c (zq1 (zq2 (zq2 (zq2 (zq2 (zq2 (zq2 xi_w409))))))) (zq1 (zq2 (zq2 (zq2 (zq2 (zq2 (zq2 (zq2 xi_w409)))))))))) (xi_c (zq1 (zq2 (zq2 (zq2 (zq2 (zq2 (zq2 (zq2 (zq2 xi_w409))))))))) (xi_c (zq1 (zq2 (zq2 (zq2 (zq2 (zq2 (zq2 (zq2 (zq2 (zq2 xi_w409)))))))))) (zq1 (zq2 (zq2 (zq2 (zq2 (zq2 (zq2 (zq2 (zq2 (zq2 (zq2 xi_w409))))))))))))))
noncomputable def zi_410_0 : ZIs := [(0, ev_10), (1, ev_11), (3, ev_13), (4, ev_1291), (7, ev_25), (9, ev_150), (11, ev_13), (12, ev_1291), (15, ev_529), (18, ev_22), (19, ev_938), (22, ev_12), (24, ev_1810), (27, ev_13), (28, ev_1290), (31, ev_150)]
noncomputable def zi_410_1 : ZIs := [(33, ev_1292), (34, ev_851), (37, ev_13), (38, ev_1302), (41, ev_150), (43, ev_18), (44, ev_192), (45, ev_1051), (48, ev_13), (49, ev_1038), (52, ev_150), (54, ev_18), (55, ev_198), (56, ev_508), (57, ev_197), (58, ev_818)]
noncomputable def zi_410_2 : ZIs := [(61, ev_7), (62, ev_229), (65, ev_10), (66, ev_11), (68, ev_343), (71, ev_279), (74, ev_12), (76, ev_1004), (79, ev_192), (80, ev_198), (81, ev_508), (82, ev_197), (83, ev_681), (86, ev_7), (87, ev_229), (90, ev_10)]
noncomputable def zi_410_3 : ZIs := [(91, ev_152)]
set_option maxRecDepth 100000 in
theorem xi_w410 : zall cX12_goesTo [zi_410_0, zi_410_1, zi_410_2, zi_410_3] := zall_w _ _ (by decide +kernel)
noncomputable def xi_410 (pc : Nat) : XIs := cond (Nat.blt pc 61) (cond (Nat.blt pc 33) (zx zi_410_0) (zx zi_410_1)) (cond (Nat.blt pc 91) (zx zi_410_2) (zx zi_410_3))
theorem xi_ok410 (pc : Nat) : xi_ok cX12_goesTo (xi_410 pc) = true := xi_c (xi_c (zq1 xi_w410) (zq1 (zq2 xi_w410))) (xi_c (zq1 (zq2 (zq2 xi_w410))) (zq1 (zq2 (zq2 (zq2 xi_w410)))))
noncomputable def zi_411_0 : ZIs := [(0, ev_10), (1, ev_25), (3, ev_10), (4, ev_28), (6, ev_155), (8, ev_13), (9, ev_1288), (12, ev_721), (15, ev_10), (16, ev_275), (18, ev_276), (20, ev_192), (21, ev_585), (24, ev_150), (26, ev_13), (27, ev_155)]
noncomputable def zi_411_1 : ZIs := [(29, ev_276), (31, ev_192), (32, ev_1811), (35, ev_227), (38, ev_7), (39, ev_229), (42, ev_10), (43, ev_22), (44, ev_25), (46, ev_955), (49, ev_610), (52, ev_320), (55, ev_653), (58, ev_150), (60, ev_1812), (63, ev_13)]
noncomputable def zi_411_2 : ZIs := [(64, ev_1), (65, ev_1813), (68, ev_7), (69, ev_22), (70, ev_1803), (73, ev_10), (74, ev_28), (76, ev_10), (77, ev_275), (79, ev_276), (81, ev_150), (83, ev_588), (86, ev_13), (87, ev_1), (88, ev_1814), (91, ev_228)]
noncomputable def zi_411_3 : ZIs := [(92, ev_457), (93, ev_1804), (96, ev_484), (97, ev_1815), (100, ev_13), (101, ev_1814), (104, ev_492), (105, ev_457), (106, ev_445), (108, ev_462), (110, ev_462), (112, ev_518), (114, ev_519), (115, ev_520), (116, ev_1816), (119, ev_492)]
noncomputable def zi_411_4 : ZIs := [(120, ev_445), (122, ev_462), (124, ev_462), (126, ev_522), (128, ev_519), (129, ev_520), (130, ev_1817), (133, ev_492), (134, ev_445), (136, ev_462), (138, ev_462), (140, ev_524), (142, ev_519), (143, ev_520), (144, ev_445), (146, ev_155)]
noncomputable def zi_411_5 : ZIs := [(148, ev_462), (150, ev_525), (152, ev_519), (153, ev_1664), (156, ev_527), (157, ev_197), (158, ev_156), (159, ev_157), (160, ev_486), (163, ev_7), (164, ev_229), (167, ev_10), (168, ev_22), (169, ev_28), (171, ev_955), (174, ev_956)]
noncomputable def zi_411_6 : ZIs := [(177, ev_13), (178, ev_1), (179, ev_1818), (182, ev_150), (184, ev_22), (185, ev_1801), (188, ev_13), (189, ev_1), (190, ev_1819), (193, ev_155), (195, ev_22), (196, ev_1802), (199, ev_155), (201, ev_25), (203, ev_1820), (206, ev_260)]
set_option maxRecDepth 100000 in
theorem xi_w411 : zall cX12_send [zi_411_0, zi_411_1, zi_411_2, zi_411_3, zi_411_4, zi_411_5, zi_411_6] := zall_w _ _ (by decide +kernel)
noncomputable def xi_411 (pc : Nat) : XIs := cond (Nat.blt pc 92) (cond (Nat.blt pc 29) (zx zi_411_0) (cond (Nat.blt pc 64) (zx zi_411_1) (zx zi_411_2))) (cond (Nat.blt pc 148) (cond (Nat.blt pc 120) (zx zi_411_3) (zx zi_411_4)) (cond (Nat.blt pc 177) (zx zi_411_5) (zx zi_411_6)))
theorem xi_ok411 (pc : Nat) : xi_ok cX12_send (xi_411 pc) = true := xi_c (xi_c (zq1 xi_w411) (xi_c (zq1 (zq2 xi_w411)) (zq1 (zq2 (zq2 xi_w411))))) (xi_c (xi_c (zq1 (zq2 (zq2 (zq2 xi_w411)))) (zq1 (zq2 (zq2 (zq2 (zq2 xi_w411)))))) (xi_c (zq1 (zq2 (zq2 (zq2 (zq2 (zq2 xi_w411)))))) (zq1 (zq2 (zq2 (zq2 (zq2 (zq2 (zq2 xi_w411)))))))))
noncomputable def zi_412_0 : ZIs := [(0, ev_13), (1, ev_192), (2, ev_678), (5, ev_192), (6, ev_13), (7, ev_1821), (10, ev_656), (13, ev_7), (14, ev_229), (17, ev_10), (18, ev_1176), (21, ev_227), (24, ev_230), (25, ev_195), (28, ev_13), (29, ev_1783)]
noncomputable def zi_412_1 : ZIs := [(32, ev_192), (33, ev_154), (34, ev_481)]
set_option maxRecDepth 100000 in
theorem xi_w412 : zall cX12_state [zi_412_0, zi_412_1] := zall_w _ _ (by decide +kernel)
noncomputable def xi_412 (pc : Nat) : XIs := cond (Nat.blt pc 32) (zx zi_412_0) (zx zi_412_1)
theorem xi_ok412 (pc : Nat) : xi_ok cX12_state (xi_412 pc) = true := xi_c (zq1 xi_w412) (zq1 (zq2 xi_w412))
noncomputable def zi_413_0 : ZIs := [(0, ev_13), (1, ev_192), (2, ev_156), (3, ev_230), (4, ev_1645), (7, ev_1316), (10, ev_1176), (13, ev_158), (16, ev_10), (17, ev_152), (18, ev_192), (19, ev_381), (22, ev_13), (23, ev_1818), (26, ev_902), (29, ev_192)]
noncomputable def zi_413_1 : ZIs := [(30, ev_7), (31, ev_810), (34, ev_13), (35, ev_1819), (38, ev_212), (41, ev_13), (42, ev_1813), (45, ev_152)]
set_option maxRecDepth 100000 in
theorem xi_w413 : zall cX12_letters [zi_413_0, zi_413_1] := zall_w _ _ (by decide +kernel)
noncomputable def xi_413 (pc : Nat) : XIs := cond (Nat.blt pc 30) (zx zi_413_0) (zx zi_413_1)
theorem xi_ok413 (pc : Nat) : xi_ok cX12_letters (xi_413 pc) = true := xi_c (zq1 xi_w413) (zq1 (zq2 xi_w413))
noncomputable def zi_414_0 : ZIs := [(0, ev_482), (1, ev_482), (2, ev_7), (3, ev_1822), (4, ev_1823), (7, ev_20), (8, ev_16), (9, ev_1824), (10, ev_482), (11, ev_1825), (14, ev_20), (15, ev_482), (16, ev_30), (17, ev_1822), (18, ev_1825), (21, ev_20)]
noncomputable def zi_414_1 : ZIs := [(22, ev_22), (23, ev_1824), (24, ev_482), (25, ev_482), (26, ev_32), (27, ev_1822), (28, ev_22), (29, ev_1826), (32, ev_20), (33, ev_1824), (34, ev_482), (35, ev_482), (36, ev_469), (38, ev_1822), (39, ev_22), (40, ev_1824)]
noncomputable def zi_414_2 : ZIs := [(41, ev_482), (42, ev_482), (43, ev_581), (45, ev_1822), (46, ev_22), (47, ev_1824), (48, ev_482), (49, ev_19), (51, ev_20), (52, ev_152)]
set_option maxRecDepth 100000 in
theorem xi_w414 : zall cJ6_bitCount_0f7a4 [zi_414_0, zi_414_1, zi_414_2] := zall_w _ _ (by decide +kernel)
noncomputable def xi_414 (pc : Nat) : XIs := cond (Nat.blt pc 22) (zx zi_414_0) (cond (Nat.blt pc 41) (zx zi_414_1) (zx zi_414_2))
theorem xi_ok414 (pc : Nat) : xi_ok cJ6_bitCount_0f7a4 (xi_414 pc) = true := xi_c (zq1 xi_w414) (xi_c (zq1 (zq2 xi_w414)) (zq1 (zq2 (zq2 xi_w414))))
noncomputable def zi_415_0 : ZIs := [(0, ev_487), (1, ev_487), (2, ev_7), (3, ev_519), (4, ev_1827), (7, ev_179), (8, ev_485), (9, ev_1828), (10, ev_487), (11, ev_1829), (14, ev_179), (15, ev_487), (16, ev_30), (17, ev_519), (18, ev_1829), (21, ev_179)]
noncomputable def zi_415_1 : ZIs := [(22, ev_457), (23, ev_1828), (24, ev_487), (25, ev_487), (26, ev_32), (27, ev_519), (28, ev_457), (29, ev_1830), (32, ev_179), (33, ev_1828), (34, ev_487), (35, ev_487), (36, ev_469), (38, ev_519), (39, ev_457), (40, ev_1828)]
noncomputable def zi_415_2 : ZIs := [(41, ev_487), (42, ev_487), (43, ev_581), (45, ev_519), (46, ev_457), (47, ev_1828), (48, ev_487), (49, ev_487), (50, ev_176), (52, ev_519), (53, ev_457), (54, ev_1828), (55, ev_487), (56, ev_991), (57, ev_1831), (59, ev_20)]
noncomputable def zi_415_3 : ZIs := [(60, ev_152)]
set_option maxRecDepth 100000 in
theorem xi_w415 : zall cJ13_bitCount_95d88 [zi_415_0, zi_415_1, zi_415_2, zi_415_3] := zall_w _ _ (by decide +kernel)
noncomputable def xi_415 (pc : Nat) : XIs := cond (Nat.blt pc 41) (cond (Nat.blt pc 22) (zx zi_415_0) (zx zi_415_1)) (cond (Nat.blt pc 60) (zx zi_415_2) (zx zi_415_3))
theorem xi_ok415 (pc : Nat) : xi_ok cJ13_bitCount_95d88 (xi_415 pc) = true := xi_c (xi_c (zq1 xi_w415) (zq1 (zq2 xi_w415))) (xi_c (zq1 (zq2 (zq2 xi_w415))) (zq1 (zq2 (zq2 (zq2 xi_w415)))))
noncomputable def zi_416_0 : ZIs := [(0, ev_10), (1, ev_295), (2, ev_13), (3, ev_14), (4, ev_11), (6, ev_198), (7, ev_12), (9, ev_1449), (12, ev_13), (13, ev_198), (14, ev_483), (15, ev_194), (16, ev_300), (19, ev_801), (22, ev_260)]
set_option maxRecDepth 100000 in
theorem xi_w416 : zall cJ7_fill_d0a16 [zi_416_0] := zall_w _ _ (by decide +kernel)
noncomputable def xi_416 (pc : Nat) : XIs := zx zi_416_0
theorem xi_ok416 (pc : Nat) : xi_ok cJ7_fill_d0a16 (xi_416 pc) = true := zq1 xi_w416
noncomputable def zi_417_0 : ZIs := [(0, ev_10), (1, ev_294), (2, ev_13), (3, ev_14), (4, ev_295), (5, ev_197), (6, ev_198), (7, ev_1449), (10, ev_13), (11, ev_197), (12, ev_192), (13, ev_299), (14, ev_304), (17, ev_1832), (20, ev_260)]
set_option maxRecDepth 100000 in
theorem xi_w417 : zall cJ7_fill_53178 [zi_417_0] := zall_w _ _ (by decide +kernel)
noncomputable def xi_417 (pc : Nat) : XIs := zx zi_417_0
theorem xi_ok417 (pc : Nat) : xi_ok cJ7_fill_53178 (xi_417 pc) = true := zq1 xi_w417
noncomputable def zi_418_0 : ZIs := [(0, ev_487), (1, ev_489), (2, ev_490), (3, ev_442), (5, ev_487), (6, ev_489), (7, ev_520), (8, ev_230), (9, ev_157), (10, ev_1833), (13, ev_247), (15, ev_489), (16, ev_492), (17, ev_487), (18, ev_157), (19, ev_330)]
noncomputable def zi_418_1 : ZIs := [(22, ev_247), (24, ev_228), (25, ev_485), (26, ev_481), (27, ev_247), (29, ev_481)]
set_option maxRecDepth 100000 in
theorem xi_w418 : zall cJ9_floorDiv_f86c9 [zi_418_0, zi_418_1] := zall_w _ _ (by decide +kernel)
noncomputable def xi_418 (pc : Nat) : XIs := cond (Nat.blt pc 22) (zx zi_418_0) (zx zi_418_1)
theorem xi_ok418 (pc : Nat) : xi_ok cJ9_floorDiv_f86c9 (xi_418 pc) = true := xi_c (zq1 xi_w418) (zq1 (zq2 xi_w418))
noncomputable def zi_419_0 : ZIs := [(0, ev_487), (1, ev_489), (2, ev_527), (3, ev_442), (5, ev_487), (6, ev_489), (7, ev_520), (8, ev_230), (9, ev_157), (10, ev_1834), (13, ev_247), (15, ev_230), (16, ev_157), (17, ev_330), (20, ev_247), (22, ev_489)]
noncomputable def zi_419_1 : ZIs := [(23, ev_457), (24, ev_481), (25, ev_247), (27, ev_481)]
set_option maxRecDepth 100000 in
theorem xi_w419 : zall cJ9_floorMod_f86c9 [zi_419_0, zi_419_1] := zall_w _ _ (by decide +kernel)
noncomputable def xi_419 (pc : Nat) : XIs := cond (Nat.blt pc 23) (zx zi_419_0) (zx zi_419_1)
theorem xi_ok419 (pc : Nat) : xi_ok cJ9_floorMod_f86c9 (xi_419 pc) = true := xi_c (zq1 xi_w419) (zq1 (zq2 xi_w419))
noncomputable def zi_420_0 : ZIs := [(0, ev_482), (1, ev_1400), (4, ev_482), (5, ev_310), (6, ev_229), (9, ev_482), (10, ev_152)]
set_option maxRecDepth 100000 in
theorem xi_w420 : zall cJ9_abs_0f7a4 [zi_420_0] := zall_w _ _ (by decide +kernel)
noncomputable def xi_420 (pc : Nat) : XIs := zx zi_420_0
theorem xi_ok420 (pc : Nat) : xi_ok cJ9_abs_0f7a4 (xi_420 pc) = true := zq1 xi_w420
noncomputable def zi_421_0 : ZIs := [(0, ev_487), (1, ev_230), (2, ev_157), (3, ev_1400), (6, ev_487), (7, ev_476), (8, ev_229), (11, ev_487), (12, ev_481)]
set_option maxRecDepth 100000 in
theorem xi_w421 : zall cJ9_abs_067f4 [zi_421_0] := zall_w _ _ (by decide +kernel)
noncomputable def xi_421 (pc : Nat) : XIs := zx zi_421_0
theorem xi_ok421 (pc : Nat) : xi_ok cJ9_abs_067f4 (xi_421 pc) = true := zq1 xi_w421
noncomputable def zi_422_0 : ZIs := [(0, ev_482), (1, ev_192), (2, ev_613), (5, ev_482), (6, ev_229), (9, ev_192), (10, ev_152)]
set_option maxRecDepth 100000 in
theorem xi_w422 : zall cJ9_max_7cf53 [zi_422_0] := zall_w _ _ (by decide +kernel)
noncomputable def xi_422 (pc : Nat) : XIs := zx zi_422_0
theorem xi_ok422 (pc : Nat) : xi_ok cJ9_max_7cf53 (xi_422 pc) = true := zq1 xi_w422
noncomputable def zi_423_0 : ZIs := [(0, ev_487), (1, ev_489), (2, ev_157), (3, ev_831), (6, ev_487), (7, ev_229), (10, ev_489), (11, ev_481)]
set_option maxRecDepth 100000 in
theorem xi_w423 : zall cJ9_max_f86c9 [zi_423_0] := zall_w _ _ (by decide +kernel)
noncomputable def xi_423 (pc : Nat) : XIs := zx zi_423_0
theorem xi_ok423 (pc : Nat) : xi_ok cJ9_max_f86c9 (xi_423 pc) = true := zq1 xi_w423
noncomputable def zi_424_0 : ZIs := [(0, ev_482), (1, ev_192), (2, ev_886), (5, ev_482), (6, ev_229), (9, ev_192), (10, ev_152)]
set_option maxRecDepth 100000 in
theorem xi_w424 : zall cJ9_min_7cf53 [zi_424_0] := zall_w _ _ (by decide +kernel)
noncomputable def xi_424 (pc : Nat) : XIs := zx zi_424_0
theorem xi_ok424 (pc : Nat) : xi_ok cJ9_min_7cf53 (xi_424 pc) = true := zq1 xi_w424
noncomputable def zi_425_0 : ZIs := [(0, ev_487), (1, ev_489), (2, ev_157), (3, ev_491), (6, ev_487), (7, ev_229), (10, ev_489), (11, ev_481)]
set_option maxRecDepth 100000 in
theorem xi_w425 : zall cJ9_min_f86c9 [zi_425_0] := zall_w _ _ (by decide +kernel)
noncomputable def xi_425 (pc : Nat) : XIs := zx zi_425_0
theorem xi_ok425 (pc : Nat) : xi_ok cJ9_min_f86c9 (xi_425 pc) = true := zq1 xi_w425
noncomputable def zi_426_0 : ZIs := [(0, ev_192), (1, ev_13), (2, ev_14), (3, ev_706), (6, ev_13), (7, ev_1835), (10, ev_1836), (13, ev_823), (14, ev_192), (15, ev_255), (17, ev_6), (18, ev_13), (19, ev_10), (20, ev_26), (21, ev_10), (22, ev_13)]
noncomputable def zi_426_1 : ZIs := [(23, ev_14), (24, ev_192), (25, ev_1837), (28, ev_1838), (31, ev_26), (32, ev_823)]
set_option maxRecDepth 100000 in
theorem xi_w426 : zall cJ7_copyOf_59c91 [zi_426_0, zi_426_1] := zall_w _ _ (by decide +kernel)
noncomputable def xi_426 (pc : Nat) : XIs := cond (Nat.blt pc 23) (zx zi_426_0) (zx zi_426_1)
theorem xi_ok426 (pc : Nat) : xi_ok cJ7_copyOf_59c91 (xi_426 pc) = true := xi_c (zq1 xi_w426) (zq1 (zq2 xi_w426))
noncomputable def zi_427_0 : ZIs := [(0, ev_13), (1, ev_261), (4, ev_14), (5, ev_13), (6, ev_1839), (9, ev_303), (10, ev_152)]
set_option maxRecDepth 100000 in
theorem xi_w427 : zall cJ0_length_8abf5 [zi_427_0] := zall_w _ _ (by decide +kernel)
noncomputable def xi_427 (pc : Nat) : XIs := zx zi_427_0
theorem xi_ok427 (pc : Nat) : xi_ok cJ0_length_8abf5 (xi_427 pc) = true := zq1 xi_w427
noncomputable def zi_428_0 : ZIs := [(0, ev_13), (1, ev_261), (4, ev_14), (5, ev_326), (8, ev_7), (9, ev_229), (12, ev_10), (13, ev_152)]
set_option maxRecDepth 100000 in
theorem xi_w428 : zall cJ0_isEmpty_aae02 [zi_428_0] := zall_w _ _ (by decide +kernel)
noncomputable def xi_428 (pc : Nat) : XIs := zx zi_428_0
theorem xi_ok428 (pc : Nat) : xi_ok cJ0_isEmpty_aae02 (xi_428 pc) = true := zq1 xi_w428
noncomputable def zi_429_0 : ZIs := [(0, ev_13), (1, ev_1840), (4, ev_649), (7, ev_13), (8, ev_261), (11, ev_192), (12, ev_1841), (15, ev_152), (16, ev_13), (17, ev_261), (20, ev_192), (21, ev_1842), (24, ev_152)]
set_option maxRecDepth 100000 in
theorem xi_w429 : zall cJ0_charAt_5068e [zi_429_0] := zall_w _ _ (by decide +kernel)
noncomputable def xi_429 (pc : Nat) : XIs := zx zi_429_0
theorem xi_ok429 (pc : Nat) : xi_ok cJ0_charAt_5068e (xi_429 pc) = true := zq1 xi_w429
noncomputable def zi_430_0 : ZIs := [(0, ev_13), (1, ev_192), (2, ev_10), (3, ev_1843), (6, ev_152)]
set_option maxRecDepth 100000 in
theorem xi_w430 : zall cJ0_indexOf_0f7a4 [zi_430_0] := zall_w _ _ (by decide +kernel)
noncomputable def xi_430 (pc : Nat) : XIs := zx zi_430_0
theorem xi_ok430 (pc : Nat) : xi_ok cJ0_indexOf_0f7a4 (xi_430 pc) = true := zq1 xi_w430
noncomputable def zi_431_0 : ZIs := [(0, ev_13), (1, ev_1840), (4, ev_488), (7, ev_13), (8, ev_261), (11, ev_192), (12, ev_197), (13, ev_13), (14, ev_1844), (17, ev_1845), (20, ev_759), (23, ev_13), (24, ev_261), (27, ev_192), (28, ev_197), (29, ev_13)]
noncomputable def zi_431_1 : ZIs := [(30, ev_1844), (33, ev_1846), (36, ev_152)]
set_option maxRecDepth 100000 in
theorem xi_w431 : zall cJ0_indexOf_7cf53 [zi_431_0, zi_431_1] := zall_w _ _ (by decide +kernel)
noncomputable def xi_431 (pc : Nat) : XIs := cond (Nat.blt pc 30) (zx zi_431_0) (zx zi_431_1)
theorem xi_ok431 (pc : Nat) : xi_ok cJ0_indexOf_7cf53 (xi_431 pc) = true := xi_c (zq1 xi_w431) (zq1 (zq2 xi_w431))
noncomputable def zi_432_0 : ZIs := [(0, ev_1847), (3, ev_385), (6, ev_13), (7, ev_280), (10, ev_229), (13, ev_7), (14, ev_152)]
set_option maxRecDepth 100000 in
theorem xi_w432 : zall cJ0_coder_7d493 [zi_432_0] := zall_w _ _ (by decide +kernel)
noncomputable def xi_432 (pc : Nat) : XIs := zx zi_432_0
theorem xi_ok432 (pc : Nat) : xi_ok cJ0_coder_7d493 (xi_432 pc) = true := zq1 xi_w432
noncomputable def zi_433_0 : ZIs := [(0, ev_1847), (3, ev_1004), (6, ev_13), (7, ev_280), (10, ev_326), (13, ev_7), (14, ev_229), (17, ev_10), (18, ev_152)]
set_option maxRecDepth 100000 in
theorem xi_w433 : zall cJ0_isLatin1_aae02 [zi_433_0] := zall_w _ _ (by decide +kernel)
noncomputable def xi_433 (pc : Nat) : XIs := zx zi_433_0
theorem xi_ok433 (pc : Nat) : xi_ok cJ0_isLatin1_aae02 (xi_433 pc) = true := zq1 xi_w433
noncomputable def zi_434_0 : ZIs := [(0, ev_482), (1, ev_192), (2, ev_1848), (5, ev_1849), (8, ev_50), (9, ev_260)]
set_option maxRecDepth 100000 in
theorem xi_w434 : zall cJ0_checkIndex_df160 [zi_434_0] := zall_w _ _ (by decide +kernel)
noncomputable def xi_434 (pc : Nat) : XIs := zx zi_434_0
theorem xi_ok434 (pc : Nat) : xi_ok cJ0_checkIndex_df160 (xi_434 pc) = true := zq1 xi_w434
noncomputable def zi_435_0 : ZIs := [(0, ev_192), (1, ev_13), (2, ev_14), (3, ev_1850), (6, ev_13), (7, ev_192), (8, ev_1292), (9, ev_1851), (12, ev_20), (13, ev_423), (14, ev_152)]
set_option maxRecDepth 100000 in
theorem xi_w435 : zall cJ1_charAt_3b067 [zi_435_0] := zall_w _ _ (by decide +kernel)
noncomputable def xi_435 (pc : Nat) : XIs := zx zi_435_0
theorem xi_ok435 (pc : Nat) : xi_ok cJ1_charAt_3b067 (xi_435 pc) = true := zq1 xi_w435
noncomputable def zi_436_0 : ZIs := [(0, ev_482), (1, ev_1159), (4, ev_482), (5, ev_1851), (8, ev_886), (11, ev_7), (12, ev_229), (15, ev_10), (16, ev_152)]
set_option maxRecDepth 100000 in
theorem xi_w436 : zall cJ1_canEncode_9a6ad [zi_436_0] := zall_w _ _ (by decide +kernel)
noncomputable def xi_436 (pc : Nat) : XIs := zx zi_436_0
theorem xi_ok436 (pc : Nat) : xi_ok cJ1_canEncode_9a6ad (xi_436 pc) = true := zq1 xi_w436
noncomputable def zi_437_0 : ZIs := [(0, ev_192), (1, ev_1852), (4, ev_378), (7, ev_252), (8, ev_152), (9, ev_197), (10, ev_10), (11, ev_1853), (14, ev_294), (15, ev_198), (16, ev_13), (17, ev_14), (18, ev_1854), (21, ev_295), (22, ev_197), (23, ev_198)]
noncomputable def zi_437_1 : ZIs := [(24, ev_993), (27, ev_252), (28, ev_152), (29, ev_13), (30, ev_192), (31, ev_197), (32, ev_198), (33, ev_895), (36, ev_152)]
set_option maxRecDepth 100000 in
theorem xi_w437 : zall cJ1_indexOf_4cfef [zi_437_0, zi_437_1] := zall_w _ _ (by decide +kernel)
noncomputable def xi_437 (pc : Nat) : XIs := cond (Nat.blt pc 24) (zx zi_437_0) (zx zi_437_1)
theorem xi_ok437 (pc : Nat) : xi_ok cJ1_indexOf_4cfef (xi_437 pc) = true := xi_c (zq1 xi_w437) (zq1 (zq2 xi_w437))
noncomputable def zi_438_0 : ZIs := [(0, ev_192), (1, ev_1855), (2, ev_11), (4, ev_197), (5, ev_25), (7, ev_150), (9, ev_198), (10, ev_364), (13, ev_13), (14, ev_150), (16, ev_1292), (17, ev_12), (19, ev_774), (22, ev_150), (24, ev_152), (25, ev_343)]
noncomputable def zi_438_1 : ZIs := [(28, ev_1327), (31, ev_252), (32, ev_152)]
set_option maxRecDepth 100000 in
theorem xi_w438 : zall cJ1_indexOfChar_4cfef [zi_438_0, zi_438_1] := zall_w _ _ (by decide +kernel)
noncomputable def xi_438 (pc : Nat) : XIs := cond (Nat.blt pc 28) (zx zi_438_0) (zx zi_438_1)
theorem xi_ok438 (pc : Nat) : xi_ok cJ1_indexOfChar_4cfef (xi_438 pc) = true := xi_c (zq1 xi_w438) (zq1 (zq2 xi_w438))
noncomputable def zi_439_0 : ZIs := [(0, ev_482), (1, ev_1856), (4, ev_482), (5, ev_192), (6, ev_1549), (9, ev_26), (10, ev_482), (11, ev_192), (12, ev_895), (15, ev_1857), (16, ev_482), (17, ev_152)]
set_option maxRecDepth 100000 in
theorem xi_w439 : zall cJ3_checkIndex_8e157 [zi_439_0] := zall_w _ _ (by decide +kernel)
noncomputable def xi_439 (pc : Nat) : XIs := zx zi_439_0
theorem xi_ok439 (pc : Nat) : xi_ok cJ3_checkIndex_8e157 (xi_439 pc) = true := zq1 xi_w439
