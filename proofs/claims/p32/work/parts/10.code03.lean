noncomputable def zi_370_0 : ZIs := [(0, ev_10), (1, ev_25), (3, ev_126), (5, ev_13), (6, ev_1290), (9, ev_1588), (12, ev_23), (13, ev_126), (15, ev_126), (17, ev_196), (18, ev_819), (21, ev_10), (22, ev_134), (25, ev_252), (26, ev_299), (27, ev_207)]
noncomputable def zi_370_1 : ZIs := [(29, ev_126), (31, ev_126), (33, ev_196), (34, ev_819), (37, ev_133), (38, ev_134), (41, ev_135), (42, ev_198), (43, ev_343), (46, ev_408), (49, ev_10), (50, ev_25), (52, ev_126), (54, ev_13), (55, ev_1290), (58, ev_1639)]
noncomputable def zi_370_2 : ZIs := [(61, ev_13), (62, ev_1293), (65, ev_28), (67, ev_131), (69, ev_13), (70, ev_1293), (73, ev_530), (76, ev_22), (77, ev_471), (80, ev_201), (81, ev_635), (84, ev_13), (85, ev_1039), (88, ev_131), (90, ev_18), (91, ev_634)]
noncomputable def zi_370_3 : ZIs := [(94, ev_13), (95, ev_1304), (98, ev_131), (100, ev_18), (101, ev_275), (103, ev_201), (104, ev_635), (107, ev_13), (108, ev_1304), (111, ev_131), (113, ev_18), (114, ev_634), (117, ev_13), (118, ev_1039), (121, ev_131), (123, ev_18)]
noncomputable def zi_370_4 : ZIs := [(124, ev_313), (126, ev_13), (127, ev_1292), (130, ev_131), (132, ev_1294), (133, ev_1619), (136, ev_23), (137, ev_276), (139, ev_18), (140, ev_126), (142, ev_976), (145, ev_23), (146, ev_314), (148, ev_18), (149, ev_1160), (152, ev_23)]
noncomputable def zi_370_5 : ZIs := [(153, ev_314), (155, ev_18), (156, ev_126), (158, ev_7), (159, ev_22), (160, ev_892), (163, ev_23), (164, ev_314), (166, ev_126), (168, ev_7), (169, ev_22), (170, ev_299), (171, ev_207), (173, ev_314), (175, ev_207), (177, ev_314)]
noncomputable def zi_370_6 : ZIs := [(179, ev_130), (180, ev_207), (182, ev_276), (184, ev_130), (185, ev_458), (186, ev_1648), (189, ev_528), (190, ev_198), (191, ev_320), (194, ev_1669), (197, ev_343), (200, ev_1644), (203, ev_260)]
set_option maxRecDepth 100000 in
theorem xi_w370 : zall cX12_hop [zi_370_0, zi_370_1, zi_370_2, zi_370_3, zi_370_4, zi_370_5, zi_370_6] := zall_w _ _ (by decide +kernel)
noncomputable def xi_370 (pc : Nat) : XIs := cond (Nat.blt pc 94) (cond (Nat.blt pc 29) (zx zi_370_0) (cond (Nat.blt pc 61) (zx zi_370_1) (zx zi_370_2))) (cond (Nat.blt pc 153) (cond (Nat.blt pc 124) (zx zi_370_3) (zx zi_370_4)) (cond (Nat.blt pc 179) (zx zi_370_5) (zx zi_370_6)))
theorem xi_ok370 (pc : Nat) : xi_ok cX12_hop (xi_370 pc) = true := xi_c (xi_c (zq1 xi_w370) (xi_c (zq1 (zq2 xi_w370)) (zq1 (zq2 (zq2 xi_w370))))) (xi_c (xi_c (zq1 (zq2 (zq2 (zq2 xi_w370)))) (zq1 (zq2 (zq2 (zq2 (zq2 xi_w370)))))) (xi_c (zq1 (zq2 (zq2 (zq2 (zq2 (zq2 xi_w370)))))) (zq1 (zq2 (zq2 (zq2 (zq2 (zq2 (zq2 xi_w370)))))))))
noncomputable def zi_371_0 : ZIs := [(0, ev_13), (1, ev_13), (2, ev_196), (3, ev_1337), (6, ev_1398), (9, ev_13), (10, ev_201), (11, ev_1337), (14, ev_618), (17, ev_202), (18, ev_179), (19, ev_135), (20, ev_1647), (23, ev_1318), (26, ev_417), (29, ev_13)]
noncomputable def zi_371_1 : ZIs := [(30, ev_12), (32, ev_1337), (35, ev_132), (38, ev_7), (39, ev_134), (42, ev_10), (43, ev_1177), (46, ev_137), (49, ev_10), (50, ev_128), (51, ev_13), (52, ev_196), (53, ev_10), (54, ev_13), (55, ev_1069), (58, ev_13)]
noncomputable def zi_371_2 : ZIs := [(59, ev_1670), (62, ev_1671), (65, ev_13), (66, ev_201), (67, ev_7), (68, ev_13), (69, ev_1672), (72, ev_13), (73, ev_1673), (76, ev_1671), (79, ev_202), (80, ev_381), (83, ev_13), (84, ev_1069), (87, ev_201), (88, ev_18)]
noncomputable def zi_371_3 : ZIs := [(89, ev_128), (90, ev_202), (91, ev_7), (92, ev_707), (95, ev_13), (96, ev_1670), (99, ev_201), (100, ev_130), (101, ev_992), (102, ev_128), (103, ev_13), (104, ev_1069), (107, ev_12), (109, ev_18), (110, ev_1614), (113, ev_13)]
noncomputable def zi_371_4 : ZIs := [(114, ev_1672), (117, ev_12), (119, ev_18), (120, ev_1624), (123, ev_13), (124, ev_1069), (127, ev_12), (129, ev_18), (130, ev_13), (131, ev_1672), (134, ev_12), (136, ev_18), (137, ev_22), (138, ev_13), (139, ev_1069), (142, ev_201)]
noncomputable def zi_371_5 : ZIs := [(143, ev_18), (144, ev_819), (147, ev_7), (148, ev_134), (151, ev_10), (152, ev_25), (154, ev_126), (156, ev_1171), (159, ev_13), (160, ev_1670), (163, ev_12), (165, ev_130), (166, ev_13), (167, ev_1673), (170, ev_12), (172, ev_130)]
noncomputable def zi_371_6 : ZIs := [(173, ev_493), (174, ev_1648), (177, ev_528), (178, ev_992), (179, ev_134), (182, ev_10), (183, ev_128)]
set_option maxRecDepth 100000 in
theorem xi_w371 : zall cX12_shortest [zi_371_0, zi_371_1, zi_371_2, zi_371_3, zi_371_4, zi_371_5, zi_371_6] := zall_w _ _ (by decide +kernel)
noncomputable def xi_371 (pc : Nat) : XIs := cond (Nat.blt pc 89) (cond (Nat.blt pc 30) (zx zi_371_0) (cond (Nat.blt pc 59) (zx zi_371_1) (zx zi_371_2))) (cond (Nat.blt pc 143) (cond (Nat.blt pc 114) (zx zi_371_3) (zx zi_371_4)) (cond (Nat.blt pc 173) (zx zi_371_5) (zx zi_371_6)))
theorem xi_ok371 (pc : Nat) : xi_ok cX12_shortest (xi_371 pc) = true := xi_c (xi_c (zq1 xi_w371) (xi_c (zq1 (zq2 xi_w371)) (zq1 (zq2 (zq2 xi_w371))))) (xi_c (xi_c (zq1 (zq2 (zq2 (zq2 xi_w371)))) (zq1 (zq2 (zq2 (zq2 (zq2 xi_w371)))))) (xi_c (zq1 (zq2 (zq2 (zq2 (zq2 (zq2 xi_w371)))))) (zq1 (zq2 (zq2 (zq2 (zq2 (zq2 (zq2 xi_w371)))))))))
noncomputable def zi_372_0 : ZIs := [(0, ev_1647), (3, ev_13), (4, ev_1674), (7, ev_179), (8, ev_493), (9, ev_13), (10, ev_1675), (13, ev_180), (15, ev_196), (16, ev_355), (17, ev_201), (18, ev_22), (19, ev_18), (20, ev_179), (21, ev_493), (22, ev_13)]
noncomputable def zi_372_1 : ZIs := [(23, ev_1676), (26, ev_196), (27, ev_18), (28, ev_179), (29, ev_13), (30, ev_1676), (33, ev_201), (34, ev_18), (35, ev_179), (36, ev_493), (37, ev_486), (38, ev_482)]
set_option maxRecDepth 100000 in
theorem xi_w372 : zall cX12_gainOf [zi_372_0, zi_372_1] := zall_w _ _ (by decide +kernel)
noncomputable def xi_372 (pc : Nat) : XIs := cond (Nat.blt pc 23) (zx zi_372_0) (zx zi_372_1)
theorem xi_ok372 (pc : Nat) : xi_ok cX12_gainOf (xi_372 pc) = true := xi_c (zq1 xi_w372) (zq1 (zq2 xi_w372))
noncomputable def zi_373_0 : ZIs := [(0, ev_135), (1, ev_925), (2, ev_10), (3, ev_25), (5, ev_126), (7, ev_13), (8, ev_1290), (11, ev_1588), (14, ev_485), (15, ev_126), (17, ev_196), (18, ev_1483), (21, ev_13), (22, ev_1677), (25, ev_126), (27, ev_18)]
noncomputable def zi_373_1 : ZIs := [(28, ev_201), (29, ev_928), (32, ev_13), (33, ev_196), (34, ev_126), (36, ev_1678), (39, ev_134), (42, ev_135), (43, ev_458), (44, ev_925), (45, ev_343), (48, ev_408), (51, ev_485), (52, ev_482)]
set_option maxRecDepth 100000 in
theorem xi_w373 : zall cX12_gainIn [zi_373_0, zi_373_1] := zall_w _ _ (by decide +kernel)
noncomputable def xi_373 (pc : Nat) : XIs := cond (Nat.blt pc 28) (zx zi_373_0) (zx zi_373_1)
theorem xi_ok373 (pc : Nat) : xi_ok cX12_gainIn (xi_373 pc) = true := xi_c (zq1 xi_w373) (zq1 (zq2 xi_w373))
noncomputable def zi_374_0 : ZIs := [(0, ev_13), (1, ev_10), (2, ev_1679), (5, ev_10), (6, ev_686), (7, ev_196), (8, ev_529), (11, ev_1115), (14, ev_13), (15, ev_1675), (18, ev_196), (19, ev_10), (20, ev_299), (21, ev_689), (24, ev_1511), (27, ev_10)]
noncomputable def zi_374_1 : ZIs := [(28, ev_686), (29, ev_196), (30, ev_13), (31, ev_1290), (34, ev_346), (37, ev_13), (38, ev_1676), (41, ev_196), (42, ev_10), (43, ev_299), (44, ev_13), (45, ev_1677), (48, ev_196), (49, ev_196), (50, ev_299), (51, ev_689)]
noncomputable def zi_374_2 : ZIs := [(54, ev_319), (57, ev_10), (58, ev_686), (59, ev_196), (60, ev_530), (63, ev_1680), (66, ev_13), (67, ev_196), (68, ev_1180), (71, ev_1421), (74, ev_13), (75, ev_1), (76, ev_1674), (79, ev_7), (80, ev_22), (81, ev_1679)]
noncomputable def zi_374_3 : ZIs := [(84, ev_13), (85, ev_1676), (88, ev_13), (89, ev_1304), (92, ev_13), (93, ev_1293), (96, ev_196), (97, ev_22), (98, ev_18), (99, ev_316), (100, ev_18), (101, ev_7), (102, ev_22), (103, ev_299), (104, ev_13), (105, ev_1676)]
noncomputable def zi_374_4 : ZIs := [(108, ev_13), (109, ev_1039), (112, ev_13), (113, ev_1293), (116, ev_196), (117, ev_22), (118, ev_18), (119, ev_316), (120, ev_18), (121, ev_7), (122, ev_22), (123, ev_299), (124, ev_13), (125, ev_1675), (128, ev_180), (130, ev_13)]
noncomputable def zi_374_5 : ZIs := [(131, ev_1304), (134, ev_13), (135, ev_1293), (138, ev_196), (139, ev_22), (140, ev_18), (141, ev_355), (142, ev_13), (143, ev_1039), (146, ev_13), (147, ev_1293), (150, ev_196), (151, ev_22), (152, ev_18), (153, ev_22), (154, ev_316)]
noncomputable def zi_374_6 : ZIs := [(155, ev_18), (156, ev_7), (157, ev_22), (158, ev_299), (159, ev_13), (160, ev_1675), (163, ev_180), (165, ev_13), (166, ev_1039), (169, ev_13), (170, ev_1293), (173, ev_196), (174, ev_22), (175, ev_18), (176, ev_355), (177, ev_13)]
noncomputable def zi_374_7 : ZIs := [(178, ev_1304), (181, ev_13), (182, ev_1293), (185, ev_196), (186, ev_22), (187, ev_18), (188, ev_22), (189, ev_316), (190, ev_18), (191, ev_7), (192, ev_22), (193, ev_299), (194, ev_689), (197, ev_978), (200, ev_7), (201, ev_686)]
noncomputable def zi_374_8 : ZIs := [(202, ev_10), (203, ev_294), (204, ev_201), (205, ev_733), (207, ev_506), (210, ev_196), (211, ev_272), (214, ev_10), (215, ev_686), (216, ev_10), (217, ev_295), (218, ev_202), (219, ev_13), (220, ev_1290), (223, ev_849), (226, ev_13)]
noncomputable def zi_374_9 : ZIs := [(227, ev_202), (228, ev_1681), (231, ev_11), (233, ev_196), (234, ev_390), (237, ev_12), (239, ev_13), (240, ev_1677), (243, ev_202), (244, ev_18), (245, ev_682), (248, ev_7), (249, ev_134), (252, ev_10), (253, ev_686), (254, ev_13)]
noncomputable def zi_374_10 : ZIs := [(255, ev_1677), (258, ev_202), (259, ev_12), (261, ev_299), (262, ev_300), (265, ev_851), (268, ev_304), (271, ev_1415), (274, ev_260)]
set_option maxRecDepth 100000 in
theorem xi_w374 : zall cX12_findGroups [zi_374_0, zi_374_1, zi_374_2, zi_374_3, zi_374_4, zi_374_5, zi_374_6, zi_374_7, zi_374_8, zi_374_9, zi_374_10] := zall_w _ _ (by decide +kernel)
noncomputable def xi_374 (pc : Nat) : XIs := cond (Nat.blt pc 131) (cond (Nat.blt pc 54) (cond (Nat.blt pc 28) (zx zi_374_0) (zx zi_374_1)) (cond (Nat.blt pc 84) (zx zi_374_2) (cond (Nat.blt pc 108) (zx zi_374_3) (zx zi_374_4)))) (cond (Nat.blt pc 202) (cond (Nat.blt pc 155) (zx zi_374_5) (cond (Nat.blt pc 178) (zx zi_374_6) (zx zi_374_7))) (cond (Nat.blt pc 227) (zx zi_374_8) (cond (Nat.blt pc 255) (zx zi_374_9) (zx zi_374_10))))
theorem xi_ok374 (pc : Nat) : xi_ok cX12_findGroups (xi_374 pc) = true := xi_c (xi_c (xi_c (zq1 xi_w374) (zq1 (zq2 xi_w374))) (xi_c (zq1 (zq2 (zq2 xi_w374))) (xi_c (zq1 (zq2 (zq2 (zq2 xi_w374)))) (zq1 (zq2 (zq2 (zq2 (zq2 xi_w374)))))))) (xi_c (xi_c (zq1 (zq2 (zq2 (zq2 (zq2 (zq2 xi_w374)))))) (xi_c (zq1 (zq2 (zq2 (zq2 (zq2 (zq2 (zq2 xi_w374))))))) (zq1 (zq2 (zq2 (zq2 (zq2 (zq2 (zq2 (zq2 xi_w374)))))))))) (xi_c (zq1 (zq2 (zq2 (zq2 (zq2 (zq2 (zq2 (zq2 (zq2 xi_w374))))))))) (xi_c (zq1 (zq2 (zq2 (zq2 (zq2 (zq2 (zq2 (zq2 (zq2 (zq2 xi_w374)))))))))) (zq1 (zq2 (zq2 (zq2 (zq2 (zq2 (zq2 (zq2 (zq2 (zq2 (zq2 xi_w374))))))))))))))
noncomputable def zi_375_0 : ZIs := [(0, ev_412), (2, ev_295), (3, ev_13), (4, ev_1290), (7, ev_7), (8, ev_16), (9, ev_11), (11, ev_12), (13, ev_1682), (16, ev_13), (17, ev_1677), (20, ev_12), (22, ev_18), (23, ev_196), (24, ev_799), (27, ev_12)]
noncomputable def zi_375_1 : ZIs := [(29, ev_201), (30, ev_1683), (33, ev_12), (35, ev_134), (38, ev_202), (39, ev_295), (40, ev_1684), (43, ev_694), (46, ev_202), (47, ev_128)]
set_option maxRecDepth 100000 in
theorem xi_w375 : zall cX12_leastOf [zi_375_0, zi_375_1] := zall_w _ _ (by decide +kernel)
noncomputable def xi_375 (pc : Nat) : XIs := cond (Nat.blt pc 29) (zx zi_375_0) (zx zi_375_1)
theorem xi_ok375 (pc : Nat) : xi_ok cX12_leastOf (xi_375 pc) = true := xi_c (zq1 xi_w375) (zq1 (zq2 xi_w375))
noncomputable def zi_376_0 : ZIs := [(0, ev_13), (1, ev_196), (2, ev_13), (3, ev_1677), (6, ev_196), (7, ev_18), (8, ev_1685), (11, ev_518), (12, ev_13), (13, ev_1677), (16, ev_196), (17, ev_18), (18, ev_11), (20, ev_252), (21, ev_25), (23, ev_13)]
noncomputable def zi_376_1 : ZIs := [(24, ev_13), (25, ev_1677), (28, ev_196), (29, ev_18), (30, ev_196), (31, ev_1686), (34, ev_412), (36, ev_819), (39, ev_7), (40, ev_134), (43, ev_10), (44, ev_28), (46, ev_10), (47, ev_275), (49, ev_276), (51, ev_13)]
noncomputable def zi_376_2 : ZIs := [(52, ev_1290), (55, ev_1687), (58, ev_276), (60, ev_196), (61, ev_1688), (64, ev_13), (65, ev_1675), (68, ev_180), (70, ev_196), (71, ev_355), (72, ev_276), (74, ev_22), (75, ev_18), (76, ev_1073), (79, ev_13), (80, ev_1677)]
noncomputable def zi_376_3 : ZIs := [(83, ev_276), (85, ev_18), (86, ev_13), (87, ev_1677), (90, ev_196), (91, ev_18), (92, ev_1689), (95, ev_13), (96, ev_196), (97, ev_13), (98, ev_1677), (101, ev_276), (103, ev_18), (104, ev_1685), (107, ev_446), (109, ev_13)]
noncomputable def zi_376_4 : ZIs := [(110, ev_13), (111, ev_1677), (114, ev_276), (116, ev_18), (117, ev_196), (118, ev_1686), (121, ev_448), (123, ev_463), (125, ev_490), (126, ev_136), (127, ev_1690), (130, ev_463), (132, ev_490), (133, ev_136), (134, ev_1691), (137, ev_126)]
noncomputable def zi_376_5 : ZIs := [(139, ev_1692), (142, ev_449), (144, ev_126), (146, ev_623), (149, ev_463), (151, ev_518), (152, ev_13), (153, ev_1677), (156, ev_276), (158, ev_18), (159, ev_11), (161, ev_449), (163, ev_25), (165, ev_956), (168, ev_990), (171, ev_131)]
noncomputable def zi_376_6 : ZIs := [(173, ev_390), (176, ev_490), (177, ev_135), (178, ev_136), (179, ev_1402), (182, ev_13), (183, ev_1693), (186, ev_128), (187, ev_12), (189, ev_128)]
set_option maxRecDepth 100000 in
theorem xi_w376 : zall cX12_bestGroup [zi_376_0, zi_376_1, zi_376_2, zi_376_3, zi_376_4, zi_376_5, zi_376_6] := zall_w _ _ (by decide +kernel)
noncomputable def xi_376 (pc : Nat) : XIs := cond (Nat.blt pc 83) (cond (Nat.blt pc 24) (zx zi_376_0) (cond (Nat.blt pc 52) (zx zi_376_1) (zx zi_376_2))) (cond (Nat.blt pc 139) (cond (Nat.blt pc 110) (zx zi_376_3) (zx zi_376_4)) (cond (Nat.blt pc 173) (zx zi_376_5) (zx zi_376_6)))
theorem xi_ok376 (pc : Nat) : xi_ok cX12_bestGroup (xi_376 pc) = true := xi_c (xi_c (zq1 xi_w376) (xi_c (zq1 (zq2 xi_w376)) (zq1 (zq2 (zq2 xi_w376))))) (xi_c (xi_c (zq1 (zq2 (zq2 (zq2 xi_w376)))) (zq1 (zq2 (zq2 (zq2 (zq2 xi_w376)))))) (xi_c (zq1 (zq2 (zq2 (zq2 (zq2 (zq2 xi_w376)))))) (zq1 (zq2 (zq2 (zq2 (zq2 (zq2 (zq2 xi_w376)))))))))
noncomputable def zi_377_0 : ZIs := [(0, ev_10), (1, ev_686), (2, ev_13), (3, ev_196), (4, ev_252), (5, ev_1686), (8, ev_412), (10, ev_473), (13, ev_689), (16, ev_1156), (19, ev_196), (20, ev_128)]
set_option maxRecDepth 100000 in
theorem xi_w377 : zall cX12_freeGroup [zi_377_0] := zall_w _ _ (by decide +kernel)
noncomputable def xi_377 (pc : Nat) : XIs := zx zi_377_0
theorem xi_ok377 (pc : Nat) : xi_ok cX12_freeGroup (xi_377 pc) = true := zq1 xi_w377
noncomputable def zi_378_0 : ZIs := [(0, ev_13), (1, ev_13), (2, ev_196), (3, ev_1337), (6, ev_1177), (9, ev_137), (12, ev_10), (13, ev_128), (14, ev_13), (15, ev_1694), (18, ev_13), (19, ev_13), (20, ev_1677), (23, ev_196), (24, ev_18), (25, ev_252)]
noncomputable def zi_378_1 : ZIs := [(26, ev_1686), (29, ev_128)]
set_option maxRecDepth 100000 in
theorem xi_w378 : zall cX12_group [zi_378_0, zi_378_1] := zall_w _ _ (by decide +kernel)
noncomputable def xi_378 (pc : Nat) : XIs := cond (Nat.blt pc 26) (zx zi_378_0) (zx zi_378_1)
theorem xi_ok378 (pc : Nat) : xi_ok cX12_group (xi_378 pc) = true := xi_c (zq1 xi_w378) (zq1 (zq2 xi_w378))
noncomputable def zi_379_0 : ZIs := [(0, ev_13), (1, ev_10), (2, ev_1288), (5, ev_13), (6, ev_1694), (9, ev_135), (10, ev_1653), (11, ev_10), (12, ev_295), (13, ev_202), (14, ev_13), (15, ev_1290), (18, ev_346), (21, ev_484), (22, ev_13), (23, ev_202)]
noncomputable def zi_379_1 : ZIs := [(24, ev_13), (25, ev_1677), (28, ev_202), (29, ev_18), (30, ev_1685), (33, ev_458), (34, ev_1653), (35, ev_300), (38, ev_319), (41, ev_484), (42, ev_482)]
set_option maxRecDepth 100000 in
theorem xi_w379 : zall cX12_gain [zi_379_0, zi_379_1] := zall_w _ _ (by decide +kernel)
noncomputable def xi_379 (pc : Nat) : XIs := cond (Nat.blt pc 24) (zx zi_379_0) (zx zi_379_1)
theorem xi_ok379 (pc : Nat) : xi_ok cX12_gain (xi_379 pc) = true := xi_c (zq1 xi_w379) (zq1 (zq2 xi_w379))
noncomputable def zi_380_0 : ZIs := [(0, ev_13), (1, ev_196), (2, ev_179), (3, ev_135), (4, ev_133), (5, ev_1318), (8, ev_1177), (11, ev_137), (14, ev_135), (15, ev_482), (16, ev_13), (17, ev_1512), (20, ev_135), (21, ev_518), (22, ev_10), (23, ev_11)]
noncomputable def zi_380_1 : ZIs := [(25, ev_12), (27, ev_13), (28, ev_1290), (31, ev_589), (34, ev_12), (36, ev_7), (37, ev_22), (38, ev_25), (40, ev_126), (42, ev_13), (43, ev_1290), (46, ev_450), (49, ev_13), (50, ev_1508), (53, ev_12), (55, ev_18)]
noncomputable def zi_380_2 : ZIs := [(56, ev_13), (57, ev_1508), (60, ev_126), (62, ev_18), (63, ev_20), (64, ev_1517), (67, ev_179), (68, ev_58), (70, ev_490), (71, ev_196), (72, ev_7), (73, ev_1499), (76, ev_461), (78, ev_461), (80, ev_133), (81, ev_486)]
noncomputable def zi_380_3 : ZIs := [(82, ev_493), (83, ev_1647), (86, ev_491), (87, ev_1438), (90, ev_13), (91, ev_1508), (94, ev_12), (96, ev_18), (97, ev_126), (99, ev_1420), (102, ev_330), (105, ev_461), (107, ev_134), (110, ev_135), (111, ev_458), (112, ev_518)]
noncomputable def zi_380_4 : ZIs := [(113, ev_343), (116, ev_821), (119, ev_348), (122, ev_596), (125, ev_196), (126, ev_1117), (129, ev_490), (130, ev_1332), (133, ev_491), (134, ev_987), (137, ev_490), (138, ev_1647), (141, ev_491), (142, ev_482)]
set_option maxRecDepth 100000 in
theorem xi_w380 : zall cX12_figures [zi_380_0, zi_380_1, zi_380_2, zi_380_3, zi_380_4] := zall_w _ _ (by decide +kernel)
noncomputable def xi_380 (pc : Nat) : XIs := cond (Nat.blt pc 56) (cond (Nat.blt pc 25) (zx zi_380_0) (zx zi_380_1)) (cond (Nat.blt pc 82) (zx zi_380_2) (cond (Nat.blt pc 113) (zx zi_380_3) (zx zi_380_4)))
theorem xi_ok380 (pc : Nat) : xi_ok cX12_figures (xi_380 pc) = true := xi_c (xi_c (zq1 xi_w380) (zq1 (zq2 xi_w380))) (xi_c (zq1 (zq2 (zq2 xi_w380))) (xi_c (zq1 (zq2 (zq2 (zq2 xi_w380)))) (zq1 (zq2 (zq2 (zq2 (zq2 xi_w380)))))))
noncomputable def zi_381_0 : ZIs := [(0, ev_13), (1, ev_1695), (4, ev_13), (5, ev_1696), (8, ev_10), (9, ev_1303), (10, ev_13), (11, ev_1697), (14, ev_13), (15, ev_1696), (18, ev_10), (19, ev_1303), (20, ev_13), (21, ev_1138), (24, ev_13), (25, ev_1696)]
noncomputable def zi_381_1 : ZIs := [(28, ev_135), (29, ev_198), (30, ev_13), (31, ev_1139), (34, ev_13), (35, ev_1696), (38, ev_135), (39, ev_198), (40, ev_13), (41, ev_1698), (44, ev_260)]
set_option maxRecDepth 100000 in
theorem xi_w381 : zall cX12_beginAlternative [zi_381_0, zi_381_1] := zall_w _ _ (by decide +kernel)
noncomputable def xi_381 (pc : Nat) : XIs := cond (Nat.blt pc 28) (zx zi_381_0) (zx zi_381_1)
theorem xi_ok381 (pc : Nat) : xi_ok cX12_beginAlternative (xi_381 pc) = true := xi_c (zq1 xi_w381) (zq1 (zq2 xi_w381))
noncomputable def zi_382_0 : ZIs := [(0, ev_13), (1, ev_1699), (4, ev_13), (5, ev_1696), (8, ev_7), (9, ev_1303), (10, ev_13), (11, ev_1700), (14, ev_13), (15, ev_1696), (18, ev_135), (19, ev_198), (20, ev_13), (21, ev_1701), (24, ev_13), (25, ev_1696)]
noncomputable def zi_382_1 : ZIs := [(28, ev_135), (29, ev_198), (30, ev_13), (31, ev_10), (32, ev_1702), (35, ev_13), (36, ev_10), (37, ev_1703), (40, ev_260)]
set_option maxRecDepth 100000 in
theorem xi_w382 : zall cX12_beginSequence [zi_382_0, zi_382_1] := zall_w _ _ (by decide +kernel)
noncomputable def xi_382 (pc : Nat) : XIs := cond (Nat.blt pc 28) (zx zi_382_0) (zx zi_382_1)
theorem xi_ok382 (pc : Nat) : xi_ok cX12_beginSequence (xi_382 pc) = true := xi_c (zq1 xi_w382) (zq1 (zq2 xi_w382))
noncomputable def zi_383_0 : ZIs := [(0, ev_10), (1, ev_25), (3, ev_126), (5, ev_389), (7, ev_297), (10, ev_13), (11, ev_1704), (14, ev_126), (16, ev_316), (17, ev_130), (18, ev_484), (19, ev_126), (21, ev_908), (22, ev_133), (23, ev_183), (24, ev_133)]
noncomputable def zi_383_1 : ZIs := [(25, ev_136), (26, ev_326), (29, ev_485), (30, ev_134), (33, ev_135), (34, ev_184), (35, ev_198), (36, ev_343), (39, ev_1016), (42, ev_260)]
set_option maxRecDepth 100000 in
theorem xi_w383 : zall cX12_follow [zi_383_0, zi_383_1] := zall_w _ _ (by decide +kernel)
noncomputable def xi_383 (pc : Nat) : XIs := cond (Nat.blt pc 25) (zx zi_383_0) (zx zi_383_1)
theorem xi_ok383 (pc : Nat) : xi_ok cX12_follow (xi_383 pc) = true := xi_c (zq1 xi_w383) (zq1 (zq2 xi_w383))
noncomputable def zi_384_0 : ZIs := [(0, ev_13), (1, ev_1705), (4, ev_1706), (7, ev_13), (8, ev_13), (9, ev_1701), (12, ev_13), (13, ev_1696), (16, ev_130), (17, ev_13), (18, ev_1707), (21, ev_1708), (24, ev_13), (25, ev_1700), (28, ev_13), (29, ev_1696)]
noncomputable def zi_384_1 : ZIs := [(32, ev_316), (33, ev_130), (34, ev_13), (35, ev_1699), (38, ev_13), (39, ev_1696), (42, ev_1294), (43, ev_385), (46, ev_13), (47, ev_1707), (50, ev_134), (53, ev_135), (54, ev_184), (55, ev_198), (56, ev_13), (57, ev_1701)]
noncomputable def zi_384_2 : ZIs := [(60, ev_13), (61, ev_1696), (64, ev_13), (65, ev_1709), (68, ev_13), (69, ev_1710), (72, ev_772), (75, ev_13), (76, ev_1701), (79, ev_13), (80, ev_1696), (83, ev_130), (84, ev_134), (87, ev_135), (88, ev_184), (89, ev_198)]
noncomputable def zi_384_3 : ZIs := [(90, ev_13), (91, ev_1699), (94, ev_13), (95, ev_1696), (98, ev_13), (99, ev_1699), (102, ev_13), (103, ev_1696), (106, ev_1294), (107, ev_1005), (110, ev_13), (111, ev_1710), (114, ev_132), (117, ev_7), (118, ev_134), (121, ev_10)]
noncomputable def zi_384_4 : ZIs := [(122, ev_1303), (123, ev_13), (124, ev_10), (125, ev_1702), (128, ev_13), (129, ev_10), (130, ev_1703), (133, ev_260)]
set_option maxRecDepth 100000 in
theorem xi_w384 : zall cX12_flush [zi_384_0, zi_384_1, zi_384_2, zi_384_3, zi_384_4] := zall_w _ _ (by decide +kernel)
noncomputable def xi_384 (pc : Nat) : XIs := cond (Nat.blt pc 60) (cond (Nat.blt pc 32) (zx zi_384_0) (zx zi_384_1)) (cond (Nat.blt pc 90) (zx zi_384_2) (cond (Nat.blt pc 122) (zx zi_384_3) (zx zi_384_4)))
theorem xi_ok384 (pc : Nat) : xi_ok cX12_flush (xi_384 pc) = true := xi_c (xi_c (zq1 xi_w384) (zq1 (zq2 xi_w384))) (xi_c (zq1 (zq2 (zq2 xi_w384))) (xi_c (zq1 (zq2 (zq2 (zq2 xi_w384)))) (zq1 (zq2 (zq2 (zq2 (zq2 xi_w384)))))))
noncomputable def zi_385_0 : ZIs := [(0, ev_13), (1, ev_1711), (4, ev_13), (5, ev_1695), (8, ev_13), (9, ev_1696), (12, ev_7), (13, ev_1303), (14, ev_13), (15, ev_1697), (18, ev_13), (19, ev_1696), (22, ev_13), (23, ev_1697), (26, ev_13), (27, ev_1696)]
noncomputable def zi_385_1 : ZIs := [(30, ev_1294), (31, ev_438), (34, ev_13), (35, ev_1699), (38, ev_13), (39, ev_1696), (42, ev_1294), (43, ev_132), (46, ev_7), (47, ev_134), (50, ev_10), (51, ev_1303), (52, ev_13), (53, ev_1138), (56, ev_13), (57, ev_1696)]
noncomputable def zi_385_2 : ZIs := [(60, ev_316), (61, ev_130), (62, ev_13), (63, ev_1700), (66, ev_13), (67, ev_1696), (70, ev_130), (71, ev_184), (72, ev_198), (73, ev_13), (74, ev_1139), (77, ev_13), (78, ev_1696), (81, ev_316), (82, ev_130), (83, ev_13)]
noncomputable def zi_385_3 : ZIs := [(84, ev_1701), (87, ev_13), (88, ev_1696), (91, ev_130), (92, ev_184), (93, ev_198), (94, ev_260)]
set_option maxRecDepth 100000 in
theorem xi_w385 : zall cX12_endSequence [zi_385_0, zi_385_1, zi_385_2, zi_385_3] := zall_w _ _ (by decide +kernel)
noncomputable def xi_385 (pc : Nat) : XIs := cond (Nat.blt pc 60) (cond (Nat.blt pc 30) (zx zi_385_0) (zx zi_385_1)) (cond (Nat.blt pc 84) (zx zi_385_2) (zx zi_385_3))
theorem xi_ok385 (pc : Nat) : xi_ok cX12_endSequence (xi_385 pc) = true := xi_c (xi_c (zq1 xi_w385) (zq1 (zq2 xi_w385))) (xi_c (zq1 (zq2 (zq2 xi_w385))) (zq1 (zq2 (zq2 (zq2 xi_w385)))))
noncomputable def zi_386_0 : ZIs := [(0, ev_13), (1, ev_10), (2, ev_1288), (5, ev_13), (6, ev_10), (7, ev_1347), (10, ev_13), (11, ev_1192), (14, ev_389), (16, ev_1526), (19, ev_13), (20, ev_30), (21, ev_389), (23, ev_1363), (26, ev_809), (28, ev_128)]
noncomputable def zi_386_1 : ZIs := [(29, ev_10), (30, ev_686), (31, ev_10), (32, ev_294), (33, ev_201), (34, ev_389), (36, ev_1115), (39, ev_13), (40, ev_1704), (43, ev_201), (44, ev_135), (45, ev_198), (46, ev_304), (49, ev_1072), (52, ev_13), (53, ev_10)]
noncomputable def zi_386_2 : ZIs := [(54, ev_1712), (57, ev_13), (58, ev_1713), (61, ev_10), (62, ev_294), (63, ev_201), (64, ev_13), (65, ev_1192), (68, ev_1503), (71, ev_13), (72, ev_1344), (75, ev_1714), (78, ev_13), (79, ev_841), (82, ev_201), (83, ev_18)]
noncomputable def zi_386_3 : ZIs := [(84, ev_295), (85, ev_202), (86, ev_1359), (89, ev_993), (92, ev_202), (93, ev_885), (95, ev_1635), (98, ev_13), (99, ev_1711), (102, ev_13), (103, ev_1715), (106, ev_196), (107, ev_202), (108, ev_885), (110, ev_541), (113, ev_875)]
noncomputable def zi_386_4 : ZIs := [(115, ev_216), (118, ev_202), (119, ev_422), (121, ev_16), (122, ev_299), (123, ev_13), (124, ev_10), (125, ev_133), (126, ev_196), (127, ev_181), (128, ev_133), (129, ev_196), (130, ev_181), (131, ev_1716), (134, ev_689), (137, ev_199)]
noncomputable def zi_386_5 : ZIs := [(140, ev_13), (141, ev_202), (142, ev_201), (143, ev_1717), (146, ev_304), (149, ev_1505), (152, ev_13), (153, ev_1344), (156, ev_411), (159, ev_13), (160, ev_1696), (163, ev_1718), (166, ev_13), (167, ev_30), (168, ev_13), (169, ev_1192)]
noncomputable def zi_386_6 : ZIs := [(172, ev_1363), (175, ev_13), (176, ev_1344), (179, ev_1374), (182, ev_809), (184, ev_128), (185, ev_13), (186, ev_1719), (189, ev_13), (190, ev_196), (191, ev_1720), (194, ev_13), (195, ev_13), (196, ev_1697), (199, ev_10), (200, ev_1294)]
noncomputable def zi_386_7 : ZIs := [(201, ev_1262), (204, ev_13), (205, ev_13), (206, ev_1138), (209, ev_10), (210, ev_130), (211, ev_1721), (214, ev_13), (215, ev_13), (216, ev_1139), (219, ev_10), (220, ev_130), (221, ev_1722), (224, ev_10), (225, ev_294), (226, ev_201)]
noncomputable def zi_386_8 : ZIs := [(227, ev_389), (229, ev_340), (232, ev_13), (233, ev_1723), (236, ev_201), (237, ev_13), (238, ev_1715), (241, ev_201), (242, ev_18), (243, ev_299), (244, ev_13), (245, ev_1724), (248, ev_201), (249, ev_13), (250, ev_1704), (253, ev_201)]
noncomputable def zi_386_9 : ZIs := [(254, ev_130), (255, ev_198), (256, ev_304), (259, ev_862), (262, ev_10), (263, ev_128)]
set_option maxRecDepth 100000 in
theorem xi_w386 : zall cX12_pattern [zi_386_0, zi_386_1, zi_386_2, zi_386_3, zi_386_4, zi_386_5, zi_386_6, zi_386_7, zi_386_8, zi_386_9] := zall_w _ _ (by decide +kernel)
noncomputable def xi_386 (pc : Nat) : XIs := cond (Nat.blt pc 140) (cond (Nat.blt pc 54) (cond (Nat.blt pc 29) (zx zi_386_0) (zx zi_386_1)) (cond (Nat.blt pc 84) (zx zi_386_2) (cond (Nat.blt pc 115) (zx zi_386_3) (zx zi_386_4)))) (cond (Nat.blt pc 201) (cond (Nat.blt pc 172) (zx zi_386_5) (zx zi_386_6)) (cond (Nat.blt pc 227) (zx zi_386_7) (cond (Nat.blt pc 254) (zx zi_386_8) (zx zi_386_9))))
theorem xi_ok386 (pc : Nat) : xi_ok cX12_pattern (xi_386 pc) = true := xi_c (xi_c (xi_c (zq1 xi_w386) (zq1 (zq2 xi_w386))) (xi_c (zq1 (zq2 (zq2 xi_w386))) (xi_c (zq1 (zq2 (zq2 (zq2 xi_w386)))) (zq1 (zq2 (zq2 (zq2 (zq2 xi_w386)))))))) (xi_c (xi_c (zq1 (zq2 (zq2 (zq2 (zq2 (zq2 xi_w386)))))) (zq1 (zq2 (zq2 (zq2 (zq2 (zq2 (zq2 xi_w386)))))))) (xi_c (zq1 (zq2 (zq2 (zq2 (zq2 (zq2 (zq2 (zq2 xi_w386)))))))) (xi_c (zq1 (zq2 (zq2 (zq2 (zq2 (zq2 (zq2 (zq2 (zq2 xi_w386))))))))) (zq1 (zq2 (zq2 (zq2 (zq2 (zq2 (zq2 (zq2 (zq2 (zq2 xi_w386)))))))))))))
noncomputable def zi_387_0 : ZIs := [(0, ev_13), (1, ev_7), (2, ev_1702), (5, ev_13), (6, ev_7), (7, ev_1703), (10, ev_13), (11, ev_196), (12, ev_1725), (15, ev_13), (16, ev_490), (17, ev_1726), (20, ev_13), (21, ev_247), (23, ev_1727), (26, ev_260)]
set_option maxRecDepth 100000 in
theorem xi_w387 : zall cX12_setAtom [zi_387_0] := zall_w _ _ (by decide +kernel)
noncomputable def xi_387 (pc : Nat) : XIs := zx zi_387_0
theorem xi_ok387 (pc : Nat) : xi_ok cX12_setAtom (xi_387 pc) = true := zq1 xi_w387
noncomputable def zi_388_0 : ZIs := [(0, ev_196)]
noncomputable def xi_388_1 : XIs := [(1, .lookupswitch 241 #[(40, 70), (41, 107), (42, 179), (43, 179), (63, 179), (124, 59)], 59)]
set_option maxRecDepth 100000 in
theorem xi_ok388_1 : xi_ok cX12_sign xi_388_1 = true := by decide +kernel
noncomputable def zi_388_2 : ZIs := [(60, ev_13), (61, ev_1719), (64, ev_13), (65, ev_1698), (68, ev_1728), (71, ev_13), (72, ev_1696), (75, ev_413), (77, ev_811), (80, ev_13), (81, ev_31), (82, ev_201), (83, ev_1363), (86, ev_260), (87, ev_13), (88, ev_1711)]
noncomputable def zi_388_3 : ZIs := [(91, ev_13), (92, ev_1), (93, ev_1696), (96, ev_7), (97, ev_22), (98, ev_1712), (101, ev_13), (102, ev_1713), (105, ev_1729), (108, ev_13), (109, ev_1696), (112, ev_381), (115, ev_13), (116, ev_30), (117, ev_201), (118, ev_1363)]
noncomputable def zi_388_4 : ZIs := [(121, ev_260), (122, ev_13), (123, ev_1719), (126, ev_13), (127, ev_1697), (130, ev_13), (131, ev_1696), (134, ev_1294), (135, ev_295), (136, ev_13), (137, ev_1138), (140, ev_13), (141, ev_1696), (144, ev_130), (145, ev_443), (147, ev_13)]
noncomputable def zi_388_5 : ZIs := [(148, ev_1139), (151, ev_13), (152, ev_1696), (155, ev_130), (156, ev_58), (158, ev_13), (159, ev_1), (160, ev_1696), (163, ev_7), (164, ev_16), (165, ev_1712), (168, ev_13), (169, ev_202), (170, ev_247), (172, ev_461), (174, ev_1716)]
noncomputable def zi_388_6 : ZIs := [(177, ev_1730), (180, ev_13), (181, ev_1731), (184, ev_381), (187, ev_13), (188, ev_30), (189, ev_201), (190, ev_1363), (193, ev_260), (194, ev_196), (195, ev_19), (197, ev_743), (200, ev_13), (201, ev_13), (202, ev_1709), (205, ev_13)]
noncomputable def zi_388_7 : ZIs := [(206, ev_1707), (209, ev_1708), (212, ev_13), (213, ev_13), (214, ev_1710), (217, ev_993), (220, ev_196), (221, ev_398), (223, ev_682), (226, ev_7), (227, ev_134), (230, ev_10), (231, ev_1725), (234, ev_13), (235, ev_10), (236, ev_1703)]
noncomputable def zi_388_8 : ZIs := [(239, ev_199), (242, ev_13), (243, ev_7), (244, ev_201), (245, ev_1363), (248, ev_260)]
set_option maxRecDepth 100000 in
theorem xi_w388 : zall cX12_sign [zi_388_0, zi_388_2, zi_388_3, zi_388_4, zi_388_5, zi_388_6, zi_388_7, zi_388_8] := zall_w _ _ (by decide +kernel)
noncomputable def xi_388 (pc : Nat) : XIs := cond (Nat.blt pc 121) (cond (Nat.blt pc 60) (cond (Nat.blt pc 1) (zx zi_388_0) (xi_388_1)) (cond (Nat.blt pc 91) (zx zi_388_2) (zx zi_388_3))) (cond (Nat.blt pc 177) (cond (Nat.blt pc 148) (zx zi_388_4) (zx zi_388_5)) (cond (Nat.blt pc 206) (zx zi_388_6) (cond (Nat.blt pc 239) (zx zi_388_7) (zx zi_388_8))))
theorem xi_ok388 (pc : Nat) : xi_ok cX12_sign (xi_388 pc) = true := xi_c (xi_c (xi_c (zq1 xi_w388) (xi_ok388_1)) (xi_c (zq1 (zq2 xi_w388)) (zq1 (zq2 (zq2 xi_w388))))) (xi_c (xi_c (zq1 (zq2 (zq2 (zq2 xi_w388)))) (zq1 (zq2 (zq2 (zq2 (zq2 xi_w388)))))) (xi_c (zq1 (zq2 (zq2 (zq2 (zq2 (zq2 xi_w388)))))) (xi_c (zq1 (zq2 (zq2 (zq2 (zq2 (zq2 (zq2 xi_w388))))))) (zq1 (zq2 (zq2 (zq2 (zq2 (zq2 (zq2 (zq2 xi_w388)))))))))))
noncomputable def zi_389_0 : ZIs := [(0, ev_13), (1, ev_13), (2, ev_196), (3, ev_1337), (6, ev_772), (9, ev_13), (10, ev_201), (11, ev_1337), (14, ev_132), (17, ev_7), (18, ev_134), (21, ev_10), (22, ev_1177), (25, ev_137), (28, ev_10), (29, ev_128)]
noncomputable def zi_389_1 : ZIs := [(30, ev_10), (31, ev_295), (32, ev_202), (33, ev_1046), (36, ev_1115), (39, ev_13), (40, ev_1732), (43, ev_202), (44, ev_252), (45, ev_299), (46, ev_300), (49, ev_1511), (52, ev_10), (53, ev_295), (54, ev_7), (55, ev_11)]
noncomputable def zi_389_2 : ZIs := [(57, ev_13), (58, ev_962), (61, ev_10), (62, ev_391), (64, ev_196), (65, ev_355), (66, ev_299), (67, ev_13), (68, ev_1732), (71, ev_391), (73, ev_196), (74, ev_355), (75, ev_10), (76, ev_299), (77, ev_202), (78, ev_12)]
noncomputable def zi_389_3 : ZIs := [(80, ev_1733), (83, ev_13), (84, ev_962), (87, ev_202), (88, ev_18), (89, ev_25), (91, ev_300), (94, ev_126), (96, ev_391), (98, ev_583), (99, ev_28), (101, ev_126), (103, ev_391), (105, ev_509), (106, ev_7), (107, ev_16)]
noncomputable def zi_389_4 : ZIs := [(108, ev_275), (110, ev_276), (112, ev_1330), (115, ev_13), (116, ev_1734), (119, ev_714), (122, ev_13), (123, ev_1735), (126, ev_276), (128, ev_908), (129, ev_133), (130, ev_183), (131, ev_133), (132, ev_136), (133, ev_326), (136, ev_7)]
noncomputable def zi_389_5 : ZIs := [(137, ev_134), (140, ev_10), (141, ev_313), (143, ev_131), (145, ev_201), (146, ev_539), (149, ev_314), (151, ev_932), (154, ev_13), (155, ev_1732), (158, ev_126), (160, ev_18), (161, ev_128), (162, ev_276), (164, ev_1330), (167, ev_13)]
noncomputable def zi_389_6 : ZIs := [(168, ev_1736), (171, ev_634), (174, ev_13), (175, ev_1724), (178, ev_276), (180, ev_130), (181, ev_999), (183, ev_13), (184, ev_1293), (187, ev_452), (189, ev_454), (191, ev_13), (192, ev_1293), (195, ev_530), (198, ev_22), (199, ev_855)]
noncomputable def zi_389_7 : ZIs := [(202, ev_13), (203, ev_1292), (206, ev_454), (208, ev_1294), (209, ev_1398), (212, ev_13), (213, ev_1304), (216, ev_454), (218, ev_18), (219, ev_131), (221, ev_537), (224, ev_13), (225, ev_454), (227, ev_1000), (229, ev_13), (230, ev_1732)]
noncomputable def zi_389_8 : ZIs := [(233, ev_126), (235, ev_18), (236, ev_7), (237, ev_22), (238, ev_12), (240, ev_1737), (243, ev_11), (245, ev_1002), (248, ev_1738), (251, ev_1739), (254, ev_252), (255, ev_128)]
set_option maxRecDepth 100000 in
theorem xi_w389 : zall cX12_fits [zi_389_0, zi_389_1, zi_389_2, zi_389_3, zi_389_4, zi_389_5, zi_389_6, zi_389_7, zi_389_8] := zall_w _ _ (by decide +kernel)
noncomputable def xi_389 (pc : Nat) : XIs := cond (Nat.blt pc 108) (cond (Nat.blt pc 57) (cond (Nat.blt pc 30) (zx zi_389_0) (zx zi_389_1)) (cond (Nat.blt pc 80) (zx zi_389_2) (zx zi_389_3))) (cond (Nat.blt pc 168) (cond (Nat.blt pc 137) (zx zi_389_4) (zx zi_389_5)) (cond (Nat.blt pc 202) (zx zi_389_6) (cond (Nat.blt pc 233) (zx zi_389_7) (zx zi_389_8))))
theorem xi_ok389 (pc : Nat) : xi_ok cX12_fits (xi_389 pc) = true := xi_c (xi_c (xi_c (zq1 xi_w389) (zq1 (zq2 xi_w389))) (xi_c (zq1 (zq2 (zq2 xi_w389))) (zq1 (zq2 (zq2 (zq2 xi_w389)))))) (xi_c (xi_c (zq1 (zq2 (zq2 (zq2 (zq2 xi_w389))))) (zq1 (zq2 (zq2 (zq2 (zq2 (zq2 xi_w389))))))) (xi_c (zq1 (zq2 (zq2 (zq2 (zq2 (zq2 (zq2 xi_w389))))))) (xi_c (zq1 (zq2 (zq2 (zq2 (zq2 (zq2 (zq2 (zq2 xi_w389)))))))) (zq1 (zq2 (zq2 (zq2 (zq2 (zq2 (zq2 (zq2 (zq2 xi_w389))))))))))))
noncomputable def zi_390_0 : ZIs := [(0, ev_126), (2, ev_28), (4, ev_10), (5, ev_275), (7, ev_276), (9, ev_13), (10, ev_1740), (13, ev_1741), (16, ev_490), (17, ev_276), (19, ev_908), (20, ev_133), (21, ev_183), (22, ev_133), (23, ev_136), (24, ev_1012)]
noncomputable def zi_390_1 : ZIs := [(27, ev_13), (28, ev_1723), (31, ev_276), (33, ev_18), (34, ev_875), (36, ev_699), (39, ev_13), (40, ev_1723), (43, ev_276), (45, ev_18), (46, ev_13), (47, ev_434), (50, ev_196), (51, ev_18), (52, ev_819), (55, ev_7)]
noncomputable def zi_390_2 : ZIs := [(56, ev_134), (59, ev_10), (60, ev_313), (62, ev_391), (64, ev_13), (65, ev_1039), (68, ev_196), (69, ev_18), (70, ev_355), (71, ev_276), (73, ev_22), (74, ev_7), (75, ev_22), (76, ev_327), (78, ev_314), (80, ev_406)]
noncomputable def zi_390_3 : ZIs := [(83, ev_13), (84, ev_1732), (87, ev_329), (89, ev_18), (90, ev_1742), (93, ev_13), (94, ev_1732), (97, ev_329), (99, ev_12), (101, ev_299), (102, ev_13), (103, ev_962), (106, ev_131), (108, ev_329), (110, ev_299), (111, ev_320)]
noncomputable def zi_390_4 : ZIs := [(114, ev_956), (117, ev_1485), (120, ev_131), (122, ev_128)]
set_option maxRecDepth 100000 in
theorem xi_w390 : zall cX12_goOn [zi_390_0, zi_390_1, zi_390_2, zi_390_3, zi_390_4] := zall_w _ _ (by decide +kernel)
noncomputable def xi_390 (pc : Nat) : XIs := cond (Nat.blt pc 56) (cond (Nat.blt pc 27) (zx zi_390_0) (zx zi_390_1)) (cond (Nat.blt pc 83) (zx zi_390_2) (cond (Nat.blt pc 114) (zx zi_390_3) (zx zi_390_4)))
theorem xi_ok390 (pc : Nat) : xi_ok cX12_goOn (xi_390 pc) = true := xi_c (xi_c (zq1 xi_w390) (zq1 (zq2 xi_w390))) (xi_c (zq1 (zq2 (zq2 xi_w390))) (xi_c (zq1 (zq2 (zq2 (zq2 xi_w390)))) (zq1 (zq2 (zq2 (zq2 (zq2 xi_w390)))))))
noncomputable def zi_391_0 : ZIs := [(0, ev_13), (1, ev_1743), (4, ev_7), (5, ev_7), (6, ev_299), (7, ev_13), (8, ev_1743), (11, ev_30), (12, ev_30), (13, ev_299), (14, ev_260)]
set_option maxRecDepth 100000 in
theorem xi_w391 : zall cX12_program0 [zi_391_0] := zall_w _ _ (by decide +kernel)
noncomputable def xi_391 (pc : Nat) : XIs := zx zi_391_0
theorem xi_ok391 (pc : Nat) : xi_ok cX12_program0 (xi_391 pc) = true := zq1 xi_w391
noncomputable def zi_392_0 : ZIs := [(0, ev_13), (1, ev_1349), (4, ev_13), (5, ev_1192), (8, ev_930), (11, ev_13), (12, ev_841), (15, ev_13), (16, ev_1349), (19, ev_18), (20, ev_180), (22, ev_539), (25, ev_13), (26, ev_1), (27, ev_1349), (30, ev_7)]
noncomputable def zi_392_1 : ZIs := [(31, ev_22), (32, ev_1350), (35, ev_293), (38, ev_13), (39, ev_13), (40, ev_1349), (43, ev_1351), (46, ev_13), (47, ev_1349), (50, ev_13), (51, ev_1192), (54, ev_410), (57, ev_13), (58, ev_10), (59, ev_1352), (62, ev_260)]
noncomputable def zi_392_2 : ZIs := [(63, ev_13), (64, ev_841), (67, ev_13), (68, ev_1349), (71, ev_18), (72, ev_686), (73, ev_13), (74, ev_196), (75, ev_1353), (78, ev_196), (79, ev_1198), (82, ev_772), (85, ev_13), (86, ev_30), (87, ev_1352), (90, ev_13)]
noncomputable def zi_392_3 : ZIs := [(91, ev_15), (93, ev_1356), (96, ev_260), (97, ev_13), (98, ev_196), (99, ev_1359), (102, ev_132), (105, ev_7), (106, ev_134), (109, ev_31), (110, ev_1352), (113, ev_13), (114, ev_1), (115, ev_1349), (118, ev_7), (119, ev_22)]
noncomputable def zi_392_4 : ZIs := [(120, ev_1350), (123, ev_196), (124, ev_379), (126, ev_1412), (129, ev_196), (130, ev_389), (132, ev_1413), (135, ev_196), (136, ev_391), (138, ev_594), (141, ev_196), (142, ev_398), (144, ev_704), (147, ev_196), (148, ev_400), (150, ev_1744)]
noncomputable def zi_392_5 : ZIs := [(153, ev_196), (154, ev_405), (156, ev_743), (159, ev_196), (160, ev_412), (162, ev_904), (165, ev_196), (166, ev_419), (168, ev_819), (171, ev_7), (172, ev_134), (175, ev_10), (176, ev_294), (177, ev_13), (178, ev_1360), (181, ev_31)]
noncomputable def zi_392_6 : ZIs := [(182, ev_539), (185, ev_201), (186, ev_399), (189, ev_13), (190, ev_7), (191, ev_13), (192, ev_1362), (195, ev_1363), (198, ev_260)]
set_option maxRecDepth 100000 in
theorem xi_w392 : zall cX12_nextOfProgram [zi_392_0, zi_392_1, zi_392_2, zi_392_3, zi_392_4, zi_392_5, zi_392_6] := zall_w _ _ (by decide +kernel)
noncomputable def xi_392 (pc : Nat) : XIs := cond (Nat.blt pc 91) (cond (Nat.blt pc 31) (zx zi_392_0) (cond (Nat.blt pc 63) (zx zi_392_1) (zx zi_392_2))) (cond (Nat.blt pc 153) (cond (Nat.blt pc 120) (zx zi_392_3) (zx zi_392_4)) (cond (Nat.blt pc 182) (zx zi_392_5) (zx zi_392_6)))
theorem xi_ok392 (pc : Nat) : xi_ok cX12_nextOfProgram (xi_392 pc) = true := xi_c (xi_c (zq1 xi_w392) (xi_c (zq1 (zq2 xi_w392)) (zq1 (zq2 (zq2 xi_w392))))) (xi_c (xi_c (zq1 (zq2 (zq2 (zq2 xi_w392)))) (zq1 (zq2 (zq2 (zq2 (zq2 xi_w392)))))) (xi_c (zq1 (zq2 (zq2 (zq2 (zq2 (zq2 xi_w392)))))) (zq1 (zq2 (zq2 (zq2 (zq2 (zq2 (zq2 xi_w392)))))))))
noncomputable def zi_393_0 : ZIs := [(0, ev_13), (1, ev_1745), (4, ev_13), (5, ev_1746), (8, ev_196), (9, ev_299), (10, ev_13), (11, ev_1747), (14, ev_13), (15, ev_1746), (18, ev_201), (19, ev_299), (20, ev_13), (21, ev_1), (22, ev_1746), (25, ev_7)]
noncomputable def zi_393_1 : ZIs := [(26, ev_22), (27, ev_1748), (30, ev_260)]
set_option maxRecDepth 100000 in
theorem xi_w393 : zall cX12_add [zi_393_0, zi_393_1] := zall_w _ _ (by decide +kernel)
noncomputable def xi_393 (pc : Nat) : XIs := cond (Nat.blt pc 26) (zx zi_393_0) (zx zi_393_1)
theorem xi_ok393 (pc : Nat) : xi_ok cX12_add (xi_393 pc) = true := xi_c (zq1 xi_w393) (zq1 (zq2 xi_w393))
noncomputable def zi_394_0 : ZIs := [(0, ev_483)]
noncomputable def xi_394_1 : XIs := [(1, .tableswitch 120 100 120 #[105, 120, 120, 117, 120, 107, 120, 120, 103, 114, 101, 120, 120, 120, 109, 111, 120, 120, 120, 120, 99], 99)]
set_option maxRecDepth 100000 in
theorem xi_ok394_1 : xi_ok cX12_nameOf xi_394_1 = true := by decide +kernel
noncomputable def zi_394_2 : ZIs := [(100, ev_10), (101, ev_128), (102, ev_7), (103, ev_128), (104, ev_30), (105, ev_128), (106, ev_31), (107, ev_128), (108, ev_32), (109, ev_128), (110, ev_33), (111, ev_128), (112, ev_15), (114, ev_128), (115, ev_469), (117, ev_128)]
noncomputable def zi_394_3 : ZIs := [(118, ev_470), (120, ev_128), (121, ev_252), (122, ev_128)]
set_option maxRecDepth 100000 in
theorem xi_w394 : zall cX12_nameOf [zi_394_0, zi_394_2, zi_394_3] := zall_w _ _ (by decide +kernel)
noncomputable def xi_394 (pc : Nat) : XIs := cond (Nat.blt pc 100) (cond (Nat.blt pc 1) (zx zi_394_0) (xi_394_1)) (cond (Nat.blt pc 118) (zx zi_394_2) (zx zi_394_3))
theorem xi_ok394 (pc : Nat) : xi_ok cX12_nameOf (xi_394 pc) = true := xi_c (xi_c (zq1 xi_w394) (xi_ok394_1)) (xi_c (zq1 (zq2 xi_w394)) (zq1 (zq2 (zq2 xi_w394))))
noncomputable def zi_395_0 : ZIs := [(0, ev_13), (1, ev_1749), (4, ev_326), (7, ev_10), (8, ev_1178), (11, ev_13), (12, ev_1750), (15, ev_13), (16, ev_1749), (19, ev_7), (20, ev_16), (21, ev_18), (22, ev_128)]
set_option maxRecDepth 100000 in
theorem xi_w395 : zall cX12_top [zi_395_0] := zall_w _ _ (by decide +kernel)
noncomputable def xi_395 (pc : Nat) : XIs := zx zi_395_0
theorem xi_ok395 (pc : Nat) : xi_ok cX12_top (xi_395 pc) = true := zq1 xi_w395
noncomputable def zi_396_0 : ZIs := [(0, ev_13), (1, ev_1750), (4, ev_13), (5, ev_1749), (8, ev_196), (9, ev_299), (10, ev_13), (11, ev_1), (12, ev_1749), (15, ev_7), (16, ev_22), (17, ev_1751), (20, ev_13), (21, ev_1), (22, ev_1752), (25, ev_196)]
noncomputable def zi_396_1 : ZIs := [(26, ev_30), (27, ev_904), (30, ev_196), (31, ev_412), (33, ev_819), (36, ev_7), (37, ev_134), (40, ev_10), (41, ev_22), (42, ev_1753), (45, ev_260)]
set_option maxRecDepth 100000 in
theorem xi_w396 : zall cX12_hold [zi_396_0, zi_396_1] := zall_w _ _ (by decide +kernel)
noncomputable def xi_396 (pc : Nat) : XIs := cond (Nat.blt pc 26) (zx zi_396_0) (zx zi_396_1)
theorem xi_ok396 (pc : Nat) : xi_ok cX12_hold (xi_396 pc) = true := xi_c (zq1 xi_w396) (zq1 (zq2 xi_w396))
noncomputable def zi_397_0 : ZIs := [(0, ev_13), (1, ev_1), (2, ev_1749), (5, ev_7), (6, ev_16), (7, ev_1751), (10, ev_13), (11, ev_1), (12, ev_1752), (15, ev_13), (16, ev_1750), (19, ev_13), (20, ev_1749), (23, ev_18), (24, ev_30), (25, ev_901)]
noncomputable def zi_397_1 : ZIs := [(28, ev_13), (29, ev_1750), (32, ev_13), (33, ev_1749), (36, ev_18), (37, ev_412), (39, ev_819), (42, ev_7), (43, ev_134), (46, ev_10), (47, ev_16), (48, ev_1753), (51, ev_260)]
set_option maxRecDepth 100000 in
theorem xi_w397 : zall cX12_drop [zi_397_0, zi_397_1] := zall_w _ _ (by decide +kernel)
noncomputable def xi_397 (pc : Nat) : XIs := cond (Nat.blt pc 28) (zx zi_397_0) (zx zi_397_1)
theorem xi_ok397 (pc : Nat) : xi_ok cX12_drop (xi_397 pc) = true := xi_c (zq1 xi_w397) (zq1 (zq2 xi_w397))
noncomputable def zi_398_0 : ZIs := [(0, ev_483), (1, ev_405), (3, ev_819), (6, ev_31), (7, ev_478), (10, ev_483), (11, ev_398), (13, ev_904), (16, ev_483), (17, ev_400), (19, ev_819), (22, ev_30), (23, ev_1466), (26, ev_483), (27, ev_389), (29, ev_904)]
noncomputable def zi_398_1 : ZIs := [(32, ev_483), (33, ev_391), (35, ev_819), (38, ev_7), (39, ev_134), (42, ev_10), (43, ev_128)]
set_option maxRecDepth 100000 in
theorem xi_w398 : zall cX12_strength [zi_398_0, zi_398_1] := zall_w _ _ (by decide +kernel)
noncomputable def xi_398 (pc : Nat) : XIs := cond (Nat.blt pc 32) (zx zi_398_0) (zx zi_398_1)
theorem xi_ok398 (pc : Nat) : xi_ok cX12_strength (xi_398 pc) = true := xi_c (zq1 xi_w398) (zq1 (zq2 xi_w398))
noncomputable def zi_399_0 : ZIs := [(0, ev_13), (1, ev_1749), (4, ev_1754), (7, ev_13), (8, ev_1755), (11, ev_1756), (14, ev_196), (15, ev_1757), (18, ev_13), (19, ev_13), (20, ev_1755), (23, ev_10), (24, ev_1758), (27, ev_13), (28, ev_1759), (31, ev_611)]
noncomputable def zi_399_1 : ZIs := [(34, ev_260)]
set_option maxRecDepth 100000 in
theorem xi_w399 : zall cX12_settle [zi_399_0, zi_399_1] := zall_w _ _ (by decide +kernel)
noncomputable def xi_399 (pc : Nat) : XIs := cond (Nat.blt pc 34) (zx zi_399_0) (zx zi_399_1)
theorem xi_ok399 (pc : Nat) : xi_ok cX12_settle (xi_399 pc) = true := xi_c (zq1 xi_w399) (zq1 (zq2 xi_w399))
noncomputable def zi_400_0 : ZIs := [(0, ev_13), (1, ev_1755), (4, ev_30), (5, ev_539), (8, ev_13), (9, ev_30), (10, ev_10), (11, ev_1758), (14, ev_13), (15, ev_1759), (18, ev_1478), (21, ev_260)]
set_option maxRecDepth 100000 in
theorem xi_w400 : zall cX12_turn [zi_400_0] := zall_w _ _ (by decide +kernel)
noncomputable def xi_400 (pc : Nat) : XIs := zx zi_400_0
theorem xi_ok400 (pc : Nat) : xi_ok cX12_turn (xi_400 pc) = true := zq1 xi_w400
noncomputable def zi_401_0 : ZIs := [(0, ev_13), (1, ev_1360), (4, ev_30), (5, ev_757), (8, ev_13), (9, ev_10), (10, ev_13), (11, ev_1357), (14, ev_992), (15, ev_1758), (18, ev_13), (19, ev_1760), (22, ev_7), (23, ev_128), (24, ev_13), (25, ev_1360)]
noncomputable def zi_401_1 : ZIs := [(28, ev_7), (29, ev_420), (32, ev_13), (33, ev_1382), (36, ev_1761), (39, ev_686), (40, ev_196), (41, ev_1570), (44, ev_13), (45, ev_33), (46, ev_13), (47, ev_1362), (50, ev_1363), (53, ev_13), (54, ev_7), (55, ev_196)]
noncomputable def zi_401_2 : ZIs := [(56, ev_1758), (59, ev_13), (60, ev_1760), (63, ev_7), (64, ev_128), (65, ev_13), (66, ev_1360), (69, ev_31), (70, ev_1391), (73, ev_13), (74, ev_1382), (77, ev_400), (79, ev_1483), (82, ev_13), (83, ev_1382), (86, ev_412)]
noncomputable def zi_401_3 : ZIs := [(88, ev_743), (91, ev_13), (92, ev_30), (93, ev_13), (94, ev_1362), (97, ev_1363), (100, ev_1762), (103, ev_13), (104, ev_1752), (107, ev_413), (109, ev_1763), (112, ev_13), (113, ev_31), (114, ev_13), (115, ev_1362), (118, ev_1363)]
noncomputable def zi_401_4 : ZIs := [(121, ev_714), (124, ev_13), (125, ev_13), (126, ev_1382), (129, ev_400), (131, ev_819), (134, ev_30), (135, ev_639), (138, ev_412), (140, ev_1764), (143, ev_10), (144, ev_128)]
set_option maxRecDepth 100000 in
theorem xi_w401 : zall cX12_factor [zi_401_0, zi_401_1, zi_401_2, zi_401_3, zi_401_4] := zall_w _ _ (by decide +kernel)
noncomputable def xi_401 (pc : Nat) : XIs := cond (Nat.blt pc 56) (cond (Nat.blt pc 28) (zx zi_401_0) (zx zi_401_1)) (cond (Nat.blt pc 88) (zx zi_401_2) (cond (Nat.blt pc 121) (zx zi_401_3) (zx zi_401_4)))
theorem xi_ok401 (pc : Nat) : xi_ok cX12_factor (xi_401 pc) = true := xi_c (xi_c (zq1 xi_w401) (zq1 (zq2 xi_w401))) (xi_c (zq1 (zq2 (zq2 xi_w401))) (xi_c (zq1 (zq2 (zq2 (zq2 xi_w401)))) (zq1 (zq2 (zq2 (zq2 (zq2 xi_w401)))))))
noncomputable def zi_402_0 : ZIs := [(0, ev_13), (1, ev_1360), (4, ev_681), (7, ev_13), (8, ev_1360), (11, ev_31), (12, ev_1765), (15, ev_13), (16, ev_1382), (19, ev_379), (21, ev_1766), (24, ev_13), (25, ev_7), (26, ev_1767), (29, ev_13), (30, ev_1749)]
noncomputable def zi_402_1 : ZIs := [(33, ev_1768), (36, ev_196), (37, ev_13), (38, ev_1360), (41, ev_31), (42, ev_819), (45, ev_7), (46, ev_134), (49, ev_10), (50, ev_1361), (53, ev_13), (54, ev_30), (55, ev_13), (56, ev_1362), (59, ev_1363), (62, ev_30)]
noncomputable def zi_402_2 : ZIs := [(63, ev_128), (64, ev_13), (65, ev_1360), (68, ev_31), (69, ev_928), (72, ev_13), (73, ev_1382), (76, ev_1756), (79, ev_134), (82, ev_10), (83, ev_294), (84, ev_201), (85, ev_7), (86, ev_1769), (89, ev_13), (90, ev_201)]
noncomputable def zi_402_3 : ZIs := [(91, ev_1767), (94, ev_13), (95, ev_13), (96, ev_1382), (99, ev_1764), (102, ev_10), (103, ev_128), (104, ev_201), (105, ev_7), (106, ev_1770), (109, ev_13), (110, ev_30), (111, ev_1767), (114, ev_13), (115, ev_1755), (118, ev_1756)]
noncomputable def zi_402_4 : ZIs := [(121, ev_7), (122, ev_691), (125, ev_13), (126, ev_30), (127, ev_13), (128, ev_1362), (131, ev_1363), (134, ev_13), (135, ev_13), (136, ev_1382), (139, ev_1764), (142, ev_10), (143, ev_128), (144, ev_13), (145, ev_1360), (148, ev_31)]
noncomputable def zi_402_5 : ZIs := [(149, ev_1771), (152, ev_13), (153, ev_1382), (156, ev_419), (158, ev_1770), (161, ev_13), (162, ev_7), (163, ev_1767), (166, ev_13), (167, ev_1755), (170, ev_412), (172, ev_1033), (175, ev_13), (176, ev_30), (177, ev_13), (178, ev_1362)]
noncomputable def zi_402_6 : ZIs := [(181, ev_1363), (184, ev_7), (185, ev_128), (186, ev_13), (187, ev_1759), (190, ev_13), (191, ev_1760), (194, ev_7), (195, ev_128), (196, ev_13), (197, ev_30), (198, ev_13), (199, ev_1362), (202, ev_1363), (205, ev_7), (206, ev_128)]
set_option maxRecDepth 100000 in
theorem xi_w402 : zall cX12_behindFactor [zi_402_0, zi_402_1, zi_402_2, zi_402_3, zi_402_4, zi_402_5, zi_402_6] := zall_w _ _ (by decide +kernel)
noncomputable def xi_402 (pc : Nat) : XIs := cond (Nat.blt pc 91) (cond (Nat.blt pc 33) (zx zi_402_0) (cond (Nat.blt pc 63) (zx zi_402_1) (zx zi_402_2))) (cond (Nat.blt pc 149) (cond (Nat.blt pc 121) (zx zi_402_3) (zx zi_402_4)) (cond (Nat.blt pc 181) (zx zi_402_5) (zx zi_402_6)))
theorem xi_ok402 (pc : Nat) : xi_ok cX12_behindFactor (xi_402 pc) = true := xi_c (xi_c (zq1 xi_w402) (xi_c (zq1 (zq2 xi_w402)) (zq1 (zq2 (zq2 xi_w402))))) (xi_c (xi_c (zq1 (zq2 (zq2 (zq2 xi_w402)))) (zq1 (zq2 (zq2 (zq2 (zq2 xi_w402)))))) (xi_c (zq1 (zq2 (zq2 (zq2 (zq2 (zq2 xi_w402)))))) (zq1 (zq2 (zq2 (zq2 (zq2 (zq2 (zq2 xi_w402)))))))))
noncomputable def zi_403_0 : ZIs := [(0, ev_13), (1, ev_10), (2, ev_1751), (5, ev_13), (6, ev_10), (7, ev_1753), (10, ev_7), (11, ev_294), (12, ev_7), (13, ev_295), (14, ev_202), (15, ev_337), (18, ev_13), (19, ev_1344), (22, ev_1772), (25, ev_13)]
noncomputable def zi_403_1 : ZIs := [(26, ev_1773), (29, ev_13), (30, ev_1344), (33, ev_1774), (36, ev_201), (37, ev_489), (40, ev_13), (41, ev_1775), (44, ev_326), (47, ev_7), (48, ev_134), (51, ev_10), (52, ev_294), (53, ev_720), (56, ev_13), (57, ev_1344)]
noncomputable def zi_403_2 : ZIs := [(60, ev_1776), (63, ev_13), (64, ev_196), (65, ev_1777), (68, ev_11), (70, ev_12), (72, ev_326), (75, ev_7), (76, ev_134), (79, ev_10), (80, ev_294), (81, ev_12), (83, ev_30), (84, ev_657), (87, ev_7), (88, ev_134)]
noncomputable def zi_403_3 : ZIs := [(91, ev_10), (92, ev_295), (93, ev_564), (96, ev_260)]
set_option maxRecDepth 100000 in
theorem xi_w403 : zall cX12_expression [zi_403_0, zi_403_1, zi_403_2, zi_403_3] := zall_w _ _ (by decide +kernel)
noncomputable def xi_403 (pc : Nat) : XIs := cond (Nat.blt pc 60) (cond (Nat.blt pc 26) (zx zi_403_0) (zx zi_403_1)) (cond (Nat.blt pc 91) (zx zi_403_2) (zx zi_403_3))
theorem xi_ok403 (pc : Nat) : xi_ok cX12_expression (xi_403 pc) = true := xi_c (xi_c (zq1 xi_w403) (zq1 (zq2 xi_w403))) (xi_c (zq1 (zq2 (zq2 xi_w403))) (zq1 (zq2 (zq2 (zq2 xi_w403)))))
noncomputable def zi_404_0 : ZIs := [(0, ev_13), (1, ev_10), (2, ev_1288), (5, ev_13), (6, ev_10), (7, ev_1347), (10, ev_13), (11, ev_1192), (14, ev_366), (16, ev_1526), (19, ev_13), (20, ev_30), (21, ev_366), (23, ev_1363), (26, ev_809), (28, ev_128)]
noncomputable def zi_404_1 : ZIs := [(29, ev_13), (30, ev_10), (31, ev_1350), (34, ev_13), (35, ev_10), (36, ev_1748), (39, ev_13), (40, ev_7), (41, ev_1778), (44, ev_13), (45, ev_1779), (48, ev_7), (49, ev_13), (50, ev_1746), (53, ev_299), (54, ev_13)]
noncomputable def zi_404_2 : ZIs := [(55, ev_1344), (58, ev_853), (61, ev_13), (62, ev_10), (63, ev_1778), (66, ev_13), (67, ev_1779), (70, ev_30), (71, ev_13), (72, ev_1746), (75, ev_299), (76, ev_13), (77, ev_1344), (80, ev_1374), (83, ev_809), (85, ev_128)]
noncomputable def zi_404_3 : ZIs := [(86, ev_10), (87, ev_686), (88, ev_196), (89, ev_13), (90, ev_1746), (93, ev_340), (96, ev_13), (97, ev_1780), (100, ev_196), (101, ev_13), (102, ev_1745), (105, ev_196), (106, ev_18), (107, ev_299), (108, ev_13), (109, ev_1781)]
noncomputable def zi_404_4 : ZIs := [(112, ev_196), (113, ev_13), (114, ev_1747), (117, ev_196), (118, ev_18), (119, ev_299), (120, ev_689), (123, ev_293), (126, ev_13), (127, ev_1743), (130, ev_7), (131, ev_13), (132, ev_1779), (135, ev_7), (136, ev_18), (137, ev_299)]
noncomputable def zi_404_5 : ZIs := [(138, ev_13), (139, ev_1743), (142, ev_30), (143, ev_13), (144, ev_1779), (147, ev_30), (148, ev_18), (149, ev_299), (150, ev_10), (151, ev_128)]
set_option maxRecDepth 100000 in
theorem xi_w404 : zall cX12_program [zi_404_0, zi_404_1, zi_404_2, zi_404_3, zi_404_4, zi_404_5] := zall_w _ _ (by decide +kernel)
noncomputable def xi_404 (pc : Nat) : XIs := cond (Nat.blt pc 86) (cond (Nat.blt pc 29) (zx zi_404_0) (cond (Nat.blt pc 55) (zx zi_404_1) (zx zi_404_2))) (cond (Nat.blt pc 112) (zx zi_404_3) (cond (Nat.blt pc 138) (zx zi_404_4) (zx zi_404_5)))
theorem xi_ok404 (pc : Nat) : xi_ok cX12_program (xi_404 pc) = true := xi_c (xi_c (zq1 xi_w404) (xi_c (zq1 (zq2 xi_w404)) (zq1 (zq2 (zq2 xi_w404))))) (xi_c (zq1 (zq2 (zq2 (zq2 xi_w404)))) (xi_c (zq1 (zq2 (zq2 (zq2 (zq2 xi_w404))))) (zq1 (zq2 (zq2 (zq2 (zq2 (zq2 xi_w404))))))))
noncomputable def zi_405_0 : ZIs := [(0, ev_488), (1, ev_1661), (4, ev_136), (5, ev_1782), (8, ev_1661), (11, ev_1345), (14, ev_488), (15, ev_1783), (18, ev_136), (19, ev_951), (22, ev_1783), (25, ev_134), (28, ev_488), (29, ev_482)]
set_option maxRecDepth 100000 in
theorem xi_w405 : zall cX12_fit [zi_405_0] := zall_w _ _ (by decide +kernel)
noncomputable def xi_405 (pc : Nat) : XIs := zx zi_405_0
theorem xi_ok405 (pc : Nat) : xi_ok cX12_fit (xi_405 pc) = true := zq1 xi_w405
noncomputable def zi_406_0 : ZIs := [(0, ev_488), (1, ev_135), (2, ev_136), (3, ev_347), (6, ev_490), (7, ev_135), (8, ev_136), (9, ev_378), (12, ev_135), (13, ev_482), (14, ev_488), (15, ev_135), (16, ev_136), (17, ev_1402), (20, ev_488), (21, ev_477)]
noncomputable def zi_406_1 : ZIs := [(22, ev_134), (25, ev_488), (26, ev_443), (28, ev_490), (29, ev_135), (30, ev_136), (31, ev_1402), (34, ev_490), (35, ev_477), (36, ev_134), (39, ev_490), (40, ev_58), (42, ev_247), (44, ev_1661), (47, ev_461), (49, ev_491)]
noncomputable def zi_406_2 : ZIs := [(50, ev_136), (51, ev_1782), (54, ev_1661), (57, ev_987), (60, ev_247), (62, ev_461), (64, ev_493), (65, ev_446), (67, ev_488), (68, ev_135), (69, ev_136), (70, ev_487), (73, ev_7), (74, ev_134), (77, ev_10), (78, ev_490)]
noncomputable def zi_406_3 : ZIs := [(79, ev_135), (80, ev_136), (81, ev_487), (84, ev_7), (85, ev_134), (88, ev_10), (89, ev_541), (92, ev_463), (94, ev_213), (97, ev_463), (99, ev_477), (100, ev_482)]
set_option maxRecDepth 100000 in
theorem xi_w406 : zall cX12_product [zi_406_0, zi_406_1, zi_406_2, zi_406_3] := zall_w _ _ (by decide +kernel)
noncomputable def xi_406 (pc : Nat) : XIs := cond (Nat.blt pc 50) (cond (Nat.blt pc 22) (zx zi_406_0) (zx zi_406_1)) (cond (Nat.blt pc 79) (zx zi_406_2) (zx zi_406_3))
theorem xi_ok406 (pc : Nat) : xi_ok cX12_product (xi_406 pc) = true := xi_c (xi_c (zq1 xi_w406) (zq1 (zq2 xi_w406))) (xi_c (zq1 (zq2 (zq2 xi_w406))) (zq1 (zq2 (zq2 (zq2 xi_w406)))))
noncomputable def zi_407_0 : ZIs := [(0, ev_13), (1, ev_1784), (4, ev_10), (5, ev_13), (6, ev_1785), (9, ev_196), (10, ev_130), (11, ev_198), (12, ev_13), (13, ev_1784), (16, ev_7), (17, ev_196), (18, ev_179), (19, ev_198), (20, ev_13), (21, ev_1784)]
noncomputable def zi_407_1 : ZIs := [(24, ev_30), (25, ev_13), (26, ev_1300), (29, ev_180), (31, ev_13), (32, ev_1163), (35, ev_355), (36, ev_196), (37, ev_22), (38, ev_18), (39, ev_179), (40, ev_198), (41, ev_13), (42, ev_1784), (45, ev_31), (46, ev_135)]
noncomputable def zi_407_2 : ZIs := [(47, ev_198), (48, ev_13), (49, ev_1784), (52, ev_32), (53, ev_135), (54, ev_198), (55, ev_13), (56, ev_1784), (59, ev_33), (60, ev_201), (61, ev_179), (62, ev_198), (63, ev_13), (64, ev_1784), (67, ev_15), (69, ev_135)]
noncomputable def zi_407_3 : ZIs := [(70, ev_198), (71, ev_13), (72, ev_1784), (75, ev_469), (77, ev_1661), (80, ev_198), (81, ev_13), (82, ev_1784), (85, ev_470), (87, ev_1783), (90, ev_198), (91, ev_13), (92, ev_1293), (95, ev_295), (96, ev_202), (97, ev_13)]
noncomputable def zi_407_4 : ZIs := [(98, ev_1293), (101, ev_530), (104, ev_22), (105, ev_1786), (108, ev_13), (109, ev_1292), (112, ev_202), (113, ev_1294), (114, ev_770), (117, ev_13), (118, ev_1304), (121, ev_202), (122, ev_18), (123, ev_196), (124, ev_928), (127, ev_13)]
noncomputable def zi_407_5 : ZIs := [(128, ev_1784), (131, ev_31), (132, ev_316), (133, ev_130), (134, ev_133), (135, ev_458), (136, ev_198), (137, ev_13), (138, ev_1292), (141, ev_202), (142, ev_1294), (143, ev_1387), (146, ev_13), (147, ev_1039), (150, ev_202), (151, ev_18)]
noncomputable def zi_407_6 : ZIs := [(152, ev_196), (153, ev_1787), (156, ev_13), (157, ev_1785), (160, ev_13), (161, ev_1304), (164, ev_202), (165, ev_18), (166, ev_130), (167, ev_443), (169, ev_247), (171, ev_13), (172, ev_1040), (175, ev_202), (176, ev_18), (177, ev_179)]
noncomputable def zi_407_7 : ZIs := [(178, ev_458), (179, ev_1788), (182, ev_58), (184, ev_13), (185, ev_1784), (188, ev_32), (189, ev_316), (190, ev_130), (191, ev_133), (192, ev_458), (193, ev_198), (194, ev_13), (195, ev_1784), (198, ev_15), (200, ev_316), (201, ev_130)]
noncomputable def zi_407_8 : ZIs := [(202, ev_247), (204, ev_458), (205, ev_198), (206, ev_13), (207, ev_1784), (210, ev_469), (212, ev_461), (214, ev_13), (215, ev_1784), (218, ev_469), (220, ev_130), (221, ev_136), (222, ev_1402), (225, ev_461), (227, ev_634), (230, ev_13)]
noncomputable def zi_407_9 : ZIs := [(231, ev_1784), (234, ev_469), (236, ev_130), (237, ev_198), (238, ev_13), (239, ev_1784), (242, ev_470), (244, ev_461), (246, ev_13), (247, ev_1784), (250, ev_470), (252, ev_130), (253, ev_136), (254, ev_1789), (257, ev_461), (259, ev_634)]
noncomputable def zi_407_10 : ZIs := [(262, ev_13), (263, ev_1784), (266, ev_470), (268, ev_130), (269, ev_198), (270, ev_300), (273, ev_1790), (276, ev_13), (277, ev_1784), (280, ev_15), (282, ev_13), (283, ev_1784), (286, ev_15), (288, ev_130), (289, ev_1788), (292, ev_198)]
noncomputable def zi_407_11 : ZIs := [(293, ev_260)]
set_option maxRecDepth 100000 in
theorem xi_w407 : zall cX12_nameAll [zi_407_0, zi_407_1, zi_407_2, zi_407_3, zi_407_4, zi_407_5, zi_407_6, zi_407_7, zi_407_8, zi_407_9, zi_407_10, zi_407_11] := zall_w _ _ (by decide +kernel)
noncomputable def xi_407 (pc : Nat) : XIs := cond (Nat.blt pc 152) (cond (Nat.blt pc 70) (cond (Nat.blt pc 24) (zx zi_407_0) (cond (Nat.blt pc 47) (zx zi_407_1) (zx zi_407_2))) (cond (Nat.blt pc 98) (zx zi_407_3) (cond (Nat.blt pc 128) (zx zi_407_4) (zx zi_407_5)))) (cond (Nat.blt pc 231) (cond (Nat.blt pc 178) (zx zi_407_6) (cond (Nat.blt pc 202) (zx zi_407_7) (zx zi_407_8))) (cond (Nat.blt pc 262) (zx zi_407_9) (cond (Nat.blt pc 293) (zx zi_407_10) (zx zi_407_11))))
theorem xi_ok407 (pc : Nat) : xi_ok cX12_nameAll (xi_407 pc) = true := xi_c (xi_c (xi_c (zq1 xi_w407) (xi_c (zq1 (zq2 xi_w407)) (zq1 (zq2 (zq2 xi_w407))))) (xi_c (zq1 (zq2 (zq2 (zq2 xi_w407)))) (xi_c (zq1 (zq2 (zq2 (zq2 (zq2 xi_w407))))) (zq1 (zq2 (zq2 (zq2 (zq2 (zq2 xi_w407))))))))) (xi_c (xi_c (zq1 (zq2 (zq2 (zq2 (zq2 (zq2 (zq2 xi_w407))))))) (xi_c (zq1 (zq2 (zq2 (zq2 (zq2 (zq2 (zq2 (zq2 xi_w407)))))))) (zq1 (zq2 (zq2 (zq2 (zq2 (zq2 (zq2 (zq2 (zq2 xi_w407))))))))))) (xi_c (zq1 (zq2 (zq2 (zq2 (zq2 (zq2 (zq2 (zq2 (zq2 (zq2 xi_w407)))))))))) (xi_c (zq1 (zq2 (zq2 (zq2 (zq2 (zq2 (zq2 (zq2 (zq2 (zq2 (zq2 xi_w407))))))))))) (zq1 (zq2 (zq2 (zq2 (zq2 (zq2 (zq2 (zq2 (zq2 (zq2 (zq2 (zq2 xi_w407)))))))))))))))
noncomputable def zi_408_0 : ZIs := [(0, ev_10), (1, ev_294), (2, ev_196), (3, ev_326), (6, ev_10), (7, ev_199), (10, ev_13), (11, ev_1743), (14, ev_7), (15, ev_18), (16, ev_295), (17, ev_202), (18, ev_13), (19, ev_1743), (22, ev_196), (23, ev_7)]
noncomputable def zi_408_1 : ZIs := [(24, ev_22), (25, ev_18), (26, ev_1791), (29, ev_13), (30, ev_1780), (33, ev_202), (34, ev_18), (35, ev_11), (37, ev_12), (39, ev_30), (40, ev_690), (43, ev_13), (44, ev_1792), (47, ev_201), (48, ev_12), (50, ev_1133)]
noncomputable def zi_408_2 : ZIs := [(53, ev_13), (54, ev_1781), (57, ev_202), (58, ev_18), (59, ev_179), (60, ev_1178), (63, ev_13), (64, ev_1784), (67, ev_13), (68, ev_1781), (71, ev_202), (72, ev_18), (73, ev_130), (74, ev_198), (75, ev_304), (78, ev_1793)]
noncomputable def zi_408_3 : ZIs := [(81, ev_12), (83, ev_30), (84, ev_977), (87, ev_13), (88, ev_1792), (91, ev_201), (92, ev_7), (93, ev_16), (94, ev_13), (95, ev_1792), (98, ev_201), (99, ev_7), (100, ev_16), (101, ev_130), (102, ev_477), (103, ev_1788)]
noncomputable def zi_408_4 : ZIs := [(106, ev_198), (107, ev_1794), (110, ev_894), (113, ev_13), (114, ev_1792), (117, ev_201), (118, ev_7), (119, ev_16), (120, ev_130), (121, ev_575), (123, ev_13), (124, ev_1792), (127, ev_201), (128, ev_130), (129, ev_922), (131, ev_13)]
noncomputable def zi_408_5 : ZIs := [(132, ev_1792), (135, ev_201), (136, ev_7), (137, ev_16), (138, ev_12), (140, ev_405), (142, ev_539), (145, ev_502), (147, ev_923), (149, ev_1795), (152, ev_1788), (155, ev_1796), (158, ev_12), (160, ev_398), (162, ev_799), (165, ev_502)]
noncomputable def zi_408_6 : ZIs := [(167, ev_923), (169, ev_458), (170, ev_1788), (173, ev_1797), (176, ev_12), (178, ev_400), (180, ev_799), (183, ev_502), (185, ev_923), (187, ev_486), (188, ev_1788), (191, ev_1798), (194, ev_12), (196, ev_389), (198, ev_799), (201, ev_502)]
noncomputable def zi_408_7 : ZIs := [(203, ev_923), (205, ev_136), (206, ev_1604), (209, ev_204), (212, ev_502), (214, ev_923), (216, ev_136), (217, ev_326), (220, ev_133), (221, ev_134), (224, ev_135), (225, ev_198), (226, ev_300), (229, ev_1799), (232, ev_13), (233, ev_1792)]
noncomputable def zi_408_8 : ZIs := [(236, ev_10), (237, ev_130), (238, ev_482)]
set_option maxRecDepth 100000 in
theorem xi_w408 : zall cX12_workOut [zi_408_0, zi_408_1, zi_408_2, zi_408_3, zi_408_4, zi_408_5, zi_408_6, zi_408_7, zi_408_8] := zall_w _ _ (by decide +kernel)
noncomputable def xi_408 (pc : Nat) : XIs := cond (Nat.blt pc 106) (cond (Nat.blt pc 53) (cond (Nat.blt pc 24) (zx zi_408_0) (zx zi_408_1)) (cond (Nat.blt pc 81) (zx zi_408_2) (zx zi_408_3))) (cond (Nat.blt pc 167) (cond (Nat.blt pc 132) (zx zi_408_4) (zx zi_408_5)) (cond (Nat.blt pc 203) (zx zi_408_6) (cond (Nat.blt pc 236) (zx zi_408_7) (zx zi_408_8))))
theorem xi_ok408 (pc : Nat) : xi_ok cX12_workOut (xi_408 pc) = true := xi_c (xi_c (xi_c (zq1 xi_w408) (zq1 (zq2 xi_w408))) (xi_c (zq1 (zq2 (zq2 xi_w408))) (zq1 (zq2 (zq2 (zq2 xi_w408)))))) (xi_c (xi_c (zq1 (zq2 (zq2 (zq2 (zq2 xi_w408))))) (zq1 (zq2 (zq2 (zq2 (zq2 (zq2 xi_w408))))))) (xi_c (zq1 (zq2 (zq2 (zq2 (zq2 (zq2 (zq2 xi_w408))))))) (xi_c (zq1 (zq2 (zq2 (zq2 (zq2 (zq2 (zq2 (zq2 xi_w408)))))))) (zq1 (zq2 (zq2 (zq2 (zq2 (zq2 (zq2 (zq2 (zq2 xi_w408))))))))))))
noncomputable def zi_409_0 : ZIs := [(0, ev_13), (1, ev_196), (2, ev_179), (3, ev_135), (4, ev_1800), (7, ev_1318), (10, ev_852), (13, ev_201), (14, ev_179), (15, ev_133), (16, ev_1334), (19, ev_1318), (22, ev_489), (25, ev_202), (26, ev_179), (27, ev_135)]
noncomputable def zi_409_1 : ZIs := [(28, ev_1801), (31, ev_1318), (34, ev_132), (37, ev_7), (38, ev_134), (41, ev_10), (42, ev_1177), (45, ev_137), (48, ev_10), (49, ev_128), (50, ev_13), (51, ev_13), (52, ev_1290), (55, ev_1802), (58, ev_13), (59, ev_10)]
noncomputable def zi_409_2 : ZIs := [(60, ev_1803), (63, ev_13), (64, ev_10), (65, ev_1804), (68, ev_13), (69, ev_10), (70, ev_1805), (73, ev_13), (74, ev_135), (75, ev_1806), (78, ev_10), (79, ev_28), (81, ev_131), (83, ev_13), (84, ev_1290), (87, ev_684)]
noncomputable def zi_409_3 : ZIs := [(90, ev_13), (91, ev_1785), (94, ev_131), (96, ev_135), (97, ev_198), (98, ev_320), (101, ev_759), (104, ev_10), (105, ev_28), (107, ev_131), (109, ev_13), (110, ev_1290), (113, ev_644), (116, ev_13), (117, ev_131), (119, ev_10)]
noncomputable def zi_409_4 : ZIs := [(120, ev_1807), (123, ev_13), (124, ev_1808), (127, ev_131), (129, ev_13), (130, ev_10), (131, ev_1809), (134, ev_198), (135, ev_320), (138, ev_611), (141, ev_10), (142, ev_28), (144, ev_131), (146, ev_13), (147, ev_1290), (150, ev_346)]
noncomputable def zi_409_5 : ZIs := [(153, ev_13), (154, ev_1785), (157, ev_131), (159, ev_13), (160, ev_1808), (163, ev_131), (165, ev_130), (166, ev_198), (167, ev_320), (170, ev_563), (173, ev_10), (174, ev_28), (176, ev_7), (177, ev_275), (179, ev_276), (181, ev_1810)]
noncomputable def zi_409_6 : ZIs := [(184, ev_131), (186, ev_196), (187, ev_471), (190, ev_320), (193, ev_13), (194, ev_201), (195, ev_202), (196, ev_247), (198, ev_1811), (201, ev_10), (202, ev_275), (204, ev_10), (205, ev_313), (207, ev_314), (209, ev_13), (210, ev_1290)]
noncomputable def zi_409_7 : ZIs := [(213, ev_1595), (216, ev_13), (217, ev_314), (219, ev_131), (221, ev_1807), (224, ev_13), (225, ev_1808), (228, ev_314), (230, ev_13), (231, ev_7), (232, ev_1809), (235, ev_198), (236, ev_276), (238, ev_1371), (241, ev_13), (242, ev_1808)]
noncomputable def zi_409_8 : ZIs := [(245, ev_314), (247, ev_130), (248, ev_13), (249, ev_1785), (252, ev_314), (254, ev_130), (255, ev_136), (256, ev_132), (259, ev_7), (260, ev_134), (263, ev_10), (264, ev_275), (266, ev_318), (269, ev_279), (272, ev_10), (273, ev_313)]
noncomputable def zi_409_9 : ZIs := [(275, ev_314), (277, ev_13), (278, ev_1290), (281, ev_346), (284, ev_13), (285, ev_1785), (288, ev_314), (290, ev_13), (291, ev_1808), (294, ev_314), (296, ev_130), (297, ev_198), (298, ev_318), (301, ev_563), (304, ev_895), (307, ev_131)]
noncomputable def zi_409_10 : ZIs := [(309, ev_128)]
set_option maxRecDepth 100000 in
theorem xi_w409 : zall cX12_run [zi_409_0, zi_409_1, zi_409_2, zi_409_3, zi_409_4, zi_409_5, zi_409_6, zi_409_7, zi_409_8, zi_409_9, zi_409_10] := zall_w _ _ (by decide +kernel)
noncomputable def xi_409 (pc : Nat) : XIs := cond (Nat.blt pc 153) (cond (Nat.blt pc 60) (cond (Nat.blt pc 28) (zx zi_409_0) (zx zi_409_1)) (cond (Nat.blt pc 90) (zx zi_409_2) (cond (Nat.blt pc 120) (zx zi_409_3) (zx zi_409_4)))) (cond (Nat.blt pc 245) (cond (Nat.blt pc 184) (zx zi_409_5) (cond (Nat.blt pc 213) (zx zi_409_6) (zx zi_409_7))) (cond (Nat.blt pc 275) (zx zi_409_8) (cond (Nat.blt pc 309) (zx zi_409_9) (zx zi_409_10))))
theorem xi_ok409 (pc : Nat) : xi_ok cX12_run (xi_409 pc) = true := xi_c (xi_c (xi_c (zq1 xi_w409) (zq1 (zq2 xi_w409))) (xi_c (zq1 (zq2 (zq2 xi_w409))) (xi_c (zq1 (zq2 (zq2 (zq2 xi_w409)))) (zq1 (zq2 (zq2 (zq2 (zq2 xi_w409)))))))) (xi_c (xi_c (zq1 (zq2 (zq2 (zq2 (zq2 (zq2 xi_w409)))))) (xi_c (zq1 (zq2 (zq2 (zq2 (zq2 (zq2 (zq2 xi_w409))))))) (zq1 (zq2 (zq2 (zq2 (zq2 (zq2 (zq2 (zq2 xi_w409)))))))))) (xi_c (zq1 (zq2 (zq2 (zq2 (zq2 (zq2 (zq2 (zq2 (zq2 xi_w409))))))))) (xi_c (zq1 (zq2 (zq2 (zq2 (zq2 (zq2 (zq2 (zq2 (zq2 (zq2 xi_w409)))))))))) (zq1 (zq2 (zq2 (zq2 (zq2 (zq2 (zq2 (zq2 (zq2 (zq2 (zq2 xi_w409))))))))))))))
noncomputable def zi_410_0 : ZIs := [(0, ev_10), (1, ev_11), (3, ev_13), (4, ev_1293), (7, ev_25), (9, ev_126), (11, ev_13), (12, ev_1293), (15, ev_530), (18, ev_22), (19, ev_939), (22, ev_12), (24, ev_1812), (27, ev_13), (28, ev_1292), (31, ev_126)]
noncomputable def zi_410_1 : ZIs := [(33, ev_1294), (34, ev_852), (37, ev_13), (38, ev_1304), (41, ev_126), (43, ev_18), (44, ev_196), (45, ev_1052), (48, ev_13), (49, ev_1039), (52, ev_126), (54, ev_18), (55, ev_202), (56, ev_509), (57, ev_201), (58, ev_819)]
noncomputable def zi_410_2 : ZIs := [(61, ev_7), (62, ev_134), (65, ev_10), (66, ev_11), (68, ev_343), (71, ev_279), (74, ev_12), (76, ev_1005), (79, ev_196), (80, ev_202), (81, ev_509), (82, ev_201), (83, ev_682), (86, ev_7), (87, ev_134), (90, ev_10)]
noncomputable def zi_410_3 : ZIs := [(91, ev_128)]
set_option maxRecDepth 100000 in
theorem xi_w410 : zall cX12_goesTo [zi_410_0, zi_410_1, zi_410_2, zi_410_3] := zall_w _ _ (by decide +kernel)
noncomputable def xi_410 (pc : Nat) : XIs := cond (Nat.blt pc 61) (cond (Nat.blt pc 33) (zx zi_410_0) (zx zi_410_1)) (cond (Nat.blt pc 91) (zx zi_410_2) (zx zi_410_3))
theorem xi_ok410 (pc : Nat) : xi_ok cX12_goesTo (xi_410 pc) = true := xi_c (xi_c (zq1 xi_w410) (zq1 (zq2 xi_w410))) (xi_c (zq1 (zq2 (zq2 xi_w410))) (zq1 (zq2 (zq2 (zq2 xi_w410)))))
noncomputable def zi_411_0 : ZIs := [(0, ev_10), (1, ev_25), (3, ev_10), (4, ev_28), (6, ev_131), (8, ev_13), (9, ev_1290), (12, ev_722), (15, ev_10), (16, ev_275), (18, ev_276), (20, ev_196), (21, ev_586), (24, ev_126), (26, ev_13), (27, ev_131)]
noncomputable def zi_411_1 : ZIs := [(29, ev_276), (31, ev_196), (32, ev_1813), (35, ev_132), (38, ev_7), (39, ev_134), (42, ev_10), (43, ev_22), (44, ev_25), (46, ev_956), (49, ev_611), (52, ev_320), (55, ev_654), (58, ev_126), (60, ev_1814), (63, ev_13)]
noncomputable def zi_411_2 : ZIs := [(64, ev_1), (65, ev_1815), (68, ev_7), (69, ev_22), (70, ev_1805), (73, ev_10), (74, ev_28), (76, ev_10), (77, ev_275), (79, ev_276), (81, ev_126), (83, ev_589), (86, ev_13), (87, ev_1), (88, ev_1816), (91, ev_133)]
noncomputable def zi_411_3 : ZIs := [(92, ev_458), (93, ev_1806), (96, ev_485), (97, ev_1817), (100, ev_13), (101, ev_1816), (104, ev_493), (105, ev_458), (106, ev_446), (108, ev_463), (110, ev_463), (112, ev_519), (114, ev_520), (115, ev_521), (116, ev_1818), (119, ev_493)]
noncomputable def zi_411_4 : ZIs := [(120, ev_446), (122, ev_463), (124, ev_463), (126, ev_523), (128, ev_520), (129, ev_521), (130, ev_1819), (133, ev_493), (134, ev_446), (136, ev_463), (138, ev_463), (140, ev_525), (142, ev_520), (143, ev_521), (144, ev_446), (146, ev_131)]
noncomputable def zi_411_5 : ZIs := [(148, ev_463), (150, ev_526), (152, ev_520), (153, ev_1666), (156, ev_528), (157, ev_201), (158, ev_179), (159, ev_136), (160, ev_487), (163, ev_7), (164, ev_134), (167, ev_10), (168, ev_22), (169, ev_28), (171, ev_956), (174, ev_957)]
noncomputable def zi_411_6 : ZIs := [(177, ev_13), (178, ev_1), (179, ev_1820), (182, ev_126), (184, ev_22), (185, ev_1803), (188, ev_13), (189, ev_1), (190, ev_1821), (193, ev_131), (195, ev_22), (196, ev_1804), (199, ev_131), (201, ev_25), (203, ev_1822), (206, ev_260)]
set_option maxRecDepth 100000 in
theorem xi_w411 : zall cX12_send [zi_411_0, zi_411_1, zi_411_2, zi_411_3, zi_411_4, zi_411_5, zi_411_6] := zall_w _ _ (by decide +kernel)
noncomputable def xi_411 (pc : Nat) : XIs := cond (Nat.blt pc 92) (cond (Nat.blt pc 29) (zx zi_411_0) (cond (Nat.blt pc 64) (zx zi_411_1) (zx zi_411_2))) (cond (Nat.blt pc 148) (cond (Nat.blt pc 120) (zx zi_411_3) (zx zi_411_4)) (cond (Nat.blt pc 177) (zx zi_411_5) (zx zi_411_6)))
theorem xi_ok411 (pc : Nat) : xi_ok cX12_send (xi_411 pc) = true := xi_c (xi_c (zq1 xi_w411) (xi_c (zq1 (zq2 xi_w411)) (zq1 (zq2 (zq2 xi_w411))))) (xi_c (xi_c (zq1 (zq2 (zq2 (zq2 xi_w411)))) (zq1 (zq2 (zq2 (zq2 (zq2 xi_w411)))))) (xi_c (zq1 (zq2 (zq2 (zq2 (zq2 (zq2 xi_w411)))))) (zq1 (zq2 (zq2 (zq2 (zq2 (zq2 (zq2 xi_w411)))))))))
noncomputable def zi_412_0 : ZIs := [(0, ev_13), (1, ev_196), (2, ev_679), (5, ev_196), (6, ev_13), (7, ev_1823), (10, ev_657), (13, ev_7), (14, ev_134), (17, ev_10), (18, ev_1177), (21, ev_132), (24, ev_135), (25, ev_199), (28, ev_13), (29, ev_1785)]
noncomputable def zi_412_1 : ZIs := [(32, ev_196), (33, ev_130), (34, ev_482)]
set_option maxRecDepth 100000 in
theorem xi_w412 : zall cX12_state [zi_412_0, zi_412_1] := zall_w _ _ (by decide +kernel)
noncomputable def xi_412 (pc : Nat) : XIs := cond (Nat.blt pc 32) (zx zi_412_0) (zx zi_412_1)
theorem xi_ok412 (pc : Nat) : xi_ok cX12_state (xi_412 pc) = true := xi_c (zq1 xi_w412) (zq1 (zq2 xi_w412))
noncomputable def zi_413_0 : ZIs := [(0, ev_13), (1, ev_196), (2, ev_179), (3, ev_135), (4, ev_1647), (7, ev_1318), (10, ev_1177), (13, ev_137), (16, ev_10), (17, ev_128), (18, ev_196), (19, ev_381), (22, ev_13), (23, ev_1820), (26, ev_903), (29, ev_196)]
noncomputable def zi_413_1 : ZIs := [(30, ev_7), (31, ev_811), (34, ev_13), (35, ev_1821), (38, ev_216), (41, ev_13), (42, ev_1815), (45, ev_128)]
set_option maxRecDepth 100000 in
theorem xi_w413 : zall cX12_letters [zi_413_0, zi_413_1] := zall_w _ _ (by decide +kernel)
noncomputable def xi_413 (pc : Nat) : XIs := cond (Nat.blt pc 30) (zx zi_413_0) (zx zi_413_1)
theorem xi_ok413 (pc : Nat) : xi_ok cX12_letters (xi_413 pc) = true := xi_c (zq1 xi_w413) (zq1 (zq2 xi_w413))
noncomputable def zi_414_0 : ZIs := [(0, ev_483), (1, ev_483), (2, ev_7), (3, ev_1824), (4, ev_1825), (7, ev_20), (8, ev_16), (9, ev_1826), (10, ev_483), (11, ev_1827), (14, ev_20), (15, ev_483), (16, ev_30), (17, ev_1824), (18, ev_1827), (21, ev_20)]
noncomputable def zi_414_1 : ZIs := [(22, ev_22), (23, ev_1826), (24, ev_483), (25, ev_483), (26, ev_32), (27, ev_1824), (28, ev_22), (29, ev_1828), (32, ev_20), (33, ev_1826), (34, ev_483), (35, ev_483), (36, ev_470), (38, ev_1824), (39, ev_22), (40, ev_1826)]
noncomputable def zi_414_2 : ZIs := [(41, ev_483), (42, ev_483), (43, ev_582), (45, ev_1824), (46, ev_22), (47, ev_1826), (48, ev_483), (49, ev_19), (51, ev_20), (52, ev_128)]
set_option maxRecDepth 100000 in
theorem xi_w414 : zall cJ6_bitCount_0f7a4 [zi_414_0, zi_414_1, zi_414_2] := zall_w _ _ (by decide +kernel)
noncomputable def xi_414 (pc : Nat) : XIs := cond (Nat.blt pc 22) (zx zi_414_0) (cond (Nat.blt pc 41) (zx zi_414_1) (zx zi_414_2))
theorem xi_ok414 (pc : Nat) : xi_ok cJ6_bitCount_0f7a4 (xi_414 pc) = true := xi_c (zq1 xi_w414) (xi_c (zq1 (zq2 xi_w414)) (zq1 (zq2 (zq2 xi_w414))))
noncomputable def zi_415_0 : ZIs := [(0, ev_488), (1, ev_488), (2, ev_7), (3, ev_520), (4, ev_1829), (7, ev_183), (8, ev_486), (9, ev_1830), (10, ev_488), (11, ev_1831), (14, ev_183), (15, ev_488), (16, ev_30), (17, ev_520), (18, ev_1831), (21, ev_183)]
noncomputable def zi_415_1 : ZIs := [(22, ev_458), (23, ev_1830), (24, ev_488), (25, ev_488), (26, ev_32), (27, ev_520), (28, ev_458), (29, ev_1832), (32, ev_183), (33, ev_1830), (34, ev_488), (35, ev_488), (36, ev_470), (38, ev_520), (39, ev_458), (40, ev_1830)]
noncomputable def zi_415_2 : ZIs := [(41, ev_488), (42, ev_488), (43, ev_582), (45, ev_520), (46, ev_458), (47, ev_1830), (48, ev_488), (49, ev_488), (50, ev_180), (52, ev_520), (53, ev_458), (54, ev_1830), (55, ev_488), (56, ev_992), (57, ev_1833), (59, ev_20)]
noncomputable def zi_415_3 : ZIs := [(60, ev_128)]
set_option maxRecDepth 100000 in
theorem xi_w415 : zall cJ13_bitCount_95d88 [zi_415_0, zi_415_1, zi_415_2, zi_415_3] := zall_w _ _ (by decide +kernel)
noncomputable def xi_415 (pc : Nat) : XIs := cond (Nat.blt pc 41) (cond (Nat.blt pc 22) (zx zi_415_0) (zx zi_415_1)) (cond (Nat.blt pc 60) (zx zi_415_2) (zx zi_415_3))
theorem xi_ok415 (pc : Nat) : xi_ok cJ13_bitCount_95d88 (xi_415 pc) = true := xi_c (xi_c (zq1 xi_w415) (zq1 (zq2 xi_w415))) (xi_c (zq1 (zq2 (zq2 xi_w415))) (zq1 (zq2 (zq2 (zq2 xi_w415)))))
noncomputable def zi_416_0 : ZIs := [(0, ev_10), (1, ev_295), (2, ev_13), (3, ev_14), (4, ev_11), (6, ev_202), (7, ev_12), (9, ev_1451), (12, ev_13), (13, ev_202), (14, ev_484), (15, ev_198), (16, ev_300), (19, ev_802), (22, ev_260)]
set_option maxRecDepth 100000 in
theorem xi_w416 : zall cJ7_fill_d0a16 [zi_416_0] := zall_w _ _ (by decide +kernel)
noncomputable def xi_416 (pc : Nat) : XIs := zx zi_416_0
theorem xi_ok416 (pc : Nat) : xi_ok cJ7_fill_d0a16 (xi_416 pc) = true := zq1 xi_w416
noncomputable def zi_417_0 : ZIs := [(0, ev_10), (1, ev_294), (2, ev_13), (3, ev_14), (4, ev_295), (5, ev_201), (6, ev_202), (7, ev_1451), (10, ev_13), (11, ev_201), (12, ev_196), (13, ev_299), (14, ev_304), (17, ev_1834), (20, ev_260)]
set_option maxRecDepth 100000 in
theorem xi_w417 : zall cJ7_fill_53178 [zi_417_0] := zall_w _ _ (by decide +kernel)
noncomputable def xi_417 (pc : Nat) : XIs := zx zi_417_0
theorem xi_ok417 (pc : Nat) : xi_ok cJ7_fill_53178 (xi_417 pc) = true := zq1 xi_w417
noncomputable def zi_418_0 : ZIs := [(0, ev_488), (1, ev_490), (2, ev_491), (3, ev_443), (5, ev_488), (6, ev_490), (7, ev_521), (8, ev_135), (9, ev_136), (10, ev_1835), (13, ev_247), (15, ev_490), (16, ev_493), (17, ev_488), (18, ev_136), (19, ev_330)]
noncomputable def zi_418_1 : ZIs := [(22, ev_247), (24, ev_133), (25, ev_486), (26, ev_482), (27, ev_247), (29, ev_482)]
set_option maxRecDepth 100000 in
theorem xi_w418 : zall cJ9_floorDiv_f86c9 [zi_418_0, zi_418_1] := zall_w _ _ (by decide +kernel)
noncomputable def xi_418 (pc : Nat) : XIs := cond (Nat.blt pc 22) (zx zi_418_0) (zx zi_418_1)
theorem xi_ok418 (pc : Nat) : xi_ok cJ9_floorDiv_f86c9 (xi_418 pc) = true := xi_c (zq1 xi_w418) (zq1 (zq2 xi_w418))
noncomputable def zi_419_0 : ZIs := [(0, ev_488), (1, ev_490), (2, ev_528), (3, ev_443), (5, ev_488), (6, ev_490), (7, ev_521), (8, ev_135), (9, ev_136), (10, ev_1836), (13, ev_247), (15, ev_135), (16, ev_136), (17, ev_330), (20, ev_247), (22, ev_490)]
noncomputable def zi_419_1 : ZIs := [(23, ev_458), (24, ev_482), (25, ev_247), (27, ev_482)]
set_option maxRecDepth 100000 in
theorem xi_w419 : zall cJ9_floorMod_f86c9 [zi_419_0, zi_419_1] := zall_w _ _ (by decide +kernel)
noncomputable def xi_419 (pc : Nat) : XIs := cond (Nat.blt pc 23) (zx zi_419_0) (zx zi_419_1)
theorem xi_ok419 (pc : Nat) : xi_ok cJ9_floorMod_f86c9 (xi_419 pc) = true := xi_c (zq1 xi_w419) (zq1 (zq2 xi_w419))
noncomputable def zi_420_0 : ZIs := [(0, ev_483), (1, ev_1402), (4, ev_483), (5, ev_310), (6, ev_134), (9, ev_483), (10, ev_128)]
set_option maxRecDepth 100000 in
theorem xi_w420 : zall cJ9_abs_0f7a4 [zi_420_0] := zall_w _ _ (by decide +kernel)
noncomputable def xi_420 (pc : Nat) : XIs := zx zi_420_0
theorem xi_ok420 (pc : Nat) : xi_ok cJ9_abs_0f7a4 (xi_420 pc) = true := zq1 xi_w420
noncomputable def zi_421_0 : ZIs := [(0, ev_488), (1, ev_135), (2, ev_136), (3, ev_1402), (6, ev_488), (7, ev_477), (8, ev_134), (11, ev_488), (12, ev_482)]
set_option maxRecDepth 100000 in
theorem xi_w421 : zall cJ9_abs_067f4 [zi_421_0] := zall_w _ _ (by decide +kernel)
noncomputable def xi_421 (pc : Nat) : XIs := zx zi_421_0
theorem xi_ok421 (pc : Nat) : xi_ok cJ9_abs_067f4 (xi_421 pc) = true := zq1 xi_w421
noncomputable def zi_422_0 : ZIs := [(0, ev_483), (1, ev_196), (2, ev_614), (5, ev_483), (6, ev_134), (9, ev_196), (10, ev_128)]
set_option maxRecDepth 100000 in
theorem xi_w422 : zall cJ9_max_7cf53 [zi_422_0] := zall_w _ _ (by decide +kernel)
noncomputable def xi_422 (pc : Nat) : XIs := zx zi_422_0
theorem xi_ok422 (pc : Nat) : xi_ok cJ9_max_7cf53 (xi_422 pc) = true := zq1 xi_w422
noncomputable def zi_423_0 : ZIs := [(0, ev_488), (1, ev_490), (2, ev_136), (3, ev_832), (6, ev_488), (7, ev_134), (10, ev_490), (11, ev_482)]
set_option maxRecDepth 100000 in
theorem xi_w423 : zall cJ9_max_f86c9 [zi_423_0] := zall_w _ _ (by decide +kernel)
noncomputable def xi_423 (pc : Nat) : XIs := zx zi_423_0
theorem xi_ok423 (pc : Nat) : xi_ok cJ9_max_f86c9 (xi_423 pc) = true := zq1 xi_w423
noncomputable def zi_424_0 : ZIs := [(0, ev_483), (1, ev_196), (2, ev_887), (5, ev_483), (6, ev_134), (9, ev_196), (10, ev_128)]
set_option maxRecDepth 100000 in
theorem xi_w424 : zall cJ9_min_7cf53 [zi_424_0] := zall_w _ _ (by decide +kernel)
noncomputable def xi_424 (pc : Nat) : XIs := zx zi_424_0
theorem xi_ok424 (pc : Nat) : xi_ok cJ9_min_7cf53 (xi_424 pc) = true := zq1 xi_w424
noncomputable def zi_425_0 : ZIs := [(0, ev_488), (1, ev_490), (2, ev_136), (3, ev_492), (6, ev_488), (7, ev_134), (10, ev_490), (11, ev_482)]
set_option maxRecDepth 100000 in
theorem xi_w425 : zall cJ9_min_f86c9 [zi_425_0] := zall_w _ _ (by decide +kernel)
noncomputable def xi_425 (pc : Nat) : XIs := zx zi_425_0
theorem xi_ok425 (pc : Nat) : xi_ok cJ9_min_f86c9 (xi_425 pc) = true := zq1 xi_w425
noncomputable def zi_426_0 : ZIs := [(0, ev_196), (1, ev_13), (2, ev_14), (3, ev_707), (6, ev_13), (7, ev_1837), (10, ev_1838), (13, ev_824), (14, ev_196), (15, ev_255), (17, ev_6), (18, ev_13), (19, ev_10), (20, ev_26), (21, ev_10), (22, ev_13)]
noncomputable def zi_426_1 : ZIs := [(23, ev_14), (24, ev_196), (25, ev_1839), (28, ev_1840), (31, ev_26), (32, ev_824)]
set_option maxRecDepth 100000 in
theorem xi_w426 : zall cJ7_copyOf_59c91 [zi_426_0, zi_426_1] := zall_w _ _ (by decide +kernel)
noncomputable def xi_426 (pc : Nat) : XIs := cond (Nat.blt pc 23) (zx zi_426_0) (zx zi_426_1)
theorem xi_ok426 (pc : Nat) : xi_ok cJ7_copyOf_59c91 (xi_426 pc) = true := xi_c (zq1 xi_w426) (zq1 (zq2 xi_w426))
noncomputable def zi_427_0 : ZIs := [(0, ev_13), (1, ev_261), (4, ev_14), (5, ev_13), (6, ev_1841), (9, ev_303), (10, ev_128)]
set_option maxRecDepth 100000 in
theorem xi_w427 : zall cJ0_length_8abf5 [zi_427_0] := zall_w _ _ (by decide +kernel)
noncomputable def xi_427 (pc : Nat) : XIs := zx zi_427_0
theorem xi_ok427 (pc : Nat) : xi_ok cJ0_length_8abf5 (xi_427 pc) = true := zq1 xi_w427
noncomputable def zi_428_0 : ZIs := [(0, ev_13), (1, ev_261), (4, ev_14), (5, ev_326), (8, ev_7), (9, ev_134), (12, ev_10), (13, ev_128)]
set_option maxRecDepth 100000 in
theorem xi_w428 : zall cJ0_isEmpty_aae02 [zi_428_0] := zall_w _ _ (by decide +kernel)
noncomputable def xi_428 (pc : Nat) : XIs := zx zi_428_0
theorem xi_ok428 (pc : Nat) : xi_ok cJ0_isEmpty_aae02 (xi_428 pc) = true := zq1 xi_w428
noncomputable def zi_429_0 : ZIs := [(0, ev_13), (1, ev_1842), (4, ev_650), (7, ev_13), (8, ev_261), (11, ev_196), (12, ev_1843), (15, ev_128), (16, ev_13), (17, ev_261), (20, ev_196), (21, ev_1844), (24, ev_128)]
set_option maxRecDepth 100000 in
theorem xi_w429 : zall cJ0_charAt_5068e [zi_429_0] := zall_w _ _ (by decide +kernel)
noncomputable def xi_429 (pc : Nat) : XIs := zx zi_429_0
theorem xi_ok429 (pc : Nat) : xi_ok cJ0_charAt_5068e (xi_429 pc) = true := zq1 xi_w429
noncomputable def zi_430_0 : ZIs := [(0, ev_13), (1, ev_196), (2, ev_10), (3, ev_1845), (6, ev_128)]
set_option maxRecDepth 100000 in
theorem xi_w430 : zall cJ0_indexOf_0f7a4 [zi_430_0] := zall_w _ _ (by decide +kernel)
noncomputable def xi_430 (pc : Nat) : XIs := zx zi_430_0
theorem xi_ok430 (pc : Nat) : xi_ok cJ0_indexOf_0f7a4 (xi_430 pc) = true := zq1 xi_w430
noncomputable def zi_431_0 : ZIs := [(0, ev_13), (1, ev_1842), (4, ev_489), (7, ev_13), (8, ev_261), (11, ev_196), (12, ev_201), (13, ev_13), (14, ev_1846), (17, ev_1847), (20, ev_760), (23, ev_13), (24, ev_261), (27, ev_196), (28, ev_201), (29, ev_13)]
noncomputable def zi_431_1 : ZIs := [(30, ev_1846), (33, ev_1848), (36, ev_128)]
set_option maxRecDepth 100000 in
theorem xi_w431 : zall cJ0_indexOf_7cf53 [zi_431_0, zi_431_1] := zall_w _ _ (by decide +kernel)
noncomputable def xi_431 (pc : Nat) : XIs := cond (Nat.blt pc 30) (zx zi_431_0) (zx zi_431_1)
theorem xi_ok431 (pc : Nat) : xi_ok cJ0_indexOf_7cf53 (xi_431 pc) = true := xi_c (zq1 xi_w431) (zq1 (zq2 xi_w431))
noncomputable def zi_432_0 : ZIs := [(0, ev_1849), (3, ev_385), (6, ev_13), (7, ev_280), (10, ev_134), (13, ev_7), (14, ev_128)]
set_option maxRecDepth 100000 in
theorem xi_w432 : zall cJ0_coder_7d493 [zi_432_0] := zall_w _ _ (by decide +kernel)
noncomputable def xi_432 (pc : Nat) : XIs := zx zi_432_0
theorem xi_ok432 (pc : Nat) : xi_ok cJ0_coder_7d493 (xi_432 pc) = true := zq1 xi_w432
noncomputable def zi_433_0 : ZIs := [(0, ev_1849), (3, ev_1005), (6, ev_13), (7, ev_280), (10, ev_326), (13, ev_7), (14, ev_134), (17, ev_10), (18, ev_128)]
set_option maxRecDepth 100000 in
theorem xi_w433 : zall cJ0_isLatin1_aae02 [zi_433_0] := zall_w _ _ (by decide +kernel)
noncomputable def xi_433 (pc : Nat) : XIs := zx zi_433_0
theorem xi_ok433 (pc : Nat) : xi_ok cJ0_isLatin1_aae02 (xi_433 pc) = true := zq1 xi_w433
noncomputable def zi_434_0 : ZIs := [(0, ev_483), (1, ev_196), (2, ev_1850), (5, ev_1851), (8, ev_50), (9, ev_260)]
set_option maxRecDepth 100000 in
theorem xi_w434 : zall cJ0_checkIndex_df160 [zi_434_0] := zall_w _ _ (by decide +kernel)
noncomputable def xi_434 (pc : Nat) : XIs := zx zi_434_0
theorem xi_ok434 (pc : Nat) : xi_ok cJ0_checkIndex_df160 (xi_434 pc) = true := zq1 xi_w434
noncomputable def zi_435_0 : ZIs := [(0, ev_196), (1, ev_13), (2, ev_14), (3, ev_1852), (6, ev_13), (7, ev_196), (8, ev_1294), (9, ev_1853), (12, ev_20), (13, ev_423), (14, ev_128)]
set_option maxRecDepth 100000 in
theorem xi_w435 : zall cJ1_charAt_3b067 [zi_435_0] := zall_w _ _ (by decide +kernel)
noncomputable def xi_435 (pc : Nat) : XIs := zx zi_435_0
theorem xi_ok435 (pc : Nat) : xi_ok cJ1_charAt_3b067 (xi_435 pc) = true := zq1 xi_w435
noncomputable def zi_436_0 : ZIs := [(0, ev_483), (1, ev_1160), (4, ev_483), (5, ev_1853), (8, ev_887), (11, ev_7), (12, ev_134), (15, ev_10), (16, ev_128)]
set_option maxRecDepth 100000 in
theorem xi_w436 : zall cJ1_canEncode_9a6ad [zi_436_0] := zall_w _ _ (by decide +kernel)
noncomputable def xi_436 (pc : Nat) : XIs := zx zi_436_0
theorem xi_ok436 (pc : Nat) : xi_ok cJ1_canEncode_9a6ad (xi_436 pc) = true := zq1 xi_w436
noncomputable def zi_437_0 : ZIs := [(0, ev_196), (1, ev_1854), (4, ev_378), (7, ev_252), (8, ev_128), (9, ev_201), (10, ev_10), (11, ev_1855), (14, ev_294), (15, ev_202), (16, ev_13), (17, ev_14), (18, ev_1856), (21, ev_295), (22, ev_201), (23, ev_202)]
noncomputable def zi_437_1 : ZIs := [(24, ev_994), (27, ev_252), (28, ev_128), (29, ev_13), (30, ev_196), (31, ev_201), (32, ev_202), (33, ev_896), (36, ev_128)]
set_option maxRecDepth 100000 in
theorem xi_w437 : zall cJ1_indexOf_4cfef [zi_437_0, zi_437_1] := zall_w _ _ (by decide +kernel)
noncomputable def xi_437 (pc : Nat) : XIs := cond (Nat.blt pc 24) (zx zi_437_0) (zx zi_437_1)
theorem xi_ok437 (pc : Nat) : xi_ok cJ1_indexOf_4cfef (xi_437 pc) = true := xi_c (zq1 xi_w437) (zq1 (zq2 xi_w437))
noncomputable def zi_438_0 : ZIs := [(0, ev_196), (1, ev_1857), (2, ev_11), (4, ev_201), (5, ev_25), (7, ev_126), (9, ev_202), (10, ev_364), (13, ev_13), (14, ev_126), (16, ev_1294), (17, ev_12), (19, ev_775), (22, ev_126), (24, ev_128), (25, ev_343)]
noncomputable def zi_438_1 : ZIs := [(28, ev_1329), (31, ev_252), (32, ev_128)]
set_option maxRecDepth 100000 in
theorem xi_w438 : zall cJ1_indexOfChar_4cfef [zi_438_0, zi_438_1] := zall_w _ _ (by decide +kernel)
noncomputable def xi_438 (pc : Nat) : XIs := cond (Nat.blt pc 28) (zx zi_438_0) (zx zi_438_1)
theorem xi_ok438 (pc : Nat) : xi_ok cJ1_indexOfChar_4cfef (xi_438 pc) = true := xi_c (zq1 xi_w438) (zq1 (zq2 xi_w438))
noncomputable def zi_439_0 : ZIs := [(0, ev_483), (1, ev_1858), (4, ev_483), (5, ev_196), (6, ev_1551), (9, ev_26), (10, ev_483), (11, ev_196), (12, ev_896), (15, ev_1859), (16, ev_483), (17, ev_128)]
set_option maxRecDepth 100000 in
theorem xi_w439 : zall cJ3_checkIndex_8e157 [zi_439_0] := zall_w _ _ (by decide +kernel)
noncomputable def xi_439 (pc : Nat) : XIs := zx zi_439_0
theorem xi_ok439 (pc : Nat) : xi_ok cJ3_checkIndex_8e157 (xi_439 pc) = true := zq1 xi_w439
