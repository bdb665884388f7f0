noncomputable def zi_194_0 : ZIs := [(0, ev_13), (1, ev_21), (2, ev_202), (3, ev_215), (6, ev_13), (7, ev_266), (10, ev_201), (11, ev_303), (12, ev_7), (13, ev_20), (14, ev_132), (17, ev_1009), (20, ev_482), (21, ev_13), (22, ev_280), (25, ev_201)]
noncomputable def zi_194_1 : ZIs := [(26, ev_130), (27, ev_1010), (30, ev_136), (31, ev_993), (34, ev_710), (37, ev_440), (40, ev_13), (41, ev_280), (44, ev_201), (45, ev_130), (46, ev_1011), (49, ev_269), (52, ev_482)]
set_option maxRecDepth 100000 in
theorem xi_w194 : zall cX10_leastWeight [zi_194_0, zi_194_1] := zall_w _ _ (by decide +kernel)
noncomputable def xi_194 (pc : Nat) : XIs := cond (Nat.blt pc 26) (zx zi_194_0) (zx zi_194_1)
theorem xi_ok194 (pc : Nat) : xi_ok cX10_leastWeight (xi_194 pc) = true := xi_c (zq1 xi_w194) (zq1 (zq2 xi_w194))
noncomputable def zi_195_0 : ZIs := [(0, ev_13), (1, ev_21), (2, ev_202), (3, ev_215), (6, ev_13), (7, ev_266), (10, ev_201), (11, ev_303), (12, ev_7), (13, ev_20), (14, ev_1012), (17, ev_13), (18, ev_280), (21, ev_201), (22, ev_130), (23, ev_1010)]
noncomputable def zi_195_1 : ZIs := [(26, ev_136), (27, ev_1013), (30, ev_12), (32, ev_179), (33, ev_13), (34, ev_280), (37, ev_201), (38, ev_130), (39, ev_1011), (42, ev_274), (45, ev_136), (46, ev_1014), (49, ev_252), (50, ev_128), (51, ev_252), (52, ev_25)]
noncomputable def zi_195_2 : ZIs := [(54, ev_201), (55, ev_28), (57, ev_10), (58, ev_275), (60, ev_276), (62, ev_12), (64, ev_433), (67, ev_13), (68, ev_21), (69, ev_131), (71, ev_282), (74, ev_25), (76, ev_126), (78, ev_252), (79, ev_692), (82, ev_252)]
noncomputable def zi_195_3 : ZIs := [(83, ev_128), (84, ev_21), (85, ev_1015), (88, ev_126), (90, ev_18), (91, ev_28), (93, ev_956), (96, ev_1016), (99, ev_126), (101, ev_128)]
set_option maxRecDepth 100000 in
theorem xi_w195 : zall cX10_leastArc [zi_195_0, zi_195_1, zi_195_2, zi_195_3] := zall_w _ _ (by decide +kernel)
noncomputable def xi_195 (pc : Nat) : XIs := cond (Nat.blt pc 54) (cond (Nat.blt pc 26) (zx zi_195_0) (zx zi_195_1)) (cond (Nat.blt pc 83) (zx zi_195_2) (zx zi_195_3))
theorem xi_ok195 (pc : Nat) : xi_ok cX10_leastArc (xi_195 pc) = true := xi_c (xi_c (zq1 xi_w195) (zq1 (zq2 xi_w195))) (xi_c (zq1 (zq2 (zq2 xi_w195))) (zq1 (zq2 (zq2 (zq2 xi_w195)))))
noncomputable def zi_196_0 : ZIs := [(0, ev_21), (1, ev_1017), (4, ev_201), (5, ev_18), (6, ev_295), (7, ev_202), (8, ev_21), (9, ev_1017), (12, ev_201), (13, ev_7), (14, ev_22), (15, ev_18), (16, ev_1018), (19, ev_21), (20, ev_1019), (23, ev_202)]
noncomputable def zi_196_1 : ZIs := [(24, ev_18), (25, ev_11), (27, ev_13), (28, ev_280), (31, ev_21), (32, ev_1015), (35, ev_12), (37, ev_18), (38, ev_130), (39, ev_1010), (42, ev_136), (43, ev_860), (46, ev_21), (47, ev_12), (49, ev_1020), (52, ev_13)]
noncomputable def zi_196_2 : ZIs := [(53, ev_280), (56, ev_21), (57, ev_1015), (60, ev_12), (62, ev_18), (63, ev_130), (64, ev_458), (65, ev_13), (66, ev_280), (69, ev_201), (70, ev_130), (71, ev_136), (72, ev_351), (75, ev_12), (77, ev_128), (78, ev_300)]
noncomputable def zi_196_3 : ZIs := [(81, ev_1021), (84, ev_252), (85, ev_128)]
set_option maxRecDepth 100000 in
theorem xi_w196 : zall cX10_stepFrom [zi_196_0, zi_196_1, zi_196_2, zi_196_3] := zall_w _ _ (by decide +kernel)
noncomputable def xi_196 (pc : Nat) : XIs := cond (Nat.blt pc 53) (cond (Nat.blt pc 24) (zx zi_196_0) (zx zi_196_1)) (cond (Nat.blt pc 81) (zx zi_196_2) (zx zi_196_3))
theorem xi_ok196 (pc : Nat) : xi_ok cX10_stepFrom (xi_196 pc) = true := xi_c (xi_c (zq1 xi_w196) (zq1 (zq2 xi_w196))) (xi_c (zq1 (zq2 (zq2 xi_w196))) (zq1 (zq2 (zq2 (zq2 xi_w196)))))
noncomputable def zi_197_0 : ZIs := [(0, ev_13), (1, ev_719), (4, ev_196), (5, ev_18), (6, ev_179), (7, ev_1011), (10, ev_493), (11, ev_133), (12, ev_458), (13, ev_482)]
set_option maxRecDepth 100000 in
theorem xi_w197 : zall cX10_costOf [zi_197_0] := zall_w _ _ (by decide +kernel)
noncomputable def xi_197 (pc : Nat) : XIs := zx zi_197_0
theorem xi_ok197 (pc : Nat) : xi_ok cX10_costOf (xi_197 pc) = true := zq1 xi_w197
noncomputable def zi_198_0 : ZIs := [(0, ev_21), (1, ev_395), (4, ev_13), (5, ev_261), (8, ev_21), (9, ev_948), (12, ev_691), (15, ev_13), (16, ev_724), (19, ev_201), (20, ev_609), (23, ev_260), (24, ev_13), (25, ev_21), (26, ev_948), (29, ev_253)]
noncomputable def zi_198_1 : ZIs := [(32, ev_13), (33, ev_201), (34, ev_1022), (37, ev_13), (38, ev_280), (41, ev_1010), (44, ev_1023), (47, ev_13), (48, ev_280), (51, ev_201), (52, ev_135), (53, ev_198), (54, ev_7), (55, ev_201), (56, ev_277), (57, ev_295)]
noncomputable def zi_198_2 : ZIs := [(58, ev_10), (59, ev_11), (61, ev_12), (63, ev_21), (64, ev_792), (67, ev_687), (70, ev_202), (71, ev_417), (74, ev_13), (75, ev_21), (76, ev_202), (77, ev_238), (80, ev_295), (81, ev_348), (84, ev_712), (87, ev_13)]
noncomputable def zi_198_3 : ZIs := [(88, ev_202), (89, ev_326), (92, ev_10), (93, ev_789), (96, ev_21), (97, ev_793), (100, ev_13), (101, ev_21), (102, ev_202), (103, ev_238), (106, ev_252), (107, ev_570), (110, ev_664), (113, ev_260)]
set_option maxRecDepth 100000 in
theorem xi_w198 : zall cX10_measure [zi_198_0, zi_198_1, zi_198_2, zi_198_3] := zall_w _ _ (by decide +kernel)
noncomputable def xi_198 (pc : Nat) : XIs := cond (Nat.blt pc 58) (cond (Nat.blt pc 32) (zx zi_198_0) (zx zi_198_1)) (cond (Nat.blt pc 88) (zx zi_198_2) (zx zi_198_3))
theorem xi_ok198 (pc : Nat) : xi_ok cX10_measure (xi_198 pc) = true := xi_c (xi_c (zq1 xi_w198) (zq1 (zq2 xi_w198))) (xi_c (zq1 (zq2 (zq2 xi_w198))) (zq1 (zq2 (zq2 (zq2 xi_w198)))))
noncomputable def zi_199_0 : ZIs := [(0, ev_10), (1, ev_295), (2, ev_201), (3, ev_11), (5, ev_12), (7, ev_1024), (10, ev_12), (12, ev_1025), (15, ev_25), (17, ev_21), (18, ev_428), (21, ev_126), (23, ev_18), (24, ev_28), (26, ev_131), (28, ev_21)]
noncomputable def zi_199_1 : ZIs := [(29, ev_428), (32, ev_126), (34, ev_7), (35, ev_22), (36, ev_18), (37, ev_1026), (40, ev_21), (41, ev_1027), (44, ev_131), (46, ev_18), (47, ev_275), (49, ev_21), (50, ev_1028), (53, ev_276), (55, ev_18), (56, ev_313)]
noncomputable def zi_199_2 : ZIs := [(58, ev_21), (59, ev_276), (61, ev_1020), (64, ev_13), (65, ev_280), (68, ev_126), (70, ev_130), (71, ev_458), (72, ev_13), (73, ev_280), (76, ev_314), (78, ev_130), (79, ev_136), (80, ev_1029), (83, ev_13), (84, ev_280)]
noncomputable def zi_199_3 : ZIs := [(87, ev_314), (89, ev_21), (90, ev_276), (92, ev_1020), (95, ev_13), (96, ev_280), (99, ev_126), (101, ev_130), (102, ev_458), (103, ev_198), (104, ev_202), (105, ev_7), (106, ev_314), (108, ev_277), (109, ev_278), (110, ev_295)]
noncomputable def zi_199_4 : ZIs := [(111, ev_320), (114, ev_321), (117, ev_12), (119, ev_12), (121, ev_7), (122, ev_16), (123, ev_20), (124, ev_11), (126, ev_607), (129, ev_202), (130, ev_128)]
set_option maxRecDepth 100000 in
theorem xi_w199 : zall cX10_relax [zi_199_0, zi_199_1, zi_199_2, zi_199_3, zi_199_4] := zall_w _ _ (by decide +kernel)
noncomputable def xi_199 (pc : Nat) : XIs := cond (Nat.blt pc 58) (cond (Nat.blt pc 29) (zx zi_199_0) (zx zi_199_1)) (cond (Nat.blt pc 87) (zx zi_199_2) (cond (Nat.blt pc 111) (zx zi_199_3) (zx zi_199_4)))
theorem xi_ok199 (pc : Nat) : xi_ok cX10_relax (xi_199 pc) = true := xi_c (xi_c (zq1 xi_w199) (zq1 (zq2 xi_w199))) (xi_c (zq1 (zq2 (zq2 xi_w199))) (xi_c (zq1 (zq2 (zq2 (zq2 xi_w199)))) (zq1 (zq2 (zq2 (zq2 (zq2 xi_w199)))))))
noncomputable def zi_200_0 : ZIs := [(0, ev_21), (1, ev_395), (4, ev_13), (5, ev_441), (8, ev_252), (9, ev_1030), (12, ev_13), (13, ev_441), (16, ev_201), (17, ev_1031), (19, ev_299), (20, ev_21), (21, ev_995), (24, ev_11), (26, ev_10), (27, ev_25)]
noncomputable def zi_200_1 : ZIs := [(29, ev_126), (31, ev_21), (32, ev_792), (35, ev_1032), (38, ev_13), (39, ev_12), (41, ev_744), (44, ev_28), (46, ev_131), (48, ev_202), (49, ev_1033), (52, ev_13), (53, ev_441), (56, ev_131), (58, ev_18), (59, ev_252)]
noncomputable def zi_200_2 : ZIs := [(60, ev_811), (63, ev_13), (64, ev_441), (67, ev_202), (68, ev_18), (69, ev_128), (70, ev_12), (72, ev_7), (73, ev_131), (75, ev_277), (76, ev_252), (77, ev_317), (78, ev_20), (79, ev_11), (81, ev_21), (82, ev_1017)]
noncomputable def zi_200_3 : ZIs := [(85, ev_131), (87, ev_18), (88, ev_275), (90, ev_276), (92, ev_21), (93, ev_1017), (96, ev_131), (98, ev_7), (99, ev_22), (100, ev_18), (101, ev_817), (104, ev_21), (105, ev_1019), (108, ev_276), (110, ev_18), (111, ev_313)]
noncomputable def zi_200_4 : ZIs := [(113, ev_13), (114, ev_441), (117, ev_21), (118, ev_1015), (121, ev_314), (123, ev_18), (124, ev_13), (125, ev_441), (128, ev_21), (129, ev_1015), (132, ev_314), (134, ev_18), (135, ev_18), (136, ev_13), (137, ev_441), (140, ev_131)]
noncomputable def zi_200_5 : ZIs := [(142, ev_18), (143, ev_21), (144, ev_585), (147, ev_314), (149, ev_18), (150, ev_1034), (153, ev_1035), (156, ev_299), (157, ev_956), (160, ev_1036), (163, ev_343), (166, ev_1037), (169, ev_13), (170, ev_441), (173, ev_202), (174, ev_18)]
noncomputable def zi_200_6 : ZIs := [(175, ev_128)]
set_option maxRecDepth 100000 in
theorem xi_w200 : zall cX10_widest [zi_200_0, zi_200_1, zi_200_2, zi_200_3, zi_200_4, zi_200_5, zi_200_6] := zall_w _ _ (by decide +kernel)
noncomputable def xi_200 (pc : Nat) : XIs := cond (Nat.blt pc 85) (cond (Nat.blt pc 29) (zx zi_200_0) (cond (Nat.blt pc 60) (zx zi_200_1) (zx zi_200_2))) (cond (Nat.blt pc 142) (cond (Nat.blt pc 113) (zx zi_200_3) (zx zi_200_4)) (cond (Nat.blt pc 175) (zx zi_200_5) (zx zi_200_6)))
theorem xi_ok200 (pc : Nat) : xi_ok cX10_widest (xi_200 pc) = true := xi_c (xi_c (zq1 xi_w200) (xi_c (zq1 (zq2 xi_w200)) (zq1 (zq2 (zq2 xi_w200))))) (xi_c (xi_c (zq1 (zq2 (zq2 (zq2 xi_w200)))) (zq1 (zq2 (zq2 (zq2 (zq2 xi_w200)))))) (xi_c (zq1 (zq2 (zq2 (zq2 (zq2 (zq2 xi_w200)))))) (zq1 (zq2 (zq2 (zq2 (zq2 (zq2 (zq2 xi_w200)))))))))
noncomputable def zi_201_0 : ZIs := [(0, ev_196), (1, ev_1025), (4, ev_294), (5, ev_196), (6, ev_295), (7, ev_202), (8, ev_860), (11, ev_13), (12, ev_441), (15, ev_202), (16, ev_1025), (19, ev_18), (20, ev_13), (21, ev_441), (24, ev_201), (25, ev_18)]
noncomputable def zi_201_1 : ZIs := [(26, ev_270), (29, ev_202), (30, ev_1025), (33, ev_294), (34, ev_202), (35, ev_202), (36, ev_7), (37, ev_16), (38, ev_20), (39, ev_295), (40, ev_862), (43, ev_201), (44, ev_128)]
set_option maxRecDepth 100000 in
theorem xi_w201 : zall cX10_widestOf [zi_201_0, zi_201_1] := zall_w _ _ (by decide +kernel)
noncomputable def xi_201 (pc : Nat) : XIs := cond (Nat.blt pc 26) (zx zi_201_0) (zx zi_201_1)
theorem xi_ok201 (pc : Nat) : xi_ok cX10_widestOf (xi_201 pc) = true := xi_c (zq1 xi_w201) (zq1 (zq2 xi_w201))
noncomputable def zi_202_0 : ZIs := [(0, ev_13), (1, ev_21), (2, ev_201), (3, ev_1038), (6, ev_13), (7, ev_1039), (10, ev_202), (11, ev_18), (12, ev_128)]
set_option maxRecDepth 100000 in
theorem xi_w202 : zall cX10_fewestArcs [zi_202_0] := zall_w _ _ (by decide +kernel)
noncomputable def xi_202 (pc : Nat) : XIs := zx zi_202_0
theorem xi_ok202 (pc : Nat) : xi_ok cX10_fewestArcs (xi_202 pc) = true := zq1 xi_w202
noncomputable def zi_203_0 : ZIs := [(0, ev_13), (1, ev_21), (2, ev_201), (3, ev_1038), (6, ev_13), (7, ev_1039), (10, ev_202), (11, ev_18), (12, ev_25), (14, ev_13), (15, ev_1039), (18, ev_12), (20, ev_18), (21, ev_28), (23, ev_13), (24, ev_1040)]
noncomputable def zi_203_1 : ZIs := [(27, ev_12), (29, ev_130), (30, ev_922), (32, ev_126), (34, ev_252), (35, ev_904), (38, ev_131), (40, ev_252), (41, ev_692), (44, ev_10), (45, ev_128), (46, ev_12), (48, ev_201), (49, ev_820), (52, ev_13), (53, ev_21)]
noncomputable def zi_203_2 : ZIs := [(54, ev_12), (56, ev_1038), (59, ev_13), (60, ev_1039), (63, ev_202), (64, ev_18), (65, ev_252), (66, ev_901), (69, ev_131), (71, ev_13), (72, ev_1039), (75, ev_202), (76, ev_18), (77, ev_22), (78, ev_126), (80, ev_127)]
noncomputable def zi_203_3 : ZIs := [(83, ev_10), (84, ev_128), (85, ev_923), (87, ev_13), (88, ev_1040), (91, ev_202), (92, ev_130), (93, ev_493), (94, ev_1041), (97, ev_528), (98, ev_992), (99, ev_128)]
set_option maxRecDepth 100000 in
theorem xi_w203 : zall cX10_countBy [zi_203_0, zi_203_1, zi_203_2, zi_203_3] := zall_w _ _ (by decide +kernel)
noncomputable def xi_203 (pc : Nat) : XIs := cond (Nat.blt pc 54) (cond (Nat.blt pc 27) (zx zi_203_0) (zx zi_203_1)) (cond (Nat.blt pc 83) (zx zi_203_2) (zx zi_203_3))
theorem xi_ok203 (pc : Nat) : xi_ok cX10_countBy (xi_203 pc) = true := xi_c (xi_c (zq1 xi_w203) (zq1 (zq2 xi_w203))) (xi_c (zq1 (zq2 (zq2 xi_w203))) (zq1 (zq2 (zq2 (zq2 xi_w203)))))
noncomputable def zi_204_0 : ZIs := [(0, ev_21), (1, ev_395), (4, ev_13), (5, ev_1039), (8, ev_252), (9, ev_1030), (12, ev_13), (13, ev_1040), (16, ev_135), (17, ev_1023), (20, ev_13), (21, ev_1039), (24, ev_201), (25, ev_10), (26, ev_299), (27, ev_13)]
noncomputable def zi_204_1 : ZIs := [(28, ev_1040), (31, ev_201), (32, ev_133), (33, ev_198), (34, ev_13), (35, ev_466), (38, ev_10), (39, ev_201), (40, ev_299), (41, ev_7), (42, ev_295), (43, ev_10), (44, ev_11), (46, ev_12), (48, ev_202), (49, ev_1042)]
noncomputable def zi_204_2 : ZIs := [(52, ev_13), (53, ev_466), (56, ev_12), (58, ev_18), (59, ev_25), (61, ev_21), (62, ev_1017), (65, ev_126), (67, ev_18), (68, ev_28), (70, ev_131), (72, ev_21), (73, ev_1017), (76, ev_126), (78, ev_7), (79, ev_22)]
noncomputable def zi_204_3 : ZIs := [(80, ev_18), (81, ev_1043), (84, ev_21), (85, ev_1015), (88, ev_21), (89, ev_1019), (92, ev_131), (94, ev_18), (95, ev_18), (96, ev_275), (98, ev_13), (99, ev_1039), (102, ev_276), (104, ev_18), (105, ev_252), (106, ev_420)]
noncomputable def zi_204_4 : ZIs := [(109, ev_202), (110, ev_180), (112, ev_930), (115, ev_13), (116, ev_1039), (119, ev_276), (121, ev_13), (122, ev_1039), (125, ev_126), (127, ev_18), (128, ev_7), (129, ev_22), (130, ev_299), (131, ev_13), (132, ev_466), (135, ev_202)]
noncomputable def zi_204_5 : ZIs := [(136, ev_276), (138, ev_299), (139, ev_300), (142, ev_13), (143, ev_1039), (146, ev_276), (148, ev_18), (149, ev_13), (150, ev_1039), (153, ev_126), (155, ev_18), (156, ev_7), (157, ev_22), (158, ev_890), (161, ev_13), (162, ev_1040)]
noncomputable def zi_204_6 : ZIs := [(165, ev_276), (167, ev_13), (168, ev_1040), (171, ev_276), (173, ev_130), (174, ev_13), (175, ev_1040), (178, ev_126), (180, ev_130), (181, ev_458), (182, ev_1041), (185, ev_528), (186, ev_198), (187, ev_320), (190, ev_481), (193, ev_348)]
noncomputable def zi_204_7 : ZIs := [(196, ev_1044), (199, ev_260)]
set_option maxRecDepth 100000 in
theorem xi_w204 : zall cX10_spread [zi_204_0, zi_204_1, zi_204_2, zi_204_3, zi_204_4, zi_204_5, zi_204_6, zi_204_7] := zall_w _ _ (by decide +kernel)
noncomputable def xi_204 (pc : Nat) : XIs := cond (Nat.blt pc 109) (cond (Nat.blt pc 52) (cond (Nat.blt pc 28) (zx zi_204_0) (zx zi_204_1)) (cond (Nat.blt pc 80) (zx zi_204_2) (zx zi_204_3))) (cond (Nat.blt pc 165) (cond (Nat.blt pc 136) (zx zi_204_4) (zx zi_204_5)) (cond (Nat.blt pc 196) (zx zi_204_6) (zx zi_204_7)))
theorem xi_ok204 (pc : Nat) : xi_ok cX10_spread (xi_204 pc) = true := xi_c (xi_c (xi_c (zq1 xi_w204) (zq1 (zq2 xi_w204))) (xi_c (zq1 (zq2 (zq2 xi_w204))) (zq1 (zq2 (zq2 (zq2 xi_w204)))))) (xi_c (xi_c (zq1 (zq2 (zq2 (zq2 (zq2 xi_w204))))) (zq1 (zq2 (zq2 (zq2 (zq2 (zq2 xi_w204))))))) (xi_c (zq1 (zq2 (zq2 (zq2 (zq2 (zq2 (zq2 xi_w204))))))) (zq1 (zq2 (zq2 (zq2 (zq2 (zq2 (zq2 (zq2 xi_w204))))))))))
noncomputable def zi_205_0 : ZIs := [(0, ev_13), (1, ev_21), (2, ev_201), (3, ev_202), (4, ev_815), (7, ev_13), (8, ev_1045), (11, ev_1046), (14, ev_270), (17, ev_1047), (19, ev_216), (22, ev_13), (23, ev_1045), (26, ev_128)]
set_option maxRecDepth 100000 in
theorem xi_w205 : zall cX10_countShort [zi_205_0] := zall_w _ _ (by decide +kernel)
noncomputable def xi_205 (pc : Nat) : XIs := zx zi_205_0
theorem xi_ok205 (pc : Nat) : xi_ok cX10_countShort (xi_205 pc) = true := zq1 xi_w205
noncomputable def zi_206_0 : ZIs := [(0, ev_13), (1, ev_21), (2, ev_201), (3, ev_202), (4, ev_815), (7, ev_13), (8, ev_1045), (11, ev_1046), (14, ev_1048), (17, ev_12), (19, ev_13), (20, ev_1045), (23, ev_994), (26, ev_252), (27, ev_128), (28, ev_13)]
noncomputable def zi_206_1 : ZIs := [(29, ev_430), (32, ev_12), (34, ev_130), (35, ev_58), (37, ev_126), (39, ev_461), (41, ev_180), (43, ev_908), (44, ev_1049), (47, ev_183), (48, ev_992), (49, ev_994), (52, ev_252), (53, ev_128), (54, ev_461), (56, ev_1050)]
noncomputable def zi_206_2 : ZIs := [(58, ev_470), (60, ev_126), (62, ev_355), (63, ev_16), (64, ev_908), (65, ev_1051), (68, ev_183), (69, ev_992), (70, ev_128)]
set_option maxRecDepth 100000 in
theorem xi_w206 : zall cX10_arcOfShort [zi_206_0, zi_206_1, zi_206_2] := zall_w _ _ (by decide +kernel)
noncomputable def xi_206 (pc : Nat) : XIs := cond (Nat.blt pc 29) (zx zi_206_0) (cond (Nat.blt pc 58) (zx zi_206_1) (zx zi_206_2))
theorem xi_ok206 (pc : Nat) : xi_ok cX10_arcOfShort (xi_206 pc) = true := xi_c (zq1 xi_w206) (xi_c (zq1 (zq2 xi_w206)) (zq1 (zq2 (zq2 xi_w206))))
noncomputable def zi_207_0 : ZIs := [(0, ev_13), (1, ev_434), (4, ev_21), (5, ev_948), (8, ev_1052), (11, ev_13), (12, ev_1053), (15, ev_201), (16, ev_691), (19, ev_13), (20, ev_1054), (23, ev_202), (24, ev_609), (27, ev_260), (28, ev_21), (29, ev_395)]
noncomputable def zi_207_1 : ZIs := [(32, ev_13), (33, ev_21), (34, ev_948), (37, ev_371), (40, ev_13), (41, ev_201), (42, ev_1055), (45, ev_13), (46, ev_202), (47, ev_1056), (50, ev_13), (51, ev_10), (52, ev_1057), (55, ev_13), (56, ev_21), (57, ev_201)]
noncomputable def zi_207_2 : ZIs := [(58, ev_7), (59, ev_201), (60, ev_277), (61, ev_10), (62, ev_135), (63, ev_47), (66, ev_13), (67, ev_1045), (70, ev_1046), (73, ev_887), (76, ev_13), (77, ev_1058), (80, ev_260)]
set_option maxRecDepth 100000 in
theorem xi_w207 : zall cX10_collect [zi_207_0, zi_207_1, zi_207_2] := zall_w _ _ (by decide +kernel)
noncomputable def xi_207 (pc : Nat) : XIs := cond (Nat.blt pc 32) (zx zi_207_0) (cond (Nat.blt pc 58) (zx zi_207_1) (zx zi_207_2))
theorem xi_ok207 (pc : Nat) : xi_ok cX10_collect (xi_207 pc) = true := xi_c (zq1 xi_w207) (xi_c (zq1 (zq2 xi_w207)) (zq1 (zq2 (zq2 xi_w207))))
noncomputable def zi_208_0 : ZIs := [(0, ev_21), (1, ev_1017), (4, ev_201), (5, ev_18), (6, ev_275), (8, ev_276), (10, ev_21), (11, ev_1017), (14, ev_201), (15, ev_7), (16, ev_22), (17, ev_18), (18, ev_1059), (21, ev_13), (22, ev_1045), (25, ev_1046)]
noncomputable def zi_208_1 : ZIs := [(28, ev_1060), (31, ev_12), (33, ev_32), (34, ev_1042), (37, ev_21), (38, ev_1019), (41, ev_276), (43, ev_18), (44, ev_313), (46, ev_21), (47, ev_1015), (50, ev_314), (52, ev_18), (53, ev_327), (55, ev_502), (57, ev_21)]
noncomputable def zi_208_2 : ZIs := [(58, ev_719), (61, ev_314), (63, ev_18), (64, ev_179), (65, ev_1061), (67, ev_181), (68, ev_458), (69, ev_314), (71, ev_179), (72, ev_1050), (74, ev_470), (76, ev_12), (78, ev_355), (79, ev_16), (80, ev_181), (81, ev_458)]
noncomputable def zi_208_3 : ZIs := [(82, ev_1062), (84, ev_329), (86, ev_13), (87, ev_1054), (90, ev_1063), (93, ev_13), (94, ev_430), (97, ev_13), (98, ev_1045), (101, ev_1064), (103, ev_1065), (106, ev_458), (107, ev_12), (109, ev_7), (110, ev_22), (111, ev_179)]
noncomputable def zi_208_4 : ZIs := [(112, ev_180), (114, ev_181), (115, ev_458), (116, ev_198), (117, ev_13), (118, ev_1), (119, ev_1045), (122, ev_7), (123, ev_22), (124, ev_1057), (127, ev_1066), (130, ev_202), (131, ev_329), (133, ev_303), (134, ev_7), (135, ev_20)]
noncomputable def zi_208_5 : ZIs := [(136, ev_312), (139, ev_13), (140, ev_21), (141, ev_329), (143, ev_202), (144, ev_7), (145, ev_329), (147, ev_277), (148, ev_278), (149, ev_31), (150, ev_12), (152, ev_16), (153, ev_1067), (156, ev_1013), (159, ev_13), (160, ev_21)]
noncomputable def zi_208_6 : ZIs := [(161, ev_329), (163, ev_202), (164, ev_7), (165, ev_329), (167, ev_277), (168, ev_278), (169, ev_12), (171, ev_7), (172, ev_22), (173, ev_1064), (175, ev_47), (178, ev_956), (181, ev_1068), (184, ev_260)]
set_option maxRecDepth 100000 in
theorem xi_w208 : zall cX10_gather [zi_208_0, zi_208_1, zi_208_2, zi_208_3, zi_208_4, zi_208_5, zi_208_6] := zall_w _ _ (by decide +kernel)
noncomputable def xi_208 (pc : Nat) : XIs := cond (Nat.blt pc 82) (cond (Nat.blt pc 28) (zx zi_208_0) (cond (Nat.blt pc 58) (zx zi_208_1) (zx zi_208_2))) (cond (Nat.blt pc 136) (cond (Nat.blt pc 112) (zx zi_208_3) (zx zi_208_4)) (cond (Nat.blt pc 161) (zx zi_208_5) (zx zi_208_6)))
theorem xi_ok208 (pc : Nat) : xi_ok cX10_gather (xi_208 pc) = true := xi_c (xi_c (zq1 xi_w208) (xi_c (zq1 (zq2 xi_w208)) (zq1 (zq2 (zq2 xi_w208))))) (xi_c (xi_c (zq1 (zq2 (zq2 (zq2 xi_w208)))) (zq1 (zq2 (zq2 (zq2 (zq2 xi_w208)))))) (xi_c (zq1 (zq2 (zq2 (zq2 (zq2 (zq2 xi_w208)))))) (zq1 (zq2 (zq2 (zq2 (zq2 (zq2 (zq2 xi_w208)))))))))
noncomputable def zi_209_0 : ZIs := [(0, ev_21), (1, ev_793), (4, ev_13), (5, ev_1054), (8, ev_18), (9, ev_25), (11, ev_12), (13, ev_7), (14, ev_602), (17, ev_126), (19, ev_201), (20, ev_303), (21, ev_7), (22, ev_20), (23, ev_137), (26, ev_7)]
noncomputable def zi_209_1 : ZIs := [(27, ev_128), (28, ev_21), (29, ev_1069), (32, ev_201), (33, ev_18), (34, ev_202), (35, ev_252), (36, ev_317), (37, ev_20), (38, ev_28), (40, ev_12), (42, ev_30), (43, ev_414), (46, ev_131), (48, ev_126), (50, ev_20)]
noncomputable def zi_209_2 : ZIs := [(51, ev_137), (54, ev_7), (55, ev_128), (56, ev_131), (58, ev_275), (60, ev_12), (62, ev_31), (63, ev_1070), (66, ev_276), (68, ev_1071), (71, ev_21), (72, ev_1069), (75, ev_276), (77, ev_1025), (80, ev_18), (81, ev_202)]
noncomputable def zi_209_3 : ZIs := [(82, ev_252), (83, ev_317), (84, ev_20), (85, ev_126), (87, ev_20), (88, ev_137), (91, ev_7), (92, ev_128), (93, ev_276), (95, ev_276), (97, ev_7), (98, ev_16), (99, ev_20), (100, ev_275), (102, ev_516), (105, ev_10)]
noncomputable def zi_209_4 : ZIs := [(106, ev_128)]
set_option maxRecDepth 100000 in
theorem xi_w209 : zall cX10_leads [zi_209_0, zi_209_1, zi_209_2, zi_209_3, zi_209_4] := zall_w _ _ (by decide +kernel)
noncomputable def xi_209 (pc : Nat) : XIs := cond (Nat.blt pc 51) (cond (Nat.blt pc 27) (zx zi_209_0) (zx zi_209_1)) (cond (Nat.blt pc 82) (zx zi_209_2) (cond (Nat.blt pc 106) (zx zi_209_3) (zx zi_209_4)))
theorem xi_ok209 (pc : Nat) : xi_ok cX10_leads (xi_209 pc) = true := xi_c (xi_c (zq1 xi_w209) (zq1 (zq2 xi_w209))) (xi_c (zq1 (zq2 (zq2 xi_w209))) (xi_c (zq1 (zq2 (zq2 (zq2 xi_w209)))) (zq1 (zq2 (zq2 (zq2 (zq2 xi_w209)))))))
noncomputable def zi_210_0 : ZIs := [(0, ev_7), (1, ev_686), (2, ev_196), (3, ev_13), (4, ev_1045), (7, ev_31), (8, ev_583), (9, ev_847), (12, ev_31), (13, ev_196), (14, ev_355), (15, ev_7), (16, ev_22), (17, ev_686), (18, ev_1072), (21, ev_196)]
noncomputable def zi_210_1 : ZIs := [(22, ev_1073), (25, ev_196), (26, ev_294), (27, ev_201), (28, ev_13), (29, ev_1045), (32, ev_816), (35, ev_13), (36, ev_430), (39, ev_201), (40, ev_130), (41, ev_925), (42, ev_201), (43, ev_25), (45, ev_126), (47, ev_196)]
noncomputable def zi_210_2 : ZIs := [(48, ev_1070), (51, ev_13), (52, ev_430), (55, ev_126), (57, ev_196), (58, ev_16), (59, ev_130), (60, ev_485), (61, ev_136), (62, ev_605), (65, ev_13), (66, ev_430), (69, ev_126), (71, ev_13), (72, ev_430), (75, ev_126)]
noncomputable def zi_210_3 : ZIs := [(77, ev_196), (78, ev_16), (79, ev_130), (80, ev_198), (81, ev_126), (83, ev_196), (84, ev_16), (85, ev_25), (87, ev_516), (90, ev_13), (91, ev_430), (94, ev_126), (96, ev_485), (97, ev_198), (98, ev_304), (101, ev_1021)]
noncomputable def zi_210_4 : ZIs := [(104, ev_196), (105, ev_31), (106, ev_583), (107, ev_686), (108, ev_1074), (111, ev_260)]
set_option maxRecDepth 100000 in
theorem xi_w210 : zall cX10_sortKeys [zi_210_0, zi_210_1, zi_210_2, zi_210_3, zi_210_4] := zall_w _ _ (by decide +kernel)
noncomputable def xi_210 (pc : Nat) : XIs := cond (Nat.blt pc 48) (cond (Nat.blt pc 22) (zx zi_210_0) (zx zi_210_1)) (cond (Nat.blt pc 77) (zx zi_210_2) (cond (Nat.blt pc 104) (zx zi_210_3) (zx zi_210_4)))
theorem xi_ok210 (pc : Nat) : xi_ok cX10_sortKeys (xi_210 pc) = true := xi_c (xi_c (zq1 xi_w210) (zq1 (zq2 xi_w210))) (xi_c (zq1 (zq2 (zq2 xi_w210))) (xi_c (zq1 (zq2 (zq2 (zq2 xi_w210)))) (zq1 (zq2 (zq2 (zq2 (zq2 xi_w210)))))))
noncomputable def zi_211_0 : ZIs := [(0, ev_13), (1, ev_1075), (4, ev_13), (5, ev_1076), (8, ev_1), (9, ev_1077), (12, ev_1078), (15, ev_13), (16, ev_1079), (19, ev_1), (20, ev_1080), (23, ev_368), (26, ev_13), (27, ev_252), (28, ev_1006), (31, ev_13)]
noncomputable def zi_211_1 : ZIs := [(32, ev_1081), (35, ev_1), (36, ev_1082), (39, ev_661), (42, ev_13), (43, ev_1083), (46, ev_1), (47, ev_1084), (50, ev_533), (53, ev_13), (54, ev_1085), (57, ev_1), (58, ev_1086), (61, ev_1087), (64, ev_13), (65, ev_1088)]
noncomputable def zi_211_2 : ZIs := [(68, ev_1), (69, ev_1089), (72, ev_667), (75, ev_13), (76, ev_1090), (79, ev_1), (80, ev_1091), (83, ev_544), (86, ev_13), (87, ev_1092), (90, ev_1), (91, ev_1093), (94, ev_1094), (97, ev_13), (98, ev_1095), (101, ev_1)]
noncomputable def zi_211_3 : ZIs := [(102, ev_1096), (105, ev_1097), (108, ev_13), (109, ev_1098), (112, ev_1), (113, ev_1099), (116, ev_286), (119, ev_13), (120, ev_1100), (123, ev_1), (124, ev_1101), (127, ev_1102), (130, ev_260)]
set_option maxRecDepth 100000 in
theorem xi_w211 : zall cX11_init [zi_211_0, zi_211_1, zi_211_2, zi_211_3] := zall_w _ _ (by decide +kernel)
noncomputable def xi_211 (pc : Nat) : XIs := cond (Nat.blt pc 68) (cond (Nat.blt pc 32) (zx zi_211_0) (zx zi_211_1)) (cond (Nat.blt pc 102) (zx zi_211_2) (zx zi_211_3))
theorem xi_ok211 (pc : Nat) : xi_ok cX11_init (xi_211 pc) = true := xi_c (xi_c (zq1 xi_w211) (zq1 (zq2 xi_w211))) (xi_c (zq1 (zq2 (zq2 xi_w211))) (zq1 (zq2 (zq2 (zq2 xi_w211)))))
noncomputable def zi_212_0 : ZIs := [(0, ev_196), (1, ev_965), (4, ev_857), (7, ev_13), (8, ev_1103), (11, ev_415), (14, ev_1104), (17, ev_180), (19, ev_684), (22, ev_13), (23, ev_1103), (26, ev_424), (29, ev_326), (32, ev_7), (33, ev_134), (36, ev_10)]
noncomputable def zi_212_1 : ZIs := [(37, ev_570), (40, ev_13), (41, ev_1103), (44, ev_196), (45, ev_427), (48, ev_128)]
set_option maxRecDepth 100000 in
theorem xi_w212 : zall cX11_node [zi_212_0, zi_212_1] := zall_w _ _ (by decide +kernel)
noncomputable def xi_212 (pc : Nat) : XIs := cond (Nat.blt pc 37) (zx zi_212_0) (zx zi_212_1)
theorem xi_ok212 (pc : Nat) : xi_ok cX11_node (xi_212 pc) = true := xi_c (zq1 xi_w212) (zq1 (zq2 xi_w212))
noncomputable def zi_213_0 : ZIs := [(0, ev_13), (1, ev_1103), (4, ev_196), (5, ev_201), (6, ev_202), (7, ev_12), (9, ev_126), (11, ev_736), (14, ev_857), (17, ev_13), (18, ev_1103), (21, ev_424), (24, ev_326), (27, ev_7), (28, ev_134), (31, ev_10)]
noncomputable def zi_213_1 : ZIs := [(32, ev_570), (35, ev_13), (36, ev_1103), (39, ev_196), (40, ev_201), (41, ev_202), (42, ev_12), (44, ev_126), (46, ev_243), (49, ev_128)]
set_option maxRecDepth 100000 in
theorem xi_w213 : zall cX11_arc [zi_213_0, zi_213_1] := zall_w _ _ (by decide +kernel)
noncomputable def xi_213 (pc : Nat) : XIs := cond (Nat.blt pc 32) (zx zi_213_0) (zx zi_213_1)
theorem xi_ok213 (pc : Nat) : xi_ok cX11_arc (xi_213 pc) = true := xi_c (zq1 xi_w213) (zq1 (zq2 xi_w213))
noncomputable def zi_214_0 : ZIs := [(0, ev_13), (1, ev_1103), (4, ev_415), (7, ev_196), (8, ev_920), (11, ev_857), (14, ev_13), (15, ev_1103), (18, ev_424), (21, ev_326), (24, ev_7), (25, ev_134), (28, ev_10), (29, ev_570), (32, ev_13), (33, ev_1103)]
noncomputable def zi_214_1 : ZIs := [(36, ev_196), (37, ev_432), (40, ev_13), (41, ev_1103), (44, ev_415), (47, ev_739), (50, ev_128)]
set_option maxRecDepth 100000 in
theorem xi_w214 : zall cX11_take [zi_214_0, zi_214_1] := zall_w _ _ (by decide +kernel)
noncomputable def xi_214 (pc : Nat) : XIs := cond (Nat.blt pc 36) (zx zi_214_0) (zx zi_214_1)
theorem xi_ok214 (pc : Nat) : xi_ok cX11_take (xi_214 pc) = true := xi_c (zq1 xi_w214) (zq1 (zq2 xi_w214))
noncomputable def zi_215_0 : ZIs := [(0, ev_13), (1, ev_1103), (4, ev_415), (7, ev_196), (8, ev_920), (11, ev_772), (14, ev_201), (15, ev_202), (16, ev_1105), (19, ev_132), (22, ev_7), (23, ev_134), (26, ev_10), (27, ev_857), (30, ev_13), (31, ev_1103)]
noncomputable def zi_215_1 : ZIs := [(34, ev_424), (37, ev_326), (40, ev_7), (41, ev_134), (44, ev_10), (45, ev_570), (48, ev_13), (49, ev_1103), (52, ev_415), (55, ev_196), (56, ev_201), (57, ev_748), (60, ev_11), (62, ev_13), (63, ev_1103), (66, ev_196)]
noncomputable def zi_215_2 : ZIs := [(67, ev_201), (68, ev_202), (69, ev_1106), (72, ev_12), (74, ev_128)]
set_option maxRecDepth 100000 in
theorem xi_w215 : zall cX11_set [zi_215_0, zi_215_1, zi_215_2] := zall_w _ _ (by decide +kernel)
noncomputable def xi_215 (pc : Nat) : XIs := cond (Nat.blt pc 34) (zx zi_215_0) (cond (Nat.blt pc 67) (zx zi_215_1) (zx zi_215_2))
theorem xi_ok215 (pc : Nat) : xi_ok cX11_set (xi_215 pc) = true := xi_c (zq1 xi_w215) (xi_c (zq1 (zq2 xi_w215)) (zq1 (zq2 (zq2 xi_w215))))
noncomputable def zi_216_0 : ZIs := [(0, ev_13), (1, ev_1103), (4, ev_415), (7, ev_196), (8, ev_814), (11, ev_1005), (14, ev_201), (15, ev_965), (18, ev_132), (21, ev_7), (22, ev_134), (25, ev_10), (26, ev_857), (29, ev_13), (30, ev_1103), (33, ev_424)]
noncomputable def zi_216_1 : ZIs := [(36, ev_326), (39, ev_7), (40, ev_134), (43, ev_10), (44, ev_570), (47, ev_13), (48, ev_1103), (51, ev_415), (54, ev_453), (57, ev_196), (58, ev_18), (59, ev_295), (60, ev_13), (61, ev_1103), (64, ev_196), (65, ev_201)]
noncomputable def zi_216_2 : ZIs := [(66, ev_603), (69, ev_202), (70, ev_128)]
set_option maxRecDepth 100000 in
theorem xi_w216 : zall cX11_label [zi_216_0, zi_216_1, zi_216_2] := zall_w _ _ (by decide +kernel)
noncomputable def xi_216 (pc : Nat) : XIs := cond (Nat.blt pc 36) (zx zi_216_0) (cond (Nat.blt pc 66) (zx zi_216_1) (zx zi_216_2))
theorem xi_ok216 (pc : Nat) : xi_ok cX11_label (xi_216 pc) = true := xi_c (zq1 xi_w216) (xi_c (zq1 (zq2 xi_w216)) (zq1 (zq2 (zq2 xi_w216))))
noncomputable def zi_217_0 : ZIs := [(0, ev_196), (1, ev_252), (2, ev_1107), (5, ev_196), (6, ev_13), (7, ev_1103), (10, ev_415), (13, ev_739), (16, ev_887), (19, ev_7), (20, ev_134), (23, ev_10), (24, ev_857), (27, ev_13), (28, ev_196), (29, ev_1006)]
noncomputable def zi_217_1 : ZIs := [(32, ev_196), (33, ev_252), (34, ev_743), (37, ev_13), (38, ev_1103), (41, ev_13), (42, ev_441), (45, ev_196), (46, ev_1108), (49, ev_13), (50, ev_1109), (53, ev_739), (56, ev_128)]
set_option maxRecDepth 100000 in
theorem xi_w217 : zall cX11_view [zi_217_0, zi_217_1] := zall_w _ _ (by decide +kernel)
noncomputable def xi_217 (pc : Nat) : XIs := cond (Nat.blt pc 32) (zx zi_217_0) (zx zi_217_1)
theorem xi_ok217 (pc : Nat) : xi_ok cX11_view (xi_217 pc) = true := xi_c (zq1 xi_w217) (zq1 (zq2 xi_w217))
noncomputable def zi_218_0 : ZIs := [(0, ev_13), (1, ev_1103), (4, ev_415), (7, ev_739), (10, ev_128)]
set_option maxRecDepth 100000 in
theorem xi_w218 : zall cX11_version [zi_218_0] := zall_w _ _ (by decide +kernel)
noncomputable def xi_218 (pc : Nat) : XIs := zx zi_218_0
theorem xi_ok218 (pc : Nat) : xi_ok cX11_version (xi_218 pc) = true := zq1 xi_w218
noncomputable def zi_219_0 : ZIs := [(0, ev_196), (1, ev_1110), (4, ev_196), (5, ev_31), (6, ev_887), (9, ev_7), (10, ev_134), (13, ev_10), (14, ev_857), (17, ev_13), (18, ev_1109), (21, ev_6), (22, ev_196)]
noncomputable def xi_219_1 : XIs := [(23, .tableswitch 40 0 2 #[25, 30, 35], 25)]
set_option maxRecDepth 100000 in
theorem xi_ok219_1 : xi_ok cX11_size xi_219_1 = true := by decide +kernel
noncomputable def zi_219_2 : ZIs := [(48, ev_26), (49, ev_1104), (52, ev_128), (53, ev_26), (54, ev_1111), (57, ev_128), (58, ev_26), (59, ev_1112), (62, ev_128), (63, ev_26), (64, ev_1113), (67, ev_7), (68, ev_16), (69, ev_128)]
set_option maxRecDepth 100000 in
theorem xi_w219 : zall cX11_size [zi_219_0, zi_219_2] := zall_w _ _ (by decide +kernel)
noncomputable def xi_219 (pc : Nat) : XIs := cond (Nat.blt pc 23) (zx zi_219_0) (cond (Nat.blt pc 48) (xi_219_1) (zx zi_219_2))
theorem xi_ok219 (pc : Nat) : xi_ok cX11_size (xi_219 pc) = true := xi_c (zq1 xi_w219) (xi_c (xi_ok219_1) (zq1 (zq2 xi_w219)))
noncomputable def zi_220_0 : ZIs := [(0, ev_196), (1, ev_1114), (4, ev_196), (5, ev_530), (8, ev_1115), (11, ev_201), (12, ev_1110), (15, ev_201), (16, ev_32), (17, ev_887), (20, ev_7), (21, ev_134), (24, ev_10), (25, ev_857), (28, ev_13), (29, ev_1109)]
noncomputable def zi_220_1 : ZIs := [(32, ev_9), (33, ev_23), (34, ev_196), (35, ev_920), (38, ev_326), (41, ev_1116), (44, ev_482), (45, ev_201), (46, ev_1117), (49, ev_23), (50, ev_1118), (53, ev_196), (54, ev_18), (55, ev_179), (56, ev_482), (57, ev_201)]
noncomputable def zi_220_2 : ZIs := [(58, ev_7), (59, ev_928), (62, ev_23), (63, ev_1119), (66, ev_196), (67, ev_18), (68, ev_179), (69, ev_1120), (72, ev_23), (73, ev_196), (74, ev_201), (75, ev_30), (76, ev_16), (77, ev_748), (80, ev_179), (81, ev_482)]
set_option maxRecDepth 100000 in
theorem xi_w220 : zall cX11_told [zi_220_0, zi_220_1, zi_220_2] := zall_w _ _ (by decide +kernel)
noncomputable def xi_220 (pc : Nat) : XIs := cond (Nat.blt pc 32) (zx zi_220_0) (cond (Nat.blt pc 58) (zx zi_220_1) (zx zi_220_2))
theorem xi_ok220 (pc : Nat) : xi_ok cX11_told (xi_220 pc) = true := xi_c (zq1 xi_w220) (xi_c (zq1 (zq2 xi_w220)) (zq1 (zq2 (zq2 xi_w220))))
noncomputable def zi_221_0 : ZIs := [(0, ev_13), (1, ev_1109), (4, ev_6), (5, ev_26), (6, ev_196), (7, ev_814), (10, ev_857), (13, ev_26), (14, ev_453), (17, ev_196), (18, ev_18), (19, ev_128)]
set_option maxRecDepth 100000 in
theorem xi_w221 : zall cX11_labelOf [zi_221_0] := zall_w _ _ (by decide +kernel)
noncomputable def xi_221 (pc : Nat) : XIs := zx zi_221_0
theorem xi_ok221 (pc : Nat) : xi_ok cX11_labelOf (xi_221 pc) = true := zq1 xi_w221
noncomputable def zi_222_0 : ZIs := [(0, ev_13), (1, ev_1109), (4, ev_211), (6, ev_207), (8, ev_196), (9, ev_814), (12, ev_681), (15, ev_201), (16, ev_1121), (19, ev_201), (20, ev_7), (21, ev_1122), (24, ev_202), (25, ev_832), (28, ev_7), (29, ev_134)]
noncomputable def zi_222_1 : ZIs := [(32, ev_10), (33, ev_857), (36, ev_207), (38, ev_61), (41, ev_201), (42, ev_1123), (45, ev_202), (46, ev_207), (48, ev_196), (49, ev_64), (52, ev_364), (55, ev_207), (57, ev_1124), (60, ev_207), (62, ev_1125), (65, ev_196)]
noncomputable def zi_222_2 : ZIs := [(66, ev_18), (67, ev_202), (68, ev_22), (69, ev_18), (70, ev_134), (73, ev_252), (74, ev_128), (75, ev_202), (76, ev_207), (78, ev_196), (79, ev_1126), (82, ev_364), (85, ev_207), (87, ev_1127), (90, ev_207), (92, ev_1128)]
noncomputable def zi_222_3 : ZIs := [(95, ev_196), (96, ev_18), (97, ev_202), (98, ev_22), (99, ev_18), (100, ev_134), (103, ev_252), (104, ev_128)]
set_option maxRecDepth 100000 in
theorem xi_w222 : zall cX11_arcAt [zi_222_0, zi_222_1, zi_222_2, zi_222_3] := zall_w _ _ (by decide +kernel)
noncomputable def xi_222 (pc : Nat) : XIs := cond (Nat.blt pc 66) (cond (Nat.blt pc 32) (zx zi_222_0) (zx zi_222_1)) (cond (Nat.blt pc 95) (zx zi_222_2) (zx zi_222_3))
theorem xi_ok222 (pc : Nat) : xi_ok cX11_arcAt (xi_222 pc) = true := xi_c (xi_c (zq1 xi_w222) (zq1 (zq2 xi_w222))) (xi_c (zq1 (zq2 (zq2 xi_w222))) (zq1 (zq2 (zq2 (zq2 xi_w222)))))
noncomputable def zi_223_0 : ZIs := [(0, ev_196), (1, ev_180), (3, ev_414), (6, ev_196), (7, ev_1129), (9, ev_887), (12, ev_7), (13, ev_134), (16, ev_10), (17, ev_857), (20, ev_13), (21, ev_696), (24, ev_507), (27, ev_804), (30, ev_657), (33, ev_7)]
noncomputable def zi_223_1 : ZIs := [(34, ev_134), (37, ev_10), (38, ev_570), (41, ev_13), (42, ev_696), (45, ev_1130), (48, ev_13), (49, ev_696), (52, ev_507), (55, ev_196), (56, ev_423), (57, ev_950), (58, ev_13), (59, ev_696), (62, ev_1), (63, ev_507)]
noncomputable def zi_223_2 : ZIs := [(66, ev_7), (67, ev_22), (68, ev_1131), (71, ev_13), (72, ev_696), (75, ev_507), (78, ev_128)]
set_option maxRecDepth 100000 in
theorem xi_w223 : zall cX11_type [zi_223_0, zi_223_1, zi_223_2] := zall_w _ _ (by decide +kernel)
noncomputable def xi_223 (pc : Nat) : XIs := cond (Nat.blt pc 34) (zx zi_223_0) (cond (Nat.blt pc 66) (zx zi_223_1) (zx zi_223_2))
theorem xi_ok223 (pc : Nat) : xi_ok cX11_type (xi_223 pc) = true := xi_c (zq1 xi_w223) (xi_c (zq1 (zq2 xi_w223)) (zq1 (zq2 (zq2 xi_w223))))
noncomputable def zi_224_0 : ZIs := [(0, ev_13), (1, ev_696), (4, ev_507), (7, ev_686), (8, ev_13), (9, ev_696), (12, ev_10), (13, ev_1131), (16, ev_196), (17, ev_128)]
set_option maxRecDepth 100000 in
theorem xi_w224 : zall cX11_wipe [zi_224_0] := zall_w _ _ (by decide +kernel)
noncomputable def xi_224 (pc : Nat) : XIs := zx zi_224_0
theorem xi_ok224 (pc : Nat) : xi_ok cX11_wipe (xi_224 pc) = true := zq1 xi_w224
noncomputable def zi_225_0 : ZIs := [(0, ev_13), (1, ev_1103), (4, ev_13), (5, ev_696), (8, ev_1132), (11, ev_128)]
set_option maxRecDepth 100000 in
theorem xi_w225 : zall cX11_load [zi_225_0] := zall_w _ _ (by decide +kernel)
noncomputable def xi_225 (pc : Nat) : XIs := zx zi_225_0
theorem xi_ok225 (pc : Nat) : xi_ok cX11_load (xi_225 pc) = true := zq1 xi_w225
noncomputable def zi_226_0 : ZIs := [(0, ev_196), (1, ev_1110), (4, ev_196), (5, ev_7), (6, ev_887), (9, ev_7), (10, ev_134), (13, ev_10), (14, ev_857), (17, ev_196), (18, ev_1133), (21, ev_13), (22, ev_696), (25, ev_1134), (28, ev_634), (31, ev_13)]
noncomputable def zi_226_1 : ZIs := [(32, ev_696), (35, ev_1135), (38, ev_128)]
set_option maxRecDepth 100000 in
theorem xi_w226 : zall cX11_fault [zi_226_0, zi_226_1] := zall_w _ _ (by decide +kernel)
noncomputable def xi_226 (pc : Nat) : XIs := cond (Nat.blt pc 32) (zx zi_226_0) (zx zi_226_1)
theorem xi_ok226 (pc : Nat) : xi_ok cX11_fault (xi_226 pc) = true := xi_c (zq1 xi_w226) (zq1 (zq2 xi_w226))
noncomputable def zi_227_0 : ZIs := [(0, ev_13), (1, ev_696), (4, ev_13), (5, ev_1109), (8, ev_1136), (11, ev_128)]
set_option maxRecDepth 100000 in
theorem xi_w227 : zall cX11_print [zi_227_0] := zall_w _ _ (by decide +kernel)
noncomputable def xi_227 (pc : Nat) : XIs := zx zi_227_0
theorem xi_ok227 (pc : Nat) : xi_ok cX11_print (xi_227 pc) = true := zq1 xi_w227
noncomputable def zi_228_0 : ZIs := [(0, ev_196), (1, ev_1137), (4, ev_196), (5, ev_13), (6, ev_696), (9, ev_1138), (12, ev_657), (15, ev_7), (16, ev_134), (19, ev_10), (20, ev_857), (23, ev_13), (24, ev_696), (27, ev_1139), (30, ev_196), (31, ev_882)]
noncomputable def zi_228_1 : ZIs := [(32, ev_128)]
set_option maxRecDepth 100000 in
theorem xi_w228 : zall cX11_printed [zi_228_0, zi_228_1] := zall_w _ _ (by decide +kernel)
noncomputable def xi_228 (pc : Nat) : XIs := cond (Nat.blt pc 32) (zx zi_228_0) (zx zi_228_1)
theorem xi_ok228 (pc : Nat) : xi_ok cX11_printed (xi_228 pc) = true := xi_c (zq1 xi_w228) (zq1 (zq2 xi_w228))
noncomputable def zi_229_0 : ZIs := [(0, ev_13), (1, ev_1109), (4, ev_9), (5, ev_23), (6, ev_196), (7, ev_814), (10, ev_772), (13, ev_23), (14, ev_201), (15, ev_814), (18, ev_132), (21, ev_7), (22, ev_134), (25, ev_10), (26, ev_857), (29, ev_13)]
noncomputable def zi_229_1 : ZIs := [(30, ev_587), (33, ev_23), (34, ev_196), (35, ev_201), (36, ev_1140), (39, ev_482)]
set_option maxRecDepth 100000 in
theorem xi_w229 : zall cX11_distance [zi_229_0, zi_229_1] := zall_w _ _ (by decide +kernel)
noncomputable def xi_229 (pc : Nat) : XIs := cond (Nat.blt pc 30) (zx zi_229_0) (zx zi_229_1)
theorem xi_ok229 (pc : Nat) : xi_ok cX11_distance (xi_229 pc) = true := xi_c (zq1 xi_w229) (zq1 (zq2 xi_w229))
noncomputable def zi_230_0 : ZIs := [(0, ev_13), (1, ev_1109), (4, ev_211), (6, ev_207), (8, ev_196), (9, ev_814), (12, ev_681), (15, ev_207), (17, ev_201), (18, ev_814), (21, ev_932), (24, ev_202), (25, ev_832), (28, ev_7), (29, ev_134), (32, ev_10)]
noncomputable def zi_230_1 : ZIs := [(33, ev_857), (36, ev_13), (37, ev_587), (40, ev_207), (42, ev_196), (43, ev_201), (44, ev_202), (45, ev_109), (48, ev_128)]
set_option maxRecDepth 100000 in
theorem xi_w230 : zall cX11_way [zi_230_0, zi_230_1] := zall_w _ _ (by decide +kernel)
noncomputable def xi_230 (pc : Nat) : XIs := cond (Nat.blt pc 33) (zx zi_230_0) (zx zi_230_1)
theorem xi_ok230 (pc : Nat) : xi_ok cX11_way (xi_230 pc) = true := xi_c (zq1 xi_w230) (zq1 (zq2 xi_w230))
noncomputable def zi_231_0 : ZIs := [(0, ev_13), (1, ev_1109), (4, ev_9), (5, ev_23), (6, ev_196), (7, ev_814), (10, ev_772), (13, ev_23), (14, ev_201), (15, ev_814), (18, ev_132), (21, ev_7), (22, ev_134), (25, ev_10), (26, ev_857), (29, ev_13)]
noncomputable def zi_231_1 : ZIs := [(30, ev_587), (33, ev_23), (34, ev_196), (35, ev_201), (36, ev_1141), (39, ev_128)]
set_option maxRecDepth 100000 in
theorem xi_w231 : zall cX11_width [zi_231_0, zi_231_1] := zall_w _ _ (by decide +kernel)
noncomputable def xi_231 (pc : Nat) : XIs := cond (Nat.blt pc 30) (zx zi_231_0) (zx zi_231_1)
theorem xi_ok231 (pc : Nat) : xi_ok cX11_width (xi_231 pc) = true := xi_c (zq1 xi_w231) (zq1 (zq2 xi_w231))
noncomputable def zi_232_0 : ZIs := [(0, ev_13), (1, ev_1109), (4, ev_9), (5, ev_23), (6, ev_196), (7, ev_201), (8, ev_1142), (11, ev_857), (14, ev_13), (15, ev_587), (18, ev_23), (19, ev_196), (20, ev_201), (21, ev_1143), (24, ev_128)]
set_option maxRecDepth 100000 in
theorem xi_w232 : zall cX11_shorts [zi_232_0] := zall_w _ _ (by decide +kernel)
noncomputable def xi_232 (pc : Nat) : XIs := zx zi_232_0
theorem xi_ok232 (pc : Nat) : xi_ok cX11_shorts (xi_232 pc) = true := zq1 xi_w232
noncomputable def zi_233_0 : ZIs := [(0, ev_13), (1, ev_1109), (4, ev_209), (6, ev_226), (8, ev_196), (9, ev_201), (10, ev_1142), (13, ev_417), (16, ev_202), (17, ev_1110), (20, ev_12), (22, ev_832), (25, ev_7), (26, ev_134), (29, ev_10), (30, ev_857)]
noncomputable def zi_233_1 : ZIs := [(33, ev_13), (34, ev_587), (37, ev_226), (39, ev_196), (40, ev_201), (41, ev_202), (42, ev_12), (44, ev_1144), (47, ev_128)]
set_option maxRecDepth 100000 in
theorem xi_w233 : zall cX11_shortArc [zi_233_0, zi_233_1] := zall_w _ _ (by decide +kernel)
noncomputable def xi_233 (pc : Nat) : XIs := cond (Nat.blt pc 33) (zx zi_233_0) (zx zi_233_1)
theorem xi_ok233 (pc : Nat) : xi_ok cX11_shortArc (xi_233 pc) = true := xi_c (zq1 xi_w233) (zq1 (zq2 xi_w233))
noncomputable def zi_234_0 : ZIs := [(0, ev_13), (1, ev_1109), (4, ev_9), (5, ev_196), (6, ev_1145), (9, ev_196), (10, ev_7), (11, ev_1146), (14, ev_23), (15, ev_201), (16, ev_814), (19, ev_132), (22, ev_7), (23, ev_134), (26, ev_10), (27, ev_857)]
noncomputable def zi_234_1 : ZIs := [(30, ev_196), (31, ev_438), (34, ev_13), (35, ev_1147), (38, ev_23), (39, ev_201), (40, ev_1148), (43, ev_1120), (46, ev_13), (47, ev_1147), (50, ev_23), (51, ev_201), (52, ev_1149), (55, ev_128)]
set_option maxRecDepth 100000 in
theorem xi_w234 : zall cX11_part [zi_234_0, zi_234_1] := zall_w _ _ (by decide +kernel)
noncomputable def xi_234 (pc : Nat) : XIs := cond (Nat.blt pc 30) (zx zi_234_0) (zx zi_234_1)
theorem xi_ok234 (pc : Nat) : xi_ok cX11_part (xi_234 pc) = true := xi_c (zq1 xi_w234) (zq1 (zq2 xi_w234))
noncomputable def zi_235_0 : ZIs := [(0, ev_13), (1, ev_1109), (4, ev_6), (5, ev_26), (6, ev_196), (7, ev_920), (10, ev_857), (13, ev_13), (14, ev_1147), (17, ev_26), (18, ev_196), (19, ev_1150), (22, ev_128)]
set_option maxRecDepth 100000 in
theorem xi_w235 : zall cX11_bridge [zi_235_0] := zall_w _ _ (by decide +kernel)
noncomputable def xi_235 (pc : Nat) : XIs := zx zi_235_0
theorem xi_ok235 (pc : Nat) : xi_ok cX11_bridge (xi_235 pc) = true := zq1 xi_w235
noncomputable def zi_236_0 : ZIs := [(0, ev_13), (1, ev_1109), (4, ev_6), (5, ev_26), (6, ev_196), (7, ev_814), (10, ev_857), (13, ev_13), (14, ev_1147), (17, ev_26), (18, ev_196), (19, ev_1151), (22, ev_128)]
set_option maxRecDepth 100000 in
theorem xi_w236 : zall cX11_cut [zi_236_0] := zall_w _ _ (by decide +kernel)
noncomputable def xi_236 (pc : Nat) : XIs := zx zi_236_0
theorem xi_ok236 (pc : Nat) : xi_ok cX11_cut (xi_236 pc) = true := zq1 xi_w236
noncomputable def zi_237_0 : ZIs := [(0, ev_196), (1, ev_832), (4, ev_7), (5, ev_134), (8, ev_10), (9, ev_857), (12, ev_13), (13, ev_1147), (16, ev_13), (17, ev_1109), (20, ev_196), (21, ev_1152), (24, ev_128)]
set_option maxRecDepth 100000 in
theorem xi_w237 : zall cX11_order [zi_237_0] := zall_w _ _ (by decide +kernel)
noncomputable def xi_237 (pc : Nat) : XIs := zx zi_237_0
theorem xi_ok237 (pc : Nat) : xi_ok cX11_order (xi_237 pc) = true := zq1 xi_w237
noncomputable def zi_238_0 : ZIs := [(0, ev_13), (1, ev_1109), (4, ev_6), (5, ev_26), (6, ev_196), (7, ev_814), (10, ev_857), (13, ev_13), (14, ev_1147), (17, ev_26), (18, ev_196), (19, ev_1153), (22, ev_128)]
set_option maxRecDepth 100000 in
theorem xi_w238 : zall cX11_core [zi_238_0] := zall_w _ _ (by decide +kernel)
noncomputable def xi_238 (pc : Nat) : XIs := zx zi_238_0
theorem xi_ok238 (pc : Nat) : xi_ok cX11_core (xi_238 pc) = true := zq1 xi_w238
noncomputable def zi_239_0 : ZIs := [(0, ev_196), (1, ev_832), (4, ev_7), (5, ev_134), (8, ev_10), (9, ev_857), (12, ev_13), (13, ev_695), (16, ev_13), (17, ev_1109), (20, ev_1154), (23, ev_294), (24, ev_196), (25, ev_201), (26, ev_160), (29, ev_994)]
noncomputable def zi_239_1 : ZIs := [(32, ev_252), (33, ev_128), (34, ev_10), (35, ev_295), (36, ev_202), (37, ev_196), (38, ev_1155), (41, ev_201), (42, ev_201), (43, ev_7), (44, ev_16), (45, ev_20), (46, ev_294), (47, ev_300), (50, ev_1156), (53, ev_201)]
noncomputable def zi_239_2 : ZIs := [(54, ev_1157), (57, ev_128)]
set_option maxRecDepth 100000 in
theorem xi_w239 : zall cX11_clique [zi_239_0, zi_239_1, zi_239_2] := zall_w _ _ (by decide +kernel)
noncomputable def xi_239 (pc : Nat) : XIs := cond (Nat.blt pc 32) (zx zi_239_0) (cond (Nat.blt pc 54) (zx zi_239_1) (zx zi_239_2))
theorem xi_ok239 (pc : Nat) : xi_ok cX11_clique (xi_239 pc) = true := xi_c (zq1 xi_w239) (xi_c (zq1 (zq2 xi_w239)) (zq1 (zq2 (zq2 xi_w239))))
noncomputable def zi_240_0 : ZIs := [(0, ev_13), (1, ev_1109), (4, ev_6), (5, ev_26), (6, ev_196), (7, ev_814), (10, ev_857), (13, ev_13), (14, ev_695), (17, ev_26), (18, ev_196), (19, ev_1158), (22, ev_128)]
set_option maxRecDepth 100000 in
theorem xi_w240 : zall cX11_colour [zi_240_0] := zall_w _ _ (by decide +kernel)
noncomputable def xi_240 (pc : Nat) : XIs := zx zi_240_0
theorem xi_ok240 (pc : Nat) : xi_ok cX11_colour (xi_240 pc) = true := zq1 xi_w240
noncomputable def zi_241_0 : ZIs := [(0, ev_13), (1, ev_1109), (4, ev_9), (5, ev_23), (6, ev_196), (7, ev_201), (8, ev_1142), (11, ev_857), (14, ev_13), (15, ev_540), (18, ev_23), (19, ev_196), (20, ev_201), (21, ev_170), (24, ev_482)]
set_option maxRecDepth 100000 in
theorem xi_w241 : zall cX11_flow [zi_241_0] := zall_w _ _ (by decide +kernel)
noncomputable def xi_241 (pc : Nat) : XIs := zx zi_241_0
theorem xi_ok241 (pc : Nat) : xi_ok cX11_flow (xi_241 pc) = true := zq1 xi_w241
noncomputable def zi_242_0 : ZIs := [(0, ev_13), (1, ev_1109), (4, ev_211), (6, ev_207), (8, ev_196), (9, ev_201), (10, ev_1142), (13, ev_417), (16, ev_207), (18, ev_202), (19, ev_814), (22, ev_132), (25, ev_7), (26, ev_134), (29, ev_10), (30, ev_857)]
noncomputable def zi_242_1 : ZIs := [(33, ev_13), (34, ev_540), (37, ev_207), (39, ev_196), (40, ev_201), (41, ev_170), (44, ev_164), (45, ev_13), (46, ev_540), (49, ev_1159), (52, ev_202), (53, ev_303), (54, ev_7), (55, ev_20), (56, ev_132), (59, ev_7)]
noncomputable def zi_242_2 : ZIs := [(60, ev_134), (63, ev_10), (64, ev_128)]
set_option maxRecDepth 100000 in
theorem xi_w242 : zall cX11_side [zi_242_0, zi_242_1, zi_242_2] := zall_w _ _ (by decide +kernel)
noncomputable def xi_242 (pc : Nat) : XIs := cond (Nat.blt pc 33) (zx zi_242_0) (cond (Nat.blt pc 60) (zx zi_242_1) (zx zi_242_2))
theorem xi_ok242 (pc : Nat) : xi_ok cX11_side (xi_242 pc) = true := xi_c (zq1 xi_w242) (xi_c (zq1 (zq2 xi_w242)) (zq1 (zq2 (zq2 xi_w242))))
noncomputable def zi_243_0 : ZIs := [(0, ev_13), (1, ev_1109), (4, ev_211), (6, ev_207), (8, ev_196), (9, ev_201), (10, ev_1142), (13, ev_393), (16, ev_202), (17, ev_1160), (20, ev_202), (21, ev_1161), (24, ev_887), (27, ev_7), (28, ev_134), (31, ev_10)]
noncomputable def zi_243_1 : ZIs := [(32, ev_857), (35, ev_13), (36, ev_540), (39, ev_207), (41, ev_196), (42, ev_201), (43, ev_202), (44, ev_176), (47, ev_482)]
set_option maxRecDepth 100000 in
theorem xi_w243 : zall cX11_cost [zi_243_0, zi_243_1] := zall_w _ _ (by decide +kernel)
noncomputable def xi_243 (pc : Nat) : XIs := cond (Nat.blt pc 32) (zx zi_243_0) (zx zi_243_1)
theorem xi_ok243 (pc : Nat) : xi_ok cX11_cost (xi_243 pc) = true := xi_c (zq1 xi_w243) (zq1 (zq2 xi_w243))
noncomputable def zi_244_0 : ZIs := [(0, ev_196), (1, ev_1110), (4, ev_196), (5, ev_7), (6, ev_887), (9, ev_7), (10, ev_134), (13, ev_10), (14, ev_857), (17, ev_13), (18, ev_540), (21, ev_13), (22, ev_1109), (25, ev_1162), (28, ev_196), (29, ev_390)]
noncomputable def zi_244_1 : ZIs := [(32, ev_13), (33, ev_540), (36, ev_1163), (39, ev_179), (40, ev_634), (43, ev_13), (44, ev_540), (47, ev_1164), (50, ev_482)]
set_option maxRecDepth 100000 in
theorem xi_w244 : zall cX11_pairing [zi_244_0, zi_244_1] := zall_w _ _ (by decide +kernel)
noncomputable def xi_244 (pc : Nat) : XIs := cond (Nat.blt pc 32) (zx zi_244_0) (zx zi_244_1)
theorem xi_ok244 (pc : Nat) : xi_ok cX11_pairing (xi_244 pc) = true := xi_c (zq1 xi_w244) (zq1 (zq2 xi_w244))
noncomputable def zi_245_0 : ZIs := [(0, ev_13), (1, ev_1109), (4, ev_6), (5, ev_26), (6, ev_196), (7, ev_814), (10, ev_857), (13, ev_13), (14, ev_1165), (17, ev_26), (18, ev_196), (19, ev_192), (22, ev_482)]
set_option maxRecDepth 100000 in
theorem xi_w245 : zall cX11_tree [zi_245_0] := zall_w _ _ (by decide +kernel)
noncomputable def xi_245 (pc : Nat) : XIs := zx zi_245_0
theorem xi_ok245 (pc : Nat) : xi_ok cX11_tree (xi_245 pc) = true := zq1 xi_w245
noncomputable def zi_246_0 : ZIs := [(0, ev_13), (1, ev_1109), (4, ev_6), (5, ev_26), (6, ev_196), (7, ev_920), (10, ev_857), (13, ev_13), (14, ev_1165), (17, ev_26), (18, ev_196), (19, ev_1166), (22, ev_128)]
set_option maxRecDepth 100000 in
theorem xi_w246 : zall cX11_span [zi_246_0] := zall_w _ _ (by decide +kernel)
noncomputable def xi_246 (pc : Nat) : XIs := zx zi_246_0
theorem xi_ok246 (pc : Nat) : xi_ok cX11_span (xi_246 pc) = true := zq1 xi_w246
noncomputable def zi_247_0 : ZIs := [(0, ev_13), (1, ev_1165), (4, ev_13), (5, ev_1109), (8, ev_1167), (11, ev_128)]
set_option maxRecDepth 100000 in
theorem xi_w247 : zall cX11_trees [zi_247_0] := zall_w _ _ (by decide +kernel)
noncomputable def xi_247 (pc : Nat) : XIs := zx zi_247_0
theorem xi_ok247 (pc : Nat) : xi_ok cX11_trees (xi_247 pc) = true := zq1 xi_w247
noncomputable def zi_248_0 : ZIs := [(0, ev_13), (1, ev_1109), (4, ev_9), (5, ev_23), (6, ev_196), (7, ev_814), (10, ev_1168), (13, ev_201), (14, ev_1169), (17, ev_201), (18, ev_412), (20, ev_887), (23, ev_7), (24, ev_134), (27, ev_10), (28, ev_857)]
noncomputable def zi_248_1 : ZIs := [(31, ev_13), (32, ev_959), (35, ev_23), (36, ev_196), (37, ev_201), (38, ev_1170), (41, ev_482)]
set_option maxRecDepth 100000 in
theorem xi_w248 : zall cX11_rank [zi_248_0, zi_248_1] := zall_w _ _ (by decide +kernel)
noncomputable def xi_248 (pc : Nat) : XIs := cond (Nat.blt pc 31) (zx zi_248_0) (zx zi_248_1)
theorem xi_ok248 (pc : Nat) : xi_ok cX11_rank (xi_248 pc) = true := xi_c (zq1 xi_w248) (zq1 (zq2 xi_w248))
noncomputable def zi_249_0 : ZIs := [(0, ev_13), (1, ev_1109), (4, ev_209), (6, ev_226), (8, ev_196), (9, ev_814), (12, ev_860), (15, ev_226), (17, ev_201), (18, ev_814), (21, ev_1171), (24, ev_202), (25, ev_1172), (28, ev_202), (29, ev_30), (30, ev_934)]
noncomputable def zi_249_1 : ZIs := [(33, ev_226), (35, ev_12), (37, ev_814), (40, ev_132), (43, ev_7), (44, ev_134), (47, ev_10), (48, ev_857), (51, ev_202), (52, ev_438), (55, ev_13), (56, ev_587), (59, ev_226), (61, ev_196), (62, ev_201), (63, ev_1173)]
noncomputable def zi_249_2 : ZIs := [(66, ev_128), (67, ev_202), (68, ev_7), (69, ev_756), (72, ev_13), (73, ev_587), (76, ev_226), (78, ev_196), (79, ev_201), (80, ev_196), (81, ev_1174), (84, ev_760), (87, ev_13), (88, ev_587), (91, ev_226), (93, ev_196)]
noncomputable def zi_249_3 : ZIs := [(94, ev_201), (95, ev_12), (97, ev_1174), (100, ev_128)]
set_option maxRecDepth 100000 in
theorem xi_w249 : zall cX11_shortest [zi_249_0, zi_249_1, zi_249_2, zi_249_3] := zall_w _ _ (by decide +kernel)
noncomputable def xi_249 (pc : Nat) : XIs := cond (Nat.blt pc 66) (cond (Nat.blt pc 33) (zx zi_249_0) (zx zi_249_1)) (cond (Nat.blt pc 94) (zx zi_249_2) (zx zi_249_3))
theorem xi_ok249 (pc : Nat) : xi_ok cX11_shortest (xi_249 pc) = true := xi_c (xi_c (zq1 xi_w249) (zq1 (zq2 xi_w249))) (xi_c (zq1 (zq2 (zq2 xi_w249))) (zq1 (zq2 (zq2 (zq2 xi_w249)))))
noncomputable def zi_250_0 : ZIs := [(0, ev_13), (1, ev_1109), (4, ev_6), (5, ev_26), (6, ev_196), (7, ev_814), (10, ev_857), (13, ev_13), (14, ev_959), (17, ev_26), (18, ev_196), (19, ev_1175), (22, ev_128)]
set_option maxRecDepth 100000 in
theorem xi_w250 : zall cX11_group [zi_250_0] := zall_w _ _ (by decide +kernel)
noncomputable def xi_250 (pc : Nat) : XIs := zx zi_250_0
theorem xi_ok250 (pc : Nat) : xi_ok cX11_group (xi_250 pc) = true := zq1 xi_w250
noncomputable def zi_251_0 : ZIs := [(0, ev_13), (1, ev_959), (4, ev_13), (5, ev_1109), (8, ev_1176), (11, ev_482)]
set_option maxRecDepth 100000 in
theorem xi_w251 : zall cX11_gain [zi_251_0] := zall_w _ _ (by decide +kernel)
noncomputable def xi_251 (pc : Nat) : XIs := zx zi_251_0
theorem xi_ok251 (pc : Nat) : xi_ok cX11_gain (xi_251 pc) = true := zq1 xi_w251
noncomputable def zi_252_0 : ZIs := [(0, ev_196), (1, ev_1110), (4, ev_196), (5, ev_7), (6, ev_887), (9, ev_7), (10, ev_134), (13, ev_10), (14, ev_857), (17, ev_196), (18, ev_808), (21, ev_13), (22, ev_1147), (25, ev_13), (26, ev_1109), (29, ev_1177)]
noncomputable def zi_252_1 : ZIs := [(32, ev_1178), (35, ev_13), (36, ev_1147), (39, ev_13), (40, ev_1109), (43, ev_1179), (46, ev_482)]
set_option maxRecDepth 100000 in
theorem xi_w252 : zall cX11_figures [zi_252_0, zi_252_1] := zall_w _ _ (by decide +kernel)
noncomputable def xi_252 (pc : Nat) : XIs := cond (Nat.blt pc 32) (zx zi_252_0) (zx zi_252_1)
theorem xi_ok252 (pc : Nat) : xi_ok cX11_figures (xi_252 pc) = true := xi_c (zq1 xi_w252) (zq1 (zq2 xi_w252))
noncomputable def zi_253_0 : ZIs := [(0, ev_13), (1, ev_307), (4, ev_13), (5, ev_696), (8, ev_1180), (11, ev_132), (14, ev_10), (15, ev_639), (18, ev_809), (20, ev_128)]
set_option maxRecDepth 100000 in
theorem xi_w253 : zall cX11_pattern [zi_253_0] := zall_w _ _ (by decide +kernel)
noncomputable def xi_253 (pc : Nat) : XIs := zx zi_253_0
theorem xi_ok253 (pc : Nat) : xi_ok cX11_pattern (xi_253 pc) = true := zq1 xi_w253
noncomputable def zi_254_0 : ZIs := [(0, ev_13), (1, ev_1109), (4, ev_9), (5, ev_23), (6, ev_196), (7, ev_814), (10, ev_772), (13, ev_23), (14, ev_201), (15, ev_814), (18, ev_132), (21, ev_7), (22, ev_134), (25, ev_10), (26, ev_857), (29, ev_13)]
noncomputable def zi_254_1 : ZIs := [(30, ev_307), (33, ev_23), (34, ev_196), (35, ev_201), (36, ev_1181), (39, ev_128)]
set_option maxRecDepth 100000 in
theorem xi_w254 : zall cX11_fits [zi_254_0, zi_254_1] := zall_w _ _ (by decide +kernel)
noncomputable def xi_254 (pc : Nat) : XIs := cond (Nat.blt pc 30) (zx zi_254_0) (zx zi_254_1)
theorem xi_ok254 (pc : Nat) : xi_ok cX11_fits (xi_254 pc) = true := xi_c (zq1 xi_w254) (zq1 (zq2 xi_w254))
noncomputable def zi_255_0 : ZIs := [(0, ev_13), (1, ev_1182), (4, ev_13), (5, ev_696), (8, ev_1183), (11, ev_132), (14, ev_10), (15, ev_639), (18, ev_809), (20, ev_128)]
set_option maxRecDepth 100000 in
theorem xi_w255 : zall cX11_program [zi_255_0] := zall_w _ _ (by decide +kernel)
noncomputable def xi_255 (pc : Nat) : XIs := zx zi_255_0
theorem xi_ok255 (pc : Nat) : xi_ok cX11_program (xi_255 pc) = true := zq1 xi_w255
noncomputable def zi_256_0 : ZIs := [(0, ev_196), (1, ev_1184), (4, ev_196), (5, ev_1185), (8, ev_1186), (11, ev_201), (12, ev_7), (13, ev_1187), (16, ev_201), (17, ev_32), (18, ev_934), (21, ev_202), (22, ev_1169), (25, ev_202), (26, ev_1188), (28, ev_887)]
noncomputable def zi_256_1 : ZIs := [(31, ev_7), (32, ev_134), (35, ev_10), (36, ev_857), (39, ev_13), (40, ev_1109), (43, ev_228), (45, ev_13), (46, ev_1182), (49, ev_200), (51, ev_196), (52, ev_1189), (55, ev_275), (57, ev_13), (58, ev_1182), (61, ev_200)]
noncomputable def zi_256_2 : ZIs := [(63, ev_276), (65, ev_201), (66, ev_202), (67, ev_247), (69, ev_1190), (72, ev_276), (74, ev_128)]
set_option maxRecDepth 100000 in
theorem xi_w256 : zall cX11_run [zi_256_0, zi_256_1, zi_256_2] := zall_w _ _ (by decide +kernel)
noncomputable def xi_256 (pc : Nat) : XIs := cond (Nat.blt pc 31) (zx zi_256_0) (cond (Nat.blt pc 63) (zx zi_256_1) (zx zi_256_2))
theorem xi_ok256 (pc : Nat) : xi_ok cX11_run (xi_256 pc) = true := xi_c (zq1 xi_w256) (xi_c (zq1 (zq2 xi_w256)) (zq1 (zq2 (zq2 xi_w256))))
noncomputable def zi_257_0 : ZIs := [(0, ev_196), (1, ev_1137), (4, ev_196), (5, ev_13), (6, ev_1182), (9, ev_1191), (12, ev_657), (15, ev_7), (16, ev_134), (19, ev_10), (20, ev_857), (23, ev_13), (24, ev_1182), (27, ev_1192), (30, ev_196), (31, ev_130)]
noncomputable def zi_257_1 : ZIs := [(32, ev_482)]
set_option maxRecDepth 100000 in
theorem xi_w257 : zall cX11_state [zi_257_0, zi_257_1] := zall_w _ _ (by decide +kernel)
noncomputable def xi_257 (pc : Nat) : XIs := cond (Nat.blt pc 32) (zx zi_257_0) (zx zi_257_1)
theorem xi_ok257 (pc : Nat) : xi_ok cX11_state (xi_257 pc) = true := xi_c (zq1 xi_w257) (zq1 (zq2 xi_w257))
noncomputable def zi_258_0 : ZIs := [(0, ev_196), (1, ev_1110), (4, ev_196), (5, ev_30), (6, ev_887), (9, ev_7), (10, ev_134), (13, ev_10), (14, ev_857), (17, ev_196), (18, ev_1117), (21, ev_13), (22, ev_1182), (25, ev_1193), (28, ev_128), (29, ev_196)]
noncomputable def zi_258_1 : ZIs := [(30, ev_7), (31, ev_928), (34, ev_13), (35, ev_1182), (38, ev_1194), (41, ev_634), (44, ev_13), (45, ev_1182), (48, ev_1195), (51, ev_128)]
set_option maxRecDepth 100000 in
theorem xi_w258 : zall cX11_letters [zi_258_0, zi_258_1] := zall_w _ _ (by decide +kernel)
noncomputable def xi_258 (pc : Nat) : XIs := cond (Nat.blt pc 30) (zx zi_258_0) (zx zi_258_1)
theorem xi_ok258 (pc : Nat) : xi_ok cX11_letters (xi_258 pc) = true := xi_c (zq1 xi_w258) (zq1 (zq2 xi_w258))
noncomputable def zi_259_0 : ZIs := [(0, ev_13), (1, ev_1039), (4, ev_252), (5, ev_928), (8, ev_13), (9, ev_1103), (12, ev_415), (15, ev_216), (18, ev_13), (19, ev_441), (22, ev_824)]
set_option maxRecDepth 100000 in
theorem xi_w259 : zall cX11_graph [zi_259_0] := zall_w _ _ (by decide +kernel)
noncomputable def xi_259 (pc : Nat) : XIs := zx zi_259_0
theorem xi_ok259 (pc : Nat) : xi_ok cX11_graph (xi_259 pc) = true := zq1 xi_w259
noncomputable def zi_260_0 : ZIs := [(0, ev_483), (1, ev_1169), (4, ev_483), (5, ev_875), (7, ev_657), (10, ev_7), (11, ev_134), (14, ev_10), (15, ev_128)]
set_option maxRecDepth 100000 in
theorem xi_w260 : zall cX11_isLetter [zi_260_0] := zall_w _ _ (by decide +kernel)
noncomputable def xi_260 (pc : Nat) : XIs := zx zi_260_0
theorem xi_ok260 (pc : Nat) : xi_ok cX11_isLetter (xi_260 pc) = true := zq1 xi_w260
noncomputable def zi_261_0 : ZIs := [(0, ev_483), (1, ev_1196), (4, ev_602), (7, ev_483), (8, ev_1197), (11, ev_887), (14, ev_7), (15, ev_134), (18, ev_10), (19, ev_128)]
set_option maxRecDepth 100000 in
theorem xi_w261 : zall cX11_isWeight [zi_261_0] := zall_w _ _ (by decide +kernel)
noncomputable def xi_261 (pc : Nat) : XIs := zx zi_261_0
theorem xi_ok261 (pc : Nat) : xi_ok cX11_isWeight (xi_261 pc) = true := zq1 xi_w261
noncomputable def zi_262_0 : ZIs := [(0, ev_483), (1, ev_1160), (4, ev_483), (5, ev_1197), (8, ev_887), (11, ev_7), (12, ev_134), (15, ev_10), (16, ev_128)]
set_option maxRecDepth 100000 in
theorem xi_w262 : zall cX11_isRoom [zi_262_0] := zall_w _ _ (by decide +kernel)
noncomputable def xi_262 (pc : Nat) : XIs := zx zi_262_0
theorem xi_ok262 (pc : Nat) : xi_ok cX11_isRoom (xi_262 pc) = true := zq1 xi_w262
noncomputable def zi_263_0 : ZIs := [(0, ev_483), (1, ev_853), (4, ev_196), (5, ev_1198), (8, ev_128), (9, ev_483), (10, ev_7), (11, ev_541), (14, ev_196), (15, ev_1199), (18, ev_128), (19, ev_483), (20, ev_30), (21, ev_799), (24, ev_196), (25, ev_965)]
noncomputable def zi_263_1 : ZIs := [(28, ev_132), (31, ev_7), (32, ev_134), (35, ev_10), (36, ev_128)]
set_option maxRecDepth 100000 in
theorem xi_w263 : zall cX11_isGoodValue [zi_263_0, zi_263_1] := zall_w _ _ (by decide +kernel)
noncomputable def xi_263 (pc : Nat) : XIs := cond (Nat.blt pc 28) (zx zi_263_0) (zx zi_263_1)
theorem xi_ok263 (pc : Nat) : xi_ok cX11_isGoodValue (xi_263 pc) = true := xi_c (zq1 xi_w263) (zq1 (zq2 xi_w263))
noncomputable def zi_264_0 : ZIs := [(0, ev_483), (1, ev_483), (2, ev_310), (3, ev_20), (4, ev_7), (5, ev_16), (6, ev_160), (9, ev_128)]
set_option maxRecDepth 100000 in
theorem xi_w264 : zall cX11_lowest [zi_264_0] := zall_w _ _ (by decide +kernel)
noncomputable def xi_264 (pc : Nat) : XIs := zx zi_264_0
theorem xi_ok264 (pc : Nat) : xi_ok cX11_lowest (xi_264 pc) = true := zq1 xi_w264
noncomputable def zi_265_0 : ZIs := [(0, ev_488), (1, ev_488), (2, ev_477), (3, ev_183), (4, ev_133), (5, ev_486), (6, ev_1200), (9, ev_128)]
set_option maxRecDepth 100000 in
theorem xi_w265 : zall cX11_lowestOfLong [zi_265_0] := zall_w _ _ (by decide +kernel)
noncomputable def xi_265 (pc : Nat) : XIs := zx zi_265_0
theorem xi_ok265 (pc : Nat) : xi_ok cX11_lowestOfLong (xi_265 pc) = true := zq1 xi_w265
noncomputable def zi_266_0 : ZIs := [(0, ev_196), (1, ev_295), (2, ev_196), (3, ev_11), (5, ev_10), (6, ev_25), (8, ev_126), (10, ev_180), (12, ev_1201), (15, ev_12), (17, ev_1202), (20, ev_13), (21, ev_12), (23, ev_1157), (26, ev_18), (27, ev_201)]
noncomputable def zi_266_1 : ZIs := [(28, ev_20), (29, ev_202), (30, ev_252), (31, ev_317), (32, ev_20), (33, ev_28), (35, ev_12), (37, ev_12), (39, ev_7), (40, ev_16), (41, ev_20), (42, ev_11), (44, ev_12), (46, ev_131), (48, ev_278), (49, ev_11)]
noncomputable def zi_266_2 : ZIs := [(51, ev_202), (52, ev_131), (54, ev_278), (55, ev_295), (56, ev_343), (59, ev_909), (62, ev_202), (63, ev_128)]
set_option maxRecDepth 100000 in
theorem xi_w266 : zall cX11_flood [zi_266_0, zi_266_1, zi_266_2] := zall_w _ _ (by decide +kernel)
noncomputable def xi_266 (pc : Nat) : XIs := cond (Nat.blt pc 28) (zx zi_266_0) (cond (Nat.blt pc 51) (zx zi_266_1) (zx zi_266_2))
theorem xi_ok266 (pc : Nat) : xi_ok cX11_flood (xi_266 pc) = true := xi_c (zq1 xi_w266) (xi_c (zq1 (zq2 xi_w266)) (zq1 (zq2 (zq2 xi_w266))))
noncomputable def zi_267_0 : ZIs := [(0, ev_13), (1, ev_1075), (4, ev_13), (5, ev_31), (6, ev_255), (8, ev_1203), (11, ev_13), (12, ev_1204), (14, ev_255), (16, ev_1205), (19, ev_13), (20, ev_1206), (23, ev_1207), (25, ev_1208), (28, ev_13), (29, ev_1206)]
noncomputable def zi_267_1 : ZIs := [(32, ev_255), (34, ev_1209), (37, ev_13), (38, ev_1206), (41, ev_255), (43, ev_1006), (46, ev_13), (47, ev_1206), (50, ev_255), (52, ev_1007), (55, ev_13), (56, ev_1206), (59, ev_255), (61, ev_370), (64, ev_13), (65, ev_1206)]
noncomputable def zi_267_2 : ZIs := [(68, ev_255), (70, ev_371), (73, ev_13), (74, ev_766), (77, ev_255), (79, ev_372), (82, ev_13), (83, ev_766), (86, ev_255), (88, ev_705), (91, ev_13), (92, ev_766), (95, ev_255), (97, ev_954), (100, ev_13), (101, ev_766)]
noncomputable def zi_267_3 : ZIs := [(104, ev_255), (106, ev_1087), (109, ev_13), (110, ev_766), (113, ev_255), (115, ev_536), (118, ev_13), (119, ev_766), (122, ev_255), (124, ev_376), (127, ev_13), (128, ev_766), (131, ev_255), (133, ev_1210), (136, ev_13), (137, ev_252)]
noncomputable def zi_267_4 : ZIs := [(138, ev_1211), (141, ev_13), (142, ev_804), (145, ev_255), (147, ev_1212), (150, ev_13), (151, ev_1213), (154, ev_255), (156, ev_1214), (159, ev_13), (160, ev_1215), (163, ev_255), (165, ev_1216), (168, ev_13), (169, ev_1217), (172, ev_255)]
noncomputable def zi_267_5 : ZIs := [(174, ev_958), (177, ev_13), (178, ev_180), (180, ev_255), (182, ev_1097), (185, ev_13), (186, ev_180), (188, ev_8), (190, ev_1218), (193, ev_13), (194, ev_180), (196, ev_255), (198, ev_286), (201, ev_13), (202, ev_766), (205, ev_255)]
noncomputable def zi_267_6 : ZIs := [(207, ev_1219), (210, ev_13), (211, ev_180), (213, ev_255), (215, ev_1220), (218, ev_13), (219, ev_1221), (222, ev_255), (224, ev_1222), (227, ev_13), (228, ev_1008), (231, ev_8), (233, ev_1223), (236, ev_13), (237, ev_1008), (240, ev_255)]
noncomputable def zi_267_7 : ZIs := [(242, ev_1224), (245, ev_13), (246, ev_1008), (249, ev_255), (251, ev_1225), (254, ev_13), (255, ev_180), (257, ev_255), (259, ev_1226), (262, ev_13), (263, ev_526), (265, ev_255), (267, ev_1227), (270, ev_13), (271, ev_526), (273, ev_255)]
noncomputable def zi_267_8 : ZIs := [(275, ev_1228), (278, ev_13), (279, ev_180), (281, ev_255), (283, ev_1229), (286, ev_13), (287, ev_180), (289, ev_255), (291, ev_1230), (294, ev_13), (295, ev_180), (297, ev_255), (299, ev_1231), (302, ev_13), (303, ev_526), (305, ev_255)]
noncomputable def zi_267_9 : ZIs := [(307, ev_1232), (310, ev_13), (311, ev_526), (313, ev_255), (315, ev_1233), (318, ev_13), (319, ev_526), (321, ev_255), (323, ev_1234), (326, ev_13), (327, ev_530), (330, ev_8), (332, ev_1235), (335, ev_13), (336, ev_1236), (338, ev_255)]
noncomputable def zi_267_10 : ZIs := [(340, ev_1237), (343, ev_13), (344, ev_1236), (346, ev_8), (348, ev_1238), (351, ev_13), (352, ev_180), (354, ev_8), (356, ev_588), (359, ev_13), (360, ev_180), (362, ev_255), (364, ev_1239), (367, ev_13), (368, ev_529), (371, ev_8)]
noncomputable def zi_267_11 : ZIs := [(373, ev_1240), (376, ev_13), (377, ev_530), (380, ev_255), (382, ev_1241), (385, ev_13), (386, ev_530), (389, ev_255), (391, ev_1242), (394, ev_13), (395, ev_530), (398, ev_8), (400, ev_1243), (403, ev_13), (404, ev_180), (406, ev_8)]
noncomputable def zi_267_12 : ZIs := [(408, ev_1244), (411, ev_13), (412, ev_180), (414, ev_255), (416, ev_1245), (419, ev_13), (420, ev_180), (422, ev_255), (424, ev_1246), (427, ev_13), (428, ev_180), (430, ev_255), (432, ev_1247), (435, ev_13), (436, ev_180), (438, ev_255)]
noncomputable def zi_267_13 : ZIs := [(440, ev_1248), (443, ev_13), (444, ev_529), (447, ev_8), (449, ev_1249), (452, ev_13), (453, ev_180), (455, ev_8), (457, ev_1250), (460, ev_13), (461, ev_180), (463, ev_8), (465, ev_1251), (468, ev_13), (469, ev_180), (471, ev_255)]
noncomputable def zi_267_14 : ZIs := [(473, ev_1252), (476, ev_13), (477, ev_180), (479, ev_255), (481, ev_1253), (484, ev_13), (485, ev_180), (487, ev_8), (489, ev_1254), (492, ev_13), (493, ev_180), (495, ev_255), (497, ev_1255), (500, ev_13), (501, ev_180), (503, ev_8)]
noncomputable def zi_267_15 : ZIs := [(505, ev_1256), (508, ev_13), (509, ev_180), (511, ev_255), (513, ev_1257), (516, ev_13), (517, ev_180), (519, ev_255), (521, ev_1258), (524, ev_13), (525, ev_529), (528, ev_255), (530, ev_1259), (533, ev_13), (534, ev_389), (536, ev_255)]
noncomputable def zi_267_16 : ZIs := [(538, ev_1260), (541, ev_13), (542, ev_389), (544, ev_8), (546, ev_1261), (549, ev_13), (550, ev_7), (551, ev_1262), (554, ev_13), (555, ev_389), (557, ev_255), (559, ev_1263), (562, ev_13), (563, ev_389), (565, ev_8), (567, ev_1264)]
noncomputable def zi_267_17 : ZIs := [(570, ev_13), (571, ev_1265), (573, ev_1207), (575, ev_1266), (578, ev_13), (579, ev_1265), (581, ev_1207), (583, ev_1267), (586, ev_13), (587, ev_1265), (589, ev_8), (591, ev_1268), (594, ev_13), (595, ev_1265), (597, ev_8), (599, ev_1269)]
noncomputable def zi_267_18 : ZIs := [(602, ev_13), (603, ev_1265), (605, ev_1207), (607, ev_1270), (610, ev_13), (611, ev_1265), (613, ev_8), (615, ev_1271), (618, ev_13), (619, ev_1265), (621, ev_8), (623, ev_1272), (626, ev_13), (627, ev_1046), (630, ev_255), (632, ev_1273)]
noncomputable def zi_267_19 : ZIs := [(635, ev_13), (636, ev_1274), (639, ev_255), (641, ev_1275), (644, ev_13), (645, ev_1274), (648, ev_255), (650, ev_1276), (653, ev_13), (654, ev_31), (655, ev_255), (657, ev_1277), (660, ev_13), (661, ev_1274), (664, ev_255), (666, ev_1278)]
noncomputable def zi_267_20 : ZIs := [(669, ev_13), (670, ev_1274), (673, ev_255), (675, ev_1279), (678, ev_13), (679, ev_31), (680, ev_255), (682, ev_1280), (685, ev_13), (686, ev_1185), (689, ev_255), (691, ev_1281), (694, ev_13), (695, ev_180), (697, ev_8), (699, ev_1282)]
noncomputable def zi_267_21 : ZIs := [(702, ev_13), (703, ev_180), (705, ev_8), (707, ev_1283), (710, ev_13), (711, ev_1185), (714, ev_8), (716, ev_1284), (719, ev_13), (720, ev_369), (722, ev_8), (724, ev_1285), (727, ev_13), (728, ev_1286), (731, ev_260)]
set_option maxRecDepth 100000 in
theorem xi_w267 : zall cX12_init [zi_267_0, zi_267_1, zi_267_2, zi_267_3, zi_267_4, zi_267_5, zi_267_6, zi_267_7, zi_267_8, zi_267_9, zi_267_10, zi_267_11, zi_267_12, zi_267_13, zi_267_14, zi_267_15, zi_267_16, zi_267_17, zi_267_18, zi_267_19, zi_267_20, zi_267_21] := zall_w _ _ (by decide +kernel)
noncomputable def xi_267 (pc : Nat) : XIs := cond (Nat.blt pc 373) (cond (Nat.blt pc 174) (cond (Nat.blt pc 68) (cond (Nat.blt pc 32) (zx zi_267_0) (zx zi_267_1)) (cond (Nat.blt pc 104) (zx zi_267_2) (cond (Nat.blt pc 138) (zx zi_267_3) (zx zi_267_4)))) (cond (Nat.blt pc 275) (cond (Nat.blt pc 207) (zx zi_267_5) (cond (Nat.blt pc 242) (zx zi_267_6) (zx zi_267_7))) (cond (Nat.blt pc 307) (zx zi_267_8) (cond (Nat.blt pc 340) (zx zi_267_9) (zx zi_267_10))))) (cond (Nat.blt pc 538) (cond (Nat.blt pc 440) (cond (Nat.blt pc 408) (zx zi_267_11) (zx zi_267_12)) (cond (Nat.blt pc 473) (zx zi_267_13) (cond (Nat.blt pc 505) (zx zi_267_14) (zx zi_267_15)))) (cond (Nat.blt pc 635) (cond (Nat.blt pc 570) (zx zi_267_16) (cond (Nat.blt pc 602) (zx zi_267_17) (zx zi_267_18))) (cond (Nat.blt pc 669) (zx zi_267_19) (cond (Nat.blt pc 702) (zx zi_267_20) (zx zi_267_21)))))
theorem xi_ok267 (pc : Nat) : xi_ok cX12_init (xi_267 pc) = true := xi_c (xi_c (xi_c (xi_c (zq1 xi_w267) (zq1 (zq2 xi_w267))) (xi_c (zq1 (zq2 (zq2 xi_w267))) (xi_c (zq1 (zq2 (zq2 (zq2 xi_w267)))) (zq1 (zq2 (zq2 (zq2 (zq2 xi_w267)))))))) (xi_c (xi_c (zq1 (zq2 (zq2 (zq2 (zq2 (zq2 xi_w267)))))) (xi_c (zq1 (zq2 (zq2 (zq2 (zq2 (zq2 (zq2 xi_w267))))))) (zq1 (zq2 (zq2 (zq2 (zq2 (zq2 (zq2 (zq2 xi_w267)))))))))) (xi_c (zq1 (zq2 (zq2 (zq2 (zq2 (zq2 (zq2 (zq2 (zq2 xi_w267))))))))) (xi_c (zq1 (zq2 (zq2 (zq2 (zq2 (zq2 (zq2 (zq2 (zq2 (zq2 xi_w267)))))))))) (zq1 (zq2 (zq2 (zq2 (zq2 (zq2 (zq2 (zq2 (zq2 (zq2 (zq2 xi_w267))))))))))))))) (xi_c (xi_c (xi_c (zq1 (zq2 (zq2 (zq2 (zq2 (zq2 (zq2 (zq2 (zq2 (zq2 (zq2 (zq2 xi_w267)))))))))))) (zq1 (zq2 (zq2 (zq2 (zq2 (zq2 (zq2 (zq2 (zq2 (zq2 (zq2 (zq2 (zq2 xi_w267)))))))))))))) (xi_c (zq1 (zq2 (zq2 (zq2 (zq2 (zq2 (zq2 (zq2 (zq2 (zq2 (zq2 (zq2 (zq2 (zq2 xi_w267)))))))))))))) (xi_c (zq1 (zq2 (zq2 (zq2 (zq2 (zq2 (zq2 (zq2 (zq2 (zq2 (zq2 (zq2 (zq2 (zq2 (zq2 xi_w267))))))))))))))) (zq1 (zq2 (zq2 (zq2 (zq2 (zq2 (zq2 (zq2 (zq2 (zq2 (zq2 (zq2 (zq2 (zq2 (zq2 (zq2 xi_w267))))))))))))))))))) (xi_c (xi_c (zq1 (zq2 (zq2 (zq2 (zq2 (zq2 (zq2 (zq2 (zq2 (zq2 (zq2 (zq2 (zq2 (zq2 (zq2 (zq2 (zq2 xi_w267))))))))))))))))) (xi_c (zq1 (zq2 (zq2 (zq2 (zq2 (zq2 (zq2 (zq2 (zq2 (zq2 (zq2 (zq2 (zq2 (zq2 (zq2 (zq2 (zq2 (zq2 xi_w267)))))))))))))))))) (zq1 (zq2 (zq2 (zq2 (zq2 (zq2 (zq2 (zq2 (zq2 (zq2 (zq2 (zq2 (zq2 (zq2 (zq2 (zq2 (zq2 (zq2 (zq2 xi_w267))))))))))))))))))))) (xi_c (zq1 (zq2 (zq2 (zq2 (zq2 (zq2 (zq2 (zq2 (zq2 (zq2 (zq2 (zq2 (zq2 (zq2 (zq2 (zq2 (zq2 (zq2 (zq2 (zq2 xi_w267)))))))))))))))))))) (xi_c (zq1 (zq2 (zq2 (zq2 (zq2 (zq2 (zq2 (zq2 (zq2 (zq2 (zq2 (zq2 (zq2 (zq2 (zq2 (zq2 (zq2 (zq2 (zq2 (zq2 (zq2 xi_w267))))))))))))))))))))) (zq1 (zq2 (zq2 (zq2 (zq2 (zq2 (zq2 (zq2 (zq2 (zq2 (zq2 (zq2 (zq2 (zq2 (zq2 (zq2 (zq2 (zq2 (zq2 (zq2 (zq2 (zq2 xi_w267))))))))))))))))))))))))))
noncomputable def zi_268_0 : ZIs := [(0, ev_13), (1, ev_1287), (4, ev_128)]
set_option maxRecDepth 100000 in
theorem xi_w268 : zall cX12_thrown [zi_268_0] := zall_w _ _ (by decide +kernel)
noncomputable def xi_268 (pc : Nat) : XIs := zx zi_268_0
theorem xi_ok268 (pc : Nat) : xi_ok cX12_thrown (xi_268 pc) = true := zq1 xi_w268
noncomputable def zi_269_0 : ZIs := [(0, ev_488), (1, ev_490), (2, ev_136), (3, ev_1160), (6, ev_488), (7, ev_247), (9, ev_136), (10, ev_492), (13, ev_7), (14, ev_134), (17, ev_10), (18, ev_128)]
set_option maxRecDepth 100000 in
theorem xi_w269 : zall cX12_in [zi_269_0] := zall_w _ _ (by decide +kernel)
noncomputable def xi_269 (pc : Nat) : XIs := zx zi_269_0
theorem xi_ok269 (pc : Nat) : xi_ok cX12_in (xi_269 pc) = true := zq1 xi_w269
noncomputable def zi_270_0 : ZIs := [(0, ev_13), (1, ev_196), (2, ev_326), (5, ev_7), (6, ev_1120), (9, ev_201), (10, ev_326), (13, ev_30), (14, ev_134), (17, ev_10), (18, ev_1288), (21, ev_13), (22, ev_1287), (25, ev_494), (28, ev_7), (29, ev_134)]
noncomputable def zi_270_1 : ZIs := [(32, ev_10), (33, ev_128)]
set_option maxRecDepth 100000 in
theorem xi_w270 : zall cX12_fails [zi_270_0, zi_270_1] := zall_w _ _ (by decide +kernel)
noncomputable def xi_270 (pc : Nat) : XIs := cond (Nat.blt pc 32) (zx zi_270_0) (zx zi_270_1)
theorem xi_ok270 (pc : Nat) : xi_ok cX12_fails (xi_270 pc) = true := xi_c (zq1 xi_w270) (zq1 (zq2 xi_w270))
noncomputable def zi_271_0 : ZIs := [(0, ev_13), (1, ev_196), (2, ev_7), (3, ev_1289), (6, ev_128)]
set_option maxRecDepth 100000 in
theorem xi_w271 : zall cX12_wrongArgument [zi_271_0] := zall_w _ _ (by decide +kernel)
noncomputable def xi_271 (pc : Nat) : XIs := zx zi_271_0
theorem xi_ok271 (pc : Nat) : xi_ok cX12_wrongArgument (xi_271 pc) = true := zq1 xi_w271
noncomputable def zi_272_0 : ZIs := [(0, ev_196), (1, ev_679), (4, ev_196), (5, ev_13), (6, ev_1290), (9, ev_657), (12, ev_7), (13, ev_134), (16, ev_10), (17, ev_128)]
set_option maxRecDepth 100000 in
theorem xi_w272 : zall cX12_isNode [zi_272_0] := zall_w _ _ (by decide +kernel)
noncomputable def xi_272 (pc : Nat) : XIs := zx zi_272_0
theorem xi_ok272 (pc : Nat) : xi_ok cX12_isNode (xi_272 pc) = true := zq1 xi_w272
noncomputable def zi_273_0 : ZIs := [(0, ev_196), (1, ev_1291), (4, ev_196), (5, ev_530), (8, ev_364), (11, ev_13), (12, ev_1292), (15, ev_13), (16, ev_1293), (19, ev_196), (20, ev_22), (21, ev_1294), (22, ev_132), (25, ev_7), (26, ev_134), (29, ev_10)]
noncomputable def zi_273_1 : ZIs := [(30, ev_128)]
set_option maxRecDepth 100000 in
theorem xi_w273 : zall cX12_isArc [zi_273_0, zi_273_1] := zall_w _ _ (by decide +kernel)
noncomputable def xi_273 (pc : Nat) : XIs := cond (Nat.blt pc 30) (zx zi_273_0) (zx zi_273_1)
theorem xi_ok273 (pc : Nat) : xi_ok cX12_isArc (xi_273 pc) = true := xi_c (zq1 xi_w273) (zq1 (zq2 xi_w273))
noncomputable def zi_274_0 : ZIs := [(0, ev_13), (1, ev_430), (4, ev_13), (5, ev_1295), (8, ev_196), (9, ev_299), (10, ev_13), (11, ev_752), (14, ev_13), (15, ev_1295), (18, ev_201), (19, ev_299), (20, ev_13), (21, ev_706), (24, ev_13), (25, ev_1295)]
noncomputable def zi_274_1 : ZIs := [(28, ev_202), (29, ev_299), (30, ev_13), (31, ev_1147), (34, ev_13), (35, ev_1295), (38, ev_12), (40, ev_299), (41, ev_13), (42, ev_641), (45, ev_13), (46, ev_1295), (49, ev_126), (51, ev_299), (52, ev_13), (53, ev_383)]
noncomputable def zi_274_2 : ZIs := [(56, ev_13), (57, ev_1295), (60, ev_131), (62, ev_299), (63, ev_13), (64, ev_1296), (67, ev_13), (68, ev_1295), (71, ev_276), (73, ev_299), (74, ev_13), (75, ev_13), (76, ev_1295), (79, ev_10), (80, ev_1297), (83, ev_13)]
noncomputable def zi_274_3 : ZIs := [(84, ev_1), (85, ev_1295), (88, ev_7), (89, ev_22), (90, ev_1298), (93, ev_13), (94, ev_1299), (97, ev_260)]
set_option maxRecDepth 100000 in
theorem xi_w274 : zall cX12_make [zi_274_0, zi_274_1, zi_274_2, zi_274_3] := zall_w _ _ (by decide +kernel)
noncomputable def xi_274 (pc : Nat) : XIs := cond (Nat.blt pc 56) (cond (Nat.blt pc 28) (zx zi_274_0) (zx zi_274_1)) (cond (Nat.blt pc 84) (zx zi_274_2) (zx zi_274_3))
theorem xi_ok274 (pc : Nat) : xi_ok cX12_make (xi_274 pc) = true := xi_c (xi_c (zq1 xi_w274) (zq1 (zq2 xi_w274))) (xi_c (zq1 (zq2 (zq2 xi_w274))) (zq1 (zq2 (zq2 (zq2 xi_w274)))))
noncomputable def zi_275_0 : ZIs := [(0, ev_530), (3, ev_201), (4, ev_355), (5, ev_13), (6, ev_752), (9, ev_196), (10, ev_18), (11, ev_22), (12, ev_295), (13, ev_13), (14, ev_430), (17, ev_196), (18, ev_18)]
noncomputable def xi_275_1 : XIs := [(19, .tableswitch 208 0 3 #[29, 64, 134, 144], 29)]
set_option maxRecDepth 100000 in
theorem xi_ok275_1 : xi_ok cX12_apply xi_275_1 = true := by decide +kernel
noncomputable def zi_275_2 : ZIs := [(48, ev_13), (49, ev_1300), (52, ev_180), (54, ev_201), (55, ev_355), (56, ev_13), (57, ev_1301), (60, ev_201), (61, ev_18), (62, ev_22), (63, ev_13), (64, ev_752), (67, ev_196), (68, ev_18), (69, ev_299), (70, ev_13)]
noncomputable def zi_275_3 : ZIs := [(71, ev_1301), (74, ev_201), (75, ev_316), (76, ev_18), (77, ev_7), (78, ev_22), (79, ev_299), (80, ev_1302), (83, ev_13), (84, ev_1292), (87, ev_202), (88, ev_7), (89, ev_1303), (90, ev_13), (91, ev_1304), (94, ev_202)]
noncomputable def zi_275_4 : ZIs := [(95, ev_13), (96, ev_706), (99, ev_196), (100, ev_18), (101, ev_299), (102, ev_13), (103, ev_1039), (106, ev_202), (107, ev_13), (108, ev_1147), (111, ev_196), (112, ev_18), (113, ev_299), (114, ev_13), (115, ev_1040), (118, ev_202)]
noncomputable def zi_275_5 : ZIs := [(119, ev_13), (120, ev_641), (123, ev_196), (124, ev_18), (125, ev_299), (126, ev_13), (127, ev_466), (130, ev_202), (131, ev_13), (132, ev_383), (135, ev_196), (136, ev_18), (137, ev_299), (138, ev_13), (139, ev_434), (142, ev_202)]
noncomputable def zi_275_6 : ZIs := [(143, ev_13), (144, ev_1296), (147, ev_196), (148, ev_18), (149, ev_299), (150, ev_1305), (153, ev_13), (154, ev_1292), (157, ev_202), (158, ev_10), (159, ev_1303), (160, ev_1306), (163, ev_13), (164, ev_706), (167, ev_196), (168, ev_18)]
noncomputable def zi_275_7 : ZIs := [(169, ev_1307), (172, ev_13), (173, ev_1040), (176, ev_202), (177, ev_13), (178, ev_1147), (181, ev_196), (182, ev_18), (183, ev_299), (184, ev_1308), (187, ev_13), (188, ev_706), (191, ev_196), (192, ev_18), (193, ev_7), (194, ev_756)]
noncomputable def zi_275_8 : ZIs := [(197, ev_13), (198, ev_466), (201, ev_202), (202, ev_13), (203, ev_1147), (206, ev_196), (207, ev_18), (208, ev_299), (209, ev_1309), (212, ev_13), (213, ev_434), (216, ev_202), (217, ev_13), (218, ev_1147), (221, ev_196), (222, ev_18)]
noncomputable def zi_275_9 : ZIs := [(223, ev_299), (224, ev_1310), (227, ev_13), (228, ev_1300), (231, ev_180), (233, ev_201), (234, ev_355), (235, ev_13), (236, ev_752), (239, ev_196), (240, ev_18), (241, ev_22), (242, ev_13), (243, ev_706), (246, ev_196), (247, ev_18)]
noncomputable def zi_275_10 : ZIs := [(248, ev_299), (249, ev_260)]
set_option maxRecDepth 100000 in
theorem xi_w275 : zall cX12_apply [zi_275_0, zi_275_2, zi_275_3, zi_275_4, zi_275_5, zi_275_6, zi_275_7, zi_275_8, zi_275_9, zi_275_10] := zall_w _ _ (by decide +kernel)
noncomputable def xi_275 (pc : Nat) : XIs := cond (Nat.blt pc 119) (cond (Nat.blt pc 48) (cond (Nat.blt pc 19) (zx zi_275_0) (xi_275_1)) (cond (Nat.blt pc 71) (zx zi_275_2) (cond (Nat.blt pc 95) (zx zi_275_3) (zx zi_275_4)))) (cond (Nat.blt pc 197) (cond (Nat.blt pc 143) (zx zi_275_5) (cond (Nat.blt pc 169) (zx zi_275_6) (zx zi_275_7))) (cond (Nat.blt pc 223) (zx zi_275_8) (cond (Nat.blt pc 248) (zx zi_275_9) (zx zi_275_10))))
theorem xi_ok275 (pc : Nat) : xi_ok cX12_apply (xi_275 pc) = true := xi_c (xi_c (xi_c (zq1 xi_w275) (xi_ok275_1)) (xi_c (zq1 (zq2 xi_w275)) (xi_c (zq1 (zq2 (zq2 xi_w275))) (zq1 (zq2 (zq2 (zq2 xi_w275))))))) (xi_c (xi_c (zq1 (zq2 (zq2 (zq2 (zq2 xi_w275))))) (xi_c (zq1 (zq2 (zq2 (zq2 (zq2 (zq2 xi_w275)))))) (zq1 (zq2 (zq2 (zq2 (zq2 (zq2 (zq2 xi_w275))))))))) (xi_c (zq1 (zq2 (zq2 (zq2 (zq2 (zq2 (zq2 (zq2 xi_w275)))))))) (xi_c (zq1 (zq2 (zq2 (zq2 (zq2 (zq2 (zq2 (zq2 (zq2 xi_w275))))))))) (zq1 (zq2 (zq2 (zq2 (zq2 (zq2 (zq2 (zq2 (zq2 (zq2 xi_w275)))))))))))))
noncomputable def zi_276_0 : ZIs := [(0, ev_13), (1, ev_13), (2, ev_1311), (5, ev_487), (8, ev_10), (9, ev_134), (12, ev_7), (13, ev_1312), (16, ev_13), (17, ev_530), (20, ev_13), (21, ev_1163), (24, ev_355), (25, ev_1313), (28, ev_13), (29, ev_13)]
noncomputable def zi_276_1 : ZIs := [(30, ev_1301), (33, ev_13), (34, ev_1163), (37, ev_18), (38, ev_1314), (41, ev_260)]
set_option maxRecDepth 100000 in
theorem xi_w276 : zall cX12_look [zi_276_0, zi_276_1] := zall_w _ _ (by decide +kernel)
noncomputable def xi_276 (pc : Nat) : XIs := cond (Nat.blt pc 30) (zx zi_276_0) (zx zi_276_1)
theorem xi_ok276 (pc : Nat) : xi_ok cX12_look (xi_276 pc) = true := xi_c (zq1 xi_w276) (zq1 (zq2 xi_w276))
noncomputable def zi_277_0 : ZIs := [(0, ev_196), (1, ev_1315), (4, ev_196), (5, ev_13), (6, ev_1301), (9, ev_10), (10, ev_18), (11, ev_657), (14, ev_7), (15, ev_134), (18, ev_10), (19, ev_128)]
set_option maxRecDepth 100000 in
theorem xi_w277 : zall cX12_isNewNode [zi_277_0] := zall_w _ _ (by decide +kernel)
noncomputable def xi_277 (pc : Nat) : XIs := zx zi_277_0
theorem xi_ok277 (pc : Nat) : xi_ok cX12_isNewNode (xi_277 pc) = true := zq1 xi_w277
noncomputable def zi_278_0 : ZIs := [(0, ev_196), (1, ev_1114), (4, ev_196), (5, ev_530), (8, ev_1115), (11, ev_13), (12, ev_1292), (15, ev_196), (16, ev_1294), (17, ev_132), (20, ev_7), (21, ev_134), (24, ev_10), (25, ev_128)]
set_option maxRecDepth 100000 in
theorem xi_w278 : zall cX12_isNewArc [zi_278_0] := zall_w _ _ (by decide +kernel)
noncomputable def xi_278 (pc : Nat) : XIs := zx zi_278_0
theorem xi_ok278 (pc : Nat) : xi_ok cX12_isNewArc (xi_278 pc) = true := zq1 xi_w278
noncomputable def zi_279_0 : ZIs := [(0, ev_483), (1, ev_179), (2, ev_1316), (5, ev_1317), (8, ev_1318), (11, ev_128)]
set_option maxRecDepth 100000 in
theorem xi_w279 : zall cX12_isWeight [zi_279_0] := zall_w _ _ (by decide +kernel)
noncomputable def xi_279 (pc : Nat) : XIs := zx zi_279_0
theorem xi_ok279 (pc : Nat) : xi_ok cX12_isWeight (xi_279 pc) = true := zq1 xi_w279
noncomputable def zi_280_0 : ZIs := [(0, ev_10), (1, ev_294), (2, ev_201), (3, ev_530), (6, ev_302), (9, ev_13), (10, ev_1292), (13, ev_530), (16, ev_196), (17, ev_355), (18, ev_201), (19, ev_22), (20, ev_1294), (21, ev_347), (24, ev_304), (27, ev_319)]
noncomputable def zi_280_1 : ZIs := [(30, ev_201), (31, ev_128)]
set_option maxRecDepth 100000 in
theorem xi_w280 : zall cX12_freePlace [zi_280_0, zi_280_1] := zall_w _ _ (by decide +kernel)
noncomputable def xi_280 (pc : Nat) : XIs := cond (Nat.blt pc 30) (zx zi_280_0) (zx zi_280_1)
theorem xi_ok280 (pc : Nat) : xi_ok cX12_freePlace (xi_280 pc) = true := xi_c (zq1 xi_w280) (zq1 (zq2 xi_w280))
noncomputable def zi_281_0 : ZIs := [(0, ev_13), (1, ev_196), (2, ev_179), (3, ev_135), (4, ev_1319), (7, ev_1318), (10, ev_13), (11, ev_1301), (14, ev_10), (15, ev_18), (16, ev_180), (18, ev_684), (21, ev_13), (22, ev_1295), (25, ev_766), (28, ev_657)]
noncomputable def zi_281_1 : ZIs := [(31, ev_7), (32, ev_134), (35, ev_10), (36, ev_1289), (39, ev_137), (42, ev_10), (43, ev_128), (44, ev_13), (45, ev_10), (46, ev_196), (47, ev_10), (48, ev_10), (49, ev_10), (50, ev_10), (51, ev_10), (52, ev_1320)]
noncomputable def zi_281_2 : ZIs := [(55, ev_13), (56, ev_1301), (59, ev_10), (60, ev_18), (61, ev_7), (62, ev_16), (63, ev_128)]
set_option maxRecDepth 100000 in
theorem xi_w281 : zall cX12_node [zi_281_0, zi_281_1, zi_281_2] := zall_w _ _ (by decide +kernel)
noncomputable def xi_281 (pc : Nat) : XIs := cond (Nat.blt pc 31) (zx zi_281_0) (cond (Nat.blt pc 55) (zx zi_281_1) (zx zi_281_2))
theorem xi_ok281 (pc : Nat) : xi_ok cX12_node (xi_281 pc) = true := xi_c (zq1 xi_w281) (xi_c (zq1 (zq2 xi_w281)) (zq1 (zq2 (zq2 xi_w281))))
noncomputable def zi_282_0 : ZIs := [(0, ev_13), (1, ev_13), (2, ev_196), (3, ev_1170), (6, ev_1321), (9, ev_13), (10, ev_201), (11, ev_1170), (14, ev_868), (17, ev_202), (18, ev_1322), (21, ev_1323), (24, ev_12), (26, ev_179), (27, ev_135), (28, ev_1317)]
noncomputable def zi_282_1 : ZIs := [(31, ev_1318), (34, ev_681), (37, ev_126), (39, ev_179), (40, ev_135), (41, ev_1319), (44, ev_1318), (47, ev_132), (50, ev_7), (51, ev_134), (54, ev_10), (55, ev_13), (56, ev_1295), (59, ev_766), (62, ev_657), (65, ev_7)]
noncomputable def zi_282_2 : ZIs := [(66, ev_134), (69, ev_10), (70, ev_1289), (73, ev_137), (76, ev_10), (77, ev_128), (78, ev_13), (79, ev_10), (80, ev_1324), (83, ev_28), (85, ev_131), (87, ev_530), (90, ev_775), (93, ev_776), (95, ev_128), (96, ev_13)]
noncomputable def zi_282_3 : ZIs := [(97, ev_7), (98, ev_131), (100, ev_196), (101, ev_201), (102, ev_202), (103, ev_12), (105, ev_126), (107, ev_1320), (110, ev_131), (112, ev_128)]
set_option maxRecDepth 100000 in
theorem xi_w282 : zall cX12_arc [zi_282_0, zi_282_1, zi_282_2, zi_282_3] := zall_w _ _ (by decide +kernel)
noncomputable def xi_282 (pc : Nat) : XIs := cond (Nat.blt pc 66) (cond (Nat.blt pc 31) (zx zi_282_0) (zx zi_282_1)) (cond (Nat.blt pc 97) (zx zi_282_2) (zx zi_282_3))
theorem xi_ok282 (pc : Nat) : xi_ok cX12_arc (xi_282 pc) = true := xi_c (xi_c (zq1 xi_w282) (zq1 (zq2 xi_w282))) (xi_c (zq1 (zq2 (zq2 xi_w282))) (zq1 (zq2 (zq2 (zq2 xi_w282)))))
noncomputable def zi_283_0 : ZIs := [(0, ev_13), (1, ev_13), (2, ev_196), (3, ev_1325), (6, ev_13), (7, ev_1295), (10, ev_766), (13, ev_657), (16, ev_7), (17, ev_134), (20, ev_10), (21, ev_1289), (24, ev_137), (27, ev_10), (28, ev_128), (29, ev_13)]
noncomputable def zi_283_1 : ZIs := [(30, ev_30), (31, ev_196), (32, ev_10), (33, ev_10), (34, ev_10), (35, ev_10), (36, ev_10), (37, ev_1320), (40, ev_13), (41, ev_1295), (44, ev_128)]
set_option maxRecDepth 100000 in
theorem xi_w283 : zall cX12_take [zi_283_0, zi_283_1] := zall_w _ _ (by decide +kernel)
noncomputable def xi_283 (pc : Nat) : XIs := cond (Nat.blt pc 30) (zx zi_283_0) (zx zi_283_1)
theorem xi_ok283 (pc : Nat) : xi_ok cX12_take (xi_283 pc) = true := xi_c (zq1 xi_w283) (zq1 (zq2 xi_w283))
noncomputable def zi_284_0 : ZIs := [(0, ev_201), (1, ev_381), (4, ev_202), (5, ev_1322), (8, ev_788), (11, ev_201), (12, ev_7), (13, ev_728), (16, ev_202), (17, ev_179), (18, ev_135), (19, ev_1317), (22, ev_1318), (25, ev_1310), (28, ev_201), (29, ev_30)]
noncomputable def zi_284_1 : ZIs := [(30, ev_757), (33, ev_202), (34, ev_179), (35, ev_135), (36, ev_1319), (39, ev_1318), (42, ev_132), (45, ev_7), (46, ev_134), (49, ev_10), (50, ev_11), (52, ev_13), (53, ev_13), (54, ev_196), (55, ev_1325), (58, ev_650)]
noncomputable def zi_284_2 : ZIs := [(61, ev_12), (63, ev_132), (66, ev_7), (67, ev_134), (70, ev_10), (71, ev_13), (72, ev_1295), (75, ev_766), (78, ev_657), (81, ev_7), (82, ev_134), (85, ev_10), (86, ev_1289), (89, ev_137), (92, ev_10), (93, ev_128)]
noncomputable def zi_284_3 : ZIs := [(94, ev_201), (95, ev_399), (98, ev_13), (99, ev_1040), (102, ev_196), (103, ev_18), (104, ev_1326), (107, ev_201), (108, ev_7), (109, ev_691), (112, ev_13), (113, ev_466), (116, ev_196), (117, ev_18), (118, ev_199), (121, ev_13)]
noncomputable def zi_284_4 : ZIs := [(122, ev_434), (125, ev_196), (126, ev_18), (127, ev_25), (129, ev_13), (130, ev_31), (131, ev_196), (132, ev_201), (133, ev_202), (134, ev_10), (135, ev_10), (136, ev_10), (137, ev_1320), (140, ev_126), (142, ev_128)]
set_option maxRecDepth 100000 in
theorem xi_w284 : zall cX12_set [zi_284_0, zi_284_1, zi_284_2, zi_284_3, zi_284_4] := zall_w _ _ (by decide +kernel)
noncomputable def xi_284 (pc : Nat) : XIs := cond (Nat.blt pc 61) (cond (Nat.blt pc 30) (zx zi_284_0) (zx zi_284_1)) (cond (Nat.blt pc 94) (zx zi_284_2) (cond (Nat.blt pc 122) (zx zi_284_3) (zx zi_284_4)))
theorem xi_ok284 (pc : Nat) : xi_ok cX12_set (xi_284 pc) = true := xi_c (xi_c (zq1 xi_w284) (zq1 (zq2 xi_w284))) (xi_c (zq1 (zq2 (zq2 xi_w284))) (xi_c (zq1 (zq2 (zq2 (zq2 xi_w284)))) (zq1 (zq2 (zq2 (zq2 (zq2 xi_w284)))))))
noncomputable def zi_285_0 : ZIs := [(0, ev_13), (1, ev_13), (2, ev_196), (3, ev_1170), (6, ev_489), (9, ev_201), (10, ev_179), (11, ev_135), (12, ev_1319), (15, ev_1318), (18, ev_132), (21, ev_7), (22, ev_134), (25, ev_10), (26, ev_13), (27, ev_1295)]
noncomputable def zi_285_1 : ZIs := [(30, ev_766), (33, ev_657), (36, ev_7), (37, ev_134), (40, ev_10), (41, ev_1289), (44, ev_137), (47, ev_10), (48, ev_128), (49, ev_13), (50, ev_1300), (53, ev_196), (54, ev_18), (55, ev_295), (56, ev_13), (57, ev_32)]
noncomputable def zi_285_2 : ZIs := [(58, ev_196), (59, ev_201), (60, ev_10), (61, ev_10), (62, ev_10), (63, ev_10), (64, ev_1320), (67, ev_202), (68, ev_128)]
set_option maxRecDepth 100000 in
theorem xi_w285 : zall cX12_label [zi_285_0, zi_285_1, zi_285_2] := zall_w _ _ (by decide +kernel)
noncomputable def xi_285 (pc : Nat) : XIs := cond (Nat.blt pc 30) (zx zi_285_0) (cond (Nat.blt pc 58) (zx zi_285_1) (zx zi_285_2))
theorem xi_ok285 (pc : Nat) : xi_ok cX12_label (xi_285 pc) = true := xi_c (zq1 xi_w285) (xi_c (zq1 (zq2 xi_w285)) (zq1 (zq2 (zq2 xi_w285))))
noncomputable def zi_286_0 : ZIs := [(0, ev_13), (1, ev_196), (2, ev_179), (3, ev_1327), (6, ev_13), (7, ev_1295), (10, ev_179), (11, ev_1318), (14, ev_1177), (17, ev_137), (20, ev_10), (21, ev_128), (22, ev_13), (23, ev_196), (24, ev_1211), (27, ev_196)]
noncomputable def zi_286_1 : ZIs := [(28, ev_1328), (31, ev_13), (32, ev_1301), (35, ev_7), (36, ev_10), (37, ev_299), (38, ev_10), (39, ev_294), (40, ev_201), (41, ev_530), (44, ev_687), (47, ev_13), (48, ev_1292), (51, ev_530), (54, ev_201), (55, ev_22)]
noncomputable def zi_286_2 : ZIs := [(56, ev_10), (57, ev_1303), (58, ev_304), (61, ev_1329), (64, ev_10), (65, ev_294), (66, ev_201), (67, ev_196), (68, ev_1155), (71, ev_13), (72, ev_201), (73, ev_7), (74, ev_1297), (77, ev_304), (80, ev_1156), (83, ev_13)]
noncomputable def zi_286_3 : ZIs := [(84, ev_1299), (87, ev_196), (88, ev_1330), (91, ev_13), (92, ev_1295), (95, ev_134), (98, ev_196), (99, ev_128)]
set_option maxRecDepth 100000 in
theorem xi_w286 : zall cX12_view [zi_286_0, zi_286_1, zi_286_2, zi_286_3] := zall_w _ _ (by decide +kernel)
noncomputable def xi_286 (pc : Nat) : XIs := cond (Nat.blt pc 56) (cond (Nat.blt pc 28) (zx zi_286_0) (zx zi_286_1)) (cond (Nat.blt pc 84) (zx zi_286_2) (zx zi_286_3))
theorem xi_ok286 (pc : Nat) : xi_ok cX12_view (xi_286 pc) = true := xi_c (xi_c (zq1 xi_w286) (zq1 (zq2 xi_w286))) (xi_c (zq1 (zq2 (zq2 xi_w286))) (zq1 (zq2 (zq2 (zq2 xi_w286)))))
noncomputable def zi_287_0 : ZIs := [(0, ev_13), (1, ev_10), (2, ev_1288), (5, ev_13), (6, ev_1295), (9, ev_128)]
set_option maxRecDepth 100000 in
theorem xi_w287 : zall cX12_version [zi_287_0] := zall_w _ _ (by decide +kernel)
noncomputable def xi_287 (pc : Nat) : XIs := zx zi_287_0
theorem xi_ok287 (pc : Nat) : xi_ok cX12_version (xi_287 pc) = true := zq1 xi_w287
noncomputable def zi_288_0 : ZIs := [(0, ev_13), (1, ev_1292), (4, ev_13), (5, ev_1293), (8, ev_196), (9, ev_22), (10, ev_1294), (11, ev_1331), (14, ev_13), (15, ev_1304), (18, ev_13), (19, ev_1293), (22, ev_196), (23, ev_22), (24, ev_18), (25, ev_13)]
noncomputable def zi_288_1 : ZIs := [(26, ev_1039), (29, ev_13), (30, ev_1293), (33, ev_196), (34, ev_22), (35, ev_18), (36, ev_682), (39, ev_7), (40, ev_134), (43, ev_10), (44, ev_128)]
set_option maxRecDepth 100000 in
theorem xi_w288 : zall cX12_isJoint [zi_288_0, zi_288_1] := zall_w _ _ (by decide +kernel)
noncomputable def xi_288 (pc : Nat) : XIs := cond (Nat.blt pc 26) (zx zi_288_0) (zx zi_288_1)
theorem xi_ok288 (pc : Nat) : xi_ok cX12_isJoint (xi_288 pc) = true := xi_c (zq1 xi_w288) (zq1 (zq2 xi_w288))
noncomputable def zi_289_0 : ZIs := [(0, ev_13), (1, ev_196), (2, ev_179), (3, ev_135), (4, ev_1332), (7, ev_1318), (10, ev_1177), (13, ev_137), (16, ev_10), (17, ev_128), (18, ev_10), (19, ev_294), (20, ev_10), (21, ev_295), (22, ev_252), (23, ev_11)]
noncomputable def zi_289_1 : ZIs := [(25, ev_10), (26, ev_25), (28, ev_126), (30, ev_530), (33, ev_450), (36, ev_201), (37, ev_13), (38, ev_1292), (41, ev_13), (42, ev_1293), (45, ev_126), (47, ev_22), (48, ev_1294), (49, ev_132), (52, ev_7), (53, ev_134)]
noncomputable def zi_289_2 : ZIs := [(56, ev_10), (57, ev_22), (58, ev_294), (59, ev_202), (60, ev_13), (61, ev_126), (63, ev_1180), (66, ev_132), (69, ev_7), (70, ev_134), (73, ev_10), (74, ev_22), (75, ev_295), (76, ev_13), (77, ev_1292), (80, ev_13)]
noncomputable def zi_289_3 : ZIs := [(81, ev_1293), (84, ev_126), (86, ev_22), (87, ev_1294), (88, ev_330), (91, ev_126), (93, ev_639), (96, ev_12), (98, ev_11), (100, ev_343), (103, ev_845), (106, ev_196), (107, ev_381), (110, ev_13), (111, ev_1290), (114, ev_1326)]
noncomputable def zi_289_4 : ZIs := [(117, ev_196), (118, ev_7), (119, ev_819), (122, ev_201), (123, ev_1178), (126, ev_196), (127, ev_30), (128, ev_819), (131, ev_202), (132, ev_639), (135, ev_12), (137, ev_128)]
set_option maxRecDepth 100000 in
theorem xi_w289 : zall cX12_size [zi_289_0, zi_289_1, zi_289_2, zi_289_3, zi_289_4] := zall_w _ _ (by decide +kernel)
noncomputable def xi_289 (pc : Nat) : XIs := cond (Nat.blt pc 56) (cond (Nat.blt pc 25) (zx zi_289_0) (zx zi_289_1)) (cond (Nat.blt pc 81) (zx zi_289_2) (cond (Nat.blt pc 117) (zx zi_289_3) (zx zi_289_4)))
theorem xi_ok289 (pc : Nat) : xi_ok cX12_size (xi_289 pc) = true := xi_c (xi_c (zq1 xi_w289) (zq1 (zq2 xi_w289))) (xi_c (zq1 (zq2 (zq2 xi_w289))) (xi_c (zq1 (zq2 (zq2 (zq2 xi_w289)))) (zq1 (zq2 (zq2 (zq2 (zq2 xi_w289)))))))
noncomputable def zi_290_0 : ZIs := [(0, ev_13), (1, ev_196), (2, ev_179), (3, ev_135), (4, ev_1333), (7, ev_1318), (10, ev_489), (13, ev_201), (14, ev_179), (15, ev_135), (16, ev_1334), (19, ev_1318), (22, ev_132), (25, ev_7), (26, ev_134), (29, ev_10)]
noncomputable def zi_290_1 : ZIs := [(30, ev_1177), (33, ev_137), (36, ev_135), (37, ev_482), (38, ev_13), (39, ev_1293), (42, ev_196), (43, ev_22), (44, ev_295), (45, ev_13), (46, ev_1292), (49, ev_202), (50, ev_1294), (51, ev_326), (54, ev_1335), (57, ev_482)]
noncomputable def zi_290_2 : ZIs := [(58, ev_201), (59, ev_1133), (62, ev_13), (63, ev_1304), (66, ev_202), (67, ev_18), (68, ev_179), (69, ev_1336), (72, ev_201), (73, ev_7), (74, ev_928), (77, ev_13), (78, ev_1039), (81, ev_202), (82, ev_18), (83, ev_179)]
noncomputable def zi_290_3 : ZIs := [(84, ev_1309), (87, ev_201), (88, ev_30), (89, ev_928), (92, ev_13), (93, ev_1040), (96, ev_202), (97, ev_18), (98, ev_179), (99, ev_1310), (102, ev_201), (103, ev_31), (104, ev_928), (107, ev_13), (108, ev_466), (111, ev_202)]
noncomputable def zi_290_4 : ZIs := [(112, ev_18), (113, ev_179), (114, ev_634), (117, ev_13), (118, ev_434), (121, ev_202), (122, ev_18), (123, ev_179), (124, ev_482)]
set_option maxRecDepth 100000 in
theorem xi_w290 : zall cX12_told [zi_290_0, zi_290_1, zi_290_2, zi_290_3, zi_290_4] := zall_w _ _ (by decide +kernel)
noncomputable def xi_290 (pc : Nat) : XIs := cond (Nat.blt pc 58) (cond (Nat.blt pc 30) (zx zi_290_0) (zx zi_290_1)) (cond (Nat.blt pc 84) (zx zi_290_2) (cond (Nat.blt pc 112) (zx zi_290_3) (zx zi_290_4)))
theorem xi_ok290 (pc : Nat) : xi_ok cX12_told (xi_290 pc) = true := xi_c (xi_c (zq1 xi_w290) (zq1 (zq2 xi_w290))) (xi_c (zq1 (zq2 (zq2 xi_w290))) (xi_c (zq1 (zq2 (zq2 (zq2 xi_w290)))) (zq1 (zq2 (zq2 (zq2 (zq2 xi_w290)))))))
noncomputable def zi_291_0 : ZIs := [(0, ev_13), (1, ev_13), (2, ev_196), (3, ev_1337), (6, ev_1177), (9, ev_132), (12, ev_10), (13, ev_789), (16, ev_13), (17, ev_1300), (20, ev_180), (22, ev_13), (23, ev_1163), (26, ev_355), (27, ev_196), (28, ev_22)]
noncomputable def zi_291_1 : ZIs := [(29, ev_18), (30, ev_128)]
set_option maxRecDepth 100000 in
theorem xi_w291 : zall cX12_labelOf [zi_291_0, zi_291_1] := zall_w _ _ (by decide +kernel)
noncomputable def xi_291 (pc : Nat) : XIs := cond (Nat.blt pc 29) (zx zi_291_0) (zx zi_291_1)
theorem xi_ok291 (pc : Nat) : xi_ok cX12_labelOf (xi_291 pc) = true := xi_c (zq1 xi_w291) (zq1 (zq2 xi_w291))
noncomputable def zi_292_0 : ZIs := [(0, ev_13), (1, ev_13), (2, ev_196), (3, ev_1337), (6, ev_333), (9, ev_201), (10, ev_179), (11, ev_135), (12, ev_133), (13, ev_1318), (16, ev_932), (19, ev_202), (20, ev_832), (23, ev_7), (24, ev_134), (27, ev_10)]
noncomputable def zi_292_1 : ZIs := [(28, ev_1177), (31, ev_137), (34, ev_10), (35, ev_128), (36, ev_10), (37, ev_11), (39, ev_10), (40, ev_25), (42, ev_126), (44, ev_530), (47, ev_1338), (50, ev_13), (51, ev_1292), (54, ev_13), (55, ev_1293), (58, ev_126)]
noncomputable def zi_292_2 : ZIs := [(60, ev_22), (61, ev_1294), (62, ev_1339), (65, ev_201), (66, ev_1307), (69, ev_13), (70, ev_1304), (73, ev_13), (74, ev_1293), (77, ev_126), (79, ev_22), (80, ev_18), (81, ev_440), (84, ev_13), (85, ev_1039), (88, ev_13)]
noncomputable def zi_292_3 : ZIs := [(89, ev_1293), (92, ev_126), (94, ev_22), (95, ev_18), (96, ev_196), (97, ev_728), (100, ev_12), (102, ev_202), (103, ev_775), (106, ev_126), (108, ev_128), (109, ev_348), (112, ev_343), (115, ev_1340), (118, ev_252), (119, ev_128)]
set_option maxRecDepth 100000 in
theorem xi_w292 : zall cX12_arcAt [zi_292_0, zi_292_1, zi_292_2, zi_292_3] := zall_w _ _ (by decide +kernel)
noncomputable def xi_292 (pc : Nat) : XIs := cond (Nat.blt pc 60) (cond (Nat.blt pc 28) (zx zi_292_0) (zx zi_292_1)) (cond (Nat.blt pc 89) (zx zi_292_2) (zx zi_292_3))
theorem xi_ok292 (pc : Nat) : xi_ok cX12_arcAt (xi_292 pc) = true := xi_c (xi_c (zq1 xi_w292) (zq1 (zq2 xi_w292))) (xi_c (zq1 (zq2 (zq2 xi_w292))) (zq1 (zq2 (zq2 (zq2 xi_w292)))))
noncomputable def zi_293_0 : ZIs := [(0, ev_13), (1, ev_196), (2, ev_179), (3, ev_1341), (6, ev_1342), (9, ev_1318), (12, ev_13), (13, ev_1192), (16, ev_804), (19, ev_657), (22, ev_7), (23, ev_134), (26, ev_10), (27, ev_1289), (30, ev_137), (33, ev_10)]
noncomputable def zi_293_1 : ZIs := [(34, ev_128), (35, ev_13), (36, ev_841), (39, ev_13), (40, ev_1192), (43, ev_196), (44, ev_299), (45, ev_13), (46, ev_1), (47, ev_1192), (50, ev_7), (51, ev_22), (52, ev_1343), (55, ev_13), (56, ev_1192), (59, ev_128)]
set_option maxRecDepth 100000 in
theorem xi_w293 : zall cX12_type [zi_293_0, zi_293_1] := zall_w _ _ (by decide +kernel)
noncomputable def xi_293 (pc : Nat) : XIs := cond (Nat.blt pc 34) (zx zi_293_0) (zx zi_293_1)
theorem xi_ok293 (pc : Nat) : xi_ok cX12_type (xi_293 pc) = true := xi_c (zq1 xi_w293) (zq1 (zq2 xi_w293))
noncomputable def zi_294_0 : ZIs := [(0, ev_13), (1, ev_10), (2, ev_1288), (5, ev_13), (6, ev_1192), (9, ev_686), (10, ev_13), (11, ev_10), (12, ev_1343), (15, ev_196), (16, ev_128)]
set_option maxRecDepth 100000 in
theorem xi_w294 : zall cX12_wipe [zi_294_0] := zall_w _ _ (by decide +kernel)
noncomputable def xi_294 (pc : Nat) : XIs := zx zi_294_0
theorem xi_ok294 (pc : Nat) : xi_ok cX12_wipe (xi_294 pc) = true := zq1 xi_w294
noncomputable def zi_295_0 : ZIs := [(0, ev_13), (1, ev_196), (2, ev_179), (3, ev_135), (4, ev_133), (5, ev_1318), (8, ev_1177), (11, ev_137), (14, ev_10), (15, ev_128), (16, ev_13), (17, ev_1344), (20, ev_326), (23, ev_252), (24, ev_1345), (27, ev_196)]
noncomputable def zi_295_1 : ZIs := [(28, ev_381), (31, ev_13), (32, ev_1344), (35, ev_216), (38, ev_13), (39, ev_1346), (42, ev_128)]
set_option maxRecDepth 100000 in
theorem xi_w295 : zall cX12_fault [zi_295_0, zi_295_1] := zall_w _ _ (by decide +kernel)
noncomputable def xi_295 (pc : Nat) : XIs := cond (Nat.blt pc 28) (zx zi_295_0) (zx zi_295_1)
theorem xi_ok295 (pc : Nat) : xi_ok cX12_fault (xi_295 pc) = true := xi_c (zq1 xi_w295) (zq1 (zq2 xi_w295))
noncomputable def zi_296_0 : ZIs := [(0, ev_483), (1, ev_422), (3, ev_414), (6, ev_483), (7, ev_886), (9, ev_887), (12, ev_7), (13, ev_134), (16, ev_10), (17, ev_128)]
set_option maxRecDepth 100000 in
theorem xi_w296 : zall cX12_isLetter [zi_296_0] := zall_w _ _ (by decide +kernel)
noncomputable def xi_296 (pc : Nat) : XIs := zx zi_296_0
theorem xi_ok296 (pc : Nat) : xi_ok cX12_isLetter (xi_296 pc) = true := zq1 xi_w296
noncomputable def zi_297_0 : ZIs := [(0, ev_483), (1, ev_936), (3, ev_414), (6, ev_483), (7, ev_938), (9, ev_887), (12, ev_7), (13, ev_134), (16, ev_10), (17, ev_128)]
set_option maxRecDepth 100000 in
theorem xi_w297 : zall cX12_isDigit [zi_297_0] := zall_w _ _ (by decide +kernel)
noncomputable def xi_297 (pc : Nat) : XIs := zx zi_297_0
theorem xi_ok297 (pc : Nat) : xi_ok cX12_isDigit (xi_297 pc) = true := zq1 xi_w297
noncomputable def zi_298_0 : ZIs := [(0, ev_13), (1, ev_1344), (4, ev_1133), (7, ev_13), (8, ev_196), (9, ev_1347), (12, ev_13), (13, ev_201), (14, ev_1348), (17, ev_260)]
set_option maxRecDepth 100000 in
theorem xi_w298 : zall cX12_blame [zi_298_0] := zall_w _ _ (by decide +kernel)
noncomputable def xi_298 (pc : Nat) : XIs := zx zi_298_0
theorem xi_ok298 (pc : Nat) : xi_ok cX12_blame (xi_298 pc) = true := zq1 xi_w298
noncomputable def zi_299_0 : ZIs := [(0, ev_13), (1, ev_1349), (4, ev_13), (5, ev_1192), (8, ev_930), (11, ev_13), (12, ev_841), (15, ev_13), (16, ev_1349), (19, ev_18), (20, ev_180), (22, ev_539), (25, ev_13), (26, ev_1), (27, ev_1349), (30, ev_7)]
noncomputable def zi_299_1 : ZIs := [(31, ev_22), (32, ev_1350), (35, ev_293), (38, ev_13), (39, ev_13), (40, ev_1349), (43, ev_1351), (46, ev_13), (47, ev_1349), (50, ev_13), (51, ev_1192), (54, ev_410), (57, ev_13), (58, ev_10), (59, ev_1352), (62, ev_260)]
noncomputable def zi_299_2 : ZIs := [(63, ev_13), (64, ev_841), (67, ev_13), (68, ev_1349), (71, ev_18), (72, ev_686), (73, ev_13), (74, ev_196), (75, ev_1353), (78, ev_196), (79, ev_400), (81, ev_1354), (84, ev_13), (85, ev_1349), (88, ev_7), (89, ev_22)]
noncomputable def zi_299_3 : ZIs := [(90, ev_13), (91, ev_1192), (94, ev_302), (97, ev_13), (98, ev_841), (101, ev_13), (102, ev_1349), (105, ev_7), (106, ev_22), (107, ev_18), (108, ev_1198), (111, ev_132), (114, ev_7), (115, ev_134), (118, ev_10), (119, ev_294)]
noncomputable def zi_299_4 : ZIs := [(120, ev_196), (121, ev_1198), (124, ev_326), (127, ev_201), (128, ev_1355), (131, ev_13), (132, ev_30), (133, ev_1352), (136, ev_13), (137, ev_1), (138, ev_1349), (141, ev_201), (142, ev_132), (145, ev_7), (146, ev_134), (149, ev_10)]
noncomputable def zi_299_5 : ZIs := [(150, ev_22), (151, ev_1350), (154, ev_13), (155, ev_469), (157, ev_1356), (160, ev_13), (161, ev_201), (162, ev_932), (165, ev_13), (166, ev_1357), (169, ev_477), (170, ev_216), (173, ev_13), (174, ev_1357), (177, ev_1358), (180, ev_260)]
noncomputable def zi_299_6 : ZIs := [(181, ev_13), (182, ev_196), (183, ev_1359), (186, ev_132), (189, ev_7), (190, ev_134), (193, ev_31), (194, ev_1352), (197, ev_13), (198, ev_1360), (201, ev_31), (202, ev_756), (205, ev_196), (206, ev_379), (208, ev_1361), (211, ev_13)]
noncomputable def zi_299_7 : ZIs := [(212, ev_7), (213, ev_13), (214, ev_1362), (217, ev_1363), (220, ev_13), (221, ev_1), (222, ev_1349), (225, ev_7), (226, ev_22), (227, ev_1350), (230, ev_260)]
set_option maxRecDepth 100000 in
theorem xi_w299 : zall cX12_nextToken [zi_299_0, zi_299_1, zi_299_2, zi_299_3, zi_299_4, zi_299_5, zi_299_6, zi_299_7] := zall_w _ _ (by decide +kernel)
noncomputable def xi_299 (pc : Nat) : XIs := cond (Nat.blt pc 120) (cond (Nat.blt pc 63) (cond (Nat.blt pc 31) (zx zi_299_0) (zx zi_299_1)) (cond (Nat.blt pc 90) (zx zi_299_2) (zx zi_299_3))) (cond (Nat.blt pc 181) (cond (Nat.blt pc 150) (zx zi_299_4) (zx zi_299_5)) (cond (Nat.blt pc 212) (zx zi_299_6) (zx zi_299_7)))
theorem xi_ok299 (pc : Nat) : xi_ok cX12_nextToken (xi_299 pc) = true := xi_c (xi_c (xi_c (zq1 xi_w299) (zq1 (zq2 xi_w299))) (xi_c (zq1 (zq2 (zq2 xi_w299))) (zq1 (zq2 (zq2 (zq2 xi_w299)))))) (xi_c (xi_c (zq1 (zq2 (zq2 (zq2 (zq2 xi_w299))))) (zq1 (zq2 (zq2 (zq2 (zq2 (zq2 xi_w299))))))) (xi_c (zq1 (zq2 (zq2 (zq2 (zq2 (zq2 (zq2 xi_w299))))))) (zq1 (zq2 (zq2 (zq2 (zq2 (zq2 (zq2 (zq2 xi_w299))))))))))
noncomputable def zi_300_0 : ZIs := [(0, ev_13), (1, ev_1349), (4, ev_294), (5, ev_13), (6, ev_135), (7, ev_1358), (10, ev_13), (11, ev_1349), (14, ev_13), (15, ev_1192), (18, ev_947), (21, ev_13), (22, ev_841), (25, ev_13), (26, ev_1349), (29, ev_18)]
noncomputable def zi_300_1 : ZIs := [(30, ev_1198), (33, ev_1364), (36, ev_13), (37, ev_13), (38, ev_1349), (41, ev_201), (42, ev_16), (43, ev_196), (44, ev_864), (47, ev_1365), (50, ev_13), (51, ev_1357), (54, ev_493), (55, ev_13), (56, ev_841), (59, ev_13)]
noncomputable def zi_300_2 : ZIs := [(60, ev_1349), (63, ev_18), (64, ev_179), (65, ev_458), (66, ev_1366), (69, ev_486), (70, ev_216), (73, ev_13), (74, ev_1357), (77, ev_1358), (80, ev_13), (81, ev_1), (82, ev_1349), (85, ev_7), (86, ev_22), (87, ev_1350)]
noncomputable def zi_300_3 : ZIs := [(90, ev_342), (93, ev_13), (94, ev_1349), (97, ev_201), (98, ev_16), (99, ev_196), (100, ev_1367), (103, ev_13), (104, ev_196), (105, ev_469), (107, ev_819), (110, ev_31), (111, ev_134), (114, ev_32), (115, ev_13), (116, ev_1362)]
noncomputable def zi_300_4 : ZIs := [(119, ev_1363), (122, ev_260)]
set_option maxRecDepth 100000 in
theorem xi_w300 : zall cX12_readNumber [zi_300_0, zi_300_1, zi_300_2, zi_300_3, zi_300_4] := zall_w _ _ (by decide +kernel)
noncomputable def xi_300 (pc : Nat) : XIs := cond (Nat.blt pc 60) (cond (Nat.blt pc 30) (zx zi_300_0) (zx zi_300_1)) (cond (Nat.blt pc 90) (zx zi_300_2) (cond (Nat.blt pc 119) (zx zi_300_3) (zx zi_300_4)))
theorem xi_ok300 (pc : Nat) : xi_ok cX12_readNumber (xi_300 pc) = true := xi_c (xi_c (zq1 xi_w300) (zq1 (zq2 xi_w300))) (xi_c (zq1 (zq2 (zq2 xi_w300))) (xi_c (zq1 (zq2 (zq2 (zq2 xi_w300)))) (zq1 (zq2 (zq2 (zq2 (zq2 xi_w300)))))))
noncomputable def zi_301_0 : ZIs := [(0, ev_196)]
noncomputable def xi_301_1 : XIs := [(1, .lookupswitch 76 #[(97, 45), (110, 35), (116, 65)], 35)]
set_option maxRecDepth 100000 in
theorem xi_ok301_1 : xi_ok cX12_shape xi_301_1 = true := by decide +kernel
noncomputable def zi_301_2 : ZIs := [(36, ev_201), (37, ev_326), (40, ev_7), (41, ev_134), (44, ev_31), (45, ev_128), (46, ev_201), (47, ev_32), (48, ev_657), (51, ev_30), (52, ev_474), (55, ev_201), (56, ev_32), (57, ev_819), (60, ev_7), (61, ev_134)]
noncomputable def zi_301_3 : ZIs := [(64, ev_31), (65, ev_128), (66, ev_201), (67, ev_7), (68, ev_657), (71, ev_30), (72, ev_134), (75, ev_31), (76, ev_128), (77, ev_201), (78, ev_30), (79, ev_657), (82, ev_30), (83, ev_134), (86, ev_31), (87, ev_128)]
set_option maxRecDepth 100000 in
theorem xi_w301 : zall cX12_shape [zi_301_0, zi_301_2, zi_301_3] := zall_w _ _ (by decide +kernel)
noncomputable def xi_301 (pc : Nat) : XIs := cond (Nat.blt pc 36) (cond (Nat.blt pc 1) (zx zi_301_0) (xi_301_1)) (cond (Nat.blt pc 64) (zx zi_301_2) (zx zi_301_3))
theorem xi_ok301 (pc : Nat) : xi_ok cX12_shape (xi_301 pc) = true := xi_c (xi_c (zq1 xi_w301) (xi_ok301_1)) (xi_c (zq1 (zq2 xi_w301)) (zq1 (zq2 (zq2 xi_w301))))
noncomputable def zi_302_0 : ZIs := [(0, ev_13), (1, ev_10), (2, ev_1288), (5, ev_13), (6, ev_10), (7, ev_1347), (10, ev_13), (11, ev_10), (12, ev_1368), (15, ev_13), (16, ev_10), (17, ev_1350), (20, ev_13), (21, ev_1369), (24, ev_13), (25, ev_1370)]
noncomputable def zi_302_1 : ZIs := [(28, ev_13), (29, ev_1360), (32, ev_618), (35, ev_13), (36, ev_1344), (39, ev_1371), (42, ev_13), (43, ev_1372), (46, ev_13), (47, ev_1344), (50, ev_1373), (53, ev_13), (54, ev_1370), (57, ev_854), (60, ev_13), (61, ev_1344)]
noncomputable def zi_302_2 : ZIs := [(64, ev_1374), (67, ev_809), (69, ev_128), (70, ev_10), (71, ev_686), (72, ev_196), (73, ev_13), (74, ev_1375), (77, ev_1376), (80, ev_33), (81, ev_196), (82, ev_355), (83, ev_294), (84, ev_13), (85, ev_1015), (88, ev_196)]
noncomputable def zi_302_3 : ZIs := [(89, ev_18)]
noncomputable def xi_302_4 : XIs := [(90, .lookupswitch 123 #[(97, 53), (110, 34), (116, 104)], 34)]
set_option maxRecDepth 100000 in
theorem xi_ok302_4 : xi_ok cX12_load xi_302_4 = true := by decide +kernel
noncomputable def zi_302_5 : ZIs := [(124, ev_13), (125, ev_10), (126, ev_13), (127, ev_961), (130, ev_201), (131, ev_18), (132, ev_10), (133, ev_10), (134, ev_10), (135, ev_10), (136, ev_10), (137, ev_1320), (140, ev_1377), (143, ev_13), (144, ev_7), (145, ev_13)]
noncomputable def zi_302_6 : ZIs := [(146, ev_10), (147, ev_1324), (150, ev_13), (151, ev_961), (154, ev_201), (155, ev_18), (156, ev_13), (157, ev_961), (160, ev_201), (161, ev_7), (162, ev_22), (163, ev_18), (164, ev_13), (165, ev_961), (168, ev_201), (169, ev_30)]
noncomputable def zi_302_7 : ZIs := [(170, ev_22), (171, ev_18), (172, ev_13), (173, ev_961), (176, ev_201), (177, ev_31), (178, ev_22), (179, ev_18), (180, ev_13), (181, ev_961), (184, ev_201), (185, ev_32), (186, ev_22), (187, ev_18), (188, ev_1320), (191, ev_1378)]
noncomputable def zi_302_8 : ZIs := [(194, ev_13), (195, ev_30), (196, ev_13), (197, ev_961), (200, ev_201), (201, ev_18), (202, ev_10), (203, ev_10), (204, ev_10), (205, ev_10), (206, ev_10), (207, ev_1320), (210, ev_1379), (213, ev_13), (214, ev_31), (215, ev_13)]
noncomputable def zi_302_9 : ZIs := [(216, ev_961), (219, ev_201), (220, ev_18), (221, ev_10), (222, ev_13), (223, ev_961), (226, ev_201), (227, ev_7), (228, ev_22), (229, ev_18), (230, ev_10), (231, ev_10), (232, ev_10), (233, ev_1320), (236, ev_689), (239, ev_1380)]
noncomputable def zi_302_10 : ZIs := [(242, ev_13), (243, ev_1375), (246, ev_128)]
set_option maxRecDepth 100000 in
theorem xi_w302 : zall cX12_load [zi_302_0, zi_302_1, zi_302_2, zi_302_3, zi_302_5, zi_302_6, zi_302_7, zi_302_8, zi_302_9, zi_302_10] := zall_w _ _ (by decide +kernel)
noncomputable def xi_302 (pc : Nat) : XIs := cond (Nat.blt pc 124) (cond (Nat.blt pc 64) (cond (Nat.blt pc 28) (zx zi_302_0) (zx zi_302_1)) (cond (Nat.blt pc 89) (zx zi_302_2) (cond (Nat.blt pc 90) (zx zi_302_3) (xi_302_4)))) (cond (Nat.blt pc 194) (cond (Nat.blt pc 146) (zx zi_302_5) (cond (Nat.blt pc 170) (zx zi_302_6) (zx zi_302_7))) (cond (Nat.blt pc 216) (zx zi_302_8) (cond (Nat.blt pc 242) (zx zi_302_9) (zx zi_302_10))))
theorem xi_ok302 (pc : Nat) : xi_ok cX12_load (xi_302 pc) = true := xi_c (xi_c (xi_c (zq1 xi_w302) (zq1 (zq2 xi_w302))) (xi_c (zq1 (zq2 (zq2 xi_w302))) (xi_c (zq1 (zq2 (zq2 (zq2 xi_w302)))) (xi_ok302_4)))) (xi_c (xi_c (zq1 (zq2 (zq2 (zq2 (zq2 xi_w302))))) (xi_c (zq1 (zq2 (zq2 (zq2 (zq2 (zq2 xi_w302)))))) (zq1 (zq2 (zq2 (zq2 (zq2 (zq2 (zq2 xi_w302))))))))) (xi_c (zq1 (zq2 (zq2 (zq2 (zq2 (zq2 (zq2 (zq2 xi_w302)))))))) (xi_c (zq1 (zq2 (zq2 (zq2 (zq2 (zq2 (zq2 (zq2 (zq2 xi_w302))))))))) (zq1 (zq2 (zq2 (zq2 (zq2 (zq2 (zq2 (zq2 (zq2 (zq2 xi_w302)))))))))))))
noncomputable def zi_303_0 : ZIs := [(0, ev_13), (1, ev_1301), (4, ev_30), (5, ev_13), (6, ev_1301), (9, ev_10), (10, ev_18), (11, ev_299), (12, ev_10), (13, ev_686), (14, ev_196), (15, ev_530), (18, ev_944), (21, ev_13), (22, ev_1292), (25, ev_1381)]
noncomputable def zi_303_1 : ZIs := [(28, ev_196), (29, ev_22), (30, ev_13), (31, ev_1292), (34, ev_196), (35, ev_1294), (36, ev_1303), (37, ev_689), (40, ev_563), (43, ev_260)]
set_option maxRecDepth 100000 in
theorem xi_w303 : zall cX12_copyGraph [zi_303_0, zi_303_1] := zall_w _ _ (by decide +kernel)
noncomputable def xi_303 (pc : Nat) : XIs := cond (Nat.blt pc 28) (zx zi_303_0) (zx zi_303_1)
theorem xi_ok303 (pc : Nat) : xi_ok cX12_copyGraph (xi_303 pc) = true := xi_c (zq1 xi_w303) (zq1 (zq2 xi_w303))
noncomputable def zi_304_0 : ZIs := [(0, ev_13), (1, ev_1362), (4, ev_686), (5, ev_13), (6, ev_1382), (9, ev_294), (10, ev_13), (11, ev_1360), (14, ev_7), (15, ev_972), (18, ev_201), (19, ev_945), (21, ev_986), (24, ev_201), (25, ev_422), (27, ev_1383)]
noncomputable def zi_304_1 : ZIs := [(30, ev_201), (31, ev_1384), (33, ev_699), (36, ev_201), (37, ev_1385), (39, ev_1386), (42, ev_13), (43, ev_30), (44, ev_13), (45, ev_1362), (48, ev_1363), (51, ev_260), (52, ev_10), (53, ev_295), (54, ev_7), (55, ev_11)]
noncomputable def zi_304_2 : ZIs := [(57, ev_12), (59, ev_1387), (62, ev_13), (63, ev_1344), (66, ev_1388), (69, ev_13), (70, ev_1370), (73, ev_13), (74, ev_201), (75, ev_202), (76, ev_1389), (79, ev_25), (81, ev_13), (82, ev_1344), (85, ev_1390), (88, ev_13)]
noncomputable def zi_304_3 : ZIs := [(89, ev_1360), (92, ev_126), (94, ev_756), (97, ev_126), (99, ev_31), (100, ev_1391), (103, ev_13), (104, ev_1382), (107, ev_379), (109, ev_1361), (112, ev_13), (113, ev_30), (114, ev_13), (115, ev_1362), (118, ev_1363), (121, ev_126)]
noncomputable def zi_304_4 : ZIs := [(123, ev_31), (124, ev_682), (127, ev_7), (128, ev_134), (131, ev_10), (132, ev_11), (134, ev_13), (135, ev_1344), (138, ev_1392), (141, ev_12), (143, ev_868), (146, ev_13), (147, ev_961), (150, ev_33), (151, ev_13), (152, ev_1375)]
noncomputable def zi_304_5 : ZIs := [(155, ev_355), (156, ev_202), (157, ev_22), (158, ev_126), (160, ev_7), (161, ev_928), (164, ev_13), (165, ev_1382), (168, ev_422), (170, ev_16), (171, ev_987), (174, ev_13), (175, ev_1357), (178, ev_992), (179, ev_299), (180, ev_300)]
noncomputable def zi_304_6 : ZIs := [(183, ev_1393), (186, ev_13), (187, ev_1344), (190, ev_1394), (193, ev_13), (194, ev_1015), (197, ev_13), (198, ev_1375), (201, ev_201), (202, ev_299), (203, ev_13), (204, ev_201), (205, ev_33), (206, ev_13), (207, ev_1375), (210, ev_355)]
noncomputable def zi_304_7 : ZIs := [(211, ev_1395), (214, ev_393), (217, ev_13), (218, ev_1295), (221, ev_13), (222, ev_1375), (225, ev_22), (226, ev_766), (229, ev_1396), (232, ev_13), (233, ev_32), (234, ev_196), (235, ev_1363), (238, ev_13), (239, ev_1), (240, ev_1375)]
noncomputable def zi_304_8 : ZIs := [(243, ev_7), (244, ev_22), (245, ev_1368), (248, ev_260)]
set_option maxRecDepth 100000 in
theorem xi_w304 : zall cX12_command [zi_304_0, zi_304_1, zi_304_2, zi_304_3, zi_304_4, zi_304_5, zi_304_6, zi_304_7, zi_304_8] := zall_w _ _ (by decide +kernel)
noncomputable def xi_304 (pc : Nat) : XIs := cond (Nat.blt pc 123) (cond (Nat.blt pc 57) (cond (Nat.blt pc 30) (zx zi_304_0) (zx zi_304_1)) (cond (Nat.blt pc 89) (zx zi_304_2) (zx zi_304_3))) (cond (Nat.blt pc 183) (cond (Nat.blt pc 155) (zx zi_304_4) (zx zi_304_5)) (cond (Nat.blt pc 211) (zx zi_304_6) (cond (Nat.blt pc 243) (zx zi_304_7) (zx zi_304_8))))
theorem xi_ok304 (pc : Nat) : xi_ok cX12_command (xi_304 pc) = true := xi_c (xi_c (xi_c (zq1 xi_w304) (zq1 (zq2 xi_w304))) (xi_c (zq1 (zq2 (zq2 xi_w304))) (zq1 (zq2 (zq2 (zq2 xi_w304)))))) (xi_c (xi_c (zq1 (zq2 (zq2 (zq2 (zq2 xi_w304))))) (zq1 (zq2 (zq2 (zq2 (zq2 (zq2 xi_w304))))))) (xi_c (zq1 (zq2 (zq2 (zq2 (zq2 (zq2 (zq2 xi_w304))))))) (xi_c (zq1 (zq2 (zq2 (zq2 (zq2 (zq2 (zq2 (zq2 xi_w304)))))))) (zq1 (zq2 (zq2 (zq2 (zq2 (zq2 (zq2 (zq2 (zq2 xi_w304))))))))))))
noncomputable def zi_305_0 : ZIs := [(0, ev_13), (1, ev_961), (4, ev_201), (5, ev_18), (6, ev_295), (7, ev_13), (8, ev_961), (11, ev_201), (12, ev_7), (13, ev_22), (14, ev_18), (15, ev_11), (17, ev_196)]
noncomputable def xi_305_1 : XIs := [(18, .lookupswitch 240 #[(97, 61), (110, 34), (116, 173)], 34)]
set_option maxRecDepth 100000 in
theorem xi_ok305_1 : xi_ok cX12_isDone xi_305_1 = true := by decide +kernel
noncomputable def zi_305_2 : ZIs := [(52, ev_13), (53, ev_1301), (56, ev_30), (57, ev_316), (58, ev_18), (59, ev_7), (60, ev_22), (61, ev_299), (62, ev_13), (63, ev_1301), (66, ev_30), (67, ev_18), (68, ev_180), (70, ev_887), (73, ev_7), (74, ev_134)]
noncomputable def zi_305_3 : ZIs := [(77, ev_10), (78, ev_128), (79, ev_13), (80, ev_30), (81, ev_1324), (84, ev_25), (86, ev_126), (88, ev_530), (91, ev_1397), (94, ev_202), (95, ev_179), (96, ev_135), (97, ev_13), (98, ev_1301), (101, ev_30), (102, ev_18)]
noncomputable def zi_305_4 : ZIs := [(103, ev_7), (104, ev_16), (105, ev_179), (106, ev_1318), (109, ev_353), (112, ev_12), (114, ev_179), (115, ev_135), (116, ev_13), (117, ev_1301), (120, ev_30), (121, ev_18), (122, ev_7), (123, ev_16), (124, ev_179), (125, ev_1318)]
noncomputable def zi_305_5 : ZIs := [(128, ev_868), (131, ev_13), (132, ev_961), (135, ev_201), (136, ev_30), (137, ev_22), (138, ev_18), (139, ev_1322), (142, ev_1171), (145, ev_13), (146, ev_961), (149, ev_201), (150, ev_31), (151, ev_22), (152, ev_18), (153, ev_179)]
noncomputable def zi_305_6 : ZIs := [(154, ev_135), (155, ev_1317), (158, ev_1318), (161, ev_132), (164, ev_7), (165, ev_134), (168, ev_10), (169, ev_28), (171, ev_131), (173, ev_772), (176, ev_13), (177, ev_1292), (180, ev_1381), (183, ev_126), (185, ev_22), (186, ev_7)]
noncomputable def zi_305_7 : ZIs := [(187, ev_1303), (188, ev_131), (190, ev_128), (191, ev_202), (192, ev_179), (193, ev_135), (194, ev_1333), (197, ev_1318), (200, ev_1398), (203, ev_13), (204, ev_1292), (207, ev_1381), (210, ev_202), (211, ev_179), (212, ev_135), (213, ev_1333)]
noncomputable def zi_305_8 : ZIs := [(216, ev_1318), (219, ev_132), (222, ev_202), (223, ev_134), (226, ev_10), (227, ev_22), (228, ev_1294), (229, ev_132), (232, ev_7), (233, ev_134), (236, ev_10), (237, ev_275), (239, ev_276), (241, ev_1005), (244, ev_13), (245, ev_1292)]
noncomputable def zi_305_9 : ZIs := [(248, ev_1381), (251, ev_202), (252, ev_22), (253, ev_10), (254, ev_1303), (255, ev_276), (257, ev_128), (258, ev_202), (259, ev_179), (260, ev_135), (261, ev_1333), (264, ev_1318), (267, ev_940), (270, ev_13), (271, ev_1292), (274, ev_1381)]
noncomputable def zi_305_10 : ZIs := [(277, ev_202), (278, ev_179), (279, ev_135), (280, ev_1333), (283, ev_1318), (286, ev_132), (289, ev_202), (290, ev_134), (293, ev_10), (294, ev_22), (295, ev_1294), (296, ev_772), (299, ev_12), (301, ev_1322), (304, ev_132), (307, ev_7)]
noncomputable def zi_305_11 : ZIs := [(308, ev_134), (311, ev_10), (312, ev_128)]
set_option maxRecDepth 100000 in
theorem xi_w305 : zall cX12_isDone [zi_305_0, zi_305_2, zi_305_3, zi_305_4, zi_305_5, zi_305_6, zi_305_7, zi_305_8, zi_305_9, zi_305_10, zi_305_11] := zall_w _ _ (by decide +kernel)
noncomputable def xi_305 (pc : Nat) : XIs := cond (Nat.blt pc 154) (cond (Nat.blt pc 77) (cond (Nat.blt pc 18) (zx zi_305_0) (cond (Nat.blt pc 52) (xi_305_1) (zx zi_305_2))) (cond (Nat.blt pc 103) (zx zi_305_3) (cond (Nat.blt pc 128) (zx zi_305_4) (zx zi_305_5)))) (cond (Nat.blt pc 248) (cond (Nat.blt pc 187) (zx zi_305_6) (cond (Nat.blt pc 216) (zx zi_305_7) (zx zi_305_8))) (cond (Nat.blt pc 277) (zx zi_305_9) (cond (Nat.blt pc 308) (zx zi_305_10) (zx zi_305_11))))
theorem xi_ok305 (pc : Nat) : xi_ok cX12_isDone (xi_305 pc) = true := xi_c (xi_c (xi_c (zq1 xi_w305) (xi_c (xi_ok305_1) (zq1 (zq2 xi_w305)))) (xi_c (zq1 (zq2 (zq2 xi_w305))) (xi_c (zq1 (zq2 (zq2 (zq2 xi_w305)))) (zq1 (zq2 (zq2 (zq2 (zq2 xi_w305)))))))) (xi_c (xi_c (zq1 (zq2 (zq2 (zq2 (zq2 (zq2 xi_w305)))))) (xi_c (zq1 (zq2 (zq2 (zq2 (zq2 (zq2 (zq2 xi_w305))))))) (zq1 (zq2 (zq2 (zq2 (zq2 (zq2 (zq2 (zq2 xi_w305)))))))))) (xi_c (zq1 (zq2 (zq2 (zq2 (zq2 (zq2 (zq2 (zq2 (zq2 xi_w305))))))))) (xi_c (zq1 (zq2 (zq2 (zq2 (zq2 (zq2 (zq2 (zq2 (zq2 (zq2 xi_w305)))))))))) (zq1 (zq2 (zq2 (zq2 (zq2 (zq2 (zq2 (zq2 (zq2 (zq2 (zq2 xi_w305))))))))))))))
noncomputable def zi_306_0 : ZIs := [(0, ev_13), (1, ev_846), (4, ev_13), (5, ev_1399), (8, ev_196), (9, ev_299), (10, ev_13), (11, ev_1), (12, ev_1399), (15, ev_7), (16, ev_22), (17, ev_1400), (20, ev_260)]
set_option maxRecDepth 100000 in
theorem xi_w306 : zall cX12_put [zi_306_0] := zall_w _ _ (by decide +kernel)
noncomputable def xi_306 (pc : Nat) : XIs := zx zi_306_0
theorem xi_ok306 (pc : Nat) : xi_ok cX12_put (xi_306 pc) = true := zq1 xi_w306
noncomputable def zi_307_0 : ZIs := [(0, ev_13), (1, ev_180), (3, ev_1401), (6, ev_196), (7, ev_951), (10, ev_13), (11, ev_400), (13, ev_1401), (16, ev_196), (17, ev_1402), (20, ev_196), (21, ev_310), (22, ev_134), (25, ev_196), (26, ev_294), (27, ev_7)]
noncomputable def zi_307_1 : ZIs := [(28, ev_295), (29, ev_201), (30, ev_202), (31, ev_583), (32, ev_413), (34, ev_1403), (37, ev_202), (38, ev_413), (40, ev_355), (41, ev_295), (42, ev_802), (45, ev_202), (46, ev_1404), (49, ev_13), (50, ev_936), (52, ev_201)]
noncomputable def zi_307_2 : ZIs := [(53, ev_202), (54, ev_583), (55, ev_413), (57, ev_509), (58, ev_22), (59, ev_1401), (62, ev_202), (63, ev_413), (65, ev_583), (66, ev_295), (67, ev_625), (70, ev_260)]
set_option maxRecDepth 100000 in
theorem xi_w307 : zall cX12_putNumber [zi_307_0, zi_307_1, zi_307_2] := zall_w _ _ (by decide +kernel)
noncomputable def xi_307 (pc : Nat) : XIs := cond (Nat.blt pc 28) (zx zi_307_0) (cond (Nat.blt pc 53) (zx zi_307_1) (zx zi_307_2))
theorem xi_ok307 (pc : Nat) : xi_ok cX12_putNumber (xi_307 pc) = true := xi_c (zq1 xi_w307) (xi_c (zq1 (zq2 xi_w307)) (zq1 (zq2 (zq2 xi_w307))))
noncomputable def zi_308_0 : ZIs := [(0, ev_13), (1, ev_10), (2, ev_1288), (5, ev_13), (6, ev_10), (7, ev_1400), (10, ev_10), (11, ev_686), (12, ev_196), (13, ev_13), (14, ev_1290), (17, ev_1405), (20, ev_13), (21, ev_945), (23, ev_1401), (26, ev_13)]
noncomputable def zi_308_1 : ZIs := [(27, ev_180), (29, ev_1401), (32, ev_13), (33, ev_422), (35, ev_13), (36, ev_1300), (39, ev_180), (41, ev_13), (42, ev_1163), (45, ev_355), (46, ev_196), (47, ev_22), (48, ev_18), (49, ev_22), (50, ev_1401), (53, ev_13)]
noncomputable def zi_308_2 : ZIs := [(54, ev_379), (56, ev_1401), (59, ev_689), (62, ev_1406), (65, ev_13), (66, ev_1293), (69, ev_686), (70, ev_196), (71, ev_13), (72, ev_1293), (75, ev_530), (78, ev_22), (79, ev_1407), (82, ev_13), (83, ev_1292), (86, ev_196)]
noncomputable def zi_308_3 : ZIs := [(87, ev_1294), (88, ev_1408), (91, ev_13), (92, ev_422), (94, ev_1401), (97, ev_13), (98, ev_13), (99, ev_1304), (102, ev_196), (103, ev_18), (104, ev_1409), (107, ev_13), (108, ev_13), (109, ev_1039), (112, ev_196), (113, ev_18)]
noncomputable def zi_308_4 : ZIs := [(114, ev_1409), (117, ev_13), (118, ev_13), (119, ev_1040), (122, ev_196), (123, ev_18), (124, ev_1409), (127, ev_13), (128, ev_13), (129, ev_466), (132, ev_196), (133, ev_18), (134, ev_1409), (137, ev_13), (138, ev_180), (140, ev_1401)]
noncomputable def zi_308_5 : ZIs := [(143, ev_13), (144, ev_422), (146, ev_13), (147, ev_434), (150, ev_196), (151, ev_18), (152, ev_22), (153, ev_1401), (156, ev_13), (157, ev_379), (159, ev_1401), (162, ev_689), (165, ev_957), (168, ev_13), (169, ev_1399), (172, ev_128)]
set_option maxRecDepth 100000 in
theorem xi_w308 : zall cX12_print [zi_308_0, zi_308_1, zi_308_2, zi_308_3, zi_308_4, zi_308_5] := zall_w _ _ (by decide +kernel)
noncomputable def xi_308 (pc : Nat) : XIs := cond (Nat.blt pc 87) (cond (Nat.blt pc 27) (zx zi_308_0) (cond (Nat.blt pc 54) (zx zi_308_1) (zx zi_308_2))) (cond (Nat.blt pc 114) (zx zi_308_3) (cond (Nat.blt pc 143) (zx zi_308_4) (zx zi_308_5)))
theorem xi_ok308 (pc : Nat) : xi_ok cX12_print (xi_308 pc) = true := xi_c (xi_c (zq1 xi_w308) (xi_c (zq1 (zq2 xi_w308)) (zq1 (zq2 (zq2 xi_w308))))) (xi_c (zq1 (zq2 (zq2 (zq2 xi_w308)))) (xi_c (zq1 (zq2 (zq2 (zq2 (zq2 xi_w308))))) (zq1 (zq2 (zq2 (zq2 (zq2 (zq2 xi_w308))))))))
noncomputable def zi_309_0 : ZIs := [(0, ev_13), (1, ev_196), (2, ev_679), (5, ev_196), (6, ev_13), (7, ev_1399), (10, ev_657), (13, ev_7), (14, ev_134), (17, ev_10), (18, ev_1177), (21, ev_132), (24, ev_10), (25, ev_199), (28, ev_13), (29, ev_846)]
noncomputable def zi_309_1 : ZIs := [(32, ev_196), (33, ev_18), (34, ev_128)]
set_option maxRecDepth 100000 in
theorem xi_w309 : zall cX12_printed [zi_309_0, zi_309_1] := zall_w _ _ (by decide +kernel)
noncomputable def xi_309 (pc : Nat) : XIs := cond (Nat.blt pc 32) (zx zi_309_0) (zx zi_309_1)
theorem xi_ok309 (pc : Nat) : xi_ok cX12_printed (xi_309 pc) = true := xi_c (zq1 xi_w309) (zq1 (zq2 xi_w309))
noncomputable def zi_310_0 : ZIs := [(0, ev_10), (1, ev_11), (3, ev_12), (5, ev_13), (6, ev_1290), (9, ev_930), (12, ev_13), (13, ev_959), (16, ev_12), (18, ev_12), (20, ev_202), (21, ev_819), (24, ev_10), (25, ev_216), (28, ev_7), (29, ev_12)]
noncomputable def zi_310_1 : ZIs := [(31, ev_277), (32, ev_299), (33, ev_348), (36, ev_862), (39, ev_10), (40, ev_11), (42, ev_12), (44, ev_530), (47, ev_325), (50, ev_13), (51, ev_1304), (54, ev_13), (55, ev_1293), (58, ev_12), (60, ev_22), (61, ev_18)]
noncomputable def zi_310_2 : ZIs := [(62, ev_25), (64, ev_13), (65, ev_1039), (68, ev_13), (69, ev_1293), (72, ev_12), (74, ev_22), (75, ev_18), (76, ev_28), (78, ev_13), (79, ev_1292), (82, ev_13), (83, ev_1293), (86, ev_12), (88, ev_22), (89, ev_1294)]
noncomputable def zi_310_3 : ZIs := [(90, ev_1410), (93, ev_12), (95, ev_201), (96, ev_1411), (99, ev_126), (101, ev_202), (102, ev_1412), (105, ev_131), (107, ev_202), (108, ev_1413), (111, ev_13), (112, ev_959), (115, ev_126), (117, ev_316), (118, ev_18), (119, ev_7)]
noncomputable def zi_310_4 : ZIs := [(120, ev_131), (122, ev_277), (123, ev_278), (124, ev_299), (125, ev_13), (126, ev_959), (129, ev_131), (131, ev_316), (132, ev_18), (133, ev_196), (134, ev_385), (137, ev_7), (138, ev_126), (140, ev_277), (141, ev_134), (144, ev_10)]
noncomputable def zi_310_5 : ZIs := [(145, ev_278), (146, ev_299), (147, ev_348), (150, ev_1414), (153, ev_10), (154, ev_11), (156, ev_12), (158, ev_13), (159, ev_1290), (162, ev_612), (165, ev_10), (166, ev_25), (168, ev_126), (170, ev_13), (171, ev_1290), (174, ev_722)]
noncomputable def zi_310_6 : ZIs := [(177, ev_13), (178, ev_959), (181, ev_126), (183, ev_316), (184, ev_18), (185, ev_13), (186, ev_959), (189, ev_126), (191, ev_18), (192, ev_12), (194, ev_303), (195, ev_7), (196, ev_20), (197, ev_7), (198, ev_928), (201, ev_13)]
noncomputable def zi_310_7 : ZIs := [(202, ev_959), (205, ev_12), (207, ev_18), (208, ev_134), (211, ev_10), (212, ev_278), (213, ev_299), (214, ev_343), (217, ev_654), (220, ev_348), (223, ev_1415), (226, ev_260)]
set_option maxRecDepth 100000 in
theorem xi_w310 : zall cX12_close [zi_310_0, zi_310_1, zi_310_2, zi_310_3, zi_310_4, zi_310_5, zi_310_6, zi_310_7] := zall_w _ _ (by decide +kernel)
noncomputable def xi_310 (pc : Nat) : XIs := cond (Nat.blt pc 120) (cond (Nat.blt pc 62) (cond (Nat.blt pc 31) (zx zi_310_0) (zx zi_310_1)) (cond (Nat.blt pc 90) (zx zi_310_2) (zx zi_310_3))) (cond (Nat.blt pc 177) (cond (Nat.blt pc 145) (zx zi_310_4) (zx zi_310_5)) (cond (Nat.blt pc 202) (zx zi_310_6) (zx zi_310_7)))
theorem xi_ok310 (pc : Nat) : xi_ok cX12_close (xi_310 pc) = true := xi_c (xi_c (xi_c (zq1 xi_w310) (zq1 (zq2 xi_w310))) (xi_c (zq1 (zq2 (zq2 xi_w310))) (zq1 (zq2 (zq2 (zq2 xi_w310)))))) (xi_c (xi_c (zq1 (zq2 (zq2 (zq2 (zq2 xi_w310))))) (zq1 (zq2 (zq2 (zq2 (zq2 (zq2 xi_w310))))))) (xi_c (zq1 (zq2 (zq2 (zq2 (zq2 (zq2 (zq2 xi_w310))))))) (zq1 (zq2 (zq2 (zq2 (zq2 (zq2 (zq2 (zq2 xi_w310))))))))))
noncomputable def zi_311_0 : ZIs := [(0, ev_483), (1, ev_196), (2, ev_303), (3, ev_7), (4, ev_20), (5, ev_7), (6, ev_819), (9, ev_7), (10, ev_134), (13, ev_10), (14, ev_128)]
set_option maxRecDepth 100000 in
theorem xi_w311 : zall cX12_has [zi_311_0] := zall_w _ _ (by decide +kernel)
noncomputable def xi_311 (pc : Nat) : XIs := zx zi_311_0
theorem xi_ok311 (pc : Nat) : xi_ok cX12_has (xi_311 pc) = true := zq1 xi_w311
noncomputable def zi_312_0 : ZIs := [(0, ev_10), (1, ev_295), (2, ev_202), (3, ev_13), (4, ev_1290), (7, ev_944), (10, ev_13), (11, ev_717), (14, ev_202), (15, ev_1335), (18, ev_198), (19, ev_13), (20, ev_307), (23, ev_202), (24, ev_10), (25, ev_299)]
noncomputable def zi_312_1 : ZIs := [(26, ev_300), (29, ev_360), (32, ev_13), (33, ev_717), (36, ev_196), (37, ev_135), (38, ev_198), (39, ev_7), (40, ev_295), (41, ev_10), (42, ev_11), (44, ev_12), (46, ev_13), (47, ev_1290), (50, ev_1416), (53, ev_202)]
noncomputable def zi_312_2 : ZIs := [(54, ev_1417), (57, ev_10), (58, ev_295), (59, ev_13), (60, ev_1293), (63, ev_25), (65, ev_126), (67, ev_13), (68, ev_1293), (71, ev_530), (74, ev_22), (75, ev_1418), (78, ev_13), (79, ev_1292), (82, ev_126), (84, ev_1294)]
noncomputable def zi_312_3 : ZIs := [(85, ev_1419), (88, ev_201), (89, ev_13), (90, ev_1304), (93, ev_126), (95, ev_18), (96, ev_1420), (99, ev_1421), (102, ev_201), (103, ev_13), (104, ev_1039), (107, ev_126), (109, ev_18), (110, ev_1420), (113, ev_1422), (116, ev_13)]
noncomputable def zi_312_4 : ZIs := [(117, ev_717), (120, ev_13), (121, ev_1039), (124, ev_126), (126, ev_18), (127, ev_130), (128, ev_1335), (131, ev_136), (132, ev_1423), (135, ev_13), (136, ev_717), (139, ev_13), (140, ev_1039), (143, ev_126), (145, ev_18), (146, ev_130)]
noncomputable def zi_312_5 : ZIs := [(147, ev_13), (148, ev_1040), (151, ev_126), (153, ev_18), (154, ev_179), (155, ev_458), (156, ev_58), (158, ev_13), (159, ev_307), (162, ev_13), (163, ev_1039), (166, ev_126), (168, ev_18), (169, ev_18), (170, ev_7), (171, ev_22)]
noncomputable def zi_312_6 : ZIs := [(172, ev_313), (174, ev_461), (176, ev_13), (177, ev_717), (180, ev_13), (181, ev_1304), (184, ev_126), (186, ev_18), (187, ev_130), (188, ev_136), (189, ev_1424), (192, ev_13), (193, ev_717), (196, ev_13), (197, ev_1304), (200, ev_126)]
noncomputable def zi_312_7 : ZIs := [(202, ev_18), (203, ev_461), (205, ev_198), (206, ev_13), (207, ev_307), (210, ev_13), (211, ev_1304), (214, ev_126), (216, ev_18), (217, ev_314), (219, ev_299), (220, ev_7), (221, ev_295), (222, ev_343), (225, ev_1425), (228, ev_348)]
noncomputable def zi_312_8 : ZIs := [(231, ev_1426), (234, ev_202), (235, ev_137), (238, ev_10), (239, ev_128), (240, ev_13), (241, ev_196), (242, ev_201), (243, ev_1427), (246, ev_7), (247, ev_128)]
set_option maxRecDepth 100000 in
theorem xi_w312 : zall cX12_toGoal [zi_312_0, zi_312_1, zi_312_2, zi_312_3, zi_312_4, zi_312_5, zi_312_6, zi_312_7, zi_312_8] := zall_w _ _ (by decide +kernel)
noncomputable def xi_312 (pc : Nat) : XIs := cond (Nat.blt pc 117) (cond (Nat.blt pc 54) (cond (Nat.blt pc 26) (zx zi_312_0) (zx zi_312_1)) (cond (Nat.blt pc 85) (zx zi_312_2) (zx zi_312_3))) (cond (Nat.blt pc 172) (cond (Nat.blt pc 147) (zx zi_312_4) (zx zi_312_5)) (cond (Nat.blt pc 202) (zx zi_312_6) (cond (Nat.blt pc 231) (zx zi_312_7) (zx zi_312_8))))
theorem xi_ok312 (pc : Nat) : xi_ok cX12_toGoal (xi_312 pc) = true := xi_c (xi_c (xi_c (zq1 xi_w312) (zq1 (zq2 xi_w312))) (xi_c (zq1 (zq2 (zq2 xi_w312))) (zq1 (zq2 (zq2 (zq2 xi_w312)))))) (xi_c (xi_c (zq1 (zq2 (zq2 (zq2 (zq2 xi_w312))))) (zq1 (zq2 (zq2 (zq2 (zq2 (zq2 xi_w312))))))) (xi_c (zq1 (zq2 (zq2 (zq2 (zq2 (zq2 (zq2 xi_w312))))))) (xi_c (zq1 (zq2 (zq2 (zq2 (zq2 (zq2 (zq2 (zq2 xi_w312)))))))) (zq1 (zq2 (zq2 (zq2 (zq2 (zq2 (zq2 (zq2 (zq2 xi_w312))))))))))))
noncomputable def zi_313_0 : ZIs := [(0, ev_10), (1, ev_295), (2, ev_202), (3, ev_13), (4, ev_1290), (7, ev_991), (10, ev_13), (11, ev_307), (14, ev_202), (15, ev_202), (16, ev_196), (17, ev_819), (20, ev_10), (21, ev_213), (24, ev_804), (27, ev_299)]
noncomputable def zi_313_1 : ZIs := [(28, ev_300), (31, ev_854), (34, ev_10), (35, ev_295), (36, ev_202), (37, ev_13), (38, ev_1290), (41, ev_1428), (44, ev_13), (45, ev_1293), (48, ev_11), (50, ev_12), (52, ev_13), (53, ev_1293), (56, ev_530), (59, ev_22)]
noncomputable def zi_313_2 : ZIs := [(60, ev_1376), (63, ev_13), (64, ev_1292), (67, ev_12), (69, ev_1294), (70, ev_1429), (73, ev_201), (74, ev_13), (75, ev_1304), (78, ev_12), (80, ev_18), (81, ev_1420), (84, ev_1430), (87, ev_201), (88, ev_13), (89, ev_1039)]
noncomputable def zi_313_3 : ZIs := [(92, ev_12), (94, ev_18), (95, ev_1420), (98, ev_1431), (101, ev_13), (102, ev_717), (105, ev_13), (106, ev_1039), (109, ev_12), (111, ev_18), (112, ev_130), (113, ev_1335), (116, ev_136), (117, ev_1432), (120, ev_13), (121, ev_717)]
noncomputable def zi_313_4 : ZIs := [(124, ev_13), (125, ev_1304), (128, ev_12), (130, ev_18), (131, ev_130), (132, ev_13), (133, ev_717), (136, ev_13), (137, ev_1039), (140, ev_12), (142, ev_18), (143, ev_130), (144, ev_13), (145, ev_1040), (148, ev_12), (150, ev_18)]
noncomputable def zi_313_5 : ZIs := [(151, ev_179), (152, ev_458), (153, ev_136), (154, ev_328), (157, ev_13), (158, ev_307), (161, ev_13), (162, ev_1039), (165, ev_12), (167, ev_18), (168, ev_18), (169, ev_7), (170, ev_22), (171, ev_25), (173, ev_13), (174, ev_307)]
noncomputable def zi_313_6 : ZIs := [(177, ev_13), (178, ev_1304), (181, ev_12), (183, ev_18), (184, ev_126), (186, ev_13), (187, ev_307), (190, ev_13), (191, ev_1304), (194, ev_12), (196, ev_18), (197, ev_18), (198, ev_861), (201, ev_126), (203, ev_440), (206, ev_13)]
noncomputable def zi_313_7 : ZIs := [(207, ev_307), (210, ev_13), (211, ev_1304), (214, ev_12), (216, ev_18), (217, ev_18), (218, ev_299), (219, ev_348), (222, ev_1433), (225, ev_300), (228, ev_1434), (231, ev_260)]
set_option maxRecDepth 100000 in
theorem xi_w313 : zall cX12_fewest [zi_313_0, zi_313_1, zi_313_2, zi_313_3, zi_313_4, zi_313_5, zi_313_6, zi_313_7] := zall_w _ _ (by decide +kernel)
noncomputable def xi_313 (pc : Nat) : XIs := cond (Nat.blt pc 124) (cond (Nat.blt pc 60) (cond (Nat.blt pc 28) (zx zi_313_0) (zx zi_313_1)) (cond (Nat.blt pc 92) (zx zi_313_2) (zx zi_313_3))) (cond (Nat.blt pc 177) (cond (Nat.blt pc 151) (zx zi_313_4) (zx zi_313_5)) (cond (Nat.blt pc 207) (zx zi_313_6) (zx zi_313_7)))
theorem xi_ok313 (pc : Nat) : xi_ok cX12_fewest (xi_313 pc) = true := xi_c (xi_c (xi_c (zq1 xi_w313) (zq1 (zq2 xi_w313))) (xi_c (zq1 (zq2 (zq2 xi_w313))) (zq1 (zq2 (zq2 (zq2 xi_w313)))))) (xi_c (xi_c (zq1 (zq2 (zq2 (zq2 (zq2 xi_w313))))) (zq1 (zq2 (zq2 (zq2 (zq2 (zq2 xi_w313))))))) (xi_c (zq1 (zq2 (zq2 (zq2 (zq2 (zq2 (zq2 xi_w313))))))) (zq1 (zq2 (zq2 (zq2 (zq2 (zq2 (zq2 (zq2 xi_w313))))))))))
noncomputable def zi_314_0 : ZIs := [(0, ev_13), (1, ev_10), (2, ev_252), (3, ev_252), (4, ev_1435), (7, ev_10), (8, ev_295), (9, ev_10), (10, ev_11), (12, ev_12), (14, ev_13), (15, ev_1290), (18, ev_1405), (21, ev_202), (22, ev_13), (23, ev_959)]
noncomputable def zi_314_1 : ZIs := [(26, ev_196), (27, ev_18), (28, ev_12), (30, ev_1420), (33, ev_1436), (36, ev_13), (37, ev_959), (40, ev_12), (42, ev_18), (43, ev_201), (44, ev_1420), (47, ev_385), (50, ev_7), (51, ev_12), (53, ev_277), (54, ev_134)]
noncomputable def zi_314_2 : ZIs := [(57, ev_10), (58, ev_278), (59, ev_295), (60, ev_348), (63, ev_909), (66, ev_202), (67, ev_128)]
set_option maxRecDepth 100000 in
theorem xi_w314 : zall cX12_between [zi_314_0, zi_314_1, zi_314_2] := zall_w _ _ (by decide +kernel)
noncomputable def xi_314 (pc : Nat) : XIs := cond (Nat.blt pc 26) (zx zi_314_0) (cond (Nat.blt pc 57) (zx zi_314_1) (zx zi_314_2))
theorem xi_ok314 (pc : Nat) : xi_ok cX12_between (xi_314 pc) = true := xi_c (zq1 xi_w314) (xi_c (zq1 (zq2 xi_w314)) (zq1 (zq2 (zq2 xi_w314))))
noncomputable def zi_315_0 : ZIs := [(0, ev_13), (1, ev_13), (2, ev_196), (3, ev_1337), (6, ev_772), (9, ev_13), (10, ev_201), (11, ev_1337), (14, ev_132), (17, ev_7), (18, ev_134), (21, ev_10), (22, ev_1177), (25, ev_137), (28, ev_135), (29, ev_482)]
noncomputable def zi_315_1 : ZIs := [(30, ev_13), (31, ev_196), (32, ev_201), (33, ev_1437), (36, ev_295), (37, ev_202), (38, ev_993), (41, ev_1335), (44, ev_1438), (47, ev_13), (48, ev_201), (49, ev_202), (50, ev_1439), (53, ev_650), (56, ev_13), (57, ev_717)]
noncomputable def zi_315_2 : ZIs := [(60, ev_196), (61, ev_130), (62, ev_213), (65, ev_1440), (68, ev_482)]
set_option maxRecDepth 100000 in
theorem xi_w315 : zall cX12_distance [zi_315_0, zi_315_1, zi_315_2] := zall_w _ _ (by decide +kernel)
noncomputable def xi_315 (pc : Nat) : XIs := cond (Nat.blt pc 30) (zx zi_315_0) (cond (Nat.blt pc 60) (zx zi_315_1) (zx zi_315_2))
theorem xi_ok315 (pc : Nat) : xi_ok cX12_distance (xi_315 pc) = true := xi_c (zq1 xi_w315) (xi_c (zq1 (zq2 xi_w315)) (zq1 (zq2 (zq2 xi_w315))))
noncomputable def zi_316_0 : ZIs := [(0, ev_13), (1, ev_13), (2, ev_196), (3, ev_1337), (6, ev_489), (9, ev_13), (10, ev_201), (11, ev_1337), (14, ev_932), (17, ev_202), (18, ev_832), (21, ev_7), (22, ev_134), (25, ev_10), (26, ev_1177), (29, ev_137)]
noncomputable def zi_316_1 : ZIs := [(32, ev_10), (33, ev_128), (34, ev_13), (35, ev_196), (36, ev_201), (37, ev_1437), (40, ev_11), (42, ev_12), (44, ev_770), (47, ev_13), (48, ev_201), (49, ev_12), (51, ev_1439), (54, ev_635), (57, ev_202), (58, ev_13)]
noncomputable def zi_316_2 : ZIs := [(59, ev_307), (62, ev_196), (63, ev_18), (64, ev_994), (67, ev_252), (68, ev_128), (69, ev_196), (70, ev_25), (72, ev_252), (73, ev_28), (75, ev_10), (76, ev_275), (78, ev_276), (80, ev_202), (81, ev_1416), (84, ev_252)]
noncomputable def zi_316_3 : ZIs := [(85, ev_28), (87, ev_1441), (90, ev_313), (92, ev_314), (94, ev_1442), (97, ev_13), (98, ev_1293), (101, ev_314), (103, ev_22), (104, ev_327), (106, ev_13), (107, ev_1292), (110, ev_329), (112, ev_1294), (113, ev_1355), (116, ev_13)]
noncomputable def zi_316_4 : ZIs := [(117, ev_1304), (120, ev_329), (122, ev_18), (123, ev_126), (125, ev_1443), (128, ev_12), (130, ev_13), (131, ev_1039), (134, ev_329), (136, ev_18), (137, ev_1420), (140, ev_1171), (143, ev_13), (144, ev_717), (147, ev_13), (148, ev_1039)]
noncomputable def zi_316_5 : ZIs := [(151, ev_329), (153, ev_18), (154, ev_130), (155, ev_1335), (158, ev_136), (159, ev_487), (162, ev_7), (163, ev_134), (166, ev_10), (167, ev_448), (169, ev_449), (171, ev_553), (174, ev_13), (175, ev_717), (178, ev_126), (180, ev_130)]
noncomputable def zi_316_6 : ZIs := [(181, ev_13), (182, ev_717), (185, ev_13), (186, ev_1039), (189, ev_329), (191, ev_18), (192, ev_130), (193, ev_13), (194, ev_1040), (197, ev_329), (199, ev_18), (200, ev_179), (201, ev_458), (202, ev_136), (203, ev_1444), (206, ev_13)]
noncomputable def zi_316_7 : ZIs := [(207, ev_307), (210, ev_126), (212, ev_18), (213, ev_13), (214, ev_307), (217, ev_13), (218, ev_1039), (221, ev_329), (223, ev_18), (224, ev_18), (225, ev_7), (226, ev_22), (227, ev_541), (230, ev_314), (232, ev_639), (235, ev_131)]
noncomputable def zi_316_8 : ZIs := [(237, ev_28), (239, ev_1445), (242, ev_1044), (245, ev_13), (246, ev_1039), (249, ev_13), (250, ev_1293), (253, ev_131), (255, ev_22), (256, ev_18), (257, ev_25), (259, ev_956), (262, ev_1446), (265, ev_131), (267, ev_128)]
set_option maxRecDepth 100000 in
theorem xi_w316 : zall cX12_way [zi_316_0, zi_316_1, zi_316_2, zi_316_3, zi_316_4, zi_316_5, zi_316_6, zi_316_7, zi_316_8] := zall_w _ _ (by decide +kernel)
noncomputable def xi_316 (pc : Nat) : XIs := cond (Nat.blt pc 117) (cond (Nat.blt pc 59) (cond (Nat.blt pc 32) (zx zi_316_0) (zx zi_316_1)) (cond (Nat.blt pc 85) (zx zi_316_2) (zx zi_316_3))) (cond (Nat.blt pc 181) (cond (Nat.blt pc 151) (zx zi_316_4) (zx zi_316_5)) (cond (Nat.blt pc 207) (zx zi_316_6) (cond (Nat.blt pc 237) (zx zi_316_7) (zx zi_316_8))))
theorem xi_ok316 (pc : Nat) : xi_ok cX12_way (xi_316 pc) = true := xi_c (xi_c (xi_c (zq1 xi_w316) (zq1 (zq2 xi_w316))) (xi_c (zq1 (zq2 (zq2 xi_w316))) (zq1 (zq2 (zq2 (zq2 xi_w316)))))) (xi_c (xi_c (zq1 (zq2 (zq2 (zq2 (zq2 xi_w316))))) (zq1 (zq2 (zq2 (zq2 (zq2 (zq2 xi_w316))))))) (xi_c (zq1 (zq2 (zq2 (zq2 (zq2 (zq2 (zq2 xi_w316))))))) (xi_c (zq1 (zq2 (zq2 (zq2 (zq2 (zq2 (zq2 (zq2 xi_w316)))))))) (zq1 (zq2 (zq2 (zq2 (zq2 (zq2 (zq2 (zq2 (zq2 xi_w316))))))))))))
noncomputable def zi_317_0 : ZIs := [(0, ev_13), (1, ev_13), (2, ev_196), (3, ev_1337), (6, ev_772), (9, ev_13), (10, ev_201), (11, ev_1337), (14, ev_132), (17, ev_7), (18, ev_134), (21, ev_10), (22, ev_1177), (25, ev_137), (28, ev_10), (29, ev_128)]
noncomputable def zi_317_1 : ZIs := [(30, ev_10), (31, ev_295), (32, ev_202), (33, ev_13), (34, ev_1290), (37, ev_991), (40, ev_13), (41, ev_963), (44, ev_202), (45, ev_202), (46, ev_196), (47, ev_410), (50, ev_1447), (53, ev_134), (56, ev_252), (57, ev_299)]
noncomputable def zi_317_2 : ZIs := [(58, ev_300), (61, ev_854), (64, ev_10), (65, ev_295), (66, ev_202), (67, ev_13), (68, ev_1290), (71, ev_1448), (74, ev_13), (75, ev_1293), (78, ev_11), (80, ev_12), (82, ev_13), (83, ev_1293), (86, ev_530), (89, ev_22)]
noncomputable def zi_317_3 : ZIs := [(90, ev_1449), (93, ev_13), (94, ev_1292), (97, ev_12), (99, ev_1294), (100, ev_558), (103, ev_13), (104, ev_963), (107, ev_13), (108, ev_1304), (111, ev_12), (113, ev_18), (114, ev_18), (115, ev_1450), (118, ev_13), (119, ev_466)]
noncomputable def zi_317_4 : ZIs := [(122, ev_12), (124, ev_18), (125, ev_13), (126, ev_963), (129, ev_13), (130, ev_1304), (133, ev_12), (135, ev_18), (136, ev_18), (137, ev_1451), (140, ev_13), (141, ev_466), (144, ev_12), (146, ev_18), (147, ev_440), (150, ev_13)]
noncomputable def zi_317_5 : ZIs := [(151, ev_963), (154, ev_13), (155, ev_1304), (158, ev_12), (160, ev_18), (161, ev_18), (162, ev_25), (164, ev_13), (165, ev_963), (168, ev_13), (169, ev_1039), (172, ev_12), (174, ev_18), (175, ev_126), (177, ev_13), (178, ev_963)]
noncomputable def zi_317_6 : ZIs := [(181, ev_13), (182, ev_1039), (185, ev_12), (187, ev_18), (188, ev_18), (189, ev_270), (192, ev_126), (194, ev_440), (197, ev_13), (198, ev_963), (201, ev_13), (202, ev_1039), (205, ev_12), (207, ev_18), (208, ev_18), (209, ev_299)]
noncomputable def zi_317_7 : ZIs := [(210, ev_348), (213, ev_1452), (216, ev_300), (219, ev_1453), (222, ev_13), (223, ev_963), (226, ev_201), (227, ev_18), (228, ev_128)]
set_option maxRecDepth 100000 in
theorem xi_w317 : zall cX12_width [zi_317_0, zi_317_1, zi_317_2, zi_317_3, zi_317_4, zi_317_5, zi_317_6, zi_317_7] := zall_w _ _ (by decide +kernel)
noncomputable def xi_317 (pc : Nat) : XIs := cond (Nat.blt pc 122) (cond (Nat.blt pc 58) (cond (Nat.blt pc 30) (zx zi_317_0) (zx zi_317_1)) (cond (Nat.blt pc 90) (zx zi_317_2) (zx zi_317_3))) (cond (Nat.blt pc 181) (cond (Nat.blt pc 151) (zx zi_317_4) (zx zi_317_5)) (cond (Nat.blt pc 210) (zx zi_317_6) (zx zi_317_7)))
theorem xi_ok317 (pc : Nat) : xi_ok cX12_width (xi_317 pc) = true := xi_c (xi_c (xi_c (zq1 xi_w317) (zq1 (zq2 xi_w317))) (xi_c (zq1 (zq2 (zq2 xi_w317))) (zq1 (zq2 (zq2 (zq2 xi_w317)))))) (xi_c (xi_c (zq1 (zq2 (zq2 (zq2 (zq2 xi_w317))))) (zq1 (zq2 (zq2 (zq2 (zq2 (zq2 xi_w317))))))) (xi_c (zq1 (zq2 (zq2 (zq2 (zq2 (zq2 (zq2 xi_w317))))))) (zq1 (zq2 (zq2 (zq2 (zq2 (zq2 (zq2 (zq2 xi_w317))))))))))
noncomputable def zi_318_0 : ZIs := [(0, ev_13), (1, ev_1454), (4, ev_1046), (7, ev_1455), (10, ev_33), (11, ev_13), (12, ev_1454), (15, ev_355), (16, ev_28), (18, ev_13), (19, ev_1456), (22, ev_131), (24, ev_196), (25, ev_299), (26, ev_13), (27, ev_1456)]
noncomputable def zi_318_1 : ZIs := [(30, ev_131), (32, ev_7), (33, ev_22), (34, ev_201), (35, ev_299), (36, ev_13), (37, ev_1456), (40, ev_131), (42, ev_30), (43, ev_22), (44, ev_202), (45, ev_299), (46, ev_13), (47, ev_1456), (50, ev_131), (52, ev_31)]
noncomputable def zi_318_2 : ZIs := [(53, ev_22), (54, ev_12), (56, ev_299), (57, ev_13), (58, ev_1456), (61, ev_131), (63, ev_32), (64, ev_22), (65, ev_126), (67, ev_299), (68, ev_135), (69, ev_922), (71, ev_7), (72, ev_327), (74, ev_329), (76, ev_196)]
noncomputable def zi_318_3 : ZIs := [(77, ev_433), (80, ev_923), (82, ev_13), (83, ev_1040), (86, ev_13), (87, ev_1293), (90, ev_13), (91, ev_1456), (94, ev_131), (96, ev_329), (98, ev_22), (99, ev_18), (100, ev_22), (101, ev_18), (102, ev_179), (103, ev_458)]
noncomputable def zi_318_4 : ZIs := [(104, ev_922), (106, ev_1457), (109, ev_293), (112, ev_13), (113, ev_296), (116, ev_13), (117, ev_1454), (120, ev_923), (122, ev_198), (123, ev_13), (124, ev_1), (125, ev_1454), (128, ev_7), (129, ev_22), (130, ev_1458), (133, ev_260)]
set_option maxRecDepth 100000 in
theorem xi_w318 : zall cX12_addShort [zi_318_0, zi_318_1, zi_318_2, zi_318_3, zi_318_4] := zall_w _ _ (by decide +kernel)
noncomputable def xi_318 (pc : Nat) : XIs := cond (Nat.blt pc 53) (cond (Nat.blt pc 30) (zx zi_318_0) (zx zi_318_1)) (cond (Nat.blt pc 77) (zx zi_318_2) (cond (Nat.blt pc 104) (zx zi_318_3) (zx zi_318_4)))
theorem xi_ok318 (pc : Nat) : xi_ok cX12_addShort (xi_318 pc) = true := xi_c (xi_c (zq1 xi_w318) (zq1 (zq2 xi_w318))) (xi_c (zq1 (zq2 (zq2 xi_w318))) (xi_c (zq1 (zq2 (zq2 (zq2 xi_w318)))) (zq1 (zq2 (zq2 (zq2 (zq2 xi_w318)))))))
noncomputable def zi_319_0 : ZIs := [(0, ev_13), (1, ev_1292), (4, ev_13), (5, ev_1293), (8, ev_196), (9, ev_22), (10, ev_1294), (11, ev_868), (14, ev_13), (15, ev_1304), (18, ev_13), (19, ev_1293), (22, ev_196), (23, ev_22), (24, ev_18), (25, ev_201)]
noncomputable def zi_319_1 : ZIs := [(26, ev_1459), (29, ev_202), (30, ev_13), (31, ev_1039), (34, ev_13), (35, ev_1293), (38, ev_196), (39, ev_22), (40, ev_18), (41, ev_1420), (44, ev_326), (47, ev_7), (48, ev_134), (51, ev_10), (52, ev_128)]
set_option maxRecDepth 100000 in
theorem xi_w319 : zall cX12_goesOn [zi_319_0, zi_319_1] := zall_w _ _ (by decide +kernel)
noncomputable def xi_319 (pc : Nat) : XIs := cond (Nat.blt pc 26) (zx zi_319_0) (zx zi_319_1)
theorem xi_ok319 (pc : Nat) : xi_ok cX12_goesOn (xi_319 pc) = true := xi_c (zq1 xi_w319) (zq1 (zq2 xi_w319))
noncomputable def zi_320_0 : ZIs := [(0, ev_13), (1, ev_10), (2, ev_1458), (5, ev_10), (6, ev_295), (7, ev_202), (8, ev_530), (11, ev_436), (14, ev_13), (15, ev_1454), (18, ev_1046), (21, ev_1460), (24, ev_13), (25, ev_202), (26, ev_196), (27, ev_7)]
noncomputable def zi_320_1 : ZIs := [(28, ev_196), (29, ev_277), (30, ev_1461), (33, ev_1339), (36, ev_13), (37, ev_1039), (40, ev_13), (41, ev_1293), (44, ev_202), (45, ev_22), (46, ev_18), (47, ev_11), (49, ev_12), (51, ev_201), (52, ev_728), (55, ev_13)]
noncomputable def zi_320_2 : ZIs := [(56, ev_7), (57, ev_202), (58, ev_10), (59, ev_10), (60, ev_10), (61, ev_1462), (64, ev_903), (67, ev_13), (68, ev_202), (69, ev_12), (71, ev_7), (72, ev_196), (73, ev_277), (74, ev_7), (75, ev_12), (77, ev_277)]
noncomputable def zi_320_3 : ZIs := [(78, ev_278), (79, ev_201), (80, ev_1463), (83, ev_300), (86, ev_564), (89, ev_260)]
set_option maxRecDepth 100000 in
theorem xi_w320 : zall cX12_findShorts [zi_320_0, zi_320_1, zi_320_2, zi_320_3] := zall_w _ _ (by decide +kernel)
noncomputable def xi_320 (pc : Nat) : XIs := cond (Nat.blt pc 56) (cond (Nat.blt pc 28) (zx zi_320_0) (zx zi_320_1)) (cond (Nat.blt pc 78) (zx zi_320_2) (zx zi_320_3))
theorem xi_ok320 (pc : Nat) : xi_ok cX12_findShorts (xi_320 pc) = true := xi_c (xi_c (zq1 xi_w320) (zq1 (zq2 xi_w320))) (xi_c (zq1 (zq2 (zq2 xi_w320))) (zq1 (zq2 (zq2 (zq2 xi_w320)))))
noncomputable def zi_321_0 : ZIs := [(0, ev_10), (1, ev_25), (3, ev_126), (5, ev_530), (8, ev_880), (11, ev_13), (12, ev_1454), (15, ev_1046), (18, ev_1464), (21, ev_13), (22, ev_126), (24, ev_201), (25, ev_202), (26, ev_1461), (29, ev_1465), (32, ev_13)]
noncomputable def zi_321_1 : ZIs := [(33, ev_1039), (36, ev_13), (37, ev_1293), (40, ev_126), (42, ev_22), (43, ev_18), (44, ev_28), (46, ev_131), (48, ev_12), (50, ev_539), (53, ev_13), (54, ev_30), (55, ev_196), (56, ev_126), (58, ev_10), (59, ev_10)]
noncomputable def zi_321_2 : ZIs := [(60, ev_1462), (63, ev_1466), (66, ev_13), (67, ev_196), (68, ev_126), (70, ev_131), (72, ev_202), (73, ev_7), (74, ev_131), (76, ev_277), (77, ev_278), (78, ev_12), (80, ev_1467), (83, ev_343), (86, ev_884), (89, ev_260)]
set_option maxRecDepth 100000 in
theorem xi_w321 : zall cX12_second [zi_321_0, zi_321_1, zi_321_2] := zall_w _ _ (by decide +kernel)
noncomputable def xi_321 (pc : Nat) : XIs := cond (Nat.blt pc 33) (zx zi_321_0) (cond (Nat.blt pc 60) (zx zi_321_1) (zx zi_321_2))
theorem xi_ok321 (pc : Nat) : xi_ok cX12_second (xi_321 pc) = true := xi_c (zq1 xi_w321) (xi_c (zq1 (zq2 xi_w321)) (zq1 (zq2 (zq2 xi_w321))))
noncomputable def zi_322_0 : ZIs := [(0, ev_10), (1, ev_28), (3, ev_131), (5, ev_530), (8, ev_1468), (11, ev_13), (12, ev_1454), (15, ev_1046), (18, ev_1469), (21, ev_13), (22, ev_131), (24, ev_202), (25, ev_12), (27, ev_1461), (30, ev_1470), (33, ev_13)]
noncomputable def zi_322_1 : ZIs := [(34, ev_1039), (37, ev_13), (38, ev_1293), (41, ev_131), (43, ev_22), (44, ev_18), (45, ev_275), (47, ev_276), (49, ev_126), (51, ev_539), (54, ev_13), (55, ev_31), (56, ev_196), (57, ev_201), (58, ev_131), (60, ev_10)]
noncomputable def zi_322_2 : ZIs := [(61, ev_1462), (64, ev_1471), (67, ev_10), (68, ev_313), (70, ev_314), (72, ev_530), (75, ev_1472), (78, ev_13), (79, ev_1292), (82, ev_13), (83, ev_1293), (86, ev_314), (88, ev_22), (89, ev_1294), (90, ev_1321), (93, ev_13)]
noncomputable def zi_322_3 : ZIs := [(94, ev_1304), (97, ev_13), (98, ev_1293), (101, ev_314), (103, ev_22), (104, ev_18), (105, ev_276), (107, ev_892), (110, ev_13), (111, ev_1039), (114, ev_13), (115, ev_1293), (118, ev_314), (120, ev_22), (121, ev_18), (122, ev_126)]
noncomputable def zi_322_4 : ZIs := [(124, ev_799), (127, ev_13), (128, ev_32), (129, ev_196), (130, ev_201), (131, ev_131), (133, ev_314), (135, ev_1462), (138, ev_318), (141, ev_1473), (144, ev_320), (147, ev_1474), (150, ev_260)]
set_option maxRecDepth 100000 in
theorem xi_w322 : zall cX12_third [zi_322_0, zi_322_1, zi_322_2, zi_322_3, zi_322_4] := zall_w _ _ (by decide +kernel)
noncomputable def xi_322 (pc : Nat) : XIs := cond (Nat.blt pc 61) (cond (Nat.blt pc 34) (zx zi_322_0) (zx zi_322_1)) (cond (Nat.blt pc 94) (zx zi_322_2) (cond (Nat.blt pc 124) (zx zi_322_3) (zx zi_322_4)))
theorem xi_ok322 (pc : Nat) : xi_ok cX12_third (xi_322 pc) = true := xi_c (xi_c (zq1 xi_w322) (zq1 (zq2 xi_w322))) (xi_c (zq1 (zq2 (zq2 xi_w322))) (xi_c (zq1 (zq2 (zq2 (zq2 xi_w322)))) (zq1 (zq2 (zq2 (zq2 (zq2 xi_w322)))))))
noncomputable def zi_323_0 : ZIs := [(0, ev_13), (1, ev_296), (4, ev_196), (5, ev_130), (6, ev_13), (7, ev_296), (10, ev_201), (11, ev_130), (12, ev_136), (13, ev_549), (16, ev_13), (17, ev_296), (20, ev_196), (21, ev_130), (22, ev_13), (23, ev_296)]
noncomputable def zi_323_1 : ZIs := [(26, ev_201), (27, ev_130), (28, ev_136), (29, ev_487), (32, ev_7), (33, ev_134), (36, ev_10), (37, ev_128), (38, ev_13), (39, ev_1456), (42, ev_33), (43, ev_196), (44, ev_355), (45, ev_18), (46, ev_13), (47, ev_1456)]
noncomputable def zi_323_2 : ZIs := [(50, ev_33), (51, ev_201), (52, ev_355), (53, ev_18), (54, ev_1475), (57, ev_13), (58, ev_1456), (61, ev_33), (62, ev_196), (63, ev_355), (64, ev_18), (65, ev_13), (66, ev_1456), (69, ev_33), (70, ev_201), (71, ev_355)]
noncomputable def zi_323_3 : ZIs := [(72, ev_18), (73, ev_657), (76, ev_7), (77, ev_134), (80, ev_10), (81, ev_128), (82, ev_7), (83, ev_295), (84, ev_202), (85, ev_13), (86, ev_1456), (89, ev_33), (90, ev_196), (91, ev_355), (92, ev_18), (93, ev_1476)]
noncomputable def zi_323_4 : ZIs := [(96, ev_13), (97, ev_1456), (100, ev_33), (101, ev_196), (102, ev_355), (103, ev_202), (104, ev_22), (105, ev_18), (106, ev_13), (107, ev_1456), (110, ev_33), (111, ev_201), (112, ev_355), (113, ev_202), (114, ev_22), (115, ev_18)]
noncomputable def zi_323_5 : ZIs := [(116, ev_1477), (119, ev_13), (120, ev_1456), (123, ev_33), (124, ev_196), (125, ev_355), (126, ev_202), (127, ev_22), (128, ev_18), (129, ev_13), (130, ev_1456), (133, ev_33), (134, ev_201), (135, ev_355), (136, ev_202), (137, ev_22)]
noncomputable def zi_323_6 : ZIs := [(138, ev_18), (139, ev_657), (142, ev_7), (143, ev_134), (146, ev_10), (147, ev_128), (148, ev_300), (151, ev_1415), (154, ev_10), (155, ev_128)]
set_option maxRecDepth 100000 in
theorem xi_w323 : zall cX12_isBefore [zi_323_0, zi_323_1, zi_323_2, zi_323_3, zi_323_4, zi_323_5, zi_323_6] := zall_w _ _ (by decide +kernel)
noncomputable def xi_323 (pc : Nat) : XIs := cond (Nat.blt pc 72) (cond (Nat.blt pc 26) (zx zi_323_0) (cond (Nat.blt pc 50) (zx zi_323_1) (zx zi_323_2))) (cond (Nat.blt pc 116) (cond (Nat.blt pc 96) (zx zi_323_3) (zx zi_323_4)) (cond (Nat.blt pc 138) (zx zi_323_5) (zx zi_323_6)))
theorem xi_ok323 (pc : Nat) : xi_ok cX12_isBefore (xi_323 pc) = true := xi_c (xi_c (zq1 xi_w323) (xi_c (zq1 (zq2 xi_w323)) (zq1 (zq2 (zq2 xi_w323))))) (xi_c (xi_c (zq1 (zq2 (zq2 (zq2 xi_w323)))) (zq1 (zq2 (zq2 (zq2 (zq2 xi_w323)))))) (xi_c (zq1 (zq2 (zq2 (zq2 (zq2 (zq2 xi_w323)))))) (zq1 (zq2 (zq2 (zq2 (zq2 (zq2 (zq2 xi_w323)))))))))
noncomputable def zi_324_0 : ZIs := [(0, ev_10), (1, ev_686), (2, ev_196), (3, ev_13), (4, ev_1454), (7, ev_1115), (10, ev_13), (11, ev_555), (14, ev_196), (15, ev_196), (16, ev_299), (17, ev_689), (20, ev_1478), (23, ev_7), (24, ev_686), (25, ev_196)]
noncomputable def zi_324_1 : ZIs := [(26, ev_13), (27, ev_1454), (30, ev_1479), (33, ev_10), (34, ev_294), (35, ev_201), (36, ev_13), (37, ev_1454), (40, ev_1480), (43, ev_201), (44, ev_196), (45, ev_22), (46, ev_13), (47, ev_1454), (50, ev_473), (53, ev_201)]
noncomputable def zi_324_2 : ZIs := [(54, ev_196), (55, ev_22), (56, ev_216), (59, ev_13), (60, ev_1454), (63, ev_295), (64, ev_201), (65, ev_30), (66, ev_196), (67, ev_355), (68, ev_22), (69, ev_13), (70, ev_1454), (73, ev_1481), (76, ev_201), (77, ev_30)]
noncomputable def zi_324_3 : ZIs := [(78, ev_196), (79, ev_355), (80, ev_22), (81, ev_216), (84, ev_13), (85, ev_1454), (88, ev_11), (90, ev_201), (91, ev_25), (93, ev_202), (94, ev_28), (96, ev_201), (97, ev_275), (99, ev_276), (101, ev_12), (103, ev_1482)]
noncomputable def zi_324_4 : ZIs := [(106, ev_126), (108, ev_202), (109, ev_297), (112, ev_131), (114, ev_12), (116, ev_1483), (119, ev_13), (120, ev_13), (121, ev_555), (124, ev_131), (126, ev_18), (127, ev_13), (128, ev_555), (131, ev_126), (133, ev_18), (134, ev_1484)]
noncomputable def zi_324_5 : ZIs := [(137, ev_326), (140, ev_7), (141, ev_134), (144, ev_10), (145, ev_313), (147, ev_13), (148, ev_556), (151, ev_276), (153, ev_314), (155, ev_635), (158, ev_13), (159, ev_555), (162, ev_126), (164, ev_18), (165, ev_634), (168, ev_13)]
noncomputable def zi_324_6 : ZIs := [(169, ev_555), (172, ev_131), (174, ev_18), (175, ev_299), (176, ev_126), (178, ev_314), (180, ev_132), (183, ev_7), (184, ev_134), (187, ev_10), (188, ev_22), (189, ev_25), (191, ev_131), (193, ev_314), (195, ev_132), (198, ev_10)]
noncomputable def zi_324_7 : ZIs := [(199, ev_134), (202, ev_7), (203, ev_22), (204, ev_28), (206, ev_956), (209, ev_1485), (212, ev_201), (213, ev_30), (214, ev_196), (215, ev_355), (216, ev_22), (217, ev_294), (218, ev_1486), (221, ev_10), (222, ev_294), (223, ev_201)]
noncomputable def zi_324_8 : ZIs := [(224, ev_13), (225, ev_1454), (228, ev_364), (231, ev_13), (232, ev_555), (235, ev_201), (236, ev_13), (237, ev_556), (240, ev_201), (241, ev_18), (242, ev_299), (243, ev_304), (246, ev_712), (249, ev_196), (250, ev_30), (251, ev_355)]
noncomputable def zi_324_9 : ZIs := [(252, ev_686), (253, ev_1487), (256, ev_260)]
set_option maxRecDepth 100000 in
theorem xi_w324 : zall cX12_sortShorts [zi_324_0, zi_324_1, zi_324_2, zi_324_3, zi_324_4, zi_324_5, zi_324_6, zi_324_7, zi_324_8, zi_324_9] := zall_w _ _ (by decide +kernel)
noncomputable def xi_324 (pc : Nat) : XIs := cond (Nat.blt pc 137) (cond (Nat.blt pc 54) (cond (Nat.blt pc 26) (zx zi_324_0) (zx zi_324_1)) (cond (Nat.blt pc 78) (zx zi_324_2) (cond (Nat.blt pc 106) (zx zi_324_3) (zx zi_324_4)))) (cond (Nat.blt pc 199) (cond (Nat.blt pc 169) (zx zi_324_5) (zx zi_324_6)) (cond (Nat.blt pc 224) (zx zi_324_7) (cond (Nat.blt pc 252) (zx zi_324_8) (zx zi_324_9))))
theorem xi_ok324 (pc : Nat) : xi_ok cX12_sortShorts (xi_324 pc) = true := xi_c (xi_c (xi_c (zq1 xi_w324) (zq1 (zq2 xi_w324))) (xi_c (zq1 (zq2 (zq2 xi_w324))) (xi_c (zq1 (zq2 (zq2 (zq2 xi_w324)))) (zq1 (zq2 (zq2 (zq2 (zq2 xi_w324)))))))) (xi_c (xi_c (zq1 (zq2 (zq2 (zq2 (zq2 (zq2 xi_w324)))))) (zq1 (zq2 (zq2 (zq2 (zq2 (zq2 (zq2 xi_w324)))))))) (xi_c (zq1 (zq2 (zq2 (zq2 (zq2 (zq2 (zq2 (zq2 xi_w324)))))))) (xi_c (zq1 (zq2 (zq2 (zq2 (zq2 (zq2 (zq2 (zq2 (zq2 xi_w324))))))))) (zq1 (zq2 (zq2 (zq2 (zq2 (zq2 (zq2 (zq2 (zq2 (zq2 xi_w324)))))))))))))
noncomputable def zi_325_0 : ZIs := [(0, ev_13), (1, ev_13), (2, ev_196), (3, ev_1337), (6, ev_681), (9, ev_13), (10, ev_201), (11, ev_1337), (14, ev_650), (17, ev_196), (18, ev_201), (19, ev_682), (22, ev_7), (23, ev_134), (26, ev_10), (27, ev_1177)]
noncomputable def zi_325_1 : ZIs := [(30, ev_137), (33, ev_10), (34, ev_128), (35, ev_13), (36, ev_196), (37, ev_201), (38, ev_1488), (41, ev_13), (42, ev_1454), (45, ev_1046), (48, ev_270), (51, ev_1047), (53, ev_216), (56, ev_13), (57, ev_1454), (60, ev_128)]
set_option maxRecDepth 100000 in
theorem xi_w325 : zall cX12_shorts [zi_325_0, zi_325_1] := zall_w _ _ (by decide +kernel)
noncomputable def xi_325 (pc : Nat) : XIs := cond (Nat.blt pc 30) (zx zi_325_0) (zx zi_325_1)
theorem xi_ok325 (pc : Nat) : xi_ok cX12_shorts (xi_325 pc) = true := xi_c (zq1 xi_w325) (zq1 (zq2 xi_w325))
noncomputable def zi_326_0 : ZIs := [(0, ev_13), (1, ev_13), (2, ev_196), (3, ev_1337), (6, ev_416), (9, ev_13), (10, ev_201), (11, ev_1337), (14, ev_333), (17, ev_196), (18, ev_201), (19, ev_281), (22, ev_202), (23, ev_1110), (26, ev_12), (28, ev_832)]
noncomputable def zi_326_1 : ZIs := [(31, ev_7), (32, ev_134), (35, ev_10), (36, ev_1177), (39, ev_137), (42, ev_10), (43, ev_128), (44, ev_13), (45, ev_196), (46, ev_201), (47, ev_1488), (50, ev_13), (51, ev_1454), (54, ev_1046), (57, ev_1122), (60, ev_202)]
noncomputable def zi_326_2 : ZIs := [(61, ev_13), (62, ev_1454), (65, ev_994), (68, ev_252), (69, ev_128), (70, ev_13), (71, ev_1489), (74, ev_33), (75, ev_13), (76, ev_555), (79, ev_202), (80, ev_18), (81, ev_355), (82, ev_25), (84, ev_12), (86, ev_13)]
noncomputable def zi_326_3 : ZIs := [(87, ev_1456), (90, ev_126), (92, ev_18), (93, ev_1490), (96, ev_13), (97, ev_1456), (100, ev_126), (102, ev_7), (103, ev_22), (104, ev_12), (106, ev_22), (107, ev_18), (108, ev_134), (111, ev_252), (112, ev_128)]
set_option maxRecDepth 100000 in
theorem xi_w326 : zall cX12_shortArc [zi_326_0, zi_326_1, zi_326_2, zi_326_3] := zall_w _ _ (by decide +kernel)
noncomputable def xi_326 (pc : Nat) : XIs := cond (Nat.blt pc 61) (cond (Nat.blt pc 31) (zx zi_326_0) (zx zi_326_1)) (cond (Nat.blt pc 87) (zx zi_326_2) (zx zi_326_3))
theorem xi_ok326 (pc : Nat) : xi_ok cX12_shortArc (xi_326 pc) = true := xi_c (xi_c (zq1 xi_w326) (zq1 (zq2 xi_w326))) (xi_c (zq1 (zq2 (zq2 xi_w326))) (zq1 (zq2 (zq2 (zq2 xi_w326)))))
noncomputable def zi_327_0 : ZIs := [(0, ev_10), (1, ev_686), (2, ev_483), (3, ev_196), (4, ev_1420), (7, ev_993), (10, ev_689), (13, ev_1491), (16, ev_196), (17, ev_128)]
set_option maxRecDepth 100000 in
theorem xi_w327 : zall cX12_least [zi_327_0] := zall_w _ _ (by decide +kernel)
noncomputable def xi_327 (pc : Nat) : XIs := zx zi_327_0
theorem xi_ok327 (pc : Nat) : xi_ok cX12_least (xi_327 pc) = true := zq1 xi_w327
noncomputable def zi_328_0 : ZIs := [(0, ev_13), (1, ev_196), (2, ev_179), (3, ev_135), (4, ev_133), (5, ev_1318), (8, ev_772), (11, ev_13), (12, ev_201), (13, ev_1337), (16, ev_132), (19, ev_7), (20, ev_134), (23, ev_10), (24, ev_1177), (27, ev_137)]
noncomputable def zi_328_1 : ZIs := [(30, ev_10), (31, ev_128), (32, ev_13), (33, ev_196), (34, ev_7), (35, ev_819), (38, ev_7), (39, ev_134), (42, ev_10), (43, ev_252), (44, ev_252), (45, ev_1435), (48, ev_10), (49, ev_295), (50, ev_13), (51, ev_959)]
noncomputable def zi_328_2 : ZIs := [(54, ev_201), (55, ev_18), (56, ev_202), (57, ev_1420), (60, ev_417), (63, ev_13), (64, ev_959), (67, ev_202), (68, ev_18), (69, ev_201), (70, ev_1420), (73, ev_993), (76, ev_300), (79, ev_854), (82, ev_202), (83, ev_128)]
set_option maxRecDepth 100000 in
theorem xi_w328 : zall cX12_part [zi_328_0, zi_328_1, zi_328_2] := zall_w _ _ (by decide +kernel)
noncomputable def xi_328 (pc : Nat) : XIs := cond (Nat.blt pc 30) (zx zi_328_0) (cond (Nat.blt pc 54) (zx zi_328_1) (zx zi_328_2))
theorem xi_ok328 (pc : Nat) : xi_ok cX12_part (xi_328 pc) = true := xi_c (zq1 xi_w328) (xi_c (zq1 (zq2 xi_w328)) (zq1 (zq2 (zq2 xi_w328))))
noncomputable def zi_329_0 : ZIs := [(0, ev_13), (1, ev_7), (2, ev_196), (3, ev_201), (4, ev_1435), (7, ev_10), (8, ev_295), (9, ev_10), (10, ev_11), (12, ev_12), (14, ev_13), (15, ev_1290), (18, ev_472), (21, ev_202), (22, ev_12), (24, ev_201)]
noncomputable def zi_329_1 : ZIs := [(25, ev_685), (28, ev_13), (29, ev_959), (32, ev_12), (34, ev_18), (35, ev_1492), (38, ev_12), (40, ev_819), (43, ev_7), (44, ev_134), (47, ev_10), (48, ev_22), (49, ev_295), (50, ev_348), (53, ev_1493), (56, ev_202)]
noncomputable def zi_329_2 : ZIs := [(57, ev_128)]
set_option maxRecDepth 100000 in
theorem xi_w329 : zall cX12_weakParts [zi_329_0, zi_329_1, zi_329_2] := zall_w _ _ (by decide +kernel)
noncomputable def xi_329 (pc : Nat) : XIs := cond (Nat.blt pc 25) (zx zi_329_0) (cond (Nat.blt pc 57) (zx zi_329_1) (zx zi_329_2))
theorem xi_ok329 (pc : Nat) : xi_ok cX12_weakParts (xi_329 pc) = true := xi_c (zq1 xi_w329) (xi_c (zq1 (zq2 xi_w329)) (zq1 (zq2 (zq2 xi_w329))))
noncomputable def zi_330_0 : ZIs := [(0, ev_13), (1, ev_13), (2, ev_196), (3, ev_1494), (6, ev_1177), (9, ev_137), (12, ev_10), (13, ev_128), (14, ev_13), (15, ev_196), (16, ev_252), (17, ev_1495), (20, ev_13), (21, ev_252), (22, ev_252), (23, ev_1495)]
noncomputable def zi_330_1 : ZIs := [(26, ev_942), (29, ev_7), (30, ev_134), (33, ev_10), (34, ev_128)]
set_option maxRecDepth 100000 in
theorem xi_w330 : zall cX12_bridge [zi_330_0, zi_330_1] := zall_w _ _ (by decide +kernel)
noncomputable def xi_330 (pc : Nat) : XIs := cond (Nat.blt pc 26) (zx zi_330_0) (zx zi_330_1)
theorem xi_ok330 (pc : Nat) : xi_ok cX12_bridge (xi_330 pc) = true := xi_c (zq1 xi_w330) (zq1 (zq2 xi_w330))
noncomputable def zi_331_0 : ZIs := [(0, ev_13), (1, ev_13), (2, ev_196), (3, ev_1337), (6, ev_1177), (9, ev_137), (12, ev_10), (13, ev_128), (14, ev_13), (15, ev_252), (16, ev_196), (17, ev_1495), (20, ev_13), (21, ev_252), (22, ev_252), (23, ev_1495)]
noncomputable def zi_331_1 : ZIs := [(26, ev_942), (29, ev_7), (30, ev_134), (33, ev_10), (34, ev_128)]
set_option maxRecDepth 100000 in
theorem xi_w331 : zall cX12_cut [zi_331_0, zi_331_1] := zall_w _ _ (by decide +kernel)
noncomputable def xi_331 (pc : Nat) : XIs := cond (Nat.blt pc 26) (zx zi_331_0) (zx zi_331_1)
theorem xi_ok331 (pc : Nat) : xi_ok cX12_cut (xi_331 pc) = true := xi_c (zq1 xi_w331) (zq1 (zq2 xi_w331))
noncomputable def zi_332_0 : ZIs := [(0, ev_13), (1, ev_196), (2, ev_832), (5, ev_7), (6, ev_134), (9, ev_10), (10, ev_1177), (13, ev_137), (16, ev_10), (17, ev_128), (18, ev_10), (19, ev_294), (20, ev_252), (21, ev_295), (22, ev_252), (23, ev_11)]
noncomputable def zi_332_1 : ZIs := [(25, ev_10), (26, ev_25), (28, ev_126), (30, ev_13), (31, ev_1290), (34, ev_1496), (37, ev_252), (38, ev_295), (39, ev_13), (40, ev_1290), (43, ev_7), (44, ev_16), (45, ev_28), (47, ev_131), (49, ev_1497), (52, ev_201)]
noncomputable def zi_332_2 : ZIs := [(53, ev_131), (55, ev_1420), (58, ev_326), (61, ev_7), (62, ev_134), (65, ev_10), (66, ev_275), (68, ev_13), (69, ev_1293), (72, ev_313), (74, ev_314), (76, ev_13), (77, ev_1293), (80, ev_530), (83, ev_22), (84, ev_725)]
noncomputable def zi_332_3 : ZIs := [(87, ev_276), (89, ev_1498), (92, ev_13), (93, ev_1292), (96, ev_314), (98, ev_1294), (99, ev_416), (102, ev_13), (103, ev_1039), (106, ev_314), (108, ev_18), (109, ev_131), (111, ev_1499), (114, ev_201), (115, ev_13), (116, ev_1304)]
noncomputable def zi_332_4 : ZIs := [(119, ev_314), (121, ev_18), (122, ev_1420), (125, ev_132), (128, ev_7), (129, ev_134), (132, ev_10), (133, ev_275), (135, ev_318), (138, ev_1500), (141, ev_276), (143, ev_330), (146, ev_131), (148, ev_134), (151, ev_202), (152, ev_295)]
noncomputable def zi_332_5 : ZIs := [(153, ev_1501), (156, ev_332), (159, ev_202), (160, ev_252), (161, ev_692), (164, ev_252), (165, ev_128), (166, ev_201), (167, ev_7), (168, ev_202), (169, ev_277), (170, ev_278), (171, ev_294), (172, ev_126), (174, ev_196), (175, ev_819)]
noncomputable def zi_332_6 : ZIs := [(178, ev_202), (179, ev_639), (182, ev_12), (184, ev_11), (186, ev_343), (189, ev_1502), (192, ev_12), (194, ev_128)]
set_option maxRecDepth 100000 in
theorem xi_w332 : zall cX12_order [zi_332_0, zi_332_1, zi_332_2, zi_332_3, zi_332_4, zi_332_5, zi_332_6] := zall_w _ _ (by decide +kernel)
noncomputable def xi_332 (pc : Nat) : XIs := cond (Nat.blt pc 87) (cond (Nat.blt pc 25) (zx zi_332_0) (cond (Nat.blt pc 53) (zx zi_332_1) (zx zi_332_2))) (cond (Nat.blt pc 153) (cond (Nat.blt pc 119) (zx zi_332_3) (zx zi_332_4)) (cond (Nat.blt pc 178) (zx zi_332_5) (zx zi_332_6)))
theorem xi_ok332 (pc : Nat) : xi_ok cX12_order (xi_332 pc) = true := xi_c (xi_c (zq1 xi_w332) (xi_c (zq1 (zq2 xi_w332)) (zq1 (zq2 (zq2 xi_w332))))) (xi_c (xi_c (zq1 (zq2 (zq2 (zq2 xi_w332)))) (zq1 (zq2 (zq2 (zq2 (zq2 xi_w332)))))) (xi_c (zq1 (zq2 (zq2 (zq2 (zq2 (zq2 xi_w332)))))) (zq1 (zq2 (zq2 (zq2 (zq2 (zq2 (zq2 xi_w332)))))))))
noncomputable def zi_333_0 : ZIs := [(0, ev_10), (1, ev_295), (2, ev_10), (3, ev_11), (5, ev_12), (7, ev_530), (10, ev_1503), (13, ev_13), (14, ev_12), (16, ev_1180), (19, ev_1504), (22, ev_13), (23, ev_1304), (26, ev_13), (27, ev_1293), (30, ev_12)]
noncomputable def zi_333_1 : ZIs := [(32, ev_22), (33, ev_18), (34, ev_25), (36, ev_13), (37, ev_1039), (40, ev_13), (41, ev_1293), (44, ev_12), (46, ev_22), (47, ev_18), (48, ev_28), (50, ev_202), (51, ev_126), (53, ev_196), (54, ev_691), (57, ev_201)]
noncomputable def zi_333_2 : ZIs := [(58, ev_131), (60, ev_1420), (63, ev_1307), (66, ev_131), (68, ev_196), (69, ev_539), (72, ev_201), (73, ev_126), (75, ev_1420), (78, ev_132), (81, ev_7), (82, ev_134), (85, ev_10), (86, ev_22), (87, ev_295), (88, ev_348)]
noncomputable def zi_333_3 : ZIs := [(91, ev_1505), (94, ev_202), (95, ev_128)]
set_option maxRecDepth 100000 in
theorem xi_w333 : zall cX12_jointsWith [zi_333_0, zi_333_1, zi_333_2, zi_333_3] := zall_w _ _ (by decide +kernel)
noncomputable def xi_333 (pc : Nat) : XIs := cond (Nat.blt pc 58) (cond (Nat.blt pc 32) (zx zi_333_0) (zx zi_333_1)) (cond (Nat.blt pc 91) (zx zi_333_2) (zx zi_333_3))
theorem xi_ok333 (pc : Nat) : xi_ok cX12_jointsWith (xi_333 pc) = true := xi_c (xi_c (zq1 xi_w333) (zq1 (zq2 xi_w333))) (xi_c (zq1 (zq2 (zq2 xi_w333))) (zq1 (zq2 (zq2 (zq2 xi_w333)))))
noncomputable def zi_334_0 : ZIs := [(0, ev_13), (1, ev_13), (2, ev_196), (3, ev_1337), (6, ev_1177), (9, ev_137), (12, ev_10), (13, ev_128), (14, ev_13), (15, ev_1290), (18, ev_180), (20, ev_819), (23, ev_252), (24, ev_204), (27, ev_7), (28, ev_13)]
noncomputable def zi_334_1 : ZIs := [(29, ev_1290), (32, ev_277), (33, ev_7), (34, ev_16), (35, ev_294), (36, ev_10), (37, ev_295), (38, ev_10), (39, ev_11), (41, ev_201), (42, ev_196), (43, ev_1420), (46, ev_1506), (49, ev_202), (50, ev_11), (52, ev_300)]
noncomputable def zi_334_2 : ZIs := [(55, ev_7), (56, ev_25), (58, ev_126), (60, ev_353), (63, ev_10), (64, ev_25), (66, ev_10), (67, ev_28), (69, ev_131), (71, ev_13), (72, ev_1290), (75, ev_690), (78, ev_201), (79, ev_131), (81, ev_1420), (84, ev_1171)]
noncomputable def zi_334_3 : ZIs := [(87, ev_13), (88, ev_131), (90, ev_201), (91, ev_1507), (94, ev_202), (95, ev_1155), (98, ev_201), (99, ev_7), (100, ev_131), (102, ev_277), (103, ev_252), (104, ev_317), (105, ev_20), (106, ev_294), (107, ev_7), (108, ev_25)]
noncomputable def zi_334_4 : ZIs := [(110, ev_320), (113, ev_973), (116, ev_357), (119, ev_745), (122, ev_12), (124, ev_128)]
set_option maxRecDepth 100000 in
theorem xi_w334 : zall cX12_core [zi_334_0, zi_334_1, zi_334_2, zi_334_3, zi_334_4] := zall_w _ _ (by decide +kernel)
noncomputable def xi_334 (pc : Nat) : XIs := cond (Nat.blt pc 55) (cond (Nat.blt pc 29) (zx zi_334_0) (zx zi_334_1)) (cond (Nat.blt pc 87) (zx zi_334_2) (cond (Nat.blt pc 110) (zx zi_334_3) (zx zi_334_4)))
theorem xi_ok334 (pc : Nat) : xi_ok cX12_core (xi_334 pc) = true := xi_c (xi_c (zq1 xi_w334) (zq1 (zq2 xi_w334))) (xi_c (zq1 (zq2 (zq2 xi_w334))) (xi_c (zq1 (zq2 (zq2 (zq2 xi_w334)))) (zq1 (zq2 (zq2 (zq2 (zq2 xi_w334)))))))
noncomputable def zi_335_0 : ZIs := [(0, ev_10), (1, ev_686), (2, ev_196), (3, ev_13), (4, ev_1290), (7, ev_1115), (10, ev_13), (11, ev_1508), (14, ev_196), (15, ev_10), (16, ev_299), (17, ev_689), (20, ev_1478), (23, ev_10), (24, ev_686), (25, ev_196)]
noncomputable def zi_335_1 : ZIs := [(26, ev_530), (29, ev_880), (32, ev_13), (33, ev_196), (34, ev_1180), (37, ev_1509), (40, ev_13), (41, ev_1508), (44, ev_13), (45, ev_1304), (48, ev_13), (49, ev_1293), (52, ev_196), (53, ev_22), (54, ev_18), (55, ev_316)]
noncomputable def zi_335_2 : ZIs := [(56, ev_18), (57, ev_7), (58, ev_13), (59, ev_1039), (62, ev_13), (63, ev_1293), (66, ev_196), (67, ev_22), (68, ev_18), (69, ev_277), (70, ev_278), (71, ev_299), (72, ev_13), (73, ev_1508), (76, ev_13), (77, ev_1039)]
noncomputable def zi_335_3 : ZIs := [(80, ev_13), (81, ev_1293), (84, ev_196), (85, ev_22), (86, ev_18), (87, ev_316), (88, ev_18), (89, ev_7), (90, ev_13), (91, ev_1304), (94, ev_13), (95, ev_1293), (98, ev_196), (99, ev_22), (100, ev_18), (101, ev_277)]
noncomputable def zi_335_4 : ZIs := [(102, ev_278), (103, ev_299), (104, ev_689), (107, ev_1510), (110, ev_260)]
set_option maxRecDepth 100000 in
theorem xi_w335 : zall cX12_findBeside [zi_335_0, zi_335_1, zi_335_2, zi_335_3, zi_335_4] := zall_w _ _ (by decide +kernel)
noncomputable def xi_335 (pc : Nat) : XIs := cond (Nat.blt pc 56) (cond (Nat.blt pc 26) (zx zi_335_0) (zx zi_335_1)) (cond (Nat.blt pc 80) (zx zi_335_2) (cond (Nat.blt pc 102) (zx zi_335_3) (zx zi_335_4)))
theorem xi_ok335 (pc : Nat) : xi_ok cX12_findBeside (xi_335 pc) = true := xi_c (xi_c (zq1 xi_w335) (zq1 (zq2 xi_w335))) (xi_c (zq1 (zq2 (zq2 xi_w335))) (xi_c (zq1 (zq2 (zq2 (zq2 xi_w335)))) (zq1 (zq2 (zq2 (zq2 (zq2 xi_w335)))))))
noncomputable def zi_336_0 : ZIs := [(0, ev_10), (1, ev_686), (2, ev_10), (3, ev_294), (4, ev_201), (5, ev_180), (7, ev_684), (10, ev_196), (11, ev_483), (12, ev_201), (13, ev_303), (14, ev_7), (15, ev_20), (16, ev_22), (17, ev_686), (18, ev_304)]
noncomputable def zi_336_1 : ZIs := [(21, ev_1511), (24, ev_196), (25, ev_128)]
set_option maxRecDepth 100000 in
theorem xi_w336 : zall cX12_count [zi_336_0, zi_336_1] := zall_w _ _ (by decide +kernel)
noncomputable def xi_336 (pc : Nat) : XIs := cond (Nat.blt pc 21) (zx zi_336_0) (zx zi_336_1)
theorem xi_ok336 (pc : Nat) : xi_ok cX12_count (xi_336 pc) = true := xi_c (zq1 xi_w336) (zq1 (zq2 xi_w336))
noncomputable def zi_337_0 : ZIs := [(0, ev_13), (1, ev_1512), (4, ev_10), (5, ev_686), (6, ev_10), (7, ev_294), (8, ev_10), (9, ev_295), (10, ev_13), (11, ev_1513), (14, ev_10), (15, ev_13), (16, ev_1290), (19, ev_180), (21, ev_819), (24, ev_252)]
noncomputable def zi_337_1 : ZIs := [(25, ev_204), (28, ev_7), (29, ev_13), (30, ev_1290), (33, ev_277), (34, ev_7), (35, ev_16), (36, ev_299), (37, ev_13), (38, ev_1514), (41, ev_10), (42, ev_10), (43, ev_299), (44, ev_202), (45, ev_1515), (48, ev_202)]
noncomputable def zi_337_2 : ZIs := [(49, ev_201), (50, ev_1516), (53, ev_202), (54, ev_294), (55, ev_13), (56, ev_1514), (59, ev_202), (60, ev_18), (61, ev_686), (62, ev_13), (63, ev_1513), (66, ev_202), (67, ev_18), (68, ev_393), (71, ev_202), (72, ev_13)]
noncomputable def zi_337_3 : ZIs := [(73, ev_1513), (76, ev_202), (77, ev_18), (78, ev_1517), (81, ev_22), (82, ev_201), (83, ev_1518), (86, ev_479), (89, ev_731), (92, ev_13), (93, ev_1513), (96, ev_202), (97, ev_18), (98, ev_1492), (101, ev_11), (103, ev_13)]
noncomputable def zi_337_4 : ZIs := [(104, ev_1513), (107, ev_202), (108, ev_316), (109, ev_18), (110, ev_7), (111, ev_12), (113, ev_277), (114, ev_252), (115, ev_317), (116, ev_20), (117, ev_299), (118, ev_13), (119, ev_1513), (122, ev_202), (123, ev_7), (124, ev_22)]
noncomputable def zi_337_5 : ZIs := [(125, ev_13), (126, ev_1513), (129, ev_202), (130, ev_18), (131, ev_13), (132, ev_1508), (135, ev_12), (137, ev_18), (138, ev_20), (139, ev_299), (140, ev_13), (141, ev_1514), (144, ev_202), (145, ev_7), (146, ev_22), (147, ev_13)]
noncomputable def zi_337_6 : ZIs := [(148, ev_1514), (151, ev_202), (152, ev_18), (153, ev_7), (154, ev_12), (156, ev_277), (157, ev_278), (158, ev_299), (159, ev_300), (162, ev_721), (165, ev_196), (166, ev_128)]
set_option maxRecDepth 100000 in
theorem xi_w337 : zall cX12_findClique [zi_337_0, zi_337_1, zi_337_2, zi_337_3, zi_337_4, zi_337_5, zi_337_6] := zall_w _ _ (by decide +kernel)
noncomputable def xi_337 (pc : Nat) : XIs := cond (Nat.blt pc 73) (cond (Nat.blt pc 25) (zx zi_337_0) (cond (Nat.blt pc 49) (zx zi_337_1) (zx zi_337_2))) (cond (Nat.blt pc 125) (cond (Nat.blt pc 104) (zx zi_337_3) (zx zi_337_4)) (cond (Nat.blt pc 148) (zx zi_337_5) (zx zi_337_6)))
theorem xi_ok337 (pc : Nat) : xi_ok cX12_findClique (xi_337 pc) = true := xi_c (xi_c (zq1 xi_w337) (xi_c (zq1 (zq2 xi_w337)) (zq1 (zq2 (zq2 xi_w337))))) (xi_c (xi_c (zq1 (zq2 (zq2 (zq2 xi_w337)))) (zq1 (zq2 (zq2 (zq2 (zq2 xi_w337)))))) (xi_c (zq1 (zq2 (zq2 (zq2 (zq2 (zq2 xi_w337)))))) (zq1 (zq2 (zq2 (zq2 (zq2 (zq2 (zq2 xi_w337)))))))))
noncomputable def zi_338_0 : ZIs := [(0, ev_13), (1, ev_196), (2, ev_832), (5, ev_7), (6, ev_134), (9, ev_10), (10, ev_1177), (13, ev_137), (16, ev_10), (17, ev_128), (18, ev_13), (19, ev_1519), (22, ev_294), (23, ev_10), (24, ev_295), (25, ev_10)]
noncomputable def zi_338_1 : ZIs := [(26, ev_11), (28, ev_12), (30, ev_13), (31, ev_1290), (34, ev_864), (37, ev_201), (38, ev_12), (40, ev_1420), (43, ev_1005), (46, ev_202), (47, ev_196), (48, ev_775), (51, ev_12), (53, ev_128), (54, ev_300), (57, ev_348)]
noncomputable def zi_338_2 : ZIs := [(60, ev_694), (63, ev_252), (64, ev_128)]
set_option maxRecDepth 100000 in
theorem xi_w338 : zall cX12_clique [zi_338_0, zi_338_1, zi_338_2] := zall_w _ _ (by decide +kernel)
noncomputable def xi_338 (pc : Nat) : XIs := cond (Nat.blt pc 26) (zx zi_338_0) (cond (Nat.blt pc 60) (zx zi_338_1) (zx zi_338_2))
theorem xi_ok338 (pc : Nat) : xi_ok cX12_clique (xi_338 pc) = true := xi_c (zq1 xi_w338) (xi_c (zq1 (zq2 xi_w338)) (zq1 (zq2 (zq2 xi_w338))))
noncomputable def zi_339_0 : ZIs := [(0, ev_10), (1, ev_294), (2, ev_10), (3, ev_295), (4, ev_202), (5, ev_13), (6, ev_1290), (9, ev_722), (12, ev_201), (13, ev_13), (14, ev_1508), (17, ev_196), (18, ev_18), (19, ev_202), (20, ev_1420), (23, ev_770)]
noncomputable def zi_339_1 : ZIs := [(26, ev_13), (27, ev_1520), (30, ev_202), (31, ev_18), (32, ev_1160), (35, ev_7), (36, ev_13), (37, ev_1520), (40, ev_202), (41, ev_18), (42, ev_277), (43, ev_134), (46, ev_10), (47, ev_278), (48, ev_294), (49, ev_300)]
noncomputable def zi_339_2 : ZIs := [(52, ev_571), (55, ev_201), (56, ev_128)]
set_option maxRecDepth 100000 in
theorem xi_w339 : zall cX12_barsOf [zi_339_0, zi_339_1, zi_339_2] := zall_w _ _ (by decide +kernel)
noncomputable def xi_339 (pc : Nat) : XIs := cond (Nat.blt pc 26) (zx zi_339_0) (cond (Nat.blt pc 52) (zx zi_339_1) (zx zi_339_2))
theorem xi_ok339 (pc : Nat) : xi_ok cX12_barsOf (xi_339 pc) = true := xi_c (zq1 xi_w339) (xi_c (zq1 (zq2 xi_w339)) (zq1 (zq2 (zq2 xi_w339))))
noncomputable def zi_340_0 : ZIs := [(0, ev_252), (1, ev_294), (2, ev_10), (3, ev_295), (4, ev_10), (5, ev_11), (7, ev_10), (8, ev_25), (10, ev_126), (12, ev_13), (13, ev_1290), (16, ev_1407), (19, ev_13), (20, ev_1521), (23, ev_126), (25, ev_1420)]
noncomputable def zi_340_1 : ZIs := [(28, ev_1522), (31, ev_13), (32, ev_1520), (35, ev_126), (37, ev_18), (38, ev_1523), (41, ev_196), (42, ev_13), (43, ev_126), (45, ev_1524), (48, ev_1517), (51, ev_16), (52, ev_28), (54, ev_13), (55, ev_1508), (58, ev_126)]
noncomputable def zi_340_2 : ZIs := [(60, ev_18), (61, ev_1517), (64, ev_275), (66, ev_201), (67, ev_1172), (70, ev_131), (72, ev_202), (73, ev_1525), (76, ev_131), (78, ev_202), (79, ev_1052), (82, ev_276), (84, ev_12), (86, ev_1526), (89, ev_126), (91, ev_294)]
noncomputable def zi_340_3 : ZIs := [(92, ev_131), (94, ev_295), (95, ev_276), (97, ev_11), (99, ev_343), (102, ev_640), (105, ev_201), (106, ev_128)]
set_option maxRecDepth 100000 in
theorem xi_w340 : zall cX12_tightest [zi_340_0, zi_340_1, zi_340_2, zi_340_3] := zall_w _ _ (by decide +kernel)
noncomputable def xi_340 (pc : Nat) : XIs := cond (Nat.blt pc 60) (cond (Nat.blt pc 28) (zx zi_340_0) (zx zi_340_1)) (cond (Nat.blt pc 92) (zx zi_340_2) (zx zi_340_3))
theorem xi_ok340 (pc : Nat) : xi_ok cX12_tightest (xi_340 pc) = true := xi_c (xi_c (zq1 xi_w340) (zq1 (zq2 xi_w340))) (xi_c (zq1 (zq2 (zq2 xi_w340))) (zq1 (zq2 (zq2 (zq2 xi_w340)))))
noncomputable def zi_341_0 : ZIs := [(0, ev_10), (1, ev_294), (2, ev_10), (3, ev_295), (4, ev_202), (5, ev_13), (6, ev_1290), (9, ev_644), (12, ev_201), (13, ev_13), (14, ev_1520), (17, ev_202), (18, ev_18), (19, ev_951), (22, ev_7), (23, ev_202)]
noncomputable def zi_341_1 : ZIs := [(24, ev_277), (25, ev_134), (28, ev_10), (29, ev_278), (30, ev_294), (31, ev_300), (34, ev_646), (37, ev_7), (38, ev_295), (39, ev_202), (40, ev_1527), (43, ev_10), (44, ev_295), (45, ev_10), (46, ev_11), (48, ev_12)]
noncomputable def zi_341_2 : ZIs := [(50, ev_13), (51, ev_1290), (54, ev_939), (57, ev_201), (58, ev_12), (60, ev_1420), (63, ev_868), (66, ev_196), (67, ev_13), (68, ev_12), (70, ev_1524), (73, ev_1517), (76, ev_16), (77, ev_13), (78, ev_1508), (81, ev_12)]
noncomputable def zi_341_3 : ZIs := [(83, ev_18), (84, ev_201), (85, ev_20), (86, ev_1517), (89, ev_1528), (92, ev_201), (93, ev_7), (94, ev_12), (96, ev_277), (97, ev_252), (98, ev_317), (99, ev_20), (100, ev_294), (101, ev_7), (102, ev_295), (103, ev_348)]
noncomputable def zi_341_4 : ZIs := [(106, ev_357), (109, ev_1036), (112, ev_201), (113, ev_128)]
set_option maxRecDepth 100000 in
theorem xi_w341 : zall cX12_tough [zi_341_0, zi_341_1, zi_341_2, zi_341_3, zi_341_4] := zall_w _ _ (by decide +kernel)
noncomputable def xi_341 (pc : Nat) : XIs := cond (Nat.blt pc 50) (cond (Nat.blt pc 24) (zx zi_341_0) (zx zi_341_1)) (cond (Nat.blt pc 83) (zx zi_341_2) (cond (Nat.blt pc 106) (zx zi_341_3) (zx zi_341_4)))
theorem xi_ok341 (pc : Nat) : xi_ok cX12_tough (xi_341 pc) = true := xi_c (xi_c (zq1 xi_w341) (zq1 (zq2 xi_w341))) (xi_c (zq1 (zq2 (zq2 xi_w341))) (xi_c (zq1 (zq2 (zq2 (zq2 xi_w341)))) (zq1 (zq2 (zq2 (zq2 (zq2 xi_w341)))))))
noncomputable def zi_342_0 : ZIs := [(0, ev_7), (1, ev_196), (2, ev_277), (3, ev_295), (4, ev_10), (5, ev_11), (7, ev_202), (8, ev_12), (10, ev_1529), (13, ev_202), (14, ev_11), (16, ev_10), (17, ev_25), (19, ev_126), (21, ev_13), (22, ev_1290)]
noncomputable def zi_342_1 : ZIs := [(25, ev_297), (28, ev_202), (29, ev_12), (31, ev_126), (33, ev_1420), (36, ev_772), (39, ev_13), (40, ev_1508), (43, ev_126), (45, ev_18), (46, ev_201), (47, ev_20), (48, ev_134), (51, ev_10), (52, ev_278), (53, ev_295)]
noncomputable def zi_342_2 : ZIs := [(54, ev_343), (57, ev_584), (60, ev_1530), (63, ev_202), (64, ev_128)]
set_option maxRecDepth 100000 in
theorem xi_w342 : zall cX12_hanging [zi_342_0, zi_342_1, zi_342_2] := zall_w _ _ (by decide +kernel)
noncomputable def xi_342 (pc : Nat) : XIs := cond (Nat.blt pc 25) (zx zi_342_0) (cond (Nat.blt pc 54) (zx zi_342_1) (zx zi_342_2))
theorem xi_ok342 (pc : Nat) : xi_ok cX12_hanging (xi_342 pc) = true := xi_c (zq1 xi_w342) (xi_c (zq1 (zq2 xi_w342)) (zq1 (zq2 (zq2 xi_w342))))
noncomputable def zi_343_0 : ZIs := [(0, ev_10), (1, ev_294), (2, ev_10), (3, ev_295), (4, ev_202), (5, ev_13), (6, ev_1290), (9, ev_1531), (12, ev_13), (13, ev_1520), (16, ev_202), (17, ev_13), (18, ev_1532), (21, ev_202), (22, ev_18), (23, ev_299)]
noncomputable def zi_343_1 : ZIs := [(24, ev_13), (25, ev_1532), (28, ev_202), (29, ev_18), (30, ev_201), (31, ev_602), (34, ev_13), (35, ev_1532), (38, ev_202), (39, ev_18), (40, ev_7), (41, ev_22), (42, ev_134), (45, ev_201), (46, ev_294), (47, ev_300)]
noncomputable def zi_343_2 : ZIs := [(50, ev_1533), (53, ev_13), (54, ev_196), (55, ev_1534), (58, ev_295), (59, ev_7), (60, ev_11), (62, ev_12), (64, ev_1527), (67, ev_202), (68, ev_1535), (71, ev_13), (72, ev_13), (73, ev_202), (74, ev_1492), (77, ev_202)]
noncomputable def zi_343_3 : ZIs := [(78, ev_1536), (81, ev_1537), (84, ev_202), (85, ev_13), (86, ev_1521), (89, ev_252), (90, ev_317), (91, ev_20), (92, ev_295), (93, ev_13), (94, ev_196), (95, ev_201), (96, ev_1538), (99, ev_11), (101, ev_10), (102, ev_25)]
noncomputable def zi_343_4 : ZIs := [(104, ev_126), (106, ev_13), (107, ev_1290), (110, ev_346), (113, ev_13), (114, ev_1520), (117, ev_126), (119, ev_13), (120, ev_1532), (123, ev_126), (125, ev_18), (126, ev_299), (127, ev_343), (130, ev_563), (133, ev_1473), (136, ev_12)]
noncomputable def zi_343_5 : ZIs := [(138, ev_128)]
set_option maxRecDepth 100000 in
theorem xi_w343 : zall cX12_isColourable [zi_343_0, zi_343_1, zi_343_2, zi_343_3, zi_343_4, zi_343_5] := zall_w _ _ (by decide +kernel)
noncomputable def xi_343 (pc : Nat) : XIs := cond (Nat.blt pc 78) (cond (Nat.blt pc 24) (zx zi_343_0) (cond (Nat.blt pc 50) (zx zi_343_1) (zx zi_343_2))) (cond (Nat.blt pc 104) (zx zi_343_3) (cond (Nat.blt pc 138) (zx zi_343_4) (zx zi_343_5)))
theorem xi_ok343 (pc : Nat) : xi_ok cX12_isColourable (xi_343 pc) = true := xi_c (xi_c (zq1 xi_w343) (xi_c (zq1 (zq2 xi_w343)) (zq1 (zq2 (zq2 xi_w343))))) (xi_c (zq1 (zq2 (zq2 (zq2 xi_w343)))) (xi_c (zq1 (zq2 (zq2 (zq2 (zq2 xi_w343))))) (zq1 (zq2 (zq2 (zq2 (zq2 (zq2 xi_w343))))))))
noncomputable def zi_344_0 : ZIs := [(0, ev_12), (2, ev_180), (4, ev_819), (7, ev_252), (8, ev_199), (11, ev_7), (12, ev_12), (14, ev_277), (15, ev_7), (16, ev_16), (17, ev_25), (19, ev_13), (20, ev_1539), (23, ev_196), (24, ev_201), (25, ev_299)]
noncomputable def zi_344_1 : ZIs := [(26, ev_13), (27, ev_1540), (30, ev_196), (31, ev_202), (32, ev_299), (33, ev_13), (34, ev_1541), (37, ev_196), (38, ev_126), (40, ev_13), (41, ev_201), (42, ev_1524), (45, ev_252), (46, ev_317), (47, ev_20), (48, ev_202)]
noncomputable def zi_344_2 : ZIs := [(49, ev_12), (51, ev_1542), (54, ev_20), (55, ev_299), (56, ev_10), (57, ev_28), (59, ev_10), (60, ev_275), (62, ev_276), (64, ev_196), (65, ev_346), (68, ev_131), (70, ev_7), (71, ev_13), (72, ev_1539), (75, ev_276)]
noncomputable def zi_344_3 : ZIs := [(77, ev_18), (78, ev_277), (79, ev_278), (80, ev_28), (82, ev_956), (85, ev_712), (88, ev_13), (89, ev_1543), (92, ev_196), (93, ev_202), (94, ev_7), (95, ev_22), (96, ev_12), (98, ev_861), (101, ev_131), (103, ev_1120)]
noncomputable def zi_344_4 : ZIs := [(106, ev_131), (108, ev_13), (109, ev_1508), (112, ev_201), (113, ev_18), (114, ev_20), (115, ev_299), (116, ev_260)]
set_option maxRecDepth 100000 in
theorem xi_w344 : zall cX12_begin [zi_344_0, zi_344_1, zi_344_2, zi_344_3, zi_344_4] := zall_w _ _ (by decide +kernel)
noncomputable def xi_344 (pc : Nat) : XIs := cond (Nat.blt pc 49) (cond (Nat.blt pc 26) (zx zi_344_0) (zx zi_344_1)) (cond (Nat.blt pc 77) (zx zi_344_2) (cond (Nat.blt pc 106) (zx zi_344_3) (zx zi_344_4)))
theorem xi_ok344 (pc : Nat) : xi_ok cX12_begin (xi_344 pc) = true := xi_c (xi_c (zq1 xi_w344) (zq1 (zq2 xi_w344))) (xi_c (zq1 (zq2 (zq2 xi_w344))) (xi_c (zq1 (zq2 (zq2 (zq2 xi_w344)))) (zq1 (zq2 (zq2 (zq2 (zq2 xi_w344)))))))
noncomputable def zi_345_0 : ZIs := [(0, ev_10), (1, ev_295), (2, ev_13), (3, ev_10), (4, ev_13), (5, ev_196), (6, ev_1544), (9, ev_201), (10, ev_196), (11, ev_1545), (14, ev_202), (15, ev_1546), (18, ev_13), (19, ev_1539), (22, ev_202), (23, ev_18)]
noncomputable def zi_345_1 : ZIs := [(24, ev_11), (26, ev_13), (27, ev_1520), (30, ev_12), (32, ev_252), (33, ev_299), (34, ev_13), (35, ev_1541), (38, ev_202), (39, ev_18), (40, ev_1547), (43, ev_13), (44, ev_1543), (47, ev_202), (48, ev_18), (49, ev_25)]
noncomputable def zi_345_2 : ZIs := [(51, ev_479), (54, ev_202), (55, ev_1548), (58, ev_126), (60, ev_13), (61, ev_1539), (64, ev_202), (65, ev_18), (66, ev_1420), (69, ev_1371), (72, ev_13), (73, ev_1520), (76, ev_13), (77, ev_1539), (80, ev_202), (81, ev_18)]
noncomputable def zi_345_3 : ZIs := [(82, ev_252), (83, ev_299), (84, ev_479), (87, ev_862), (90, ev_202), (91, ev_683), (94, ev_13), (95, ev_1543), (98, ev_202), (99, ev_316), (100, ev_18), (101, ev_126), (103, ev_7), (104, ev_13), (105, ev_1539), (108, ev_202)]
noncomputable def zi_345_4 : ZIs := [(109, ev_18), (110, ev_277), (111, ev_252), (112, ev_317), (113, ev_20), (114, ev_278), (115, ev_299), (116, ev_1549), (119, ev_13), (120, ev_1541), (123, ev_202), (124, ev_18), (125, ev_1492), (128, ev_25), (130, ev_13), (131, ev_1541)]
noncomputable def zi_345_5 : ZIs := [(134, ev_202), (135, ev_316), (136, ev_18), (137, ev_7), (138, ev_126), (140, ev_277), (141, ev_252), (142, ev_317), (143, ev_20), (144, ev_299), (145, ev_13), (146, ev_1520), (149, ev_12), (151, ev_126), (153, ev_299), (154, ev_13)]
noncomputable def zi_345_6 : ZIs := [(155, ev_196), (156, ev_1544), (159, ev_28), (161, ev_131), (163, ev_1550), (166, ev_7), (167, ev_128), (168, ev_300), (171, ev_13), (172, ev_202), (173, ev_131), (175, ev_126), (177, ev_13), (178, ev_1540), (181, ev_202), (182, ev_7)]
noncomputable def zi_345_7 : ZIs := [(183, ev_16), (184, ev_18), (185, ev_1551), (188, ev_126), (190, ev_7), (191, ev_22), (192, ev_204), (195, ev_13), (196, ev_1540), (199, ev_202), (200, ev_7), (201, ev_16), (202, ev_18), (203, ev_196), (204, ev_1545), (207, ev_1552)]
noncomputable def zi_345_8 : ZIs := [(210, ev_10), (211, ev_128)]
set_option maxRecDepth 100000 in
theorem xi_w345 : zall cX12_isPartColourable [zi_345_0, zi_345_1, zi_345_2, zi_345_3, zi_345_4, zi_345_5, zi_345_6, zi_345_7, zi_345_8] := zall_w _ _ (by decide +kernel)
noncomputable def xi_345 (pc : Nat) : XIs := cond (Nat.blt pc 109) (cond (Nat.blt pc 51) (cond (Nat.blt pc 24) (zx zi_345_0) (zx zi_345_1)) (cond (Nat.blt pc 82) (zx zi_345_2) (zx zi_345_3))) (cond (Nat.blt pc 155) (cond (Nat.blt pc 134) (zx zi_345_4) (zx zi_345_5)) (cond (Nat.blt pc 183) (zx zi_345_6) (cond (Nat.blt pc 210) (zx zi_345_7) (zx zi_345_8))))
theorem xi_ok345 (pc : Nat) : xi_ok cX12_isPartColourable (xi_345 pc) = true := xi_c (xi_c (xi_c (zq1 xi_w345) (zq1 (zq2 xi_w345))) (xi_c (zq1 (zq2 (zq2 xi_w345))) (zq1 (zq2 (zq2 (zq2 xi_w345)))))) (xi_c (xi_c (zq1 (zq2 (zq2 (zq2 (zq2 xi_w345))))) (zq1 (zq2 (zq2 (zq2 (zq2 (zq2 xi_w345))))))) (xi_c (zq1 (zq2 (zq2 (zq2 (zq2 (zq2 (zq2 xi_w345))))))) (xi_c (zq1 (zq2 (zq2 (zq2 (zq2 (zq2 (zq2 (zq2 xi_w345)))))))) (zq1 (zq2 (zq2 (zq2 (zq2 (zq2 (zq2 (zq2 (zq2 xi_w345))))))))))))
noncomputable def zi_346_0 : ZIs := [(0, ev_483), (1, ev_7), (2, ev_22), (3, ev_196), (4, ev_473), (7, ev_483), (8, ev_7), (9, ev_22), (10, ev_134), (13, ev_196), (14, ev_294), (15, ev_201), (16, ev_180), (18, ev_614), (21, ev_252), (22, ev_987)]
noncomputable def zi_346_1 : ZIs := [(25, ev_7), (26, ev_201), (27, ev_277), (28, ev_7), (29, ev_16), (30, ev_128)]
set_option maxRecDepth 100000 in
theorem xi_w346 : zall cX12_capped [zi_346_0, zi_346_1] := zall_w _ _ (by decide +kernel)
noncomputable def xi_346 (pc : Nat) : XIs := cond (Nat.blt pc 25) (zx zi_346_0) (zx zi_346_1)
theorem xi_ok346 (pc : Nat) : xi_ok cX12_capped (xi_346 pc) = true := xi_c (zq1 xi_w346) (zq1 (zq2 xi_w346))
noncomputable def zi_347_0 : ZIs := [(0, ev_13), (1, ev_13), (2, ev_196), (3, ev_1337), (6, ev_1177), (9, ev_137), (12, ev_10), (13, ev_128), (14, ev_13), (15, ev_1519), (18, ev_1517), (21, ev_294), (22, ev_10), (23, ev_295), (24, ev_202), (25, ev_13)]
noncomputable def zi_347_1 : ZIs := [(26, ev_1290), (29, ev_1115), (32, ev_13), (33, ev_1532), (36, ev_202), (37, ev_252), (38, ev_299), (39, ev_300), (42, ev_1478), (45, ev_13), (46, ev_201), (47, ev_1553), (50, ev_993), (53, ev_304), (56, ev_1491), (59, ev_10)]
noncomputable def zi_347_2 : ZIs := [(60, ev_295), (61, ev_202), (62, ev_196), (63, ev_1554), (66, ev_252), (67, ev_11), (69, ev_10), (70, ev_25), (72, ev_126), (74, ev_1555), (77, ev_348), (80, ev_13), (81, ev_1532), (84, ev_202), (85, ev_252), (86, ev_299)]
noncomputable def zi_347_3 : ZIs := [(87, ev_10), (88, ev_28), (90, ev_131), (92, ev_13), (93, ev_1290), (96, ev_346), (99, ev_13), (100, ev_1520), (103, ev_131), (105, ev_13), (106, ev_1532), (109, ev_131), (111, ev_18), (112, ev_299), (113, ev_320), (116, ev_563)]
noncomputable def zi_347_4 : ZIs := [(119, ev_13), (120, ev_202), (121, ev_1524), (124, ev_12), (126, ev_1420), (129, ev_1556), (132, ev_13), (133, ev_1532), (136, ev_202), (137, ev_12), (139, ev_299), (140, ev_13), (141, ev_201), (142, ev_1553), (145, ev_25), (147, ev_845)]
noncomputable def zi_347_5 : ZIs := [(150, ev_300), (153, ev_640), (156, ev_13), (157, ev_1532), (160, ev_196), (161, ev_18), (162, ev_128)]
set_option maxRecDepth 100000 in
theorem xi_w347 : zall cX12_colour [zi_347_0, zi_347_1, zi_347_2, zi_347_3, zi_347_4, zi_347_5] := zall_w _ _ (by decide +kernel)
noncomputable def xi_347 (pc : Nat) : XIs := cond (Nat.blt pc 87) (cond (Nat.blt pc 26) (zx zi_347_0) (cond (Nat.blt pc 60) (zx zi_347_1) (zx zi_347_2))) (cond (Nat.blt pc 119) (zx zi_347_3) (cond (Nat.blt pc 150) (zx zi_347_4) (zx zi_347_5)))
theorem xi_ok347 (pc : Nat) : xi_ok cX12_colour (xi_347 pc) = true := xi_c (xi_c (zq1 xi_w347) (xi_c (zq1 (zq2 xi_w347)) (zq1 (zq2 (zq2 xi_w347))))) (xi_c (zq1 (zq2 (zq2 (zq2 xi_w347)))) (xi_c (zq1 (zq2 (zq2 (zq2 (zq2 xi_w347))))) (zq1 (zq2 (zq2 (zq2 (zq2 (zq2 xi_w347))))))))
noncomputable def zi_348_0 : ZIs := [(0, ev_10), (1, ev_294), (2, ev_201), (3, ev_13), (4, ev_1290), (7, ev_1115), (10, ev_13), (11, ev_739), (14, ev_201), (15, ev_252), (16, ev_299), (17, ev_304), (20, ev_1478), (23, ev_13), (24, ev_739), (27, ev_196)]
noncomputable def zi_348_1 : ZIs := [(28, ev_804), (31, ev_299), (32, ev_10), (33, ev_294), (34, ev_7), (35, ev_295), (36, ev_13), (37, ev_962), (40, ev_10), (41, ev_196), (42, ev_299), (43, ev_201), (44, ev_202), (45, ev_1557), (48, ev_13), (49, ev_962)]
noncomputable def zi_348_2 : ZIs := [(52, ev_201), (53, ev_18), (54, ev_11), (56, ev_304), (59, ev_10), (60, ev_25), (62, ev_126), (64, ev_530), (67, ev_1428), (70, ev_13), (71, ev_1293), (74, ev_126), (76, ev_22), (77, ev_28), (79, ev_13), (80, ev_1292)]
noncomputable def zi_348_3 : ZIs := [(83, ev_131), (85, ev_1294), (86, ev_309), (89, ev_13), (90, ev_1304), (93, ev_131), (95, ev_18), (96, ev_12), (98, ev_1558), (101, ev_13), (102, ev_739), (105, ev_13), (106, ev_1039), (109, ev_131), (111, ev_18), (112, ev_18)]
noncomputable def zi_348_4 : ZIs := [(113, ev_1559), (116, ev_13), (117, ev_1560), (120, ev_126), (122, ev_130), (123, ev_13), (124, ev_466), (127, ev_131), (129, ev_18), (130, ev_179), (131, ev_136), (132, ev_628), (135, ev_13), (136, ev_739), (139, ev_13), (140, ev_1039)]
noncomputable def zi_348_5 : ZIs := [(143, ev_131), (145, ev_18), (146, ev_126), (148, ev_299), (149, ev_13), (150, ev_962), (153, ev_202), (154, ev_13), (155, ev_1039), (158, ev_131), (160, ev_18), (161, ev_299), (162, ev_300), (165, ev_1561), (168, ev_13), (169, ev_1292)]
noncomputable def zi_348_6 : ZIs := [(172, ev_131), (174, ev_1294), (175, ev_1506), (178, ev_13), (179, ev_1039), (182, ev_131), (184, ev_18), (185, ev_12), (187, ev_1562), (190, ev_13), (191, ev_739), (194, ev_13), (195, ev_1304), (198, ev_131), (200, ev_18), (201, ev_18)]
noncomputable def zi_348_7 : ZIs := [(202, ev_1563), (205, ev_13), (206, ev_1560), (209, ev_126), (211, ev_130), (212, ev_135), (213, ev_136), (214, ev_1564), (217, ev_13), (218, ev_739), (221, ev_13), (222, ev_1304), (225, ev_131), (227, ev_18), (228, ev_1185), (231, ev_126)]
noncomputable def zi_348_8 : ZIs := [(233, ev_22), (234, ev_299), (235, ev_13), (236, ev_962), (239, ev_202), (240, ev_13), (241, ev_1304), (244, ev_131), (246, ev_18), (247, ev_299), (248, ev_300), (251, ev_343), (254, ev_1434), (257, ev_1565), (260, ev_260)]
set_option maxRecDepth 100000 in
theorem xi_w348 : zall cX12_search [zi_348_0, zi_348_1, zi_348_2, zi_348_3, zi_348_4, zi_348_5, zi_348_6, zi_348_7, zi_348_8] := zall_w _ _ (by decide +kernel)
noncomputable def xi_348 (pc : Nat) : XIs := cond (Nat.blt pc 113) (cond (Nat.blt pc 52) (cond (Nat.blt pc 28) (zx zi_348_0) (zx zi_348_1)) (cond (Nat.blt pc 83) (zx zi_348_2) (zx zi_348_3))) (cond (Nat.blt pc 172) (cond (Nat.blt pc 143) (zx zi_348_4) (zx zi_348_5)) (cond (Nat.blt pc 202) (zx zi_348_6) (cond (Nat.blt pc 233) (zx zi_348_7) (zx zi_348_8))))
theorem xi_ok348 (pc : Nat) : xi_ok cX12_search (xi_348 pc) = true := xi_c (xi_c (xi_c (zq1 xi_w348) (zq1 (zq2 xi_w348))) (xi_c (zq1 (zq2 (zq2 xi_w348))) (zq1 (zq2 (zq2 (zq2 xi_w348)))))) (xi_c (xi_c (zq1 (zq2 (zq2 (zq2 (zq2 xi_w348))))) (zq1 (zq2 (zq2 (zq2 (zq2 (zq2 xi_w348))))))) (xi_c (zq1 (zq2 (zq2 (zq2 (zq2 (zq2 (zq2 xi_w348))))))) (xi_c (zq1 (zq2 (zq2 (zq2 (zq2 (zq2 (zq2 (zq2 xi_w348)))))))) (zq1 (zq2 (zq2 (zq2 (zq2 (zq2 (zq2 (zq2 (zq2 xi_w348))))))))))))
noncomputable def zi_349_0 : ZIs := [(0, ev_13), (1, ev_739), (4, ev_196), (5, ev_18), (6, ev_294), (7, ev_201), (8, ev_1185), (11, ev_1107), (14, ev_13), (15, ev_1039), (18, ev_13), (19, ev_1293), (22, ev_201), (23, ev_22), (24, ev_1185), (27, ev_16)]
noncomputable def zi_349_1 : ZIs := [(28, ev_18), (29, ev_1178), (32, ev_13), (33, ev_1304), (36, ev_13), (37, ev_1293), (40, ev_201), (41, ev_22), (42, ev_18), (43, ev_128)]
set_option maxRecDepth 100000 in
theorem xi_w349 : zall cX12_before [zi_349_0, zi_349_1] := zall_w _ _ (by decide +kernel)
noncomputable def xi_349 (pc : Nat) : XIs := cond (Nat.blt pc 28) (zx zi_349_0) (zx zi_349_1)
theorem xi_ok349 (pc : Nat) : xi_ok cX12_before (xi_349 pc) = true := xi_c (zq1 xi_w349) (zq1 (zq2 xi_w349))
noncomputable def zi_350_0 : ZIs := [(0, ev_13), (1, ev_739), (4, ev_196), (5, ev_18), (6, ev_294), (7, ev_201), (8, ev_1185), (11, ev_1525), (14, ev_13), (15, ev_1560), (18, ev_201), (19, ev_1185), (22, ev_16), (23, ev_130), (24, ev_714), (27, ev_13)]
noncomputable def zi_350_1 : ZIs := [(28, ev_466), (31, ev_13), (32, ev_1293), (35, ev_201), (36, ev_22), (37, ev_18), (38, ev_179), (39, ev_13), (40, ev_1560), (43, ev_201), (44, ev_130), (45, ev_486), (46, ev_482)]
set_option maxRecDepth 100000 in
theorem xi_w350 : zall cX12_roomOn [zi_350_0, zi_350_1] := zall_w _ _ (by decide +kernel)
noncomputable def xi_350 (pc : Nat) : XIs := cond (Nat.blt pc 28) (zx zi_350_0) (zx zi_350_1)
theorem xi_ok350 (pc : Nat) : xi_ok cX12_roomOn (xi_350 pc) = true := xi_c (zq1 xi_w350) (zq1 (zq2 xi_w350))
noncomputable def zi_351_0 : ZIs := [(0, ev_13), (1, ev_739), (4, ev_196), (5, ev_18), (6, ev_11), (8, ev_12), (10, ev_1185), (13, ev_1107), (16, ev_13), (17, ev_1560), (20, ev_12), (22, ev_1185), (25, ev_16), (26, ev_316), (27, ev_130), (28, ev_490)]
noncomputable def zi_351_1 : ZIs := [(29, ev_486), (30, ev_198), (31, ev_1178), (34, ev_13), (35, ev_1560), (38, ev_12), (40, ev_316), (41, ev_130), (42, ev_490), (43, ev_458), (44, ev_198), (45, ev_260)]
set_option maxRecDepth 100000 in
theorem xi_w351 : zall cX12_push [zi_351_0, zi_351_1] := zall_w _ _ (by decide +kernel)
noncomputable def xi_351 (pc : Nat) : XIs := cond (Nat.blt pc 29) (zx zi_351_0) (zx zi_351_1)
theorem xi_ok351 (pc : Nat) : xi_ok cX12_push (xi_351 pc) = true := xi_c (zq1 xi_w351) (zq1 (zq2 xi_w351))
noncomputable def zi_352_0 : ZIs := [(0, ev_10), (1, ev_295), (2, ev_202), (3, ev_530), (6, ev_1115), (9, ev_13), (10, ev_1560), (13, ev_202), (14, ev_135), (15, ev_198), (16, ev_300), (19, ev_1511), (22, ev_135), (23, ev_925), (24, ev_13), (25, ev_196)]
noncomputable def zi_352_1 : ZIs := [(26, ev_1566), (29, ev_13), (30, ev_739), (33, ev_201), (34, ev_18), (35, ev_1567), (38, ev_1568), (41, ev_575), (43, ev_201), (44, ev_275), (46, ev_276), (48, ev_196), (49, ev_1413), (52, ev_13), (53, ev_276), (55, ev_1569)]
noncomputable def zi_352_2 : ZIs := [(58, ev_502), (60, ev_136), (61, ev_1570), (64, ev_13), (65, ev_276), (67, ev_1569), (70, ev_639), (73, ev_502), (75, ev_575), (77, ev_13), (78, ev_276), (80, ev_1571), (83, ev_275), (85, ev_720), (88, ev_201), (89, ev_275)]
noncomputable def zi_352_3 : ZIs := [(91, ev_276), (93, ev_196), (94, ev_844), (97, ev_13), (98, ev_276), (100, ev_1571), (103, ev_313), (105, ev_13), (106, ev_276), (108, ev_502), (110, ev_1572), (113, ev_314), (115, ev_275), (117, ev_563), (120, ev_485), (121, ev_502)]
noncomputable def zi_352_4 : ZIs := [(123, ev_458), (124, ev_925), (125, ev_13), (126, ev_196), (127, ev_1566), (130, ev_1573), (133, ev_485), (134, ev_482)]
set_option maxRecDepth 100000 in
theorem xi_w352 : zall cX12_most [zi_352_0, zi_352_1, zi_352_2, zi_352_3, zi_352_4] := zall_w _ _ (by decide +kernel)
noncomputable def xi_352 (pc : Nat) : XIs := cond (Nat.blt pc 58) (cond (Nat.blt pc 26) (zx zi_352_0) (zx zi_352_1)) (cond (Nat.blt pc 91) (zx zi_352_2) (cond (Nat.blt pc 123) (zx zi_352_3) (zx zi_352_4)))
theorem xi_ok352 (pc : Nat) : xi_ok cX12_most (xi_352 pc) = true := xi_c (xi_c (zq1 xi_w352) (zq1 (zq2 xi_w352))) (xi_c (zq1 (zq2 (zq2 xi_w352))) (xi_c (zq1 (zq2 (zq2 (zq2 xi_w352)))) (zq1 (zq2 (zq2 (zq2 (zq2 xi_w352)))))))
noncomputable def zi_353_0 : ZIs := [(0, ev_13), (1, ev_196), (2, ev_1337), (5, ev_681), (8, ev_13), (9, ev_201), (10, ev_1337), (13, ev_650), (16, ev_196), (17, ev_201), (18, ev_682), (21, ev_7), (22, ev_134), (25, ev_10), (26, ev_128)]
set_option maxRecDepth 100000 in
theorem xi_w353 : zall cX12_twoNodes [zi_353_0] := zall_w _ _ (by decide +kernel)
noncomputable def xi_353 (pc : Nat) : XIs := zx zi_353_0
theorem xi_ok353 (pc : Nat) : xi_ok cX12_twoNodes (xi_353 pc) = true := zq1 xi_w353
noncomputable def zi_354_0 : ZIs := [(0, ev_13), (1, ev_13), (2, ev_196), (3, ev_201), (4, ev_1574), (7, ev_1177), (10, ev_132), (13, ev_135), (14, ev_199), (17, ev_13), (18, ev_196), (19, ev_201), (20, ev_1575), (23, ev_482)]
set_option maxRecDepth 100000 in
theorem xi_w354 : zall cX12_flow [zi_354_0] := zall_w _ _ (by decide +kernel)
noncomputable def xi_354 (pc : Nat) : XIs := zx zi_354_0
theorem xi_ok354 (pc : Nat) : xi_ok cX12_flow (xi_354 pc) = true := zq1 xi_w354
noncomputable def zi_355_0 : ZIs := [(0, ev_13), (1, ev_13), (2, ev_196), (3, ev_201), (4, ev_1574), (7, ev_772), (10, ev_13), (11, ev_202), (12, ev_1337), (15, ev_132), (18, ev_7), (19, ev_134), (22, ev_10), (23, ev_1177), (26, ev_137), (29, ev_10)]
noncomputable def zi_355_1 : ZIs := [(30, ev_128), (31, ev_13), (32, ev_196), (33, ev_201), (34, ev_1575), (37, ev_443), (39, ev_13), (40, ev_739), (43, ev_202), (44, ev_18), (45, ev_832), (48, ev_7), (49, ev_134), (52, ev_10), (53, ev_128)]
set_option maxRecDepth 100000 in
theorem xi_w355 : zall cX12_side [zi_355_0, zi_355_1] := zall_w _ _ (by decide +kernel)
noncomputable def xi_355 (pc : Nat) : XIs := cond (Nat.blt pc 30) (zx zi_355_0) (zx zi_355_1)
theorem xi_ok355 (pc : Nat) : xi_ok cX12_side (xi_355 pc) = true := xi_c (zq1 xi_w355) (zq1 (zq2 xi_w355))
noncomputable def zi_356_0 : ZIs := [(0, ev_10), (1, ev_294), (2, ev_201), (3, ev_13), (4, ev_1290), (7, ev_944), (10, ev_13), (11, ev_1576), (14, ev_201), (15, ev_1335), (18, ev_198), (19, ev_13), (20, ev_739), (23, ev_201), (24, ev_252), (25, ev_299)]
noncomputable def zi_356_1 : ZIs := [(26, ev_304), (29, ev_360), (32, ev_13), (33, ev_1576), (36, ev_196), (37, ev_135), (38, ev_198), (39, ev_13), (40, ev_739), (43, ev_196), (44, ev_804), (47, ev_299), (48, ev_7), (49, ev_294), (50, ev_201), (51, ev_1577)]
noncomputable def zi_356_2 : ZIs := [(54, ev_10), (55, ev_294), (56, ev_10), (57, ev_295), (58, ev_202), (59, ev_530), (62, ev_1578), (65, ev_13), (66, ev_1293), (69, ev_202), (70, ev_22), (71, ev_11), (73, ev_13), (74, ev_1292), (77, ev_12), (79, ev_1294)]
noncomputable def zi_356_3 : ZIs := [(80, ev_1579), (83, ev_13), (84, ev_1560), (87, ev_202), (88, ev_130), (89, ev_13), (90, ev_466), (93, ev_12), (95, ev_18), (96, ev_179), (97, ev_136), (98, ev_1580), (101, ev_13), (102, ev_1576), (105, ev_13), (106, ev_1304)]
noncomputable def zi_356_4 : ZIs := [(109, ev_12), (111, ev_18), (112, ev_130), (113, ev_1335), (116, ev_136), (117, ev_1581), (120, ev_13), (121, ev_1576), (124, ev_13), (125, ev_1304), (128, ev_12), (130, ev_18), (131, ev_130), (132, ev_13), (133, ev_1040), (136, ev_12)]
noncomputable def zi_356_5 : ZIs := [(138, ev_18), (139, ev_179), (140, ev_458), (141, ev_13), (142, ev_1576), (145, ev_13), (146, ev_1039), (149, ev_12), (151, ev_18), (152, ev_130), (153, ev_136), (154, ev_1582), (157, ev_13), (158, ev_1576), (161, ev_13), (162, ev_1039)]
noncomputable def zi_356_6 : ZIs := [(165, ev_12), (167, ev_18), (168, ev_13), (169, ev_1576), (172, ev_13), (173, ev_1304), (176, ev_12), (178, ev_18), (179, ev_130), (180, ev_13), (181, ev_1040), (184, ev_12), (186, ev_18), (187, ev_179), (188, ev_458), (189, ev_198)]
noncomputable def zi_356_7 : ZIs := [(190, ev_13), (191, ev_739), (194, ev_13), (195, ev_1039), (198, ev_12), (200, ev_18), (201, ev_202), (202, ev_299), (203, ev_7), (204, ev_294), (205, ev_13), (206, ev_1560), (209, ev_202), (210, ev_130), (211, ev_135), (212, ev_136)]
noncomputable def zi_356_8 : ZIs := [(213, ev_1583), (216, ev_13), (217, ev_1576), (220, ev_13), (221, ev_1039), (224, ev_12), (226, ev_18), (227, ev_130), (228, ev_1335), (231, ev_136), (232, ev_1584), (235, ev_13), (236, ev_1576), (239, ev_13), (240, ev_1039), (243, ev_12)]
noncomputable def zi_356_9 : ZIs := [(245, ev_18), (246, ev_130), (247, ev_13), (248, ev_1040), (251, ev_12), (253, ev_18), (254, ev_179), (255, ev_486), (256, ev_13), (257, ev_1576), (260, ev_13), (261, ev_1304), (264, ev_12), (266, ev_18), (267, ev_130), (268, ev_136)]
noncomputable def zi_356_10 : ZIs := [(269, ev_1559), (272, ev_13), (273, ev_1576), (276, ev_13), (277, ev_1304), (280, ev_12), (282, ev_18), (283, ev_13), (284, ev_1576), (287, ev_13), (288, ev_1039), (291, ev_12), (293, ev_18), (294, ev_130), (295, ev_13), (296, ev_1040)]
noncomputable def zi_356_11 : ZIs := [(299, ev_12), (301, ev_18), (302, ev_179), (303, ev_486), (304, ev_198), (305, ev_13), (306, ev_739), (309, ev_13), (310, ev_1304), (313, ev_12), (315, ev_18), (316, ev_1185), (319, ev_202), (320, ev_22), (321, ev_299), (322, ev_7)]
noncomputable def zi_356_12 : ZIs := [(323, ev_294), (324, ev_300), (327, ev_1585), (330, ev_1586), (333, ev_260)]
set_option maxRecDepth 100000 in
theorem xi_w356 : zall cX12_cheapest [zi_356_0, zi_356_1, zi_356_2, zi_356_3, zi_356_4, zi_356_5, zi_356_6, zi_356_7, zi_356_8, zi_356_9, zi_356_10, zi_356_11, zi_356_12] := zall_w _ _ (by decide +kernel)
noncomputable def xi_356 (pc : Nat) : XIs := cond (Nat.blt pc 165) (cond (Nat.blt pc 80) (cond (Nat.blt pc 26) (zx zi_356_0) (cond (Nat.blt pc 54) (zx zi_356_1) (zx zi_356_2))) (cond (Nat.blt pc 109) (zx zi_356_3) (cond (Nat.blt pc 138) (zx zi_356_4) (zx zi_356_5)))) (cond (Nat.blt pc 245) (cond (Nat.blt pc 190) (zx zi_356_6) (cond (Nat.blt pc 213) (zx zi_356_7) (zx zi_356_8))) (cond (Nat.blt pc 299) (cond (Nat.blt pc 269) (zx zi_356_9) (zx zi_356_10)) (cond (Nat.blt pc 323) (zx zi_356_11) (zx zi_356_12))))
theorem xi_ok356 (pc : Nat) : xi_ok cX12_cheapest (xi_356 pc) = true := xi_c (xi_c (xi_c (zq1 xi_w356) (xi_c (zq1 (zq2 xi_w356)) (zq1 (zq2 (zq2 xi_w356))))) (xi_c (zq1 (zq2 (zq2 (zq2 xi_w356)))) (xi_c (zq1 (zq2 (zq2 (zq2 (zq2 xi_w356))))) (zq1 (zq2 (zq2 (zq2 (zq2 (zq2 xi_w356))))))))) (xi_c (xi_c (zq1 (zq2 (zq2 (zq2 (zq2 (zq2 (zq2 xi_w356))))))) (xi_c (zq1 (zq2 (zq2 (zq2 (zq2 (zq2 (zq2 (zq2 xi_w356)))))))) (zq1 (zq2 (zq2 (zq2 (zq2 (zq2 (zq2 (zq2 (zq2 xi_w356))))))))))) (xi_c (xi_c (zq1 (zq2 (zq2 (zq2 (zq2 (zq2 (zq2 (zq2 (zq2 (zq2 xi_w356)))))))))) (zq1 (zq2 (zq2 (zq2 (zq2 (zq2 (zq2 (zq2 (zq2 (zq2 (zq2 xi_w356)))))))))))) (xi_c (zq1 (zq2 (zq2 (zq2 (zq2 (zq2 (zq2 (zq2 (zq2 (zq2 (zq2 (zq2 xi_w356)))))))))))) (zq1 (zq2 (zq2 (zq2 (zq2 (zq2 (zq2 (zq2 (zq2 (zq2 (zq2 (zq2 (zq2 xi_w356))))))))))))))))
noncomputable def zi_357_0 : ZIs := [(0, ev_13), (1, ev_13), (2, ev_196), (3, ev_201), (4, ev_1574), (7, ev_489), (10, ev_202), (11, ev_179), (12, ev_135), (13, ev_1587), (16, ev_1318), (19, ev_132), (22, ev_7), (23, ev_134), (26, ev_10), (27, ev_1177)]
noncomputable def zi_357_1 : ZIs := [(30, ev_137), (33, ev_135), (34, ev_482), (35, ev_10), (36, ev_11), (38, ev_12), (40, ev_13), (41, ev_1290), (44, ev_1588), (47, ev_13), (48, ev_585), (51, ev_12), (53, ev_12), (55, ev_196), (56, ev_541), (59, ev_202)]
noncomputable def zi_357_2 : ZIs := [(60, ev_179), (61, ev_760), (64, ev_12), (66, ev_201), (67, ev_410), (70, ev_202), (71, ev_310), (72, ev_179), (73, ev_134), (76, ev_135), (77, ev_198), (78, ev_348), (81, ev_408), (84, ev_10), (85, ev_11), (87, ev_12)]
noncomputable def zi_357_3 : ZIs := [(89, ev_530), (92, ev_1589), (95, ev_13), (96, ev_1293), (99, ev_12), (101, ev_22), (102, ev_25), (104, ev_13), (105, ev_1560), (108, ev_12), (110, ev_13), (111, ev_1292), (114, ev_126), (116, ev_1294), (117, ev_1436), (120, ev_13)]
noncomputable def zi_357_4 : ZIs := [(121, ev_1040), (124, ev_126), (126, ev_18), (127, ev_1590), (130, ev_13), (131, ev_466), (134, ev_126), (136, ev_18), (137, ev_179), (138, ev_134), (141, ev_135), (142, ev_198), (143, ev_13), (144, ev_1292), (147, ev_126), (149, ev_1294)]
noncomputable def zi_357_5 : ZIs := [(150, ev_983), (153, ev_13), (154, ev_585), (157, ev_13), (158, ev_1304), (161, ev_126), (163, ev_18), (164, ev_316), (165, ev_130), (166, ev_13), (167, ev_1560), (170, ev_12), (172, ev_130), (173, ev_486), (174, ev_198), (175, ev_13)]
noncomputable def zi_357_6 : ZIs := [(176, ev_585), (179, ev_13), (180, ev_1039), (183, ev_126), (185, ev_18), (186, ev_316), (187, ev_130), (188, ev_13), (189, ev_1560), (192, ev_12), (194, ev_130), (195, ev_458), (196, ev_198), (197, ev_348), (200, ev_1591), (203, ev_7)]
noncomputable def zi_357_7 : ZIs := [(204, ev_11), (206, ev_10), (207, ev_25), (209, ev_126), (211, ev_13), (212, ev_1290), (215, ev_512), (218, ev_12), (220, ev_1071), (223, ev_13), (224, ev_585), (227, ev_126), (229, ev_130), (230, ev_135), (231, ev_136), (232, ev_747)]
noncomputable def zi_357_8 : ZIs := [(235, ev_12), (237, ev_1005), (240, ev_13), (241, ev_126), (243, ev_1592), (246, ev_11), (248, ev_319), (251, ev_343), (254, ev_731), (257, ev_135), (258, ev_575), (260, ev_10), (261, ev_275), (263, ev_276), (265, ev_530), (268, ev_1593)]
noncomputable def zi_357_9 : ZIs := [(271, ev_502), (273, ev_13), (274, ev_1292), (277, ev_13), (278, ev_1293), (281, ev_276), (283, ev_22), (284, ev_1294), (285, ev_562), (288, ev_13), (289, ev_1560), (292, ev_276), (294, ev_130), (295, ev_13), (296, ev_1040), (299, ev_13)]
noncomputable def zi_357_10 : ZIs := [(300, ev_1293), (303, ev_276), (305, ev_22), (306, ev_18), (307, ev_179), (308, ev_493), (309, ev_134), (312, ev_135), (313, ev_458), (314, ev_575), (316, ev_956), (319, ev_504), (322, ev_12), (324, ev_330), (327, ev_502), (329, ev_213)]
noncomputable def zi_357_11 : ZIs := [(332, ev_1335), (335, ev_482)]
set_option maxRecDepth 100000 in
theorem xi_w357 : zall cX12_cost [zi_357_0, zi_357_1, zi_357_2, zi_357_3, zi_357_4, zi_357_5, zi_357_6, zi_357_7, zi_357_8, zi_357_9, zi_357_10, zi_357_11] := zall_w _ _ (by decide +kernel)
noncomputable def xi_357 (pc : Nat) : XIs := cond (Nat.blt pc 176) (cond (Nat.blt pc 89) (cond (Nat.blt pc 30) (zx zi_357_0) (cond (Nat.blt pc 60) (zx zi_357_1) (zx zi_357_2))) (cond (Nat.blt pc 121) (zx zi_357_3) (cond (Nat.blt pc 150) (zx zi_357_4) (zx zi_357_5)))) (cond (Nat.blt pc 271) (cond (Nat.blt pc 204) (zx zi_357_6) (cond (Nat.blt pc 235) (zx zi_357_7) (zx zi_357_8))) (cond (Nat.blt pc 300) (zx zi_357_9) (cond (Nat.blt pc 332) (zx zi_357_10) (zx zi_357_11))))
theorem xi_ok357 (pc : Nat) : xi_ok cX12_cost (xi_357 pc) = true := xi_c (xi_c (xi_c (zq1 xi_w357) (xi_c (zq1 (zq2 xi_w357)) (zq1 (zq2 (zq2 xi_w357))))) (xi_c (zq1 (zq2 (zq2 (zq2 xi_w357)))) (xi_c (zq1 (zq2 (zq2 (zq2 (zq2 xi_w357))))) (zq1 (zq2 (zq2 (zq2 (zq2 (zq2 xi_w357))))))))) (xi_c (xi_c (zq1 (zq2 (zq2 (zq2 (zq2 (zq2 (zq2 xi_w357))))))) (xi_c (zq1 (zq2 (zq2 (zq2 (zq2 (zq2 (zq2 (zq2 xi_w357)))))))) (zq1 (zq2 (zq2 (zq2 (zq2 (zq2 (zq2 (zq2 (zq2 xi_w357))))))))))) (xi_c (zq1 (zq2 (zq2 (zq2 (zq2 (zq2 (zq2 (zq2 (zq2 (zq2 xi_w357)))))))))) (xi_c (zq1 (zq2 (zq2 (zq2 (zq2 (zq2 (zq2 (zq2 (zq2 (zq2 (zq2 xi_w357))))))))))) (zq1 (zq2 (zq2 (zq2 (zq2 (zq2 (zq2 (zq2 (zq2 (zq2 (zq2 (zq2 xi_w357)))))))))))))))
noncomputable def zi_358_0 : ZIs := [(0, ev_13), (1, ev_196), (2, ev_1594), (5, ev_252), (6, ev_294), (7, ev_10), (8, ev_295), (9, ev_202), (10, ev_13), (11, ev_1290), (14, ev_1595), (17, ev_13), (18, ev_585), (21, ev_202), (22, ev_130), (23, ev_135)]
noncomputable def zi_358_1 : ZIs := [(24, ev_136), (25, ev_1596), (28, ev_13), (29, ev_1576), (32, ev_202), (33, ev_130), (34, ev_1335), (37, ev_136), (38, ev_1597), (41, ev_201), (42, ev_1598), (45, ev_13), (46, ev_1576), (49, ev_202), (50, ev_130), (51, ev_13)]
noncomputable def zi_358_2 : ZIs := [(52, ev_1576), (55, ev_201), (56, ev_130), (57, ev_136), (58, ev_487), (61, ev_202), (62, ev_134), (65, ev_201), (66, ev_294), (67, ev_300), (70, ev_402), (73, ev_201), (74, ev_1550), (77, ev_10), (78, ev_128), (79, ev_13)]
noncomputable def zi_358_3 : ZIs := [(80, ev_585), (83, ev_196), (84, ev_130), (85, ev_13), (86, ev_585), (89, ev_201), (90, ev_130), (91, ev_477), (92, ev_136), (93, ev_1570), (96, ev_13), (97, ev_585), (100, ev_196), (101, ev_130), (102, ev_634), (105, ev_13)]
noncomputable def zi_358_4 : ZIs := [(106, ev_585), (109, ev_201), (110, ev_130), (111, ev_477), (112, ev_925), (113, ev_201), (114, ev_25), (116, ev_126), (118, ev_196), (119, ev_1599), (122, ev_13), (123, ev_126), (125, ev_1569), (128, ev_485), (129, ev_136), (130, ev_1570)]
noncomputable def zi_358_5 : ZIs := [(133, ev_13), (134, ev_126), (136, ev_1569), (139, ev_134), (142, ev_485), (143, ev_925), (144, ev_13), (145, ev_126), (147, ev_1571), (150, ev_25), (152, ev_1016), (155, ev_201), (156, ev_25), (158, ev_126), (160, ev_196), (161, ev_1383)]
noncomputable def zi_358_6 : ZIs := [(164, ev_13), (165, ev_126), (167, ev_1571), (170, ev_28), (172, ev_13), (173, ev_126), (175, ev_485), (176, ev_1572), (179, ev_131), (181, ev_25), (183, ev_319), (186, ev_13), (187, ev_585), (190, ev_196), (191, ev_316), (192, ev_130)]
noncomputable def zi_358_7 : ZIs := [(193, ev_485), (194, ev_486), (195, ev_198), (196, ev_13), (197, ev_585), (200, ev_201), (201, ev_316), (202, ev_130), (203, ev_485), (204, ev_458), (205, ev_198), (206, ev_7), (207, ev_128)]
set_option maxRecDepth 100000 in
theorem xi_w358 : zall cX12_sends [zi_358_0, zi_358_1, zi_358_2, zi_358_3, zi_358_4, zi_358_5, zi_358_6, zi_358_7] := zall_w _ _ (by decide +kernel)
noncomputable def xi_358 (pc : Nat) : XIs := cond (Nat.blt pc 106) (cond (Nat.blt pc 52) (cond (Nat.blt pc 24) (zx zi_358_0) (zx zi_358_1)) (cond (Nat.blt pc 80) (zx zi_358_2) (zx zi_358_3))) (cond (Nat.blt pc 164) (cond (Nat.blt pc 133) (zx zi_358_4) (zx zi_358_5)) (cond (Nat.blt pc 193) (zx zi_358_6) (zx zi_358_7)))
theorem xi_ok358 (pc : Nat) : xi_ok cX12_sends (xi_358 pc) = true := xi_c (xi_c (xi_c (zq1 xi_w358) (zq1 (zq2 xi_w358))) (xi_c (zq1 (zq2 (zq2 xi_w358))) (zq1 (zq2 (zq2 (zq2 xi_w358)))))) (xi_c (xi_c (zq1 (zq2 (zq2 (zq2 (zq2 xi_w358))))) (zq1 (zq2 (zq2 (zq2 (zq2 (zq2 xi_w358))))))) (xi_c (zq1 (zq2 (zq2 (zq2 (zq2 (zq2 (zq2 xi_w358))))))) (zq1 (zq2 (zq2 (zq2 (zq2 (zq2 (zq2 (zq2 xi_w358))))))))))
noncomputable def zi_359_0 : ZIs := [(0, ev_13), (1, ev_1300), (4, ev_180), (6, ev_13), (7, ev_1163), (10, ev_355), (11, ev_196), (12, ev_22), (13, ev_18), (14, ev_656), (16, ev_657), (19, ev_7), (20, ev_134), (23, ev_10), (24, ev_128)]
set_option maxRecDepth 100000 in
theorem xi_w359 : zall cX12_isFirstSort [zi_359_0] := zall_w _ _ (by decide +kernel)
noncomputable def xi_359 (pc : Nat) : XIs := zx zi_359_0
theorem xi_ok359 (pc : Nat) : xi_ok cX12_isFirstSort (xi_359 pc) = true := zq1 xi_w359
noncomputable def zi_360_0 : ZIs := [(0, ev_10), (1, ev_686), (2, ev_196), (3, ev_529), (6, ev_1490), (9, ev_13), (10, ev_447), (13, ev_196), (14, ev_1335), (17, ev_198), (18, ev_689), (21, ev_334), (24, ev_10), (25, ev_686), (26, ev_196), (27, ev_530)]
noncomputable def zi_360_1 : ZIs := [(30, ev_1600), (33, ev_13), (34, ev_196), (35, ev_1180), (38, ev_1601), (41, ev_13), (42, ev_1304), (45, ev_13), (46, ev_1293), (49, ev_196), (50, ev_22), (51, ev_18), (52, ev_294), (53, ev_13), (54, ev_1039), (57, ev_13)]
noncomputable def zi_360_2 : ZIs := [(58, ev_1293), (61, ev_196), (62, ev_22), (63, ev_18), (64, ev_295), (65, ev_13), (66, ev_201), (67, ev_1602), (70, ev_13), (71, ev_202), (72, ev_1602), (75, ev_1603), (78, ev_13), (79, ev_201), (80, ev_1602), (83, ev_650)]
noncomputable def zi_360_3 : ZIs := [(86, ev_180), (88, ev_201), (89, ev_355), (90, ev_202), (91, ev_22), (92, ev_199), (95, ev_180), (97, ev_202), (98, ev_355), (99, ev_201), (100, ev_22), (101, ev_11), (103, ev_13), (104, ev_447), (107, ev_12), (109, ev_13)]
noncomputable def zi_360_4 : ZIs := [(110, ev_1040), (113, ev_13), (114, ev_1293), (117, ev_196), (118, ev_22), (119, ev_18), (120, ev_179), (121, ev_13), (122, ev_447), (125, ev_12), (127, ev_130), (128, ev_136), (129, ev_1604), (132, ev_13), (133, ev_1040), (136, ev_13)]
noncomputable def zi_360_5 : ZIs := [(137, ev_1293), (140, ev_196), (141, ev_22), (142, ev_18), (143, ev_179), (144, ev_634), (147, ev_13), (148, ev_447), (151, ev_12), (153, ev_130), (154, ev_198), (155, ev_689), (158, ev_1605), (161, ev_10), (162, ev_686), (163, ev_196)]
noncomputable def zi_360_6 : ZIs := [(164, ev_13), (165, ev_1290), (168, ev_1115), (171, ev_13), (172, ev_591), (175, ev_196), (176, ev_252), (177, ev_299), (178, ev_689), (181, ev_1478), (184, ev_7), (185, ev_686), (186, ev_196), (187, ev_1364), (190, ev_13), (191, ev_1606)]
noncomputable def zi_360_7 : ZIs := [(194, ev_294), (195, ev_201), (196, ev_832), (199, ev_7), (200, ev_134), (203, ev_10), (204, ev_686), (205, ev_201), (206, ev_1607), (209, ev_13), (210, ev_739), (213, ev_201), (214, ev_18), (215, ev_295), (216, ev_13), (217, ev_591)]
noncomputable def zi_360_8 : ZIs := [(220, ev_202), (221, ev_18), (222, ev_11), (224, ev_13), (225, ev_591), (228, ev_202), (229, ev_201), (230, ev_299), (231, ev_13), (232, ev_591), (235, ev_201), (236, ev_202), (237, ev_299), (238, ev_12), (240, ev_294), (241, ev_1016)]
noncomputable def zi_360_9 : ZIs := [(244, ev_357), (247, ev_260)]
set_option maxRecDepth 100000 in
theorem xi_w360 : zall cX12_pairUp [zi_360_0, zi_360_1, zi_360_2, zi_360_3, zi_360_4, zi_360_5, zi_360_6, zi_360_7, zi_360_8, zi_360_9] := zall_w _ _ (by decide +kernel)
noncomputable def xi_360 (pc : Nat) : XIs := cond (Nat.blt pc 137) (cond (Nat.blt pc 58) (cond (Nat.blt pc 30) (zx zi_360_0) (zx zi_360_1)) (cond (Nat.blt pc 86) (zx zi_360_2) (cond (Nat.blt pc 110) (zx zi_360_3) (zx zi_360_4)))) (cond (Nat.blt pc 194) (cond (Nat.blt pc 164) (zx zi_360_5) (zx zi_360_6)) (cond (Nat.blt pc 220) (zx zi_360_7) (cond (Nat.blt pc 244) (zx zi_360_8) (zx zi_360_9))))
theorem xi_ok360 (pc : Nat) : xi_ok cX12_pairUp (xi_360 pc) = true := xi_c (xi_c (xi_c (zq1 xi_w360) (zq1 (zq2 xi_w360))) (xi_c (zq1 (zq2 (zq2 xi_w360))) (xi_c (zq1 (zq2 (zq2 (zq2 xi_w360)))) (zq1 (zq2 (zq2 (zq2 (zq2 xi_w360)))))))) (xi_c (xi_c (zq1 (zq2 (zq2 (zq2 (zq2 (zq2 xi_w360)))))) (zq1 (zq2 (zq2 (zq2 (zq2 (zq2 (zq2 xi_w360)))))))) (xi_c (zq1 (zq2 (zq2 (zq2 (zq2 (zq2 (zq2 (zq2 xi_w360)))))))) (xi_c (zq1 (zq2 (zq2 (zq2 (zq2 (zq2 (zq2 (zq2 (zq2 xi_w360))))))))) (zq1 (zq2 (zq2 (zq2 (zq2 (zq2 (zq2 (zq2 (zq2 (zq2 xi_w360)))))))))))))
noncomputable def zi_361_0 : ZIs := [(0, ev_10), (1, ev_686), (2, ev_196), (3, ev_13), (4, ev_1290), (7, ev_722), (10, ev_13), (11, ev_1576), (14, ev_196), (15, ev_13), (16, ev_196), (17, ev_1602), (20, ev_417), (23, ev_13), (24, ev_591), (27, ev_196)]
noncomputable def zi_361_1 : ZIs := [(28, ev_18), (29, ev_487), (32, ev_135), (33, ev_213), (36, ev_1335), (39, ev_198), (40, ev_13), (41, ev_739), (44, ev_196), (45, ev_252), (46, ev_299), (47, ev_689), (50, ev_571), (53, ev_7), (54, ev_686), (55, ev_196)]
noncomputable def zi_361_2 : ZIs := [(56, ev_1608), (59, ev_10), (60, ev_686), (61, ev_10), (62, ev_294), (63, ev_201), (64, ev_529), (67, ev_1609), (70, ev_201), (71, ev_180), (73, ev_583), (74, ev_295), (75, ev_201), (76, ev_180), (78, ev_509), (79, ev_11)]
noncomputable def zi_361_3 : ZIs := [(81, ev_13), (82, ev_447), (85, ev_201), (86, ev_130), (87, ev_1335), (90, ev_136), (91, ev_1610), (94, ev_13), (95, ev_1576), (98, ev_202), (99, ev_130), (100, ev_1335), (103, ev_136), (104, ev_1611), (107, ev_13), (108, ev_591)]
noncomputable def zi_361_4 : ZIs := [(111, ev_202), (112, ev_18), (113, ev_12), (115, ev_1612), (118, ev_13), (119, ev_1576), (122, ev_202), (123, ev_130), (124, ev_13), (125, ev_447), (128, ev_201), (129, ev_130), (130, ev_458), (131, ev_13), (132, ev_1576), (135, ev_12)]
noncomputable def zi_361_5 : ZIs := [(137, ev_130), (138, ev_136), (139, ev_1613), (142, ev_13), (143, ev_1576), (146, ev_12), (148, ev_13), (149, ev_1576), (152, ev_202), (153, ev_130), (154, ev_13), (155, ev_447), (158, ev_201), (159, ev_130), (160, ev_458), (161, ev_198)]
noncomputable def zi_361_6 : ZIs := [(162, ev_13), (163, ev_739), (166, ev_12), (168, ev_202), (169, ev_299), (170, ev_7), (171, ev_686), (172, ev_13), (173, ev_591), (176, ev_12), (178, ev_18), (179, ev_1614), (182, ev_13), (183, ev_1576), (186, ev_13), (187, ev_591)]
noncomputable def zi_361_7 : ZIs := [(190, ev_12), (192, ev_18), (193, ev_13), (194, ev_1576), (197, ev_12), (199, ev_130), (200, ev_13), (201, ev_447), (204, ev_180), (206, ev_13), (207, ev_591), (210, ev_12), (212, ev_18), (213, ev_355), (214, ev_12), (216, ev_22)]
noncomputable def zi_361_8 : ZIs := [(217, ev_130), (218, ev_486), (219, ev_198), (220, ev_304), (223, ev_1425), (226, ev_1615), (229, ev_252), (230, ev_294), (231, ev_10), (232, ev_295), (233, ev_202), (234, ev_13), (235, ev_1290), (238, ev_1397), (241, ev_13), (242, ev_202)]
noncomputable def zi_361_9 : ZIs := [(243, ev_1602), (246, ev_1616), (249, ev_13), (250, ev_591), (253, ev_202), (254, ev_18), (255, ev_601), (258, ev_13), (259, ev_1576), (262, ev_202), (263, ev_130), (264, ev_1335), (267, ev_136), (268, ev_487), (271, ev_7), (272, ev_134)]
noncomputable def zi_361_10 : ZIs := [(275, ev_10), (276, ev_11), (278, ev_12), (280, ev_562), (283, ev_201), (284, ev_1598), (287, ev_13), (288, ev_1576), (291, ev_202), (292, ev_130), (293, ev_13), (294, ev_1576), (297, ev_201), (298, ev_130), (299, ev_136), (300, ev_487)]
noncomputable def zi_361_11 : ZIs := [(303, ev_202), (304, ev_134), (307, ev_201), (308, ev_294), (309, ev_300), (312, ev_564), (315, ev_201), (316, ev_128)]
set_option maxRecDepth 100000 in
theorem xi_w361 : zall cX12_cheapestPair [zi_361_0, zi_361_1, zi_361_2, zi_361_3, zi_361_4, zi_361_5, zi_361_6, zi_361_7, zi_361_8, zi_361_9, zi_361_10, zi_361_11] := zall_w _ _ (by decide +kernel)
noncomputable def xi_361 (pc : Nat) : XIs := cond (Nat.blt pc 162) (cond (Nat.blt pc 81) (cond (Nat.blt pc 28) (zx zi_361_0) (cond (Nat.blt pc 56) (zx zi_361_1) (zx zi_361_2))) (cond (Nat.blt pc 111) (zx zi_361_3) (cond (Nat.blt pc 137) (zx zi_361_4) (zx zi_361_5)))) (cond (Nat.blt pc 243) (cond (Nat.blt pc 190) (zx zi_361_6) (cond (Nat.blt pc 217) (zx zi_361_7) (zx zi_361_8))) (cond (Nat.blt pc 275) (zx zi_361_9) (cond (Nat.blt pc 303) (zx zi_361_10) (zx zi_361_11))))
theorem xi_ok361 (pc : Nat) : xi_ok cX12_cheapestPair (xi_361 pc) = true := xi_c (xi_c (xi_c (zq1 xi_w361) (xi_c (zq1 (zq2 xi_w361)) (zq1 (zq2 (zq2 xi_w361))))) (xi_c (zq1 (zq2 (zq2 (zq2 xi_w361)))) (xi_c (zq1 (zq2 (zq2 (zq2 (zq2 xi_w361))))) (zq1 (zq2 (zq2 (zq2 (zq2 (zq2 xi_w361))))))))) (xi_c (xi_c (zq1 (zq2 (zq2 (zq2 (zq2 (zq2 (zq2 xi_w361))))))) (xi_c (zq1 (zq2 (zq2 (zq2 (zq2 (zq2 (zq2 (zq2 xi_w361)))))))) (zq1 (zq2 (zq2 (zq2 (zq2 (zq2 (zq2 (zq2 (zq2 xi_w361))))))))))) (xi_c (zq1 (zq2 (zq2 (zq2 (zq2 (zq2 (zq2 (zq2 (zq2 (zq2 xi_w361)))))))))) (xi_c (zq1 (zq2 (zq2 (zq2 (zq2 (zq2 (zq2 (zq2 (zq2 (zq2 (zq2 xi_w361))))))))))) (zq1 (zq2 (zq2 (zq2 (zq2 (zq2 (zq2 (zq2 (zq2 (zq2 (zq2 (zq2 xi_w361)))))))))))))))
noncomputable def zi_362_0 : ZIs := [(0, ev_13), (1, ev_196), (2, ev_179), (3, ev_135), (4, ev_133), (5, ev_1318), (8, ev_1177), (11, ev_137), (14, ev_135), (15, ev_482), (16, ev_13), (17, ev_1617), (20, ev_135), (21, ev_518), (22, ev_135), (23, ev_443)]
noncomputable def zi_362_1 : ZIs := [(25, ev_10), (26, ev_28), (28, ev_131), (30, ev_13), (31, ev_1290), (34, ev_939), (37, ev_13), (38, ev_131), (40, ev_1602), (43, ev_868), (46, ev_13), (47, ev_591), (50, ev_131), (52, ev_18), (53, ev_1618), (56, ev_490)]
noncomputable def zi_362_2 : ZIs := [(57, ev_133), (58, ev_458), (59, ev_518), (60, ev_247), (62, ev_13), (63, ev_447), (66, ev_180), (68, ev_131), (70, ev_355), (71, ev_13), (72, ev_591), (75, ev_131), (77, ev_18), (78, ev_22), (79, ev_130), (80, ev_458)]
noncomputable def zi_362_3 : ZIs := [(81, ev_443), (83, ev_320), (86, ev_357), (89, ev_196), (90, ev_326), (93, ev_490), (94, ev_639), (97, ev_247), (99, ev_482)]
set_option maxRecDepth 100000 in
theorem xi_w362 : zall cX12_pairing [zi_362_0, zi_362_1, zi_362_2, zi_362_3] := zall_w _ _ (by decide +kernel)
noncomputable def xi_362 (pc : Nat) : XIs := cond (Nat.blt pc 57) (cond (Nat.blt pc 25) (zx zi_362_0) (zx zi_362_1)) (cond (Nat.blt pc 81) (zx zi_362_2) (zx zi_362_3))
theorem xi_ok362 (pc : Nat) : xi_ok cX12_pairing (xi_362 pc) = true := xi_c (xi_c (zq1 xi_w362) (zq1 (zq2 xi_w362))) (xi_c (zq1 (zq2 (zq2 xi_w362))) (zq1 (zq2 (zq2 (zq2 xi_w362)))))
noncomputable def zi_363_0 : ZIs := [(0, ev_13), (1, ev_13), (2, ev_196), (3, ev_1337), (6, ev_1177), (9, ev_137), (12, ev_135), (13, ev_482), (14, ev_10), (15, ev_294), (16, ev_10), (17, ev_295), (18, ev_202), (19, ev_530), (22, ev_816), (25, ev_13)]
noncomputable def zi_363_1 : ZIs := [(26, ev_202), (27, ev_1180), (30, ev_1619), (33, ev_13), (34, ev_451), (37, ev_201), (38, ev_13), (39, ev_1304), (42, ev_13), (43, ev_1293), (46, ev_202), (47, ev_22), (48, ev_18), (49, ev_299), (50, ev_13), (51, ev_453)]
noncomputable def zi_363_2 : ZIs := [(54, ev_201), (55, ev_13), (56, ev_1039), (59, ev_13), (60, ev_1293), (63, ev_202), (64, ev_22), (65, ev_18), (66, ev_299), (67, ev_13), (68, ev_457), (71, ev_201), (72, ev_13), (73, ev_1040), (76, ev_13), (77, ev_1293)]
noncomputable def zi_363_3 : ZIs := [(80, ev_202), (81, ev_22), (82, ev_18), (83, ev_179), (84, ev_198), (85, ev_304), (88, ev_300), (91, ev_1340), (94, ev_13), (95, ev_1290), (98, ev_295), (99, ev_196), (100, ev_11), (102, ev_135), (103, ev_575), (105, ev_202)]
noncomputable def zi_363_4 : ZIs := [(106, ev_7), (107, ev_1620), (110, ev_10), (111, ev_275), (113, ev_276), (115, ev_202), (116, ev_684), (119, ev_13), (120, ev_1621), (123, ev_276), (125, ev_252), (126, ev_299), (127, ev_956), (130, ev_1511), (133, ev_10), (134, ev_275)]
noncomputable def zi_363_5 : ZIs := [(136, ev_276), (138, ev_201), (139, ev_1622), (142, ev_13), (143, ev_451), (146, ev_276), (148, ev_18), (149, ev_13), (150, ev_453), (153, ev_276), (155, ev_18), (156, ev_1623), (159, ev_13), (160, ev_1621), (163, ev_13), (164, ev_453)]
noncomputable def zi_363_6 : ZIs := [(167, ev_276), (169, ev_18), (170, ev_18), (171, ev_1624), (174, ev_13), (175, ev_457), (178, ev_276), (180, ev_130), (181, ev_13), (182, ev_457), (185, ev_13), (186, ev_1621), (189, ev_13), (190, ev_453), (193, ev_276), (195, ev_18)]
noncomputable def zi_363_7 : ZIs := [(196, ev_18), (197, ev_130), (198, ev_136), (199, ev_487), (202, ev_7), (203, ev_134), (206, ev_10), (207, ev_313), (209, ev_13), (210, ev_1621), (213, ev_13), (214, ev_453), (217, ev_276), (219, ev_18), (220, ev_314), (222, ev_330)]
noncomputable def zi_363_8 : ZIs := [(225, ev_276), (227, ev_440), (230, ev_13), (231, ev_1621), (234, ev_13), (235, ev_453), (238, ev_276), (240, ev_18), (241, ev_18), (242, ev_299), (243, ev_956), (246, ev_1485), (249, ev_10), (250, ev_275), (252, ev_276), (254, ev_202)]
noncomputable def zi_363_9 : ZIs := [(255, ev_816), (258, ev_276), (260, ev_12), (262, ev_901), (265, ev_13), (266, ev_1621), (269, ev_276), (271, ev_18), (272, ev_487), (275, ev_1335), (278, ev_482), (279, ev_13), (280, ev_1625), (283, ev_276), (285, ev_276), (287, ev_12)]
noncomputable def zi_363_10 : ZIs := [(289, ev_819), (292, ev_135), (293, ev_440), (296, ev_13), (297, ev_457), (300, ev_13), (301, ev_1621), (304, ev_276), (306, ev_18), (307, ev_130), (308, ev_198), (309, ev_502), (311, ev_13), (312, ev_1625), (315, ev_276), (317, ev_130)]
noncomputable def zi_363_11 : ZIs := [(318, ev_458), (319, ev_575), (321, ev_956), (324, ev_984), (327, ev_13), (328, ev_202), (329, ev_12), (331, ev_1626), (334, ev_275), (336, ev_276), (338, ev_202), (339, ev_775), (342, ev_502), (344, ev_482), (345, ev_10), (346, ev_313)]
noncomputable def zi_363_12 : ZIs := [(348, ev_314), (350, ev_201), (351, ev_637), (354, ev_13), (355, ev_453), (358, ev_314), (360, ev_18), (361, ev_327), (363, ev_13), (364, ev_457), (367, ev_314), (369, ev_316), (370, ev_130), (371, ev_13), (372, ev_451), (375, ev_314)]
noncomputable def zi_363_13 : ZIs := [(377, ev_18), (378, ev_329), (380, ev_619), (383, ev_329), (385, ev_12), (387, ev_1386), (390, ev_13), (391, ev_1625), (394, ev_329), (396, ev_130), (397, ev_134), (400, ev_135), (401, ev_486), (402, ev_198), (403, ev_13), (404, ev_451)]
noncomputable def zi_363_14 : ZIs := [(407, ev_314), (409, ev_13), (410, ev_1627), (413, ev_13), (414, ev_451), (417, ev_314), (419, ev_18), (420, ev_18), (421, ev_299), (422, ev_13), (423, ev_453), (426, ev_314), (428, ev_13), (429, ev_1627), (432, ev_329), (434, ev_18)]
noncomputable def zi_363_15 : ZIs := [(435, ev_299), (436, ev_318), (439, ev_1628), (442, ev_13), (443, ev_1627), (446, ev_12), (448, ev_18), (449, ev_11), (451, ev_276), (453, ev_295), (454, ev_1629), (457, ev_502), (459, ev_482)]
set_option maxRecDepth 100000 in
theorem xi_w363 : zall cX12_tree [zi_363_0, zi_363_1, zi_363_2, zi_363_3, zi_363_4, zi_363_5, zi_363_6, zi_363_7, zi_363_8, zi_363_9, zi_363_10, zi_363_11, zi_363_12, zi_363_13, zi_363_14, zi_363_15] := zall_w _ _ (by decide +kernel)
noncomputable def xi_363 (pc : Nat) : XIs := cond (Nat.blt pc 225) (cond (Nat.blt pc 106) (cond (Nat.blt pc 54) (cond (Nat.blt pc 26) (zx zi_363_0) (zx zi_363_1)) (cond (Nat.blt pc 80) (zx zi_363_2) (zx zi_363_3))) (cond (Nat.blt pc 167) (cond (Nat.blt pc 136) (zx zi_363_4) (zx zi_363_5)) (cond (Nat.blt pc 196) (zx zi_363_6) (zx zi_363_7)))) (cond (Nat.blt pc 348) (cond (Nat.blt pc 289) (cond (Nat.blt pc 255) (zx zi_363_8) (zx zi_363_9)) (cond (Nat.blt pc 318) (zx zi_363_10) (zx zi_363_11))) (cond (Nat.blt pc 407) (cond (Nat.blt pc 377) (zx zi_363_12) (zx zi_363_13)) (cond (Nat.blt pc 435) (zx zi_363_14) (zx zi_363_15))))
theorem xi_ok363 (pc : Nat) : xi_ok cX12_tree (xi_363 pc) = true := xi_c (xi_c (xi_c (xi_c (zq1 xi_w363) (zq1 (zq2 xi_w363))) (xi_c (zq1 (zq2 (zq2 xi_w363))) (zq1 (zq2 (zq2 (zq2 xi_w363)))))) (xi_c (xi_c (zq1 (zq2 (zq2 (zq2 (zq2 xi_w363))))) (zq1 (zq2 (zq2 (zq2 (zq2 (zq2 xi_w363))))))) (xi_c (zq1 (zq2 (zq2 (zq2 (zq2 (zq2 (zq2 xi_w363))))))) (zq1 (zq2 (zq2 (zq2 (zq2 (zq2 (zq2 (zq2 xi_w363))))))))))) (xi_c (xi_c (xi_c (zq1 (zq2 (zq2 (zq2 (zq2 (zq2 (zq2 (zq2 (zq2 xi_w363))))))))) (zq1 (zq2 (zq2 (zq2 (zq2 (zq2 (zq2 (zq2 (zq2 (zq2 xi_w363))))))))))) (xi_c (zq1 (zq2 (zq2 (zq2 (zq2 (zq2 (zq2 (zq2 (zq2 (zq2 (zq2 xi_w363))))))))))) (zq1 (zq2 (zq2 (zq2 (zq2 (zq2 (zq2 (zq2 (zq2 (zq2 (zq2 (zq2 xi_w363)))))))))))))) (xi_c (xi_c (zq1 (zq2 (zq2 (zq2 (zq2 (zq2 (zq2 (zq2 (zq2 (zq2 (zq2 (zq2 (zq2 xi_w363))))))))))))) (zq1 (zq2 (zq2 (zq2 (zq2 (zq2 (zq2 (zq2 (zq2 (zq2 (zq2 (zq2 (zq2 (zq2 xi_w363))))))))))))))) (xi_c (zq1 (zq2 (zq2 (zq2 (zq2 (zq2 (zq2 (zq2 (zq2 (zq2 (zq2 (zq2 (zq2 (zq2 (zq2 xi_w363))))))))))))))) (zq1 (zq2 (zq2 (zq2 (zq2 (zq2 (zq2 (zq2 (zq2 (zq2 (zq2 (zq2 (zq2 (zq2 (zq2 (zq2 xi_w363)))))))))))))))))))
noncomputable def zi_364_0 : ZIs := [(0, ev_10), (1, ev_295), (2, ev_202), (3, ev_196), (4, ev_346), (7, ev_13), (8, ev_1627), (11, ev_202), (12, ev_252), (13, ev_299), (14, ev_13), (15, ev_1630), (18, ev_202), (19, ev_252), (20, ev_299), (21, ev_300)]
noncomputable def zi_364_1 : ZIs := [(24, ev_625), (27, ev_10), (28, ev_295), (29, ev_10), (30, ev_11), (32, ev_12), (34, ev_196), (35, ev_1631), (38, ev_12), (40, ev_25), (42, ev_126), (44, ev_201), (45, ev_741), (48, ev_13), (49, ev_1630), (52, ev_126)]
noncomputable def zi_364_2 : ZIs := [(54, ev_18), (55, ev_1632), (58, ev_13), (59, ev_1627), (62, ev_126), (64, ev_18), (65, ev_1633), (68, ev_13), (69, ev_1630), (72, ev_126), (74, ev_12), (76, ev_299), (77, ev_13), (78, ev_451), (81, ev_13), (82, ev_1621)]
noncomputable def zi_364_3 : ZIs := [(85, ev_126), (87, ev_18), (88, ev_18), (89, ev_25), (91, ev_654), (94, ev_126), (96, ev_201), (97, ev_701), (100, ev_13), (101, ev_1627), (104, ev_126), (106, ev_18), (107, ev_1634), (110, ev_13), (111, ev_1630), (114, ev_126)]
noncomputable def zi_364_4 : ZIs := [(116, ev_18), (117, ev_12), (119, ev_1635), (122, ev_126), (124, ev_28), (126, ev_13), (127, ev_1627), (130, ev_131), (132, ev_18), (133, ev_746), (136, ev_13), (137, ev_1627), (140, ev_131), (142, ev_202), (143, ev_299), (144, ev_13)]
noncomputable def zi_364_5 : ZIs := [(145, ev_451), (148, ev_13), (149, ev_1621), (152, ev_131), (154, ev_18), (155, ev_18), (156, ev_28), (158, ev_694), (161, ev_300), (164, ev_348), (167, ev_1636), (170, ev_10), (171, ev_11), (173, ev_12), (175, ev_196), (176, ev_930)]
noncomputable def zi_364_6 : ZIs := [(179, ev_13), (180, ev_1627), (183, ev_12), (185, ev_18), (186, ev_1590), (189, ev_13), (190, ev_1627), (193, ev_12), (195, ev_202), (196, ev_299), (197, ev_300), (200, ev_348), (203, ev_646), (206, ev_202), (207, ev_128)]
set_option maxRecDepth 100000 in
theorem xi_w364 : zall cX12_rings [zi_364_0, zi_364_1, zi_364_2, zi_364_3, zi_364_4, zi_364_5, zi_364_6] := zall_w _ _ (by decide +kernel)
noncomputable def xi_364 (pc : Nat) : XIs := cond (Nat.blt pc 85) (cond (Nat.blt pc 24) (zx zi_364_0) (cond (Nat.blt pc 54) (zx zi_364_1) (zx zi_364_2))) (cond (Nat.blt pc 145) (cond (Nat.blt pc 116) (zx zi_364_3) (zx zi_364_4)) (cond (Nat.blt pc 179) (zx zi_364_5) (zx zi_364_6)))
theorem xi_ok364 (pc : Nat) : xi_ok cX12_rings (xi_364 pc) = true := xi_c (xi_c (zq1 xi_w364) (xi_c (zq1 (zq2 xi_w364)) (zq1 (zq2 (zq2 xi_w364))))) (xi_c (xi_c (zq1 (zq2 (zq2 (zq2 xi_w364)))) (zq1 (zq2 (zq2 (zq2 (zq2 xi_w364)))))) (xi_c (zq1 (zq2 (zq2 (zq2 (zq2 (zq2 xi_w364)))))) (zq1 (zq2 (zq2 (zq2 (zq2 (zq2 (zq2 xi_w364)))))))))
noncomputable def zi_365_0 : ZIs := [(0, ev_13), (1, ev_13), (2, ev_196), (3, ev_1494), (6, ev_1177), (9, ev_137), (12, ev_10), (13, ev_128), (14, ev_13), (15, ev_196), (16, ev_1180), (19, ev_378), (22, ev_10), (23, ev_128), (24, ev_10), (25, ev_294)]
noncomputable def zi_365_1 : ZIs := [(26, ev_201), (27, ev_13), (28, ev_1290), (31, ev_1115), (34, ev_13), (35, ev_1637), (38, ev_201), (39, ev_201), (40, ev_299), (41, ev_304), (44, ev_1478), (47, ev_13), (48, ev_13), (49, ev_1293), (52, ev_196), (53, ev_22)]
noncomputable def zi_365_2 : ZIs := [(54, ev_196), (55, ev_1638), (58, ev_518), (59, ev_10), (60, ev_11), (62, ev_12), (64, ev_13), (65, ev_1290), (68, ev_1639), (71, ev_10), (72, ev_25), (74, ev_126), (76, ev_530), (79, ev_1640), (82, ev_13), (83, ev_126)]
noncomputable def zi_365_3 : ZIs := [(85, ev_1180), (88, ev_1641), (91, ev_13), (92, ev_13), (93, ev_1293), (96, ev_126), (98, ev_22), (99, ev_126), (101, ev_1638), (104, ev_490), (105, ev_136), (106, ev_1642), (109, ev_13), (110, ev_1637), (113, ev_13), (114, ev_1304)]
noncomputable def zi_365_4 : ZIs := [(117, ev_13), (118, ev_1293), (121, ev_126), (123, ev_22), (124, ev_18), (125, ev_18), (126, ev_28), (128, ev_13), (129, ev_1637), (132, ev_13), (133, ev_1039), (136, ev_13), (137, ev_1293), (140, ev_126), (142, ev_22), (143, ev_18)]
noncomputable def zi_365_5 : ZIs := [(144, ev_18), (145, ev_275), (147, ev_131), (149, ev_276), (151, ev_861), (154, ev_131), (156, ev_639), (159, ev_276), (161, ev_313), (163, ev_13), (164, ev_1637), (167, ev_13), (168, ev_1304), (171, ev_13), (172, ev_1293), (175, ev_126)]
noncomputable def zi_365_6 : ZIs := [(177, ev_22), (178, ev_18), (179, ev_314), (181, ev_299), (182, ev_13), (183, ev_1637), (186, ev_13), (187, ev_1039), (190, ev_13), (191, ev_1293), (194, ev_126), (196, ev_22), (197, ev_18), (198, ev_314), (200, ev_299), (201, ev_343)]
noncomputable def zi_365_7 : ZIs := [(204, ev_1643), (207, ev_348), (210, ev_1644), (213, ev_13), (214, ev_1637), (217, ev_13), (218, ev_1304), (221, ev_13), (222, ev_1293), (225, ev_196), (226, ev_22), (227, ev_18), (228, ev_18), (229, ev_13), (230, ev_1637), (233, ev_13)]
noncomputable def zi_365_8 : ZIs := [(234, ev_1039), (237, ev_13), (238, ev_1293), (241, ev_196), (242, ev_22), (243, ev_18), (244, ev_18), (245, ev_682), (248, ev_7), (249, ev_134), (252, ev_10), (253, ev_128)]
set_option maxRecDepth 100000 in
theorem xi_w365 : zall cX12_span [zi_365_0, zi_365_1, zi_365_2, zi_365_3, zi_365_4, zi_365_5, zi_365_6, zi_365_7, zi_365_8] := zall_w _ _ (by decide +kernel)
noncomputable def xi_365 (pc : Nat) : XIs := cond (Nat.blt pc 117) (cond (Nat.blt pc 54) (cond (Nat.blt pc 26) (zx zi_365_0) (zx zi_365_1)) (cond (Nat.blt pc 85) (zx zi_365_2) (zx zi_365_3))) (cond (Nat.blt pc 177) (cond (Nat.blt pc 144) (zx zi_365_4) (zx zi_365_5)) (cond (Nat.blt pc 204) (zx zi_365_6) (cond (Nat.blt pc 234) (zx zi_365_7) (zx zi_365_8))))
theorem xi_ok365 (pc : Nat) : xi_ok cX12_span (xi_365 pc) = true := xi_c (xi_c (xi_c (zq1 xi_w365) (zq1 (zq2 xi_w365))) (xi_c (zq1 (zq2 (zq2 xi_w365))) (zq1 (zq2 (zq2 (zq2 xi_w365)))))) (xi_c (xi_c (zq1 (zq2 (zq2 (zq2 (zq2 xi_w365))))) (zq1 (zq2 (zq2 (zq2 (zq2 (zq2 xi_w365))))))) (xi_c (zq1 (zq2 (zq2 (zq2 (zq2 (zq2 (zq2 xi_w365))))))) (xi_c (zq1 (zq2 (zq2 (zq2 (zq2 (zq2 (zq2 (zq2 xi_w365)))))))) (zq1 (zq2 (zq2 (zq2 (zq2 (zq2 (zq2 (zq2 (zq2 xi_w365))))))))))))
noncomputable def zi_366_0 : ZIs := [(0, ev_1645), (3, ev_13), (4, ev_1040), (7, ev_196), (8, ev_18), (9, ev_179), (10, ev_1317), (13, ev_458), (14, ev_493), (15, ev_201), (16, ev_179), (17, ev_458), (18, ev_482)]
set_option maxRecDepth 100000 in
theorem xi_w366 : zall cX12_orderOf [zi_366_0] := zall_w _ _ (by decide +kernel)
noncomputable def xi_366 (pc : Nat) : XIs := zx zi_366_0
theorem xi_ok366 (pc : Nat) : xi_ok cX12_orderOf (xi_366 pc) = true := zq1 xi_w366
noncomputable def zi_367_0 : ZIs := [(0, ev_133), (1, ev_443), (3, ev_488), (4, ev_58), (6, ev_490), (7, ev_446), (9, ev_463), (11, ev_135), (12, ev_136), (13, ev_1646), (16, ev_463), (18, ev_1647), (21, ev_528), (22, ev_133), (23, ev_136), (24, ev_438)]
noncomputable def zi_367_1 : ZIs := [(27, ev_247), (29, ev_461), (31, ev_493), (32, ev_1648), (35, ev_528), (36, ev_639), (39, ev_247), (41, ev_443), (43, ev_461), (45, ev_461), (47, ev_493), (48, ev_1648), (51, ev_528), (52, ev_58), (54, ev_463), (56, ev_1647)]
noncomputable def zi_367_2 : ZIs := [(59, ev_491), (60, ev_446), (62, ev_1530), (65, ev_247), (67, ev_482)]
set_option maxRecDepth 100000 in
theorem xi_w367 : zall cX12_power [zi_367_0, zi_367_1, zi_367_2] := zall_w _ _ (by decide +kernel)
noncomputable def xi_367 (pc : Nat) : XIs := cond (Nat.blt pc 27) (zx zi_367_0) (cond (Nat.blt pc 59) (zx zi_367_1) (zx zi_367_2))
theorem xi_ok367 (pc : Nat) : xi_ok cX12_power (xi_367 pc) = true := xi_c (zq1 xi_w367) (xi_c (zq1 (zq2 xi_w367)) (zq1 (zq2 (zq2 xi_w367))))
noncomputable def zi_368_0 : ZIs := [(0, ev_13), (1, ev_10), (2, ev_1288), (5, ev_13), (6, ev_1290), (9, ev_378), (12, ev_10), (13, ev_128), (14, ev_10), (15, ev_686), (16, ev_196), (17, ev_529), (20, ev_1115), (23, ev_13), (24, ev_1649), (27, ev_196)]
noncomputable def zi_368_1 : ZIs := [(28, ev_135), (29, ev_198), (30, ev_689), (33, ev_1511), (36, ev_10), (37, ev_686), (38, ev_196), (39, ev_530), (42, ev_1650), (45, ev_13), (46, ev_196), (47, ev_1180), (50, ev_1651), (53, ev_13), (54, ev_1304), (57, ev_13)]
noncomputable def zi_368_2 : ZIs := [(58, ev_1293), (61, ev_196), (62, ev_22), (63, ev_18), (64, ev_294), (65, ev_13), (66, ev_1039), (69, ev_13), (70, ev_1293), (73, ev_196), (74, ev_22), (75, ev_18), (76, ev_295), (77, ev_13), (78, ev_1649), (81, ev_526)]
noncomputable def zi_368_3 : ZIs := [(83, ev_201), (84, ev_355), (85, ev_316), (86, ev_130), (87, ev_133), (88, ev_458), (89, ev_198), (90, ev_13), (91, ev_1649), (94, ev_526), (96, ev_202), (97, ev_355), (98, ev_316), (99, ev_130), (100, ev_133), (101, ev_458)]
noncomputable def zi_368_4 : ZIs := [(102, ev_198), (103, ev_13), (104, ev_1649), (107, ev_180), (109, ev_201), (110, ev_355), (111, ev_202), (112, ev_22), (113, ev_316), (114, ev_130), (115, ev_1652), (118, ev_458), (119, ev_198), (120, ev_13), (121, ev_1649), (124, ev_180)]
noncomputable def zi_368_5 : ZIs := [(126, ev_202), (127, ev_355), (128, ev_201), (129, ev_22), (130, ev_316), (131, ev_130), (132, ev_1652), (135, ev_458), (136, ev_198), (137, ev_689), (140, ev_651), (143, ev_10), (144, ev_686), (145, ev_196), (146, ev_529), (149, ev_364)]
noncomputable def zi_368_6 : ZIs := [(152, ev_13), (153, ev_1649), (156, ev_196), (157, ev_316), (158, ev_130), (159, ev_1648), (162, ev_528), (163, ev_198), (164, ev_689), (167, ev_625), (170, ev_133), (171, ev_1653), (172, ev_7), (173, ev_295), (174, ev_202), (175, ev_13)]
noncomputable def zi_368_7 : ZIs := [(176, ev_1290), (179, ev_1654), (182, ev_202), (183, ev_11), (185, ev_12), (187, ev_13), (188, ev_1290), (191, ev_359), (194, ev_13), (195, ev_1649), (198, ev_180), (200, ev_12), (202, ev_355), (203, ev_202), (204, ev_22), (205, ev_130)]
noncomputable def zi_368_8 : ZIs := [(206, ev_135), (207, ev_136), (208, ev_993), (211, ev_348), (214, ev_854), (217, ev_12), (219, ev_13), (220, ev_1290), (223, ev_692), (226, ev_10), (227, ev_128), (228, ev_10), (229, ev_25), (231, ev_126), (233, ev_13), (234, ev_1290)]
noncomputable def zi_368_9 : ZIs := [(237, ev_1472), (240, ev_12), (242, ev_202), (243, ev_649), (246, ev_13), (247, ev_1649), (250, ev_180), (252, ev_12), (254, ev_355), (255, ev_126), (257, ev_22), (258, ev_130), (259, ev_58), (261, ev_13), (262, ev_1649), (265, ev_180)]
noncomputable def zi_368_10 : ZIs := [(267, ev_12), (269, ev_355), (270, ev_126), (272, ev_22), (273, ev_13), (274, ev_1649), (277, ev_180), (279, ev_202), (280, ev_355), (281, ev_126), (283, ev_22), (284, ev_130), (285, ev_198), (286, ev_13), (287, ev_1649), (290, ev_180)]
noncomputable def zi_368_11 : ZIs := [(292, ev_202), (293, ev_355), (294, ev_126), (296, ev_22), (297, ev_461), (299, ev_198), (300, ev_343), (303, ev_984), (306, ev_12), (308, ev_202), (309, ev_743), (312, ev_1648), (315, ev_484), (316, ev_486), (317, ev_1648), (320, ev_528)]
noncomputable def zi_368_12 : ZIs := [(321, ev_134), (324, ev_484), (325, ev_1653), (326, ev_484), (327, ev_13), (328, ev_1649), (331, ev_526), (333, ev_202), (334, ev_355), (335, ev_130), (336, ev_493), (337, ev_1648), (340, ev_528), (341, ev_1653), (342, ev_13), (343, ev_1649)]
noncomputable def zi_368_13 : ZIs := [(346, ev_526), (348, ev_202), (349, ev_355), (350, ev_130), (351, ev_1655), (354, ev_1656), (357, ev_575), (359, ev_202), (360, ev_7), (361, ev_22), (362, ev_275), (364, ev_276), (366, ev_13), (367, ev_1290), (370, ev_1657), (373, ev_13)]
noncomputable def zi_368_14 : ZIs := [(374, ev_1649), (377, ev_180), (379, ev_276), (381, ev_355), (382, ev_202), (383, ev_22), (384, ev_130), (385, ev_502), (387, ev_493), (388, ev_1648), (391, ev_528), (392, ev_446), (394, ev_202), (395, ev_448), (397, ev_449), (399, ev_13)]
noncomputable def zi_368_15 : ZIs := [(400, ev_1290), (403, ev_1595), (406, ev_13), (407, ev_1649), (410, ev_180), (412, ev_276), (414, ev_355), (415, ev_449), (417, ev_22), (418, ev_13), (419, ev_1649), (422, ev_180), (424, ev_276), (426, ev_355), (427, ev_449), (429, ev_22)]
noncomputable def zi_368_16 : ZIs := [(430, ev_130), (431, ev_1648), (434, ev_463), (436, ev_486), (437, ev_13), (438, ev_1649), (441, ev_180), (443, ev_202), (444, ev_355), (445, ev_449), (447, ev_22), (448, ev_130), (449, ev_493), (450, ev_458), (451, ev_1648), (454, ev_528)]
noncomputable def zi_368_17 : ZIs := [(455, ev_198), (456, ev_465), (459, ev_279), (462, ev_956), (465, ev_1573), (468, ev_300), (471, ev_1658), (474, ev_484), (475, ev_992), (476, ev_128)]
set_option maxRecDepth 100000 in
theorem xi_w368 : zall cX12_trees [zi_368_0, zi_368_1, zi_368_2, zi_368_3, zi_368_4, zi_368_5, zi_368_6, zi_368_7, zi_368_8, zi_368_9, zi_368_10, zi_368_11, zi_368_12, zi_368_13, zi_368_14, zi_368_15, zi_368_16, zi_368_17] := zall_w _ _ (by decide +kernel)
noncomputable def xi_368 (pc : Nat) : XIs := cond (Nat.blt pc 237) (cond (Nat.blt pc 102) (cond (Nat.blt pc 58) (cond (Nat.blt pc 28) (zx zi_368_0) (zx zi_368_1)) (cond (Nat.blt pc 83) (zx zi_368_2) (zx zi_368_3))) (cond (Nat.blt pc 152) (cond (Nat.blt pc 126) (zx zi_368_4) (zx zi_368_5)) (cond (Nat.blt pc 176) (zx zi_368_6) (cond (Nat.blt pc 206) (zx zi_368_7) (zx zi_368_8))))) (cond (Nat.blt pc 346) (cond (Nat.blt pc 292) (cond (Nat.blt pc 267) (zx zi_368_9) (zx zi_368_10)) (cond (Nat.blt pc 321) (zx zi_368_11) (zx zi_368_12))) (cond (Nat.blt pc 400) (cond (Nat.blt pc 374) (zx zi_368_13) (zx zi_368_14)) (cond (Nat.blt pc 430) (zx zi_368_15) (cond (Nat.blt pc 455) (zx zi_368_16) (zx zi_368_17)))))
theorem xi_ok368 (pc : Nat) : xi_ok cX12_trees (xi_368 pc) = true := xi_c (xi_c (xi_c (xi_c (zq1 xi_w368) (zq1 (zq2 xi_w368))) (xi_c (zq1 (zq2 (zq2 xi_w368))) (zq1 (zq2 (zq2 (zq2 xi_w368)))))) (xi_c (xi_c (zq1 (zq2 (zq2 (zq2 (zq2 xi_w368))))) (zq1 (zq2 (zq2 (zq2 (zq2 (zq2 xi_w368))))))) (xi_c (zq1 (zq2 (zq2 (zq2 (zq2 (zq2 (zq2 xi_w368))))))) (xi_c (zq1 (zq2 (zq2 (zq2 (zq2 (zq2 (zq2 (zq2 xi_w368)))))))) (zq1 (zq2 (zq2 (zq2 (zq2 (zq2 (zq2 (zq2 (zq2 xi_w368))))))))))))) (xi_c (xi_c (xi_c (zq1 (zq2 (zq2 (zq2 (zq2 (zq2 (zq2 (zq2 (zq2 (zq2 xi_w368)))))))))) (zq1 (zq2 (zq2 (zq2 (zq2 (zq2 (zq2 (zq2 (zq2 (zq2 (zq2 xi_w368)))))))))))) (xi_c (zq1 (zq2 (zq2 (zq2 (zq2 (zq2 (zq2 (zq2 (zq2 (zq2 (zq2 (zq2 xi_w368)))))))))))) (zq1 (zq2 (zq2 (zq2 (zq2 (zq2 (zq2 (zq2 (zq2 (zq2 (zq2 (zq2 (zq2 xi_w368))))))))))))))) (xi_c (xi_c (zq1 (zq2 (zq2 (zq2 (zq2 (zq2 (zq2 (zq2 (zq2 (zq2 (zq2 (zq2 (zq2 (zq2 xi_w368)))))))))))))) (zq1 (zq2 (zq2 (zq2 (zq2 (zq2 (zq2 (zq2 (zq2 (zq2 (zq2 (zq2 (zq2 (zq2 (zq2 xi_w368)))))))))))))))) (xi_c (zq1 (zq2 (zq2 (zq2 (zq2 (zq2 (zq2 (zq2 (zq2 (zq2 (zq2 (zq2 (zq2 (zq2 (zq2 (zq2 xi_w368)))))))))))))))) (xi_c (zq1 (zq2 (zq2 (zq2 (zq2 (zq2 (zq2 (zq2 (zq2 (zq2 (zq2 (zq2 (zq2 (zq2 (zq2 (zq2 (zq2 xi_w368))))))))))))))))) (zq1 (zq2 (zq2 (zq2 (zq2 (zq2 (zq2 (zq2 (zq2 (zq2 (zq2 (zq2 (zq2 (zq2 (zq2 (zq2 (zq2 (zq2 xi_w368))))))))))))))))))))))
noncomputable def zi_369_0 : ZIs := [(0, ev_13), (1, ev_13), (2, ev_196), (3, ev_1337), (6, ev_489), (9, ev_201), (10, ev_179), (11, ev_135), (12, ev_1659), (15, ev_1318), (18, ev_132), (21, ev_7), (22, ev_134), (25, ev_10), (26, ev_1177), (29, ev_137)]
noncomputable def zi_369_1 : ZIs := [(32, ev_135), (33, ev_482), (34, ev_10), (35, ev_295), (36, ev_202), (37, ev_13), (38, ev_1290), (41, ev_944), (44, ev_13), (45, ev_1660), (48, ev_202), (49, ev_1661), (52, ev_198), (53, ev_13), (54, ev_1662), (57, ev_202)]
noncomputable def zi_369_2 : ZIs := [(58, ev_10), (59, ev_299), (60, ev_300), (63, ev_360), (66, ev_13), (67, ev_1293), (70, ev_295), (71, ev_202), (72, ev_13), (73, ev_1293), (76, ev_530), (79, ev_22), (80, ev_340), (83, ev_13), (84, ev_1292), (87, ev_202)]
noncomputable def zi_369_3 : ZIs := [(88, ev_1294), (89, ev_393), (92, ev_13), (93, ev_1662), (96, ev_13), (97, ev_1304), (100, ev_202), (101, ev_18), (102, ev_316), (103, ev_18), (104, ev_7), (105, ev_22), (106, ev_299), (107, ev_300), (110, ev_720), (113, ev_10)]
noncomputable def zi_369_4 : ZIs := [(114, ev_295), (115, ev_202), (116, ev_201), (117, ev_1663), (120, ev_135), (121, ev_443), (123, ev_10), (124, ev_28), (126, ev_131), (128, ev_13), (129, ev_1290), (132, ev_864), (135, ev_247), (137, ev_13), (138, ev_1660), (141, ev_131)]
noncomputable def zi_369_5 : ZIs := [(143, ev_130), (144, ev_458), (145, ev_443), (147, ev_13), (148, ev_1664), (151, ev_131), (153, ev_135), (154, ev_198), (155, ev_320), (158, ev_694), (161, ev_13), (162, ev_1293), (165, ev_28), (167, ev_131), (169, ev_13), (170, ev_1293)]
noncomputable def zi_369_6 : ZIs := [(173, ev_530), (176, ev_22), (177, ev_966), (180, ev_13), (181, ev_1292), (184, ev_131), (186, ev_1294), (187, ev_272), (190, ev_13), (191, ev_1660), (194, ev_13), (195, ev_1304), (198, ev_131), (200, ev_18), (201, ev_130), (202, ev_1665)]
noncomputable def zi_369_7 : ZIs := [(205, ev_493), (206, ev_1666), (209, ev_13), (210, ev_1662), (213, ev_13), (214, ev_1304), (217, ev_131), (219, ev_18), (220, ev_18), (221, ev_179), (222, ev_493), (223, ev_491), (224, ev_922), (226, ev_13), (227, ev_1664), (230, ev_13)]
noncomputable def zi_369_8 : ZIs := [(231, ev_1039), (234, ev_131), (236, ev_18), (237, ev_316), (238, ev_130), (239, ev_923), (241, ev_458), (242, ev_198), (243, ev_247), (245, ev_923), (247, ev_486), (248, ev_443), (250, ev_320), (253, ev_1505), (256, ev_10), (257, ev_28)]
noncomputable def zi_369_9 : ZIs := [(259, ev_131), (261, ev_13), (262, ev_1290), (265, ev_1667), (268, ev_13), (269, ev_1660), (272, ev_131), (274, ev_13), (275, ev_1664), (278, ev_131), (280, ev_130), (281, ev_247), (283, ev_13), (284, ev_1290), (287, ev_179), (288, ev_491)]
noncomputable def zi_369_10 : ZIs := [(289, ev_458), (290, ev_131), (292, ev_179), (293, ev_247), (295, ev_13), (296, ev_1290), (299, ev_179), (300, ev_528), (301, ev_136), (302, ev_487), (305, ev_133), (306, ev_134), (309, ev_135), (310, ev_458), (311, ev_198), (312, ev_320)]
noncomputable def zi_369_11 : ZIs := [(315, ev_504), (318, ev_300), (321, ev_1668), (324, ev_13), (325, ev_1660), (328, ev_196), (329, ev_130), (330, ev_482)]
set_option maxRecDepth 100000 in
theorem xi_w369 : zall cX12_rank [zi_369_0, zi_369_1, zi_369_2, zi_369_3, zi_369_4, zi_369_5, zi_369_6, zi_369_7, zi_369_8, zi_369_9, zi_369_10, zi_369_11] := zall_w _ _ (by decide +kernel)
noncomputable def xi_369 (pc : Nat) : XIs := cond (Nat.blt pc 173) (cond (Nat.blt pc 88) (cond (Nat.blt pc 32) (zx zi_369_0) (cond (Nat.blt pc 58) (zx zi_369_1) (zx zi_369_2))) (cond (Nat.blt pc 114) (zx zi_369_3) (cond (Nat.blt pc 143) (zx zi_369_4) (zx zi_369_5)))) (cond (Nat.blt pc 259) (cond (Nat.blt pc 205) (zx zi_369_6) (cond (Nat.blt pc 231) (zx zi_369_7) (zx zi_369_8))) (cond (Nat.blt pc 289) (zx zi_369_9) (cond (Nat.blt pc 315) (zx zi_369_10) (zx zi_369_11))))
theorem xi_ok369 (pc : Nat) : xi_ok cX12_rank (xi_369 pc) = true := xi_c (xi_c (xi_c (zq1 xi_w369) (xi_c (zq1 (zq2 xi_w369)) (zq1 (zq2 (zq2 xi_w369))))) (xi_c (zq1 (zq2 (zq2 (zq2 xi_w369)))) (xi_c (zq1 (zq2 (zq2 (zq2 (zq2 xi_w369))))) (zq1 (zq2 (zq2 (zq2 (zq2 (zq2 xi_w369))))))))) (xi_c (xi_c (zq1 (zq2 (zq2 (zq2 (zq2 (zq2 (zq2 xi_w369))))))) (xi_c (zq1 (zq2 (zq2 (zq2 (zq2 (zq2 (zq2 (zq2 xi_w369)))))))) (zq1 (zq2 (zq2 (zq2 (zq2 (zq2 (zq2 (zq2 (zq2 xi_w369))))))))))) (xi_c (zq1 (zq2 (zq2 (zq2 (zq2 (zq2 (zq2 (zq2 (zq2 (zq2 xi_w369)))))))))) (xi_c (zq1 (zq2 (zq2 (zq2 (zq2 (zq2 (zq2 (zq2 (zq2 (zq2 (zq2 xi_w369))))))))))) (zq1 (zq2 (zq2 (zq2 (zq2 (zq2 (zq2 (zq2 (zq2 (zq2 (zq2 (zq2 xi_w369)))))))))))))))
