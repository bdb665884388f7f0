noncomputable def zi_194_0 : ZIs := [(0, ev_13), (1, ev_21), (2, ev_198), (3, ev_211), (6, ev_13), (7, ev_266), (10, ev_197), (11, ev_303), (12, ev_7), (13, ev_20), (14, ev_227), (17, ev_1008), (20, ev_481), (21, ev_13), (22, ev_280), (25, ev_197)]
noncomputable def zi_194_1 : ZIs := [(26, ev_154), (27, ev_1009), (30, ev_157), (31, ev_992), (34, ev_709), (37, ev_439), (40, ev_13), (41, ev_280), (44, ev_197), (45, ev_154), (46, ev_1010), (49, ev_269), (52, ev_481)]
set_option maxRecDepth 100000 in
theorem xi_w194 : zall cX10_leastWeight [zi_194_0, zi_194_1] := zall_w _ _ (by decide +kernel)
noncomputable def xi_194 (pc : Nat) : XIs := cond (Nat.blt pc 26) (zx zi_194_0) (zx zi_194_1)
theorem xi_ok194 (pc : Nat) : xi_ok cX10_leastWeight (xi_194 pc) = true := xi_c (zq1 xi_w194) (zq1 (zq2 xi_w194))
noncomputable def zi_195_0 : ZIs := [(0, ev_13), (1, ev_21), (2, ev_198), (3, ev_211), (6, ev_13), (7, ev_266), (10, ev_197), (11, ev_303), (12, ev_7), (13, ev_20), (14, ev_1011), (17, ev_13), (18, ev_280), (21, ev_197), (22, ev_154), (23, ev_1009)]
noncomputable def zi_195_1 : ZIs := [(26, ev_157), (27, ev_1012), (30, ev_12), (32, ev_156), (33, ev_13), (34, ev_280), (37, ev_197), (38, ev_154), (39, ev_1010), (42, ev_274), (45, ev_157), (46, ev_1013), (49, ev_252), (50, ev_152), (51, ev_252), (52, ev_25)]
noncomputable def zi_195_2 : ZIs := [(54, ev_197), (55, ev_28), (57, ev_10), (58, ev_275), (60, ev_276), (62, ev_12), (64, ev_433), (67, ev_13), (68, ev_21), (69, ev_155), (71, ev_282), (74, ev_25), (76, ev_150), (78, ev_252), (79, ev_691), (82, ev_252)]
noncomputable def zi_195_3 : ZIs := [(83, ev_152), (84, ev_21), (85, ev_1014), (88, ev_150), (90, ev_18), (91, ev_28), (93, ev_955), (96, ev_1015), (99, ev_150), (101, ev_152)]
set_option maxRecDepth 100000 in
theorem xi_w195 : zall cX10_leastArc [zi_195_0, zi_195_1, zi_195_2, zi_195_3] := zall_w _ _ (by decide +kernel)
noncomputable def xi_195 (pc : Nat) : XIs := cond (Nat.blt pc 54) (cond (Nat.blt pc 26) (zx zi_195_0) (zx zi_195_1)) (cond (Nat.blt pc 83) (zx zi_195_2) (zx zi_195_3))
theorem xi_ok195 (pc : Nat) : xi_ok cX10_leastArc (xi_195 pc) = true := xi_c (xi_c (zq1 xi_w195) (zq1 (zq2 xi_w195))) (xi_c (zq1 (zq2 (zq2 xi_w195))) (zq1 (zq2 (zq2 (zq2 xi_w195)))))
noncomputable def zi_196_0 : ZIs := [(0, ev_21), (1, ev_1016), (4, ev_197), (5, ev_18), (6, ev_295), (7, ev_198), (8, ev_21), (9, ev_1016), (12, ev_197), (13, ev_7), (14, ev_22), (15, ev_18), (16, ev_1017), (19, ev_21), (20, ev_1018), (23, ev_198)]
noncomputable def zi_196_1 : ZIs := [(24, ev_18), (25, ev_11), (27, ev_13), (28, ev_280), (31, ev_21), (32, ev_1014), (35, ev_12), (37, ev_18), (38, ev_154), (39, ev_1009), (42, ev_157), (43, ev_859), (46, ev_21), (47, ev_12), (49, ev_1019), (52, ev_13)]
noncomputable def zi_196_2 : ZIs := [(53, ev_280), (56, ev_21), (57, ev_1014), (60, ev_12), (62, ev_18), (63, ev_154), (64, ev_457), (65, ev_13), (66, ev_280), (69, ev_197), (70, ev_154), (71, ev_157), (72, ev_351), (75, ev_12), (77, ev_152), (78, ev_300)]
noncomputable def zi_196_3 : ZIs := [(81, ev_1020), (84, ev_252), (85, ev_152)]
set_option maxRecDepth 100000 in
theorem xi_w196 : zall cX10_stepFrom [zi_196_0, zi_196_1, zi_196_2, zi_196_3] := zall_w _ _ (by decide +kernel)
noncomputable def xi_196 (pc : Nat) : XIs := cond (Nat.blt pc 53) (cond (Nat.blt pc 24) (zx zi_196_0) (zx zi_196_1)) (cond (Nat.blt pc 81) (zx zi_196_2) (zx zi_196_3))
theorem xi_ok196 (pc : Nat) : xi_ok cX10_stepFrom (xi_196 pc) = true := xi_c (xi_c (zq1 xi_w196) (zq1 (zq2 xi_w196))) (xi_c (zq1 (zq2 (zq2 xi_w196))) (zq1 (zq2 (zq2 (zq2 xi_w196)))))
noncomputable def zi_197_0 : ZIs := [(0, ev_13), (1, ev_718), (4, ev_192), (5, ev_18), (6, ev_156), (7, ev_1010), (10, ev_492), (11, ev_228), (12, ev_457), (13, ev_481)]
set_option maxRecDepth 100000 in
theorem xi_w197 : zall cX10_costOf [zi_197_0] := zall_w _ _ (by decide +kernel)
noncomputable def xi_197 (pc : Nat) : XIs := zx zi_197_0
theorem xi_ok197 (pc : Nat) : xi_ok cX10_costOf (xi_197 pc) = true := zq1 xi_w197
noncomputable def zi_198_0 : ZIs := [(0, ev_21), (1, ev_395), (4, ev_13), (5, ev_261), (8, ev_21), (9, ev_947), (12, ev_690), (15, ev_13), (16, ev_723), (19, ev_197), (20, ev_608), (23, ev_260), (24, ev_13), (25, ev_21), (26, ev_947), (29, ev_253)]
noncomputable def zi_198_1 : ZIs := [(32, ev_13), (33, ev_197), (34, ev_1021), (37, ev_13), (38, ev_280), (41, ev_1009), (44, ev_1022), (47, ev_13), (48, ev_280), (51, ev_197), (52, ev_230), (53, ev_194), (54, ev_7), (55, ev_197), (56, ev_277), (57, ev_295)]
noncomputable def zi_198_2 : ZIs := [(58, ev_10), (59, ev_11), (61, ev_12), (63, ev_21), (64, ev_791), (67, ev_686), (70, ev_198), (71, ev_417), (74, ev_13), (75, ev_21), (76, ev_198), (77, ev_238), (80, ev_295), (81, ev_348), (84, ev_711), (87, ev_13)]
noncomputable def zi_198_3 : ZIs := [(88, ev_198), (89, ev_326), (92, ev_10), (93, ev_788), (96, ev_21), (97, ev_792), (100, ev_13), (101, ev_21), (102, ev_198), (103, ev_238), (106, ev_252), (107, ev_569), (110, ev_663), (113, ev_260)]
set_option maxRecDepth 100000 in
theorem xi_w198 : zall cX10_measure [zi_198_0, zi_198_1, zi_198_2, zi_198_3] := zall_w _ _ (by decide +kernel)
noncomputable def xi_198 (pc : Nat) : XIs := cond (Nat.blt pc 58) (cond (Nat.blt pc 32) (zx zi_198_0) (zx zi_198_1)) (cond (Nat.blt pc 88) (zx zi_198_2) (zx zi_198_3))
theorem xi_ok198 (pc : Nat) : xi_ok cX10_measure (xi_198 pc) = true := xi_c (xi_c (zq1 xi_w198) (zq1 (zq2 xi_w198))) (xi_c (zq1 (zq2 (zq2 xi_w198))) (zq1 (zq2 (zq2 (zq2 xi_w198)))))
noncomputable def zi_199_0 : ZIs := [(0, ev_10), (1, ev_295), (2, ev_197), (3, ev_11), (5, ev_12), (7, ev_1023), (10, ev_12), (12, ev_1024), (15, ev_25), (17, ev_21), (18, ev_428), (21, ev_150), (23, ev_18), (24, ev_28), (26, ev_155), (28, ev_21)]
noncomputable def zi_199_1 : ZIs := [(29, ev_428), (32, ev_150), (34, ev_7), (35, ev_22), (36, ev_18), (37, ev_1025), (40, ev_21), (41, ev_1026), (44, ev_155), (46, ev_18), (47, ev_275), (49, ev_21), (50, ev_1027), (53, ev_276), (55, ev_18), (56, ev_313)]
noncomputable def zi_199_2 : ZIs := [(58, ev_21), (59, ev_276), (61, ev_1019), (64, ev_13), (65, ev_280), (68, ev_150), (70, ev_154), (71, ev_457), (72, ev_13), (73, ev_280), (76, ev_314), (78, ev_154), (79, ev_157), (80, ev_1028), (83, ev_13), (84, ev_280)]
noncomputable def zi_199_3 : ZIs := [(87, ev_314), (89, ev_21), (90, ev_276), (92, ev_1019), (95, ev_13), (96, ev_280), (99, ev_150), (101, ev_154), (102, ev_457), (103, ev_194), (104, ev_198), (105, ev_7), (106, ev_314), (108, ev_277), (109, ev_278), (110, ev_295)]
noncomputable def zi_199_4 : ZIs := [(111, ev_320), (114, ev_321), (117, ev_12), (119, ev_12), (121, ev_7), (122, ev_16), (123, ev_20), (124, ev_11), (126, ev_606), (129, ev_198), (130, ev_152)]
set_option maxRecDepth 100000 in
theorem xi_w199 : zall cX10_relax [zi_199_0, zi_199_1, zi_199_2, zi_199_3, zi_199_4] := zall_w _ _ (by decide +kernel)
noncomputable def xi_199 (pc : Nat) : XIs := cond (Nat.blt pc 58) (cond (Nat.blt pc 29) (zx zi_199_0) (zx zi_199_1)) (cond (Nat.blt pc 87) (zx zi_199_2) (cond (Nat.blt pc 111) (zx zi_199_3) (zx zi_199_4)))
theorem xi_ok199 (pc : Nat) : xi_ok cX10_relax (xi_199 pc) = true := xi_c (xi_c (zq1 xi_w199) (zq1 (zq2 xi_w199))) (xi_c (zq1 (zq2 (zq2 xi_w199))) (xi_c (zq1 (zq2 (zq2 (zq2 xi_w199)))) (zq1 (zq2 (zq2 (zq2 (zq2 xi_w199)))))))
noncomputable def zi_200_0 : ZIs := [(0, ev_21), (1, ev_395), (4, ev_13), (5, ev_440), (8, ev_252), (9, ev_1029), (12, ev_13), (13, ev_440), (16, ev_197), (17, ev_1030), (19, ev_299), (20, ev_21), (21, ev_994), (24, ev_11), (26, ev_10), (27, ev_25)]
noncomputable def zi_200_1 : ZIs := [(29, ev_150), (31, ev_21), (32, ev_791), (35, ev_1031), (38, ev_13), (39, ev_12), (41, ev_743), (44, ev_28), (46, ev_155), (48, ev_198), (49, ev_1032), (52, ev_13), (53, ev_440), (56, ev_155), (58, ev_18), (59, ev_252)]
noncomputable def zi_200_2 : ZIs := [(60, ev_810), (63, ev_13), (64, ev_440), (67, ev_198), (68, ev_18), (69, ev_152), (70, ev_12), (72, ev_7), (73, ev_155), (75, ev_277), (76, ev_252), (77, ev_317), (78, ev_20), (79, ev_11), (81, ev_21), (82, ev_1016)]
noncomputable def zi_200_3 : ZIs := [(85, ev_155), (87, ev_18), (88, ev_275), (90, ev_276), (92, ev_21), (93, ev_1016), (96, ev_155), (98, ev_7), (99, ev_22), (100, ev_18), (101, ev_816), (104, ev_21), (105, ev_1018), (108, ev_276), (110, ev_18), (111, ev_313)]
noncomputable def zi_200_4 : ZIs := [(113, ev_13), (114, ev_440), (117, ev_21), (118, ev_1014), (121, ev_314), (123, ev_18), (124, ev_13), (125, ev_440), (128, ev_21), (129, ev_1014), (132, ev_314), (134, ev_18), (135, ev_18), (136, ev_13), (137, ev_440), (140, ev_155)]
noncomputable def zi_200_5 : ZIs := [(142, ev_18), (143, ev_21), (144, ev_584), (147, ev_314), (149, ev_18), (150, ev_1033), (153, ev_1034), (156, ev_299), (157, ev_955), (160, ev_1035), (163, ev_343), (166, ev_1036), (169, ev_13), (170, ev_440), (173, ev_198), (174, ev_18)]
noncomputable def zi_200_6 : ZIs := [(175, ev_152)]
set_option maxRecDepth 100000 in
theorem xi_w200 : zall cX10_widest [zi_200_0, zi_200_1, zi_200_2, zi_200_3, zi_200_4, zi_200_5, zi_200_6] := zall_w _ _ (by decide +kernel)
noncomputable def xi_200 (pc : Nat) : XIs := cond (Nat.blt pc 85) (cond (Nat.blt pc 29) (zx zi_200_0) (cond (Nat.blt pc 60) (zx zi_200_1) (zx zi_200_2))) (cond (Nat.blt pc 142) (cond (Nat.blt pc 113) (zx zi_200_3) (zx zi_200_4)) (cond (Nat.blt pc 175) (zx zi_200_5) (zx zi_200_6)))
theorem xi_ok200 (pc : Nat) : xi_ok cX10_widest (xi_200 pc) = true := xi_c (xi_c (zq1 xi_w200) (xi_c (zq1 (zq2 xi_w200)) (zq1 (zq2 (zq2 xi_w200))))) (xi_c (xi_c (zq1 (zq2 (zq2 (zq2 xi_w200)))) (zq1 (zq2 (zq2 (zq2 (zq2 xi_w200)))))) (xi_c (zq1 (zq2 (zq2 (zq2 (zq2 (zq2 xi_w200)))))) (zq1 (zq2 (zq2 (zq2 (zq2 (zq2 (zq2 xi_w200)))))))))
noncomputable def zi_201_0 : ZIs := [(0, ev_192), (1, ev_1024), (4, ev_294), (5, ev_192), (6, ev_295), (7, ev_198), (8, ev_859), (11, ev_13), (12, ev_440), (15, ev_198), (16, ev_1024), (19, ev_18), (20, ev_13), (21, ev_440), (24, ev_197), (25, ev_18)]
noncomputable def zi_201_1 : ZIs := [(26, ev_270), (29, ev_198), (30, ev_1024), (33, ev_294), (34, ev_198), (35, ev_198), (36, ev_7), (37, ev_16), (38, ev_20), (39, ev_295), (40, ev_861), (43, ev_197), (44, ev_152)]
set_option maxRecDepth 100000 in
theorem xi_w201 : zall cX10_widestOf [zi_201_0, zi_201_1] := zall_w _ _ (by decide +kernel)
noncomputable def xi_201 (pc : Nat) : XIs := cond (Nat.blt pc 26) (zx zi_201_0) (zx zi_201_1)
theorem xi_ok201 (pc : Nat) : xi_ok cX10_widestOf (xi_201 pc) = true := xi_c (zq1 xi_w201) (zq1 (zq2 xi_w201))
noncomputable def zi_202_0 : ZIs := [(0, ev_13), (1, ev_21), (2, ev_197), (3, ev_1037), (6, ev_13), (7, ev_1038), (10, ev_198), (11, ev_18), (12, ev_152)]
set_option maxRecDepth 100000 in
theorem xi_w202 : zall cX10_fewestArcs [zi_202_0] := zall_w _ _ (by decide +kernel)
noncomputable def xi_202 (pc : Nat) : XIs := zx zi_202_0
theorem xi_ok202 (pc : Nat) : xi_ok cX10_fewestArcs (xi_202 pc) = true := zq1 xi_w202
noncomputable def zi_203_0 : ZIs := [(0, ev_13), (1, ev_21), (2, ev_197), (3, ev_1037), (6, ev_13), (7, ev_1038), (10, ev_198), (11, ev_18), (12, ev_25), (14, ev_13), (15, ev_1038), (18, ev_12), (20, ev_18), (21, ev_28), (23, ev_13), (24, ev_1039)]
noncomputable def zi_203_1 : ZIs := [(27, ev_12), (29, ev_154), (30, ev_921), (32, ev_150), (34, ev_252), (35, ev_903), (38, ev_155), (40, ev_252), (41, ev_691), (44, ev_10), (45, ev_152), (46, ev_12), (48, ev_197), (49, ev_819), (52, ev_13), (53, ev_21)]
noncomputable def zi_203_2 : ZIs := [(54, ev_12), (56, ev_1037), (59, ev_13), (60, ev_1038), (63, ev_198), (64, ev_18), (65, ev_252), (66, ev_900), (69, ev_155), (71, ev_13), (72, ev_1038), (75, ev_198), (76, ev_18), (77, ev_22), (78, ev_150), (80, ev_151)]
noncomputable def zi_203_3 : ZIs := [(83, ev_10), (84, ev_152), (85, ev_922), (87, ev_13), (88, ev_1039), (91, ev_198), (92, ev_154), (93, ev_492), (94, ev_1040), (97, ev_527), (98, ev_991), (99, ev_152)]
set_option maxRecDepth 100000 in
theorem xi_w203 : zall cX10_countBy [zi_203_0, zi_203_1, zi_203_2, zi_203_3] := zall_w _ _ (by decide +kernel)
noncomputable def xi_203 (pc : Nat) : XIs := cond (Nat.blt pc 54) (cond (Nat.blt pc 27) (zx zi_203_0) (zx zi_203_1)) (cond (Nat.blt pc 83) (zx zi_203_2) (zx zi_203_3))
theorem xi_ok203 (pc : Nat) : xi_ok cX10_countBy (xi_203 pc) = true := xi_c (xi_c (zq1 xi_w203) (zq1 (zq2 xi_w203))) (xi_c (zq1 (zq2 (zq2 xi_w203))) (zq1 (zq2 (zq2 (zq2 xi_w203)))))
noncomputable def zi_204_0 : ZIs := [(0, ev_21), (1, ev_395), (4, ev_13), (5, ev_1038), (8, ev_252), (9, ev_1029), (12, ev_13), (13, ev_1039), (16, ev_230), (17, ev_1022), (20, ev_13), (21, ev_1038), (24, ev_197), (25, ev_10), (26, ev_299), (27, ev_13)]
noncomputable def zi_204_1 : ZIs := [(28, ev_1039), (31, ev_197), (32, ev_228), (33, ev_194), (34, ev_13), (35, ev_465), (38, ev_10), (39, ev_197), (40, ev_299), (41, ev_7), (42, ev_295), (43, ev_10), (44, ev_11), (46, ev_12), (48, ev_198), (49, ev_1041)]
noncomputable def zi_204_2 : ZIs := [(52, ev_13), (53, ev_465), (56, ev_12), (58, ev_18), (59, ev_25), (61, ev_21), (62, ev_1016), (65, ev_150), (67, ev_18), (68, ev_28), (70, ev_155), (72, ev_21), (73, ev_1016), (76, ev_150), (78, ev_7), (79, ev_22)]
noncomputable def zi_204_3 : ZIs := [(80, ev_18), (81, ev_1042), (84, ev_21), (85, ev_1014), (88, ev_21), (89, ev_1018), (92, ev_155), (94, ev_18), (95, ev_18), (96, ev_275), (98, ev_13), (99, ev_1038), (102, ev_276), (104, ev_18), (105, ev_252), (106, ev_420)]
noncomputable def zi_204_4 : ZIs := [(109, ev_198), (110, ev_176), (112, ev_929), (115, ev_13), (116, ev_1038), (119, ev_276), (121, ev_13), (122, ev_1038), (125, ev_150), (127, ev_18), (128, ev_7), (129, ev_22), (130, ev_299), (131, ev_13), (132, ev_465), (135, ev_198)]
noncomputable def zi_204_5 : ZIs := [(136, ev_276), (138, ev_299), (139, ev_300), (142, ev_13), (143, ev_1038), (146, ev_276), (148, ev_18), (149, ev_13), (150, ev_1038), (153, ev_150), (155, ev_18), (156, ev_7), (157, ev_22), (158, ev_889), (161, ev_13), (162, ev_1039)]
noncomputable def zi_204_6 : ZIs := [(165, ev_276), (167, ev_13), (168, ev_1039), (171, ev_276), (173, ev_154), (174, ev_13), (175, ev_1039), (178, ev_150), (180, ev_154), (181, ev_457), (182, ev_1040), (185, ev_527), (186, ev_194), (187, ev_320), (190, ev_480), (193, ev_348)]
noncomputable def zi_204_7 : ZIs := [(196, ev_1043), (199, ev_260)]
set_option maxRecDepth 100000 in
theorem xi_w204 : zall cX10_spread [zi_204_0, zi_204_1, zi_204_2, zi_204_3, zi_204_4, zi_204_5, zi_204_6, zi_204_7] := zall_w _ _ (by decide +kernel)
noncomputable def xi_204 (pc : Nat) : XIs := cond (Nat.blt pc 109) (cond (Nat.blt pc 52) (cond (Nat.blt pc 28) (zx zi_204_0) (zx zi_204_1)) (cond (Nat.blt pc 80) (zx zi_204_2) (zx zi_204_3))) (cond (Nat.blt pc 165) (cond (Nat.blt pc 136) (zx zi_204_4) (zx zi_204_5)) (cond (Nat.blt pc 196) (zx zi_204_6) (zx zi_204_7)))
theorem xi_ok204 (pc : Nat) : xi_ok cX10_spread (xi_204 pc) = true := xi_c (xi_c (xi_c (zq1 xi_w204) (zq1 (zq2 xi_w204))) (xi_c (zq1 (zq2 (zq2 xi_w204))) (zq1 (zq2 (zq2 (zq2 xi_w204)))))) (xi_c (xi_c (zq1 (zq2 (zq2 (zq2 (zq2 xi_w204))))) (zq1 (zq2 (zq2 (zq2 (zq2 (zq2 xi_w204))))))) (xi_c (zq1 (zq2 (zq2 (zq2 (zq2 (zq2 (zq2 xi_w204))))))) (zq1 (zq2 (zq2 (zq2 (zq2 (zq2 (zq2 (zq2 xi_w204))))))))))
noncomputable def zi_205_0 : ZIs := [(0, ev_13), (1, ev_21), (2, ev_197), (3, ev_198), (4, ev_814), (7, ev_13), (8, ev_1044), (11, ev_1045), (14, ev_270), (17, ev_1046), (19, ev_212), (22, ev_13), (23, ev_1044), (26, ev_152)]
set_option maxRecDepth 100000 in
theorem xi_w205 : zall cX10_countShort [zi_205_0] := zall_w _ _ (by decide +kernel)
noncomputable def xi_205 (pc : Nat) : XIs := zx zi_205_0
theorem xi_ok205 (pc : Nat) : xi_ok cX10_countShort (xi_205 pc) = true := zq1 xi_w205
noncomputable def zi_206_0 : ZIs := [(0, ev_13), (1, ev_21), (2, ev_197), (3, ev_198), (4, ev_814), (7, ev_13), (8, ev_1044), (11, ev_1045), (14, ev_1047), (17, ev_12), (19, ev_13), (20, ev_1044), (23, ev_993), (26, ev_252), (27, ev_152), (28, ev_13)]
noncomputable def zi_206_1 : ZIs := [(29, ev_430), (32, ev_12), (34, ev_154), (35, ev_58), (37, ev_150), (39, ev_460), (41, ev_176), (43, ev_907), (44, ev_1048), (47, ev_179), (48, ev_991), (49, ev_993), (52, ev_252), (53, ev_152), (54, ev_460), (56, ev_1049)]
noncomputable def zi_206_2 : ZIs := [(58, ev_469), (60, ev_150), (62, ev_355), (63, ev_16), (64, ev_907), (65, ev_1050), (68, ev_179), (69, ev_991), (70, ev_152)]
set_option maxRecDepth 100000 in
theorem xi_w206 : zall cX10_arcOfShort [zi_206_0, zi_206_1, zi_206_2] := zall_w _ _ (by decide +kernel)
noncomputable def xi_206 (pc : Nat) : XIs := cond (Nat.blt pc 29) (zx zi_206_0) (cond (Nat.blt pc 58) (zx zi_206_1) (zx zi_206_2))
theorem xi_ok206 (pc : Nat) : xi_ok cX10_arcOfShort (xi_206 pc) = true := xi_c (zq1 xi_w206) (xi_c (zq1 (zq2 xi_w206)) (zq1 (zq2 (zq2 xi_w206))))
noncomputable def zi_207_0 : ZIs := [(0, ev_13), (1, ev_434), (4, ev_21), (5, ev_947), (8, ev_1051), (11, ev_13), (12, ev_1052), (15, ev_197), (16, ev_690), (19, ev_13), (20, ev_1053), (23, ev_198), (24, ev_608), (27, ev_260), (28, ev_21), (29, ev_395)]
noncomputable def zi_207_1 : ZIs := [(32, ev_13), (33, ev_21), (34, ev_947), (37, ev_371), (40, ev_13), (41, ev_197), (42, ev_1054), (45, ev_13), (46, ev_198), (47, ev_1055), (50, ev_13), (51, ev_10), (52, ev_1056), (55, ev_13), (56, ev_21), (57, ev_197)]
noncomputable def zi_207_2 : ZIs := [(58, ev_7), (59, ev_197), (60, ev_277), (61, ev_10), (62, ev_230), (63, ev_47), (66, ev_13), (67, ev_1044), (70, ev_1045), (73, ev_886), (76, ev_13), (77, ev_1057), (80, ev_260)]
set_option maxRecDepth 100000 in
theorem xi_w207 : zall cX10_collect [zi_207_0, zi_207_1, zi_207_2] := zall_w _ _ (by decide +kernel)
noncomputable def xi_207 (pc : Nat) : XIs := cond (Nat.blt pc 32) (zx zi_207_0) (cond (Nat.blt pc 58) (zx zi_207_1) (zx zi_207_2))
theorem xi_ok207 (pc : Nat) : xi_ok cX10_collect (xi_207 pc) = true := xi_c (zq1 xi_w207) (xi_c (zq1 (zq2 xi_w207)) (zq1 (zq2 (zq2 xi_w207))))
noncomputable def zi_208_0 : ZIs := [(0, ev_21), (1, ev_1016), (4, ev_197), (5, ev_18), (6, ev_275), (8, ev_276), (10, ev_21), (11, ev_1016), (14, ev_197), (15, ev_7), (16, ev_22), (17, ev_18), (18, ev_1058), (21, ev_13), (22, ev_1044), (25, ev_1045)]
noncomputable def zi_208_1 : ZIs := [(28, ev_1059), (31, ev_12), (33, ev_32), (34, ev_1041), (37, ev_21), (38, ev_1018), (41, ev_276), (43, ev_18), (44, ev_313), (46, ev_21), (47, ev_1014), (50, ev_314), (52, ev_18), (53, ev_327), (55, ev_501), (57, ev_21)]
noncomputable def zi_208_2 : ZIs := [(58, ev_718), (61, ev_314), (63, ev_18), (64, ev_156), (65, ev_1060), (67, ev_177), (68, ev_457), (69, ev_314), (71, ev_156), (72, ev_1049), (74, ev_469), (76, ev_12), (78, ev_355), (79, ev_16), (80, ev_177), (81, ev_457)]
noncomputable def zi_208_3 : ZIs := [(82, ev_1061), (84, ev_329), (86, ev_13), (87, ev_1053), (90, ev_1062), (93, ev_13), (94, ev_430), (97, ev_13), (98, ev_1044), (101, ev_1063), (103, ev_1064), (106, ev_457), (107, ev_12), (109, ev_7), (110, ev_22), (111, ev_156)]
noncomputable def zi_208_4 : ZIs := [(112, ev_176), (114, ev_177), (115, ev_457), (116, ev_194), (117, ev_13), (118, ev_1), (119, ev_1044), (122, ev_7), (123, ev_22), (124, ev_1056), (127, ev_1065), (130, ev_198), (131, ev_329), (133, ev_303), (134, ev_7), (135, ev_20)]
noncomputable def zi_208_5 : ZIs := [(136, ev_312), (139, ev_13), (140, ev_21), (141, ev_329), (143, ev_198), (144, ev_7), (145, ev_329), (147, ev_277), (148, ev_278), (149, ev_31), (150, ev_12), (152, ev_16), (153, ev_1066), (156, ev_1012), (159, ev_13), (160, ev_21)]
noncomputable def zi_208_6 : ZIs := [(161, ev_329), (163, ev_198), (164, ev_7), (165, ev_329), (167, ev_277), (168, ev_278), (169, ev_12), (171, ev_7), (172, ev_22), (173, ev_1063), (175, ev_47), (178, ev_955), (181, ev_1067), (184, ev_260)]
set_option maxRecDepth 100000 in
theorem xi_w208 : zall cX10_gather [zi_208_0, zi_208_1, zi_208_2, zi_208_3, zi_208_4, zi_208_5, zi_208_6] := zall_w _ _ (by decide +kernel)
noncomputable def xi_208 (pc : Nat) : XIs := cond (Nat.blt pc 82) (cond (Nat.blt pc 28) (zx zi_208_0) (cond (Nat.blt pc 58) (zx zi_208_1) (zx zi_208_2))) (cond (Nat.blt pc 136) (cond (Nat.blt pc 112) (zx zi_208_3) (zx zi_208_4)) (cond (Nat.blt pc 161) (zx zi_208_5) (zx zi_208_6)))
theorem xi_ok208 (pc : Nat) : xi_ok cX10_gather (xi_208 pc) = true := xi_c (xi_c (zq1 xi_w208) (xi_c (zq1 (zq2 xi_w208)) (zq1 (zq2 (zq2 xi_w208))))) (xi_c (xi_c (zq1 (zq2 (zq2 (zq2 xi_w208)))) (zq1 (zq2 (zq2 (zq2 (zq2 xi_w208)))))) (xi_c (zq1 (zq2 (zq2 (zq2 (zq2 (zq2 xi_w208)))))) (zq1 (zq2 (zq2 (zq2 (zq2 (zq2 (zq2 xi_w208)))))))))
noncomputable def zi_209_0 : ZIs := [(0, ev_21), (1, ev_792), (4, ev_13), (5, ev_1053), (8, ev_18), (9, ev_25), (11, ev_12), (13, ev_7), (14, ev_601), (17, ev_150), (19, ev_197), (20, ev_303), (21, ev_7), (22, ev_20), (23, ev_158), (26, ev_7)]
noncomputable def zi_209_1 : ZIs := [(27, ev_152), (28, ev_21), (29, ev_1068), (32, ev_197), (33, ev_18), (34, ev_198), (35, ev_252), (36, ev_317), (37, ev_20), (38, ev_28), (40, ev_12), (42, ev_30), (43, ev_414), (46, ev_155), (48, ev_150), (50, ev_20)]
noncomputable def zi_209_2 : ZIs := [(51, ev_158), (54, ev_7), (55, ev_152), (56, ev_155), (58, ev_275), (60, ev_12), (62, ev_31), (63, ev_1069), (66, ev_276), (68, ev_1070), (71, ev_21), (72, ev_1068), (75, ev_276), (77, ev_1024), (80, ev_18), (81, ev_198)]
noncomputable def zi_209_3 : ZIs := [(82, ev_252), (83, ev_317), (84, ev_20), (85, ev_150), (87, ev_20), (88, ev_158), (91, ev_7), (92, ev_152), (93, ev_276), (95, ev_276), (97, ev_7), (98, ev_16), (99, ev_20), (100, ev_275), (102, ev_515), (105, ev_10)]
noncomputable def zi_209_4 : ZIs := [(106, ev_152)]
set_option maxRecDepth 100000 in
theorem xi_w209 : zall cX10_leads [zi_209_0, zi_209_1, zi_209_2, zi_209_3, zi_209_4] := zall_w _ _ (by decide +kernel)
noncomputable def xi_209 (pc : Nat) : XIs := cond (Nat.blt pc 51) (cond (Nat.blt pc 27) (zx zi_209_0) (zx zi_209_1)) (cond (Nat.blt pc 82) (zx zi_209_2) (cond (Nat.blt pc 106) (zx zi_209_3) (zx zi_209_4)))
theorem xi_ok209 (pc : Nat) : xi_ok cX10_leads (xi_209 pc) = true := xi_c (xi_c (zq1 xi_w209) (zq1 (zq2 xi_w209))) (xi_c (zq1 (zq2 (zq2 xi_w209))) (xi_c (zq1 (zq2 (zq2 (zq2 xi_w209)))) (zq1 (zq2 (zq2 (zq2 (zq2 xi_w209)))))))
noncomputable def zi_210_0 : ZIs := [(0, ev_7), (1, ev_685), (2, ev_192), (3, ev_13), (4, ev_1044), (7, ev_31), (8, ev_582), (9, ev_846), (12, ev_31), (13, ev_192), (14, ev_355), (15, ev_7), (16, ev_22), (17, ev_685), (18, ev_1071), (21, ev_192)]
noncomputable def zi_210_1 : ZIs := [(22, ev_1072), (25, ev_192), (26, ev_294), (27, ev_197), (28, ev_13), (29, ev_1044), (32, ev_815), (35, ev_13), (36, ev_430), (39, ev_197), (40, ev_154), (41, ev_924), (42, ev_197), (43, ev_25), (45, ev_150), (47, ev_192)]
noncomputable def zi_210_2 : ZIs := [(48, ev_1069), (51, ev_13), (52, ev_430), (55, ev_150), (57, ev_192), (58, ev_16), (59, ev_154), (60, ev_484), (61, ev_157), (62, ev_604), (65, ev_13), (66, ev_430), (69, ev_150), (71, ev_13), (72, ev_430), (75, ev_150)]
noncomputable def zi_210_3 : ZIs := [(77, ev_192), (78, ev_16), (79, ev_154), (80, ev_194), (81, ev_150), (83, ev_192), (84, ev_16), (85, ev_25), (87, ev_515), (90, ev_13), (91, ev_430), (94, ev_150), (96, ev_484), (97, ev_194), (98, ev_304), (101, ev_1020)]
noncomputable def zi_210_4 : ZIs := [(104, ev_192), (105, ev_31), (106, ev_582), (107, ev_685), (108, ev_1073), (111, ev_260)]
set_option maxRecDepth 100000 in
theorem xi_w210 : zall cX10_sortKeys [zi_210_0, zi_210_1, zi_210_2, zi_210_3, zi_210_4] := zall_w _ _ (by decide +kernel)
noncomputable def xi_210 (pc : Nat) : XIs := cond (Nat.blt pc 48) (cond (Nat.blt pc 22) (zx zi_210_0) (zx zi_210_1)) (cond (Nat.blt pc 77) (zx zi_210_2) (cond (Nat.blt pc 104) (zx zi_210_3) (zx zi_210_4)))
theorem xi_ok210 (pc : Nat) : xi_ok cX10_sortKeys (xi_210 pc) = true := xi_c (xi_c (zq1 xi_w210) (zq1 (zq2 xi_w210))) (xi_c (zq1 (zq2 (zq2 xi_w210))) (xi_c (zq1 (zq2 (zq2 (zq2 xi_w210)))) (zq1 (zq2 (zq2 (zq2 (zq2 xi_w210)))))))
noncomputable def zi_211_0 : ZIs := [(0, ev_13), (1, ev_1074), (4, ev_13), (5, ev_1075), (8, ev_1), (9, ev_1076), (12, ev_1077), (15, ev_13), (16, ev_1078), (19, ev_1), (20, ev_1079), (23, ev_368), (26, ev_13), (27, ev_252), (28, ev_1005), (31, ev_13)]
noncomputable def zi_211_1 : ZIs := [(32, ev_1080), (35, ev_1), (36, ev_1081), (39, ev_660), (42, ev_13), (43, ev_1082), (46, ev_1), (47, ev_1083), (50, ev_532), (53, ev_13), (54, ev_1084), (57, ev_1), (58, ev_1085), (61, ev_1086), (64, ev_13), (65, ev_1087)]
noncomputable def zi_211_2 : ZIs := [(68, ev_1), (69, ev_1088), (72, ev_666), (75, ev_13), (76, ev_1089), (79, ev_1), (80, ev_1090), (83, ev_543), (86, ev_13), (87, ev_1091), (90, ev_1), (91, ev_1092), (94, ev_1093), (97, ev_13), (98, ev_1094), (101, ev_1)]
noncomputable def zi_211_3 : ZIs := [(102, ev_1095), (105, ev_1096), (108, ev_13), (109, ev_1097), (112, ev_1), (113, ev_1098), (116, ev_286), (119, ev_13), (120, ev_1099), (123, ev_1), (124, ev_1100), (127, ev_1101), (130, ev_260)]
set_option maxRecDepth 100000 in
theorem xi_w211 : zall cX11_init [zi_211_0, zi_211_1, zi_211_2, zi_211_3] := zall_w _ _ (by decide +kernel)
noncomputable def xi_211 (pc : Nat) : XIs := cond (Nat.blt pc 68) (cond (Nat.blt pc 32) (zx zi_211_0) (zx zi_211_1)) (cond (Nat.blt pc 102) (zx zi_211_2) (zx zi_211_3))
theorem xi_ok211 (pc : Nat) : xi_ok cX11_init (xi_211 pc) = true := xi_c (xi_c (zq1 xi_w211) (zq1 (zq2 xi_w211))) (xi_c (zq1 (zq2 (zq2 xi_w211))) (zq1 (zq2 (zq2 (zq2 xi_w211)))))
noncomputable def zi_212_0 : ZIs := [(0, ev_192), (1, ev_964), (4, ev_856), (7, ev_13), (8, ev_1102), (11, ev_415), (14, ev_1103), (17, ev_176), (19, ev_683), (22, ev_13), (23, ev_1102), (26, ev_424), (29, ev_326), (32, ev_7), (33, ev_229), (36, ev_10)]
noncomputable def zi_212_1 : ZIs := [(37, ev_569), (40, ev_13), (41, ev_1102), (44, ev_192), (45, ev_427), (48, ev_152)]
set_option maxRecDepth 100000 in
theorem xi_w212 : zall cX11_node [zi_212_0, zi_212_1] := zall_w _ _ (by decide +kernel)
noncomputable def xi_212 (pc : Nat) : XIs := cond (Nat.blt pc 37) (zx zi_212_0) (zx zi_212_1)
theorem xi_ok212 (pc : Nat) : xi_ok cX11_node (xi_212 pc) = true := xi_c (zq1 xi_w212) (zq1 (zq2 xi_w212))
noncomputable def zi_213_0 : ZIs := [(0, ev_13), (1, ev_1102), (4, ev_192), (5, ev_197), (6, ev_198), (7, ev_12), (9, ev_150), (11, ev_735), (14, ev_856), (17, ev_13), (18, ev_1102), (21, ev_424), (24, ev_326), (27, ev_7), (28, ev_229), (31, ev_10)]
noncomputable def zi_213_1 : ZIs := [(32, ev_569), (35, ev_13), (36, ev_1102), (39, ev_192), (40, ev_197), (41, ev_198), (42, ev_12), (44, ev_150), (46, ev_243), (49, ev_152)]
set_option maxRecDepth 100000 in
theorem xi_w213 : zall cX11_arc [zi_213_0, zi_213_1] := zall_w _ _ (by decide +kernel)
noncomputable def xi_213 (pc : Nat) : XIs := cond (Nat.blt pc 32) (zx zi_213_0) (zx zi_213_1)
theorem xi_ok213 (pc : Nat) : xi_ok cX11_arc (xi_213 pc) = true := xi_c (zq1 xi_w213) (zq1 (zq2 xi_w213))
noncomputable def zi_214_0 : ZIs := [(0, ev_13), (1, ev_1102), (4, ev_415), (7, ev_192), (8, ev_919), (11, ev_856), (14, ev_13), (15, ev_1102), (18, ev_424), (21, ev_326), (24, ev_7), (25, ev_229), (28, ev_10), (29, ev_569), (32, ev_13), (33, ev_1102)]
noncomputable def zi_214_1 : ZIs := [(36, ev_192), (37, ev_432), (40, ev_13), (41, ev_1102), (44, ev_415), (47, ev_738), (50, ev_152)]
set_option maxRecDepth 100000 in
theorem xi_w214 : zall cX11_take [zi_214_0, zi_214_1] := zall_w _ _ (by decide +kernel)
noncomputable def xi_214 (pc : Nat) : XIs := cond (Nat.blt pc 36) (zx zi_214_0) (zx zi_214_1)
theorem xi_ok214 (pc : Nat) : xi_ok cX11_take (xi_214 pc) = true := xi_c (zq1 xi_w214) (zq1 (zq2 xi_w214))
noncomputable def zi_215_0 : ZIs := [(0, ev_13), (1, ev_1102), (4, ev_415), (7, ev_192), (8, ev_919), (11, ev_771), (14, ev_197), (15, ev_198), (16, ev_1104), (19, ev_227), (22, ev_7), (23, ev_229), (26, ev_10), (27, ev_856), (30, ev_13), (31, ev_1102)]
noncomputable def zi_215_1 : ZIs := [(34, ev_424), (37, ev_326), (40, ev_7), (41, ev_229), (44, ev_10), (45, ev_569), (48, ev_13), (49, ev_1102), (52, ev_415), (55, ev_192), (56, ev_197), (57, ev_747), (60, ev_11), (62, ev_13), (63, ev_1102), (66, ev_192)]
noncomputable def zi_215_2 : ZIs := [(67, ev_197), (68, ev_198), (69, ev_1105), (72, ev_12), (74, ev_152)]
set_option maxRecDepth 100000 in
theorem xi_w215 : zall cX11_set [zi_215_0, zi_215_1, zi_215_2] := zall_w _ _ (by decide +kernel)
noncomputable def xi_215 (pc : Nat) : XIs := cond (Nat.blt pc 34) (zx zi_215_0) (cond (Nat.blt pc 67) (zx zi_215_1) (zx zi_215_2))
theorem xi_ok215 (pc : Nat) : xi_ok cX11_set (xi_215 pc) = true := xi_c (zq1 xi_w215) (xi_c (zq1 (zq2 xi_w215)) (zq1 (zq2 (zq2 xi_w215))))
noncomputable def zi_216_0 : ZIs := [(0, ev_13), (1, ev_1102), (4, ev_415), (7, ev_192), (8, ev_813), (11, ev_1004), (14, ev_197), (15, ev_964), (18, ev_227), (21, ev_7), (22, ev_229), (25, ev_10), (26, ev_856), (29, ev_13), (30, ev_1102), (33, ev_424)]
noncomputable def zi_216_1 : ZIs := [(36, ev_326), (39, ev_7), (40, ev_229), (43, ev_10), (44, ev_569), (47, ev_13), (48, ev_1102), (51, ev_415), (54, ev_452), (57, ev_192), (58, ev_18), (59, ev_295), (60, ev_13), (61, ev_1102), (64, ev_192), (65, ev_197)]
noncomputable def zi_216_2 : ZIs := [(66, ev_602), (69, ev_198), (70, ev_152)]
set_option maxRecDepth 100000 in
theorem xi_w216 : zall cX11_label [zi_216_0, zi_216_1, zi_216_2] := zall_w _ _ (by decide +kernel)
noncomputable def xi_216 (pc : Nat) : XIs := cond (Nat.blt pc 36) (zx zi_216_0) (cond (Nat.blt pc 66) (zx zi_216_1) (zx zi_216_2))
theorem xi_ok216 (pc : Nat) : xi_ok cX11_label (xi_216 pc) = true := xi_c (zq1 xi_w216) (xi_c (zq1 (zq2 xi_w216)) (zq1 (zq2 (zq2 xi_w216))))
noncomputable def zi_217_0 : ZIs := [(0, ev_192), (1, ev_252), (2, ev_1106), (5, ev_192), (6, ev_13), (7, ev_1102), (10, ev_415), (13, ev_738), (16, ev_886), (19, ev_7), (20, ev_229), (23, ev_10), (24, ev_856), (27, ev_13), (28, ev_192), (29, ev_1005)]
noncomputable def zi_217_1 : ZIs := [(32, ev_192), (33, ev_252), (34, ev_742), (37, ev_13), (38, ev_1102), (41, ev_13), (42, ev_440), (45, ev_192), (46, ev_1107), (49, ev_13), (50, ev_1108), (53, ev_738), (56, ev_152)]
set_option maxRecDepth 100000 in
theorem xi_w217 : zall cX11_view [zi_217_0, zi_217_1] := zall_w _ _ (by decide +kernel)
noncomputable def xi_217 (pc : Nat) : XIs := cond (Nat.blt pc 32) (zx zi_217_0) (zx zi_217_1)
theorem xi_ok217 (pc : Nat) : xi_ok cX11_view (xi_217 pc) = true := xi_c (zq1 xi_w217) (zq1 (zq2 xi_w217))
noncomputable def zi_218_0 : ZIs := [(0, ev_13), (1, ev_1102), (4, ev_415), (7, ev_738), (10, ev_152)]
set_option maxRecDepth 100000 in
theorem xi_w218 : zall cX11_version [zi_218_0] := zall_w _ _ (by decide +kernel)
noncomputable def xi_218 (pc : Nat) : XIs := zx zi_218_0
theorem xi_ok218 (pc : Nat) : xi_ok cX11_version (xi_218 pc) = true := zq1 xi_w218
noncomputable def zi_219_0 : ZIs := [(0, ev_192), (1, ev_1109), (4, ev_192), (5, ev_31), (6, ev_886), (9, ev_7), (10, ev_229), (13, ev_10), (14, ev_856), (17, ev_13), (18, ev_1108), (21, ev_6), (22, ev_192)]
noncomputable def xi_219_1 : XIs := [(23, .tableswitch 40 0 2 #[25, 30, 35], 25)]
set_option maxRecDepth 100000 in
theorem xi_ok219_1 : xi_ok cX11_size xi_219_1 = true := by decide +kernel
noncomputable def zi_219_2 : ZIs := [(48, ev_26), (49, ev_1103), (52, ev_152), (53, ev_26), (54, ev_1110), (57, ev_152), (58, ev_26), (59, ev_1111), (62, ev_152), (63, ev_26), (64, ev_1112), (67, ev_7), (68, ev_16), (69, ev_152)]
set_option maxRecDepth 100000 in
theorem xi_w219 : zall cX11_size [zi_219_0, zi_219_2] := zall_w _ _ (by decide +kernel)
noncomputable def xi_219 (pc : Nat) : XIs := cond (Nat.blt pc 23) (zx zi_219_0) (cond (Nat.blt pc 48) (xi_219_1) (zx zi_219_2))
theorem xi_ok219 (pc : Nat) : xi_ok cX11_size (xi_219 pc) = true := xi_c (zq1 xi_w219) (xi_c (xi_ok219_1) (zq1 (zq2 xi_w219)))
noncomputable def zi_220_0 : ZIs := [(0, ev_192), (1, ev_1113), (4, ev_192), (5, ev_529), (8, ev_1114), (11, ev_197), (12, ev_1109), (15, ev_197), (16, ev_32), (17, ev_886), (20, ev_7), (21, ev_229), (24, ev_10), (25, ev_856), (28, ev_13), (29, ev_1108)]
noncomputable def zi_220_1 : ZIs := [(32, ev_9), (33, ev_23), (34, ev_192), (35, ev_919), (38, ev_326), (41, ev_1115), (44, ev_481), (45, ev_197), (46, ev_1116), (49, ev_23), (50, ev_1117), (53, ev_192), (54, ev_18), (55, ev_156), (56, ev_481), (57, ev_197)]
noncomputable def zi_220_2 : ZIs := [(58, ev_7), (59, ev_927), (62, ev_23), (63, ev_1118), (66, ev_192), (67, ev_18), (68, ev_156), (69, ev_1119), (72, ev_23), (73, ev_192), (74, ev_197), (75, ev_30), (76, ev_16), (77, ev_747), (80, ev_156), (81, ev_481)]
set_option maxRecDepth 100000 in
theorem xi_w220 : zall cX11_told [zi_220_0, zi_220_1, zi_220_2] := zall_w _ _ (by decide +kernel)
noncomputable def xi_220 (pc : Nat) : XIs := cond (Nat.blt pc 32) (zx zi_220_0) (cond (Nat.blt pc 58) (zx zi_220_1) (zx zi_220_2))
theorem xi_ok220 (pc : Nat) : xi_ok cX11_told (xi_220 pc) = true := xi_c (zq1 xi_w220) (xi_c (zq1 (zq2 xi_w220)) (zq1 (zq2 (zq2 xi_w220))))
noncomputable def zi_221_0 : ZIs := [(0, ev_13), (1, ev_1108), (4, ev_6), (5, ev_26), (6, ev_192), (7, ev_813), (10, ev_856), (13, ev_26), (14, ev_452), (17, ev_192), (18, ev_18), (19, ev_152)]
set_option maxRecDepth 100000 in
theorem xi_w221 : zall cX11_labelOf [zi_221_0] := zall_w _ _ (by decide +kernel)
noncomputable def xi_221 (pc : Nat) : XIs := zx zi_221_0
theorem xi_ok221 (pc : Nat) : xi_ok cX11_labelOf (xi_221 pc) = true := zq1 xi_w221
noncomputable def zi_222_0 : ZIs := [(0, ev_13), (1, ev_1108), (4, ev_207), (6, ev_203), (8, ev_192), (9, ev_813), (12, ev_680), (15, ev_197), (16, ev_1120), (19, ev_197), (20, ev_7), (21, ev_1121), (24, ev_198), (25, ev_831), (28, ev_7), (29, ev_229)]
noncomputable def zi_222_1 : ZIs := [(32, ev_10), (33, ev_856), (36, ev_203), (38, ev_61), (41, ev_197), (42, ev_1122), (45, ev_198), (46, ev_203), (48, ev_192), (49, ev_64), (52, ev_364), (55, ev_203), (57, ev_1123), (60, ev_203), (62, ev_1124), (65, ev_192)]
noncomputable def zi_222_2 : ZIs := [(66, ev_18), (67, ev_198), (68, ev_22), (69, ev_18), (70, ev_229), (73, ev_252), (74, ev_152), (75, ev_198), (76, ev_203), (78, ev_192), (79, ev_1125), (82, ev_364), (85, ev_203), (87, ev_1126), (90, ev_203), (92, ev_1127)]
noncomputable def zi_222_3 : ZIs := [(95, ev_192), (96, ev_18), (97, ev_198), (98, ev_22), (99, ev_18), (100, ev_229), (103, ev_252), (104, ev_152)]
set_option maxRecDepth 100000 in
theorem xi_w222 : zall cX11_arcAt [zi_222_0, zi_222_1, zi_222_2, zi_222_3] := zall_w _ _ (by decide +kernel)
noncomputable def xi_222 (pc : Nat) : XIs := cond (Nat.blt pc 66) (cond (Nat.blt pc 32) (zx zi_222_0) (zx zi_222_1)) (cond (Nat.blt pc 95) (zx zi_222_2) (zx zi_222_3))
theorem xi_ok222 (pc : Nat) : xi_ok cX11_arcAt (xi_222 pc) = true := xi_c (xi_c (zq1 xi_w222) (zq1 (zq2 xi_w222))) (xi_c (zq1 (zq2 (zq2 xi_w222))) (zq1 (zq2 (zq2 (zq2 xi_w222)))))
noncomputable def zi_223_0 : ZIs := [(0, ev_192), (1, ev_176), (3, ev_414), (6, ev_192), (7, ev_1128), (9, ev_886), (12, ev_7), (13, ev_229), (16, ev_10), (17, ev_856), (20, ev_13), (21, ev_695), (24, ev_506), (27, ev_803), (30, ev_656), (33, ev_7)]
noncomputable def zi_223_1 : ZIs := [(34, ev_229), (37, ev_10), (38, ev_569), (41, ev_13), (42, ev_695), (45, ev_1129), (48, ev_13), (49, ev_695), (52, ev_506), (55, ev_192), (56, ev_423), (57, ev_949), (58, ev_13), (59, ev_695), (62, ev_1), (63, ev_506)]
noncomputable def zi_223_2 : ZIs := [(66, ev_7), (67, ev_22), (68, ev_1130), (71, ev_13), (72, ev_695), (75, ev_506), (78, ev_152)]
set_option maxRecDepth 100000 in
theorem xi_w223 : zall cX11_type [zi_223_0, zi_223_1, zi_223_2] := zall_w _ _ (by decide +kernel)
noncomputable def xi_223 (pc : Nat) : XIs := cond (Nat.blt pc 34) (zx zi_223_0) (cond (Nat.blt pc 66) (zx zi_223_1) (zx zi_223_2))
theorem xi_ok223 (pc : Nat) : xi_ok cX11_type (xi_223 pc) = true := xi_c (zq1 xi_w223) (xi_c (zq1 (zq2 xi_w223)) (zq1 (zq2 (zq2 xi_w223))))
noncomputable def zi_224_0 : ZIs := [(0, ev_13), (1, ev_695), (4, ev_506), (7, ev_685), (8, ev_13), (9, ev_695), (12, ev_10), (13, ev_1130), (16, ev_192), (17, ev_152)]
set_option maxRecDepth 100000 in
theorem xi_w224 : zall cX11_wipe [zi_224_0] := zall_w _ _ (by decide +kernel)
noncomputable def xi_224 (pc : Nat) : XIs := zx zi_224_0
theorem xi_ok224 (pc : Nat) : xi_ok cX11_wipe (xi_224 pc) = true := zq1 xi_w224
noncomputable def zi_225_0 : ZIs := [(0, ev_13), (1, ev_1102), (4, ev_13), (5, ev_695), (8, ev_1131), (11, ev_152)]
set_option maxRecDepth 100000 in
theorem xi_w225 : zall cX11_load [zi_225_0] := zall_w _ _ (by decide +kernel)
noncomputable def xi_225 (pc : Nat) : XIs := zx zi_225_0
theorem xi_ok225 (pc : Nat) : xi_ok cX11_load (xi_225 pc) = true := zq1 xi_w225
noncomputable def zi_226_0 : ZIs := [(0, ev_192), (1, ev_1109), (4, ev_192), (5, ev_7), (6, ev_886), (9, ev_7), (10, ev_229), (13, ev_10), (14, ev_856), (17, ev_192), (18, ev_1132), (21, ev_13), (22, ev_695), (25, ev_1133), (28, ev_633), (31, ev_13)]
noncomputable def zi_226_1 : ZIs := [(32, ev_695), (35, ev_1134), (38, ev_152)]
set_option maxRecDepth 100000 in
theorem xi_w226 : zall cX11_fault [zi_226_0, zi_226_1] := zall_w _ _ (by decide +kernel)
noncomputable def xi_226 (pc : Nat) : XIs := cond (Nat.blt pc 32) (zx zi_226_0) (zx zi_226_1)
theorem xi_ok226 (pc : Nat) : xi_ok cX11_fault (xi_226 pc) = true := xi_c (zq1 xi_w226) (zq1 (zq2 xi_w226))
noncomputable def zi_227_0 : ZIs := [(0, ev_13), (1, ev_695), (4, ev_13), (5, ev_1108), (8, ev_1135), (11, ev_152)]
set_option maxRecDepth 100000 in
theorem xi_w227 : zall cX11_print [zi_227_0] := zall_w _ _ (by decide +kernel)
noncomputable def xi_227 (pc : Nat) : XIs := zx zi_227_0
theorem xi_ok227 (pc : Nat) : xi_ok cX11_print (xi_227 pc) = true := zq1 xi_w227
noncomputable def zi_228_0 : ZIs := [(0, ev_192), (1, ev_1136), (4, ev_192), (5, ev_13), (6, ev_695), (9, ev_1137), (12, ev_656), (15, ev_7), (16, ev_229), (19, ev_10), (20, ev_856), (23, ev_13), (24, ev_695), (27, ev_1138), (30, ev_192), (31, ev_881)]
noncomputable def zi_228_1 : ZIs := [(32, ev_152)]
set_option maxRecDepth 100000 in
theorem xi_w228 : zall cX11_printed [zi_228_0, zi_228_1] := zall_w _ _ (by decide +kernel)
noncomputable def xi_228 (pc : Nat) : XIs := cond (Nat.blt pc 32) (zx zi_228_0) (zx zi_228_1)
theorem xi_ok228 (pc : Nat) : xi_ok cX11_printed (xi_228 pc) = true := xi_c (zq1 xi_w228) (zq1 (zq2 xi_w228))
noncomputable def zi_229_0 : ZIs := [(0, ev_13), (1, ev_1108), (4, ev_9), (5, ev_23), (6, ev_192), (7, ev_813), (10, ev_771), (13, ev_23), (14, ev_197), (15, ev_813), (18, ev_227), (21, ev_7), (22, ev_229), (25, ev_10), (26, ev_856), (29, ev_13)]
noncomputable def zi_229_1 : ZIs := [(30, ev_586), (33, ev_23), (34, ev_192), (35, ev_197), (36, ev_1139), (39, ev_481)]
set_option maxRecDepth 100000 in
theorem xi_w229 : zall cX11_distance [zi_229_0, zi_229_1] := zall_w _ _ (by decide +kernel)
noncomputable def xi_229 (pc : Nat) : XIs := cond (Nat.blt pc 30) (zx zi_229_0) (zx zi_229_1)
theorem xi_ok229 (pc : Nat) : xi_ok cX11_distance (xi_229 pc) = true := xi_c (zq1 xi_w229) (zq1 (zq2 xi_w229))
noncomputable def zi_230_0 : ZIs := [(0, ev_13), (1, ev_1108), (4, ev_207), (6, ev_203), (8, ev_192), (9, ev_813), (12, ev_680), (15, ev_203), (17, ev_197), (18, ev_813), (21, ev_931), (24, ev_198), (25, ev_831), (28, ev_7), (29, ev_229), (32, ev_10)]
noncomputable def zi_230_1 : ZIs := [(33, ev_856), (36, ev_13), (37, ev_586), (40, ev_203), (42, ev_192), (43, ev_197), (44, ev_198), (45, ev_109), (48, ev_152)]
set_option maxRecDepth 100000 in
theorem xi_w230 : zall cX11_way [zi_230_0, zi_230_1] := zall_w _ _ (by decide +kernel)
noncomputable def xi_230 (pc : Nat) : XIs := cond (Nat.blt pc 33) (zx zi_230_0) (zx zi_230_1)
theorem xi_ok230 (pc : Nat) : xi_ok cX11_way (xi_230 pc) = true := xi_c (zq1 xi_w230) (zq1 (zq2 xi_w230))
noncomputable def zi_231_0 : ZIs := [(0, ev_13), (1, ev_1108), (4, ev_9), (5, ev_23), (6, ev_192), (7, ev_813), (10, ev_771), (13, ev_23), (14, ev_197), (15, ev_813), (18, ev_227), (21, ev_7), (22, ev_229), (25, ev_10), (26, ev_856), (29, ev_13)]
noncomputable def zi_231_1 : ZIs := [(30, ev_586), (33, ev_23), (34, ev_192), (35, ev_197), (36, ev_1140), (39, ev_152)]
set_option maxRecDepth 100000 in
theorem xi_w231 : zall cX11_width [zi_231_0, zi_231_1] := zall_w _ _ (by decide +kernel)
noncomputable def xi_231 (pc : Nat) : XIs := cond (Nat.blt pc 30) (zx zi_231_0) (zx zi_231_1)
theorem xi_ok231 (pc : Nat) : xi_ok cX11_width (xi_231 pc) = true := xi_c (zq1 xi_w231) (zq1 (zq2 xi_w231))
noncomputable def zi_232_0 : ZIs := [(0, ev_13), (1, ev_1108), (4, ev_9), (5, ev_23), (6, ev_192), (7, ev_197), (8, ev_1141), (11, ev_856), (14, ev_13), (15, ev_586), (18, ev_23), (19, ev_192), (20, ev_197), (21, ev_1142), (24, ev_152)]
set_option maxRecDepth 100000 in
theorem xi_w232 : zall cX11_shorts [zi_232_0] := zall_w _ _ (by decide +kernel)
noncomputable def xi_232 (pc : Nat) : XIs := zx zi_232_0
theorem xi_ok232 (pc : Nat) : xi_ok cX11_shorts (xi_232 pc) = true := zq1 xi_w232
noncomputable def zi_233_0 : ZIs := [(0, ev_13), (1, ev_1108), (4, ev_205), (6, ev_222), (8, ev_192), (9, ev_197), (10, ev_1141), (13, ev_417), (16, ev_198), (17, ev_1109), (20, ev_12), (22, ev_831), (25, ev_7), (26, ev_229), (29, ev_10), (30, ev_856)]
noncomputable def zi_233_1 : ZIs := [(33, ev_13), (34, ev_586), (37, ev_222), (39, ev_192), (40, ev_197), (41, ev_198), (42, ev_12), (44, ev_1143), (47, ev_152)]
set_option maxRecDepth 100000 in
theorem xi_w233 : zall cX11_shortArc [zi_233_0, zi_233_1] := zall_w _ _ (by decide +kernel)
noncomputable def xi_233 (pc : Nat) : XIs := cond (Nat.blt pc 33) (zx zi_233_0) (zx zi_233_1)
theorem xi_ok233 (pc : Nat) : xi_ok cX11_shortArc (xi_233 pc) = true := xi_c (zq1 xi_w233) (zq1 (zq2 xi_w233))
noncomputable def zi_234_0 : ZIs := [(0, ev_13), (1, ev_1108), (4, ev_9), (5, ev_192), (6, ev_1144), (9, ev_192), (10, ev_7), (11, ev_1145), (14, ev_23), (15, ev_197), (16, ev_813), (19, ev_227), (22, ev_7), (23, ev_229), (26, ev_10), (27, ev_856)]
noncomputable def zi_234_1 : ZIs := [(30, ev_192), (31, ev_153), (34, ev_13), (35, ev_1146), (38, ev_23), (39, ev_197), (40, ev_127), (43, ev_1119), (46, ev_13), (47, ev_1146), (50, ev_23), (51, ev_197), (52, ev_1147), (55, ev_152)]
set_option maxRecDepth 100000 in
theorem xi_w234 : zall cX11_part [zi_234_0, zi_234_1] := zall_w _ _ (by decide +kernel)
noncomputable def xi_234 (pc : Nat) : XIs := cond (Nat.blt pc 30) (zx zi_234_0) (zx zi_234_1)
theorem xi_ok234 (pc : Nat) : xi_ok cX11_part (xi_234 pc) = true := xi_c (zq1 xi_w234) (zq1 (zq2 xi_w234))
noncomputable def zi_235_0 : ZIs := [(0, ev_13), (1, ev_1108), (4, ev_6), (5, ev_26), (6, ev_192), (7, ev_919), (10, ev_856), (13, ev_13), (14, ev_1146), (17, ev_26), (18, ev_192), (19, ev_1148), (22, ev_152)]
set_option maxRecDepth 100000 in
theorem xi_w235 : zall cX11_bridge [zi_235_0] := zall_w _ _ (by decide +kernel)
noncomputable def xi_235 (pc : Nat) : XIs := zx zi_235_0
theorem xi_ok235 (pc : Nat) : xi_ok cX11_bridge (xi_235 pc) = true := zq1 xi_w235
noncomputable def zi_236_0 : ZIs := [(0, ev_13), (1, ev_1108), (4, ev_6), (5, ev_26), (6, ev_192), (7, ev_813), (10, ev_856), (13, ev_13), (14, ev_1146), (17, ev_26), (18, ev_192), (19, ev_1149), (22, ev_152)]
set_option maxRecDepth 100000 in
theorem xi_w236 : zall cX11_cut [zi_236_0] := zall_w _ _ (by decide +kernel)
noncomputable def xi_236 (pc : Nat) : XIs := zx zi_236_0
theorem xi_ok236 (pc : Nat) : xi_ok cX11_cut (xi_236 pc) = true := zq1 xi_w236
noncomputable def zi_237_0 : ZIs := [(0, ev_192), (1, ev_831), (4, ev_7), (5, ev_229), (8, ev_10), (9, ev_856), (12, ev_13), (13, ev_1146), (16, ev_13), (17, ev_1108), (20, ev_192), (21, ev_1150), (24, ev_152)]
set_option maxRecDepth 100000 in
theorem xi_w237 : zall cX11_order [zi_237_0] := zall_w _ _ (by decide +kernel)
noncomputable def xi_237 (pc : Nat) : XIs := zx zi_237_0
theorem xi_ok237 (pc : Nat) : xi_ok cX11_order (xi_237 pc) = true := zq1 xi_w237
noncomputable def zi_238_0 : ZIs := [(0, ev_13), (1, ev_1108), (4, ev_6), (5, ev_26), (6, ev_192), (7, ev_813), (10, ev_856), (13, ev_13), (14, ev_1146), (17, ev_26), (18, ev_192), (19, ev_1151), (22, ev_152)]
set_option maxRecDepth 100000 in
theorem xi_w238 : zall cX11_core [zi_238_0] := zall_w _ _ (by decide +kernel)
noncomputable def xi_238 (pc : Nat) : XIs := zx zi_238_0
theorem xi_ok238 (pc : Nat) : xi_ok cX11_core (xi_238 pc) = true := zq1 xi_w238
noncomputable def zi_239_0 : ZIs := [(0, ev_192), (1, ev_831), (4, ev_7), (5, ev_229), (8, ev_10), (9, ev_856), (12, ev_13), (13, ev_694), (16, ev_13), (17, ev_1108), (20, ev_1152), (23, ev_294), (24, ev_192), (25, ev_197), (26, ev_1153), (29, ev_993)]
noncomputable def zi_239_1 : ZIs := [(32, ev_252), (33, ev_152), (34, ev_10), (35, ev_295), (36, ev_198), (37, ev_192), (38, ev_1154), (41, ev_197), (42, ev_197), (43, ev_7), (44, ev_16), (45, ev_20), (46, ev_294), (47, ev_300), (50, ev_1155), (53, ev_197)]
noncomputable def zi_239_2 : ZIs := [(54, ev_1156), (57, ev_152)]
set_option maxRecDepth 100000 in
theorem xi_w239 : zall cX11_clique [zi_239_0, zi_239_1, zi_239_2] := zall_w _ _ (by decide +kernel)
noncomputable def xi_239 (pc : Nat) : XIs := cond (Nat.blt pc 32) (zx zi_239_0) (cond (Nat.blt pc 54) (zx zi_239_1) (zx zi_239_2))
theorem xi_ok239 (pc : Nat) : xi_ok cX11_clique (xi_239 pc) = true := xi_c (zq1 xi_w239) (xi_c (zq1 (zq2 xi_w239)) (zq1 (zq2 (zq2 xi_w239))))
noncomputable def zi_240_0 : ZIs := [(0, ev_13), (1, ev_1108), (4, ev_6), (5, ev_26), (6, ev_192), (7, ev_813), (10, ev_856), (13, ev_13), (14, ev_694), (17, ev_26), (18, ev_192), (19, ev_1157), (22, ev_152)]
set_option maxRecDepth 100000 in
theorem xi_w240 : zall cX11_colour [zi_240_0] := zall_w _ _ (by decide +kernel)
noncomputable def xi_240 (pc : Nat) : XIs := zx zi_240_0
theorem xi_ok240 (pc : Nat) : xi_ok cX11_colour (xi_240 pc) = true := zq1 xi_w240
noncomputable def zi_241_0 : ZIs := [(0, ev_13), (1, ev_1108), (4, ev_9), (5, ev_23), (6, ev_192), (7, ev_197), (8, ev_1141), (11, ev_856), (14, ev_13), (15, ev_539), (18, ev_23), (19, ev_192), (20, ev_197), (21, ev_167), (24, ev_481)]
set_option maxRecDepth 100000 in
theorem xi_w241 : zall cX11_flow [zi_241_0] := zall_w _ _ (by decide +kernel)
noncomputable def xi_241 (pc : Nat) : XIs := zx zi_241_0
theorem xi_ok241 (pc : Nat) : xi_ok cX11_flow (xi_241 pc) = true := zq1 xi_w241
noncomputable def zi_242_0 : ZIs := [(0, ev_13), (1, ev_1108), (4, ev_207), (6, ev_203), (8, ev_192), (9, ev_197), (10, ev_1141), (13, ev_417), (16, ev_203), (18, ev_198), (19, ev_813), (22, ev_227), (25, ev_7), (26, ev_229), (29, ev_10), (30, ev_856)]
noncomputable def zi_242_1 : ZIs := [(33, ev_13), (34, ev_539), (37, ev_203), (39, ev_192), (40, ev_197), (41, ev_167), (44, ev_161), (45, ev_13), (46, ev_539), (49, ev_1158), (52, ev_198), (53, ev_303), (54, ev_7), (55, ev_20), (56, ev_227), (59, ev_7)]
noncomputable def zi_242_2 : ZIs := [(60, ev_229), (63, ev_10), (64, ev_152)]
set_option maxRecDepth 100000 in
theorem xi_w242 : zall cX11_side [zi_242_0, zi_242_1, zi_242_2] := zall_w _ _ (by decide +kernel)
noncomputable def xi_242 (pc : Nat) : XIs := cond (Nat.blt pc 33) (zx zi_242_0) (cond (Nat.blt pc 60) (zx zi_242_1) (zx zi_242_2))
theorem xi_ok242 (pc : Nat) : xi_ok cX11_side (xi_242 pc) = true := xi_c (zq1 xi_w242) (xi_c (zq1 (zq2 xi_w242)) (zq1 (zq2 (zq2 xi_w242))))
noncomputable def zi_243_0 : ZIs := [(0, ev_13), (1, ev_1108), (4, ev_207), (6, ev_203), (8, ev_192), (9, ev_197), (10, ev_1141), (13, ev_393), (16, ev_198), (17, ev_1159), (20, ev_198), (21, ev_1160), (24, ev_886), (27, ev_7), (28, ev_229), (31, ev_10)]
noncomputable def zi_243_1 : ZIs := [(32, ev_856), (35, ev_13), (36, ev_539), (39, ev_203), (41, ev_192), (42, ev_197), (43, ev_198), (44, ev_173), (47, ev_481)]
set_option maxRecDepth 100000 in
theorem xi_w243 : zall cX11_cost [zi_243_0, zi_243_1] := zall_w _ _ (by decide +kernel)
noncomputable def xi_243 (pc : Nat) : XIs := cond (Nat.blt pc 32) (zx zi_243_0) (zx zi_243_1)
theorem xi_ok243 (pc : Nat) : xi_ok cX11_cost (xi_243 pc) = true := xi_c (zq1 xi_w243) (zq1 (zq2 xi_w243))
noncomputable def zi_244_0 : ZIs := [(0, ev_192), (1, ev_1109), (4, ev_192), (5, ev_7), (6, ev_886), (9, ev_7), (10, ev_229), (13, ev_10), (14, ev_856), (17, ev_13), (18, ev_539), (21, ev_13), (22, ev_1108), (25, ev_1161), (28, ev_192), (29, ev_390)]
noncomputable def zi_244_1 : ZIs := [(32, ev_13), (33, ev_539), (36, ev_1162), (39, ev_156), (40, ev_633), (43, ev_13), (44, ev_539), (47, ev_1163), (50, ev_481)]
set_option maxRecDepth 100000 in
theorem xi_w244 : zall cX11_pairing [zi_244_0, zi_244_1] := zall_w _ _ (by decide +kernel)
noncomputable def xi_244 (pc : Nat) : XIs := cond (Nat.blt pc 32) (zx zi_244_0) (zx zi_244_1)
theorem xi_ok244 (pc : Nat) : xi_ok cX11_pairing (xi_244 pc) = true := xi_c (zq1 xi_w244) (zq1 (zq2 xi_w244))
noncomputable def zi_245_0 : ZIs := [(0, ev_13), (1, ev_1108), (4, ev_6), (5, ev_26), (6, ev_192), (7, ev_813), (10, ev_856), (13, ev_13), (14, ev_1164), (17, ev_26), (18, ev_192), (19, ev_188), (22, ev_481)]
set_option maxRecDepth 100000 in
theorem xi_w245 : zall cX11_tree [zi_245_0] := zall_w _ _ (by decide +kernel)
noncomputable def xi_245 (pc : Nat) : XIs := zx zi_245_0
theorem xi_ok245 (pc : Nat) : xi_ok cX11_tree (xi_245 pc) = true := zq1 xi_w245
noncomputable def zi_246_0 : ZIs := [(0, ev_13), (1, ev_1108), (4, ev_6), (5, ev_26), (6, ev_192), (7, ev_919), (10, ev_856), (13, ev_13), (14, ev_1164), (17, ev_26), (18, ev_192), (19, ev_1165), (22, ev_152)]
set_option maxRecDepth 100000 in
theorem xi_w246 : zall cX11_span [zi_246_0] := zall_w _ _ (by decide +kernel)
noncomputable def xi_246 (pc : Nat) : XIs := zx zi_246_0
theorem xi_ok246 (pc : Nat) : xi_ok cX11_span (xi_246 pc) = true := zq1 xi_w246
noncomputable def zi_247_0 : ZIs := [(0, ev_13), (1, ev_1164), (4, ev_13), (5, ev_1108), (8, ev_1166), (11, ev_152)]
set_option maxRecDepth 100000 in
theorem xi_w247 : zall cX11_trees [zi_247_0] := zall_w _ _ (by decide +kernel)
noncomputable def xi_247 (pc : Nat) : XIs := zx zi_247_0
theorem xi_ok247 (pc : Nat) : xi_ok cX11_trees (xi_247 pc) = true := zq1 xi_w247
noncomputable def zi_248_0 : ZIs := [(0, ev_13), (1, ev_1108), (4, ev_9), (5, ev_23), (6, ev_192), (7, ev_813), (10, ev_1167), (13, ev_197), (14, ev_1168), (17, ev_197), (18, ev_412), (20, ev_886), (23, ev_7), (24, ev_229), (27, ev_10), (28, ev_856)]
noncomputable def zi_248_1 : ZIs := [(31, ev_13), (32, ev_958), (35, ev_23), (36, ev_192), (37, ev_197), (38, ev_1169), (41, ev_481)]
set_option maxRecDepth 100000 in
theorem xi_w248 : zall cX11_rank [zi_248_0, zi_248_1] := zall_w _ _ (by decide +kernel)
noncomputable def xi_248 (pc : Nat) : XIs := cond (Nat.blt pc 31) (zx zi_248_0) (zx zi_248_1)
theorem xi_ok248 (pc : Nat) : xi_ok cX11_rank (xi_248 pc) = true := xi_c (zq1 xi_w248) (zq1 (zq2 xi_w248))
noncomputable def zi_249_0 : ZIs := [(0, ev_13), (1, ev_1108), (4, ev_205), (6, ev_222), (8, ev_192), (9, ev_813), (12, ev_859), (15, ev_222), (17, ev_197), (18, ev_813), (21, ev_1170), (24, ev_198), (25, ev_1171), (28, ev_198), (29, ev_30), (30, ev_933)]
noncomputable def zi_249_1 : ZIs := [(33, ev_222), (35, ev_12), (37, ev_813), (40, ev_227), (43, ev_7), (44, ev_229), (47, ev_10), (48, ev_856), (51, ev_198), (52, ev_153), (55, ev_13), (56, ev_586), (59, ev_222), (61, ev_192), (62, ev_197), (63, ev_1172)]
noncomputable def zi_249_2 : ZIs := [(66, ev_152), (67, ev_198), (68, ev_7), (69, ev_755), (72, ev_13), (73, ev_586), (76, ev_222), (78, ev_192), (79, ev_197), (80, ev_192), (81, ev_1173), (84, ev_759), (87, ev_13), (88, ev_586), (91, ev_222), (93, ev_192)]
noncomputable def zi_249_3 : ZIs := [(94, ev_197), (95, ev_12), (97, ev_1173), (100, ev_152)]
set_option maxRecDepth 100000 in
theorem xi_w249 : zall cX11_shortest [zi_249_0, zi_249_1, zi_249_2, zi_249_3] := zall_w _ _ (by decide +kernel)
noncomputable def xi_249 (pc : Nat) : XIs := cond (Nat.blt pc 66) (cond (Nat.blt pc 33) (zx zi_249_0) (zx zi_249_1)) (cond (Nat.blt pc 94) (zx zi_249_2) (zx zi_249_3))
theorem xi_ok249 (pc : Nat) : xi_ok cX11_shortest (xi_249 pc) = true := xi_c (xi_c (zq1 xi_w249) (zq1 (zq2 xi_w249))) (xi_c (zq1 (zq2 (zq2 xi_w249))) (zq1 (zq2 (zq2 (zq2 xi_w249)))))
noncomputable def zi_250_0 : ZIs := [(0, ev_13), (1, ev_1108), (4, ev_6), (5, ev_26), (6, ev_192), (7, ev_813), (10, ev_856), (13, ev_13), (14, ev_958), (17, ev_26), (18, ev_192), (19, ev_1174), (22, ev_152)]
set_option maxRecDepth 100000 in
theorem xi_w250 : zall cX11_group [zi_250_0] := zall_w _ _ (by decide +kernel)
noncomputable def xi_250 (pc : Nat) : XIs := zx zi_250_0
theorem xi_ok250 (pc : Nat) : xi_ok cX11_group (xi_250 pc) = true := zq1 xi_w250
noncomputable def zi_251_0 : ZIs := [(0, ev_13), (1, ev_958), (4, ev_13), (5, ev_1108), (8, ev_1175), (11, ev_481)]
set_option maxRecDepth 100000 in
theorem xi_w251 : zall cX11_gain [zi_251_0] := zall_w _ _ (by decide +kernel)
noncomputable def xi_251 (pc : Nat) : XIs := zx zi_251_0
theorem xi_ok251 (pc : Nat) : xi_ok cX11_gain (xi_251 pc) = true := zq1 xi_w251
noncomputable def zi_252_0 : ZIs := [(0, ev_192), (1, ev_1109), (4, ev_192), (5, ev_7), (6, ev_886), (9, ev_7), (10, ev_229), (13, ev_10), (14, ev_856), (17, ev_192), (18, ev_807), (21, ev_13), (22, ev_1146), (25, ev_13), (26, ev_1108), (29, ev_1176)]
noncomputable def zi_252_1 : ZIs := [(32, ev_1177), (35, ev_13), (36, ev_1146), (39, ev_13), (40, ev_1108), (43, ev_1178), (46, ev_481)]
set_option maxRecDepth 100000 in
theorem xi_w252 : zall cX11_figures [zi_252_0, zi_252_1] := zall_w _ _ (by decide +kernel)
noncomputable def xi_252 (pc : Nat) : XIs := cond (Nat.blt pc 32) (zx zi_252_0) (zx zi_252_1)
theorem xi_ok252 (pc : Nat) : xi_ok cX11_figures (xi_252 pc) = true := xi_c (zq1 xi_w252) (zq1 (zq2 xi_w252))
noncomputable def zi_253_0 : ZIs := [(0, ev_13), (1, ev_307), (4, ev_13), (5, ev_695), (8, ev_1179), (11, ev_227), (14, ev_10), (15, ev_638), (18, ev_808), (20, ev_152)]
set_option maxRecDepth 100000 in
theorem xi_w253 : zall cX11_pattern [zi_253_0] := zall_w _ _ (by decide +kernel)
noncomputable def xi_253 (pc : Nat) : XIs := zx zi_253_0
theorem xi_ok253 (pc : Nat) : xi_ok cX11_pattern (xi_253 pc) = true := zq1 xi_w253
noncomputable def zi_254_0 : ZIs := [(0, ev_13), (1, ev_1108), (4, ev_9), (5, ev_23), (6, ev_192), (7, ev_813), (10, ev_771), (13, ev_23), (14, ev_197), (15, ev_813), (18, ev_227), (21, ev_7), (22, ev_229), (25, ev_10), (26, ev_856), (29, ev_13)]
noncomputable def zi_254_1 : ZIs := [(30, ev_307), (33, ev_23), (34, ev_192), (35, ev_197), (36, ev_1180), (39, ev_152)]
set_option maxRecDepth 100000 in
theorem xi_w254 : zall cX11_fits [zi_254_0, zi_254_1] := zall_w _ _ (by decide +kernel)
noncomputable def xi_254 (pc : Nat) : XIs := cond (Nat.blt pc 30) (zx zi_254_0) (zx zi_254_1)
theorem xi_ok254 (pc : Nat) : xi_ok cX11_fits (xi_254 pc) = true := xi_c (zq1 xi_w254) (zq1 (zq2 xi_w254))
noncomputable def zi_255_0 : ZIs := [(0, ev_13), (1, ev_1181), (4, ev_13), (5, ev_695), (8, ev_1182), (11, ev_227), (14, ev_10), (15, ev_638), (18, ev_808), (20, ev_152)]
set_option maxRecDepth 100000 in
theorem xi_w255 : zall cX11_program [zi_255_0] := zall_w _ _ (by decide +kernel)
noncomputable def xi_255 (pc : Nat) : XIs := zx zi_255_0
theorem xi_ok255 (pc : Nat) : xi_ok cX11_program (xi_255 pc) = true := zq1 xi_w255
noncomputable def zi_256_0 : ZIs := [(0, ev_192), (1, ev_1183), (4, ev_192), (5, ev_1184), (8, ev_1185), (11, ev_197), (12, ev_7), (13, ev_1186), (16, ev_197), (17, ev_32), (18, ev_933), (21, ev_198), (22, ev_1168), (25, ev_198), (26, ev_1187), (28, ev_886)]
noncomputable def zi_256_1 : ZIs := [(31, ev_7), (32, ev_229), (35, ev_10), (36, ev_856), (39, ev_13), (40, ev_1108), (43, ev_224), (45, ev_13), (46, ev_1181), (49, ev_196), (51, ev_192), (52, ev_1188), (55, ev_275), (57, ev_13), (58, ev_1181), (61, ev_196)]
noncomputable def zi_256_2 : ZIs := [(63, ev_276), (65, ev_197), (66, ev_198), (67, ev_247), (69, ev_1189), (72, ev_276), (74, ev_152)]
set_option maxRecDepth 100000 in
theorem xi_w256 : zall cX11_run [zi_256_0, zi_256_1, zi_256_2] := zall_w _ _ (by decide +kernel)
noncomputable def xi_256 (pc : Nat) : XIs := cond (Nat.blt pc 31) (zx zi_256_0) (cond (Nat.blt pc 63) (zx zi_256_1) (zx zi_256_2))
theorem xi_ok256 (pc : Nat) : xi_ok cX11_run (xi_256 pc) = true := xi_c (zq1 xi_w256) (xi_c (zq1 (zq2 xi_w256)) (zq1 (zq2 (zq2 xi_w256))))
noncomputable def zi_257_0 : ZIs := [(0, ev_192), (1, ev_1136), (4, ev_192), (5, ev_13), (6, ev_1181), (9, ev_1190), (12, ev_656), (15, ev_7), (16, ev_229), (19, ev_10), (20, ev_856), (23, ev_13), (24, ev_1181), (27, ev_1191), (30, ev_192), (31, ev_154)]
noncomputable def zi_257_1 : ZIs := [(32, ev_481)]
set_option maxRecDepth 100000 in
theorem xi_w257 : zall cX11_state [zi_257_0, zi_257_1] := zall_w _ _ (by decide +kernel)
noncomputable def xi_257 (pc : Nat) : XIs := cond (Nat.blt pc 32) (zx zi_257_0) (zx zi_257_1)
theorem xi_ok257 (pc : Nat) : xi_ok cX11_state (xi_257 pc) = true := xi_c (zq1 xi_w257) (zq1 (zq2 xi_w257))
noncomputable def zi_258_0 : ZIs := [(0, ev_192), (1, ev_1109), (4, ev_192), (5, ev_30), (6, ev_886), (9, ev_7), (10, ev_229), (13, ev_10), (14, ev_856), (17, ev_192), (18, ev_1116), (21, ev_13), (22, ev_1181), (25, ev_1192), (28, ev_152), (29, ev_192)]
noncomputable def zi_258_1 : ZIs := [(30, ev_7), (31, ev_927), (34, ev_13), (35, ev_1181), (38, ev_1193), (41, ev_633), (44, ev_13), (45, ev_1181), (48, ev_1194), (51, ev_152)]
set_option maxRecDepth 100000 in
theorem xi_w258 : zall cX11_letters [zi_258_0, zi_258_1] := zall_w _ _ (by decide +kernel)
noncomputable def xi_258 (pc : Nat) : XIs := cond (Nat.blt pc 30) (zx zi_258_0) (zx zi_258_1)
theorem xi_ok258 (pc : Nat) : xi_ok cX11_letters (xi_258 pc) = true := xi_c (zq1 xi_w258) (zq1 (zq2 xi_w258))
noncomputable def zi_259_0 : ZIs := [(0, ev_13), (1, ev_1038), (4, ev_252), (5, ev_927), (8, ev_13), (9, ev_1102), (12, ev_415), (15, ev_212), (18, ev_13), (19, ev_440), (22, ev_823)]
set_option maxRecDepth 100000 in
theorem xi_w259 : zall cX11_graph [zi_259_0] := zall_w _ _ (by decide +kernel)
noncomputable def xi_259 (pc : Nat) : XIs := zx zi_259_0
theorem xi_ok259 (pc : Nat) : xi_ok cX11_graph (xi_259 pc) = true := zq1 xi_w259
noncomputable def zi_260_0 : ZIs := [(0, ev_482), (1, ev_1168), (4, ev_482), (5, ev_874), (7, ev_656), (10, ev_7), (11, ev_229), (14, ev_10), (15, ev_152)]
set_option maxRecDepth 100000 in
theorem xi_w260 : zall cX11_isLetter [zi_260_0] := zall_w _ _ (by decide +kernel)
noncomputable def xi_260 (pc : Nat) : XIs := zx zi_260_0
theorem xi_ok260 (pc : Nat) : xi_ok cX11_isLetter (xi_260 pc) = true := zq1 xi_w260
noncomputable def zi_261_0 : ZIs := [(0, ev_482), (1, ev_1195), (4, ev_601), (7, ev_482), (8, ev_1196), (11, ev_886), (14, ev_7), (15, ev_229), (18, ev_10), (19, ev_152)]
set_option maxRecDepth 100000 in
theorem xi_w261 : zall cX11_isWeight [zi_261_0] := zall_w _ _ (by decide +kernel)
noncomputable def xi_261 (pc : Nat) : XIs := zx zi_261_0
theorem xi_ok261 (pc : Nat) : xi_ok cX11_isWeight (xi_261 pc) = true := zq1 xi_w261
noncomputable def zi_262_0 : ZIs := [(0, ev_482), (1, ev_1159), (4, ev_482), (5, ev_1196), (8, ev_886), (11, ev_7), (12, ev_229), (15, ev_10), (16, ev_152)]
set_option maxRecDepth 100000 in
theorem xi_w262 : zall cX11_isRoom [zi_262_0] := zall_w _ _ (by decide +kernel)
noncomputable def xi_262 (pc : Nat) : XIs := zx zi_262_0
theorem xi_ok262 (pc : Nat) : xi_ok cX11_isRoom (xi_262 pc) = true := zq1 xi_w262
noncomputable def zi_263_0 : ZIs := [(0, ev_482), (1, ev_852), (4, ev_192), (5, ev_1197), (8, ev_152), (9, ev_482), (10, ev_7), (11, ev_540), (14, ev_192), (15, ev_1198), (18, ev_152), (19, ev_482), (20, ev_30), (21, ev_798), (24, ev_192), (25, ev_964)]
noncomputable def zi_263_1 : ZIs := [(28, ev_227), (31, ev_7), (32, ev_229), (35, ev_10), (36, ev_152)]
set_option maxRecDepth 100000 in
theorem xi_w263 : zall cX11_isGoodValue [zi_263_0, zi_263_1] := zall_w _ _ (by decide +kernel)
noncomputable def xi_263 (pc : Nat) : XIs := cond (Nat.blt pc 28) (zx zi_263_0) (zx zi_263_1)
theorem xi_ok263 (pc : Nat) : xi_ok cX11_isGoodValue (xi_263 pc) = true := xi_c (zq1 xi_w263) (zq1 (zq2 xi_w263))
noncomputable def zi_264_0 : ZIs := [(0, ev_482), (1, ev_482), (2, ev_310), (3, ev_20), (4, ev_7), (5, ev_16), (6, ev_1153), (9, ev_152)]
set_option maxRecDepth 100000 in
theorem xi_w264 : zall cX11_lowest [zi_264_0] := zall_w _ _ (by decide +kernel)
noncomputable def xi_264 (pc : Nat) : XIs := zx zi_264_0
theorem xi_ok264 (pc : Nat) : xi_ok cX11_lowest (xi_264 pc) = true := zq1 xi_w264
noncomputable def zi_265_0 : ZIs := [(0, ev_487), (1, ev_487), (2, ev_476), (3, ev_179), (4, ev_228), (5, ev_485), (6, ev_1199), (9, ev_152)]
set_option maxRecDepth 100000 in
theorem xi_w265 : zall cX11_lowestOfLong [zi_265_0] := zall_w _ _ (by decide +kernel)
noncomputable def xi_265 (pc : Nat) : XIs := zx zi_265_0
theorem xi_ok265 (pc : Nat) : xi_ok cX11_lowestOfLong (xi_265 pc) = true := zq1 xi_w265
noncomputable def zi_266_0 : ZIs := [(0, ev_192), (1, ev_295), (2, ev_192), (3, ev_11), (5, ev_10), (6, ev_25), (8, ev_150), (10, ev_176), (12, ev_1200), (15, ev_12), (17, ev_1201), (20, ev_13), (21, ev_12), (23, ev_1156), (26, ev_18), (27, ev_197)]
noncomputable def zi_266_1 : ZIs := [(28, ev_20), (29, ev_198), (30, ev_252), (31, ev_317), (32, ev_20), (33, ev_28), (35, ev_12), (37, ev_12), (39, ev_7), (40, ev_16), (41, ev_20), (42, ev_11), (44, ev_12), (46, ev_155), (48, ev_278), (49, ev_11)]
noncomputable def zi_266_2 : ZIs := [(51, ev_198), (52, ev_155), (54, ev_278), (55, ev_295), (56, ev_343), (59, ev_908), (62, ev_198), (63, ev_152)]
set_option maxRecDepth 100000 in
theorem xi_w266 : zall cX11_flood [zi_266_0, zi_266_1, zi_266_2] := zall_w _ _ (by decide +kernel)
noncomputable def xi_266 (pc : Nat) : XIs := cond (Nat.blt pc 28) (zx zi_266_0) (cond (Nat.blt pc 51) (zx zi_266_1) (zx zi_266_2))
theorem xi_ok266 (pc : Nat) : xi_ok cX11_flood (xi_266 pc) = true := xi_c (zq1 xi_w266) (xi_c (zq1 (zq2 xi_w266)) (zq1 (zq2 (zq2 xi_w266))))
noncomputable def zi_267_0 : ZIs := [(0, ev_13), (1, ev_1074), (4, ev_13), (5, ev_31), (6, ev_255), (8, ev_1202), (11, ev_13), (12, ev_1203), (14, ev_255), (16, ev_1204), (19, ev_13), (20, ev_1205), (23, ev_1206), (25, ev_1207), (28, ev_13), (29, ev_1205)]
noncomputable def zi_267_1 : ZIs := [(32, ev_255), (34, ev_1208), (37, ev_13), (38, ev_1205), (41, ev_255), (43, ev_1005), (46, ev_13), (47, ev_1205), (50, ev_255), (52, ev_1006), (55, ev_13), (56, ev_1205), (59, ev_255), (61, ev_370), (64, ev_13), (65, ev_1205)]
noncomputable def zi_267_2 : ZIs := [(68, ev_255), (70, ev_371), (73, ev_13), (74, ev_765), (77, ev_255), (79, ev_372), (82, ev_13), (83, ev_765), (86, ev_255), (88, ev_704), (91, ev_13), (92, ev_765), (95, ev_255), (97, ev_953), (100, ev_13), (101, ev_765)]
noncomputable def zi_267_3 : ZIs := [(104, ev_255), (106, ev_1086), (109, ev_13), (110, ev_765), (113, ev_255), (115, ev_535), (118, ev_13), (119, ev_765), (122, ev_255), (124, ev_376), (127, ev_13), (128, ev_765), (131, ev_255), (133, ev_1209), (136, ev_13), (137, ev_252)]
noncomputable def zi_267_4 : ZIs := [(138, ev_1210), (141, ev_13), (142, ev_803), (145, ev_255), (147, ev_1211), (150, ev_13), (151, ev_1212), (154, ev_255), (156, ev_1213), (159, ev_13), (160, ev_1214), (163, ev_255), (165, ev_1215), (168, ev_13), (169, ev_1216), (172, ev_255)]
noncomputable def zi_267_5 : ZIs := [(174, ev_957), (177, ev_13), (178, ev_176), (180, ev_255), (182, ev_1096), (185, ev_13), (186, ev_176), (188, ev_8), (190, ev_1217), (193, ev_13), (194, ev_176), (196, ev_255), (198, ev_286), (201, ev_13), (202, ev_765), (205, ev_255)]
noncomputable def zi_267_6 : ZIs := [(207, ev_1218), (210, ev_13), (211, ev_176), (213, ev_255), (215, ev_1219), (218, ev_13), (219, ev_1220), (222, ev_255), (224, ev_1221), (227, ev_13), (228, ev_1007), (231, ev_8), (233, ev_1222), (236, ev_13), (237, ev_1007), (240, ev_255)]
noncomputable def zi_267_7 : ZIs := [(242, ev_1223), (245, ev_13), (246, ev_1007), (249, ev_255), (251, ev_1224), (254, ev_13), (255, ev_176), (257, ev_255), (259, ev_1225), (262, ev_13), (263, ev_525), (265, ev_255), (267, ev_1226), (270, ev_13), (271, ev_525), (273, ev_255)]
noncomputable def zi_267_8 : ZIs := [(275, ev_1227), (278, ev_13), (279, ev_176), (281, ev_255), (283, ev_1228), (286, ev_13), (287, ev_176), (289, ev_255), (291, ev_1229), (294, ev_13), (295, ev_176), (297, ev_255), (299, ev_1230), (302, ev_13), (303, ev_525), (305, ev_255)]
noncomputable def zi_267_9 : ZIs := [(307, ev_1231), (310, ev_13), (311, ev_525), (313, ev_255), (315, ev_1232), (318, ev_13), (319, ev_525), (321, ev_255), (323, ev_1233), (326, ev_13), (327, ev_529), (330, ev_8), (332, ev_1234), (335, ev_13), (336, ev_1235), (338, ev_255)]
noncomputable def zi_267_10 : ZIs := [(340, ev_1236), (343, ev_13), (344, ev_1235), (346, ev_8), (348, ev_1237), (351, ev_13), (352, ev_176), (354, ev_8), (356, ev_587), (359, ev_13), (360, ev_176), (362, ev_255), (364, ev_1238), (367, ev_13), (368, ev_528), (371, ev_8)]
noncomputable def zi_267_11 : ZIs := [(373, ev_1239), (376, ev_13), (377, ev_529), (380, ev_255), (382, ev_1240), (385, ev_13), (386, ev_529), (389, ev_255), (391, ev_1241), (394, ev_13), (395, ev_529), (398, ev_8), (400, ev_1242), (403, ev_13), (404, ev_176), (406, ev_8)]
noncomputable def zi_267_12 : ZIs := [(408, ev_1243), (411, ev_13), (412, ev_176), (414, ev_255), (416, ev_1244), (419, ev_13), (420, ev_176), (422, ev_255), (424, ev_1245), (427, ev_13), (428, ev_176), (430, ev_255), (432, ev_1246), (435, ev_13), (436, ev_176), (438, ev_255)]
noncomputable def zi_267_13 : ZIs := [(440, ev_1247), (443, ev_13), (444, ev_528), (447, ev_8), (449, ev_1248), (452, ev_13), (453, ev_176), (455, ev_8), (457, ev_1249), (460, ev_13), (461, ev_176), (463, ev_8), (465, ev_1250), (468, ev_13), (469, ev_176), (471, ev_255)]
noncomputable def zi_267_14 : ZIs := [(473, ev_1251), (476, ev_13), (477, ev_176), (479, ev_255), (481, ev_1252), (484, ev_13), (485, ev_176), (487, ev_8), (489, ev_1253), (492, ev_13), (493, ev_176), (495, ev_255), (497, ev_1254), (500, ev_13), (501, ev_176), (503, ev_8)]
noncomputable def zi_267_15 : ZIs := [(505, ev_1255), (508, ev_13), (509, ev_176), (511, ev_255), (513, ev_1256), (516, ev_13), (517, ev_176), (519, ev_255), (521, ev_1257), (524, ev_13), (525, ev_528), (528, ev_255), (530, ev_1258), (533, ev_13), (534, ev_389), (536, ev_255)]
noncomputable def zi_267_16 : ZIs := [(538, ev_1259), (541, ev_13), (542, ev_389), (544, ev_8), (546, ev_1260), (549, ev_13), (550, ev_7), (551, ev_1261), (554, ev_13), (555, ev_389), (557, ev_255), (559, ev_1262), (562, ev_13), (563, ev_389), (565, ev_8), (567, ev_1263)]
noncomputable def zi_267_17 : ZIs := [(570, ev_13), (571, ev_1264), (573, ev_1206), (575, ev_1265), (578, ev_13), (579, ev_1264), (581, ev_1206), (583, ev_1266), (586, ev_13), (587, ev_1264), (589, ev_8), (591, ev_1267), (594, ev_13), (595, ev_1264), (597, ev_8), (599, ev_1268)]
noncomputable def zi_267_18 : ZIs := [(602, ev_13), (603, ev_1264), (605, ev_1206), (607, ev_1269), (610, ev_13), (611, ev_1264), (613, ev_8), (615, ev_1270), (618, ev_13), (619, ev_1264), (621, ev_8), (623, ev_1271), (626, ev_13), (627, ev_1045), (630, ev_255), (632, ev_1272)]
noncomputable def zi_267_19 : ZIs := [(635, ev_13), (636, ev_1273), (639, ev_255), (641, ev_1274), (644, ev_13), (645, ev_1273), (648, ev_255), (650, ev_1275), (653, ev_13), (654, ev_31), (655, ev_255), (657, ev_1276), (660, ev_13), (661, ev_1273), (664, ev_255), (666, ev_1277)]
noncomputable def zi_267_20 : ZIs := [(669, ev_13), (670, ev_1273), (673, ev_255), (675, ev_1278), (678, ev_13), (679, ev_31), (680, ev_255), (682, ev_1279), (685, ev_13), (686, ev_1184), (689, ev_255), (691, ev_1280), (694, ev_13), (695, ev_176), (697, ev_8), (699, ev_1281)]
noncomputable def zi_267_21 : ZIs := [(702, ev_13), (703, ev_176), (705, ev_8), (707, ev_1282), (710, ev_13), (711, ev_1184), (714, ev_8), (716, ev_1283), (719, ev_13), (720, ev_369), (722, ev_8), (724, ev_1284), (727, ev_13), (728, ev_149), (731, ev_260)]
set_option maxRecDepth 100000 in
theorem xi_w267 : zall cX12_init [zi_267_0, zi_267_1, zi_267_2, zi_267_3, zi_267_4, zi_267_5, zi_267_6, zi_267_7, zi_267_8, zi_267_9, zi_267_10, zi_267_11, zi_267_12, zi_267_13, zi_267_14, zi_267_15, zi_267_16, zi_267_17, zi_267_18, zi_267_19, zi_267_20, zi_267_21] := zall_w _ _ (by decide +kernel)
noncomputable def xi_267 (pc : Nat) : XIs := cond (Nat.blt pc 373) (cond (Nat.blt pc 174) (cond (Nat.blt pc 68) (cond (Nat.blt pc 32) (zx zi_267_0) (zx zi_267_1)) (cond (Nat.blt pc 104) (zx zi_267_2) (cond (Nat.blt pc 138) (zx zi_267_3) (zx zi_267_4)))) (cond (Nat.blt pc 275) (cond (Nat.blt pc 207) (zx zi_267_5) (cond (Nat.blt pc 242) (zx zi_267_6) (zx zi_267_7))) (cond (Nat.blt pc 307) (zx zi_267_8) (cond (Nat.blt pc 340) (zx zi_267_9) (zx zi_267_10))))) (cond (Nat.blt pc 538) (cond (Nat.blt pc 440) (cond (Nat.blt pc 408) (zx zi_267_11) (zx zi_267_12)) (cond (Nat.blt pc 473) (zx zi_267_13) (cond (Nat.blt pc 505) (zx zi_267_14) (zx zi_267_15)))) (cond (Nat.blt pc 635) (cond (Nat.blt pc 570) (zx zi_267_16) (cond (Nat.blt pc 602) (zx zi_267_17) (zx zi_267_18))) (cond (Nat.blt pc 669) (zx zi_267_19) (cond (Nat.blt pc 702) (zx zi_267_20) (zx zi_267_21)))))
theorem xi_ok267 (pc : Nat) : xi_ok cX12_init (xi_267 pc) = true := xi_c (xi_c (xi_c (xi_c (zq1 xi_w267) (zq1 (zq2 xi_w267))) (xi_c (zq1 (zq2 (zq2 xi_w267))) (xi_c (zq1 (zq2 (zq2 (zq2 xi_w267)))) (zq1 (zq2 (zq2 (zq2 (zq2 xi_w267)))))))) (xi_c (xi_c (zq1 (zq2 (zq2 (zq2 (zq2 (zq2 xi_w267)))))) (xi_c (zq1 (zq2 (zq2 (zq2 (zq2 (zq2 (zq2 xi_w267))))))) (zq1 (zq2 (zq2 (zq2 (zq2 (zq2 (zq2 (zq2 xi_w267)))))))))) (xi_c (zq1 (zq2 (zq2 (zq2 (zq2 (zq2 (zq2 (zq2 (zq2 xi_w267))))))))) (xi_c (zq1 (zq2 (zq2 (zq2 (zq2 (zq2 (zq2 (zq2 (zq2 (zq2 xi_w267)))))))))) (zq1 (zq2 (zq2 (zq2 (zq2 (zq2 (zq2 (zq2 (zq2 (zq2 (zq2 xi_w267))))))))))))))) (xi_c (xi_c (xi_c (zq1 (zq2 (zq2 (zq2 (zq2 (zq2 (zq2 (zq2 (zq2 (zq2 (zq2 (zq2 xi_w267)))))))))))) (zq1 (zq2 (zq2 (zq2 (zq2 (zq2 (zq2 (zq2 (zq2 (zq2 (zq2 (zq2 (zq2 xi_w267)))))))))))))) (xi_c (zq1 (zq2 (zq2 (zq2 (zq2 (zq2 (zq2 (zq2 (zq2 (zq2 (zq2 (zq2 (zq2 (zq2 xi_w267)))))))))))))) (xi_c (zq1 (zq2 (zq2 (zq2 (zq2 (zq2 (zq2 (zq2 (zq2 (zq2 (zq2 (zq2 (zq2 (zq2 (zq2 xi_w267))))))))))))))) (zq1 (zq2 (zq2 (zq2 (zq2 (zq2 (zq2 (zq2 (zq2 (zq2 (zq2 (zq2 (zq2 (zq2 (zq2 (zq2 xi_w267))))))))))))))))))) (xi_c (xi_c (zq1 (zq2 (zq2 (zq2 (zq2 (zq2 (zq2 (zq2 (zq2 (zq2 (zq2 (zq2 (zq2 (zq2 (zq2 (zq2 (zq2 xi_w267))))))))))))))))) (xi_c (zq1 (zq2 (zq2 (zq2 (zq2 (zq2 (zq2 (zq2 (zq2 (zq2 (zq2 (zq2 (zq2 (zq2 (zq2 (zq2 (zq2 (zq2 xi_w267)))))))))))))))))) (zq1 (zq2 (zq2 (zq2 (zq2 (zq2 (zq2 (zq2 (zq2 (zq2 (zq2 (zq2 (zq2 (zq2 (zq2 (zq2 (zq2 (zq2 (zq2 xi_w267))))))))))))))))))))) (xi_c (zq1 (zq2 (zq2 (zq2 (zq2 (zq2 (zq2 (zq2 (zq2 (zq2 (zq2 (zq2 (zq2 (zq2 (zq2 (zq2 (zq2 (zq2 (zq2 (zq2 xi_w267)))))))))))))))))))) (xi_c (zq1 (zq2 (zq2 (zq2 (zq2 (zq2 (zq2 (zq2 (zq2 (zq2 (zq2 (zq2 (zq2 (zq2 (zq2 (zq2 (zq2 (zq2 (zq2 (zq2 (zq2 xi_w267))))))))))))))))))))) (zq1 (zq2 (zq2 (zq2 (zq2 (zq2 (zq2 (zq2 (zq2 (zq2 (zq2 (zq2 (zq2 (zq2 (zq2 (zq2 (zq2 (zq2 (zq2 (zq2 (zq2 (zq2 xi_w267))))))))))))))))))))))))))
noncomputable def zi_268_0 : ZIs := [(0, ev_13), (1, ev_1285), (4, ev_152)]
set_option maxRecDepth 100000 in
theorem xi_w268 : zall cX12_thrown [zi_268_0] := zall_w _ _ (by decide +kernel)
noncomputable def xi_268 (pc : Nat) : XIs := zx zi_268_0
theorem xi_ok268 (pc : Nat) : xi_ok cX12_thrown (xi_268 pc) = true := zq1 xi_w268
noncomputable def zi_269_0 : ZIs := [(0, ev_487), (1, ev_489), (2, ev_157), (3, ev_1159), (6, ev_487), (7, ev_247), (9, ev_157), (10, ev_491), (13, ev_7), (14, ev_229), (17, ev_10), (18, ev_152)]
set_option maxRecDepth 100000 in
theorem xi_w269 : zall cX12_in [zi_269_0] := zall_w _ _ (by decide +kernel)
noncomputable def xi_269 (pc : Nat) : XIs := zx zi_269_0
theorem xi_ok269 (pc : Nat) : xi_ok cX12_in (xi_269 pc) = true := zq1 xi_w269
noncomputable def zi_270_0 : ZIs := [(0, ev_13), (1, ev_192), (2, ev_326), (5, ev_7), (6, ev_1119), (9, ev_197), (10, ev_326), (13, ev_30), (14, ev_229), (17, ev_10), (18, ev_1286), (21, ev_13), (22, ev_1285), (25, ev_493), (28, ev_7), (29, ev_229)]
noncomputable def zi_270_1 : ZIs := [(32, ev_10), (33, ev_152)]
set_option maxRecDepth 100000 in
theorem xi_w270 : zall cX12_fails [zi_270_0, zi_270_1] := zall_w _ _ (by decide +kernel)
noncomputable def xi_270 (pc : Nat) : XIs := cond (Nat.blt pc 32) (zx zi_270_0) (zx zi_270_1)
theorem xi_ok270 (pc : Nat) : xi_ok cX12_fails (xi_270 pc) = true := xi_c (zq1 xi_w270) (zq1 (zq2 xi_w270))
noncomputable def zi_271_0 : ZIs := [(0, ev_13), (1, ev_192), (2, ev_7), (3, ev_1287), (6, ev_152)]
set_option maxRecDepth 100000 in
theorem xi_w271 : zall cX12_wrongArgument [zi_271_0] := zall_w _ _ (by decide +kernel)
noncomputable def xi_271 (pc : Nat) : XIs := zx zi_271_0
theorem xi_ok271 (pc : Nat) : xi_ok cX12_wrongArgument (xi_271 pc) = true := zq1 xi_w271
noncomputable def zi_272_0 : ZIs := [(0, ev_192), (1, ev_678), (4, ev_192), (5, ev_13), (6, ev_1288), (9, ev_656), (12, ev_7), (13, ev_229), (16, ev_10), (17, ev_152)]
set_option maxRecDepth 100000 in
theorem xi_w272 : zall cX12_isNode [zi_272_0] := zall_w _ _ (by decide +kernel)
noncomputable def xi_272 (pc : Nat) : XIs := zx zi_272_0
theorem xi_ok272 (pc : Nat) : xi_ok cX12_isNode (xi_272 pc) = true := zq1 xi_w272
noncomputable def zi_273_0 : ZIs := [(0, ev_192), (1, ev_1289), (4, ev_192), (5, ev_529), (8, ev_364), (11, ev_13), (12, ev_1290), (15, ev_13), (16, ev_1291), (19, ev_192), (20, ev_22), (21, ev_1292), (22, ev_227), (25, ev_7), (26, ev_229), (29, ev_10)]
noncomputable def zi_273_1 : ZIs := [(30, ev_152)]
set_option maxRecDepth 100000 in
theorem xi_w273 : zall cX12_isArc [zi_273_0, zi_273_1] := zall_w _ _ (by decide +kernel)
noncomputable def xi_273 (pc : Nat) : XIs := cond (Nat.blt pc 30) (zx zi_273_0) (zx zi_273_1)
theorem xi_ok273 (pc : Nat) : xi_ok cX12_isArc (xi_273 pc) = true := xi_c (zq1 xi_w273) (zq1 (zq2 xi_w273))
noncomputable def zi_274_0 : ZIs := [(0, ev_13), (1, ev_430), (4, ev_13), (5, ev_1293), (8, ev_192), (9, ev_299), (10, ev_13), (11, ev_751), (14, ev_13), (15, ev_1293), (18, ev_197), (19, ev_299), (20, ev_13), (21, ev_705), (24, ev_13), (25, ev_1293)]
noncomputable def zi_274_1 : ZIs := [(28, ev_198), (29, ev_299), (30, ev_13), (31, ev_1146), (34, ev_13), (35, ev_1293), (38, ev_12), (40, ev_299), (41, ev_13), (42, ev_640), (45, ev_13), (46, ev_1293), (49, ev_150), (51, ev_299), (52, ev_13), (53, ev_383)]
noncomputable def zi_274_2 : ZIs := [(56, ev_13), (57, ev_1293), (60, ev_155), (62, ev_299), (63, ev_13), (64, ev_1294), (67, ev_13), (68, ev_1293), (71, ev_276), (73, ev_299), (74, ev_13), (75, ev_13), (76, ev_1293), (79, ev_10), (80, ev_1295), (83, ev_13)]
noncomputable def zi_274_3 : ZIs := [(84, ev_1), (85, ev_1293), (88, ev_7), (89, ev_22), (90, ev_1296), (93, ev_13), (94, ev_1297), (97, ev_260)]
set_option maxRecDepth 100000 in
theorem xi_w274 : zall cX12_make [zi_274_0, zi_274_1, zi_274_2, zi_274_3] := zall_w _ _ (by decide +kernel)
noncomputable def xi_274 (pc : Nat) : XIs := cond (Nat.blt pc 56) (cond (Nat.blt pc 28) (zx zi_274_0) (zx zi_274_1)) (cond (Nat.blt pc 84) (zx zi_274_2) (zx zi_274_3))
theorem xi_ok274 (pc : Nat) : xi_ok cX12_make (xi_274 pc) = true := xi_c (xi_c (zq1 xi_w274) (zq1 (zq2 xi_w274))) (xi_c (zq1 (zq2 (zq2 xi_w274))) (zq1 (zq2 (zq2 (zq2 xi_w274)))))
noncomputable def zi_275_0 : ZIs := [(0, ev_529), (3, ev_197), (4, ev_355), (5, ev_13), (6, ev_751), (9, ev_192), (10, ev_18), (11, ev_22), (12, ev_295), (13, ev_13), (14, ev_430), (17, ev_192), (18, ev_18)]
noncomputable def xi_275_1 : XIs := [(19, .tableswitch 208 0 3 #[29, 64, 134, 144], 29)]
set_option maxRecDepth 100000 in
theorem xi_ok275_1 : xi_ok cX12_apply xi_275_1 = true := by decide +kernel
noncomputable def zi_275_2 : ZIs := [(48, ev_13), (49, ev_1298), (52, ev_176), (54, ev_197), (55, ev_355), (56, ev_13), (57, ev_1299), (60, ev_197), (61, ev_18), (62, ev_22), (63, ev_13), (64, ev_751), (67, ev_192), (68, ev_18), (69, ev_299), (70, ev_13)]
noncomputable def zi_275_3 : ZIs := [(71, ev_1299), (74, ev_197), (75, ev_316), (76, ev_18), (77, ev_7), (78, ev_22), (79, ev_299), (80, ev_1300), (83, ev_13), (84, ev_1290), (87, ev_198), (88, ev_7), (89, ev_1301), (90, ev_13), (91, ev_1302), (94, ev_198)]
noncomputable def zi_275_4 : ZIs := [(95, ev_13), (96, ev_705), (99, ev_192), (100, ev_18), (101, ev_299), (102, ev_13), (103, ev_1038), (106, ev_198), (107, ev_13), (108, ev_1146), (111, ev_192), (112, ev_18), (113, ev_299), (114, ev_13), (115, ev_1039), (118, ev_198)]
noncomputable def zi_275_5 : ZIs := [(119, ev_13), (120, ev_640), (123, ev_192), (124, ev_18), (125, ev_299), (126, ev_13), (127, ev_465), (130, ev_198), (131, ev_13), (132, ev_383), (135, ev_192), (136, ev_18), (137, ev_299), (138, ev_13), (139, ev_434), (142, ev_198)]
noncomputable def zi_275_6 : ZIs := [(143, ev_13), (144, ev_1294), (147, ev_192), (148, ev_18), (149, ev_299), (150, ev_1303), (153, ev_13), (154, ev_1290), (157, ev_198), (158, ev_10), (159, ev_1301), (160, ev_1304), (163, ev_13), (164, ev_705), (167, ev_192), (168, ev_18)]
noncomputable def zi_275_7 : ZIs := [(169, ev_1305), (172, ev_13), (173, ev_1039), (176, ev_198), (177, ev_13), (178, ev_1146), (181, ev_192), (182, ev_18), (183, ev_299), (184, ev_1306), (187, ev_13), (188, ev_705), (191, ev_192), (192, ev_18), (193, ev_7), (194, ev_755)]
noncomputable def zi_275_8 : ZIs := [(197, ev_13), (198, ev_465), (201, ev_198), (202, ev_13), (203, ev_1146), (206, ev_192), (207, ev_18), (208, ev_299), (209, ev_1307), (212, ev_13), (213, ev_434), (216, ev_198), (217, ev_13), (218, ev_1146), (221, ev_192), (222, ev_18)]
noncomputable def zi_275_9 : ZIs := [(223, ev_299), (224, ev_1308), (227, ev_13), (228, ev_1298), (231, ev_176), (233, ev_197), (234, ev_355), (235, ev_13), (236, ev_751), (239, ev_192), (240, ev_18), (241, ev_22), (242, ev_13), (243, ev_705), (246, ev_192), (247, ev_18)]
noncomputable def zi_275_10 : ZIs := [(248, ev_299), (249, ev_260)]
set_option maxRecDepth 100000 in
theorem xi_w275 : zall cX12_apply [zi_275_0, zi_275_2, zi_275_3, zi_275_4, zi_275_5, zi_275_6, zi_275_7, zi_275_8, zi_275_9, zi_275_10] := zall_w _ _ (by decide +kernel)
noncomputable def xi_275 (pc : Nat) : XIs := cond (Nat.blt pc 119) (cond (Nat.blt pc 48) (cond (Nat.blt pc 19) (zx zi_275_0) (xi_275_1)) (cond (Nat.blt pc 71) (zx zi_275_2) (cond (Nat.blt pc 95) (zx zi_275_3) (zx zi_275_4)))) (cond (Nat.blt pc 197) (cond (Nat.blt pc 143) (zx zi_275_5) (cond (Nat.blt pc 169) (zx zi_275_6) (zx zi_275_7))) (cond (Nat.blt pc 223) (zx zi_275_8) (cond (Nat.blt pc 248) (zx zi_275_9) (zx zi_275_10))))
theorem xi_ok275 (pc : Nat) : xi_ok cX12_apply (xi_275 pc) = true := xi_c (xi_c (xi_c (zq1 xi_w275) (xi_ok275_1)) (xi_c (zq1 (zq2 xi_w275)) (xi_c (zq1 (zq2 (zq2 xi_w275))) (zq1 (zq2 (zq2 (zq2 xi_w275))))))) (xi_c (xi_c (zq1 (zq2 (zq2 (zq2 (zq2 xi_w275))))) (xi_c (zq1 (zq2 (zq2 (zq2 (zq2 (zq2 xi_w275)))))) (zq1 (zq2 (zq2 (zq2 (zq2 (zq2 (zq2 xi_w275))))))))) (xi_c (zq1 (zq2 (zq2 (zq2 (zq2 (zq2 (zq2 (zq2 xi_w275)))))))) (xi_c (zq1 (zq2 (zq2 (zq2 (zq2 (zq2 (zq2 (zq2 (zq2 xi_w275))))))))) (zq1 (zq2 (zq2 (zq2 (zq2 (zq2 (zq2 (zq2 (zq2 (zq2 xi_w275)))))))))))))
noncomputable def zi_276_0 : ZIs := [(0, ev_13), (1, ev_13), (2, ev_1309), (5, ev_486), (8, ev_10), (9, ev_229), (12, ev_7), (13, ev_1310), (16, ev_13), (17, ev_529), (20, ev_13), (21, ev_1162), (24, ev_355), (25, ev_1311), (28, ev_13), (29, ev_13)]
noncomputable def zi_276_1 : ZIs := [(30, ev_1299), (33, ev_13), (34, ev_1162), (37, ev_18), (38, ev_1312), (41, ev_260)]
set_option maxRecDepth 100000 in
theorem xi_w276 : zall cX12_look [zi_276_0, zi_276_1] := zall_w _ _ (by decide +kernel)
noncomputable def xi_276 (pc : Nat) : XIs := cond (Nat.blt pc 30) (zx zi_276_0) (zx zi_276_1)
theorem xi_ok276 (pc : Nat) : xi_ok cX12_look (xi_276 pc) = true := xi_c (zq1 xi_w276) (zq1 (zq2 xi_w276))
noncomputable def zi_277_0 : ZIs := [(0, ev_192), (1, ev_1313), (4, ev_192), (5, ev_13), (6, ev_1299), (9, ev_10), (10, ev_18), (11, ev_656), (14, ev_7), (15, ev_229), (18, ev_10), (19, ev_152)]
set_option maxRecDepth 100000 in
theorem xi_w277 : zall cX12_isNewNode [zi_277_0] := zall_w _ _ (by decide +kernel)
noncomputable def xi_277 (pc : Nat) : XIs := zx zi_277_0
theorem xi_ok277 (pc : Nat) : xi_ok cX12_isNewNode (xi_277 pc) = true := zq1 xi_w277
noncomputable def zi_278_0 : ZIs := [(0, ev_192), (1, ev_1113), (4, ev_192), (5, ev_529), (8, ev_1114), (11, ev_13), (12, ev_1290), (15, ev_192), (16, ev_1292), (17, ev_227), (20, ev_7), (21, ev_229), (24, ev_10), (25, ev_152)]
set_option maxRecDepth 100000 in
theorem xi_w278 : zall cX12_isNewArc [zi_278_0] := zall_w _ _ (by decide +kernel)
noncomputable def xi_278 (pc : Nat) : XIs := zx zi_278_0
theorem xi_ok278 (pc : Nat) : xi_ok cX12_isNewArc (xi_278 pc) = true := zq1 xi_w278
noncomputable def zi_279_0 : ZIs := [(0, ev_482), (1, ev_156), (2, ev_1314), (5, ev_1315), (8, ev_1316), (11, ev_152)]
set_option maxRecDepth 100000 in
theorem xi_w279 : zall cX12_isWeight [zi_279_0] := zall_w _ _ (by decide +kernel)
noncomputable def xi_279 (pc : Nat) : XIs := zx zi_279_0
theorem xi_ok279 (pc : Nat) : xi_ok cX12_isWeight (xi_279 pc) = true := zq1 xi_w279
noncomputable def zi_280_0 : ZIs := [(0, ev_10), (1, ev_294), (2, ev_197), (3, ev_529), (6, ev_302), (9, ev_13), (10, ev_1290), (13, ev_529), (16, ev_192), (17, ev_355), (18, ev_197), (19, ev_22), (20, ev_1292), (21, ev_347), (24, ev_304), (27, ev_319)]
noncomputable def zi_280_1 : ZIs := [(30, ev_197), (31, ev_152)]
set_option maxRecDepth 100000 in
theorem xi_w280 : zall cX12_freePlace [zi_280_0, zi_280_1] := zall_w _ _ (by decide +kernel)
noncomputable def xi_280 (pc : Nat) : XIs := cond (Nat.blt pc 30) (zx zi_280_0) (zx zi_280_1)
theorem xi_ok280 (pc : Nat) : xi_ok cX12_freePlace (xi_280 pc) = true := xi_c (zq1 xi_w280) (zq1 (zq2 xi_w280))
noncomputable def zi_281_0 : ZIs := [(0, ev_13), (1, ev_192), (2, ev_156), (3, ev_230), (4, ev_1317), (7, ev_1316), (10, ev_13), (11, ev_1299), (14, ev_10), (15, ev_18), (16, ev_176), (18, ev_683), (21, ev_13), (22, ev_1293), (25, ev_765), (28, ev_656)]
noncomputable def zi_281_1 : ZIs := [(31, ev_7), (32, ev_229), (35, ev_10), (36, ev_1287), (39, ev_158), (42, ev_10), (43, ev_152), (44, ev_13), (45, ev_10), (46, ev_192), (47, ev_10), (48, ev_10), (49, ev_10), (50, ev_10), (51, ev_10), (52, ev_1318)]
noncomputable def zi_281_2 : ZIs := [(55, ev_13), (56, ev_1299), (59, ev_10), (60, ev_18), (61, ev_7), (62, ev_16), (63, ev_152)]
set_option maxRecDepth 100000 in
theorem xi_w281 : zall cX12_node [zi_281_0, zi_281_1, zi_281_2] := zall_w _ _ (by decide +kernel)
noncomputable def xi_281 (pc : Nat) : XIs := cond (Nat.blt pc 31) (zx zi_281_0) (cond (Nat.blt pc 55) (zx zi_281_1) (zx zi_281_2))
theorem xi_ok281 (pc : Nat) : xi_ok cX12_node (xi_281 pc) = true := xi_c (zq1 xi_w281) (xi_c (zq1 (zq2 xi_w281)) (zq1 (zq2 (zq2 xi_w281))))
noncomputable def zi_282_0 : ZIs := [(0, ev_13), (1, ev_13), (2, ev_192), (3, ev_1169), (6, ev_1319), (9, ev_13), (10, ev_197), (11, ev_1169), (14, ev_867), (17, ev_198), (18, ev_1320), (21, ev_1321), (24, ev_12), (26, ev_156), (27, ev_230), (28, ev_1315)]
noncomputable def zi_282_1 : ZIs := [(31, ev_1316), (34, ev_680), (37, ev_150), (39, ev_156), (40, ev_230), (41, ev_1317), (44, ev_1316), (47, ev_227), (50, ev_7), (51, ev_229), (54, ev_10), (55, ev_13), (56, ev_1293), (59, ev_765), (62, ev_656), (65, ev_7)]
noncomputable def zi_282_2 : ZIs := [(66, ev_229), (69, ev_10), (70, ev_1287), (73, ev_158), (76, ev_10), (77, ev_152), (78, ev_13), (79, ev_10), (80, ev_1322), (83, ev_28), (85, ev_155), (87, ev_529), (90, ev_774), (93, ev_775), (95, ev_152), (96, ev_13)]
noncomputable def zi_282_3 : ZIs := [(97, ev_7), (98, ev_155), (100, ev_192), (101, ev_197), (102, ev_198), (103, ev_12), (105, ev_150), (107, ev_1318), (110, ev_155), (112, ev_152)]
set_option maxRecDepth 100000 in
theorem xi_w282 : zall cX12_arc [zi_282_0, zi_282_1, zi_282_2, zi_282_3] := zall_w _ _ (by decide +kernel)
noncomputable def xi_282 (pc : Nat) : XIs := cond (Nat.blt pc 66) (cond (Nat.blt pc 31) (zx zi_282_0) (zx zi_282_1)) (cond (Nat.blt pc 97) (zx zi_282_2) (zx zi_282_3))
theorem xi_ok282 (pc : Nat) : xi_ok cX12_arc (xi_282 pc) = true := xi_c (xi_c (zq1 xi_w282) (zq1 (zq2 xi_w282))) (xi_c (zq1 (zq2 (zq2 xi_w282))) (zq1 (zq2 (zq2 (zq2 xi_w282)))))
noncomputable def zi_283_0 : ZIs := [(0, ev_13), (1, ev_13), (2, ev_192), (3, ev_1323), (6, ev_13), (7, ev_1293), (10, ev_765), (13, ev_656), (16, ev_7), (17, ev_229), (20, ev_10), (21, ev_1287), (24, ev_158), (27, ev_10), (28, ev_152), (29, ev_13)]
noncomputable def zi_283_1 : ZIs := [(30, ev_30), (31, ev_192), (32, ev_10), (33, ev_10), (34, ev_10), (35, ev_10), (36, ev_10), (37, ev_1318), (40, ev_13), (41, ev_1293), (44, ev_152)]
set_option maxRecDepth 100000 in
theorem xi_w283 : zall cX12_take [zi_283_0, zi_283_1] := zall_w _ _ (by decide +kernel)
noncomputable def xi_283 (pc : Nat) : XIs := cond (Nat.blt pc 30) (zx zi_283_0) (zx zi_283_1)
theorem xi_ok283 (pc : Nat) : xi_ok cX12_take (xi_283 pc) = true := xi_c (zq1 xi_w283) (zq1 (zq2 xi_w283))
noncomputable def zi_284_0 : ZIs := [(0, ev_197), (1, ev_381), (4, ev_198), (5, ev_1320), (8, ev_787), (11, ev_197), (12, ev_7), (13, ev_727), (16, ev_198), (17, ev_156), (18, ev_230), (19, ev_1315), (22, ev_1316), (25, ev_1308), (28, ev_197), (29, ev_30)]
noncomputable def zi_284_1 : ZIs := [(30, ev_756), (33, ev_198), (34, ev_156), (35, ev_230), (36, ev_1317), (39, ev_1316), (42, ev_227), (45, ev_7), (46, ev_229), (49, ev_10), (50, ev_11), (52, ev_13), (53, ev_13), (54, ev_192), (55, ev_1323), (58, ev_649)]
noncomputable def zi_284_2 : ZIs := [(61, ev_12), (63, ev_227), (66, ev_7), (67, ev_229), (70, ev_10), (71, ev_13), (72, ev_1293), (75, ev_765), (78, ev_656), (81, ev_7), (82, ev_229), (85, ev_10), (86, ev_1287), (89, ev_158), (92, ev_10), (93, ev_152)]
noncomputable def zi_284_3 : ZIs := [(94, ev_197), (95, ev_399), (98, ev_13), (99, ev_1039), (102, ev_192), (103, ev_18), (104, ev_1324), (107, ev_197), (108, ev_7), (109, ev_690), (112, ev_13), (113, ev_465), (116, ev_192), (117, ev_18), (118, ev_195), (121, ev_13)]
noncomputable def zi_284_4 : ZIs := [(122, ev_434), (125, ev_192), (126, ev_18), (127, ev_25), (129, ev_13), (130, ev_31), (131, ev_192), (132, ev_197), (133, ev_198), (134, ev_10), (135, ev_10), (136, ev_10), (137, ev_1318), (140, ev_150), (142, ev_152)]
set_option maxRecDepth 100000 in
theorem xi_w284 : zall cX12_set [zi_284_0, zi_284_1, zi_284_2, zi_284_3, zi_284_4] := zall_w _ _ (by decide +kernel)
noncomputable def xi_284 (pc : Nat) : XIs := cond (Nat.blt pc 61) (cond (Nat.blt pc 30) (zx zi_284_0) (zx zi_284_1)) (cond (Nat.blt pc 94) (zx zi_284_2) (cond (Nat.blt pc 122) (zx zi_284_3) (zx zi_284_4)))
theorem xi_ok284 (pc : Nat) : xi_ok cX12_set (xi_284 pc) = true := xi_c (xi_c (zq1 xi_w284) (zq1 (zq2 xi_w284))) (xi_c (zq1 (zq2 (zq2 xi_w284))) (xi_c (zq1 (zq2 (zq2 (zq2 xi_w284)))) (zq1 (zq2 (zq2 (zq2 (zq2 xi_w284)))))))
noncomputable def zi_285_0 : ZIs := [(0, ev_13), (1, ev_13), (2, ev_192), (3, ev_1169), (6, ev_488), (9, ev_197), (10, ev_156), (11, ev_230), (12, ev_1317), (15, ev_1316), (18, ev_227), (21, ev_7), (22, ev_229), (25, ev_10), (26, ev_13), (27, ev_1293)]
noncomputable def zi_285_1 : ZIs := [(30, ev_765), (33, ev_656), (36, ev_7), (37, ev_229), (40, ev_10), (41, ev_1287), (44, ev_158), (47, ev_10), (48, ev_152), (49, ev_13), (50, ev_1298), (53, ev_192), (54, ev_18), (55, ev_295), (56, ev_13), (57, ev_32)]
noncomputable def zi_285_2 : ZIs := [(58, ev_192), (59, ev_197), (60, ev_10), (61, ev_10), (62, ev_10), (63, ev_10), (64, ev_1318), (67, ev_198), (68, ev_152)]
set_option maxRecDepth 100000 in
theorem xi_w285 : zall cX12_label [zi_285_0, zi_285_1, zi_285_2] := zall_w _ _ (by decide +kernel)
noncomputable def xi_285 (pc : Nat) : XIs := cond (Nat.blt pc 30) (zx zi_285_0) (cond (Nat.blt pc 58) (zx zi_285_1) (zx zi_285_2))
theorem xi_ok285 (pc : Nat) : xi_ok cX12_label (xi_285 pc) = true := xi_c (zq1 xi_w285) (xi_c (zq1 (zq2 xi_w285)) (zq1 (zq2 (zq2 xi_w285))))
noncomputable def zi_286_0 : ZIs := [(0, ev_13), (1, ev_192), (2, ev_156), (3, ev_1325), (6, ev_13), (7, ev_1293), (10, ev_156), (11, ev_1316), (14, ev_1176), (17, ev_158), (20, ev_10), (21, ev_152), (22, ev_13), (23, ev_192), (24, ev_1210), (27, ev_192)]
noncomputable def zi_286_1 : ZIs := [(28, ev_1326), (31, ev_13), (32, ev_1299), (35, ev_7), (36, ev_10), (37, ev_299), (38, ev_10), (39, ev_294), (40, ev_197), (41, ev_529), (44, ev_686), (47, ev_13), (48, ev_1290), (51, ev_529), (54, ev_197), (55, ev_22)]
noncomputable def zi_286_2 : ZIs := [(56, ev_10), (57, ev_1301), (58, ev_304), (61, ev_1327), (64, ev_10), (65, ev_294), (66, ev_197), (67, ev_192), (68, ev_1154), (71, ev_13), (72, ev_197), (73, ev_7), (74, ev_1295), (77, ev_304), (80, ev_1155), (83, ev_13)]
noncomputable def zi_286_3 : ZIs := [(84, ev_1297), (87, ev_192), (88, ev_1328), (91, ev_13), (92, ev_1293), (95, ev_229), (98, ev_192), (99, ev_152)]
set_option maxRecDepth 100000 in
theorem xi_w286 : zall cX12_view [zi_286_0, zi_286_1, zi_286_2, zi_286_3] := zall_w _ _ (by decide +kernel)
noncomputable def xi_286 (pc : Nat) : XIs := cond (Nat.blt pc 56) (cond (Nat.blt pc 28) (zx zi_286_0) (zx zi_286_1)) (cond (Nat.blt pc 84) (zx zi_286_2) (zx zi_286_3))
theorem xi_ok286 (pc : Nat) : xi_ok cX12_view (xi_286 pc) = true := xi_c (xi_c (zq1 xi_w286) (zq1 (zq2 xi_w286))) (xi_c (zq1 (zq2 (zq2 xi_w286))) (zq1 (zq2 (zq2 (zq2 xi_w286)))))
noncomputable def zi_287_0 : ZIs := [(0, ev_13), (1, ev_10), (2, ev_1286), (5, ev_13), (6, ev_1293), (9, ev_152)]
set_option maxRecDepth 100000 in
theorem xi_w287 : zall cX12_version [zi_287_0] := zall_w _ _ (by decide +kernel)
noncomputable def xi_287 (pc : Nat) : XIs := zx zi_287_0
theorem xi_ok287 (pc : Nat) : xi_ok cX12_version (xi_287 pc) = true := zq1 xi_w287
noncomputable def zi_288_0 : ZIs := [(0, ev_13), (1, ev_1290), (4, ev_13), (5, ev_1291), (8, ev_192), (9, ev_22), (10, ev_1292), (11, ev_1329), (14, ev_13), (15, ev_1302), (18, ev_13), (19, ev_1291), (22, ev_192), (23, ev_22), (24, ev_18), (25, ev_13)]
noncomputable def zi_288_1 : ZIs := [(26, ev_1038), (29, ev_13), (30, ev_1291), (33, ev_192), (34, ev_22), (35, ev_18), (36, ev_681), (39, ev_7), (40, ev_229), (43, ev_10), (44, ev_152)]
set_option maxRecDepth 100000 in
theorem xi_w288 : zall cX12_isJoint [zi_288_0, zi_288_1] := zall_w _ _ (by decide +kernel)
noncomputable def xi_288 (pc : Nat) : XIs := cond (Nat.blt pc 26) (zx zi_288_0) (zx zi_288_1)
theorem xi_ok288 (pc : Nat) : xi_ok cX12_isJoint (xi_288 pc) = true := xi_c (zq1 xi_w288) (zq1 (zq2 xi_w288))
noncomputable def zi_289_0 : ZIs := [(0, ev_13), (1, ev_192), (2, ev_156), (3, ev_230), (4, ev_1330), (7, ev_1316), (10, ev_1176), (13, ev_158), (16, ev_10), (17, ev_152), (18, ev_10), (19, ev_294), (20, ev_10), (21, ev_295), (22, ev_252), (23, ev_11)]
noncomputable def zi_289_1 : ZIs := [(25, ev_10), (26, ev_25), (28, ev_150), (30, ev_529), (33, ev_449), (36, ev_197), (37, ev_13), (38, ev_1290), (41, ev_13), (42, ev_1291), (45, ev_150), (47, ev_22), (48, ev_1292), (49, ev_227), (52, ev_7), (53, ev_229)]
noncomputable def zi_289_2 : ZIs := [(56, ev_10), (57, ev_22), (58, ev_294), (59, ev_198), (60, ev_13), (61, ev_150), (63, ev_1179), (66, ev_227), (69, ev_7), (70, ev_229), (73, ev_10), (74, ev_22), (75, ev_295), (76, ev_13), (77, ev_1290), (80, ev_13)]
noncomputable def zi_289_3 : ZIs := [(81, ev_1291), (84, ev_150), (86, ev_22), (87, ev_1292), (88, ev_330), (91, ev_150), (93, ev_638), (96, ev_12), (98, ev_11), (100, ev_343), (103, ev_844), (106, ev_192), (107, ev_381), (110, ev_13), (111, ev_1288), (114, ev_1324)]
noncomputable def zi_289_4 : ZIs := [(117, ev_192), (118, ev_7), (119, ev_818), (122, ev_197), (123, ev_1177), (126, ev_192), (127, ev_30), (128, ev_818), (131, ev_198), (132, ev_638), (135, ev_12), (137, ev_152)]
set_option maxRecDepth 100000 in
theorem xi_w289 : zall cX12_size [zi_289_0, zi_289_1, zi_289_2, zi_289_3, zi_289_4] := zall_w _ _ (by decide +kernel)
noncomputable def xi_289 (pc : Nat) : XIs := cond (Nat.blt pc 56) (cond (Nat.blt pc 25) (zx zi_289_0) (zx zi_289_1)) (cond (Nat.blt pc 81) (zx zi_289_2) (cond (Nat.blt pc 117) (zx zi_289_3) (zx zi_289_4)))
theorem xi_ok289 (pc : Nat) : xi_ok cX12_size (xi_289 pc) = true := xi_c (xi_c (zq1 xi_w289) (zq1 (zq2 xi_w289))) (xi_c (zq1 (zq2 (zq2 xi_w289))) (xi_c (zq1 (zq2 (zq2 (zq2 xi_w289)))) (zq1 (zq2 (zq2 (zq2 (zq2 xi_w289)))))))
noncomputable def zi_290_0 : ZIs := [(0, ev_13), (1, ev_192), (2, ev_156), (3, ev_230), (4, ev_1331), (7, ev_1316), (10, ev_488), (13, ev_197), (14, ev_156), (15, ev_230), (16, ev_1332), (19, ev_1316), (22, ev_227), (25, ev_7), (26, ev_229), (29, ev_10)]
noncomputable def zi_290_1 : ZIs := [(30, ev_1176), (33, ev_158), (36, ev_230), (37, ev_481), (38, ev_13), (39, ev_1291), (42, ev_192), (43, ev_22), (44, ev_295), (45, ev_13), (46, ev_1290), (49, ev_198), (50, ev_1292), (51, ev_326), (54, ev_1333), (57, ev_481)]
noncomputable def zi_290_2 : ZIs := [(58, ev_197), (59, ev_1132), (62, ev_13), (63, ev_1302), (66, ev_198), (67, ev_18), (68, ev_156), (69, ev_1334), (72, ev_197), (73, ev_7), (74, ev_927), (77, ev_13), (78, ev_1038), (81, ev_198), (82, ev_18), (83, ev_156)]
noncomputable def zi_290_3 : ZIs := [(84, ev_1307), (87, ev_197), (88, ev_30), (89, ev_927), (92, ev_13), (93, ev_1039), (96, ev_198), (97, ev_18), (98, ev_156), (99, ev_1308), (102, ev_197), (103, ev_31), (104, ev_927), (107, ev_13), (108, ev_465), (111, ev_198)]
noncomputable def zi_290_4 : ZIs := [(112, ev_18), (113, ev_156), (114, ev_633), (117, ev_13), (118, ev_434), (121, ev_198), (122, ev_18), (123, ev_156), (124, ev_481)]
set_option maxRecDepth 100000 in
theorem xi_w290 : zall cX12_told [zi_290_0, zi_290_1, zi_290_2, zi_290_3, zi_290_4] := zall_w _ _ (by decide +kernel)
noncomputable def xi_290 (pc : Nat) : XIs := cond (Nat.blt pc 58) (cond (Nat.blt pc 30) (zx zi_290_0) (zx zi_290_1)) (cond (Nat.blt pc 84) (zx zi_290_2) (cond (Nat.blt pc 112) (zx zi_290_3) (zx zi_290_4)))
theorem xi_ok290 (pc : Nat) : xi_ok cX12_told (xi_290 pc) = true := xi_c (xi_c (zq1 xi_w290) (zq1 (zq2 xi_w290))) (xi_c (zq1 (zq2 (zq2 xi_w290))) (xi_c (zq1 (zq2 (zq2 (zq2 xi_w290)))) (zq1 (zq2 (zq2 (zq2 (zq2 xi_w290)))))))
noncomputable def zi_291_0 : ZIs := [(0, ev_13), (1, ev_13), (2, ev_192), (3, ev_1335), (6, ev_1176), (9, ev_227), (12, ev_10), (13, ev_788), (16, ev_13), (17, ev_1298), (20, ev_176), (22, ev_13), (23, ev_1162), (26, ev_355), (27, ev_192), (28, ev_22)]
noncomputable def zi_291_1 : ZIs := [(29, ev_18), (30, ev_152)]
set_option maxRecDepth 100000 in
theorem xi_w291 : zall cX12_labelOf [zi_291_0, zi_291_1] := zall_w _ _ (by decide +kernel)
noncomputable def xi_291 (pc : Nat) : XIs := cond (Nat.blt pc 29) (zx zi_291_0) (zx zi_291_1)
theorem xi_ok291 (pc : Nat) : xi_ok cX12_labelOf (xi_291 pc) = true := xi_c (zq1 xi_w291) (zq1 (zq2 xi_w291))
noncomputable def zi_292_0 : ZIs := [(0, ev_13), (1, ev_13), (2, ev_192), (3, ev_1335), (6, ev_333), (9, ev_197), (10, ev_156), (11, ev_230), (12, ev_228), (13, ev_1316), (16, ev_931), (19, ev_198), (20, ev_831), (23, ev_7), (24, ev_229), (27, ev_10)]
noncomputable def zi_292_1 : ZIs := [(28, ev_1176), (31, ev_158), (34, ev_10), (35, ev_152), (36, ev_10), (37, ev_11), (39, ev_10), (40, ev_25), (42, ev_150), (44, ev_529), (47, ev_1336), (50, ev_13), (51, ev_1290), (54, ev_13), (55, ev_1291), (58, ev_150)]
noncomputable def zi_292_2 : ZIs := [(60, ev_22), (61, ev_1292), (62, ev_1337), (65, ev_197), (66, ev_1305), (69, ev_13), (70, ev_1302), (73, ev_13), (74, ev_1291), (77, ev_150), (79, ev_22), (80, ev_18), (81, ev_439), (84, ev_13), (85, ev_1038), (88, ev_13)]
noncomputable def zi_292_3 : ZIs := [(89, ev_1291), (92, ev_150), (94, ev_22), (95, ev_18), (96, ev_192), (97, ev_727), (100, ev_12), (102, ev_198), (103, ev_774), (106, ev_150), (108, ev_152), (109, ev_348), (112, ev_343), (115, ev_1338), (118, ev_252), (119, ev_152)]
set_option maxRecDepth 100000 in
theorem xi_w292 : zall cX12_arcAt [zi_292_0, zi_292_1, zi_292_2, zi_292_3] := zall_w _ _ (by decide +kernel)
noncomputable def xi_292 (pc : Nat) : XIs := cond (Nat.blt pc 60) (cond (Nat.blt pc 28) (zx zi_292_0) (zx zi_292_1)) (cond (Nat.blt pc 89) (zx zi_292_2) (zx zi_292_3))
theorem xi_ok292 (pc : Nat) : xi_ok cX12_arcAt (xi_292 pc) = true := xi_c (xi_c (zq1 xi_w292) (zq1 (zq2 xi_w292))) (xi_c (zq1 (zq2 (zq2 xi_w292))) (zq1 (zq2 (zq2 (zq2 xi_w292)))))
noncomputable def zi_293_0 : ZIs := [(0, ev_13), (1, ev_192), (2, ev_156), (3, ev_1339), (6, ev_1340), (9, ev_1316), (12, ev_13), (13, ev_1191), (16, ev_803), (19, ev_656), (22, ev_7), (23, ev_229), (26, ev_10), (27, ev_1287), (30, ev_158), (33, ev_10)]
noncomputable def zi_293_1 : ZIs := [(34, ev_152), (35, ev_13), (36, ev_840), (39, ev_13), (40, ev_1191), (43, ev_192), (44, ev_299), (45, ev_13), (46, ev_1), (47, ev_1191), (50, ev_7), (51, ev_22), (52, ev_1341), (55, ev_13), (56, ev_1191), (59, ev_152)]
set_option maxRecDepth 100000 in
theorem xi_w293 : zall cX12_type [zi_293_0, zi_293_1] := zall_w _ _ (by decide +kernel)
noncomputable def xi_293 (pc : Nat) : XIs := cond (Nat.blt pc 34) (zx zi_293_0) (zx zi_293_1)
theorem xi_ok293 (pc : Nat) : xi_ok cX12_type (xi_293 pc) = true := xi_c (zq1 xi_w293) (zq1 (zq2 xi_w293))
noncomputable def zi_294_0 : ZIs := [(0, ev_13), (1, ev_10), (2, ev_1286), (5, ev_13), (6, ev_1191), (9, ev_685), (10, ev_13), (11, ev_10), (12, ev_1341), (15, ev_192), (16, ev_152)]
set_option maxRecDepth 100000 in
theorem xi_w294 : zall cX12_wipe [zi_294_0] := zall_w _ _ (by decide +kernel)
noncomputable def xi_294 (pc : Nat) : XIs := zx zi_294_0
theorem xi_ok294 (pc : Nat) : xi_ok cX12_wipe (xi_294 pc) = true := zq1 xi_w294
noncomputable def zi_295_0 : ZIs := [(0, ev_13), (1, ev_192), (2, ev_156), (3, ev_230), (4, ev_228), (5, ev_1316), (8, ev_1176), (11, ev_158), (14, ev_10), (15, ev_152), (16, ev_13), (17, ev_1342), (20, ev_326), (23, ev_252), (24, ev_1343), (27, ev_192)]
noncomputable def zi_295_1 : ZIs := [(28, ev_381), (31, ev_13), (32, ev_1342), (35, ev_212), (38, ev_13), (39, ev_1344), (42, ev_152)]
set_option maxRecDepth 100000 in
theorem xi_w295 : zall cX12_fault [zi_295_0, zi_295_1] := zall_w _ _ (by decide +kernel)
noncomputable def xi_295 (pc : Nat) : XIs := cond (Nat.blt pc 28) (zx zi_295_0) (zx zi_295_1)
theorem xi_ok295 (pc : Nat) : xi_ok cX12_fault (xi_295 pc) = true := xi_c (zq1 xi_w295) (zq1 (zq2 xi_w295))
noncomputable def zi_296_0 : ZIs := [(0, ev_482), (1, ev_422), (3, ev_414), (6, ev_482), (7, ev_885), (9, ev_886), (12, ev_7), (13, ev_229), (16, ev_10), (17, ev_152)]
set_option maxRecDepth 100000 in
theorem xi_w296 : zall cX12_isLetter [zi_296_0] := zall_w _ _ (by decide +kernel)
noncomputable def xi_296 (pc : Nat) : XIs := zx zi_296_0
theorem xi_ok296 (pc : Nat) : xi_ok cX12_isLetter (xi_296 pc) = true := zq1 xi_w296
noncomputable def zi_297_0 : ZIs := [(0, ev_482), (1, ev_935), (3, ev_414), (6, ev_482), (7, ev_937), (9, ev_886), (12, ev_7), (13, ev_229), (16, ev_10), (17, ev_152)]
set_option maxRecDepth 100000 in
theorem xi_w297 : zall cX12_isDigit [zi_297_0] := zall_w _ _ (by decide +kernel)
noncomputable def xi_297 (pc : Nat) : XIs := zx zi_297_0
theorem xi_ok297 (pc : Nat) : xi_ok cX12_isDigit (xi_297 pc) = true := zq1 xi_w297
noncomputable def zi_298_0 : ZIs := [(0, ev_13), (1, ev_1342), (4, ev_1132), (7, ev_13), (8, ev_192), (9, ev_1345), (12, ev_13), (13, ev_197), (14, ev_1346), (17, ev_260)]
set_option maxRecDepth 100000 in
theorem xi_w298 : zall cX12_blame [zi_298_0] := zall_w _ _ (by decide +kernel)
noncomputable def xi_298 (pc : Nat) : XIs := zx zi_298_0
theorem xi_ok298 (pc : Nat) : xi_ok cX12_blame (xi_298 pc) = true := zq1 xi_w298
noncomputable def zi_299_0 : ZIs := [(0, ev_13), (1, ev_1347), (4, ev_13), (5, ev_1191), (8, ev_929), (11, ev_13), (12, ev_840), (15, ev_13), (16, ev_1347), (19, ev_18), (20, ev_176), (22, ev_538), (25, ev_13), (26, ev_1), (27, ev_1347), (30, ev_7)]
noncomputable def zi_299_1 : ZIs := [(31, ev_22), (32, ev_1348), (35, ev_293), (38, ev_13), (39, ev_13), (40, ev_1347), (43, ev_1349), (46, ev_13), (47, ev_1347), (50, ev_13), (51, ev_1191), (54, ev_410), (57, ev_13), (58, ev_10), (59, ev_1350), (62, ev_260)]
noncomputable def zi_299_2 : ZIs := [(63, ev_13), (64, ev_840), (67, ev_13), (68, ev_1347), (71, ev_18), (72, ev_685), (73, ev_13), (74, ev_192), (75, ev_1351), (78, ev_192), (79, ev_400), (81, ev_1352), (84, ev_13), (85, ev_1347), (88, ev_7), (89, ev_22)]
noncomputable def zi_299_3 : ZIs := [(90, ev_13), (91, ev_1191), (94, ev_302), (97, ev_13), (98, ev_840), (101, ev_13), (102, ev_1347), (105, ev_7), (106, ev_22), (107, ev_18), (108, ev_1197), (111, ev_227), (114, ev_7), (115, ev_229), (118, ev_10), (119, ev_294)]
noncomputable def zi_299_4 : ZIs := [(120, ev_192), (121, ev_1197), (124, ev_326), (127, ev_197), (128, ev_1353), (131, ev_13), (132, ev_30), (133, ev_1350), (136, ev_13), (137, ev_1), (138, ev_1347), (141, ev_197), (142, ev_227), (145, ev_7), (146, ev_229), (149, ev_10)]
noncomputable def zi_299_5 : ZIs := [(150, ev_22), (151, ev_1348), (154, ev_13), (155, ev_468), (157, ev_1354), (160, ev_13), (161, ev_197), (162, ev_931), (165, ev_13), (166, ev_1355), (169, ev_476), (170, ev_212), (173, ev_13), (174, ev_1355), (177, ev_1356), (180, ev_260)]
noncomputable def zi_299_6 : ZIs := [(181, ev_13), (182, ev_192), (183, ev_1357), (186, ev_227), (189, ev_7), (190, ev_229), (193, ev_31), (194, ev_1350), (197, ev_13), (198, ev_1358), (201, ev_31), (202, ev_755), (205, ev_192), (206, ev_379), (208, ev_1359), (211, ev_13)]
noncomputable def zi_299_7 : ZIs := [(212, ev_7), (213, ev_13), (214, ev_1360), (217, ev_1361), (220, ev_13), (221, ev_1), (222, ev_1347), (225, ev_7), (226, ev_22), (227, ev_1348), (230, ev_260)]
set_option maxRecDepth 100000 in
theorem xi_w299 : zall cX12_nextToken [zi_299_0, zi_299_1, zi_299_2, zi_299_3, zi_299_4, zi_299_5, zi_299_6, zi_299_7] := zall_w _ _ (by decide +kernel)
noncomputable def xi_299 (pc : Nat) : XIs := cond (Nat.blt pc 120) (cond (Nat.blt pc 63) (cond (Nat.blt pc 31) (zx zi_299_0) (zx zi_299_1)) (cond (Nat.blt pc 90) (zx zi_299_2) (zx zi_299_3))) (cond (Nat.blt pc 181) (cond (Nat.blt pc 150) (zx zi_299_4) (zx zi_299_5)) (cond (Nat.blt pc 212) (zx zi_299_6) (zx zi_299_7)))
theorem xi_ok299 (pc : Nat) : xi_ok cX12_nextToken (xi_299 pc) = true := xi_c (xi_c (xi_c (zq1 xi_w299) (zq1 (zq2 xi_w299))) (xi_c (zq1 (zq2 (zq2 xi_w299))) (zq1 (zq2 (zq2 (zq2 xi_w299)))))) (xi_c (xi_c (zq1 (zq2 (zq2 (zq2 (zq2 xi_w299))))) (zq1 (zq2 (zq2 (zq2 (zq2 (zq2 xi_w299))))))) (xi_c (zq1 (zq2 (zq2 (zq2 (zq2 (zq2 (zq2 xi_w299))))))) (zq1 (zq2 (zq2 (zq2 (zq2 (zq2 (zq2 (zq2 xi_w299))))))))))
noncomputable def zi_300_0 : ZIs := [(0, ev_13), (1, ev_1347), (4, ev_294), (5, ev_13), (6, ev_230), (7, ev_1356), (10, ev_13), (11, ev_1347), (14, ev_13), (15, ev_1191), (18, ev_946), (21, ev_13), (22, ev_840), (25, ev_13), (26, ev_1347), (29, ev_18)]
noncomputable def zi_300_1 : ZIs := [(30, ev_1197), (33, ev_1362), (36, ev_13), (37, ev_13), (38, ev_1347), (41, ev_197), (42, ev_16), (43, ev_192), (44, ev_863), (47, ev_1363), (50, ev_13), (51, ev_1355), (54, ev_492), (55, ev_13), (56, ev_840), (59, ev_13)]
noncomputable def zi_300_2 : ZIs := [(60, ev_1347), (63, ev_18), (64, ev_156), (65, ev_457), (66, ev_1364), (69, ev_485), (70, ev_212), (73, ev_13), (74, ev_1355), (77, ev_1356), (80, ev_13), (81, ev_1), (82, ev_1347), (85, ev_7), (86, ev_22), (87, ev_1348)]
noncomputable def zi_300_3 : ZIs := [(90, ev_342), (93, ev_13), (94, ev_1347), (97, ev_197), (98, ev_16), (99, ev_192), (100, ev_1365), (103, ev_13), (104, ev_192), (105, ev_468), (107, ev_818), (110, ev_31), (111, ev_229), (114, ev_32), (115, ev_13), (116, ev_1360)]
noncomputable def zi_300_4 : ZIs := [(119, ev_1361), (122, ev_260)]
set_option maxRecDepth 100000 in
theorem xi_w300 : zall cX12_readNumber [zi_300_0, zi_300_1, zi_300_2, zi_300_3, zi_300_4] := zall_w _ _ (by decide +kernel)
noncomputable def xi_300 (pc : Nat) : XIs := cond (Nat.blt pc 60) (cond (Nat.blt pc 30) (zx zi_300_0) (zx zi_300_1)) (cond (Nat.blt pc 90) (zx zi_300_2) (cond (Nat.blt pc 119) (zx zi_300_3) (zx zi_300_4)))
theorem xi_ok300 (pc : Nat) : xi_ok cX12_readNumber (xi_300 pc) = true := xi_c (xi_c (zq1 xi_w300) (zq1 (zq2 xi_w300))) (xi_c (zq1 (zq2 (zq2 xi_w300))) (xi_c (zq1 (zq2 (zq2 (zq2 xi_w300)))) (zq1 (zq2 (zq2 (zq2 (zq2 xi_w300)))))))
noncomputable def zi_301_0 : ZIs := [(0, ev_192)]
noncomputable def xi_301_1 : XIs := [(1, .lookupswitch 76 #[(97, 45), (110, 35), (116, 65)], 35)]
set_option maxRecDepth 100000 in
theorem xi_ok301_1 : xi_ok cX12_shape xi_301_1 = true := by decide +kernel
noncomputable def zi_301_2 : ZIs := [(36, ev_197), (37, ev_326), (40, ev_7), (41, ev_229), (44, ev_31), (45, ev_152), (46, ev_197), (47, ev_32), (48, ev_656), (51, ev_30), (52, ev_473), (55, ev_197), (56, ev_32), (57, ev_818), (60, ev_7), (61, ev_229)]
noncomputable def zi_301_3 : ZIs := [(64, ev_31), (65, ev_152), (66, ev_197), (67, ev_7), (68, ev_656), (71, ev_30), (72, ev_229), (75, ev_31), (76, ev_152), (77, ev_197), (78, ev_30), (79, ev_656), (82, ev_30), (83, ev_229), (86, ev_31), (87, ev_152)]
set_option maxRecDepth 100000 in
theorem xi_w301 : zall cX12_shape [zi_301_0, zi_301_2, zi_301_3] := zall_w _ _ (by decide +kernel)
noncomputable def xi_301 (pc : Nat) : XIs := cond (Nat.blt pc 36) (cond (Nat.blt pc 1) (zx zi_301_0) (xi_301_1)) (cond (Nat.blt pc 64) (zx zi_301_2) (zx zi_301_3))
theorem xi_ok301 (pc : Nat) : xi_ok cX12_shape (xi_301 pc) = true := xi_c (xi_c (zq1 xi_w301) (xi_ok301_1)) (xi_c (zq1 (zq2 xi_w301)) (zq1 (zq2 (zq2 xi_w301))))
noncomputable def zi_302_0 : ZIs := [(0, ev_13), (1, ev_10), (2, ev_1286), (5, ev_13), (6, ev_10), (7, ev_1345), (10, ev_13), (11, ev_10), (12, ev_1366), (15, ev_13), (16, ev_10), (17, ev_1348), (20, ev_13), (21, ev_1367), (24, ev_13), (25, ev_1368)]
noncomputable def zi_302_1 : ZIs := [(28, ev_13), (29, ev_1358), (32, ev_617), (35, ev_13), (36, ev_1342), (39, ev_1369), (42, ev_13), (43, ev_1370), (46, ev_13), (47, ev_1342), (50, ev_1371), (53, ev_13), (54, ev_1368), (57, ev_853), (60, ev_13), (61, ev_1342)]
noncomputable def zi_302_2 : ZIs := [(64, ev_1372), (67, ev_808), (69, ev_152), (70, ev_10), (71, ev_685), (72, ev_192), (73, ev_13), (74, ev_1373), (77, ev_1374), (80, ev_33), (81, ev_192), (82, ev_355), (83, ev_294), (84, ev_13), (85, ev_1014), (88, ev_192)]
noncomputable def zi_302_3 : ZIs := [(89, ev_18)]
noncomputable def xi_302_4 : XIs := [(90, .lookupswitch 123 #[(97, 53), (110, 34), (116, 104)], 34)]
set_option maxRecDepth 100000 in
theorem xi_ok302_4 : xi_ok cX12_load xi_302_4 = true := by decide +kernel
noncomputable def zi_302_5 : ZIs := [(124, ev_13), (125, ev_10), (126, ev_13), (127, ev_960), (130, ev_197), (131, ev_18), (132, ev_10), (133, ev_10), (134, ev_10), (135, ev_10), (136, ev_10), (137, ev_1318), (140, ev_1375), (143, ev_13), (144, ev_7), (145, ev_13)]
noncomputable def zi_302_6 : ZIs := [(146, ev_10), (147, ev_1322), (150, ev_13), (151, ev_960), (154, ev_197), (155, ev_18), (156, ev_13), (157, ev_960), (160, ev_197), (161, ev_7), (162, ev_22), (163, ev_18), (164, ev_13), (165, ev_960), (168, ev_197), (169, ev_30)]
noncomputable def zi_302_7 : ZIs := [(170, ev_22), (171, ev_18), (172, ev_13), (173, ev_960), (176, ev_197), (177, ev_31), (178, ev_22), (179, ev_18), (180, ev_13), (181, ev_960), (184, ev_197), (185, ev_32), (186, ev_22), (187, ev_18), (188, ev_1318), (191, ev_1376)]
noncomputable def zi_302_8 : ZIs := [(194, ev_13), (195, ev_30), (196, ev_13), (197, ev_960), (200, ev_197), (201, ev_18), (202, ev_10), (203, ev_10), (204, ev_10), (205, ev_10), (206, ev_10), (207, ev_1318), (210, ev_1377), (213, ev_13), (214, ev_31), (215, ev_13)]
noncomputable def zi_302_9 : ZIs := [(216, ev_960), (219, ev_197), (220, ev_18), (221, ev_10), (222, ev_13), (223, ev_960), (226, ev_197), (227, ev_7), (228, ev_22), (229, ev_18), (230, ev_10), (231, ev_10), (232, ev_10), (233, ev_1318), (236, ev_688), (239, ev_1378)]
noncomputable def zi_302_10 : ZIs := [(242, ev_13), (243, ev_1373), (246, ev_152)]
set_option maxRecDepth 100000 in
theorem xi_w302 : zall cX12_load [zi_302_0, zi_302_1, zi_302_2, zi_302_3, zi_302_5, zi_302_6, zi_302_7, zi_302_8, zi_302_9, zi_302_10] := zall_w _ _ (by decide +kernel)
noncomputable def xi_302 (pc : Nat) : XIs := cond (Nat.blt pc 124) (cond (Nat.blt pc 64) (cond (Nat.blt pc 28) (zx zi_302_0) (zx zi_302_1)) (cond (Nat.blt pc 89) (zx zi_302_2) (cond (Nat.blt pc 90) (zx zi_302_3) (xi_302_4)))) (cond (Nat.blt pc 194) (cond (Nat.blt pc 146) (zx zi_302_5) (cond (Nat.blt pc 170) (zx zi_302_6) (zx zi_302_7))) (cond (Nat.blt pc 216) (zx zi_302_8) (cond (Nat.blt pc 242) (zx zi_302_9) (zx zi_302_10))))
theorem xi_ok302 (pc : Nat) : xi_ok cX12_load (xi_302 pc) = true := xi_c (xi_c (xi_c (zq1 xi_w302) (zq1 (zq2 xi_w302))) (xi_c (zq1 (zq2 (zq2 xi_w302))) (xi_c (zq1 (zq2 (zq2 (zq2 xi_w302)))) (xi_ok302_4)))) (xi_c (xi_c (zq1 (zq2 (zq2 (zq2 (zq2 xi_w302))))) (xi_c (zq1 (zq2 (zq2 (zq2 (zq2 (zq2 xi_w302)))))) (zq1 (zq2 (zq2 (zq2 (zq2 (zq2 (zq2 xi_w302))))))))) (xi_c (zq1 (zq2 (zq2 (zq2 (zq2 (zq2 (zq2 (zq2 xi_w302)))))))) (xi_c (zq1 (zq2 (zq2 (zq2 (zq2 (zq2 (zq2 (zq2 (zq2 xi_w302))))))))) (zq1 (zq2 (zq2 (zq2 (zq2 (zq2 (zq2 (zq2 (zq2 (zq2 xi_w302)))))))))))))
noncomputable def zi_303_0 : ZIs := [(0, ev_13), (1, ev_1299), (4, ev_30), (5, ev_13), (6, ev_1299), (9, ev_10), (10, ev_18), (11, ev_299), (12, ev_10), (13, ev_685), (14, ev_192), (15, ev_529), (18, ev_943), (21, ev_13), (22, ev_1290), (25, ev_1379)]
noncomputable def zi_303_1 : ZIs := [(28, ev_192), (29, ev_22), (30, ev_13), (31, ev_1290), (34, ev_192), (35, ev_1292), (36, ev_1301), (37, ev_688), (40, ev_562), (43, ev_260)]
set_option maxRecDepth 100000 in
theorem xi_w303 : zall cX12_copyGraph [zi_303_0, zi_303_1] := zall_w _ _ (by decide +kernel)
noncomputable def xi_303 (pc : Nat) : XIs := cond (Nat.blt pc 28) (zx zi_303_0) (zx zi_303_1)
theorem xi_ok303 (pc : Nat) : xi_ok cX12_copyGraph (xi_303 pc) = true := xi_c (zq1 xi_w303) (zq1 (zq2 xi_w303))
noncomputable def zi_304_0 : ZIs := [(0, ev_13), (1, ev_1360), (4, ev_685), (5, ev_13), (6, ev_1380), (9, ev_294), (10, ev_13), (11, ev_1358), (14, ev_7), (15, ev_971), (18, ev_197), (19, ev_944), (21, ev_985), (24, ev_197), (25, ev_422), (27, ev_1381)]
noncomputable def zi_304_1 : ZIs := [(30, ev_197), (31, ev_1382), (33, ev_698), (36, ev_197), (37, ev_1383), (39, ev_1384), (42, ev_13), (43, ev_30), (44, ev_13), (45, ev_1360), (48, ev_1361), (51, ev_260), (52, ev_10), (53, ev_295), (54, ev_7), (55, ev_11)]
noncomputable def zi_304_2 : ZIs := [(57, ev_12), (59, ev_1385), (62, ev_13), (63, ev_1342), (66, ev_1386), (69, ev_13), (70, ev_1368), (73, ev_13), (74, ev_197), (75, ev_198), (76, ev_1387), (79, ev_25), (81, ev_13), (82, ev_1342), (85, ev_1388), (88, ev_13)]
noncomputable def zi_304_3 : ZIs := [(89, ev_1358), (92, ev_150), (94, ev_755), (97, ev_150), (99, ev_31), (100, ev_1389), (103, ev_13), (104, ev_1380), (107, ev_379), (109, ev_1359), (112, ev_13), (113, ev_30), (114, ev_13), (115, ev_1360), (118, ev_1361), (121, ev_150)]
noncomputable def zi_304_4 : ZIs := [(123, ev_31), (124, ev_681), (127, ev_7), (128, ev_229), (131, ev_10), (132, ev_11), (134, ev_13), (135, ev_1342), (138, ev_1390), (141, ev_12), (143, ev_867), (146, ev_13), (147, ev_960), (150, ev_33), (151, ev_13), (152, ev_1373)]
noncomputable def zi_304_5 : ZIs := [(155, ev_355), (156, ev_198), (157, ev_22), (158, ev_150), (160, ev_7), (161, ev_927), (164, ev_13), (165, ev_1380), (168, ev_422), (170, ev_16), (171, ev_986), (174, ev_13), (175, ev_1355), (178, ev_991), (179, ev_299), (180, ev_300)]
noncomputable def zi_304_6 : ZIs := [(183, ev_1391), (186, ev_13), (187, ev_1342), (190, ev_1392), (193, ev_13), (194, ev_1014), (197, ev_13), (198, ev_1373), (201, ev_197), (202, ev_299), (203, ev_13), (204, ev_197), (205, ev_33), (206, ev_13), (207, ev_1373), (210, ev_355)]
noncomputable def zi_304_7 : ZIs := [(211, ev_1393), (214, ev_393), (217, ev_13), (218, ev_1293), (221, ev_13), (222, ev_1373), (225, ev_22), (226, ev_765), (229, ev_1394), (232, ev_13), (233, ev_32), (234, ev_192), (235, ev_1361), (238, ev_13), (239, ev_1), (240, ev_1373)]
noncomputable def zi_304_8 : ZIs := [(243, ev_7), (244, ev_22), (245, ev_1366), (248, ev_260)]
set_option maxRecDepth 100000 in
theorem xi_w304 : zall cX12_command [zi_304_0, zi_304_1, zi_304_2, zi_304_3, zi_304_4, zi_304_5, zi_304_6, zi_304_7, zi_304_8] := zall_w _ _ (by decide +kernel)
noncomputable def xi_304 (pc : Nat) : XIs := cond (Nat.blt pc 123) (cond (Nat.blt pc 57) (cond (Nat.blt pc 30) (zx zi_304_0) (zx zi_304_1)) (cond (Nat.blt pc 89) (zx zi_304_2) (zx zi_304_3))) (cond (Nat.blt pc 183) (cond (Nat.blt pc 155) (zx zi_304_4) (zx zi_304_5)) (cond (Nat.blt pc 211) (zx zi_304_6) (cond (Nat.blt pc 243) (zx zi_304_7) (zx zi_304_8))))
theorem xi_ok304 (pc : Nat) : xi_ok cX12_command (xi_304 pc) = true := xi_c (xi_c (xi_c (zq1 xi_w304) (zq1 (zq2 xi_w304))) (xi_c (zq1 (zq2 (zq2 xi_w304))) (zq1 (zq2 (zq2 (zq2 xi_w304)))))) (xi_c (xi_c (zq1 (zq2 (zq2 (zq2 (zq2 xi_w304))))) (zq1 (zq2 (zq2 (zq2 (zq2 (zq2 xi_w304))))))) (xi_c (zq1 (zq2 (zq2 (zq2 (zq2 (zq2 (zq2 xi_w304))))))) (xi_c (zq1 (zq2 (zq2 (zq2 (zq2 (zq2 (zq2 (zq2 xi_w304)))))))) (zq1 (zq2 (zq2 (zq2 (zq2 (zq2 (zq2 (zq2 (zq2 xi_w304))))))))))))
noncomputable def zi_305_0 : ZIs := [(0, ev_13), (1, ev_960), (4, ev_197), (5, ev_18), (6, ev_295), (7, ev_13), (8, ev_960), (11, ev_197), (12, ev_7), (13, ev_22), (14, ev_18), (15, ev_11), (17, ev_192)]
noncomputable def xi_305_1 : XIs := [(18, .lookupswitch 240 #[(97, 61), (110, 34), (116, 173)], 34)]
set_option maxRecDepth 100000 in
theorem xi_ok305_1 : xi_ok cX12_isDone xi_305_1 = true := by decide +kernel
noncomputable def zi_305_2 : ZIs := [(52, ev_13), (53, ev_1299), (56, ev_30), (57, ev_316), (58, ev_18), (59, ev_7), (60, ev_22), (61, ev_299), (62, ev_13), (63, ev_1299), (66, ev_30), (67, ev_18), (68, ev_176), (70, ev_886), (73, ev_7), (74, ev_229)]
noncomputable def zi_305_3 : ZIs := [(77, ev_10), (78, ev_152), (79, ev_13), (80, ev_30), (81, ev_1322), (84, ev_25), (86, ev_150), (88, ev_529), (91, ev_1395), (94, ev_198), (95, ev_156), (96, ev_230), (97, ev_13), (98, ev_1299), (101, ev_30), (102, ev_18)]
noncomputable def zi_305_4 : ZIs := [(103, ev_7), (104, ev_16), (105, ev_156), (106, ev_1316), (109, ev_353), (112, ev_12), (114, ev_156), (115, ev_230), (116, ev_13), (117, ev_1299), (120, ev_30), (121, ev_18), (122, ev_7), (123, ev_16), (124, ev_156), (125, ev_1316)]
noncomputable def zi_305_5 : ZIs := [(128, ev_867), (131, ev_13), (132, ev_960), (135, ev_197), (136, ev_30), (137, ev_22), (138, ev_18), (139, ev_1320), (142, ev_1170), (145, ev_13), (146, ev_960), (149, ev_197), (150, ev_31), (151, ev_22), (152, ev_18), (153, ev_156)]
noncomputable def zi_305_6 : ZIs := [(154, ev_230), (155, ev_1315), (158, ev_1316), (161, ev_227), (164, ev_7), (165, ev_229), (168, ev_10), (169, ev_28), (171, ev_155), (173, ev_771), (176, ev_13), (177, ev_1290), (180, ev_1379), (183, ev_150), (185, ev_22), (186, ev_7)]
noncomputable def zi_305_7 : ZIs := [(187, ev_1301), (188, ev_155), (190, ev_152), (191, ev_198), (192, ev_156), (193, ev_230), (194, ev_1331), (197, ev_1316), (200, ev_1396), (203, ev_13), (204, ev_1290), (207, ev_1379), (210, ev_198), (211, ev_156), (212, ev_230), (213, ev_1331)]
noncomputable def zi_305_8 : ZIs := [(216, ev_1316), (219, ev_227), (222, ev_198), (223, ev_229), (226, ev_10), (227, ev_22), (228, ev_1292), (229, ev_227), (232, ev_7), (233, ev_229), (236, ev_10), (237, ev_275), (239, ev_276), (241, ev_1004), (244, ev_13), (245, ev_1290)]
noncomputable def zi_305_9 : ZIs := [(248, ev_1379), (251, ev_198), (252, ev_22), (253, ev_10), (254, ev_1301), (255, ev_276), (257, ev_152), (258, ev_198), (259, ev_156), (260, ev_230), (261, ev_1331), (264, ev_1316), (267, ev_939), (270, ev_13), (271, ev_1290), (274, ev_1379)]
noncomputable def zi_305_10 : ZIs := [(277, ev_198), (278, ev_156), (279, ev_230), (280, ev_1331), (283, ev_1316), (286, ev_227), (289, ev_198), (290, ev_229), (293, ev_10), (294, ev_22), (295, ev_1292), (296, ev_771), (299, ev_12), (301, ev_1320), (304, ev_227), (307, ev_7)]
noncomputable def zi_305_11 : ZIs := [(308, ev_229), (311, ev_10), (312, ev_152)]
set_option maxRecDepth 100000 in
theorem xi_w305 : zall cX12_isDone [zi_305_0, zi_305_2, zi_305_3, zi_305_4, zi_305_5, zi_305_6, zi_305_7, zi_305_8, zi_305_9, zi_305_10, zi_305_11] := zall_w _ _ (by decide +kernel)
noncomputable def xi_305 (pc : Nat) : XIs := cond (Nat.blt pc 154) (cond (Nat.blt pc 77) (cond (Nat.blt pc 18) (zx zi_305_0) (cond (Nat.blt pc 52) (xi_305_1) (zx zi_305_2))) (cond (Nat.blt pc 103) (zx zi_305_3) (cond (Nat.blt pc 128) (zx zi_305_4) (zx zi_305_5)))) (cond (Nat.blt pc 248) (cond (Nat.blt pc 187) (zx zi_305_6) (cond (Nat.blt pc 216) (zx zi_305_7) (zx zi_305_8))) (cond (Nat.blt pc 277) (zx zi_305_9) (cond (Nat.blt pc 308) (zx zi_305_10) (zx zi_305_11))))
theorem xi_ok305 (pc : Nat) : xi_ok cX12_isDone (xi_305 pc) = true := xi_c (xi_c (xi_c (zq1 xi_w305) (xi_c (xi_ok305_1) (zq1 (zq2 xi_w305)))) (xi_c (zq1 (zq2 (zq2 xi_w305))) (xi_c (zq1 (zq2 (zq2 (zq2 xi_w305)))) (zq1 (zq2 (zq2 (zq2 (zq2 xi_w305)))))))) (xi_c (xi_c (zq1 (zq2 (zq2 (zq2 (zq2 (zq2 xi_w305)))))) (xi_c (zq1 (zq2 (zq2 (zq2 (zq2 (zq2 (zq2 xi_w305))))))) (zq1 (zq2 (zq2 (zq2 (zq2 (zq2 (zq2 (zq2 xi_w305)))))))))) (xi_c (zq1 (zq2 (zq2 (zq2 (zq2 (zq2 (zq2 (zq2 (zq2 xi_w305))))))))) (xi_c (zq1 (zq2 (zq2 (zq2 (zq2 (zq2 (zq2 (zq2 (zq2 (zq2 xi_w305)))))))))) (zq1 (zq2 (zq2 (zq2 (zq2 (zq2 (zq2 (zq2 (zq2 (zq2 (zq2 xi_w305))))))))))))))
noncomputable def zi_306_0 : ZIs := [(0, ev_13), (1, ev_845), (4, ev_13), (5, ev_1397), (8, ev_192), (9, ev_299), (10, ev_13), (11, ev_1), (12, ev_1397), (15, ev_7), (16, ev_22), (17, ev_1398), (20, ev_260)]
set_option maxRecDepth 100000 in
theorem xi_w306 : zall cX12_put [zi_306_0] := zall_w _ _ (by decide +kernel)
noncomputable def xi_306 (pc : Nat) : XIs := zx zi_306_0
theorem xi_ok306 (pc : Nat) : xi_ok cX12_put (xi_306 pc) = true := zq1 xi_w306
noncomputable def zi_307_0 : ZIs := [(0, ev_13), (1, ev_176), (3, ev_1399), (6, ev_192), (7, ev_950), (10, ev_13), (11, ev_400), (13, ev_1399), (16, ev_192), (17, ev_1400), (20, ev_192), (21, ev_310), (22, ev_229), (25, ev_192), (26, ev_294), (27, ev_7)]
noncomputable def zi_307_1 : ZIs := [(28, ev_295), (29, ev_197), (30, ev_198), (31, ev_582), (32, ev_413), (34, ev_1401), (37, ev_198), (38, ev_413), (40, ev_355), (41, ev_295), (42, ev_801), (45, ev_198), (46, ev_1402), (49, ev_13), (50, ev_935), (52, ev_197)]
noncomputable def zi_307_2 : ZIs := [(53, ev_198), (54, ev_582), (55, ev_413), (57, ev_508), (58, ev_22), (59, ev_1399), (62, ev_198), (63, ev_413), (65, ev_582), (66, ev_295), (67, ev_624), (70, ev_260)]
set_option maxRecDepth 100000 in
theorem xi_w307 : zall cX12_putNumber [zi_307_0, zi_307_1, zi_307_2] := zall_w _ _ (by decide +kernel)
noncomputable def xi_307 (pc : Nat) : XIs := cond (Nat.blt pc 28) (zx zi_307_0) (cond (Nat.blt pc 53) (zx zi_307_1) (zx zi_307_2))
theorem xi_ok307 (pc : Nat) : xi_ok cX12_putNumber (xi_307 pc) = true := xi_c (zq1 xi_w307) (xi_c (zq1 (zq2 xi_w307)) (zq1 (zq2 (zq2 xi_w307))))
noncomputable def zi_308_0 : ZIs := [(0, ev_13), (1, ev_10), (2, ev_1286), (5, ev_13), (6, ev_10), (7, ev_1398), (10, ev_10), (11, ev_685), (12, ev_192), (13, ev_13), (14, ev_1288), (17, ev_1403), (20, ev_13), (21, ev_944), (23, ev_1399), (26, ev_13)]
noncomputable def zi_308_1 : ZIs := [(27, ev_176), (29, ev_1399), (32, ev_13), (33, ev_422), (35, ev_13), (36, ev_1298), (39, ev_176), (41, ev_13), (42, ev_1162), (45, ev_355), (46, ev_192), (47, ev_22), (48, ev_18), (49, ev_22), (50, ev_1399), (53, ev_13)]
noncomputable def zi_308_2 : ZIs := [(54, ev_379), (56, ev_1399), (59, ev_688), (62, ev_1404), (65, ev_13), (66, ev_1291), (69, ev_685), (70, ev_192), (71, ev_13), (72, ev_1291), (75, ev_529), (78, ev_22), (79, ev_1405), (82, ev_13), (83, ev_1290), (86, ev_192)]
noncomputable def zi_308_3 : ZIs := [(87, ev_1292), (88, ev_1406), (91, ev_13), (92, ev_422), (94, ev_1399), (97, ev_13), (98, ev_13), (99, ev_1302), (102, ev_192), (103, ev_18), (104, ev_1407), (107, ev_13), (108, ev_13), (109, ev_1038), (112, ev_192), (113, ev_18)]
noncomputable def zi_308_4 : ZIs := [(114, ev_1407), (117, ev_13), (118, ev_13), (119, ev_1039), (122, ev_192), (123, ev_18), (124, ev_1407), (127, ev_13), (128, ev_13), (129, ev_465), (132, ev_192), (133, ev_18), (134, ev_1407), (137, ev_13), (138, ev_176), (140, ev_1399)]
noncomputable def zi_308_5 : ZIs := [(143, ev_13), (144, ev_422), (146, ev_13), (147, ev_434), (150, ev_192), (151, ev_18), (152, ev_22), (153, ev_1399), (156, ev_13), (157, ev_379), (159, ev_1399), (162, ev_688), (165, ev_956), (168, ev_13), (169, ev_1397), (172, ev_152)]
set_option maxRecDepth 100000 in
theorem xi_w308 : zall cX12_print [zi_308_0, zi_308_1, zi_308_2, zi_308_3, zi_308_4, zi_308_5] := zall_w _ _ (by decide +kernel)
noncomputable def xi_308 (pc : Nat) : XIs := cond (Nat.blt pc 87) (cond (Nat.blt pc 27) (zx zi_308_0) (cond (Nat.blt pc 54) (zx zi_308_1) (zx zi_308_2))) (cond (Nat.blt pc 114) (zx zi_308_3) (cond (Nat.blt pc 143) (zx zi_308_4) (zx zi_308_5)))
theorem xi_ok308 (pc : Nat) : xi_ok cX12_print (xi_308 pc) = true := xi_c (xi_c (zq1 xi_w308) (xi_c (zq1 (zq2 xi_w308)) (zq1 (zq2 (zq2 xi_w308))))) (xi_c (zq1 (zq2 (zq2 (zq2 xi_w308)))) (xi_c (zq1 (zq2 (zq2 (zq2 (zq2 xi_w308))))) (zq1 (zq2 (zq2 (zq2 (zq2 (zq2 xi_w308))))))))
noncomputable def zi_309_0 : ZIs := [(0, ev_13), (1, ev_192), (2, ev_678), (5, ev_192), (6, ev_13), (7, ev_1397), (10, ev_656), (13, ev_7), (14, ev_229), (17, ev_10), (18, ev_1176), (21, ev_227), (24, ev_10), (25, ev_195), (28, ev_13), (29, ev_845)]
noncomputable def zi_309_1 : ZIs := [(32, ev_192), (33, ev_18), (34, ev_152)]
set_option maxRecDepth 100000 in
theorem xi_w309 : zall cX12_printed [zi_309_0, zi_309_1] := zall_w _ _ (by decide +kernel)
noncomputable def xi_309 (pc : Nat) : XIs := cond (Nat.blt pc 32) (zx zi_309_0) (zx zi_309_1)
theorem xi_ok309 (pc : Nat) : xi_ok cX12_printed (xi_309 pc) = true := xi_c (zq1 xi_w309) (zq1 (zq2 xi_w309))
noncomputable def zi_310_0 : ZIs := [(0, ev_10), (1, ev_11), (3, ev_12), (5, ev_13), (6, ev_1288), (9, ev_929), (12, ev_13), (13, ev_958), (16, ev_12), (18, ev_12), (20, ev_198), (21, ev_818), (24, ev_10), (25, ev_212), (28, ev_7), (29, ev_12)]
noncomputable def zi_310_1 : ZIs := [(31, ev_277), (32, ev_299), (33, ev_348), (36, ev_861), (39, ev_10), (40, ev_11), (42, ev_12), (44, ev_529), (47, ev_325), (50, ev_13), (51, ev_1302), (54, ev_13), (55, ev_1291), (58, ev_12), (60, ev_22), (61, ev_18)]
noncomputable def zi_310_2 : ZIs := [(62, ev_25), (64, ev_13), (65, ev_1038), (68, ev_13), (69, ev_1291), (72, ev_12), (74, ev_22), (75, ev_18), (76, ev_28), (78, ev_13), (79, ev_1290), (82, ev_13), (83, ev_1291), (86, ev_12), (88, ev_22), (89, ev_1292)]
noncomputable def zi_310_3 : ZIs := [(90, ev_1408), (93, ev_12), (95, ev_197), (96, ev_1409), (99, ev_150), (101, ev_198), (102, ev_1410), (105, ev_155), (107, ev_198), (108, ev_1411), (111, ev_13), (112, ev_958), (115, ev_150), (117, ev_316), (118, ev_18), (119, ev_7)]
noncomputable def zi_310_4 : ZIs := [(120, ev_155), (122, ev_277), (123, ev_278), (124, ev_299), (125, ev_13), (126, ev_958), (129, ev_155), (131, ev_316), (132, ev_18), (133, ev_192), (134, ev_385), (137, ev_7), (138, ev_150), (140, ev_277), (141, ev_229), (144, ev_10)]
noncomputable def zi_310_5 : ZIs := [(145, ev_278), (146, ev_299), (147, ev_348), (150, ev_1412), (153, ev_10), (154, ev_11), (156, ev_12), (158, ev_13), (159, ev_1288), (162, ev_611), (165, ev_10), (166, ev_25), (168, ev_150), (170, ev_13), (171, ev_1288), (174, ev_721)]
noncomputable def zi_310_6 : ZIs := [(177, ev_13), (178, ev_958), (181, ev_150), (183, ev_316), (184, ev_18), (185, ev_13), (186, ev_958), (189, ev_150), (191, ev_18), (192, ev_12), (194, ev_303), (195, ev_7), (196, ev_20), (197, ev_7), (198, ev_927), (201, ev_13)]
noncomputable def zi_310_7 : ZIs := [(202, ev_958), (205, ev_12), (207, ev_18), (208, ev_229), (211, ev_10), (212, ev_278), (213, ev_299), (214, ev_343), (217, ev_653), (220, ev_348), (223, ev_1413), (226, ev_260)]
set_option maxRecDepth 100000 in
theorem xi_w310 : zall cX12_close [zi_310_0, zi_310_1, zi_310_2, zi_310_3, zi_310_4, zi_310_5, zi_310_6, zi_310_7] := zall_w _ _ (by decide +kernel)
noncomputable def xi_310 (pc : Nat) : XIs := cond (Nat.blt pc 120) (cond (Nat.blt pc 62) (cond (Nat.blt pc 31) (zx zi_310_0) (zx zi_310_1)) (cond (Nat.blt pc 90) (zx zi_310_2) (zx zi_310_3))) (cond (Nat.blt pc 177) (cond (Nat.blt pc 145) (zx zi_310_4) (zx zi_310_5)) (cond (Nat.blt pc 202) (zx zi_310_6) (zx zi_310_7)))
theorem xi_ok310 (pc : Nat) : xi_ok cX12_close (xi_310 pc) = true := xi_c (xi_c (xi_c (zq1 xi_w310) (zq1 (zq2 xi_w310))) (xi_c (zq1 (zq2 (zq2 xi_w310))) (zq1 (zq2 (zq2 (zq2 xi_w310)))))) (xi_c (xi_c (zq1 (zq2 (zq2 (zq2 (zq2 xi_w310))))) (zq1 (zq2 (zq2 (zq2 (zq2 (zq2 xi_w310))))))) (xi_c (zq1 (zq2 (zq2 (zq2 (zq2 (zq2 (zq2 xi_w310))))))) (zq1 (zq2 (zq2 (zq2 (zq2 (zq2 (zq2 (zq2 xi_w310))))))))))
noncomputable def zi_311_0 : ZIs := [(0, ev_482), (1, ev_192), (2, ev_303), (3, ev_7), (4, ev_20), (5, ev_7), (6, ev_818), (9, ev_7), (10, ev_229), (13, ev_10), (14, ev_152)]
set_option maxRecDepth 100000 in
theorem xi_w311 : zall cX12_has [zi_311_0] := zall_w _ _ (by decide +kernel)
noncomputable def xi_311 (pc : Nat) : XIs := zx zi_311_0
theorem xi_ok311 (pc : Nat) : xi_ok cX12_has (xi_311 pc) = true := zq1 xi_w311
noncomputable def zi_312_0 : ZIs := [(0, ev_10), (1, ev_295), (2, ev_198), (3, ev_13), (4, ev_1288), (7, ev_943), (10, ev_13), (11, ev_716), (14, ev_198), (15, ev_1333), (18, ev_194), (19, ev_13), (20, ev_307), (23, ev_198), (24, ev_10), (25, ev_299)]
noncomputable def zi_312_1 : ZIs := [(26, ev_300), (29, ev_360), (32, ev_13), (33, ev_716), (36, ev_192), (37, ev_230), (38, ev_194), (39, ev_7), (40, ev_295), (41, ev_10), (42, ev_11), (44, ev_12), (46, ev_13), (47, ev_1288), (50, ev_1414), (53, ev_198)]
noncomputable def zi_312_2 : ZIs := [(54, ev_1415), (57, ev_10), (58, ev_295), (59, ev_13), (60, ev_1291), (63, ev_25), (65, ev_150), (67, ev_13), (68, ev_1291), (71, ev_529), (74, ev_22), (75, ev_1416), (78, ev_13), (79, ev_1290), (82, ev_150), (84, ev_1292)]
noncomputable def zi_312_3 : ZIs := [(85, ev_1417), (88, ev_197), (89, ev_13), (90, ev_1302), (93, ev_150), (95, ev_18), (96, ev_1418), (99, ev_1419), (102, ev_197), (103, ev_13), (104, ev_1038), (107, ev_150), (109, ev_18), (110, ev_1418), (113, ev_1420), (116, ev_13)]
noncomputable def zi_312_4 : ZIs := [(117, ev_716), (120, ev_13), (121, ev_1038), (124, ev_150), (126, ev_18), (127, ev_154), (128, ev_1333), (131, ev_157), (132, ev_1421), (135, ev_13), (136, ev_716), (139, ev_13), (140, ev_1038), (143, ev_150), (145, ev_18), (146, ev_154)]
noncomputable def zi_312_5 : ZIs := [(147, ev_13), (148, ev_1039), (151, ev_150), (153, ev_18), (154, ev_156), (155, ev_457), (156, ev_58), (158, ev_13), (159, ev_307), (162, ev_13), (163, ev_1038), (166, ev_150), (168, ev_18), (169, ev_18), (170, ev_7), (171, ev_22)]
noncomputable def zi_312_6 : ZIs := [(172, ev_313), (174, ev_460), (176, ev_13), (177, ev_716), (180, ev_13), (181, ev_1302), (184, ev_150), (186, ev_18), (187, ev_154), (188, ev_157), (189, ev_1422), (192, ev_13), (193, ev_716), (196, ev_13), (197, ev_1302), (200, ev_150)]
noncomputable def zi_312_7 : ZIs := [(202, ev_18), (203, ev_460), (205, ev_194), (206, ev_13), (207, ev_307), (210, ev_13), (211, ev_1302), (214, ev_150), (216, ev_18), (217, ev_314), (219, ev_299), (220, ev_7), (221, ev_295), (222, ev_343), (225, ev_1423), (228, ev_348)]
noncomputable def zi_312_8 : ZIs := [(231, ev_1424), (234, ev_198), (235, ev_158), (238, ev_10), (239, ev_152), (240, ev_13), (241, ev_192), (242, ev_197), (243, ev_1425), (246, ev_7), (247, ev_152)]
set_option maxRecDepth 100000 in
theorem xi_w312 : zall cX12_toGoal [zi_312_0, zi_312_1, zi_312_2, zi_312_3, zi_312_4, zi_312_5, zi_312_6, zi_312_7, zi_312_8] := zall_w _ _ (by decide +kernel)
noncomputable def xi_312 (pc : Nat) : XIs := cond (Nat.blt pc 117) (cond (Nat.blt pc 54) (cond (Nat.blt pc 26) (zx zi_312_0) (zx zi_312_1)) (cond (Nat.blt pc 85) (zx zi_312_2) (zx zi_312_3))) (cond (Nat.blt pc 172) (cond (Nat.blt pc 147) (zx zi_312_4) (zx zi_312_5)) (cond (Nat.blt pc 202) (zx zi_312_6) (cond (Nat.blt pc 231) (zx zi_312_7) (zx zi_312_8))))
theorem xi_ok312 (pc : Nat) : xi_ok cX12_toGoal (xi_312 pc) = true := xi_c (xi_c (xi_c (zq1 xi_w312) (zq1 (zq2 xi_w312))) (xi_c (zq1 (zq2 (zq2 xi_w312))) (zq1 (zq2 (zq2 (zq2 xi_w312)))))) (xi_c (xi_c (zq1 (zq2 (zq2 (zq2 (zq2 xi_w312))))) (zq1 (zq2 (zq2 (zq2 (zq2 (zq2 xi_w312))))))) (xi_c (zq1 (zq2 (zq2 (zq2 (zq2 (zq2 (zq2 xi_w312))))))) (xi_c (zq1 (zq2 (zq2 (zq2 (zq2 (zq2 (zq2 (zq2 xi_w312)))))))) (zq1 (zq2 (zq2 (zq2 (zq2 (zq2 (zq2 (zq2 (zq2 xi_w312))))))))))))
noncomputable def zi_313_0 : ZIs := [(0, ev_10), (1, ev_295), (2, ev_198), (3, ev_13), (4, ev_1288), (7, ev_990), (10, ev_13), (11, ev_307), (14, ev_198), (15, ev_198), (16, ev_192), (17, ev_818), (20, ev_10), (21, ev_209), (24, ev_803), (27, ev_299)]
noncomputable def zi_313_1 : ZIs := [(28, ev_300), (31, ev_853), (34, ev_10), (35, ev_295), (36, ev_198), (37, ev_13), (38, ev_1288), (41, ev_1426), (44, ev_13), (45, ev_1291), (48, ev_11), (50, ev_12), (52, ev_13), (53, ev_1291), (56, ev_529), (59, ev_22)]
noncomputable def zi_313_2 : ZIs := [(60, ev_1374), (63, ev_13), (64, ev_1290), (67, ev_12), (69, ev_1292), (70, ev_1427), (73, ev_197), (74, ev_13), (75, ev_1302), (78, ev_12), (80, ev_18), (81, ev_1418), (84, ev_1428), (87, ev_197), (88, ev_13), (89, ev_1038)]
noncomputable def zi_313_3 : ZIs := [(92, ev_12), (94, ev_18), (95, ev_1418), (98, ev_1429), (101, ev_13), (102, ev_716), (105, ev_13), (106, ev_1038), (109, ev_12), (111, ev_18), (112, ev_154), (113, ev_1333), (116, ev_157), (117, ev_1430), (120, ev_13), (121, ev_716)]
noncomputable def zi_313_4 : ZIs := [(124, ev_13), (125, ev_1302), (128, ev_12), (130, ev_18), (131, ev_154), (132, ev_13), (133, ev_716), (136, ev_13), (137, ev_1038), (140, ev_12), (142, ev_18), (143, ev_154), (144, ev_13), (145, ev_1039), (148, ev_12), (150, ev_18)]
noncomputable def zi_313_5 : ZIs := [(151, ev_156), (152, ev_457), (153, ev_157), (154, ev_328), (157, ev_13), (158, ev_307), (161, ev_13), (162, ev_1038), (165, ev_12), (167, ev_18), (168, ev_18), (169, ev_7), (170, ev_22), (171, ev_25), (173, ev_13), (174, ev_307)]
noncomputable def zi_313_6 : ZIs := [(177, ev_13), (178, ev_1302), (181, ev_12), (183, ev_18), (184, ev_150), (186, ev_13), (187, ev_307), (190, ev_13), (191, ev_1302), (194, ev_12), (196, ev_18), (197, ev_18), (198, ev_860), (201, ev_150), (203, ev_439), (206, ev_13)]
noncomputable def zi_313_7 : ZIs := [(207, ev_307), (210, ev_13), (211, ev_1302), (214, ev_12), (216, ev_18), (217, ev_18), (218, ev_299), (219, ev_348), (222, ev_1431), (225, ev_300), (228, ev_1432), (231, ev_260)]
set_option maxRecDepth 100000 in
theorem xi_w313 : zall cX12_fewest [zi_313_0, zi_313_1, zi_313_2, zi_313_3, zi_313_4, zi_313_5, zi_313_6, zi_313_7] := zall_w _ _ (by decide +kernel)
noncomputable def xi_313 (pc : Nat) : XIs := cond (Nat.blt pc 124) (cond (Nat.blt pc 60) (cond (Nat.blt pc 28) (zx zi_313_0) (zx zi_313_1)) (cond (Nat.blt pc 92) (zx zi_313_2) (zx zi_313_3))) (cond (Nat.blt pc 177) (cond (Nat.blt pc 151) (zx zi_313_4) (zx zi_313_5)) (cond (Nat.blt pc 207) (zx zi_313_6) (zx zi_313_7)))
theorem xi_ok313 (pc : Nat) : xi_ok cX12_fewest (xi_313 pc) = true := xi_c (xi_c (xi_c (zq1 xi_w313) (zq1 (zq2 xi_w313))) (xi_c (zq1 (zq2 (zq2 xi_w313))) (zq1 (zq2 (zq2 (zq2 xi_w313)))))) (xi_c (xi_c (zq1 (zq2 (zq2 (zq2 (zq2 xi_w313))))) (zq1 (zq2 (zq2 (zq2 (zq2 (zq2 xi_w313))))))) (xi_c (zq1 (zq2 (zq2 (zq2 (zq2 (zq2 (zq2 xi_w313))))))) (zq1 (zq2 (zq2 (zq2 (zq2 (zq2 (zq2 (zq2 xi_w313))))))))))
noncomputable def zi_314_0 : ZIs := [(0, ev_13), (1, ev_10), (2, ev_252), (3, ev_252), (4, ev_1433), (7, ev_10), (8, ev_295), (9, ev_10), (10, ev_11), (12, ev_12), (14, ev_13), (15, ev_1288), (18, ev_1403), (21, ev_198), (22, ev_13), (23, ev_958)]
noncomputable def zi_314_1 : ZIs := [(26, ev_192), (27, ev_18), (28, ev_12), (30, ev_1418), (33, ev_1434), (36, ev_13), (37, ev_958), (40, ev_12), (42, ev_18), (43, ev_197), (44, ev_1418), (47, ev_385), (50, ev_7), (51, ev_12), (53, ev_277), (54, ev_229)]
noncomputable def zi_314_2 : ZIs := [(57, ev_10), (58, ev_278), (59, ev_295), (60, ev_348), (63, ev_908), (66, ev_198), (67, ev_152)]
set_option maxRecDepth 100000 in
theorem xi_w314 : zall cX12_between [zi_314_0, zi_314_1, zi_314_2] := zall_w _ _ (by decide +kernel)
noncomputable def xi_314 (pc : Nat) : XIs := cond (Nat.blt pc 26) (zx zi_314_0) (cond (Nat.blt pc 57) (zx zi_314_1) (zx zi_314_2))
theorem xi_ok314 (pc : Nat) : xi_ok cX12_between (xi_314 pc) = true := xi_c (zq1 xi_w314) (xi_c (zq1 (zq2 xi_w314)) (zq1 (zq2 (zq2 xi_w314))))
noncomputable def zi_315_0 : ZIs := [(0, ev_13), (1, ev_13), (2, ev_192), (3, ev_1335), (6, ev_771), (9, ev_13), (10, ev_197), (11, ev_1335), (14, ev_227), (17, ev_7), (18, ev_229), (21, ev_10), (22, ev_1176), (25, ev_158), (28, ev_230), (29, ev_481)]
noncomputable def zi_315_1 : ZIs := [(30, ev_13), (31, ev_192), (32, ev_197), (33, ev_1435), (36, ev_295), (37, ev_198), (38, ev_992), (41, ev_1333), (44, ev_1436), (47, ev_13), (48, ev_197), (49, ev_198), (50, ev_1437), (53, ev_649), (56, ev_13), (57, ev_716)]
noncomputable def zi_315_2 : ZIs := [(60, ev_192), (61, ev_154), (62, ev_209), (65, ev_1438), (68, ev_481)]
set_option maxRecDepth 100000 in
theorem xi_w315 : zall cX12_distance [zi_315_0, zi_315_1, zi_315_2] := zall_w _ _ (by decide +kernel)
noncomputable def xi_315 (pc : Nat) : XIs := cond (Nat.blt pc 30) (zx zi_315_0) (cond (Nat.blt pc 60) (zx zi_315_1) (zx zi_315_2))
theorem xi_ok315 (pc : Nat) : xi_ok cX12_distance (xi_315 pc) = true := xi_c (zq1 xi_w315) (xi_c (zq1 (zq2 xi_w315)) (zq1 (zq2 (zq2 xi_w315))))
noncomputable def zi_316_0 : ZIs := [(0, ev_13), (1, ev_13), (2, ev_192), (3, ev_1335), (6, ev_488), (9, ev_13), (10, ev_197), (11, ev_1335), (14, ev_931), (17, ev_198), (18, ev_831), (21, ev_7), (22, ev_229), (25, ev_10), (26, ev_1176), (29, ev_158)]
noncomputable def zi_316_1 : ZIs := [(32, ev_10), (33, ev_152), (34, ev_13), (35, ev_192), (36, ev_197), (37, ev_1435), (40, ev_11), (42, ev_12), (44, ev_769), (47, ev_13), (48, ev_197), (49, ev_12), (51, ev_1437), (54, ev_634), (57, ev_198), (58, ev_13)]
noncomputable def zi_316_2 : ZIs := [(59, ev_307), (62, ev_192), (63, ev_18), (64, ev_993), (67, ev_252), (68, ev_152), (69, ev_192), (70, ev_25), (72, ev_252), (73, ev_28), (75, ev_10), (76, ev_275), (78, ev_276), (80, ev_198), (81, ev_1414), (84, ev_252)]
noncomputable def zi_316_3 : ZIs := [(85, ev_28), (87, ev_1439), (90, ev_313), (92, ev_314), (94, ev_1440), (97, ev_13), (98, ev_1291), (101, ev_314), (103, ev_22), (104, ev_327), (106, ev_13), (107, ev_1290), (110, ev_329), (112, ev_1292), (113, ev_1353), (116, ev_13)]
noncomputable def zi_316_4 : ZIs := [(117, ev_1302), (120, ev_329), (122, ev_18), (123, ev_150), (125, ev_1441), (128, ev_12), (130, ev_13), (131, ev_1038), (134, ev_329), (136, ev_18), (137, ev_1418), (140, ev_1170), (143, ev_13), (144, ev_716), (147, ev_13), (148, ev_1038)]
noncomputable def zi_316_5 : ZIs := [(151, ev_329), (153, ev_18), (154, ev_154), (155, ev_1333), (158, ev_157), (159, ev_486), (162, ev_7), (163, ev_229), (166, ev_10), (167, ev_447), (169, ev_448), (171, ev_552), (174, ev_13), (175, ev_716), (178, ev_150), (180, ev_154)]
noncomputable def zi_316_6 : ZIs := [(181, ev_13), (182, ev_716), (185, ev_13), (186, ev_1038), (189, ev_329), (191, ev_18), (192, ev_154), (193, ev_13), (194, ev_1039), (197, ev_329), (199, ev_18), (200, ev_156), (201, ev_457), (202, ev_157), (203, ev_1442), (206, ev_13)]
noncomputable def zi_316_7 : ZIs := [(207, ev_307), (210, ev_150), (212, ev_18), (213, ev_13), (214, ev_307), (217, ev_13), (218, ev_1038), (221, ev_329), (223, ev_18), (224, ev_18), (225, ev_7), (226, ev_22), (227, ev_540), (230, ev_314), (232, ev_638), (235, ev_155)]
noncomputable def zi_316_8 : ZIs := [(237, ev_28), (239, ev_1443), (242, ev_1043), (245, ev_13), (246, ev_1038), (249, ev_13), (250, ev_1291), (253, ev_155), (255, ev_22), (256, ev_18), (257, ev_25), (259, ev_955), (262, ev_1444), (265, ev_155), (267, ev_152)]
set_option maxRecDepth 100000 in
theorem xi_w316 : zall cX12_way [zi_316_0, zi_316_1, zi_316_2, zi_316_3, zi_316_4, zi_316_5, zi_316_6, zi_316_7, zi_316_8] := zall_w _ _ (by decide +kernel)
noncomputable def xi_316 (pc : Nat) : XIs := cond (Nat.blt pc 117) (cond (Nat.blt pc 59) (cond (Nat.blt pc 32) (zx zi_316_0) (zx zi_316_1)) (cond (Nat.blt pc 85) (zx zi_316_2) (zx zi_316_3))) (cond (Nat.blt pc 181) (cond (Nat.blt pc 151) (zx zi_316_4) (zx zi_316_5)) (cond (Nat.blt pc 207) (zx zi_316_6) (cond (Nat.blt pc 237) (zx zi_316_7) (zx zi_316_8))))
theorem xi_ok316 (pc : Nat) : xi_ok cX12_way (xi_316 pc) = true := xi_c (xi_c (xi_c (zq1 xi_w316) (zq1 (zq2 xi_w316))) (xi_c (zq1 (zq2 (zq2 xi_w316))) (zq1 (zq2 (zq2 (zq2 xi_w316)))))) (xi_c (xi_c (zq1 (zq2 (zq2 (zq2 (zq2 xi_w316))))) (zq1 (zq2 (zq2 (zq2 (zq2 (zq2 xi_w316))))))) (xi_c (zq1 (zq2 (zq2 (zq2 (zq2 (zq2 (zq2 xi_w316))))))) (xi_c (zq1 (zq2 (zq2 (zq2 (zq2 (zq2 (zq2 (zq2 xi_w316)))))))) (zq1 (zq2 (zq2 (zq2 (zq2 (zq2 (zq2 (zq2 (zq2 xi_w316))))))))))))
noncomputable def zi_317_0 : ZIs := [(0, ev_13), (1, ev_13), (2, ev_192), (3, ev_1335), (6, ev_771), (9, ev_13), (10, ev_197), (11, ev_1335), (14, ev_227), (17, ev_7), (18, ev_229), (21, ev_10), (22, ev_1176), (25, ev_158), (28, ev_10), (29, ev_152)]
noncomputable def zi_317_1 : ZIs := [(30, ev_10), (31, ev_295), (32, ev_198), (33, ev_13), (34, ev_1288), (37, ev_990), (40, ev_13), (41, ev_962), (44, ev_198), (45, ev_198), (46, ev_192), (47, ev_410), (50, ev_1445), (53, ev_229), (56, ev_252), (57, ev_299)]
noncomputable def zi_317_2 : ZIs := [(58, ev_300), (61, ev_853), (64, ev_10), (65, ev_295), (66, ev_198), (67, ev_13), (68, ev_1288), (71, ev_1446), (74, ev_13), (75, ev_1291), (78, ev_11), (80, ev_12), (82, ev_13), (83, ev_1291), (86, ev_529), (89, ev_22)]
noncomputable def zi_317_3 : ZIs := [(90, ev_1447), (93, ev_13), (94, ev_1290), (97, ev_12), (99, ev_1292), (100, ev_557), (103, ev_13), (104, ev_962), (107, ev_13), (108, ev_1302), (111, ev_12), (113, ev_18), (114, ev_18), (115, ev_1448), (118, ev_13), (119, ev_465)]
noncomputable def zi_317_4 : ZIs := [(122, ev_12), (124, ev_18), (125, ev_13), (126, ev_962), (129, ev_13), (130, ev_1302), (133, ev_12), (135, ev_18), (136, ev_18), (137, ev_1449), (140, ev_13), (141, ev_465), (144, ev_12), (146, ev_18), (147, ev_439), (150, ev_13)]
noncomputable def zi_317_5 : ZIs := [(151, ev_962), (154, ev_13), (155, ev_1302), (158, ev_12), (160, ev_18), (161, ev_18), (162, ev_25), (164, ev_13), (165, ev_962), (168, ev_13), (169, ev_1038), (172, ev_12), (174, ev_18), (175, ev_150), (177, ev_13), (178, ev_962)]
noncomputable def zi_317_6 : ZIs := [(181, ev_13), (182, ev_1038), (185, ev_12), (187, ev_18), (188, ev_18), (189, ev_270), (192, ev_150), (194, ev_439), (197, ev_13), (198, ev_962), (201, ev_13), (202, ev_1038), (205, ev_12), (207, ev_18), (208, ev_18), (209, ev_299)]
noncomputable def zi_317_7 : ZIs := [(210, ev_348), (213, ev_1450), (216, ev_300), (219, ev_1451), (222, ev_13), (223, ev_962), (226, ev_197), (227, ev_18), (228, ev_152)]
set_option maxRecDepth 100000 in
theorem xi_w317 : zall cX12_width [zi_317_0, zi_317_1, zi_317_2, zi_317_3, zi_317_4, zi_317_5, zi_317_6, zi_317_7] := zall_w _ _ (by decide +kernel)
noncomputable def xi_317 (pc : Nat) : XIs := cond (Nat.blt pc 122) (cond (Nat.blt pc 58) (cond (Nat.blt pc 30) (zx zi_317_0) (zx zi_317_1)) (cond (Nat.blt pc 90) (zx zi_317_2) (zx zi_317_3))) (cond (Nat.blt pc 181) (cond (Nat.blt pc 151) (zx zi_317_4) (zx zi_317_5)) (cond (Nat.blt pc 210) (zx zi_317_6) (zx zi_317_7)))
theorem xi_ok317 (pc : Nat) : xi_ok cX12_width (xi_317 pc) = true := xi_c (xi_c (xi_c (zq1 xi_w317) (zq1 (zq2 xi_w317))) (xi_c (zq1 (zq2 (zq2 xi_w317))) (zq1 (zq2 (zq2 (zq2 xi_w317)))))) (xi_c (xi_c (zq1 (zq2 (zq2 (zq2 (zq2 xi_w317))))) (zq1 (zq2 (zq2 (zq2 (zq2 (zq2 xi_w317))))))) (xi_c (zq1 (zq2 (zq2 (zq2 (zq2 (zq2 (zq2 xi_w317))))))) (zq1 (zq2 (zq2 (zq2 (zq2 (zq2 (zq2 (zq2 xi_w317))))))))))
noncomputable def zi_318_0 : ZIs := [(0, ev_13), (1, ev_1452), (4, ev_1045), (7, ev_1453), (10, ev_33), (11, ev_13), (12, ev_1452), (15, ev_355), (16, ev_28), (18, ev_13), (19, ev_1454), (22, ev_155), (24, ev_192), (25, ev_299), (26, ev_13), (27, ev_1454)]
noncomputable def zi_318_1 : ZIs := [(30, ev_155), (32, ev_7), (33, ev_22), (34, ev_197), (35, ev_299), (36, ev_13), (37, ev_1454), (40, ev_155), (42, ev_30), (43, ev_22), (44, ev_198), (45, ev_299), (46, ev_13), (47, ev_1454), (50, ev_155), (52, ev_31)]
noncomputable def zi_318_2 : ZIs := [(53, ev_22), (54, ev_12), (56, ev_299), (57, ev_13), (58, ev_1454), (61, ev_155), (63, ev_32), (64, ev_22), (65, ev_150), (67, ev_299), (68, ev_230), (69, ev_921), (71, ev_7), (72, ev_327), (74, ev_329), (76, ev_192)]
noncomputable def zi_318_3 : ZIs := [(77, ev_433), (80, ev_922), (82, ev_13), (83, ev_1039), (86, ev_13), (87, ev_1291), (90, ev_13), (91, ev_1454), (94, ev_155), (96, ev_329), (98, ev_22), (99, ev_18), (100, ev_22), (101, ev_18), (102, ev_156), (103, ev_457)]
noncomputable def zi_318_4 : ZIs := [(104, ev_921), (106, ev_1455), (109, ev_293), (112, ev_13), (113, ev_296), (116, ev_13), (117, ev_1452), (120, ev_922), (122, ev_194), (123, ev_13), (124, ev_1), (125, ev_1452), (128, ev_7), (129, ev_22), (130, ev_1456), (133, ev_260)]
set_option maxRecDepth 100000 in
theorem xi_w318 : zall cX12_addShort [zi_318_0, zi_318_1, zi_318_2, zi_318_3, zi_318_4] := zall_w _ _ (by decide +kernel)
noncomputable def xi_318 (pc : Nat) : XIs := cond (Nat.blt pc 53) (cond (Nat.blt pc 30) (zx zi_318_0) (zx zi_318_1)) (cond (Nat.blt pc 77) (zx zi_318_2) (cond (Nat.blt pc 104) (zx zi_318_3) (zx zi_318_4)))
theorem xi_ok318 (pc : Nat) : xi_ok cX12_addShort (xi_318 pc) = true := xi_c (xi_c (zq1 xi_w318) (zq1 (zq2 xi_w318))) (xi_c (zq1 (zq2 (zq2 xi_w318))) (xi_c (zq1 (zq2 (zq2 (zq2 xi_w318)))) (zq1 (zq2 (zq2 (zq2 (zq2 xi_w318)))))))
noncomputable def zi_319_0 : ZIs := [(0, ev_13), (1, ev_1290), (4, ev_13), (5, ev_1291), (8, ev_192), (9, ev_22), (10, ev_1292), (11, ev_867), (14, ev_13), (15, ev_1302), (18, ev_13), (19, ev_1291), (22, ev_192), (23, ev_22), (24, ev_18), (25, ev_197)]
noncomputable def zi_319_1 : ZIs := [(26, ev_1457), (29, ev_198), (30, ev_13), (31, ev_1038), (34, ev_13), (35, ev_1291), (38, ev_192), (39, ev_22), (40, ev_18), (41, ev_1418), (44, ev_326), (47, ev_7), (48, ev_229), (51, ev_10), (52, ev_152)]
set_option maxRecDepth 100000 in
theorem xi_w319 : zall cX12_goesOn [zi_319_0, zi_319_1] := zall_w _ _ (by decide +kernel)
noncomputable def xi_319 (pc : Nat) : XIs := cond (Nat.blt pc 26) (zx zi_319_0) (zx zi_319_1)
theorem xi_ok319 (pc : Nat) : xi_ok cX12_goesOn (xi_319 pc) = true := xi_c (zq1 xi_w319) (zq1 (zq2 xi_w319))
noncomputable def zi_320_0 : ZIs := [(0, ev_13), (1, ev_10), (2, ev_1456), (5, ev_10), (6, ev_295), (7, ev_198), (8, ev_529), (11, ev_436), (14, ev_13), (15, ev_1452), (18, ev_1045), (21, ev_1458), (24, ev_13), (25, ev_198), (26, ev_192), (27, ev_7)]
noncomputable def zi_320_1 : ZIs := [(28, ev_192), (29, ev_277), (30, ev_1459), (33, ev_1337), (36, ev_13), (37, ev_1038), (40, ev_13), (41, ev_1291), (44, ev_198), (45, ev_22), (46, ev_18), (47, ev_11), (49, ev_12), (51, ev_197), (52, ev_727), (55, ev_13)]
noncomputable def zi_320_2 : ZIs := [(56, ev_7), (57, ev_198), (58, ev_10), (59, ev_10), (60, ev_10), (61, ev_1460), (64, ev_902), (67, ev_13), (68, ev_198), (69, ev_12), (71, ev_7), (72, ev_192), (73, ev_277), (74, ev_7), (75, ev_12), (77, ev_277)]
noncomputable def zi_320_3 : ZIs := [(78, ev_278), (79, ev_197), (80, ev_1461), (83, ev_300), (86, ev_563), (89, ev_260)]
set_option maxRecDepth 100000 in
theorem xi_w320 : zall cX12_findShorts [zi_320_0, zi_320_1, zi_320_2, zi_320_3] := zall_w _ _ (by decide +kernel)
noncomputable def xi_320 (pc : Nat) : XIs := cond (Nat.blt pc 56) (cond (Nat.blt pc 28) (zx zi_320_0) (zx zi_320_1)) (cond (Nat.blt pc 78) (zx zi_320_2) (zx zi_320_3))
theorem xi_ok320 (pc : Nat) : xi_ok cX12_findShorts (xi_320 pc) = true := xi_c (xi_c (zq1 xi_w320) (zq1 (zq2 xi_w320))) (xi_c (zq1 (zq2 (zq2 xi_w320))) (zq1 (zq2 (zq2 (zq2 xi_w320)))))
noncomputable def zi_321_0 : ZIs := [(0, ev_10), (1, ev_25), (3, ev_150), (5, ev_529), (8, ev_879), (11, ev_13), (12, ev_1452), (15, ev_1045), (18, ev_1462), (21, ev_13), (22, ev_150), (24, ev_197), (25, ev_198), (26, ev_1459), (29, ev_1463), (32, ev_13)]
noncomputable def zi_321_1 : ZIs := [(33, ev_1038), (36, ev_13), (37, ev_1291), (40, ev_150), (42, ev_22), (43, ev_18), (44, ev_28), (46, ev_155), (48, ev_12), (50, ev_538), (53, ev_13), (54, ev_30), (55, ev_192), (56, ev_150), (58, ev_10), (59, ev_10)]
noncomputable def zi_321_2 : ZIs := [(60, ev_1460), (63, ev_1464), (66, ev_13), (67, ev_192), (68, ev_150), (70, ev_155), (72, ev_198), (73, ev_7), (74, ev_155), (76, ev_277), (77, ev_278), (78, ev_12), (80, ev_1465), (83, ev_343), (86, ev_883), (89, ev_260)]
set_option maxRecDepth 100000 in
theorem xi_w321 : zall cX12_second [zi_321_0, zi_321_1, zi_321_2] := zall_w _ _ (by decide +kernel)
noncomputable def xi_321 (pc : Nat) : XIs := cond (Nat.blt pc 33) (zx zi_321_0) (cond (Nat.blt pc 60) (zx zi_321_1) (zx zi_321_2))
theorem xi_ok321 (pc : Nat) : xi_ok cX12_second (xi_321 pc) = true := xi_c (zq1 xi_w321) (xi_c (zq1 (zq2 xi_w321)) (zq1 (zq2 (zq2 xi_w321))))
noncomputable def zi_322_0 : ZIs := [(0, ev_10), (1, ev_28), (3, ev_155), (5, ev_529), (8, ev_1466), (11, ev_13), (12, ev_1452), (15, ev_1045), (18, ev_1467), (21, ev_13), (22, ev_155), (24, ev_198), (25, ev_12), (27, ev_1459), (30, ev_1468), (33, ev_13)]
noncomputable def zi_322_1 : ZIs := [(34, ev_1038), (37, ev_13), (38, ev_1291), (41, ev_155), (43, ev_22), (44, ev_18), (45, ev_275), (47, ev_276), (49, ev_150), (51, ev_538), (54, ev_13), (55, ev_31), (56, ev_192), (57, ev_197), (58, ev_155), (60, ev_10)]
noncomputable def zi_322_2 : ZIs := [(61, ev_1460), (64, ev_1469), (67, ev_10), (68, ev_313), (70, ev_314), (72, ev_529), (75, ev_1470), (78, ev_13), (79, ev_1290), (82, ev_13), (83, ev_1291), (86, ev_314), (88, ev_22), (89, ev_1292), (90, ev_1319), (93, ev_13)]
noncomputable def zi_322_3 : ZIs := [(94, ev_1302), (97, ev_13), (98, ev_1291), (101, ev_314), (103, ev_22), (104, ev_18), (105, ev_276), (107, ev_891), (110, ev_13), (111, ev_1038), (114, ev_13), (115, ev_1291), (118, ev_314), (120, ev_22), (121, ev_18), (122, ev_150)]
noncomputable def zi_322_4 : ZIs := [(124, ev_798), (127, ev_13), (128, ev_32), (129, ev_192), (130, ev_197), (131, ev_155), (133, ev_314), (135, ev_1460), (138, ev_318), (141, ev_1471), (144, ev_320), (147, ev_1472), (150, ev_260)]
set_option maxRecDepth 100000 in
theorem xi_w322 : zall cX12_third [zi_322_0, zi_322_1, zi_322_2, zi_322_3, zi_322_4] := zall_w _ _ (by decide +kernel)
noncomputable def xi_322 (pc : Nat) : XIs := cond (Nat.blt pc 61) (cond (Nat.blt pc 34) (zx zi_322_0) (zx zi_322_1)) (cond (Nat.blt pc 94) (zx zi_322_2) (cond (Nat.blt pc 124) (zx zi_322_3) (zx zi_322_4)))
theorem xi_ok322 (pc : Nat) : xi_ok cX12_third (xi_322 pc) = true := xi_c (xi_c (zq1 xi_w322) (zq1 (zq2 xi_w322))) (xi_c (zq1 (zq2 (zq2 xi_w322))) (xi_c (zq1 (zq2 (zq2 (zq2 xi_w322)))) (zq1 (zq2 (zq2 (zq2 (zq2 xi_w322)))))))
noncomputable def zi_323_0 : ZIs := [(0, ev_13), (1, ev_296), (4, ev_192), (5, ev_154), (6, ev_13), (7, ev_296), (10, ev_197), (11, ev_154), (12, ev_157), (13, ev_548), (16, ev_13), (17, ev_296), (20, ev_192), (21, ev_154), (22, ev_13), (23, ev_296)]
noncomputable def zi_323_1 : ZIs := [(26, ev_197), (27, ev_154), (28, ev_157), (29, ev_486), (32, ev_7), (33, ev_229), (36, ev_10), (37, ev_152), (38, ev_13), (39, ev_1454), (42, ev_33), (43, ev_192), (44, ev_355), (45, ev_18), (46, ev_13), (47, ev_1454)]
noncomputable def zi_323_2 : ZIs := [(50, ev_33), (51, ev_197), (52, ev_355), (53, ev_18), (54, ev_1473), (57, ev_13), (58, ev_1454), (61, ev_33), (62, ev_192), (63, ev_355), (64, ev_18), (65, ev_13), (66, ev_1454), (69, ev_33), (70, ev_197), (71, ev_355)]
noncomputable def zi_323_3 : ZIs := [(72, ev_18), (73, ev_656), (76, ev_7), (77, ev_229), (80, ev_10), (81, ev_152), (82, ev_7), (83, ev_295), (84, ev_198), (85, ev_13), (86, ev_1454), (89, ev_33), (90, ev_192), (91, ev_355), (92, ev_18), (93, ev_1474)]
noncomputable def zi_323_4 : ZIs := [(96, ev_13), (97, ev_1454), (100, ev_33), (101, ev_192), (102, ev_355), (103, ev_198), (104, ev_22), (105, ev_18), (106, ev_13), (107, ev_1454), (110, ev_33), (111, ev_197), (112, ev_355), (113, ev_198), (114, ev_22), (115, ev_18)]
noncomputable def zi_323_5 : ZIs := [(116, ev_1475), (119, ev_13), (120, ev_1454), (123, ev_33), (124, ev_192), (125, ev_355), (126, ev_198), (127, ev_22), (128, ev_18), (129, ev_13), (130, ev_1454), (133, ev_33), (134, ev_197), (135, ev_355), (136, ev_198), (137, ev_22)]
noncomputable def zi_323_6 : ZIs := [(138, ev_18), (139, ev_656), (142, ev_7), (143, ev_229), (146, ev_10), (147, ev_152), (148, ev_300), (151, ev_1413), (154, ev_10), (155, ev_152)]
set_option maxRecDepth 100000 in
theorem xi_w323 : zall cX12_isBefore [zi_323_0, zi_323_1, zi_323_2, zi_323_3, zi_323_4, zi_323_5, zi_323_6] := zall_w _ _ (by decide +kernel)
noncomputable def xi_323 (pc : Nat) : XIs := cond (Nat.blt pc 72) (cond (Nat.blt pc 26) (zx zi_323_0) (cond (Nat.blt pc 50) (zx zi_323_1) (zx zi_323_2))) (cond (Nat.blt pc 116) (cond (Nat.blt pc 96) (zx zi_323_3) (zx zi_323_4)) (cond (Nat.blt pc 138) (zx zi_323_5) (zx zi_323_6)))
theorem xi_ok323 (pc : Nat) : xi_ok cX12_isBefore (xi_323 pc) = true := xi_c (xi_c (zq1 xi_w323) (xi_c (zq1 (zq2 xi_w323)) (zq1 (zq2 (zq2 xi_w323))))) (xi_c (xi_c (zq1 (zq2 (zq2 (zq2 xi_w323)))) (zq1 (zq2 (zq2 (zq2 (zq2 xi_w323)))))) (xi_c (zq1 (zq2 (zq2 (zq2 (zq2 (zq2 xi_w323)))))) (zq1 (zq2 (zq2 (zq2 (zq2 (zq2 (zq2 xi_w323)))))))))
noncomputable def zi_324_0 : ZIs := [(0, ev_10), (1, ev_685), (2, ev_192), (3, ev_13), (4, ev_1452), (7, ev_1114), (10, ev_13), (11, ev_554), (14, ev_192), (15, ev_192), (16, ev_299), (17, ev_688), (20, ev_1476), (23, ev_7), (24, ev_685), (25, ev_192)]
noncomputable def zi_324_1 : ZIs := [(26, ev_13), (27, ev_1452), (30, ev_1477), (33, ev_10), (34, ev_294), (35, ev_197), (36, ev_13), (37, ev_1452), (40, ev_1478), (43, ev_197), (44, ev_192), (45, ev_22), (46, ev_13), (47, ev_1452), (50, ev_472), (53, ev_197)]
noncomputable def zi_324_2 : ZIs := [(54, ev_192), (55, ev_22), (56, ev_212), (59, ev_13), (60, ev_1452), (63, ev_295), (64, ev_197), (65, ev_30), (66, ev_192), (67, ev_355), (68, ev_22), (69, ev_13), (70, ev_1452), (73, ev_1479), (76, ev_197), (77, ev_30)]
noncomputable def zi_324_3 : ZIs := [(78, ev_192), (79, ev_355), (80, ev_22), (81, ev_212), (84, ev_13), (85, ev_1452), (88, ev_11), (90, ev_197), (91, ev_25), (93, ev_198), (94, ev_28), (96, ev_197), (97, ev_275), (99, ev_276), (101, ev_12), (103, ev_1480)]
noncomputable def zi_324_4 : ZIs := [(106, ev_150), (108, ev_198), (109, ev_297), (112, ev_155), (114, ev_12), (116, ev_1481), (119, ev_13), (120, ev_13), (121, ev_554), (124, ev_155), (126, ev_18), (127, ev_13), (128, ev_554), (131, ev_150), (133, ev_18), (134, ev_1482)]
noncomputable def zi_324_5 : ZIs := [(137, ev_326), (140, ev_7), (141, ev_229), (144, ev_10), (145, ev_313), (147, ev_13), (148, ev_555), (151, ev_276), (153, ev_314), (155, ev_634), (158, ev_13), (159, ev_554), (162, ev_150), (164, ev_18), (165, ev_633), (168, ev_13)]
noncomputable def zi_324_6 : ZIs := [(169, ev_554), (172, ev_155), (174, ev_18), (175, ev_299), (176, ev_150), (178, ev_314), (180, ev_227), (183, ev_7), (184, ev_229), (187, ev_10), (188, ev_22), (189, ev_25), (191, ev_155), (193, ev_314), (195, ev_227), (198, ev_10)]
noncomputable def zi_324_7 : ZIs := [(199, ev_229), (202, ev_7), (203, ev_22), (204, ev_28), (206, ev_955), (209, ev_1483), (212, ev_197), (213, ev_30), (214, ev_192), (215, ev_355), (216, ev_22), (217, ev_294), (218, ev_1484), (221, ev_10), (222, ev_294), (223, ev_197)]
noncomputable def zi_324_8 : ZIs := [(224, ev_13), (225, ev_1452), (228, ev_364), (231, ev_13), (232, ev_554), (235, ev_197), (236, ev_13), (237, ev_555), (240, ev_197), (241, ev_18), (242, ev_299), (243, ev_304), (246, ev_711), (249, ev_192), (250, ev_30), (251, ev_355)]
noncomputable def zi_324_9 : ZIs := [(252, ev_685), (253, ev_1485), (256, ev_260)]
set_option maxRecDepth 100000 in
theorem xi_w324 : zall cX12_sortShorts [zi_324_0, zi_324_1, zi_324_2, zi_324_3, zi_324_4, zi_324_5, zi_324_6, zi_324_7, zi_324_8, zi_324_9] := zall_w _ _ (by decide +kernel)
noncomputable def xi_324 (pc : Nat) : XIs := cond (Nat.blt pc 137) (cond (Nat.blt pc 54) (cond (Nat.blt pc 26) (zx zi_324_0) (zx zi_324_1)) (cond (Nat.blt pc 78) (zx zi_324_2) (cond (Nat.blt pc 106) (zx zi_324_3) (zx zi_324_4)))) (cond (Nat.blt pc 199) (cond (Nat.blt pc 169) (zx zi_324_5) (zx zi_324_6)) (cond (Nat.blt pc 224) (zx zi_324_7) (cond (Nat.blt pc 252) (zx zi_324_8) (zx zi_324_9))))
theorem xi_ok324 (pc : Nat) : xi_ok cX12_sortShorts (xi_324 pc) = true := xi_c (xi_c (xi_c (zq1 xi_w324) (zq1 (zq2 xi_w324))) (xi_c (zq1 (zq2 (zq2 xi_w324))) (xi_c (zq1 (zq2 (zq2 (zq2 xi_w324)))) (zq1 (zq2 (zq2 (zq2 (zq2 xi_w324)))))))) (xi_c (xi_c (zq1 (zq2 (zq2 (zq2 (zq2 (zq2 xi_w324)))))) (zq1 (zq2 (zq2 (zq2 (zq2 (zq2 (zq2 xi_w324)))))))) (xi_c (zq1 (zq2 (zq2 (zq2 (zq2 (zq2 (zq2 (zq2 xi_w324)))))))) (xi_c (zq1 (zq2 (zq2 (zq2 (zq2 (zq2 (zq2 (zq2 (zq2 xi_w324))))))))) (zq1 (zq2 (zq2 (zq2 (zq2 (zq2 (zq2 (zq2 (zq2 (zq2 xi_w324)))))))))))))
noncomputable def zi_325_0 : ZIs := [(0, ev_13), (1, ev_13), (2, ev_192), (3, ev_1335), (6, ev_680), (9, ev_13), (10, ev_197), (11, ev_1335), (14, ev_649), (17, ev_192), (18, ev_197), (19, ev_681), (22, ev_7), (23, ev_229), (26, ev_10), (27, ev_1176)]
noncomputable def zi_325_1 : ZIs := [(30, ev_158), (33, ev_10), (34, ev_152), (35, ev_13), (36, ev_192), (37, ev_197), (38, ev_1486), (41, ev_13), (42, ev_1452), (45, ev_1045), (48, ev_270), (51, ev_1046), (53, ev_212), (56, ev_13), (57, ev_1452), (60, ev_152)]
set_option maxRecDepth 100000 in
theorem xi_w325 : zall cX12_shorts [zi_325_0, zi_325_1] := zall_w _ _ (by decide +kernel)
noncomputable def xi_325 (pc : Nat) : XIs := cond (Nat.blt pc 30) (zx zi_325_0) (zx zi_325_1)
theorem xi_ok325 (pc : Nat) : xi_ok cX12_shorts (xi_325 pc) = true := xi_c (zq1 xi_w325) (zq1 (zq2 xi_w325))
noncomputable def zi_326_0 : ZIs := [(0, ev_13), (1, ev_13), (2, ev_192), (3, ev_1335), (6, ev_416), (9, ev_13), (10, ev_197), (11, ev_1335), (14, ev_333), (17, ev_192), (18, ev_197), (19, ev_281), (22, ev_198), (23, ev_1109), (26, ev_12), (28, ev_831)]
noncomputable def zi_326_1 : ZIs := [(31, ev_7), (32, ev_229), (35, ev_10), (36, ev_1176), (39, ev_158), (42, ev_10), (43, ev_152), (44, ev_13), (45, ev_192), (46, ev_197), (47, ev_1486), (50, ev_13), (51, ev_1452), (54, ev_1045), (57, ev_1121), (60, ev_198)]
noncomputable def zi_326_2 : ZIs := [(61, ev_13), (62, ev_1452), (65, ev_993), (68, ev_252), (69, ev_152), (70, ev_13), (71, ev_1487), (74, ev_33), (75, ev_13), (76, ev_554), (79, ev_198), (80, ev_18), (81, ev_355), (82, ev_25), (84, ev_12), (86, ev_13)]
noncomputable def zi_326_3 : ZIs := [(87, ev_1454), (90, ev_150), (92, ev_18), (93, ev_1488), (96, ev_13), (97, ev_1454), (100, ev_150), (102, ev_7), (103, ev_22), (104, ev_12), (106, ev_22), (107, ev_18), (108, ev_229), (111, ev_252), (112, ev_152)]
set_option maxRecDepth 100000 in
theorem xi_w326 : zall cX12_shortArc [zi_326_0, zi_326_1, zi_326_2, zi_326_3] := zall_w _ _ (by decide +kernel)
noncomputable def xi_326 (pc : Nat) : XIs := cond (Nat.blt pc 61) (cond (Nat.blt pc 31) (zx zi_326_0) (zx zi_326_1)) (cond (Nat.blt pc 87) (zx zi_326_2) (zx zi_326_3))
theorem xi_ok326 (pc : Nat) : xi_ok cX12_shortArc (xi_326 pc) = true := xi_c (xi_c (zq1 xi_w326) (zq1 (zq2 xi_w326))) (xi_c (zq1 (zq2 (zq2 xi_w326))) (zq1 (zq2 (zq2 (zq2 xi_w326)))))
noncomputable def zi_327_0 : ZIs := [(0, ev_10), (1, ev_685), (2, ev_482), (3, ev_192), (4, ev_1418), (7, ev_992), (10, ev_688), (13, ev_1489), (16, ev_192), (17, ev_152)]
set_option maxRecDepth 100000 in
theorem xi_w327 : zall cX12_least [zi_327_0] := zall_w _ _ (by decide +kernel)
noncomputable def xi_327 (pc : Nat) : XIs := zx zi_327_0
theorem xi_ok327 (pc : Nat) : xi_ok cX12_least (xi_327 pc) = true := zq1 xi_w327
noncomputable def zi_328_0 : ZIs := [(0, ev_13), (1, ev_192), (2, ev_156), (3, ev_230), (4, ev_228), (5, ev_1316), (8, ev_771), (11, ev_13), (12, ev_197), (13, ev_1335), (16, ev_227), (19, ev_7), (20, ev_229), (23, ev_10), (24, ev_1176), (27, ev_158)]
noncomputable def zi_328_1 : ZIs := [(30, ev_10), (31, ev_152), (32, ev_13), (33, ev_192), (34, ev_7), (35, ev_818), (38, ev_7), (39, ev_229), (42, ev_10), (43, ev_252), (44, ev_252), (45, ev_1433), (48, ev_10), (49, ev_295), (50, ev_13), (51, ev_958)]
noncomputable def zi_328_2 : ZIs := [(54, ev_197), (55, ev_18), (56, ev_198), (57, ev_1418), (60, ev_417), (63, ev_13), (64, ev_958), (67, ev_198), (68, ev_18), (69, ev_197), (70, ev_1418), (73, ev_992), (76, ev_300), (79, ev_853), (82, ev_198), (83, ev_152)]
set_option maxRecDepth 100000 in
theorem xi_w328 : zall cX12_part [zi_328_0, zi_328_1, zi_328_2] := zall_w _ _ (by decide +kernel)
noncomputable def xi_328 (pc : Nat) : XIs := cond (Nat.blt pc 30) (zx zi_328_0) (cond (Nat.blt pc 54) (zx zi_328_1) (zx zi_328_2))
theorem xi_ok328 (pc : Nat) : xi_ok cX12_part (xi_328 pc) = true := xi_c (zq1 xi_w328) (xi_c (zq1 (zq2 xi_w328)) (zq1 (zq2 (zq2 xi_w328))))
noncomputable def zi_329_0 : ZIs := [(0, ev_13), (1, ev_7), (2, ev_192), (3, ev_197), (4, ev_1433), (7, ev_10), (8, ev_295), (9, ev_10), (10, ev_11), (12, ev_12), (14, ev_13), (15, ev_1288), (18, ev_471), (21, ev_198), (22, ev_12), (24, ev_197)]
noncomputable def zi_329_1 : ZIs := [(25, ev_684), (28, ev_13), (29, ev_958), (32, ev_12), (34, ev_18), (35, ev_1490), (38, ev_12), (40, ev_818), (43, ev_7), (44, ev_229), (47, ev_10), (48, ev_22), (49, ev_295), (50, ev_348), (53, ev_1491), (56, ev_198)]
noncomputable def zi_329_2 : ZIs := [(57, ev_152)]
set_option maxRecDepth 100000 in
theorem xi_w329 : zall cX12_weakParts [zi_329_0, zi_329_1, zi_329_2] := zall_w _ _ (by decide +kernel)
noncomputable def xi_329 (pc : Nat) : XIs := cond (Nat.blt pc 25) (zx zi_329_0) (cond (Nat.blt pc 57) (zx zi_329_1) (zx zi_329_2))
theorem xi_ok329 (pc : Nat) : xi_ok cX12_weakParts (xi_329 pc) = true := xi_c (zq1 xi_w329) (xi_c (zq1 (zq2 xi_w329)) (zq1 (zq2 (zq2 xi_w329))))
noncomputable def zi_330_0 : ZIs := [(0, ev_13), (1, ev_13), (2, ev_192), (3, ev_1492), (6, ev_1176), (9, ev_158), (12, ev_10), (13, ev_152), (14, ev_13), (15, ev_192), (16, ev_252), (17, ev_1493), (20, ev_13), (21, ev_252), (22, ev_252), (23, ev_1493)]
noncomputable def zi_330_1 : ZIs := [(26, ev_941), (29, ev_7), (30, ev_229), (33, ev_10), (34, ev_152)]
set_option maxRecDepth 100000 in
theorem xi_w330 : zall cX12_bridge [zi_330_0, zi_330_1] := zall_w _ _ (by decide +kernel)
noncomputable def xi_330 (pc : Nat) : XIs := cond (Nat.blt pc 26) (zx zi_330_0) (zx zi_330_1)
theorem xi_ok330 (pc : Nat) : xi_ok cX12_bridge (xi_330 pc) = true := xi_c (zq1 xi_w330) (zq1 (zq2 xi_w330))
noncomputable def zi_331_0 : ZIs := [(0, ev_13), (1, ev_13), (2, ev_192), (3, ev_1335), (6, ev_1176), (9, ev_158), (12, ev_10), (13, ev_152), (14, ev_13), (15, ev_252), (16, ev_192), (17, ev_1493), (20, ev_13), (21, ev_252), (22, ev_252), (23, ev_1493)]
noncomputable def zi_331_1 : ZIs := [(26, ev_941), (29, ev_7), (30, ev_229), (33, ev_10), (34, ev_152)]
set_option maxRecDepth 100000 in
theorem xi_w331 : zall cX12_cut [zi_331_0, zi_331_1] := zall_w _ _ (by decide +kernel)
noncomputable def xi_331 (pc : Nat) : XIs := cond (Nat.blt pc 26) (zx zi_331_0) (zx zi_331_1)
theorem xi_ok331 (pc : Nat) : xi_ok cX12_cut (xi_331 pc) = true := xi_c (zq1 xi_w331) (zq1 (zq2 xi_w331))
noncomputable def zi_332_0 : ZIs := [(0, ev_13), (1, ev_192), (2, ev_831), (5, ev_7), (6, ev_229), (9, ev_10), (10, ev_1176), (13, ev_158), (16, ev_10), (17, ev_152), (18, ev_10), (19, ev_294), (20, ev_252), (21, ev_295), (22, ev_252), (23, ev_11)]
noncomputable def zi_332_1 : ZIs := [(25, ev_10), (26, ev_25), (28, ev_150), (30, ev_13), (31, ev_1288), (34, ev_1494), (37, ev_252), (38, ev_295), (39, ev_13), (40, ev_1288), (43, ev_7), (44, ev_16), (45, ev_28), (47, ev_155), (49, ev_1495), (52, ev_197)]
noncomputable def zi_332_2 : ZIs := [(53, ev_155), (55, ev_1418), (58, ev_326), (61, ev_7), (62, ev_229), (65, ev_10), (66, ev_275), (68, ev_13), (69, ev_1291), (72, ev_313), (74, ev_314), (76, ev_13), (77, ev_1291), (80, ev_529), (83, ev_22), (84, ev_724)]
noncomputable def zi_332_3 : ZIs := [(87, ev_276), (89, ev_1496), (92, ev_13), (93, ev_1290), (96, ev_314), (98, ev_1292), (99, ev_416), (102, ev_13), (103, ev_1038), (106, ev_314), (108, ev_18), (109, ev_155), (111, ev_1497), (114, ev_197), (115, ev_13), (116, ev_1302)]
noncomputable def zi_332_4 : ZIs := [(119, ev_314), (121, ev_18), (122, ev_1418), (125, ev_227), (128, ev_7), (129, ev_229), (132, ev_10), (133, ev_275), (135, ev_318), (138, ev_1498), (141, ev_276), (143, ev_330), (146, ev_155), (148, ev_229), (151, ev_198), (152, ev_295)]
noncomputable def zi_332_5 : ZIs := [(153, ev_1499), (156, ev_332), (159, ev_198), (160, ev_252), (161, ev_691), (164, ev_252), (165, ev_152), (166, ev_197), (167, ev_7), (168, ev_198), (169, ev_277), (170, ev_278), (171, ev_294), (172, ev_150), (174, ev_192), (175, ev_818)]
noncomputable def zi_332_6 : ZIs := [(178, ev_198), (179, ev_638), (182, ev_12), (184, ev_11), (186, ev_343), (189, ev_1500), (192, ev_12), (194, ev_152)]
set_option maxRecDepth 100000 in
theorem xi_w332 : zall cX12_order [zi_332_0, zi_332_1, zi_332_2, zi_332_3, zi_332_4, zi_332_5, zi_332_6] := zall_w _ _ (by decide +kernel)
noncomputable def xi_332 (pc : Nat) : XIs := cond (Nat.blt pc 87) (cond (Nat.blt pc 25) (zx zi_332_0) (cond (Nat.blt pc 53) (zx zi_332_1) (zx zi_332_2))) (cond (Nat.blt pc 153) (cond (Nat.blt pc 119) (zx zi_332_3) (zx zi_332_4)) (cond (Nat.blt pc 178) (zx zi_332_5) (zx zi_332_6)))
theorem xi_ok332 (pc : Nat) : xi_ok cX12_order (xi_332 pc) = true := xi_c (xi_c (zq1 xi_w332) (xi_c (zq1 (zq2 xi_w332)) (zq1 (zq2 (zq2 xi_w332))))) (xi_c (xi_c (zq1 (zq2 (zq2 (zq2 xi_w332)))) (zq1 (zq2 (zq2 (zq2 (zq2 xi_w332)))))) (xi_c (zq1 (zq2 (zq2 (zq2 (zq2 (zq2 xi_w332)))))) (zq1 (zq2 (zq2 (zq2 (zq2 (zq2 (zq2 xi_w332)))))))))
noncomputable def zi_333_0 : ZIs := [(0, ev_10), (1, ev_295), (2, ev_10), (3, ev_11), (5, ev_12), (7, ev_529), (10, ev_1501), (13, ev_13), (14, ev_12), (16, ev_1179), (19, ev_1502), (22, ev_13), (23, ev_1302), (26, ev_13), (27, ev_1291), (30, ev_12)]
noncomputable def zi_333_1 : ZIs := [(32, ev_22), (33, ev_18), (34, ev_25), (36, ev_13), (37, ev_1038), (40, ev_13), (41, ev_1291), (44, ev_12), (46, ev_22), (47, ev_18), (48, ev_28), (50, ev_198), (51, ev_150), (53, ev_192), (54, ev_690), (57, ev_197)]
noncomputable def zi_333_2 : ZIs := [(58, ev_155), (60, ev_1418), (63, ev_1305), (66, ev_155), (68, ev_192), (69, ev_538), (72, ev_197), (73, ev_150), (75, ev_1418), (78, ev_227), (81, ev_7), (82, ev_229), (85, ev_10), (86, ev_22), (87, ev_295), (88, ev_348)]
noncomputable def zi_333_3 : ZIs := [(91, ev_1503), (94, ev_198), (95, ev_152)]
set_option maxRecDepth 100000 in
theorem xi_w333 : zall cX12_jointsWith [zi_333_0, zi_333_1, zi_333_2, zi_333_3] := zall_w _ _ (by decide +kernel)
noncomputable def xi_333 (pc : Nat) : XIs := cond (Nat.blt pc 58) (cond (Nat.blt pc 32) (zx zi_333_0) (zx zi_333_1)) (cond (Nat.blt pc 91) (zx zi_333_2) (zx zi_333_3))
theorem xi_ok333 (pc : Nat) : xi_ok cX12_jointsWith (xi_333 pc) = true := xi_c (xi_c (zq1 xi_w333) (zq1 (zq2 xi_w333))) (xi_c (zq1 (zq2 (zq2 xi_w333))) (zq1 (zq2 (zq2 (zq2 xi_w333)))))
noncomputable def zi_334_0 : ZIs := [(0, ev_13), (1, ev_13), (2, ev_192), (3, ev_1335), (6, ev_1176), (9, ev_158), (12, ev_10), (13, ev_152), (14, ev_13), (15, ev_1288), (18, ev_176), (20, ev_818), (23, ev_252), (24, ev_200), (27, ev_7), (28, ev_13)]
noncomputable def zi_334_1 : ZIs := [(29, ev_1288), (32, ev_277), (33, ev_7), (34, ev_16), (35, ev_294), (36, ev_10), (37, ev_295), (38, ev_10), (39, ev_11), (41, ev_197), (42, ev_192), (43, ev_1418), (46, ev_1504), (49, ev_198), (50, ev_11), (52, ev_300)]
noncomputable def zi_334_2 : ZIs := [(55, ev_7), (56, ev_25), (58, ev_150), (60, ev_353), (63, ev_10), (64, ev_25), (66, ev_10), (67, ev_28), (69, ev_155), (71, ev_13), (72, ev_1288), (75, ev_689), (78, ev_197), (79, ev_155), (81, ev_1418), (84, ev_1170)]
noncomputable def zi_334_3 : ZIs := [(87, ev_13), (88, ev_155), (90, ev_197), (91, ev_1505), (94, ev_198), (95, ev_1154), (98, ev_197), (99, ev_7), (100, ev_155), (102, ev_277), (103, ev_252), (104, ev_317), (105, ev_20), (106, ev_294), (107, ev_7), (108, ev_25)]
noncomputable def zi_334_4 : ZIs := [(110, ev_320), (113, ev_972), (116, ev_357), (119, ev_744), (122, ev_12), (124, ev_152)]
set_option maxRecDepth 100000 in
theorem xi_w334 : zall cX12_core [zi_334_0, zi_334_1, zi_334_2, zi_334_3, zi_334_4] := zall_w _ _ (by decide +kernel)
noncomputable def xi_334 (pc : Nat) : XIs := cond (Nat.blt pc 55) (cond (Nat.blt pc 29) (zx zi_334_0) (zx zi_334_1)) (cond (Nat.blt pc 87) (zx zi_334_2) (cond (Nat.blt pc 110) (zx zi_334_3) (zx zi_334_4)))
theorem xi_ok334 (pc : Nat) : xi_ok cX12_core (xi_334 pc) = true := xi_c (xi_c (zq1 xi_w334) (zq1 (zq2 xi_w334))) (xi_c (zq1 (zq2 (zq2 xi_w334))) (xi_c (zq1 (zq2 (zq2 (zq2 xi_w334)))) (zq1 (zq2 (zq2 (zq2 (zq2 xi_w334)))))))
noncomputable def zi_335_0 : ZIs := [(0, ev_10), (1, ev_685), (2, ev_192), (3, ev_13), (4, ev_1288), (7, ev_1114), (10, ev_13), (11, ev_1506), (14, ev_192), (15, ev_10), (16, ev_299), (17, ev_688), (20, ev_1476), (23, ev_10), (24, ev_685), (25, ev_192)]
noncomputable def zi_335_1 : ZIs := [(26, ev_529), (29, ev_879), (32, ev_13), (33, ev_192), (34, ev_1179), (37, ev_1507), (40, ev_13), (41, ev_1506), (44, ev_13), (45, ev_1302), (48, ev_13), (49, ev_1291), (52, ev_192), (53, ev_22), (54, ev_18), (55, ev_316)]
noncomputable def zi_335_2 : ZIs := [(56, ev_18), (57, ev_7), (58, ev_13), (59, ev_1038), (62, ev_13), (63, ev_1291), (66, ev_192), (67, ev_22), (68, ev_18), (69, ev_277), (70, ev_278), (71, ev_299), (72, ev_13), (73, ev_1506), (76, ev_13), (77, ev_1038)]
noncomputable def zi_335_3 : ZIs := [(80, ev_13), (81, ev_1291), (84, ev_192), (85, ev_22), (86, ev_18), (87, ev_316), (88, ev_18), (89, ev_7), (90, ev_13), (91, ev_1302), (94, ev_13), (95, ev_1291), (98, ev_192), (99, ev_22), (100, ev_18), (101, ev_277)]
noncomputable def zi_335_4 : ZIs := [(102, ev_278), (103, ev_299), (104, ev_688), (107, ev_1508), (110, ev_260)]
set_option maxRecDepth 100000 in
theorem xi_w335 : zall cX12_findBeside [zi_335_0, zi_335_1, zi_335_2, zi_335_3, zi_335_4] := zall_w _ _ (by decide +kernel)
noncomputable def xi_335 (pc : Nat) : XIs := cond (Nat.blt pc 56) (cond (Nat.blt pc 26) (zx zi_335_0) (zx zi_335_1)) (cond (Nat.blt pc 80) (zx zi_335_2) (cond (Nat.blt pc 102) (zx zi_335_3) (zx zi_335_4)))
theorem xi_ok335 (pc : Nat) : xi_ok cX12_findBeside (xi_335 pc) = true := xi_c (xi_c (zq1 xi_w335) (zq1 (zq2 xi_w335))) (xi_c (zq1 (zq2 (zq2 xi_w335))) (xi_c (zq1 (zq2 (zq2 (zq2 xi_w335)))) (zq1 (zq2 (zq2 (zq2 (zq2 xi_w335)))))))
noncomputable def zi_336_0 : ZIs := [(0, ev_10), (1, ev_685), (2, ev_10), (3, ev_294), (4, ev_197), (5, ev_176), (7, ev_683), (10, ev_192), (11, ev_482), (12, ev_197), (13, ev_303), (14, ev_7), (15, ev_20), (16, ev_22), (17, ev_685), (18, ev_304)]
noncomputable def zi_336_1 : ZIs := [(21, ev_1509), (24, ev_192), (25, ev_152)]
set_option maxRecDepth 100000 in
theorem xi_w336 : zall cX12_count [zi_336_0, zi_336_1] := zall_w _ _ (by decide +kernel)
noncomputable def xi_336 (pc : Nat) : XIs := cond (Nat.blt pc 21) (zx zi_336_0) (zx zi_336_1)
theorem xi_ok336 (pc : Nat) : xi_ok cX12_count (xi_336 pc) = true := xi_c (zq1 xi_w336) (zq1 (zq2 xi_w336))
noncomputable def zi_337_0 : ZIs := [(0, ev_13), (1, ev_1510), (4, ev_10), (5, ev_685), (6, ev_10), (7, ev_294), (8, ev_10), (9, ev_295), (10, ev_13), (11, ev_1511), (14, ev_10), (15, ev_13), (16, ev_1288), (19, ev_176), (21, ev_818), (24, ev_252)]
noncomputable def zi_337_1 : ZIs := [(25, ev_200), (28, ev_7), (29, ev_13), (30, ev_1288), (33, ev_277), (34, ev_7), (35, ev_16), (36, ev_299), (37, ev_13), (38, ev_1512), (41, ev_10), (42, ev_10), (43, ev_299), (44, ev_198), (45, ev_1513), (48, ev_198)]
noncomputable def zi_337_2 : ZIs := [(49, ev_197), (50, ev_1514), (53, ev_198), (54, ev_294), (55, ev_13), (56, ev_1512), (59, ev_198), (60, ev_18), (61, ev_685), (62, ev_13), (63, ev_1511), (66, ev_198), (67, ev_18), (68, ev_393), (71, ev_198), (72, ev_13)]
noncomputable def zi_337_3 : ZIs := [(73, ev_1511), (76, ev_198), (77, ev_18), (78, ev_1515), (81, ev_22), (82, ev_197), (83, ev_1516), (86, ev_478), (89, ev_730), (92, ev_13), (93, ev_1511), (96, ev_198), (97, ev_18), (98, ev_1490), (101, ev_11), (103, ev_13)]
noncomputable def zi_337_4 : ZIs := [(104, ev_1511), (107, ev_198), (108, ev_316), (109, ev_18), (110, ev_7), (111, ev_12), (113, ev_277), (114, ev_252), (115, ev_317), (116, ev_20), (117, ev_299), (118, ev_13), (119, ev_1511), (122, ev_198), (123, ev_7), (124, ev_22)]
noncomputable def zi_337_5 : ZIs := [(125, ev_13), (126, ev_1511), (129, ev_198), (130, ev_18), (131, ev_13), (132, ev_1506), (135, ev_12), (137, ev_18), (138, ev_20), (139, ev_299), (140, ev_13), (141, ev_1512), (144, ev_198), (145, ev_7), (146, ev_22), (147, ev_13)]
noncomputable def zi_337_6 : ZIs := [(148, ev_1512), (151, ev_198), (152, ev_18), (153, ev_7), (154, ev_12), (156, ev_277), (157, ev_278), (158, ev_299), (159, ev_300), (162, ev_720), (165, ev_192), (166, ev_152)]
set_option maxRecDepth 100000 in
theorem xi_w337 : zall cX12_findClique [zi_337_0, zi_337_1, zi_337_2, zi_337_3, zi_337_4, zi_337_5, zi_337_6] := zall_w _ _ (by decide +kernel)
noncomputable def xi_337 (pc : Nat) : XIs := cond (Nat.blt pc 73) (cond (Nat.blt pc 25) (zx zi_337_0) (cond (Nat.blt pc 49) (zx zi_337_1) (zx zi_337_2))) (cond (Nat.blt pc 125) (cond (Nat.blt pc 104) (zx zi_337_3) (zx zi_337_4)) (cond (Nat.blt pc 148) (zx zi_337_5) (zx zi_337_6)))
theorem xi_ok337 (pc : Nat) : xi_ok cX12_findClique (xi_337 pc) = true := xi_c (xi_c (zq1 xi_w337) (xi_c (zq1 (zq2 xi_w337)) (zq1 (zq2 (zq2 xi_w337))))) (xi_c (xi_c (zq1 (zq2 (zq2 (zq2 xi_w337)))) (zq1 (zq2 (zq2 (zq2 (zq2 xi_w337)))))) (xi_c (zq1 (zq2 (zq2 (zq2 (zq2 (zq2 xi_w337)))))) (zq1 (zq2 (zq2 (zq2 (zq2 (zq2 (zq2 xi_w337)))))))))
noncomputable def zi_338_0 : ZIs := [(0, ev_13), (1, ev_192), (2, ev_831), (5, ev_7), (6, ev_229), (9, ev_10), (10, ev_1176), (13, ev_158), (16, ev_10), (17, ev_152), (18, ev_13), (19, ev_1517), (22, ev_294), (23, ev_10), (24, ev_295), (25, ev_10)]
noncomputable def zi_338_1 : ZIs := [(26, ev_11), (28, ev_12), (30, ev_13), (31, ev_1288), (34, ev_863), (37, ev_197), (38, ev_12), (40, ev_1418), (43, ev_1004), (46, ev_198), (47, ev_192), (48, ev_774), (51, ev_12), (53, ev_152), (54, ev_300), (57, ev_348)]
noncomputable def zi_338_2 : ZIs := [(60, ev_693), (63, ev_252), (64, ev_152)]
set_option maxRecDepth 100000 in
theorem xi_w338 : zall cX12_clique [zi_338_0, zi_338_1, zi_338_2] := zall_w _ _ (by decide +kernel)
noncomputable def xi_338 (pc : Nat) : XIs := cond (Nat.blt pc 26) (zx zi_338_0) (cond (Nat.blt pc 60) (zx zi_338_1) (zx zi_338_2))
theorem xi_ok338 (pc : Nat) : xi_ok cX12_clique (xi_338 pc) = true := xi_c (zq1 xi_w338) (xi_c (zq1 (zq2 xi_w338)) (zq1 (zq2 (zq2 xi_w338))))
noncomputable def zi_339_0 : ZIs := [(0, ev_10), (1, ev_294), (2, ev_10), (3, ev_295), (4, ev_198), (5, ev_13), (6, ev_1288), (9, ev_721), (12, ev_197), (13, ev_13), (14, ev_1506), (17, ev_192), (18, ev_18), (19, ev_198), (20, ev_1418), (23, ev_769)]
noncomputable def zi_339_1 : ZIs := [(26, ev_13), (27, ev_1518), (30, ev_198), (31, ev_18), (32, ev_1159), (35, ev_7), (36, ev_13), (37, ev_1518), (40, ev_198), (41, ev_18), (42, ev_277), (43, ev_229), (46, ev_10), (47, ev_278), (48, ev_294), (49, ev_300)]
noncomputable def zi_339_2 : ZIs := [(52, ev_570), (55, ev_197), (56, ev_152)]
set_option maxRecDepth 100000 in
theorem xi_w339 : zall cX12_barsOf [zi_339_0, zi_339_1, zi_339_2] := zall_w _ _ (by decide +kernel)
noncomputable def xi_339 (pc : Nat) : XIs := cond (Nat.blt pc 26) (zx zi_339_0) (cond (Nat.blt pc 52) (zx zi_339_1) (zx zi_339_2))
theorem xi_ok339 (pc : Nat) : xi_ok cX12_barsOf (xi_339 pc) = true := xi_c (zq1 xi_w339) (xi_c (zq1 (zq2 xi_w339)) (zq1 (zq2 (zq2 xi_w339))))
noncomputable def zi_340_0 : ZIs := [(0, ev_252), (1, ev_294), (2, ev_10), (3, ev_295), (4, ev_10), (5, ev_11), (7, ev_10), (8, ev_25), (10, ev_150), (12, ev_13), (13, ev_1288), (16, ev_1405), (19, ev_13), (20, ev_1519), (23, ev_150), (25, ev_1418)]
noncomputable def zi_340_1 : ZIs := [(28, ev_1520), (31, ev_13), (32, ev_1518), (35, ev_150), (37, ev_18), (38, ev_1521), (41, ev_192), (42, ev_13), (43, ev_150), (45, ev_1522), (48, ev_1515), (51, ev_16), (52, ev_28), (54, ev_13), (55, ev_1506), (58, ev_150)]
noncomputable def zi_340_2 : ZIs := [(60, ev_18), (61, ev_1515), (64, ev_275), (66, ev_197), (67, ev_1171), (70, ev_155), (72, ev_198), (73, ev_1523), (76, ev_155), (78, ev_198), (79, ev_1051), (82, ev_276), (84, ev_12), (86, ev_1524), (89, ev_150), (91, ev_294)]
noncomputable def zi_340_3 : ZIs := [(92, ev_155), (94, ev_295), (95, ev_276), (97, ev_11), (99, ev_343), (102, ev_639), (105, ev_197), (106, ev_152)]
set_option maxRecDepth 100000 in
theorem xi_w340 : zall cX12_tightest [zi_340_0, zi_340_1, zi_340_2, zi_340_3] := zall_w _ _ (by decide +kernel)
noncomputable def xi_340 (pc : Nat) : XIs := cond (Nat.blt pc 60) (cond (Nat.blt pc 28) (zx zi_340_0) (zx zi_340_1)) (cond (Nat.blt pc 92) (zx zi_340_2) (zx zi_340_3))
theorem xi_ok340 (pc : Nat) : xi_ok cX12_tightest (xi_340 pc) = true := xi_c (xi_c (zq1 xi_w340) (zq1 (zq2 xi_w340))) (xi_c (zq1 (zq2 (zq2 xi_w340))) (zq1 (zq2 (zq2 (zq2 xi_w340)))))
noncomputable def zi_341_0 : ZIs := [(0, ev_10), (1, ev_294), (2, ev_10), (3, ev_295), (4, ev_198), (5, ev_13), (6, ev_1288), (9, ev_643), (12, ev_197), (13, ev_13), (14, ev_1518), (17, ev_198), (18, ev_18), (19, ev_950), (22, ev_7), (23, ev_198)]
noncomputable def zi_341_1 : ZIs := [(24, ev_277), (25, ev_229), (28, ev_10), (29, ev_278), (30, ev_294), (31, ev_300), (34, ev_645), (37, ev_7), (38, ev_295), (39, ev_198), (40, ev_1525), (43, ev_10), (44, ev_295), (45, ev_10), (46, ev_11), (48, ev_12)]
noncomputable def zi_341_2 : ZIs := [(50, ev_13), (51, ev_1288), (54, ev_938), (57, ev_197), (58, ev_12), (60, ev_1418), (63, ev_867), (66, ev_192), (67, ev_13), (68, ev_12), (70, ev_1522), (73, ev_1515), (76, ev_16), (77, ev_13), (78, ev_1506), (81, ev_12)]
noncomputable def zi_341_3 : ZIs := [(83, ev_18), (84, ev_197), (85, ev_20), (86, ev_1515), (89, ev_1526), (92, ev_197), (93, ev_7), (94, ev_12), (96, ev_277), (97, ev_252), (98, ev_317), (99, ev_20), (100, ev_294), (101, ev_7), (102, ev_295), (103, ev_348)]
noncomputable def zi_341_4 : ZIs := [(106, ev_357), (109, ev_1035), (112, ev_197), (113, ev_152)]
set_option maxRecDepth 100000 in
theorem xi_w341 : zall cX12_tough [zi_341_0, zi_341_1, zi_341_2, zi_341_3, zi_341_4] := zall_w _ _ (by decide +kernel)
noncomputable def xi_341 (pc : Nat) : XIs := cond (Nat.blt pc 50) (cond (Nat.blt pc 24) (zx zi_341_0) (zx zi_341_1)) (cond (Nat.blt pc 83) (zx zi_341_2) (cond (Nat.blt pc 106) (zx zi_341_3) (zx zi_341_4)))
theorem xi_ok341 (pc : Nat) : xi_ok cX12_tough (xi_341 pc) = true := xi_c (xi_c (zq1 xi_w341) (zq1 (zq2 xi_w341))) (xi_c (zq1 (zq2 (zq2 xi_w341))) (xi_c (zq1 (zq2 (zq2 (zq2 xi_w341)))) (zq1 (zq2 (zq2 (zq2 (zq2 xi_w341)))))))
noncomputable def zi_342_0 : ZIs := [(0, ev_7), (1, ev_192), (2, ev_277), (3, ev_295), (4, ev_10), (5, ev_11), (7, ev_198), (8, ev_12), (10, ev_1527), (13, ev_198), (14, ev_11), (16, ev_10), (17, ev_25), (19, ev_150), (21, ev_13), (22, ev_1288)]
noncomputable def zi_342_1 : ZIs := [(25, ev_297), (28, ev_198), (29, ev_12), (31, ev_150), (33, ev_1418), (36, ev_771), (39, ev_13), (40, ev_1506), (43, ev_150), (45, ev_18), (46, ev_197), (47, ev_20), (48, ev_229), (51, ev_10), (52, ev_278), (53, ev_295)]
noncomputable def zi_342_2 : ZIs := [(54, ev_343), (57, ev_583), (60, ev_1528), (63, ev_198), (64, ev_152)]
set_option maxRecDepth 100000 in
theorem xi_w342 : zall cX12_hanging [zi_342_0, zi_342_1, zi_342_2] := zall_w _ _ (by decide +kernel)
noncomputable def xi_342 (pc : Nat) : XIs := cond (Nat.blt pc 25) (zx zi_342_0) (cond (Nat.blt pc 54) (zx zi_342_1) (zx zi_342_2))
theorem xi_ok342 (pc : Nat) : xi_ok cX12_hanging (xi_342 pc) = true := xi_c (zq1 xi_w342) (xi_c (zq1 (zq2 xi_w342)) (zq1 (zq2 (zq2 xi_w342))))
noncomputable def zi_343_0 : ZIs := [(0, ev_10), (1, ev_294), (2, ev_10), (3, ev_295), (4, ev_198), (5, ev_13), (6, ev_1288), (9, ev_1529), (12, ev_13), (13, ev_1518), (16, ev_198), (17, ev_13), (18, ev_1530), (21, ev_198), (22, ev_18), (23, ev_299)]
noncomputable def zi_343_1 : ZIs := [(24, ev_13), (25, ev_1530), (28, ev_198), (29, ev_18), (30, ev_197), (31, ev_601), (34, ev_13), (35, ev_1530), (38, ev_198), (39, ev_18), (40, ev_7), (41, ev_22), (42, ev_229), (45, ev_197), (46, ev_294), (47, ev_300)]
noncomputable def zi_343_2 : ZIs := [(50, ev_1531), (53, ev_13), (54, ev_192), (55, ev_1532), (58, ev_295), (59, ev_7), (60, ev_11), (62, ev_12), (64, ev_1525), (67, ev_198), (68, ev_1533), (71, ev_13), (72, ev_13), (73, ev_198), (74, ev_1490), (77, ev_198)]
noncomputable def zi_343_3 : ZIs := [(78, ev_1534), (81, ev_1535), (84, ev_198), (85, ev_13), (86, ev_1519), (89, ev_252), (90, ev_317), (91, ev_20), (92, ev_295), (93, ev_13), (94, ev_192), (95, ev_197), (96, ev_1536), (99, ev_11), (101, ev_10), (102, ev_25)]
noncomputable def zi_343_4 : ZIs := [(104, ev_150), (106, ev_13), (107, ev_1288), (110, ev_346), (113, ev_13), (114, ev_1518), (117, ev_150), (119, ev_13), (120, ev_1530), (123, ev_150), (125, ev_18), (126, ev_299), (127, ev_343), (130, ev_562), (133, ev_1471), (136, ev_12)]
noncomputable def zi_343_5 : ZIs := [(138, ev_152)]
set_option maxRecDepth 100000 in
theorem xi_w343 : zall cX12_isColourable [zi_343_0, zi_343_1, zi_343_2, zi_343_3, zi_343_4, zi_343_5] := zall_w _ _ (by decide +kernel)
noncomputable def xi_343 (pc : Nat) : XIs := cond (Nat.blt pc 78) (cond (Nat.blt pc 24) (zx zi_343_0) (cond (Nat.blt pc 50) (zx zi_343_1) (zx zi_343_2))) (cond (Nat.blt pc 104) (zx zi_343_3) (cond (Nat.blt pc 138) (zx zi_343_4) (zx zi_343_5)))
theorem xi_ok343 (pc : Nat) : xi_ok cX12_isColourable (xi_343 pc) = true := xi_c (xi_c (zq1 xi_w343) (xi_c (zq1 (zq2 xi_w343)) (zq1 (zq2 (zq2 xi_w343))))) (xi_c (zq1 (zq2 (zq2 (zq2 xi_w343)))) (xi_c (zq1 (zq2 (zq2 (zq2 (zq2 xi_w343))))) (zq1 (zq2 (zq2 (zq2 (zq2 (zq2 xi_w343))))))))
noncomputable def zi_344_0 : ZIs := [(0, ev_12), (2, ev_176), (4, ev_818), (7, ev_252), (8, ev_195), (11, ev_7), (12, ev_12), (14, ev_277), (15, ev_7), (16, ev_16), (17, ev_25), (19, ev_13), (20, ev_1537), (23, ev_192), (24, ev_197), (25, ev_299)]
noncomputable def zi_344_1 : ZIs := [(26, ev_13), (27, ev_1538), (30, ev_192), (31, ev_198), (32, ev_299), (33, ev_13), (34, ev_1539), (37, ev_192), (38, ev_150), (40, ev_13), (41, ev_197), (42, ev_1522), (45, ev_252), (46, ev_317), (47, ev_20), (48, ev_198)]
noncomputable def zi_344_2 : ZIs := [(49, ev_12), (51, ev_1540), (54, ev_20), (55, ev_299), (56, ev_10), (57, ev_28), (59, ev_10), (60, ev_275), (62, ev_276), (64, ev_192), (65, ev_346), (68, ev_155), (70, ev_7), (71, ev_13), (72, ev_1537), (75, ev_276)]
noncomputable def zi_344_3 : ZIs := [(77, ev_18), (78, ev_277), (79, ev_278), (80, ev_28), (82, ev_955), (85, ev_711), (88, ev_13), (89, ev_1541), (92, ev_192), (93, ev_198), (94, ev_7), (95, ev_22), (96, ev_12), (98, ev_860), (101, ev_155), (103, ev_1119)]
noncomputable def zi_344_4 : ZIs := [(106, ev_155), (108, ev_13), (109, ev_1506), (112, ev_197), (113, ev_18), (114, ev_20), (115, ev_299), (116, ev_260)]
set_option maxRecDepth 100000 in
theorem xi_w344 : zall cX12_begin [zi_344_0, zi_344_1, zi_344_2, zi_344_3, zi_344_4] := zall_w _ _ (by decide +kernel)
noncomputable def xi_344 (pc : Nat) : XIs := cond (Nat.blt pc 49) (cond (Nat.blt pc 26) (zx zi_344_0) (zx zi_344_1)) (cond (Nat.blt pc 77) (zx zi_344_2) (cond (Nat.blt pc 106) (zx zi_344_3) (zx zi_344_4)))
theorem xi_ok344 (pc : Nat) : xi_ok cX12_begin (xi_344 pc) = true := xi_c (xi_c (zq1 xi_w344) (zq1 (zq2 xi_w344))) (xi_c (zq1 (zq2 (zq2 xi_w344))) (xi_c (zq1 (zq2 (zq2 (zq2 xi_w344)))) (zq1 (zq2 (zq2 (zq2 (zq2 xi_w344)))))))
noncomputable def zi_345_0 : ZIs := [(0, ev_10), (1, ev_295), (2, ev_13), (3, ev_10), (4, ev_13), (5, ev_192), (6, ev_1542), (9, ev_197), (10, ev_192), (11, ev_1543), (14, ev_198), (15, ev_1544), (18, ev_13), (19, ev_1537), (22, ev_198), (23, ev_18)]
noncomputable def zi_345_1 : ZIs := [(24, ev_11), (26, ev_13), (27, ev_1518), (30, ev_12), (32, ev_252), (33, ev_299), (34, ev_13), (35, ev_1539), (38, ev_198), (39, ev_18), (40, ev_1545), (43, ev_13), (44, ev_1541), (47, ev_198), (48, ev_18), (49, ev_25)]
noncomputable def zi_345_2 : ZIs := [(51, ev_478), (54, ev_198), (55, ev_1546), (58, ev_150), (60, ev_13), (61, ev_1537), (64, ev_198), (65, ev_18), (66, ev_1418), (69, ev_1369), (72, ev_13), (73, ev_1518), (76, ev_13), (77, ev_1537), (80, ev_198), (81, ev_18)]
noncomputable def zi_345_3 : ZIs := [(82, ev_252), (83, ev_299), (84, ev_478), (87, ev_861), (90, ev_198), (91, ev_682), (94, ev_13), (95, ev_1541), (98, ev_198), (99, ev_316), (100, ev_18), (101, ev_150), (103, ev_7), (104, ev_13), (105, ev_1537), (108, ev_198)]
noncomputable def zi_345_4 : ZIs := [(109, ev_18), (110, ev_277), (111, ev_252), (112, ev_317), (113, ev_20), (114, ev_278), (115, ev_299), (116, ev_1547), (119, ev_13), (120, ev_1539), (123, ev_198), (124, ev_18), (125, ev_1490), (128, ev_25), (130, ev_13), (131, ev_1539)]
noncomputable def zi_345_5 : ZIs := [(134, ev_198), (135, ev_316), (136, ev_18), (137, ev_7), (138, ev_150), (140, ev_277), (141, ev_252), (142, ev_317), (143, ev_20), (144, ev_299), (145, ev_13), (146, ev_1518), (149, ev_12), (151, ev_150), (153, ev_299), (154, ev_13)]
noncomputable def zi_345_6 : ZIs := [(155, ev_192), (156, ev_1542), (159, ev_28), (161, ev_155), (163, ev_1548), (166, ev_7), (167, ev_152), (168, ev_300), (171, ev_13), (172, ev_198), (173, ev_155), (175, ev_150), (177, ev_13), (178, ev_1538), (181, ev_198), (182, ev_7)]
noncomputable def zi_345_7 : ZIs := [(183, ev_16), (184, ev_18), (185, ev_1549), (188, ev_150), (190, ev_7), (191, ev_22), (192, ev_200), (195, ev_13), (196, ev_1538), (199, ev_198), (200, ev_7), (201, ev_16), (202, ev_18), (203, ev_192), (204, ev_1543), (207, ev_1550)]
noncomputable def zi_345_8 : ZIs := [(210, ev_10), (211, ev_152)]
set_option maxRecDepth 100000 in
theorem xi_w345 : zall cX12_isPartColourable [zi_345_0, zi_345_1, zi_345_2, zi_345_3, zi_345_4, zi_345_5, zi_345_6, zi_345_7, zi_345_8] := zall_w _ _ (by decide +kernel)
noncomputable def xi_345 (pc : Nat) : XIs := cond (Nat.blt pc 109) (cond (Nat.blt pc 51) (cond (Nat.blt pc 24) (zx zi_345_0) (zx zi_345_1)) (cond (Nat.blt pc 82) (zx zi_345_2) (zx zi_345_3))) (cond (Nat.blt pc 155) (cond (Nat.blt pc 134) (zx zi_345_4) (zx zi_345_5)) (cond (Nat.blt pc 183) (zx zi_345_6) (cond (Nat.blt pc 210) (zx zi_345_7) (zx zi_345_8))))
theorem xi_ok345 (pc : Nat) : xi_ok cX12_isPartColourable (xi_345 pc) = true := xi_c (xi_c (xi_c (zq1 xi_w345) (zq1 (zq2 xi_w345))) (xi_c (zq1 (zq2 (zq2 xi_w345))) (zq1 (zq2 (zq2 (zq2 xi_w345)))))) (xi_c (xi_c (zq1 (zq2 (zq2 (zq2 (zq2 xi_w345))))) (zq1 (zq2 (zq2 (zq2 (zq2 (zq2 xi_w345))))))) (xi_c (zq1 (zq2 (zq2 (zq2 (zq2 (zq2 (zq2 xi_w345))))))) (xi_c (zq1 (zq2 (zq2 (zq2 (zq2 (zq2 (zq2 (zq2 xi_w345)))))))) (zq1 (zq2 (zq2 (zq2 (zq2 (zq2 (zq2 (zq2 (zq2 xi_w345))))))))))))
noncomputable def zi_346_0 : ZIs := [(0, ev_482), (1, ev_7), (2, ev_22), (3, ev_192), (4, ev_472), (7, ev_482), (8, ev_7), (9, ev_22), (10, ev_229), (13, ev_192), (14, ev_294), (15, ev_197), (16, ev_176), (18, ev_613), (21, ev_252), (22, ev_986)]
noncomputable def zi_346_1 : ZIs := [(25, ev_7), (26, ev_197), (27, ev_277), (28, ev_7), (29, ev_16), (30, ev_152)]
set_option maxRecDepth 100000 in
theorem xi_w346 : zall cX12_capped [zi_346_0, zi_346_1] := zall_w _ _ (by decide +kernel)
noncomputable def xi_346 (pc : Nat) : XIs := cond (Nat.blt pc 25) (zx zi_346_0) (zx zi_346_1)
theorem xi_ok346 (pc : Nat) : xi_ok cX12_capped (xi_346 pc) = true := xi_c (zq1 xi_w346) (zq1 (zq2 xi_w346))
noncomputable def zi_347_0 : ZIs := [(0, ev_13), (1, ev_13), (2, ev_192), (3, ev_1335), (6, ev_1176), (9, ev_158), (12, ev_10), (13, ev_152), (14, ev_13), (15, ev_1517), (18, ev_1515), (21, ev_294), (22, ev_10), (23, ev_295), (24, ev_198), (25, ev_13)]
noncomputable def zi_347_1 : ZIs := [(26, ev_1288), (29, ev_1114), (32, ev_13), (33, ev_1530), (36, ev_198), (37, ev_252), (38, ev_299), (39, ev_300), (42, ev_1476), (45, ev_13), (46, ev_197), (47, ev_1551), (50, ev_992), (53, ev_304), (56, ev_1489), (59, ev_10)]
noncomputable def zi_347_2 : ZIs := [(60, ev_295), (61, ev_198), (62, ev_192), (63, ev_1552), (66, ev_252), (67, ev_11), (69, ev_10), (70, ev_25), (72, ev_150), (74, ev_1553), (77, ev_348), (80, ev_13), (81, ev_1530), (84, ev_198), (85, ev_252), (86, ev_299)]
noncomputable def zi_347_3 : ZIs := [(87, ev_10), (88, ev_28), (90, ev_155), (92, ev_13), (93, ev_1288), (96, ev_346), (99, ev_13), (100, ev_1518), (103, ev_155), (105, ev_13), (106, ev_1530), (109, ev_155), (111, ev_18), (112, ev_299), (113, ev_320), (116, ev_562)]
noncomputable def zi_347_4 : ZIs := [(119, ev_13), (120, ev_198), (121, ev_1522), (124, ev_12), (126, ev_1418), (129, ev_1554), (132, ev_13), (133, ev_1530), (136, ev_198), (137, ev_12), (139, ev_299), (140, ev_13), (141, ev_197), (142, ev_1551), (145, ev_25), (147, ev_844)]
noncomputable def zi_347_5 : ZIs := [(150, ev_300), (153, ev_639), (156, ev_13), (157, ev_1530), (160, ev_192), (161, ev_18), (162, ev_152)]
set_option maxRecDepth 100000 in
theorem xi_w347 : zall cX12_colour [zi_347_0, zi_347_1, zi_347_2, zi_347_3, zi_347_4, zi_347_5] := zall_w _ _ (by decide +kernel)
noncomputable def xi_347 (pc : Nat) : XIs := cond (Nat.blt pc 87) (cond (Nat.blt pc 26) (zx zi_347_0) (cond (Nat.blt pc 60) (zx zi_347_1) (zx zi_347_2))) (cond (Nat.blt pc 119) (zx zi_347_3) (cond (Nat.blt pc 150) (zx zi_347_4) (zx zi_347_5)))
theorem xi_ok347 (pc : Nat) : xi_ok cX12_colour (xi_347 pc) = true := xi_c (xi_c (zq1 xi_w347) (xi_c (zq1 (zq2 xi_w347)) (zq1 (zq2 (zq2 xi_w347))))) (xi_c (zq1 (zq2 (zq2 (zq2 xi_w347)))) (xi_c (zq1 (zq2 (zq2 (zq2 (zq2 xi_w347))))) (zq1 (zq2 (zq2 (zq2 (zq2 (zq2 xi_w347))))))))
noncomputable def zi_348_0 : ZIs := [(0, ev_10), (1, ev_294), (2, ev_197), (3, ev_13), (4, ev_1288), (7, ev_1114), (10, ev_13), (11, ev_738), (14, ev_197), (15, ev_252), (16, ev_299), (17, ev_304), (20, ev_1476), (23, ev_13), (24, ev_738), (27, ev_192)]
noncomputable def zi_348_1 : ZIs := [(28, ev_803), (31, ev_299), (32, ev_10), (33, ev_294), (34, ev_7), (35, ev_295), (36, ev_13), (37, ev_961), (40, ev_10), (41, ev_192), (42, ev_299), (43, ev_197), (44, ev_198), (45, ev_1555), (48, ev_13), (49, ev_961)]
noncomputable def zi_348_2 : ZIs := [(52, ev_197), (53, ev_18), (54, ev_11), (56, ev_304), (59, ev_10), (60, ev_25), (62, ev_150), (64, ev_529), (67, ev_1426), (70, ev_13), (71, ev_1291), (74, ev_150), (76, ev_22), (77, ev_28), (79, ev_13), (80, ev_1290)]
noncomputable def zi_348_3 : ZIs := [(83, ev_155), (85, ev_1292), (86, ev_309), (89, ev_13), (90, ev_1302), (93, ev_155), (95, ev_18), (96, ev_12), (98, ev_1556), (101, ev_13), (102, ev_738), (105, ev_13), (106, ev_1038), (109, ev_155), (111, ev_18), (112, ev_18)]
noncomputable def zi_348_4 : ZIs := [(113, ev_1557), (116, ev_13), (117, ev_1558), (120, ev_150), (122, ev_154), (123, ev_13), (124, ev_465), (127, ev_155), (129, ev_18), (130, ev_156), (131, ev_157), (132, ev_627), (135, ev_13), (136, ev_738), (139, ev_13), (140, ev_1038)]
noncomputable def zi_348_5 : ZIs := [(143, ev_155), (145, ev_18), (146, ev_150), (148, ev_299), (149, ev_13), (150, ev_961), (153, ev_198), (154, ev_13), (155, ev_1038), (158, ev_155), (160, ev_18), (161, ev_299), (162, ev_300), (165, ev_1559), (168, ev_13), (169, ev_1290)]
noncomputable def zi_348_6 : ZIs := [(172, ev_155), (174, ev_1292), (175, ev_1504), (178, ev_13), (179, ev_1038), (182, ev_155), (184, ev_18), (185, ev_12), (187, ev_1560), (190, ev_13), (191, ev_738), (194, ev_13), (195, ev_1302), (198, ev_155), (200, ev_18), (201, ev_18)]
noncomputable def zi_348_7 : ZIs := [(202, ev_1561), (205, ev_13), (206, ev_1558), (209, ev_150), (211, ev_154), (212, ev_230), (213, ev_157), (214, ev_1562), (217, ev_13), (218, ev_738), (221, ev_13), (222, ev_1302), (225, ev_155), (227, ev_18), (228, ev_1184), (231, ev_150)]
noncomputable def zi_348_8 : ZIs := [(233, ev_22), (234, ev_299), (235, ev_13), (236, ev_961), (239, ev_198), (240, ev_13), (241, ev_1302), (244, ev_155), (246, ev_18), (247, ev_299), (248, ev_300), (251, ev_343), (254, ev_1432), (257, ev_1563), (260, ev_260)]
set_option maxRecDepth 100000 in
theorem xi_w348 : zall cX12_search [zi_348_0, zi_348_1, zi_348_2, zi_348_3, zi_348_4, zi_348_5, zi_348_6, zi_348_7, zi_348_8] := zall_w _ _ (by decide +kernel)
noncomputable def xi_348 (pc : Nat) : XIs := cond (Nat.blt pc 113) (cond (Nat.blt pc 52) (cond (Nat.blt pc 28) (zx zi_348_0) (zx zi_348_1)) (cond (Nat.blt pc 83) (zx zi_348_2) (zx zi_348_3))) (cond (Nat.blt pc 172) (cond (Nat.blt pc 143) (zx zi_348_4) (zx zi_348_5)) (cond (Nat.blt pc 202) (zx zi_348_6) (cond (Nat.blt pc 233) (zx zi_348_7) (zx zi_348_8))))
theorem xi_ok348 (pc : Nat) : xi_ok cX12_search (xi_348 pc) = true := xi_c (xi_c (xi_c (zq1 xi_w348) (zq1 (zq2 xi_w348))) (xi_c (zq1 (zq2 (zq2 xi_w348))) (zq1 (zq2 (zq2 (zq2 xi_w348)))))) (xi_c (xi_c (zq1 (zq2 (zq2 (zq2 (zq2 xi_w348))))) (zq1 (zq2 (zq2 (zq2 (zq2 (zq2 xi_w348))))))) (xi_c (zq1 (zq2 (zq2 (zq2 (zq2 (zq2 (zq2 xi_w348))))))) (xi_c (zq1 (zq2 (zq2 (zq2 (zq2 (zq2 (zq2 (zq2 xi_w348)))))))) (zq1 (zq2 (zq2 (zq2 (zq2 (zq2 (zq2 (zq2 (zq2 xi_w348))))))))))))
noncomputable def zi_349_0 : ZIs := [(0, ev_13), (1, ev_738), (4, ev_192), (5, ev_18), (6, ev_294), (7, ev_197), (8, ev_1184), (11, ev_1106), (14, ev_13), (15, ev_1038), (18, ev_13), (19, ev_1291), (22, ev_197), (23, ev_22), (24, ev_1184), (27, ev_16)]
noncomputable def zi_349_1 : ZIs := [(28, ev_18), (29, ev_1177), (32, ev_13), (33, ev_1302), (36, ev_13), (37, ev_1291), (40, ev_197), (41, ev_22), (42, ev_18), (43, ev_152)]
set_option maxRecDepth 100000 in
theorem xi_w349 : zall cX12_before [zi_349_0, zi_349_1] := zall_w _ _ (by decide +kernel)
noncomputable def xi_349 (pc : Nat) : XIs := cond (Nat.blt pc 28) (zx zi_349_0) (zx zi_349_1)
theorem xi_ok349 (pc : Nat) : xi_ok cX12_before (xi_349 pc) = true := xi_c (zq1 xi_w349) (zq1 (zq2 xi_w349))
noncomputable def zi_350_0 : ZIs := [(0, ev_13), (1, ev_738), (4, ev_192), (5, ev_18), (6, ev_294), (7, ev_197), (8, ev_1184), (11, ev_1523), (14, ev_13), (15, ev_1558), (18, ev_197), (19, ev_1184), (22, ev_16), (23, ev_154), (24, ev_713), (27, ev_13)]
noncomputable def zi_350_1 : ZIs := [(28, ev_465), (31, ev_13), (32, ev_1291), (35, ev_197), (36, ev_22), (37, ev_18), (38, ev_156), (39, ev_13), (40, ev_1558), (43, ev_197), (44, ev_154), (45, ev_485), (46, ev_481)]
set_option maxRecDepth 100000 in
theorem xi_w350 : zall cX12_roomOn [zi_350_0, zi_350_1] := zall_w _ _ (by decide +kernel)
noncomputable def xi_350 (pc : Nat) : XIs := cond (Nat.blt pc 28) (zx zi_350_0) (zx zi_350_1)
theorem xi_ok350 (pc : Nat) : xi_ok cX12_roomOn (xi_350 pc) = true := xi_c (zq1 xi_w350) (zq1 (zq2 xi_w350))
noncomputable def zi_351_0 : ZIs := [(0, ev_13), (1, ev_738), (4, ev_192), (5, ev_18), (6, ev_11), (8, ev_12), (10, ev_1184), (13, ev_1106), (16, ev_13), (17, ev_1558), (20, ev_12), (22, ev_1184), (25, ev_16), (26, ev_316), (27, ev_154), (28, ev_489)]
noncomputable def zi_351_1 : ZIs := [(29, ev_485), (30, ev_194), (31, ev_1177), (34, ev_13), (35, ev_1558), (38, ev_12), (40, ev_316), (41, ev_154), (42, ev_489), (43, ev_457), (44, ev_194), (45, ev_260)]
set_option maxRecDepth 100000 in
theorem xi_w351 : zall cX12_push [zi_351_0, zi_351_1] := zall_w _ _ (by decide +kernel)
noncomputable def xi_351 (pc : Nat) : XIs := cond (Nat.blt pc 29) (zx zi_351_0) (zx zi_351_1)
theorem xi_ok351 (pc : Nat) : xi_ok cX12_push (xi_351 pc) = true := xi_c (zq1 xi_w351) (zq1 (zq2 xi_w351))
noncomputable def zi_352_0 : ZIs := [(0, ev_10), (1, ev_295), (2, ev_198), (3, ev_529), (6, ev_1114), (9, ev_13), (10, ev_1558), (13, ev_198), (14, ev_230), (15, ev_194), (16, ev_300), (19, ev_1509), (22, ev_230), (23, ev_924), (24, ev_13), (25, ev_192)]
noncomputable def zi_352_1 : ZIs := [(26, ev_1564), (29, ev_13), (30, ev_738), (33, ev_197), (34, ev_18), (35, ev_1565), (38, ev_1566), (41, ev_574), (43, ev_197), (44, ev_275), (46, ev_276), (48, ev_192), (49, ev_1411), (52, ev_13), (53, ev_276), (55, ev_1567)]
noncomputable def zi_352_2 : ZIs := [(58, ev_501), (60, ev_157), (61, ev_1568), (64, ev_13), (65, ev_276), (67, ev_1567), (70, ev_638), (73, ev_501), (75, ev_574), (77, ev_13), (78, ev_276), (80, ev_1569), (83, ev_275), (85, ev_719), (88, ev_197), (89, ev_275)]
noncomputable def zi_352_3 : ZIs := [(91, ev_276), (93, ev_192), (94, ev_843), (97, ev_13), (98, ev_276), (100, ev_1569), (103, ev_313), (105, ev_13), (106, ev_276), (108, ev_501), (110, ev_1570), (113, ev_314), (115, ev_275), (117, ev_562), (120, ev_484), (121, ev_501)]
noncomputable def zi_352_4 : ZIs := [(123, ev_457), (124, ev_924), (125, ev_13), (126, ev_192), (127, ev_1564), (130, ev_1571), (133, ev_484), (134, ev_481)]
set_option maxRecDepth 100000 in
theorem xi_w352 : zall cX12_most [zi_352_0, zi_352_1, zi_352_2, zi_352_3, zi_352_4] := zall_w _ _ (by decide +kernel)
noncomputable def xi_352 (pc : Nat) : XIs := cond (Nat.blt pc 58) (cond (Nat.blt pc 26) (zx zi_352_0) (zx zi_352_1)) (cond (Nat.blt pc 91) (zx zi_352_2) (cond (Nat.blt pc 123) (zx zi_352_3) (zx zi_352_4)))
theorem xi_ok352 (pc : Nat) : xi_ok cX12_most (xi_352 pc) = true := xi_c (xi_c (zq1 xi_w352) (zq1 (zq2 xi_w352))) (xi_c (zq1 (zq2 (zq2 xi_w352))) (xi_c (zq1 (zq2 (zq2 (zq2 xi_w352)))) (zq1 (zq2 (zq2 (zq2 (zq2 xi_w352)))))))
noncomputable def zi_353_0 : ZIs := [(0, ev_13), (1, ev_192), (2, ev_1335), (5, ev_680), (8, ev_13), (9, ev_197), (10, ev_1335), (13, ev_649), (16, ev_192), (17, ev_197), (18, ev_681), (21, ev_7), (22, ev_229), (25, ev_10), (26, ev_152)]
set_option maxRecDepth 100000 in
theorem xi_w353 : zall cX12_twoNodes [zi_353_0] := zall_w _ _ (by decide +kernel)
noncomputable def xi_353 (pc : Nat) : XIs := zx zi_353_0
theorem xi_ok353 (pc : Nat) : xi_ok cX12_twoNodes (xi_353 pc) = true := zq1 xi_w353
noncomputable def zi_354_0 : ZIs := [(0, ev_13), (1, ev_13), (2, ev_192), (3, ev_197), (4, ev_1572), (7, ev_1176), (10, ev_227), (13, ev_230), (14, ev_195), (17, ev_13), (18, ev_192), (19, ev_197), (20, ev_1573), (23, ev_481)]
set_option maxRecDepth 100000 in
theorem xi_w354 : zall cX12_flow [zi_354_0] := zall_w _ _ (by decide +kernel)
noncomputable def xi_354 (pc : Nat) : XIs := zx zi_354_0
theorem xi_ok354 (pc : Nat) : xi_ok cX12_flow (xi_354 pc) = true := zq1 xi_w354
noncomputable def zi_355_0 : ZIs := [(0, ev_13), (1, ev_13), (2, ev_192), (3, ev_197), (4, ev_1572), (7, ev_771), (10, ev_13), (11, ev_198), (12, ev_1335), (15, ev_227), (18, ev_7), (19, ev_229), (22, ev_10), (23, ev_1176), (26, ev_158), (29, ev_10)]
noncomputable def zi_355_1 : ZIs := [(30, ev_152), (31, ev_13), (32, ev_192), (33, ev_197), (34, ev_1573), (37, ev_442), (39, ev_13), (40, ev_738), (43, ev_198), (44, ev_18), (45, ev_831), (48, ev_7), (49, ev_229), (52, ev_10), (53, ev_152)]
set_option maxRecDepth 100000 in
theorem xi_w355 : zall cX12_side [zi_355_0, zi_355_1] := zall_w _ _ (by decide +kernel)
noncomputable def xi_355 (pc : Nat) : XIs := cond (Nat.blt pc 30) (zx zi_355_0) (zx zi_355_1)
theorem xi_ok355 (pc : Nat) : xi_ok cX12_side (xi_355 pc) = true := xi_c (zq1 xi_w355) (zq1 (zq2 xi_w355))
noncomputable def zi_356_0 : ZIs := [(0, ev_10), (1, ev_294), (2, ev_197), (3, ev_13), (4, ev_1288), (7, ev_943), (10, ev_13), (11, ev_1574), (14, ev_197), (15, ev_1333), (18, ev_194), (19, ev_13), (20, ev_738), (23, ev_197), (24, ev_252), (25, ev_299)]
noncomputable def zi_356_1 : ZIs := [(26, ev_304), (29, ev_360), (32, ev_13), (33, ev_1574), (36, ev_192), (37, ev_230), (38, ev_194), (39, ev_13), (40, ev_738), (43, ev_192), (44, ev_803), (47, ev_299), (48, ev_7), (49, ev_294), (50, ev_197), (51, ev_1575)]
noncomputable def zi_356_2 : ZIs := [(54, ev_10), (55, ev_294), (56, ev_10), (57, ev_295), (58, ev_198), (59, ev_529), (62, ev_1576), (65, ev_13), (66, ev_1291), (69, ev_198), (70, ev_22), (71, ev_11), (73, ev_13), (74, ev_1290), (77, ev_12), (79, ev_1292)]
noncomputable def zi_356_3 : ZIs := [(80, ev_1577), (83, ev_13), (84, ev_1558), (87, ev_198), (88, ev_154), (89, ev_13), (90, ev_465), (93, ev_12), (95, ev_18), (96, ev_156), (97, ev_157), (98, ev_1578), (101, ev_13), (102, ev_1574), (105, ev_13), (106, ev_1302)]
noncomputable def zi_356_4 : ZIs := [(109, ev_12), (111, ev_18), (112, ev_154), (113, ev_1333), (116, ev_157), (117, ev_1579), (120, ev_13), (121, ev_1574), (124, ev_13), (125, ev_1302), (128, ev_12), (130, ev_18), (131, ev_154), (132, ev_13), (133, ev_1039), (136, ev_12)]
noncomputable def zi_356_5 : ZIs := [(138, ev_18), (139, ev_156), (140, ev_457), (141, ev_13), (142, ev_1574), (145, ev_13), (146, ev_1038), (149, ev_12), (151, ev_18), (152, ev_154), (153, ev_157), (154, ev_1580), (157, ev_13), (158, ev_1574), (161, ev_13), (162, ev_1038)]
noncomputable def zi_356_6 : ZIs := [(165, ev_12), (167, ev_18), (168, ev_13), (169, ev_1574), (172, ev_13), (173, ev_1302), (176, ev_12), (178, ev_18), (179, ev_154), (180, ev_13), (181, ev_1039), (184, ev_12), (186, ev_18), (187, ev_156), (188, ev_457), (189, ev_194)]
noncomputable def zi_356_7 : ZIs := [(190, ev_13), (191, ev_738), (194, ev_13), (195, ev_1038), (198, ev_12), (200, ev_18), (201, ev_198), (202, ev_299), (203, ev_7), (204, ev_294), (205, ev_13), (206, ev_1558), (209, ev_198), (210, ev_154), (211, ev_230), (212, ev_157)]
noncomputable def zi_356_8 : ZIs := [(213, ev_1581), (216, ev_13), (217, ev_1574), (220, ev_13), (221, ev_1038), (224, ev_12), (226, ev_18), (227, ev_154), (228, ev_1333), (231, ev_157), (232, ev_1582), (235, ev_13), (236, ev_1574), (239, ev_13), (240, ev_1038), (243, ev_12)]
noncomputable def zi_356_9 : ZIs := [(245, ev_18), (246, ev_154), (247, ev_13), (248, ev_1039), (251, ev_12), (253, ev_18), (254, ev_156), (255, ev_485), (256, ev_13), (257, ev_1574), (260, ev_13), (261, ev_1302), (264, ev_12), (266, ev_18), (267, ev_154), (268, ev_157)]
noncomputable def zi_356_10 : ZIs := [(269, ev_1557), (272, ev_13), (273, ev_1574), (276, ev_13), (277, ev_1302), (280, ev_12), (282, ev_18), (283, ev_13), (284, ev_1574), (287, ev_13), (288, ev_1038), (291, ev_12), (293, ev_18), (294, ev_154), (295, ev_13), (296, ev_1039)]
noncomputable def zi_356_11 : ZIs := [(299, ev_12), (301, ev_18), (302, ev_156), (303, ev_485), (304, ev_194), (305, ev_13), (306, ev_738), (309, ev_13), (310, ev_1302), (313, ev_12), (315, ev_18), (316, ev_1184), (319, ev_198), (320, ev_22), (321, ev_299), (322, ev_7)]
noncomputable def zi_356_12 : ZIs := [(323, ev_294), (324, ev_300), (327, ev_1583), (330, ev_1584), (333, ev_260)]
set_option maxRecDepth 100000 in
theorem xi_w356 : zall cX12_cheapest [zi_356_0, zi_356_1, zi_356_2, zi_356_3, zi_356_4, zi_356_5, zi_356_6, zi_356_7, zi_356_8, zi_356_9, zi_356_10, zi_356_11, zi_356_12] := zall_w _ _ (by decide +kernel)
noncomputable def xi_356 (pc : Nat) : XIs := cond (Nat.blt pc 165) (cond (Nat.blt pc 80) (cond (Nat.blt pc 26) (zx zi_356_0) (cond (Nat.blt pc 54) (zx zi_356_1) (zx zi_356_2))) (cond (Nat.blt pc 109) (zx zi_356_3) (cond (Nat.blt pc 138) (zx zi_356_4) (zx zi_356_5)))) (cond (Nat.blt pc 245) (cond (Nat.blt pc 190) (zx zi_356_6) (cond (Nat.blt pc 213) (zx zi_356_7) (zx zi_356_8))) (cond (Nat.blt pc 299) (cond (Nat.blt pc 269) (zx zi_356_9) (zx zi_356_10)) (cond (Nat.blt pc 323) (zx zi_356_11) (zx zi_356_12))))
theorem xi_ok356 (pc : Nat) : xi_ok cX12_cheapest (xi_356 pc) = true := xi_c (xi_c (xi_c (zq1 xi_w356) (xi_c (zq1 (zq2 xi_w356)) (zq1 (zq2 (zq2 xi_w356))))) (xi_c (zq1 (zq2 (zq2 (zq2 xi_w356)))) (xi_c (zq1 (zq2 (zq2 (zq2 (zq2 xi_w356))))) (zq1 (zq2 (zq2 (zq2 (zq2 (zq2 xi_w356))))))))) (xi_c (xi_c (zq1 (zq2 (zq2 (zq2 (zq2 (zq2 (zq2 xi_w356))))))) (xi_c (zq1 (zq2 (zq2 (zq2 (zq2 (zq2 (zq2 (zq2 xi_w356)))))))) (zq1 (zq2 (zq2 (zq2 (zq2 (zq2 (zq2 (zq2 (zq2 xi_w356))))))))))) (xi_c (xi_c (zq1 (zq2 (zq2 (zq2 (zq2 (zq2 (zq2 (zq2 (zq2 (zq2 xi_w356)))))))))) (zq1 (zq2 (zq2 (zq2 (zq2 (zq2 (zq2 (zq2 (zq2 (zq2 (zq2 xi_w356)))))))))))) (xi_c (zq1 (zq2 (zq2 (zq2 (zq2 (zq2 (zq2 (zq2 (zq2 (zq2 (zq2 (zq2 xi_w356)))))))))))) (zq1 (zq2 (zq2 (zq2 (zq2 (zq2 (zq2 (zq2 (zq2 (zq2 (zq2 (zq2 (zq2 xi_w356))))))))))))))))
noncomputable def zi_357_0 : ZIs := [(0, ev_13), (1, ev_13), (2, ev_192), (3, ev_197), (4, ev_1572), (7, ev_488), (10, ev_198), (11, ev_156), (12, ev_230), (13, ev_1585), (16, ev_1316), (19, ev_227), (22, ev_7), (23, ev_229), (26, ev_10), (27, ev_1176)]
noncomputable def zi_357_1 : ZIs := [(30, ev_158), (33, ev_230), (34, ev_481), (35, ev_10), (36, ev_11), (38, ev_12), (40, ev_13), (41, ev_1288), (44, ev_1586), (47, ev_13), (48, ev_584), (51, ev_12), (53, ev_12), (55, ev_192), (56, ev_540), (59, ev_198)]
noncomputable def zi_357_2 : ZIs := [(60, ev_156), (61, ev_759), (64, ev_12), (66, ev_197), (67, ev_410), (70, ev_198), (71, ev_310), (72, ev_156), (73, ev_229), (76, ev_230), (77, ev_194), (78, ev_348), (81, ev_408), (84, ev_10), (85, ev_11), (87, ev_12)]
noncomputable def zi_357_3 : ZIs := [(89, ev_529), (92, ev_1587), (95, ev_13), (96, ev_1291), (99, ev_12), (101, ev_22), (102, ev_25), (104, ev_13), (105, ev_1558), (108, ev_12), (110, ev_13), (111, ev_1290), (114, ev_150), (116, ev_1292), (117, ev_1434), (120, ev_13)]
noncomputable def zi_357_4 : ZIs := [(121, ev_1039), (124, ev_150), (126, ev_18), (127, ev_1588), (130, ev_13), (131, ev_465), (134, ev_150), (136, ev_18), (137, ev_156), (138, ev_229), (141, ev_230), (142, ev_194), (143, ev_13), (144, ev_1290), (147, ev_150), (149, ev_1292)]
noncomputable def zi_357_5 : ZIs := [(150, ev_982), (153, ev_13), (154, ev_584), (157, ev_13), (158, ev_1302), (161, ev_150), (163, ev_18), (164, ev_316), (165, ev_154), (166, ev_13), (167, ev_1558), (170, ev_12), (172, ev_154), (173, ev_485), (174, ev_194), (175, ev_13)]
noncomputable def zi_357_6 : ZIs := [(176, ev_584), (179, ev_13), (180, ev_1038), (183, ev_150), (185, ev_18), (186, ev_316), (187, ev_154), (188, ev_13), (189, ev_1558), (192, ev_12), (194, ev_154), (195, ev_457), (196, ev_194), (197, ev_348), (200, ev_1589), (203, ev_7)]
noncomputable def zi_357_7 : ZIs := [(204, ev_11), (206, ev_10), (207, ev_25), (209, ev_150), (211, ev_13), (212, ev_1288), (215, ev_511), (218, ev_12), (220, ev_1070), (223, ev_13), (224, ev_584), (227, ev_150), (229, ev_154), (230, ev_230), (231, ev_157), (232, ev_746)]
noncomputable def zi_357_8 : ZIs := [(235, ev_12), (237, ev_1004), (240, ev_13), (241, ev_150), (243, ev_1590), (246, ev_11), (248, ev_319), (251, ev_343), (254, ev_730), (257, ev_230), (258, ev_574), (260, ev_10), (261, ev_275), (263, ev_276), (265, ev_529), (268, ev_1591)]
noncomputable def zi_357_9 : ZIs := [(271, ev_501), (273, ev_13), (274, ev_1290), (277, ev_13), (278, ev_1291), (281, ev_276), (283, ev_22), (284, ev_1292), (285, ev_561), (288, ev_13), (289, ev_1558), (292, ev_276), (294, ev_154), (295, ev_13), (296, ev_1039), (299, ev_13)]
noncomputable def zi_357_10 : ZIs := [(300, ev_1291), (303, ev_276), (305, ev_22), (306, ev_18), (307, ev_156), (308, ev_492), (309, ev_229), (312, ev_230), (313, ev_457), (314, ev_574), (316, ev_955), (319, ev_503), (322, ev_12), (324, ev_330), (327, ev_501), (329, ev_209)]
noncomputable def zi_357_11 : ZIs := [(332, ev_1333), (335, ev_481)]
set_option maxRecDepth 100000 in
theorem xi_w357 : zall cX12_cost [zi_357_0, zi_357_1, zi_357_2, zi_357_3, zi_357_4, zi_357_5, zi_357_6, zi_357_7, zi_357_8, zi_357_9, zi_357_10, zi_357_11] := zall_w _ _ (by decide +kernel)
noncomputable def xi_357 (pc : Nat) : XIs := cond (Nat.blt pc 176) (cond (Nat.blt pc 89) (cond (Nat.blt pc 30) (zx zi_357_0) (cond (Nat.blt pc 60) (zx zi_357_1) (zx zi_357_2))) (cond (Nat.blt pc 121) (zx zi_357_3) (cond (Nat.blt pc 150) (zx zi_357_4) (zx zi_357_5)))) (cond (Nat.blt pc 271) (cond (Nat.blt pc 204) (zx zi_357_6) (cond (Nat.blt pc 235) (zx zi_357_7) (zx zi_357_8))) (cond (Nat.blt pc 300) (zx zi_357_9) (cond (Nat.blt pc 332) (zx zi_357_10) (zx zi_357_11))))
theorem xi_ok357 (pc : Nat) : xi_ok cX12_cost (xi_357 pc) = true := xi_c (xi_c (xi_c (zq1 xi_w357) (xi_c (zq1 (zq2 xi_w357)) (zq1 (zq2 (zq2 xi_w357))))) (xi_c (zq1 (zq2 (zq2 (zq2 xi_w357)))) (xi_c (zq1 (zq2 (zq2 (zq2 (zq2 xi_w357))))) (zq1 (zq2 (zq2 (zq2 (zq2 (zq2 xi_w357))))))))) (xi_c (xi_c (zq1 (zq2 (zq2 (zq2 (zq2 (zq2 (zq2 xi_w357))))))) (xi_c (zq1 (zq2 (zq2 (zq2 (zq2 (zq2 (zq2 (zq2 xi_w357)))))))) (zq1 (zq2 (zq2 (zq2 (zq2 (zq2 (zq2 (zq2 (zq2 xi_w357))))))))))) (xi_c (zq1 (zq2 (zq2 (zq2 (zq2 (zq2 (zq2 (zq2 (zq2 (zq2 xi_w357)))))))))) (xi_c (zq1 (zq2 (zq2 (zq2 (zq2 (zq2 (zq2 (zq2 (zq2 (zq2 (zq2 xi_w357))))))))))) (zq1 (zq2 (zq2 (zq2 (zq2 (zq2 (zq2 (zq2 (zq2 (zq2 (zq2 (zq2 xi_w357)))))))))))))))
noncomputable def zi_358_0 : ZIs := [(0, ev_13), (1, ev_192), (2, ev_1592), (5, ev_252), (6, ev_294), (7, ev_10), (8, ev_295), (9, ev_198), (10, ev_13), (11, ev_1288), (14, ev_1593), (17, ev_13), (18, ev_584), (21, ev_198), (22, ev_154), (23, ev_230)]
noncomputable def zi_358_1 : ZIs := [(24, ev_157), (25, ev_1594), (28, ev_13), (29, ev_1574), (32, ev_198), (33, ev_154), (34, ev_1333), (37, ev_157), (38, ev_1595), (41, ev_197), (42, ev_1596), (45, ev_13), (46, ev_1574), (49, ev_198), (50, ev_154), (51, ev_13)]
noncomputable def zi_358_2 : ZIs := [(52, ev_1574), (55, ev_197), (56, ev_154), (57, ev_157), (58, ev_486), (61, ev_198), (62, ev_229), (65, ev_197), (66, ev_294), (67, ev_300), (70, ev_402), (73, ev_197), (74, ev_1548), (77, ev_10), (78, ev_152), (79, ev_13)]
noncomputable def zi_358_3 : ZIs := [(80, ev_584), (83, ev_192), (84, ev_154), (85, ev_13), (86, ev_584), (89, ev_197), (90, ev_154), (91, ev_476), (92, ev_157), (93, ev_1568), (96, ev_13), (97, ev_584), (100, ev_192), (101, ev_154), (102, ev_633), (105, ev_13)]
noncomputable def zi_358_4 : ZIs := [(106, ev_584), (109, ev_197), (110, ev_154), (111, ev_476), (112, ev_924), (113, ev_197), (114, ev_25), (116, ev_150), (118, ev_192), (119, ev_1597), (122, ev_13), (123, ev_150), (125, ev_1567), (128, ev_484), (129, ev_157), (130, ev_1568)]
noncomputable def zi_358_5 : ZIs := [(133, ev_13), (134, ev_150), (136, ev_1567), (139, ev_229), (142, ev_484), (143, ev_924), (144, ev_13), (145, ev_150), (147, ev_1569), (150, ev_25), (152, ev_1015), (155, ev_197), (156, ev_25), (158, ev_150), (160, ev_192), (161, ev_1381)]
noncomputable def zi_358_6 : ZIs := [(164, ev_13), (165, ev_150), (167, ev_1569), (170, ev_28), (172, ev_13), (173, ev_150), (175, ev_484), (176, ev_1570), (179, ev_155), (181, ev_25), (183, ev_319), (186, ev_13), (187, ev_584), (190, ev_192), (191, ev_316), (192, ev_154)]
noncomputable def zi_358_7 : ZIs := [(193, ev_484), (194, ev_485), (195, ev_194), (196, ev_13), (197, ev_584), (200, ev_197), (201, ev_316), (202, ev_154), (203, ev_484), (204, ev_457), (205, ev_194), (206, ev_7), (207, ev_152)]
set_option maxRecDepth 100000 in
theorem xi_w358 : zall cX12_sends [zi_358_0, zi_358_1, zi_358_2, zi_358_3, zi_358_4, zi_358_5, zi_358_6, zi_358_7] := zall_w _ _ (by decide +kernel)
noncomputable def xi_358 (pc : Nat) : XIs := cond (Nat.blt pc 106) (cond (Nat.blt pc 52) (cond (Nat.blt pc 24) (zx zi_358_0) (zx zi_358_1)) (cond (Nat.blt pc 80) (zx zi_358_2) (zx zi_358_3))) (cond (Nat.blt pc 164) (cond (Nat.blt pc 133) (zx zi_358_4) (zx zi_358_5)) (cond (Nat.blt pc 193) (zx zi_358_6) (zx zi_358_7)))
theorem xi_ok358 (pc : Nat) : xi_ok cX12_sends (xi_358 pc) = true := xi_c (xi_c (xi_c (zq1 xi_w358) (zq1 (zq2 xi_w358))) (xi_c (zq1 (zq2 (zq2 xi_w358))) (zq1 (zq2 (zq2 (zq2 xi_w358)))))) (xi_c (xi_c (zq1 (zq2 (zq2 (zq2 (zq2 xi_w358))))) (zq1 (zq2 (zq2 (zq2 (zq2 (zq2 xi_w358))))))) (xi_c (zq1 (zq2 (zq2 (zq2 (zq2 (zq2 (zq2 xi_w358))))))) (zq1 (zq2 (zq2 (zq2 (zq2 (zq2 (zq2 (zq2 xi_w358))))))))))
noncomputable def zi_359_0 : ZIs := [(0, ev_13), (1, ev_1298), (4, ev_176), (6, ev_13), (7, ev_1162), (10, ev_355), (11, ev_192), (12, ev_22), (13, ev_18), (14, ev_655), (16, ev_656), (19, ev_7), (20, ev_229), (23, ev_10), (24, ev_152)]
set_option maxRecDepth 100000 in
theorem xi_w359 : zall cX12_isFirstSort [zi_359_0] := zall_w _ _ (by decide +kernel)
noncomputable def xi_359 (pc : Nat) : XIs := zx zi_359_0
theorem xi_ok359 (pc : Nat) : xi_ok cX12_isFirstSort (xi_359 pc) = true := zq1 xi_w359
noncomputable def zi_360_0 : ZIs := [(0, ev_10), (1, ev_685), (2, ev_192), (3, ev_528), (6, ev_1488), (9, ev_13), (10, ev_446), (13, ev_192), (14, ev_1333), (17, ev_194), (18, ev_688), (21, ev_334), (24, ev_10), (25, ev_685), (26, ev_192), (27, ev_529)]
noncomputable def zi_360_1 : ZIs := [(30, ev_1598), (33, ev_13), (34, ev_192), (35, ev_1179), (38, ev_1599), (41, ev_13), (42, ev_1302), (45, ev_13), (46, ev_1291), (49, ev_192), (50, ev_22), (51, ev_18), (52, ev_294), (53, ev_13), (54, ev_1038), (57, ev_13)]
noncomputable def zi_360_2 : ZIs := [(58, ev_1291), (61, ev_192), (62, ev_22), (63, ev_18), (64, ev_295), (65, ev_13), (66, ev_197), (67, ev_1600), (70, ev_13), (71, ev_198), (72, ev_1600), (75, ev_1601), (78, ev_13), (79, ev_197), (80, ev_1600), (83, ev_649)]
noncomputable def zi_360_3 : ZIs := [(86, ev_176), (88, ev_197), (89, ev_355), (90, ev_198), (91, ev_22), (92, ev_195), (95, ev_176), (97, ev_198), (98, ev_355), (99, ev_197), (100, ev_22), (101, ev_11), (103, ev_13), (104, ev_446), (107, ev_12), (109, ev_13)]
noncomputable def zi_360_4 : ZIs := [(110, ev_1039), (113, ev_13), (114, ev_1291), (117, ev_192), (118, ev_22), (119, ev_18), (120, ev_156), (121, ev_13), (122, ev_446), (125, ev_12), (127, ev_154), (128, ev_157), (129, ev_1602), (132, ev_13), (133, ev_1039), (136, ev_13)]
noncomputable def zi_360_5 : ZIs := [(137, ev_1291), (140, ev_192), (141, ev_22), (142, ev_18), (143, ev_156), (144, ev_633), (147, ev_13), (148, ev_446), (151, ev_12), (153, ev_154), (154, ev_194), (155, ev_688), (158, ev_1603), (161, ev_10), (162, ev_685), (163, ev_192)]
noncomputable def zi_360_6 : ZIs := [(164, ev_13), (165, ev_1288), (168, ev_1114), (171, ev_13), (172, ev_590), (175, ev_192), (176, ev_252), (177, ev_299), (178, ev_688), (181, ev_1476), (184, ev_7), (185, ev_685), (186, ev_192), (187, ev_1362), (190, ev_13), (191, ev_1604)]
noncomputable def zi_360_7 : ZIs := [(194, ev_294), (195, ev_197), (196, ev_831), (199, ev_7), (200, ev_229), (203, ev_10), (204, ev_685), (205, ev_197), (206, ev_1605), (209, ev_13), (210, ev_738), (213, ev_197), (214, ev_18), (215, ev_295), (216, ev_13), (217, ev_590)]
noncomputable def zi_360_8 : ZIs := [(220, ev_198), (221, ev_18), (222, ev_11), (224, ev_13), (225, ev_590), (228, ev_198), (229, ev_197), (230, ev_299), (231, ev_13), (232, ev_590), (235, ev_197), (236, ev_198), (237, ev_299), (238, ev_12), (240, ev_294), (241, ev_1015)]
noncomputable def zi_360_9 : ZIs := [(244, ev_357), (247, ev_260)]
set_option maxRecDepth 100000 in
theorem xi_w360 : zall cX12_pairUp [zi_360_0, zi_360_1, zi_360_2, zi_360_3, zi_360_4, zi_360_5, zi_360_6, zi_360_7, zi_360_8, zi_360_9] := zall_w _ _ (by decide +kernel)
noncomputable def xi_360 (pc : Nat) : XIs := cond (Nat.blt pc 137) (cond (Nat.blt pc 58) (cond (Nat.blt pc 30) (zx zi_360_0) (zx zi_360_1)) (cond (Nat.blt pc 86) (zx zi_360_2) (cond (Nat.blt pc 110) (zx zi_360_3) (zx zi_360_4)))) (cond (Nat.blt pc 194) (cond (Nat.blt pc 164) (zx zi_360_5) (zx zi_360_6)) (cond (Nat.blt pc 220) (zx zi_360_7) (cond (Nat.blt pc 244) (zx zi_360_8) (zx zi_360_9))))
theorem xi_ok360 (pc : Nat) : xi_ok cX12_pairUp (xi_360 pc) = true := xi_c (xi_c (xi_c (zq1 xi_w360) (zq1 (zq2 xi_w360))) (xi_c (zq1 (zq2 (zq2 xi_w360))) (xi_c (zq1 (zq2 (zq2 (zq2 xi_w360)))) (zq1 (zq2 (zq2 (zq2 (zq2 xi_w360)))))))) (xi_c (xi_c (zq1 (zq2 (zq2 (zq2 (zq2 (zq2 xi_w360)))))) (zq1 (zq2 (zq2 (zq2 (zq2 (zq2 (zq2 xi_w360)))))))) (xi_c (zq1 (zq2 (zq2 (zq2 (zq2 (zq2 (zq2 (zq2 xi_w360)))))))) (xi_c (zq1 (zq2 (zq2 (zq2 (zq2 (zq2 (zq2 (zq2 (zq2 xi_w360))))))))) (zq1 (zq2 (zq2 (zq2 (zq2 (zq2 (zq2 (zq2 (zq2 (zq2 xi_w360)))))))))))))
noncomputable def zi_361_0 : ZIs := [(0, ev_10), (1, ev_685), (2, ev_192), (3, ev_13), (4, ev_1288), (7, ev_721), (10, ev_13), (11, ev_1574), (14, ev_192), (15, ev_13), (16, ev_192), (17, ev_1600), (20, ev_417), (23, ev_13), (24, ev_590), (27, ev_192)]
noncomputable def zi_361_1 : ZIs := [(28, ev_18), (29, ev_486), (32, ev_230), (33, ev_209), (36, ev_1333), (39, ev_194), (40, ev_13), (41, ev_738), (44, ev_192), (45, ev_252), (46, ev_299), (47, ev_688), (50, ev_570), (53, ev_7), (54, ev_685), (55, ev_192)]
noncomputable def zi_361_2 : ZIs := [(56, ev_1606), (59, ev_10), (60, ev_685), (61, ev_10), (62, ev_294), (63, ev_197), (64, ev_528), (67, ev_1607), (70, ev_197), (71, ev_176), (73, ev_582), (74, ev_295), (75, ev_197), (76, ev_176), (78, ev_508), (79, ev_11)]
noncomputable def zi_361_3 : ZIs := [(81, ev_13), (82, ev_446), (85, ev_197), (86, ev_154), (87, ev_1333), (90, ev_157), (91, ev_1608), (94, ev_13), (95, ev_1574), (98, ev_198), (99, ev_154), (100, ev_1333), (103, ev_157), (104, ev_1609), (107, ev_13), (108, ev_590)]
noncomputable def zi_361_4 : ZIs := [(111, ev_198), (112, ev_18), (113, ev_12), (115, ev_1610), (118, ev_13), (119, ev_1574), (122, ev_198), (123, ev_154), (124, ev_13), (125, ev_446), (128, ev_197), (129, ev_154), (130, ev_457), (131, ev_13), (132, ev_1574), (135, ev_12)]
noncomputable def zi_361_5 : ZIs := [(137, ev_154), (138, ev_157), (139, ev_1611), (142, ev_13), (143, ev_1574), (146, ev_12), (148, ev_13), (149, ev_1574), (152, ev_198), (153, ev_154), (154, ev_13), (155, ev_446), (158, ev_197), (159, ev_154), (160, ev_457), (161, ev_194)]
noncomputable def zi_361_6 : ZIs := [(162, ev_13), (163, ev_738), (166, ev_12), (168, ev_198), (169, ev_299), (170, ev_7), (171, ev_685), (172, ev_13), (173, ev_590), (176, ev_12), (178, ev_18), (179, ev_1612), (182, ev_13), (183, ev_1574), (186, ev_13), (187, ev_590)]
noncomputable def zi_361_7 : ZIs := [(190, ev_12), (192, ev_18), (193, ev_13), (194, ev_1574), (197, ev_12), (199, ev_154), (200, ev_13), (201, ev_446), (204, ev_176), (206, ev_13), (207, ev_590), (210, ev_12), (212, ev_18), (213, ev_355), (214, ev_12), (216, ev_22)]
noncomputable def zi_361_8 : ZIs := [(217, ev_154), (218, ev_485), (219, ev_194), (220, ev_304), (223, ev_1423), (226, ev_1613), (229, ev_252), (230, ev_294), (231, ev_10), (232, ev_295), (233, ev_198), (234, ev_13), (235, ev_1288), (238, ev_1395), (241, ev_13), (242, ev_198)]
noncomputable def zi_361_9 : ZIs := [(243, ev_1600), (246, ev_1614), (249, ev_13), (250, ev_590), (253, ev_198), (254, ev_18), (255, ev_600), (258, ev_13), (259, ev_1574), (262, ev_198), (263, ev_154), (264, ev_1333), (267, ev_157), (268, ev_486), (271, ev_7), (272, ev_229)]
noncomputable def zi_361_10 : ZIs := [(275, ev_10), (276, ev_11), (278, ev_12), (280, ev_561), (283, ev_197), (284, ev_1596), (287, ev_13), (288, ev_1574), (291, ev_198), (292, ev_154), (293, ev_13), (294, ev_1574), (297, ev_197), (298, ev_154), (299, ev_157), (300, ev_486)]
noncomputable def zi_361_11 : ZIs := [(303, ev_198), (304, ev_229), (307, ev_197), (308, ev_294), (309, ev_300), (312, ev_563), (315, ev_197), (316, ev_152)]
set_option maxRecDepth 100000 in
theorem xi_w361 : zall cX12_cheapestPair [zi_361_0, zi_361_1, zi_361_2, zi_361_3, zi_361_4, zi_361_5, zi_361_6, zi_361_7, zi_361_8, zi_361_9, zi_361_10, zi_361_11] := zall_w _ _ (by decide +kernel)
noncomputable def xi_361 (pc : Nat) : XIs := cond (Nat.blt pc 162) (cond (Nat.blt pc 81) (cond (Nat.blt pc 28) (zx zi_361_0) (cond (Nat.blt pc 56) (zx zi_361_1) (zx zi_361_2))) (cond (Nat.blt pc 111) (zx zi_361_3) (cond (Nat.blt pc 137) (zx zi_361_4) (zx zi_361_5)))) (cond (Nat.blt pc 243) (cond (Nat.blt pc 190) (zx zi_361_6) (cond (Nat.blt pc 217) (zx zi_361_7) (zx zi_361_8))) (cond (Nat.blt pc 275) (zx zi_361_9) (cond (Nat.blt pc 303) (zx zi_361_10) (zx zi_361_11))))
theorem xi_ok361 (pc : Nat) : xi_ok cX12_cheapestPair (xi_361 pc) = true := xi_c (xi_c (xi_c (zq1 xi_w361) (xi_c (zq1 (zq2 xi_w361)) (zq1 (zq2 (zq2 xi_w361))))) (xi_c (zq1 (zq2 (zq2 (zq2 xi_w361)))) (xi_c (zq1 (zq2 (zq2 (zq2 (zq2 xi_w361))))) (zq1 (zq2 (zq2 (zq2 (zq2 (zq2 xi_w361))))))))) (xi_c (xi_c (zq1 (zq2 (zq2 (zq2 (zq2 (zq2 (zq2 xi_w361))))))) (xi_c (zq1 (zq2 (zq2 (zq2 (zq2 (zq2 (zq2 (zq2 xi_w361)))))))) (zq1 (zq2 (zq2 (zq2 (zq2 (zq2 (zq2 (zq2 (zq2 xi_w361))))))))))) (xi_c (zq1 (zq2 (zq2 (zq2 (zq2 (zq2 (zq2 (zq2 (zq2 (zq2 xi_w361)))))))))) (xi_c (zq1 (zq2 (zq2 (zq2 (zq2 (zq2 (zq2 (zq2 (zq2 (zq2 (zq2 xi_w361))))))))))) (zq1 (zq2 (zq2 (zq2 (zq2 (zq2 (zq2 (zq2 (zq2 (zq2 (zq2 (zq2 xi_w361)))))))))))))))
noncomputable def zi_362_0 : ZIs := [(0, ev_13), (1, ev_192), (2, ev_156), (3, ev_230), (4, ev_228), (5, ev_1316), (8, ev_1176), (11, ev_158), (14, ev_230), (15, ev_481), (16, ev_13), (17, ev_1615), (20, ev_230), (21, ev_517), (22, ev_230), (23, ev_442)]
noncomputable def zi_362_1 : ZIs := [(25, ev_10), (26, ev_28), (28, ev_155), (30, ev_13), (31, ev_1288), (34, ev_938), (37, ev_13), (38, ev_155), (40, ev_1600), (43, ev_867), (46, ev_13), (47, ev_590), (50, ev_155), (52, ev_18), (53, ev_1616), (56, ev_489)]
noncomputable def zi_362_2 : ZIs := [(57, ev_228), (58, ev_457), (59, ev_517), (60, ev_247), (62, ev_13), (63, ev_446), (66, ev_176), (68, ev_155), (70, ev_355), (71, ev_13), (72, ev_590), (75, ev_155), (77, ev_18), (78, ev_22), (79, ev_154), (80, ev_457)]
noncomputable def zi_362_3 : ZIs := [(81, ev_442), (83, ev_320), (86, ev_357), (89, ev_192), (90, ev_326), (93, ev_489), (94, ev_638), (97, ev_247), (99, ev_481)]
set_option maxRecDepth 100000 in
theorem xi_w362 : zall cX12_pairing [zi_362_0, zi_362_1, zi_362_2, zi_362_3] := zall_w _ _ (by decide +kernel)
noncomputable def xi_362 (pc : Nat) : XIs := cond (Nat.blt pc 57) (cond (Nat.blt pc 25) (zx zi_362_0) (zx zi_362_1)) (cond (Nat.blt pc 81) (zx zi_362_2) (zx zi_362_3))
theorem xi_ok362 (pc : Nat) : xi_ok cX12_pairing (xi_362 pc) = true := xi_c (xi_c (zq1 xi_w362) (zq1 (zq2 xi_w362))) (xi_c (zq1 (zq2 (zq2 xi_w362))) (zq1 (zq2 (zq2 (zq2 xi_w362)))))
noncomputable def zi_363_0 : ZIs := [(0, ev_13), (1, ev_13), (2, ev_192), (3, ev_1335), (6, ev_1176), (9, ev_158), (12, ev_230), (13, ev_481), (14, ev_10), (15, ev_294), (16, ev_10), (17, ev_295), (18, ev_198), (19, ev_529), (22, ev_815), (25, ev_13)]
noncomputable def zi_363_1 : ZIs := [(26, ev_198), (27, ev_1179), (30, ev_1617), (33, ev_13), (34, ev_450), (37, ev_197), (38, ev_13), (39, ev_1302), (42, ev_13), (43, ev_1291), (46, ev_198), (47, ev_22), (48, ev_18), (49, ev_299), (50, ev_13), (51, ev_452)]
noncomputable def zi_363_2 : ZIs := [(54, ev_197), (55, ev_13), (56, ev_1038), (59, ev_13), (60, ev_1291), (63, ev_198), (64, ev_22), (65, ev_18), (66, ev_299), (67, ev_13), (68, ev_456), (71, ev_197), (72, ev_13), (73, ev_1039), (76, ev_13), (77, ev_1291)]
noncomputable def zi_363_3 : ZIs := [(80, ev_198), (81, ev_22), (82, ev_18), (83, ev_156), (84, ev_194), (85, ev_304), (88, ev_300), (91, ev_1338), (94, ev_13), (95, ev_1288), (98, ev_295), (99, ev_192), (100, ev_11), (102, ev_230), (103, ev_574), (105, ev_198)]
noncomputable def zi_363_4 : ZIs := [(106, ev_7), (107, ev_1618), (110, ev_10), (111, ev_275), (113, ev_276), (115, ev_198), (116, ev_683), (119, ev_13), (120, ev_1619), (123, ev_276), (125, ev_252), (126, ev_299), (127, ev_955), (130, ev_1509), (133, ev_10), (134, ev_275)]
noncomputable def zi_363_5 : ZIs := [(136, ev_276), (138, ev_197), (139, ev_1620), (142, ev_13), (143, ev_450), (146, ev_276), (148, ev_18), (149, ev_13), (150, ev_452), (153, ev_276), (155, ev_18), (156, ev_1621), (159, ev_13), (160, ev_1619), (163, ev_13), (164, ev_452)]
noncomputable def zi_363_6 : ZIs := [(167, ev_276), (169, ev_18), (170, ev_18), (171, ev_1622), (174, ev_13), (175, ev_456), (178, ev_276), (180, ev_154), (181, ev_13), (182, ev_456), (185, ev_13), (186, ev_1619), (189, ev_13), (190, ev_452), (193, ev_276), (195, ev_18)]
noncomputable def zi_363_7 : ZIs := [(196, ev_18), (197, ev_154), (198, ev_157), (199, ev_486), (202, ev_7), (203, ev_229), (206, ev_10), (207, ev_313), (209, ev_13), (210, ev_1619), (213, ev_13), (214, ev_452), (217, ev_276), (219, ev_18), (220, ev_314), (222, ev_330)]
noncomputable def zi_363_8 : ZIs := [(225, ev_276), (227, ev_439), (230, ev_13), (231, ev_1619), (234, ev_13), (235, ev_452), (238, ev_276), (240, ev_18), (241, ev_18), (242, ev_299), (243, ev_955), (246, ev_1483), (249, ev_10), (250, ev_275), (252, ev_276), (254, ev_198)]
noncomputable def zi_363_9 : ZIs := [(255, ev_815), (258, ev_276), (260, ev_12), (262, ev_900), (265, ev_13), (266, ev_1619), (269, ev_276), (271, ev_18), (272, ev_486), (275, ev_1333), (278, ev_481), (279, ev_13), (280, ev_1623), (283, ev_276), (285, ev_276), (287, ev_12)]
noncomputable def zi_363_10 : ZIs := [(289, ev_818), (292, ev_230), (293, ev_439), (296, ev_13), (297, ev_456), (300, ev_13), (301, ev_1619), (304, ev_276), (306, ev_18), (307, ev_154), (308, ev_194), (309, ev_501), (311, ev_13), (312, ev_1623), (315, ev_276), (317, ev_154)]
noncomputable def zi_363_11 : ZIs := [(318, ev_457), (319, ev_574), (321, ev_955), (324, ev_983), (327, ev_13), (328, ev_198), (329, ev_12), (331, ev_1624), (334, ev_275), (336, ev_276), (338, ev_198), (339, ev_774), (342, ev_501), (344, ev_481), (345, ev_10), (346, ev_313)]
noncomputable def zi_363_12 : ZIs := [(348, ev_314), (350, ev_197), (351, ev_636), (354, ev_13), (355, ev_452), (358, ev_314), (360, ev_18), (361, ev_327), (363, ev_13), (364, ev_456), (367, ev_314), (369, ev_316), (370, ev_154), (371, ev_13), (372, ev_450), (375, ev_314)]
noncomputable def zi_363_13 : ZIs := [(377, ev_18), (378, ev_329), (380, ev_618), (383, ev_329), (385, ev_12), (387, ev_1384), (390, ev_13), (391, ev_1623), (394, ev_329), (396, ev_154), (397, ev_229), (400, ev_230), (401, ev_485), (402, ev_194), (403, ev_13), (404, ev_450)]
noncomputable def zi_363_14 : ZIs := [(407, ev_314), (409, ev_13), (410, ev_1625), (413, ev_13), (414, ev_450), (417, ev_314), (419, ev_18), (420, ev_18), (421, ev_299), (422, ev_13), (423, ev_452), (426, ev_314), (428, ev_13), (429, ev_1625), (432, ev_329), (434, ev_18)]
noncomputable def zi_363_15 : ZIs := [(435, ev_299), (436, ev_318), (439, ev_1626), (442, ev_13), (443, ev_1625), (446, ev_12), (448, ev_18), (449, ev_11), (451, ev_276), (453, ev_295), (454, ev_1627), (457, ev_501), (459, ev_481)]
set_option maxRecDepth 100000 in
theorem xi_w363 : zall cX12_tree [zi_363_0, zi_363_1, zi_363_2, zi_363_3, zi_363_4, zi_363_5, zi_363_6, zi_363_7, zi_363_8, zi_363_9, zi_363_10, zi_363_11, zi_363_12, zi_363_13, zi_363_14, zi_363_15] := zall_w _ _ (by decide +kernel)
noncomputable def xi_363 (pc : Nat) : XIs := cond (Nat.blt pc 225) (cond (Nat.blt pc 106) (cond (Nat.blt pc 54) (cond (Nat.blt pc 26) (zx zi_363_0) (zx zi_363_1)) (cond (Nat.blt pc 80) (zx zi_363_2) (zx zi_363_3))) (cond (Nat.blt pc 167) (cond (Nat.blt pc 136) (zx zi_363_4) (zx zi_363_5)) (cond (Nat.blt pc 196) (zx zi_363_6) (zx zi_363_7)))) (cond (Nat.blt pc 348) (cond (Nat.blt pc 289) (cond (Nat.blt pc 255) (zx zi_363_8) (zx zi_363_9)) (cond (Nat.blt pc 318) (zx zi_363_10) (zx zi_363_11))) (cond (Nat.blt pc 407) (cond (Nat.blt pc 377) (zx zi_363_12) (zx zi_363_13)) (cond (Nat.blt pc 435) (zx zi_363_14) (zx zi_363_15))))
theorem xi_ok363 (pc : Nat) : xi_ok cX12_tree (xi_363 pc) = true := xi_c (xi_c (xi_c (xi_c (zq1 xi_w363) (zq1 (zq2 xi_w363))) (xi_c (zq1 (zq2 (zq2 xi_w363))) (zq1 (zq2 (zq2 (zq2 xi_w363)))))) (xi_c (xi_c (zq1 (zq2 (zq2 (zq2 (zq2 xi_w363))))) (zq1 (zq2 (zq2 (zq2 (zq2 (zq2 xi_w363))))))) (xi_c (zq1 (zq2 (zq2 (zq2 (zq2 (zq2 (zq2 xi_w363))))))) (zq1 (zq2 (zq2 (zq2 (zq2 (zq2 (zq2 (zq2 xi_w363))))))))))) (xi_c (xi_c (xi_c (zq1 (zq2 (zq2 (zq2 (zq2 (zq2 (zq2 (zq2 (zq2 xi_w363))))))))) (zq1 (zq2 (zq2 (zq2 (zq2 (zq2 (zq2 (zq2 (zq2 (zq2 xi_w363))))))))))) (xi_c (zq1 (zq2 (zq2 (zq2 (zq2 (zq2 (zq2 (zq2 (zq2 (zq2 (zq2 xi_w363))))))))))) (zq1 (zq2 (zq2 (zq2 (zq2 (zq2 (zq2 (zq2 (zq2 (zq2 (zq2 (zq2 xi_w363)))))))))))))) (xi_c (xi_c (zq1 (zq2 (zq2 (zq2 (zq2 (zq2 (zq2 (zq2 (zq2 (zq2 (zq2 (zq2 (zq2 xi_w363))))))))))))) (zq1 (zq2 (zq2 (zq2 (zq2 (zq2 (zq2 (zq2 (zq2 (zq2 (zq2 (zq2 (zq2 (zq2 xi_w363))))))))))))))) (xi_c (zq1 (zq2 (zq2 (zq2 (zq2 (zq2 (zq2 (zq2 (zq2 (zq2 (zq2 (zq2 (zq2 (zq2 (zq2 xi_w363))))))))))))))) (zq1 (zq2 (zq2 (zq2 (zq2 (zq2 (zq2 (zq2 (zq2 (zq2 (zq2 (zq2 (zq2 (zq2 (zq2 (zq2 xi_w363)))))))))))))))))))
noncomputable def zi_364_0 : ZIs := [(0, ev_10), (1, ev_295), (2, ev_198), (3, ev_192), (4, ev_346), (7, ev_13), (8, ev_1625), (11, ev_198), (12, ev_252), (13, ev_299), (14, ev_13), (15, ev_1628), (18, ev_198), (19, ev_252), (20, ev_299), (21, ev_300)]
noncomputable def zi_364_1 : ZIs := [(24, ev_624), (27, ev_10), (28, ev_295), (29, ev_10), (30, ev_11), (32, ev_12), (34, ev_192), (35, ev_1629), (38, ev_12), (40, ev_25), (42, ev_150), (44, ev_197), (45, ev_740), (48, ev_13), (49, ev_1628), (52, ev_150)]
noncomputable def zi_364_2 : ZIs := [(54, ev_18), (55, ev_1630), (58, ev_13), (59, ev_1625), (62, ev_150), (64, ev_18), (65, ev_1631), (68, ev_13), (69, ev_1628), (72, ev_150), (74, ev_12), (76, ev_299), (77, ev_13), (78, ev_450), (81, ev_13), (82, ev_1619)]
noncomputable def zi_364_3 : ZIs := [(85, ev_150), (87, ev_18), (88, ev_18), (89, ev_25), (91, ev_653), (94, ev_150), (96, ev_197), (97, ev_700), (100, ev_13), (101, ev_1625), (104, ev_150), (106, ev_18), (107, ev_1632), (110, ev_13), (111, ev_1628), (114, ev_150)]
noncomputable def zi_364_4 : ZIs := [(116, ev_18), (117, ev_12), (119, ev_1633), (122, ev_150), (124, ev_28), (126, ev_13), (127, ev_1625), (130, ev_155), (132, ev_18), (133, ev_745), (136, ev_13), (137, ev_1625), (140, ev_155), (142, ev_198), (143, ev_299), (144, ev_13)]
noncomputable def zi_364_5 : ZIs := [(145, ev_450), (148, ev_13), (149, ev_1619), (152, ev_155), (154, ev_18), (155, ev_18), (156, ev_28), (158, ev_693), (161, ev_300), (164, ev_348), (167, ev_1634), (170, ev_10), (171, ev_11), (173, ev_12), (175, ev_192), (176, ev_929)]
noncomputable def zi_364_6 : ZIs := [(179, ev_13), (180, ev_1625), (183, ev_12), (185, ev_18), (186, ev_1588), (189, ev_13), (190, ev_1625), (193, ev_12), (195, ev_198), (196, ev_299), (197, ev_300), (200, ev_348), (203, ev_645), (206, ev_198), (207, ev_152)]
set_option maxRecDepth 100000 in
theorem xi_w364 : zall cX12_rings [zi_364_0, zi_364_1, zi_364_2, zi_364_3, zi_364_4, zi_364_5, zi_364_6] := zall_w _ _ (by decide +kernel)
noncomputable def xi_364 (pc : Nat) : XIs := cond (Nat.blt pc 85) (cond (Nat.blt pc 24) (zx zi_364_0) (cond (Nat.blt pc 54) (zx zi_364_1) (zx zi_364_2))) (cond (Nat.blt pc 145) (cond (Nat.blt pc 116) (zx zi_364_3) (zx zi_364_4)) (cond (Nat.blt pc 179) (zx zi_364_5) (zx zi_364_6)))
theorem xi_ok364 (pc : Nat) : xi_ok cX12_rings (xi_364 pc) = true := xi_c (xi_c (zq1 xi_w364) (xi_c (zq1 (zq2 xi_w364)) (zq1 (zq2 (zq2 xi_w364))))) (xi_c (xi_c (zq1 (zq2 (zq2 (zq2 xi_w364)))) (zq1 (zq2 (zq2 (zq2 (zq2 xi_w364)))))) (xi_c (zq1 (zq2 (zq2 (zq2 (zq2 (zq2 xi_w364)))))) (zq1 (zq2 (zq2 (zq2 (zq2 (zq2 (zq2 xi_w364)))))))))
noncomputable def zi_365_0 : ZIs := [(0, ev_13), (1, ev_13), (2, ev_192), (3, ev_1492), (6, ev_1176), (9, ev_158), (12, ev_10), (13, ev_152), (14, ev_13), (15, ev_192), (16, ev_1179), (19, ev_378), (22, ev_10), (23, ev_152), (24, ev_10), (25, ev_294)]
noncomputable def zi_365_1 : ZIs := [(26, ev_197), (27, ev_13), (28, ev_1288), (31, ev_1114), (34, ev_13), (35, ev_1635), (38, ev_197), (39, ev_197), (40, ev_299), (41, ev_304), (44, ev_1476), (47, ev_13), (48, ev_13), (49, ev_1291), (52, ev_192), (53, ev_22)]
noncomputable def zi_365_2 : ZIs := [(54, ev_192), (55, ev_1636), (58, ev_517), (59, ev_10), (60, ev_11), (62, ev_12), (64, ev_13), (65, ev_1288), (68, ev_1637), (71, ev_10), (72, ev_25), (74, ev_150), (76, ev_529), (79, ev_1638), (82, ev_13), (83, ev_150)]
noncomputable def zi_365_3 : ZIs := [(85, ev_1179), (88, ev_1639), (91, ev_13), (92, ev_13), (93, ev_1291), (96, ev_150), (98, ev_22), (99, ev_150), (101, ev_1636), (104, ev_489), (105, ev_157), (106, ev_1640), (109, ev_13), (110, ev_1635), (113, ev_13), (114, ev_1302)]
noncomputable def zi_365_4 : ZIs := [(117, ev_13), (118, ev_1291), (121, ev_150), (123, ev_22), (124, ev_18), (125, ev_18), (126, ev_28), (128, ev_13), (129, ev_1635), (132, ev_13), (133, ev_1038), (136, ev_13), (137, ev_1291), (140, ev_150), (142, ev_22), (143, ev_18)]
noncomputable def zi_365_5 : ZIs := [(144, ev_18), (145, ev_275), (147, ev_155), (149, ev_276), (151, ev_860), (154, ev_155), (156, ev_638), (159, ev_276), (161, ev_313), (163, ev_13), (164, ev_1635), (167, ev_13), (168, ev_1302), (171, ev_13), (172, ev_1291), (175, ev_150)]
noncomputable def zi_365_6 : ZIs := [(177, ev_22), (178, ev_18), (179, ev_314), (181, ev_299), (182, ev_13), (183, ev_1635), (186, ev_13), (187, ev_1038), (190, ev_13), (191, ev_1291), (194, ev_150), (196, ev_22), (197, ev_18), (198, ev_314), (200, ev_299), (201, ev_343)]
noncomputable def zi_365_7 : ZIs := [(204, ev_1641), (207, ev_348), (210, ev_1642), (213, ev_13), (214, ev_1635), (217, ev_13), (218, ev_1302), (221, ev_13), (222, ev_1291), (225, ev_192), (226, ev_22), (227, ev_18), (228, ev_18), (229, ev_13), (230, ev_1635), (233, ev_13)]
noncomputable def zi_365_8 : ZIs := [(234, ev_1038), (237, ev_13), (238, ev_1291), (241, ev_192), (242, ev_22), (243, ev_18), (244, ev_18), (245, ev_681), (248, ev_7), (249, ev_229), (252, ev_10), (253, ev_152)]
set_option maxRecDepth 100000 in
theorem xi_w365 : zall cX12_span [zi_365_0, zi_365_1, zi_365_2, zi_365_3, zi_365_4, zi_365_5, zi_365_6, zi_365_7, zi_365_8] := zall_w _ _ (by decide +kernel)
noncomputable def xi_365 (pc : Nat) : XIs := cond (Nat.blt pc 117) (cond (Nat.blt pc 54) (cond (Nat.blt pc 26) (zx zi_365_0) (zx zi_365_1)) (cond (Nat.blt pc 85) (zx zi_365_2) (zx zi_365_3))) (cond (Nat.blt pc 177) (cond (Nat.blt pc 144) (zx zi_365_4) (zx zi_365_5)) (cond (Nat.blt pc 204) (zx zi_365_6) (cond (Nat.blt pc 234) (zx zi_365_7) (zx zi_365_8))))
theorem xi_ok365 (pc : Nat) : xi_ok cX12_span (xi_365 pc) = true := xi_c (xi_c (xi_c (zq1 xi_w365) (zq1 (zq2 xi_w365))) (xi_c (zq1 (zq2 (zq2 xi_w365))) (zq1 (zq2 (zq2 (zq2 xi_w365)))))) (xi_c (xi_c (zq1 (zq2 (zq2 (zq2 (zq2 xi_w365))))) (zq1 (zq2 (zq2 (zq2 (zq2 (zq2 xi_w365))))))) (xi_c (zq1 (zq2 (zq2 (zq2 (zq2 (zq2 (zq2 xi_w365))))))) (xi_c (zq1 (zq2 (zq2 (zq2 (zq2 (zq2 (zq2 (zq2 xi_w365)))))))) (zq1 (zq2 (zq2 (zq2 (zq2 (zq2 (zq2 (zq2 (zq2 xi_w365))))))))))))
noncomputable def zi_366_0 : ZIs := [(0, ev_1643), (3, ev_13), (4, ev_1039), (7, ev_192), (8, ev_18), (9, ev_156), (10, ev_1315), (13, ev_457), (14, ev_492), (15, ev_197), (16, ev_156), (17, ev_457), (18, ev_481)]
set_option maxRecDepth 100000 in
theorem xi_w366 : zall cX12_orderOf [zi_366_0] := zall_w _ _ (by decide +kernel)
noncomputable def xi_366 (pc : Nat) : XIs := zx zi_366_0
theorem xi_ok366 (pc : Nat) : xi_ok cX12_orderOf (xi_366 pc) = true := zq1 xi_w366
noncomputable def zi_367_0 : ZIs := [(0, ev_228), (1, ev_442), (3, ev_487), (4, ev_58), (6, ev_489), (7, ev_445), (9, ev_462), (11, ev_230), (12, ev_157), (13, ev_1644), (16, ev_462), (18, ev_1645), (21, ev_527), (22, ev_228), (23, ev_157), (24, ev_153)]
noncomputable def zi_367_1 : ZIs := [(27, ev_247), (29, ev_460), (31, ev_492), (32, ev_1646), (35, ev_527), (36, ev_638), (39, ev_247), (41, ev_442), (43, ev_460), (45, ev_460), (47, ev_492), (48, ev_1646), (51, ev_527), (52, ev_58), (54, ev_462), (56, ev_1645)]
noncomputable def zi_367_2 : ZIs := [(59, ev_490), (60, ev_445), (62, ev_1528), (65, ev_247), (67, ev_481)]
set_option maxRecDepth 100000 in
theorem xi_w367 : zall cX12_power [zi_367_0, zi_367_1, zi_367_2] := zall_w _ _ (by decide +kernel)
noncomputable def xi_367 (pc : Nat) : XIs := cond (Nat.blt pc 27) (zx zi_367_0) (cond (Nat.blt pc 59) (zx zi_367_1) (zx zi_367_2))
theorem xi_ok367 (pc : Nat) : xi_ok cX12_power (xi_367 pc) = true := xi_c (zq1 xi_w367) (xi_c (zq1 (zq2 xi_w367)) (zq1 (zq2 (zq2 xi_w367))))
noncomputable def zi_368_0 : ZIs := [(0, ev_13), (1, ev_10), (2, ev_1286), (5, ev_13), (6, ev_1288), (9, ev_378), (12, ev_10), (13, ev_152), (14, ev_10), (15, ev_685), (16, ev_192), (17, ev_528), (20, ev_1114), (23, ev_13), (24, ev_1647), (27, ev_192)]
noncomputable def zi_368_1 : ZIs := [(28, ev_230), (29, ev_194), (30, ev_688), (33, ev_1509), (36, ev_10), (37, ev_685), (38, ev_192), (39, ev_529), (42, ev_1648), (45, ev_13), (46, ev_192), (47, ev_1179), (50, ev_1649), (53, ev_13), (54, ev_1302), (57, ev_13)]
noncomputable def zi_368_2 : ZIs := [(58, ev_1291), (61, ev_192), (62, ev_22), (63, ev_18), (64, ev_294), (65, ev_13), (66, ev_1038), (69, ev_13), (70, ev_1291), (73, ev_192), (74, ev_22), (75, ev_18), (76, ev_295), (77, ev_13), (78, ev_1647), (81, ev_525)]
noncomputable def zi_368_3 : ZIs := [(83, ev_197), (84, ev_355), (85, ev_316), (86, ev_154), (87, ev_228), (88, ev_457), (89, ev_194), (90, ev_13), (91, ev_1647), (94, ev_525), (96, ev_198), (97, ev_355), (98, ev_316), (99, ev_154), (100, ev_228), (101, ev_457)]
noncomputable def zi_368_4 : ZIs := [(102, ev_194), (103, ev_13), (104, ev_1647), (107, ev_176), (109, ev_197), (110, ev_355), (111, ev_198), (112, ev_22), (113, ev_316), (114, ev_154), (115, ev_1650), (118, ev_457), (119, ev_194), (120, ev_13), (121, ev_1647), (124, ev_176)]
noncomputable def zi_368_5 : ZIs := [(126, ev_198), (127, ev_355), (128, ev_197), (129, ev_22), (130, ev_316), (131, ev_154), (132, ev_1650), (135, ev_457), (136, ev_194), (137, ev_688), (140, ev_650), (143, ev_10), (144, ev_685), (145, ev_192), (146, ev_528), (149, ev_364)]
noncomputable def zi_368_6 : ZIs := [(152, ev_13), (153, ev_1647), (156, ev_192), (157, ev_316), (158, ev_154), (159, ev_1646), (162, ev_527), (163, ev_194), (164, ev_688), (167, ev_624), (170, ev_228), (171, ev_1651), (172, ev_7), (173, ev_295), (174, ev_198), (175, ev_13)]
noncomputable def zi_368_7 : ZIs := [(176, ev_1288), (179, ev_1652), (182, ev_198), (183, ev_11), (185, ev_12), (187, ev_13), (188, ev_1288), (191, ev_359), (194, ev_13), (195, ev_1647), (198, ev_176), (200, ev_12), (202, ev_355), (203, ev_198), (204, ev_22), (205, ev_154)]
noncomputable def zi_368_8 : ZIs := [(206, ev_230), (207, ev_157), (208, ev_992), (211, ev_348), (214, ev_853), (217, ev_12), (219, ev_13), (220, ev_1288), (223, ev_691), (226, ev_10), (227, ev_152), (228, ev_10), (229, ev_25), (231, ev_150), (233, ev_13), (234, ev_1288)]
noncomputable def zi_368_9 : ZIs := [(237, ev_1470), (240, ev_12), (242, ev_198), (243, ev_648), (246, ev_13), (247, ev_1647), (250, ev_176), (252, ev_12), (254, ev_355), (255, ev_150), (257, ev_22), (258, ev_154), (259, ev_58), (261, ev_13), (262, ev_1647), (265, ev_176)]
noncomputable def zi_368_10 : ZIs := [(267, ev_12), (269, ev_355), (270, ev_150), (272, ev_22), (273, ev_13), (274, ev_1647), (277, ev_176), (279, ev_198), (280, ev_355), (281, ev_150), (283, ev_22), (284, ev_154), (285, ev_194), (286, ev_13), (287, ev_1647), (290, ev_176)]
noncomputable def zi_368_11 : ZIs := [(292, ev_198), (293, ev_355), (294, ev_150), (296, ev_22), (297, ev_460), (299, ev_194), (300, ev_343), (303, ev_983), (306, ev_12), (308, ev_198), (309, ev_742), (312, ev_1646), (315, ev_483), (316, ev_485), (317, ev_1646), (320, ev_527)]
noncomputable def zi_368_12 : ZIs := [(321, ev_229), (324, ev_483), (325, ev_1651), (326, ev_483), (327, ev_13), (328, ev_1647), (331, ev_525), (333, ev_198), (334, ev_355), (335, ev_154), (336, ev_492), (337, ev_1646), (340, ev_527), (341, ev_1651), (342, ev_13), (343, ev_1647)]
noncomputable def zi_368_13 : ZIs := [(346, ev_525), (348, ev_198), (349, ev_355), (350, ev_154), (351, ev_1653), (354, ev_1654), (357, ev_574), (359, ev_198), (360, ev_7), (361, ev_22), (362, ev_275), (364, ev_276), (366, ev_13), (367, ev_1288), (370, ev_1655), (373, ev_13)]
noncomputable def zi_368_14 : ZIs := [(374, ev_1647), (377, ev_176), (379, ev_276), (381, ev_355), (382, ev_198), (383, ev_22), (384, ev_154), (385, ev_501), (387, ev_492), (388, ev_1646), (391, ev_527), (392, ev_445), (394, ev_198), (395, ev_447), (397, ev_448), (399, ev_13)]
noncomputable def zi_368_15 : ZIs := [(400, ev_1288), (403, ev_1593), (406, ev_13), (407, ev_1647), (410, ev_176), (412, ev_276), (414, ev_355), (415, ev_448), (417, ev_22), (418, ev_13), (419, ev_1647), (422, ev_176), (424, ev_276), (426, ev_355), (427, ev_448), (429, ev_22)]
noncomputable def zi_368_16 : ZIs := [(430, ev_154), (431, ev_1646), (434, ev_462), (436, ev_485), (437, ev_13), (438, ev_1647), (441, ev_176), (443, ev_198), (444, ev_355), (445, ev_448), (447, ev_22), (448, ev_154), (449, ev_492), (450, ev_457), (451, ev_1646), (454, ev_527)]
noncomputable def zi_368_17 : ZIs := [(455, ev_194), (456, ev_464), (459, ev_279), (462, ev_955), (465, ev_1571), (468, ev_300), (471, ev_1656), (474, ev_483), (475, ev_991), (476, ev_152)]
set_option maxRecDepth 100000 in
theorem xi_w368 : zall cX12_trees [zi_368_0, zi_368_1, zi_368_2, zi_368_3, zi_368_4, zi_368_5, zi_368_6, zi_368_7, zi_368_8, zi_368_9, zi_368_10, zi_368_11, zi_368_12, zi_368_13, zi_368_14, zi_368_15, zi_368_16, zi_368_17] := zall_w _ _ (by decide +kernel)
noncomputable def xi_368 (pc : Nat) : XIs := cond (Nat.blt pc 237) (cond (Nat.blt pc 102) (cond (Nat.blt pc 58) (cond (Nat.blt pc 28) (zx zi_368_0) (zx zi_368_1)) (cond (Nat.blt pc 83) (zx zi_368_2) (zx zi_368_3))) (cond (Nat.blt pc 152) (cond (Nat.blt pc 126) (zx zi_368_4) (zx zi_368_5)) (cond (Nat.blt pc 176) (zx zi_368_6) (cond (Nat.blt pc 206) (zx zi_368_7) (zx zi_368_8))))) (cond (Nat.blt pc 346) (cond (Nat.blt pc 292) (cond (Nat.blt pc 267) (zx zi_368_9) (zx zi_368_10)) (cond (Nat.blt pc 321) (zx zi_368_11) (zx zi_368_12))) (cond (Nat.blt pc 400) (cond (Nat.blt pc 374) (zx zi_368_13) (zx zi_368_14)) (cond (Nat.blt pc 430) (zx zi_368_15) (cond (Nat.blt pc 455) (zx zi_368_16) (zx zi_368_17)))))
theorem xi_ok368 (pc : Nat) : xi_ok cX12_trees (xi_368 pc) = true := xi_c (xi_c (xi_c (xi_c (zq1 xi_w368) (zq1 (zq2 xi_w368))) (xi_c (zq1 (zq2 (zq2 xi_w368))) (zq1 (zq2 (zq2 (zq2 xi_w368)))))) (xi_c (xi_c (zq1 (zq2 (zq2 (zq2 (zq2 xi_w368))))) (zq1 (zq2 (zq2 (zq2 (zq2 (zq2 xi_w368))))))) (xi_c (zq1 (zq2 (zq2 (zq2 (zq2 (zq2 (zq2 xi_w368))))))) (xi_c (zq1 (zq2 (zq2 (zq2 (zq2 (zq2 (zq2 (zq2 xi_w368)))))))) (zq1 (zq2 (zq2 (zq2 (zq2 (zq2 (zq2 (zq2 (zq2 xi_w368))))))))))))) (xi_c (xi_c (xi_c (zq1 (zq2 (zq2 (zq2 (zq2 (zq2 (zq2 (zq2 (zq2 (zq2 xi_w368)))))))))) (zq1 (zq2 (zq2 (zq2 (zq2 (zq2 (zq2 (zq2 (zq2 (zq2 (zq2 xi_w368)))))))))))) (xi_c (zq1 (zq2 (zq2 (zq2 (zq2 (zq2 (zq2 (zq2 (zq2 (zq2 (zq2 (zq2 xi_w368)))))))))))) (zq1 (zq2 (zq2 (zq2 (zq2 (zq2 (zq2 (zq2 (zq2 (zq2 (zq2 (zq2 (zq2 xi_w368))))))))))))))) (xi_c (xi_c (zq1 (zq2 (zq2 (zq2 (zq2 (zq2 (zq2 (zq2 (zq2 (zq2 (zq2 (zq2 (zq2 (zq2 xi_w368)))))))))))))) (zq1 (zq2 (zq2 (zq2 (zq2 (zq2 (zq2 (zq2 (zq2 (zq2 (zq2 (zq2 (zq2 (zq2 (zq2 xi_w368)))))))))))))))) (xi_c (zq1 (zq2 (zq2 (zq2 (zq2 (zq2 (zq2 (zq2 (zq2 (zq2 (zq2 (zq2 (zq2 (zq2 (zq2 (zq2 xi_w368)))))))))))))))) (xi_c (zq1 (zq2 (zq2 (zq2 (zq2 (zq2 (zq2 (zq2 (zq2 (zq2 (zq2 (zq2 (zq2 (zq2 (zq2 (zq2 (zq2 xi_w368))))))))))))))))) (zq1 (zq2 (zq2 (zq2 (zq2 (zq2 (zq2 (zq2 (zq2 (zq2 (zq2 (zq2 (zq2 (zq2 (zq2 (zq2 (zq2 (zq2 xi_w368))))))))))))))))))))))
noncomputable def zi_369_0 : ZIs := [(0, ev_13), (1, ev_13), (2, ev_192), (3, ev_1335), (6, ev_488), (9, ev_197), (10, ev_156), (11, ev_230), (12, ev_1657), (15, ev_1316), (18, ev_227), (21, ev_7), (22, ev_229), (25, ev_10), (26, ev_1176), (29, ev_158)]
noncomputable def zi_369_1 : ZIs := [(32, ev_230), (33, ev_481), (34, ev_10), (35, ev_295), (36, ev_198), (37, ev_13), (38, ev_1288), (41, ev_943), (44, ev_13), (45, ev_1658), (48, ev_198), (49, ev_1659), (52, ev_194), (53, ev_13), (54, ev_1660), (57, ev_198)]
noncomputable def zi_369_2 : ZIs := [(58, ev_10), (59, ev_299), (60, ev_300), (63, ev_360), (66, ev_13), (67, ev_1291), (70, ev_295), (71, ev_198), (72, ev_13), (73, ev_1291), (76, ev_529), (79, ev_22), (80, ev_340), (83, ev_13), (84, ev_1290), (87, ev_198)]
noncomputable def zi_369_3 : ZIs := [(88, ev_1292), (89, ev_393), (92, ev_13), (93, ev_1660), (96, ev_13), (97, ev_1302), (100, ev_198), (101, ev_18), (102, ev_316), (103, ev_18), (104, ev_7), (105, ev_22), (106, ev_299), (107, ev_300), (110, ev_719), (113, ev_10)]
noncomputable def zi_369_4 : ZIs := [(114, ev_295), (115, ev_198), (116, ev_197), (117, ev_1661), (120, ev_230), (121, ev_442), (123, ev_10), (124, ev_28), (126, ev_155), (128, ev_13), (129, ev_1288), (132, ev_863), (135, ev_247), (137, ev_13), (138, ev_1658), (141, ev_155)]
noncomputable def zi_369_5 : ZIs := [(143, ev_154), (144, ev_457), (145, ev_442), (147, ev_13), (148, ev_1662), (151, ev_155), (153, ev_230), (154, ev_194), (155, ev_320), (158, ev_693), (161, ev_13), (162, ev_1291), (165, ev_28), (167, ev_155), (169, ev_13), (170, ev_1291)]
noncomputable def zi_369_6 : ZIs := [(173, ev_529), (176, ev_22), (177, ev_965), (180, ev_13), (181, ev_1290), (184, ev_155), (186, ev_1292), (187, ev_272), (190, ev_13), (191, ev_1658), (194, ev_13), (195, ev_1302), (198, ev_155), (200, ev_18), (201, ev_154), (202, ev_1663)]
noncomputable def zi_369_7 : ZIs := [(205, ev_492), (206, ev_1664), (209, ev_13), (210, ev_1660), (213, ev_13), (214, ev_1302), (217, ev_155), (219, ev_18), (220, ev_18), (221, ev_156), (222, ev_492), (223, ev_490), (224, ev_921), (226, ev_13), (227, ev_1662), (230, ev_13)]
noncomputable def zi_369_8 : ZIs := [(231, ev_1038), (234, ev_155), (236, ev_18), (237, ev_316), (238, ev_154), (239, ev_922), (241, ev_457), (242, ev_194), (243, ev_247), (245, ev_922), (247, ev_485), (248, ev_442), (250, ev_320), (253, ev_1503), (256, ev_10), (257, ev_28)]
noncomputable def zi_369_9 : ZIs := [(259, ev_155), (261, ev_13), (262, ev_1288), (265, ev_1665), (268, ev_13), (269, ev_1658), (272, ev_155), (274, ev_13), (275, ev_1662), (278, ev_155), (280, ev_154), (281, ev_247), (283, ev_13), (284, ev_1288), (287, ev_156), (288, ev_490)]
noncomputable def zi_369_10 : ZIs := [(289, ev_457), (290, ev_155), (292, ev_156), (293, ev_247), (295, ev_13), (296, ev_1288), (299, ev_156), (300, ev_527), (301, ev_157), (302, ev_486), (305, ev_228), (306, ev_229), (309, ev_230), (310, ev_457), (311, ev_194), (312, ev_320)]
noncomputable def zi_369_11 : ZIs := [(315, ev_503), (318, ev_300), (321, ev_1666), (324, ev_13), (325, ev_1658), (328, ev_192), (329, ev_154), (330, ev_481)]
set_option maxRecDepth 100000 in
theorem xi_w369 : zall cX12_rank [zi_369_0, zi_369_1, zi_369_2, zi_369_3, zi_369_4, zi_369_5, zi_369_6, zi_369_7, zi_369_8, zi_369_9, zi_369_10, zi_369_11] := zall_w _ _ (by decide +kernel)
noncomputable def xi_369 (pc : Nat) : XIs := cond (Nat.blt pc 173) (cond (Nat.blt pc 88) (cond (Nat.blt pc 32) (zx zi_369_0) (cond (Nat.blt pc 58) (zx zi_369_1) (zx zi_369_2))) (cond (Nat.blt pc 114) (zx zi_369_3) (cond (Nat.blt pc 143) (zx zi_369_4) (zx zi_369_5)))) (cond (Nat.blt pc 259) (cond (Nat.blt pc 205) (zx zi_369_6) (cond (Nat.blt pc 231) (zx zi_369_7) (zx zi_369_8))) (cond (Nat.blt pc 289) (zx zi_369_9) (cond (Nat.blt pc 315) (zx zi_369_10) (zx zi_369_11))))
theorem xi_ok369 (pc : Nat) : xi_ok cX12_rank (xi_369 pc) = true := xi_c (xi_c (xi_c (zq1 xi_w369) (xi_c (zq1 (zq2 xi_w369)) (zq1 (zq2 (zq2 xi_w369))))) (xi_c (zq1 (zq2 (zq2 (zq2 xi_w369)))) (xi_c (zq1 (zq2 (zq2 (zq2 (zq2 xi_w369))))) (zq1 (zq2 (zq2 (zq2 (zq2 (zq2 xi_w369))))))))) (xi_c (xi_c (zq1 (zq2 (zq2 (zq2 (zq2 (zq2 (zq2 xi_w369))))))) (xi_c (zq1 (zq2 (zq2 (zq2 (zq2 (zq2 (zq2 (zq2 xi_w369)))))))) (zq1 (zq2 (zq2 (zq2 (zq2 (zq2 (zq2 (zq2 (zq2 xi_w369))))))))))) (xi_c (zq1 (zq2 (zq2 (zq2 (zq2 (zq2 (zq2 (zq2 (zq2 (zq2 xi_w369)))))))))) (xi_c (zq1 (zq2 (zq2 (zq2 (zq2 (zq2 (zq2 (zq2 (zq2 (zq2 (zq2 xi_w369))))))))))) (zq1 (zq2 (zq2 (zq2 (zq2 (zq2 (zq2 (zq2 (zq2 (zq2 (zq2 (zq2 xi_w369)))))))))))))))
