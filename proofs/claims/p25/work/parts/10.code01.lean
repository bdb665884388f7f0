noncomputable def xi_0_0 : XIs := [(0, .new 8, 3), (3, .dup, 1), (4, .invokespecial 141, 3), (7, .astore_n 1, 1), (8, .new 142, 3), (11, .dup, 1), (12, .invokespecial 144, 3), (15, .astore_n 2, 1), (16, .iconst 1, 1), (17, .newarray .long, 2), (19, .astore_n 3, 1), (20, .iconst 0, 1), (21, .istore 4, 2), (23, .iload 4, 2), (25, .aload_n 0, 1), (26, .arraylength, 1)]
noncomputable def xi_0_1 : XIs := [(27, .bipush 6, 2), (29, .isub, 1), (30, .if_icmp .gt 1867, 3), (33, .aload_n 0, 1), (34, .iload 4, 2), (36, .iaload, 1), (37, .bipush 63, 2), (39, .iand, 1)]
noncomputable def xi_0_2 : XIs := [(40, .tableswitch 1851 0 46 #[204, 232, 308, 336, 388, 428, 456, 469, 497, 537, 565, 617, 645, 658, 671, 699, 712, 740, 780, 832, 872, 912, 976, 1016, 1079, 1107, 1135, 1163, 1191, 1219, 1259, 1311, 1363, 1391, 1419, 1447, 1460, 1500, 1564, 1592, 1605, 1633, 1646, 1686, 1699, 1795, 1823], 204)]
set_option maxRecDepth 100000 in
theorem xi_ok0_2 : xi_ok code xi_0_2 = true := by decide +kernel
noncomputable def xi_0_3 : XIs := [(244, .aload_n 1, 1), (245, .aload_n 0, 1), (246, .iload 4, 2), (248, .iconst 1, 1), (249, .iadd, 1), (250, .iaload, 1), (251, .aload_n 3, 1), (252, .invokestatic 145, 3), (255, .istore 5, 2), (257, .aload_n 2, 1), (258, .aload_n 0, 1), (259, .iload 4, 2), (261, .iconst 1, 1), (262, .iadd, 1), (263, .iaload, 1), (264, .invokevirtual 150, 3)]
noncomputable def xi_0_4 : XIs := [(267, .istore 6, 2), (269, .goto 1622, 3), (272, .aload_n 1, 1), (273, .aload_n 0, 1), (274, .iload 4, 2), (276, .iconst 1, 1), (277, .iadd, 1), (278, .iaload, 1), (279, .aload_n 0, 1), (280, .iload 4, 2), (282, .iconst 2, 1), (283, .iadd, 1), (284, .iaload, 1), (285, .aload_n 0, 1), (286, .iload 4, 2), (288, .iconst 3, 1)]
noncomputable def xi_0_5 : XIs := [(289, .iadd, 1), (290, .iaload, 1), (291, .aload_n 0, 1), (292, .iload 4, 2), (294, .iconst 4, 1), (295, .iadd, 1), (296, .iaload, 1), (297, .aload_n 0, 1), (298, .iload 4, 2), (300, .iconst 5, 1), (301, .iadd, 1), (302, .iaload, 1), (303, .aload_n 3, 1), (304, .invokestatic 151, 3), (307, .istore 5, 2), (309, .aload_n 2, 1)]
noncomputable def xi_0_6 : XIs := [(310, .aload_n 0, 1), (311, .iload 4, 2), (313, .iconst 1, 1), (314, .iadd, 1), (315, .iaload, 1), (316, .aload_n 0, 1), (317, .iload 4, 2), (319, .iconst 2, 1), (320, .iadd, 1), (321, .iaload, 1), (322, .aload_n 0, 1), (323, .iload 4, 2), (325, .iconst 3, 1), (326, .iadd, 1), (327, .iaload, 1), (328, .aload_n 0, 1)]
noncomputable def xi_0_7 : XIs := [(329, .iload 4, 2), (331, .iconst 4, 1), (332, .iadd, 1), (333, .iaload, 1), (334, .aload_n 0, 1), (335, .iload 4, 2), (337, .iconst 5, 1), (338, .iadd, 1), (339, .iaload, 1), (340, .invokevirtual 154, 3), (343, .istore 6, 2), (345, .goto 1546, 3), (348, .aload_n 1, 1), (349, .aload_n 0, 1), (350, .iload 4, 2), (352, .iconst 1, 1)]
noncomputable def xi_0_8 : XIs := [(353, .iadd, 1), (354, .iaload, 1), (355, .aload_n 3, 1), (356, .invokestatic 155, 3), (359, .istore 5, 2), (361, .aload_n 2, 1), (362, .aload_n 0, 1), (363, .iload 4, 2), (365, .iconst 1, 1), (366, .iadd, 1), (367, .iaload, 1), (368, .invokevirtual 157, 3), (371, .istore 6, 2), (373, .goto 1518, 3), (376, .aload_n 1, 1), (377, .aload_n 0, 1)]
noncomputable def xi_0_9 : XIs := [(378, .iload 4, 2), (380, .iconst 1, 1), (381, .iadd, 1), (382, .iaload, 1), (383, .aload_n 0, 1), (384, .iload 4, 2), (386, .iconst 2, 1), (387, .iadd, 1), (388, .iaload, 1), (389, .aload_n 0, 1), (390, .iload 4, 2), (392, .iconst 3, 1), (393, .iadd, 1), (394, .iaload, 1), (395, .aload_n 3, 1), (396, .invokestatic 158, 3)]
noncomputable def xi_0_10 : XIs := [(399, .istore 5, 2), (401, .aload_n 2, 1), (402, .aload_n 0, 1), (403, .iload 4, 2), (405, .iconst 1, 1), (406, .iadd, 1), (407, .iaload, 1), (408, .aload_n 0, 1), (409, .iload 4, 2), (411, .iconst 2, 1), (412, .iadd, 1), (413, .iaload, 1), (414, .aload_n 0, 1), (415, .iload 4, 2), (417, .iconst 3, 1), (418, .iadd, 1)]
noncomputable def xi_0_11 : XIs := [(419, .iaload, 1), (420, .invokevirtual 161, 3), (423, .istore 6, 2), (425, .goto 1466, 3), (428, .aload_n 1, 1), (429, .aload_n 0, 1), (430, .iload 4, 2), (432, .iconst 1, 1), (433, .iadd, 1), (434, .iaload, 1), (435, .aload_n 0, 1), (436, .iload 4, 2), (438, .iconst 2, 1), (439, .iadd, 1), (440, .iaload, 1), (441, .aload_n 3, 1)]
noncomputable def xi_0_12 : XIs := [(442, .invokestatic 162, 3), (445, .istore 5, 2), (447, .aload_n 2, 1), (448, .aload_n 0, 1), (449, .iload 4, 2), (451, .iconst 1, 1), (452, .iadd, 1), (453, .iaload, 1), (454, .aload_n 0, 1), (455, .iload 4, 2), (457, .iconst 2, 1), (458, .iadd, 1), (459, .iaload, 1), (460, .invokevirtual 165, 3), (463, .istore 6, 2), (465, .goto 1426, 3)]
noncomputable def xi_0_13 : XIs := [(468, .aload_n 1, 1), (469, .aload_n 0, 1), (470, .iload 4, 2), (472, .iconst 1, 1), (473, .iadd, 1), (474, .iaload, 1), (475, .aload_n 3, 1), (476, .invokestatic 166, 3), (479, .istore 5, 2), (481, .aload_n 2, 1), (482, .aload_n 0, 1), (483, .iload 4, 2), (485, .iconst 1, 1), (486, .iadd, 1), (487, .iaload, 1), (488, .invokevirtual 168, 3)]
noncomputable def xi_0_14 : XIs := [(491, .istore 6, 2), (493, .goto 1398, 3), (496, .aload_n 1, 1), (497, .invokevirtual 169, 3), (500, .pop, 1), (501, .aload_n 2, 1), (502, .invokevirtual 173, 3), (505, .pop, 1), (506, .goto 1385, 3), (509, .aload_n 1, 1), (510, .aload_n 0, 1), (511, .iload 4, 2), (513, .iconst 1, 1), (514, .iadd, 1), (515, .iaload, 1), (516, .aload_n 3, 1)]
noncomputable def xi_0_15 : XIs := [(517, .invokestatic 174, 3), (520, .istore 5, 2), (522, .aload_n 2, 1), (523, .aload_n 0, 1), (524, .iload 4, 2), (526, .iconst 1, 1), (527, .iadd, 1), (528, .iaload, 1), (529, .invokevirtual 176, 3), (532, .istore 6, 2), (534, .goto 1357, 3), (537, .aload_n 1, 1), (538, .aload_n 0, 1), (539, .iload 4, 2), (541, .iconst 1, 1), (542, .iadd, 1)]
noncomputable def xi_0_16 : XIs := [(543, .iaload, 1), (544, .aload_n 0, 1), (545, .iload 4, 2), (547, .iconst 2, 1), (548, .iadd, 1), (549, .iaload, 1), (550, .aload_n 3, 1), (551, .invokestatic 177, 3), (554, .istore 5, 2), (556, .aload_n 2, 1), (557, .aload_n 0, 1), (558, .iload 4, 2), (560, .iconst 1, 1), (561, .iadd, 1), (562, .iaload, 1), (563, .aload_n 0, 1)]
noncomputable def xi_0_17 : XIs := [(564, .iload 4, 2), (566, .iconst 2, 1), (567, .iadd, 1), (568, .iaload, 1), (569, .invokevirtual 179, 3), (572, .lstore 6, 2), (574, .goto 1317, 3), (577, .aload_n 1, 1), (578, .aload_n 0, 1), (579, .iload 4, 2), (581, .iconst 1, 1), (582, .iadd, 1), (583, .iaload, 1), (584, .aload_n 3, 1), (585, .invokestatic 180, 3), (588, .istore 5, 2)]
noncomputable def xi_0_18 : XIs := [(590, .aload_n 2, 1), (591, .aload_n 0, 1), (592, .iload 4, 2), (594, .iconst 1, 1), (595, .iadd, 1), (596, .iaload, 1), (597, .invokevirtual 182, 3), (600, .istore 6, 2), (602, .goto 1289, 3), (605, .aload_n 1, 1), (606, .aload_n 0, 1), (607, .iload 4, 2), (609, .iconst 1, 1), (610, .iadd, 1), (611, .iaload, 1), (612, .aload_n 0, 1)]
noncomputable def xi_0_19 : XIs := [(613, .iload 4, 2), (615, .iconst 2, 1), (616, .iadd, 1), (617, .iaload, 1), (618, .aload_n 0, 1), (619, .iload 4, 2), (621, .iconst 3, 1), (622, .iadd, 1), (623, .iaload, 1), (624, .aload_n 3, 1), (625, .invokestatic 183, 3), (628, .istore 5, 2), (630, .aload_n 2, 1), (631, .aload_n 0, 1), (632, .iload 4, 2), (634, .iconst 1, 1)]
noncomputable def xi_0_20 : XIs := [(635, .iadd, 1), (636, .iaload, 1), (637, .aload_n 0, 1), (638, .iload 4, 2), (640, .iconst 2, 1), (641, .iadd, 1), (642, .iaload, 1), (643, .aload_n 0, 1), (644, .iload 4, 2), (646, .iconst 3, 1), (647, .iadd, 1), (648, .iaload, 1), (649, .invokevirtual 185, 3), (652, .istore 6, 2), (654, .goto 1237, 3), (657, .aload_n 1, 1)]
noncomputable def xi_0_21 : XIs := [(658, .aload_n 0, 1), (659, .iload 4, 2), (661, .iconst 1, 1), (662, .iadd, 1), (663, .iaload, 1), (664, .aload_n 3, 1), (665, .invokestatic 186, 3), (668, .istore 5, 2), (670, .aload_n 2, 1), (671, .aload_n 0, 1), (672, .iload 4, 2), (674, .iconst 1, 1), (675, .iadd, 1), (676, .iaload, 1), (677, .invokevirtual 188, 3), (680, .istore 6, 2)]
noncomputable def xi_0_22 : XIs := [(682, .goto 1209, 3), (685, .aload_n 1, 1), (686, .invokevirtual 189, 3), (689, .pop, 1), (690, .aload_n 2, 1), (691, .invokevirtual 192, 3), (694, .pop, 1), (695, .goto 1196, 3), (698, .aload_n 1, 1), (699, .invokevirtual 193, 3), (702, .pop, 1), (703, .aload_n 2, 1), (704, .invokevirtual 196, 3), (707, .pop, 1), (708, .goto 1183, 3), (711, .aload_n 1, 1)]
noncomputable def xi_0_23 : XIs := [(712, .aload_n 0, 1), (713, .iload 4, 2), (715, .iconst 1, 1), (716, .iadd, 1), (717, .iaload, 1), (718, .aload_n 3, 1), (719, .invokestatic 197, 3), (722, .istore 5, 2), (724, .aload_n 2, 1), (725, .aload_n 0, 1), (726, .iload 4, 2), (728, .iconst 1, 1), (729, .iadd, 1), (730, .iaload, 1), (731, .invokevirtual 199, 3), (734, .istore 6, 2)]
noncomputable def xi_0_24 : XIs := [(736, .goto 1155, 3), (739, .aload_n 1, 1), (740, .invokevirtual 200, 3), (743, .pop, 1), (744, .aload_n 2, 1), (745, .invokevirtual 203, 3), (748, .pop, 1), (749, .goto 1142, 3), (752, .aload_n 1, 1), (753, .aload_n 0, 1), (754, .iload 4, 2), (756, .iconst 1, 1), (757, .iadd, 1), (758, .iaload, 1), (759, .aload_n 3, 1), (760, .invokestatic 204, 3)]
noncomputable def xi_0_25 : XIs := [(763, .istore 5, 2), (765, .aload_n 2, 1), (766, .aload_n 0, 1), (767, .iload 4, 2), (769, .iconst 1, 1), (770, .iadd, 1), (771, .iaload, 1), (772, .invokevirtual 206, 3), (775, .istore 6, 2), (777, .goto 1114, 3), (780, .aload_n 1, 1), (781, .aload_n 0, 1), (782, .iload 4, 2), (784, .iconst 1, 1), (785, .iadd, 1), (786, .iaload, 1)]
noncomputable def xi_0_26 : XIs := [(787, .aload_n 0, 1), (788, .iload 4, 2), (790, .iconst 2, 1), (791, .iadd, 1), (792, .iaload, 1), (793, .aload_n 3, 1), (794, .invokestatic 207, 3), (797, .istore 5, 2), (799, .aload_n 2, 1), (800, .aload_n 0, 1), (801, .iload 4, 2), (803, .iconst 1, 1), (804, .iadd, 1), (805, .iaload, 1), (806, .aload_n 0, 1), (807, .iload 4, 2)]
noncomputable def xi_0_27 : XIs := [(809, .iconst 2, 1), (810, .iadd, 1), (811, .iaload, 1), (812, .invokevirtual 209, 3), (815, .lstore 6, 2), (817, .goto 1074, 3), (820, .aload_n 1, 1), (821, .aload_n 0, 1), (822, .iload 4, 2), (824, .iconst 1, 1), (825, .iadd, 1), (826, .iaload, 1), (827, .aload_n 0, 1), (828, .iload 4, 2), (830, .iconst 2, 1), (831, .iadd, 1)]
noncomputable def xi_0_28 : XIs := [(832, .iaload, 1), (833, .aload_n 0, 1), (834, .iload 4, 2), (836, .iconst 3, 1), (837, .iadd, 1), (838, .iaload, 1), (839, .aload_n 3, 1), (840, .invokestatic 210, 3), (843, .istore 5, 2), (845, .aload_n 2, 1), (846, .aload_n 0, 1), (847, .iload 4, 2), (849, .iconst 1, 1), (850, .iadd, 1), (851, .iaload, 1), (852, .aload_n 0, 1)]
noncomputable def xi_0_29 : XIs := [(853, .iload 4, 2), (855, .iconst 2, 1), (856, .iadd, 1), (857, .iaload, 1), (858, .aload_n 0, 1), (859, .iload 4, 2), (861, .iconst 3, 1), (862, .iadd, 1), (863, .iaload, 1), (864, .invokevirtual 212, 3), (867, .istore 6, 2), (869, .goto 1022, 3), (872, .aload_n 1, 1), (873, .aload_n 0, 1), (874, .iload 4, 2), (876, .iconst 1, 1)]
noncomputable def xi_0_30 : XIs := [(877, .iadd, 1), (878, .iaload, 1), (879, .aload_n 0, 1), (880, .iload 4, 2), (882, .iconst 2, 1), (883, .iadd, 1), (884, .iaload, 1), (885, .aload_n 3, 1), (886, .invokestatic 213, 3), (889, .istore 5, 2), (891, .aload_n 2, 1), (892, .aload_n 0, 1), (893, .iload 4, 2), (895, .iconst 1, 1), (896, .iadd, 1), (897, .iaload, 1)]
noncomputable def xi_0_31 : XIs := [(898, .aload_n 0, 1), (899, .iload 4, 2), (901, .iconst 2, 1), (902, .iadd, 1), (903, .iaload, 1), (904, .invokevirtual 215, 3), (907, .istore 6, 2), (909, .goto 982, 3), (912, .aload_n 1, 1), (913, .aload_n 0, 1), (914, .iload 4, 2), (916, .iconst 1, 1), (917, .iadd, 1), (918, .iaload, 1), (919, .aload_n 0, 1), (920, .iload 4, 2)]
noncomputable def xi_0_32 : XIs := [(922, .iconst 2, 1), (923, .iadd, 1), (924, .iaload, 1), (925, .aload_n 3, 1), (926, .invokestatic 216, 3), (929, .istore 5, 2), (931, .aload_n 2, 1), (932, .aload_n 0, 1), (933, .iload 4, 2), (935, .iconst 1, 1), (936, .iadd, 1), (937, .iaload, 1), (938, .aload_n 0, 1), (939, .iload 4, 2), (941, .iconst 2, 1), (942, .iadd, 1)]
noncomputable def xi_0_33 : XIs := [(943, .iaload, 1), (944, .invokevirtual 218, 3), (947, .istore 6, 2), (949, .goto 942, 3), (952, .aload_n 1, 1), (953, .aload_n 0, 1), (954, .iload 4, 2), (956, .iconst 1, 1), (957, .iadd, 1), (958, .iaload, 1), (959, .aload_n 0, 1), (960, .iload 4, 2), (962, .iconst 2, 1), (963, .iadd, 1), (964, .iaload, 1), (965, .aload_n 0, 1)]
noncomputable def xi_0_34 : XIs := [(966, .iload 4, 2), (968, .iconst 3, 1), (969, .iadd, 1), (970, .iaload, 1), (971, .aload_n 0, 1), (972, .iload 4, 2), (974, .iconst 4, 1), (975, .iadd, 1), (976, .iaload, 1), (977, .aload_n 3, 1), (978, .invokestatic 219, 3), (981, .istore 5, 2), (983, .aload_n 2, 1), (984, .aload_n 0, 1), (985, .iload 4, 2), (987, .iconst 1, 1)]
noncomputable def xi_0_35 : XIs := [(988, .iadd, 1), (989, .iaload, 1), (990, .aload_n 0, 1), (991, .iload 4, 2), (993, .iconst 2, 1), (994, .iadd, 1), (995, .iaload, 1), (996, .aload_n 0, 1), (997, .iload 4, 2), (999, .iconst 3, 1), (1000, .iadd, 1), (1001, .iaload, 1), (1002, .aload_n 0, 1), (1003, .iload 4, 2), (1005, .iconst 4, 1), (1006, .iadd, 1)]
noncomputable def xi_0_36 : XIs := [(1007, .iaload, 1), (1008, .invokevirtual 222, 3), (1011, .istore 6, 2), (1013, .goto 878, 3), (1016, .aload_n 1, 1), (1017, .aload_n 0, 1), (1018, .iload 4, 2), (1020, .iconst 1, 1), (1021, .iadd, 1), (1022, .iaload, 1), (1023, .aload_n 0, 1), (1024, .iload 4, 2), (1026, .iconst 2, 1), (1027, .iadd, 1), (1028, .iaload, 1), (1029, .aload_n 3, 1)]
noncomputable def xi_0_37 : XIs := [(1030, .invokestatic 223, 3), (1033, .istore 5, 2), (1035, .aload_n 2, 1), (1036, .aload_n 0, 1), (1037, .iload 4, 2), (1039, .iconst 1, 1), (1040, .iadd, 1), (1041, .iaload, 1), (1042, .aload_n 0, 1), (1043, .iload 4, 2), (1045, .iconst 2, 1), (1046, .iadd, 1), (1047, .iaload, 1), (1048, .invokevirtual 225, 3), (1051, .istore 6, 2), (1053, .goto 838, 3)]
noncomputable def xi_0_38 : XIs := [(1056, .aload_n 1, 1), (1057, .aload_n 0, 1), (1058, .iload 4, 2), (1060, .iconst 1, 1), (1061, .iadd, 1), (1062, .iaload, 1), (1063, .aload_n 3, 1), (1064, .invokestatic 226, 3), (1067, .istore 5, 2), (1069, .aload_n 2, 1), (1070, .aload_n 0, 1), (1071, .iload 4, 2), (1073, .iconst 1, 1), (1074, .iadd, 1), (1075, .iaload, 1), (1076, .invokevirtual 228, 3)]
noncomputable def xi_0_39 : XIs := [(1079, .istore 6, 2), (1081, .aload_n 2, 1), (1082, .invokevirtual 229, 3), (1085, .iload 5, 2), (1087, .if_icmp .eq 5, 3), (1090, .iconst 0, 1), (1091, .ireturn, 1), (1092, .iload 5, 2), (1094, .ifCond .ne 22, 3), (1097, .aload_n 3, 1), (1098, .iconst 0, 1), (1099, .laload, 1), (1100, .iload 6, 2), (1102, .ifCond .eq 7, 3), (1105, .lconst 1, 1), (1106, .goto 4, 3)]
noncomputable def xi_0_40 : XIs := [(1109, .lconst 0, 1), (1110, .lcmp, 1), (1111, .ifCond .eq 5, 3), (1114, .iconst 0, 1), (1115, .ireturn, 1), (1116, .goto 775, 3), (1119, .aload_n 1, 1), (1120, .aload_n 0, 1), (1121, .iload 4, 2), (1123, .iconst 1, 1), (1124, .iadd, 1), (1125, .iaload, 1), (1126, .aload_n 3, 1), (1127, .invokestatic 232, 3), (1130, .istore 5, 2), (1132, .aload_n 2, 1)]
noncomputable def xi_0_41 : XIs := [(1133, .aload_n 0, 1), (1134, .iload 4, 2), (1136, .iconst 1, 1), (1137, .iadd, 1), (1138, .iaload, 1), (1139, .invokevirtual 234, 3), (1142, .istore 6, 2), (1144, .goto 747, 3), (1147, .aload_n 1, 1), (1148, .aload_n 0, 1), (1149, .iload 4, 2), (1151, .iconst 1, 1), (1152, .iadd, 1), (1153, .iaload, 1), (1154, .aload_n 3, 1), (1155, .invokestatic 235, 3)]
noncomputable def xi_0_42 : XIs := [(1158, .istore 5, 2), (1160, .aload_n 2, 1), (1161, .aload_n 0, 1), (1162, .iload 4, 2), (1164, .iconst 1, 1), (1165, .iadd, 1), (1166, .iaload, 1), (1167, .invokevirtual 237, 3), (1170, .istore 6, 2), (1172, .goto 719, 3), (1175, .aload_n 1, 1), (1176, .aload_n 0, 1), (1177, .iload 4, 2), (1179, .iconst 1, 1), (1180, .iadd, 1), (1181, .iaload, 1)]
noncomputable def xi_0_43 : XIs := [(1182, .aload_n 3, 1), (1183, .invokestatic 238, 3), (1186, .istore 5, 2), (1188, .aload_n 2, 1), (1189, .aload_n 0, 1), (1190, .iload 4, 2), (1192, .iconst 1, 1), (1193, .iadd, 1), (1194, .iaload, 1), (1195, .invokevirtual 240, 3), (1198, .istore 6, 2), (1200, .goto 691, 3), (1203, .aload_n 1, 1), (1204, .aload_n 0, 1), (1205, .iload 4, 2), (1207, .iconst 1, 1)]
noncomputable def xi_0_44 : XIs := [(1208, .iadd, 1), (1209, .iaload, 1), (1210, .aload_n 3, 1), (1211, .invokestatic 241, 3), (1214, .istore 5, 2), (1216, .aload_n 2, 1), (1217, .aload_n 0, 1), (1218, .iload 4, 2), (1220, .iconst 1, 1), (1221, .iadd, 1), (1222, .iaload, 1), (1223, .invokevirtual 243, 3), (1226, .istore 6, 2), (1228, .goto 663, 3), (1231, .aload_n 1, 1), (1232, .aload_n 0, 1)]
noncomputable def xi_0_45 : XIs := [(1233, .iload 4, 2), (1235, .iconst 1, 1), (1236, .iadd, 1), (1237, .iaload, 1), (1238, .aload_n 3, 1), (1239, .invokestatic 244, 3), (1242, .istore 5, 2), (1244, .aload_n 2, 1), (1245, .aload_n 0, 1), (1246, .iload 4, 2), (1248, .iconst 1, 1), (1249, .iadd, 1), (1250, .iaload, 1), (1251, .invokevirtual 246, 3), (1254, .istore 6, 2), (1256, .goto 635, 3)]
noncomputable def xi_0_46 : XIs := [(1259, .aload_n 1, 1), (1260, .aload_n 0, 1), (1261, .iload 4, 2), (1263, .iconst 1, 1), (1264, .iadd, 1), (1265, .iaload, 1), (1266, .aload_n 0, 1), (1267, .iload 4, 2), (1269, .iconst 2, 1), (1270, .iadd, 1), (1271, .iaload, 1), (1272, .aload_n 3, 1), (1273, .invokestatic 247, 3), (1276, .istore 5, 2), (1278, .aload_n 2, 1), (1279, .aload_n 0, 1)]
noncomputable def xi_0_47 : XIs := [(1280, .iload 4, 2), (1282, .iconst 1, 1), (1283, .iadd, 1), (1284, .iaload, 1), (1285, .aload_n 0, 1), (1286, .iload 4, 2), (1288, .iconst 2, 1), (1289, .iadd, 1), (1290, .iaload, 1), (1291, .invokevirtual 249, 3), (1294, .lstore 6, 2), (1296, .goto 595, 3), (1299, .aload_n 1, 1), (1300, .aload_n 0, 1), (1301, .iload 4, 2), (1303, .iconst 1, 1)]
noncomputable def xi_0_48 : XIs := [(1304, .iadd, 1), (1305, .iaload, 1), (1306, .aload_n 0, 1), (1307, .iload 4, 2), (1309, .iconst 2, 1), (1310, .iadd, 1), (1311, .iaload, 1), (1312, .aload_n 0, 1), (1313, .iload 4, 2), (1315, .iconst 3, 1), (1316, .iadd, 1), (1317, .iaload, 1), (1318, .aload_n 3, 1), (1319, .invokestatic 250, 3), (1322, .istore 5, 2), (1324, .aload_n 2, 1)]
noncomputable def xi_0_49 : XIs := [(1325, .aload_n 0, 1), (1326, .iload 4, 2), (1328, .iconst 1, 1), (1329, .iadd, 1), (1330, .iaload, 1), (1331, .aload_n 0, 1), (1332, .iload 4, 2), (1334, .iconst 2, 1), (1335, .iadd, 1), (1336, .iaload, 1), (1337, .aload_n 0, 1), (1338, .iload 4, 2), (1340, .iconst 3, 1), (1341, .iadd, 1), (1342, .iaload, 1), (1343, .invokevirtual 252, 3)]
noncomputable def xi_0_50 : XIs := [(1346, .istore 6, 2), (1348, .goto 543, 3), (1351, .aload_n 1, 1), (1352, .aload_n 0, 1), (1353, .iload 4, 2), (1355, .iconst 1, 1), (1356, .iadd, 1), (1357, .iaload, 1), (1358, .aload_n 0, 1), (1359, .iload 4, 2), (1361, .iconst 2, 1), (1362, .iadd, 1), (1363, .iaload, 1), (1364, .aload_n 0, 1), (1365, .iload 4, 2), (1367, .iconst 3, 1)]
noncomputable def xi_0_51 : XIs := [(1368, .iadd, 1), (1369, .iaload, 1), (1370, .aload_n 3, 1), (1371, .invokestatic 253, 3), (1374, .istore 5, 2), (1376, .aload_n 2, 1), (1377, .aload_n 0, 1), (1378, .iload 4, 2), (1380, .iconst 1, 1), (1381, .iadd, 1), (1382, .iaload, 1), (1383, .aload_n 0, 1), (1384, .iload 4, 2), (1386, .iconst 2, 1), (1387, .iadd, 1), (1388, .iaload, 1)]
noncomputable def xi_0_52 : XIs := [(1389, .aload_n 0, 1), (1390, .iload 4, 2), (1392, .iconst 3, 1), (1393, .iadd, 1), (1394, .iaload, 1), (1395, .invokevirtual 255, 3), (1398, .lstore 6, 2), (1400, .goto 491, 3), (1403, .aload_n 1, 1), (1404, .aload_n 0, 1), (1405, .iload 4, 2), (1407, .iconst 1, 1), (1408, .iadd, 1), (1409, .iaload, 1), (1410, .aload_n 3, 1), (1411, .invokestatic 256, 3)]
noncomputable def xi_0_53 : XIs := [(1414, .istore 5, 2), (1416, .aload_n 2, 1), (1417, .aload_n 0, 1), (1418, .iload 4, 2), (1420, .iconst 1, 1), (1421, .iadd, 1), (1422, .iaload, 1), (1423, .invokevirtual 258, 3), (1426, .lstore 6, 2), (1428, .goto 463, 3), (1431, .aload_n 1, 1), (1432, .aload_n 0, 1), (1433, .iload 4, 2), (1435, .iconst 1, 1), (1436, .iadd, 1), (1437, .iaload, 1)]
noncomputable def xi_0_54 : XIs := [(1438, .aload_n 3, 1), (1439, .invokestatic 259, 3), (1442, .istore 5, 2), (1444, .aload_n 2, 1), (1445, .aload_n 0, 1), (1446, .iload 4, 2), (1448, .iconst 1, 1), (1449, .iadd, 1), (1450, .iaload, 1), (1451, .invokevirtual 261, 3), (1454, .lstore 6, 2), (1456, .goto 435, 3), (1459, .aload_n 1, 1), (1460, .aload_n 0, 1), (1461, .iload 4, 2), (1463, .iconst 1, 1)]
noncomputable def xi_0_55 : XIs := [(1464, .iadd, 1), (1465, .iaload, 1), (1466, .aload_n 3, 1), (1467, .invokestatic 262, 3), (1470, .istore 5, 2), (1472, .aload_n 2, 1), (1473, .aload_n 0, 1), (1474, .iload 4, 2), (1476, .iconst 1, 1), (1477, .iadd, 1), (1478, .iaload, 1), (1479, .invokevirtual 264, 3), (1482, .istore 6, 2), (1484, .goto 407, 3), (1487, .aload_n 1, 1), (1488, .invokevirtual 265, 3)]
noncomputable def xi_0_56 : XIs := [(1491, .pop, 1), (1492, .aload_n 2, 1), (1493, .invokevirtual 268, 3), (1496, .pop, 1), (1497, .goto 394, 3), (1500, .aload_n 1, 1), (1501, .aload_n 0, 1), (1502, .iload 4, 2), (1504, .iconst 1, 1), (1505, .iadd, 1), (1506, .iaload, 1), (1507, .aload_n 0, 1), (1508, .iload 4, 2), (1510, .iconst 2, 1), (1511, .iadd, 1), (1512, .iaload, 1)]
noncomputable def xi_0_57 : XIs := [(1513, .aload_n 3, 1), (1514, .invokestatic 269, 3), (1517, .istore 5, 2), (1519, .aload_n 2, 1), (1520, .aload_n 0, 1), (1521, .iload 4, 2), (1523, .iconst 1, 1), (1524, .iadd, 1), (1525, .iaload, 1), (1526, .aload_n 0, 1), (1527, .iload 4, 2), (1529, .iconst 2, 1), (1530, .iadd, 1), (1531, .iaload, 1), (1532, .invokevirtual 271, 3), (1535, .lstore 6, 2)]
noncomputable def xi_0_58 : XIs := [(1537, .goto 354, 3), (1540, .aload_n 1, 1), (1541, .aload_n 0, 1), (1542, .iload 4, 2), (1544, .iconst 1, 1), (1545, .iadd, 1), (1546, .iaload, 1), (1547, .aload_n 0, 1), (1548, .iload 4, 2), (1550, .iconst 2, 1), (1551, .iadd, 1), (1552, .iaload, 1), (1553, .aload_n 0, 1), (1554, .iload 4, 2), (1556, .iconst 3, 1), (1557, .iadd, 1)]
noncomputable def xi_0_59 : XIs := [(1558, .iaload, 1), (1559, .aload_n 0, 1), (1560, .iload 4, 2), (1562, .iconst 4, 1), (1563, .iadd, 1), (1564, .iaload, 1), (1565, .aload_n 3, 1), (1566, .invokestatic 272, 3), (1569, .istore 5, 2), (1571, .aload_n 2, 1), (1572, .aload_n 0, 1), (1573, .iload 4, 2), (1575, .iconst 1, 1), (1576, .iadd, 1), (1577, .iaload, 1), (1578, .aload_n 0, 1)]
noncomputable def xi_0_60 : XIs := [(1579, .iload 4, 2), (1581, .iconst 2, 1), (1582, .iadd, 1), (1583, .iaload, 1), (1584, .aload_n 0, 1), (1585, .iload 4, 2), (1587, .iconst 3, 1), (1588, .iadd, 1), (1589, .iaload, 1), (1590, .aload_n 0, 1), (1591, .iload 4, 2), (1593, .iconst 4, 1), (1594, .iadd, 1), (1595, .iaload, 1), (1596, .invokevirtual 274, 3), (1599, .istore 6, 2)]
noncomputable def xi_0_61 : XIs := [(1601, .goto 290, 3), (1604, .aload_n 1, 1), (1605, .aload_n 0, 1), (1606, .iload 4, 2), (1608, .iconst 1, 1), (1609, .iadd, 1), (1610, .iaload, 1), (1611, .aload_n 3, 1), (1612, .invokestatic 275, 3), (1615, .istore 5, 2), (1617, .aload_n 2, 1), (1618, .aload_n 0, 1), (1619, .iload 4, 2), (1621, .iconst 1, 1), (1622, .iadd, 1), (1623, .iaload, 1)]
noncomputable def xi_0_62 : XIs := [(1624, .invokevirtual 277, 3), (1627, .istore 6, 2), (1629, .goto 262, 3), (1632, .aload_n 1, 1), (1633, .invokevirtual 278, 3), (1636, .pop2, 1), (1637, .aload_n 2, 1), (1638, .invokevirtual 282, 3), (1641, .pop2, 1), (1642, .goto 249, 3), (1645, .aload_n 1, 1), (1646, .aload_n 0, 1), (1647, .iload 4, 2), (1649, .iconst 1, 1), (1650, .iadd, 1), (1651, .iaload, 1)]
noncomputable def xi_0_63 : XIs := [(1652, .aload_n 3, 1), (1653, .invokestatic 283, 3), (1656, .istore 5, 2), (1658, .aload_n 2, 1), (1659, .aload_n 0, 1), (1660, .iload 4, 2), (1662, .iconst 1, 1), (1663, .iadd, 1), (1664, .iaload, 1), (1665, .invokevirtual 285, 3), (1668, .lstore 6, 2), (1670, .goto 221, 3), (1673, .aload_n 1, 1), (1674, .invokevirtual 286, 3), (1677, .pop, 1), (1678, .aload_n 2, 1)]
noncomputable def xi_0_64 : XIs := [(1679, .invokevirtual 289, 3), (1682, .pop, 1), (1683, .goto 208, 3), (1686, .aload_n 1, 1), (1687, .aload_n 0, 1), (1688, .iload 4, 2), (1690, .iconst 1, 1), (1691, .iadd, 1), (1692, .iaload, 1), (1693, .aload_n 0, 1), (1694, .iload 4, 2), (1696, .iconst 2, 1), (1697, .iadd, 1), (1698, .iaload, 1), (1699, .aload_n 3, 1), (1700, .invokestatic 290, 3)]
noncomputable def xi_0_65 : XIs := [(1703, .istore 5, 2), (1705, .aload_n 2, 1), (1706, .aload_n 0, 1), (1707, .iload 4, 2), (1709, .iconst 1, 1), (1710, .iadd, 1), (1711, .iaload, 1), (1712, .aload_n 0, 1), (1713, .iload 4, 2), (1715, .iconst 2, 1), (1716, .iadd, 1), (1717, .iaload, 1), (1718, .invokevirtual 292, 3), (1721, .istore 6, 2), (1723, .goto 168, 3), (1726, .aload_n 1, 1)]
noncomputable def xi_0_66 : XIs := [(1727, .invokevirtual 293, 3), (1730, .pop, 1), (1731, .aload_n 2, 1), (1732, .invokevirtual 296, 3), (1735, .pop, 1), (1736, .goto 155, 3), (1739, .aload_n 1, 1), (1740, .aload_n 0, 1), (1741, .iload 4, 2), (1743, .iconst 1, 1), (1744, .iadd, 1), (1745, .iaload, 1), (1746, .aload_n 0, 1), (1747, .iload 4, 2), (1749, .iconst 2, 1), (1750, .iadd, 1)]
noncomputable def xi_0_67 : XIs := [(1751, .iaload, 1), (1752, .aload_n 0, 1), (1753, .iload 4, 2), (1755, .iconst 3, 1), (1756, .iadd, 1), (1757, .iaload, 1), (1758, .aload_n 0, 1), (1759, .iload 4, 2), (1761, .iconst 4, 1), (1762, .iadd, 1), (1763, .iaload, 1), (1764, .i2l, 1), (1765, .bipush 32, 2), (1767, .lshl, 1), (1768, .aload_n 0, 1), (1769, .iload 4, 2)]
noncomputable def xi_0_68 : XIs := [(1771, .iconst 5, 1), (1772, .iadd, 1), (1773, .iaload, 1), (1774, .i2l, 1), (1775, .ldc2_w 297, 3), (1778, .land, 1), (1779, .lor, 1), (1780, .aload_n 3, 1), (1781, .invokestatic 299, 3), (1784, .istore 5, 2), (1786, .aload_n 2, 1), (1787, .aload_n 0, 1), (1788, .iload 4, 2), (1790, .iconst 1, 1), (1791, .iadd, 1), (1792, .iaload, 1)]
noncomputable def xi_0_69 : XIs := [(1793, .aload_n 0, 1), (1794, .iload 4, 2), (1796, .iconst 2, 1), (1797, .iadd, 1), (1798, .iaload, 1), (1799, .aload_n 0, 1), (1800, .iload 4, 2), (1802, .iconst 3, 1), (1803, .iadd, 1), (1804, .iaload, 1), (1805, .aload_n 0, 1), (1806, .iload 4, 2), (1808, .iconst 4, 1), (1809, .iadd, 1), (1810, .iaload, 1), (1811, .i2l, 1)]
noncomputable def xi_0_70 : XIs := [(1812, .bipush 32, 2), (1814, .lshl, 1), (1815, .aload_n 0, 1), (1816, .iload 4, 2), (1818, .iconst 5, 1), (1819, .iadd, 1), (1820, .iaload, 1), (1821, .i2l, 1), (1822, .ldc2_w 297, 3), (1825, .land, 1), (1826, .lor, 1), (1827, .invokevirtual 302, 3), (1830, .istore 6, 2), (1832, .goto 59, 3), (1835, .aload_n 1, 1), (1836, .aload_n 0, 1)]
noncomputable def xi_0_71 : XIs := [(1837, .iload 4, 2), (1839, .iconst 1, 1), (1840, .iadd, 1), (1841, .iaload, 1), (1842, .aload_n 3, 1), (1843, .invokestatic 303, 3), (1846, .istore 5, 2), (1848, .aload_n 2, 1), (1849, .aload_n 0, 1), (1850, .iload 4, 2), (1852, .iconst 1, 1), (1853, .iadd, 1), (1854, .iaload, 1), (1855, .invokevirtual 305, 3), (1858, .lstore 6, 2), (1860, .goto 31, 3)]
noncomputable def xi_0_72 : XIs := [(1863, .aload_n 1, 1), (1864, .aload_n 0, 1), (1865, .iload 4, 2), (1867, .iconst 1, 1), (1868, .iadd, 1), (1869, .iaload, 1), (1870, .aload_n 3, 1), (1871, .invokestatic 306, 3), (1874, .istore 5, 2), (1876, .aload_n 2, 1), (1877, .aload_n 0, 1), (1878, .iload 4, 2), (1880, .iconst 1, 1), (1881, .iadd, 1), (1882, .iaload, 1), (1883, .invokevirtual 308, 3)]
noncomputable def xi_0_73 : XIs := [(1886, .istore 6, 2), (1888, .goto 3, 3), (1891, .iinc 4 6, 3), (1894, .goto (-1871), 3), (1897, .iconst 1, 1), (1898, .ireturn, 1)]
set_option maxRecDepth 100000 in
theorem xi_w0 : xi_ok code (xi_0_0 ++ (xi_0_1 ++ (xi_0_3 ++ (xi_0_4 ++ (xi_0_5 ++ (xi_0_6 ++ (xi_0_7 ++ (xi_0_8 ++ (xi_0_9 ++ (xi_0_10 ++ (xi_0_11 ++ (xi_0_12 ++ (xi_0_13 ++ (xi_0_14 ++ (xi_0_15 ++ (xi_0_16 ++ (xi_0_17 ++ (xi_0_18 ++ (xi_0_19 ++ (xi_0_20 ++ (xi_0_21 ++ (xi_0_22 ++ (xi_0_23 ++ (xi_0_24 ++ (xi_0_25 ++ (xi_0_26 ++ (xi_0_27 ++ (xi_0_28 ++ (xi_0_29 ++ (xi_0_30 ++ (xi_0_31 ++ (xi_0_32 ++ (xi_0_33 ++ (xi_0_34 ++ (xi_0_35 ++ (xi_0_36 ++ (xi_0_37 ++ (xi_0_38 ++ (xi_0_39 ++ (xi_0_40 ++ (xi_0_41 ++ (xi_0_42 ++ (xi_0_43 ++ (xi_0_44 ++ (xi_0_45 ++ (xi_0_46 ++ (xi_0_47 ++ (xi_0_48 ++ (xi_0_49 ++ (xi_0_50 ++ (xi_0_51 ++ (xi_0_52 ++ (xi_0_53 ++ (xi_0_54 ++ (xi_0_55 ++ (xi_0_56 ++ (xi_0_57 ++ (xi_0_58 ++ (xi_0_59 ++ (xi_0_60 ++ (xi_0_61 ++ (xi_0_62 ++ (xi_0_63 ++ (xi_0_64 ++ (xi_0_65 ++ (xi_0_66 ++ (xi_0_67 ++ (xi_0_68 ++ (xi_0_69 ++ (xi_0_70 ++ (xi_0_71 ++ (xi_0_72 ++ (xi_0_73))))))))))))))))))))))))))))))))))))))))))))))))))))))))))))))))))))))))) = true := dl_all _ _ (by decide +kernel)
theorem xi_ok0_0 : xi_ok code xi_0_0 = true := (xi_ap xi_w0).1
theorem xi_r0_1 : xi_ok code (xi_0_1 ++ (xi_0_3 ++ (xi_0_4 ++ (xi_0_5 ++ (xi_0_6 ++ (xi_0_7 ++ (xi_0_8 ++ (xi_0_9 ++ (xi_0_10 ++ (xi_0_11 ++ (xi_0_12 ++ (xi_0_13 ++ (xi_0_14 ++ (xi_0_15 ++ (xi_0_16 ++ (xi_0_17 ++ (xi_0_18 ++ (xi_0_19 ++ (xi_0_20 ++ (xi_0_21 ++ (xi_0_22 ++ (xi_0_23 ++ (xi_0_24 ++ (xi_0_25 ++ (xi_0_26 ++ (xi_0_27 ++ (xi_0_28 ++ (xi_0_29 ++ (xi_0_30 ++ (xi_0_31 ++ (xi_0_32 ++ (xi_0_33 ++ (xi_0_34 ++ (xi_0_35 ++ (xi_0_36 ++ (xi_0_37 ++ (xi_0_38 ++ (xi_0_39 ++ (xi_0_40 ++ (xi_0_41 ++ (xi_0_42 ++ (xi_0_43 ++ (xi_0_44 ++ (xi_0_45 ++ (xi_0_46 ++ (xi_0_47 ++ (xi_0_48 ++ (xi_0_49 ++ (xi_0_50 ++ (xi_0_51 ++ (xi_0_52 ++ (xi_0_53 ++ (xi_0_54 ++ (xi_0_55 ++ (xi_0_56 ++ (xi_0_57 ++ (xi_0_58 ++ (xi_0_59 ++ (xi_0_60 ++ (xi_0_61 ++ (xi_0_62 ++ (xi_0_63 ++ (xi_0_64 ++ (xi_0_65 ++ (xi_0_66 ++ (xi_0_67 ++ (xi_0_68 ++ (xi_0_69 ++ (xi_0_70 ++ (xi_0_71 ++ (xi_0_72 ++ (xi_0_73)))))))))))))))))))))))))))))))))))))))))))))))))))))))))))))))))))))))) = true := (xi_ap xi_w0).2
theorem xi_ok0_1 : xi_ok code xi_0_1 = true := (xi_ap xi_r0_1).1
theorem xi_r0_2 : xi_ok code (xi_0_3 ++ (xi_0_4 ++ (xi_0_5 ++ (xi_0_6 ++ (xi_0_7 ++ (xi_0_8 ++ (xi_0_9 ++ (xi_0_10 ++ (xi_0_11 ++ (xi_0_12 ++ (xi_0_13 ++ (xi_0_14 ++ (xi_0_15 ++ (xi_0_16 ++ (xi_0_17 ++ (xi_0_18 ++ (xi_0_19 ++ (xi_0_20 ++ (xi_0_21 ++ (xi_0_22 ++ (xi_0_23 ++ (xi_0_24 ++ (xi_0_25 ++ (xi_0_26 ++ (xi_0_27 ++ (xi_0_28 ++ (xi_0_29 ++ (xi_0_30 ++ (xi_0_31 ++ (xi_0_32 ++ (xi_0_33 ++ (xi_0_34 ++ (xi_0_35 ++ (xi_0_36 ++ (xi_0_37 ++ (xi_0_38 ++ (xi_0_39 ++ (xi_0_40 ++ (xi_0_41 ++ (xi_0_42 ++ (xi_0_43 ++ (xi_0_44 ++ (xi_0_45 ++ (xi_0_46 ++ (xi_0_47 ++ (xi_0_48 ++ (xi_0_49 ++ (xi_0_50 ++ (xi_0_51 ++ (xi_0_52 ++ (xi_0_53 ++ (xi_0_54 ++ (xi_0_55 ++ (xi_0_56 ++ (xi_0_57 ++ (xi_0_58 ++ (xi_0_59 ++ (xi_0_60 ++ (xi_0_61 ++ (xi_0_62 ++ (xi_0_63 ++ (xi_0_64 ++ (xi_0_65 ++ (xi_0_66 ++ (xi_0_67 ++ (xi_0_68 ++ (xi_0_69 ++ (xi_0_70 ++ (xi_0_71 ++ (xi_0_72 ++ (xi_0_73))))))))))))))))))))))))))))))))))))))))))))))))))))))))))))))))))))))) = true := (xi_ap xi_r0_1).2
theorem xi_ok0_3 : xi_ok code xi_0_3 = true := (xi_ap xi_r0_2).1
theorem xi_r0_3 : xi_ok code (xi_0_4 ++ (xi_0_5 ++ (xi_0_6 ++ (xi_0_7 ++ (xi_0_8 ++ (xi_0_9 ++ (xi_0_10 ++ (xi_0_11 ++ (xi_0_12 ++ (xi_0_13 ++ (xi_0_14 ++ (xi_0_15 ++ (xi_0_16 ++ (xi_0_17 ++ (xi_0_18 ++ (xi_0_19 ++ (xi_0_20 ++ (xi_0_21 ++ (xi_0_22 ++ (xi_0_23 ++ (xi_0_24 ++ (xi_0_25 ++ (xi_0_26 ++ (xi_0_27 ++ (xi_0_28 ++ (xi_0_29 ++ (xi_0_30 ++ (xi_0_31 ++ (xi_0_32 ++ (xi_0_33 ++ (xi_0_34 ++ (xi_0_35 ++ (xi_0_36 ++ (xi_0_37 ++ (xi_0_38 ++ (xi_0_39 ++ (xi_0_40 ++ (xi_0_41 ++ (xi_0_42 ++ (xi_0_43 ++ (xi_0_44 ++ (xi_0_45 ++ (xi_0_46 ++ (xi_0_47 ++ (xi_0_48 ++ (xi_0_49 ++ (xi_0_50 ++ (xi_0_51 ++ (xi_0_52 ++ (xi_0_53 ++ (xi_0_54 ++ (xi_0_55 ++ (xi_0_56 ++ (xi_0_57 ++ (xi_0_58 ++ (xi_0_59 ++ (xi_0_60 ++ (xi_0_61 ++ (xi_0_62 ++ (xi_0_63 ++ (xi_0_64 ++ (xi_0_65 ++ (xi_0_66 ++ (xi_0_67 ++ (xi_0_68 ++ (xi_0_69 ++ (xi_0_70 ++ (xi_0_71 ++ (xi_0_72 ++ (xi_0_73)))))))))))))))))))))))))))))))))))))))))))))))))))))))))))))))))))))) = true := (xi_ap xi_r0_2).2
theorem xi_ok0_4 : xi_ok code xi_0_4 = true := (xi_ap xi_r0_3).1
theorem xi_r0_4 : xi_ok code (xi_0_5 ++ (xi_0_6 ++ (xi_0_7 ++ (xi_0_8 ++ (xi_0_9 ++ (xi_0_10 ++ (xi_0_11 ++ (xi_0_12 ++ (xi_0_13 ++ (xi_0_14 ++ (xi_0_15 ++ (xi_0_16 ++ (xi_0_17 ++ (xi_0_18 ++ (xi_0_19 ++ (xi_0_20 ++ (xi_0_21 ++ (xi_0_22 ++ (xi_0_23 ++ (xi_0_24 ++ (xi_0_25 ++ (xi_0_26 ++ (xi_0_27 ++ (xi_0_28 ++ (xi_0_29 ++ (xi_0_30 ++ (xi_0_31 ++ (xi_0_32 ++ (xi_0_33 ++ (xi_0_34 ++ (xi_0_35 ++ (xi_0_36 ++ (xi_0_37 ++ (xi_0_38 ++ (xi_0_39 ++ (xi_0_40 ++ (xi_0_41 ++ (xi_0_42 ++ (xi_0_43 ++ (xi_0_44 ++ (xi_0_45 ++ (xi_0_46 ++ (xi_0_47 ++ (xi_0_48 ++ (xi_0_49 ++ (xi_0_50 ++ (xi_0_51 ++ (xi_0_52 ++ (xi_0_53 ++ (xi_0_54 ++ (xi_0_55 ++ (xi_0_56 ++ (xi_0_57 ++ (xi_0_58 ++ (xi_0_59 ++ (xi_0_60 ++ (xi_0_61 ++ (xi_0_62 ++ (xi_0_63 ++ (xi_0_64 ++ (xi_0_65 ++ (xi_0_66 ++ (xi_0_67 ++ (xi_0_68 ++ (xi_0_69 ++ (xi_0_70 ++ (xi_0_71 ++ (xi_0_72 ++ (xi_0_73))))))))))))))))))))))))))))))))))))))))))))))))))))))))))))))))))))) = true := (xi_ap xi_r0_3).2
theorem xi_ok0_5 : xi_ok code xi_0_5 = true := (xi_ap xi_r0_4).1
theorem xi_r0_5 : xi_ok code (xi_0_6 ++ (xi_0_7 ++ (xi_0_8 ++ (xi_0_9 ++ (xi_0_10 ++ (xi_0_11 ++ (xi_0_12 ++ (xi_0_13 ++ (xi_0_14 ++ (xi_0_15 ++ (xi_0_16 ++ (xi_0_17 ++ (xi_0_18 ++ (xi_0_19 ++ (xi_0_20 ++ (xi_0_21 ++ (xi_0_22 ++ (xi_0_23 ++ (xi_0_24 ++ (xi_0_25 ++ (xi_0_26 ++ (xi_0_27 ++ (xi_0_28 ++ (xi_0_29 ++ (xi_0_30 ++ (xi_0_31 ++ (xi_0_32 ++ (xi_0_33 ++ (xi_0_34 ++ (xi_0_35 ++ (xi_0_36 ++ (xi_0_37 ++ (xi_0_38 ++ (xi_0_39 ++ (xi_0_40 ++ (xi_0_41 ++ (xi_0_42 ++ (xi_0_43 ++ (xi_0_44 ++ (xi_0_45 ++ (xi_0_46 ++ (xi_0_47 ++ (xi_0_48 ++ (xi_0_49 ++ (xi_0_50 ++ (xi_0_51 ++ (xi_0_52 ++ (xi_0_53 ++ (xi_0_54 ++ (xi_0_55 ++ (xi_0_56 ++ (xi_0_57 ++ (xi_0_58 ++ (xi_0_59 ++ (xi_0_60 ++ (xi_0_61 ++ (xi_0_62 ++ (xi_0_63 ++ (xi_0_64 ++ (xi_0_65 ++ (xi_0_66 ++ (xi_0_67 ++ (xi_0_68 ++ (xi_0_69 ++ (xi_0_70 ++ (xi_0_71 ++ (xi_0_72 ++ (xi_0_73)))))))))))))))))))))))))))))))))))))))))))))))))))))))))))))))))))) = true := (xi_ap xi_r0_4).2
theorem xi_ok0_6 : xi_ok code xi_0_6 = true := (xi_ap xi_r0_5).1
theorem xi_r0_6 : xi_ok code (xi_0_7 ++ (xi_0_8 ++ (xi_0_9 ++ (xi_0_10 ++ (xi_0_11 ++ (xi_0_12 ++ (xi_0_13 ++ (xi_0_14 ++ (xi_0_15 ++ (xi_0_16 ++ (xi_0_17 ++ (xi_0_18 ++ (xi_0_19 ++ (xi_0_20 ++ (xi_0_21 ++ (xi_0_22 ++ (xi_0_23 ++ (xi_0_24 ++ (xi_0_25 ++ (xi_0_26 ++ (xi_0_27 ++ (xi_0_28 ++ (xi_0_29 ++ (xi_0_30 ++ (xi_0_31 ++ (xi_0_32 ++ (xi_0_33 ++ (xi_0_34 ++ (xi_0_35 ++ (xi_0_36 ++ (xi_0_37 ++ (xi_0_38 ++ (xi_0_39 ++ (xi_0_40 ++ (xi_0_41 ++ (xi_0_42 ++ (xi_0_43 ++ (xi_0_44 ++ (xi_0_45 ++ (xi_0_46 ++ (xi_0_47 ++ (xi_0_48 ++ (xi_0_49 ++ (xi_0_50 ++ (xi_0_51 ++ (xi_0_52 ++ (xi_0_53 ++ (xi_0_54 ++ (xi_0_55 ++ (xi_0_56 ++ (xi_0_57 ++ (xi_0_58 ++ (xi_0_59 ++ (xi_0_60 ++ (xi_0_61 ++ (xi_0_62 ++ (xi_0_63 ++ (xi_0_64 ++ (xi_0_65 ++ (xi_0_66 ++ (xi_0_67 ++ (xi_0_68 ++ (xi_0_69 ++ (xi_0_70 ++ (xi_0_71 ++ (xi_0_72 ++ (xi_0_73))))))))))))))))))))))))))))))))))))))))))))))))))))))))))))))))))) = true := (xi_ap xi_r0_5).2
theorem xi_ok0_7 : xi_ok code xi_0_7 = true := (xi_ap xi_r0_6).1
theorem xi_r0_7 : xi_ok code (xi_0_8 ++ (xi_0_9 ++ (xi_0_10 ++ (xi_0_11 ++ (xi_0_12 ++ (xi_0_13 ++ (xi_0_14 ++ (xi_0_15 ++ (xi_0_16 ++ (xi_0_17 ++ (xi_0_18 ++ (xi_0_19 ++ (xi_0_20 ++ (xi_0_21 ++ (xi_0_22 ++ (xi_0_23 ++ (xi_0_24 ++ (xi_0_25 ++ (xi_0_26 ++ (xi_0_27 ++ (xi_0_28 ++ (xi_0_29 ++ (xi_0_30 ++ (xi_0_31 ++ (xi_0_32 ++ (xi_0_33 ++ (xi_0_34 ++ (xi_0_35 ++ (xi_0_36 ++ (xi_0_37 ++ (xi_0_38 ++ (xi_0_39 ++ (xi_0_40 ++ (xi_0_41 ++ (xi_0_42 ++ (xi_0_43 ++ (xi_0_44 ++ (xi_0_45 ++ (xi_0_46 ++ (xi_0_47 ++ (xi_0_48 ++ (xi_0_49 ++ (xi_0_50 ++ (xi_0_51 ++ (xi_0_52 ++ (xi_0_53 ++ (xi_0_54 ++ (xi_0_55 ++ (xi_0_56 ++ (xi_0_57 ++ (xi_0_58 ++ (xi_0_59 ++ (xi_0_60 ++ (xi_0_61 ++ (xi_0_62 ++ (xi_0_63 ++ (xi_0_64 ++ (xi_0_65 ++ (xi_0_66 ++ (xi_0_67 ++ (xi_0_68 ++ (xi_0_69 ++ (xi_0_70 ++ (xi_0_71 ++ (xi_0_72 ++ (xi_0_73)))))))))))))))))))))))))))))))))))))))))))))))))))))))))))))))))) = true := (xi_ap xi_r0_6).2
theorem xi_ok0_8 : xi_ok code xi_0_8 = true := (xi_ap xi_r0_7).1
theorem xi_r0_8 : xi_ok code (xi_0_9 ++ (xi_0_10 ++ (xi_0_11 ++ (xi_0_12 ++ (xi_0_13 ++ (xi_0_14 ++ (xi_0_15 ++ (xi_0_16 ++ (xi_0_17 ++ (xi_0_18 ++ (xi_0_19 ++ (xi_0_20 ++ (xi_0_21 ++ (xi_0_22 ++ (xi_0_23 ++ (xi_0_24 ++ (xi_0_25 ++ (xi_0_26 ++ (xi_0_27 ++ (xi_0_28 ++ (xi_0_29 ++ (xi_0_30 ++ (xi_0_31 ++ (xi_0_32 ++ (xi_0_33 ++ (xi_0_34 ++ (xi_0_35 ++ (xi_0_36 ++ (xi_0_37 ++ (xi_0_38 ++ (xi_0_39 ++ (xi_0_40 ++ (xi_0_41 ++ (xi_0_42 ++ (xi_0_43 ++ (xi_0_44 ++ (xi_0_45 ++ (xi_0_46 ++ (xi_0_47 ++ (xi_0_48 ++ (xi_0_49 ++ (xi_0_50 ++ (xi_0_51 ++ (xi_0_52 ++ (xi_0_53 ++ (xi_0_54 ++ (xi_0_55 ++ (xi_0_56 ++ (xi_0_57 ++ (xi_0_58 ++ (xi_0_59 ++ (xi_0_60 ++ (xi_0_61 ++ (xi_0_62 ++ (xi_0_63 ++ (xi_0_64 ++ (xi_0_65 ++ (xi_0_66 ++ (xi_0_67 ++ (xi_0_68 ++ (xi_0_69 ++ (xi_0_70 ++ (xi_0_71 ++ (xi_0_72 ++ (xi_0_73))))))))))))))))))))))))))))))))))))))))))))))))))))))))))))))))) = true := (xi_ap xi_r0_7).2
theorem xi_ok0_9 : xi_ok code xi_0_9 = true := (xi_ap xi_r0_8).1
theorem xi_r0_9 : xi_ok code (xi_0_10 ++ (xi_0_11 ++ (xi_0_12 ++ (xi_0_13 ++ (xi_0_14 ++ (xi_0_15 ++ (xi_0_16 ++ (xi_0_17 ++ (xi_0_18 ++ (xi_0_19 ++ (xi_0_20 ++ (xi_0_21 ++ (xi_0_22 ++ (xi_0_23 ++ (xi_0_24 ++ (xi_0_25 ++ (xi_0_26 ++ (xi_0_27 ++ (xi_0_28 ++ (xi_0_29 ++ (xi_0_30 ++ (xi_0_31 ++ (xi_0_32 ++ (xi_0_33 ++ (xi_0_34 ++ (xi_0_35 ++ (xi_0_36 ++ (xi_0_37 ++ (xi_0_38 ++ (xi_0_39 ++ (xi_0_40 ++ (xi_0_41 ++ (xi_0_42 ++ (xi_0_43 ++ (xi_0_44 ++ (xi_0_45 ++ (xi_0_46 ++ (xi_0_47 ++ (xi_0_48 ++ (xi_0_49 ++ (xi_0_50 ++ (xi_0_51 ++ (xi_0_52 ++ (xi_0_53 ++ (xi_0_54 ++ (xi_0_55 ++ (xi_0_56 ++ (xi_0_57 ++ (xi_0_58 ++ (xi_0_59 ++ (xi_0_60 ++ (xi_0_61 ++ (xi_0_62 ++ (xi_0_63 ++ (xi_0_64 ++ (xi_0_65 ++ (xi_0_66 ++ (xi_0_67 ++ (xi_0_68 ++ (xi_0_69 ++ (xi_0_70 ++ (xi_0_71 ++ (xi_0_72 ++ (xi_0_73)))))))))))))))))))))))))))))))))))))))))))))))))))))))))))))))) = true := (xi_ap xi_r0_8).2
theorem xi_ok0_10 : xi_ok code xi_0_10 = true := (xi_ap xi_r0_9).1
theorem xi_r0_10 : xi_ok code (xi_0_11 ++ (xi_0_12 ++ (xi_0_13 ++ (xi_0_14 ++ (xi_0_15 ++ (xi_0_16 ++ (xi_0_17 ++ (xi_0_18 ++ (xi_0_19 ++ (xi_0_20 ++ (xi_0_21 ++ (xi_0_22 ++ (xi_0_23 ++ (xi_0_24 ++ (xi_0_25 ++ (xi_0_26 ++ (xi_0_27 ++ (xi_0_28 ++ (xi_0_29 ++ (xi_0_30 ++ (xi_0_31 ++ (xi_0_32 ++ (xi_0_33 ++ (xi_0_34 ++ (xi_0_35 ++ (xi_0_36 ++ (xi_0_37 ++ (xi_0_38 ++ (xi_0_39 ++ (xi_0_40 ++ (xi_0_41 ++ (xi_0_42 ++ (xi_0_43 ++ (xi_0_44 ++ (xi_0_45 ++ (xi_0_46 ++ (xi_0_47 ++ (xi_0_48 ++ (xi_0_49 ++ (xi_0_50 ++ (xi_0_51 ++ (xi_0_52 ++ (xi_0_53 ++ (xi_0_54 ++ (xi_0_55 ++ (xi_0_56 ++ (xi_0_57 ++ (xi_0_58 ++ (xi_0_59 ++ (xi_0_60 ++ (xi_0_61 ++ (xi_0_62 ++ (xi_0_63 ++ (xi_0_64 ++ (xi_0_65 ++ (xi_0_66 ++ (xi_0_67 ++ (xi_0_68 ++ (xi_0_69 ++ (xi_0_70 ++ (xi_0_71 ++ (xi_0_72 ++ (xi_0_73))))))))))))))))))))))))))))))))))))))))))))))))))))))))))))))) = true := (xi_ap xi_r0_9).2
theorem xi_ok0_11 : xi_ok code xi_0_11 = true := (xi_ap xi_r0_10).1
theorem xi_r0_11 : xi_ok code (xi_0_12 ++ (xi_0_13 ++ (xi_0_14 ++ (xi_0_15 ++ (xi_0_16 ++ (xi_0_17 ++ (xi_0_18 ++ (xi_0_19 ++ (xi_0_20 ++ (xi_0_21 ++ (xi_0_22 ++ (xi_0_23 ++ (xi_0_24 ++ (xi_0_25 ++ (xi_0_26 ++ (xi_0_27 ++ (xi_0_28 ++ (xi_0_29 ++ (xi_0_30 ++ (xi_0_31 ++ (xi_0_32 ++ (xi_0_33 ++ (xi_0_34 ++ (xi_0_35 ++ (xi_0_36 ++ (xi_0_37 ++ (xi_0_38 ++ (xi_0_39 ++ (xi_0_40 ++ (xi_0_41 ++ (xi_0_42 ++ (xi_0_43 ++ (xi_0_44 ++ (xi_0_45 ++ (xi_0_46 ++ (xi_0_47 ++ (xi_0_48 ++ (xi_0_49 ++ (xi_0_50 ++ (xi_0_51 ++ (xi_0_52 ++ (xi_0_53 ++ (xi_0_54 ++ (xi_0_55 ++ (xi_0_56 ++ (xi_0_57 ++ (xi_0_58 ++ (xi_0_59 ++ (xi_0_60 ++ (xi_0_61 ++ (xi_0_62 ++ (xi_0_63 ++ (xi_0_64 ++ (xi_0_65 ++ (xi_0_66 ++ (xi_0_67 ++ (xi_0_68 ++ (xi_0_69 ++ (xi_0_70 ++ (xi_0_71 ++ (xi_0_72 ++ (xi_0_73)))))))))))))))))))))))))))))))))))))))))))))))))))))))))))))) = true := (xi_ap xi_r0_10).2
theorem xi_ok0_12 : xi_ok code xi_0_12 = true := (xi_ap xi_r0_11).1
theorem xi_r0_12 : xi_ok code (xi_0_13 ++ (xi_0_14 ++ (xi_0_15 ++ (xi_0_16 ++ (xi_0_17 ++ (xi_0_18 ++ (xi_0_19 ++ (xi_0_20 ++ (xi_0_21 ++ (xi_0_22 ++ (xi_0_23 ++ (xi_0_24 ++ (xi_0_25 ++ (xi_0_26 ++ (xi_0_27 ++ (xi_0_28 ++ (xi_0_29 ++ (xi_0_30 ++ (xi_0_31 ++ (xi_0_32 ++ (xi_0_33 ++ (xi_0_34 ++ (xi_0_35 ++ (xi_0_36 ++ (xi_0_37 ++ (xi_0_38 ++ (xi_0_39 ++ (xi_0_40 ++ (xi_0_41 ++ (xi_0_42 ++ (xi_0_43 ++ (xi_0_44 ++ (xi_0_45 ++ (xi_0_46 ++ (xi_0_47 ++ (xi_0_48 ++ (xi_0_49 ++ (xi_0_50 ++ (xi_0_51 ++ (xi_0_52 ++ (xi_0_53 ++ (xi_0_54 ++ (xi_0_55 ++ (xi_0_56 ++ (xi_0_57 ++ (xi_0_58 ++ (xi_0_59 ++ (xi_0_60 ++ (xi_0_61 ++ (xi_0_62 ++ (xi_0_63 ++ (xi_0_64 ++ (xi_0_65 ++ (xi_0_66 ++ (xi_0_67 ++ (xi_0_68 ++ (xi_0_69 ++ (xi_0_70 ++ (xi_0_71 ++ (xi_0_72 ++ (xi_0_73))))))))))))))))))))))))))))))))))))))))))))))))))))))))))))) = true := (xi_ap xi_r0_11).2
theorem xi_ok0_13 : xi_ok code xi_0_13 = true := (xi_ap xi_r0_12).1
theorem xi_r0_13 : xi_ok code (xi_0_14 ++ (xi_0_15 ++ (xi_0_16 ++ (xi_0_17 ++ (xi_0_18 ++ (xi_0_19 ++ (xi_0_20 ++ (xi_0_21 ++ (xi_0_22 ++ (xi_0_23 ++ (xi_0_24 ++ (xi_0_25 ++ (xi_0_26 ++ (xi_0_27 ++ (xi_0_28 ++ (xi_0_29 ++ (xi_0_30 ++ (xi_0_31 ++ (xi_0_32 ++ (xi_0_33 ++ (xi_0_34 ++ (xi_0_35 ++ (xi_0_36 ++ (xi_0_37 ++ (xi_0_38 ++ (xi_0_39 ++ (xi_0_40 ++ (xi_0_41 ++ (xi_0_42 ++ (xi_0_43 ++ (xi_0_44 ++ (xi_0_45 ++ (xi_0_46 ++ (xi_0_47 ++ (xi_0_48 ++ (xi_0_49 ++ (xi_0_50 ++ (xi_0_51 ++ (xi_0_52 ++ (xi_0_53 ++ (xi_0_54 ++ (xi_0_55 ++ (xi_0_56 ++ (xi_0_57 ++ (xi_0_58 ++ (xi_0_59 ++ (xi_0_60 ++ (xi_0_61 ++ (xi_0_62 ++ (xi_0_63 ++ (xi_0_64 ++ (xi_0_65 ++ (xi_0_66 ++ (xi_0_67 ++ (xi_0_68 ++ (xi_0_69 ++ (xi_0_70 ++ (xi_0_71 ++ (xi_0_72 ++ (xi_0_73)))))))))))))))))))))))))))))))))))))))))))))))))))))))))))) = true := (xi_ap xi_r0_12).2
theorem xi_ok0_14 : xi_ok code xi_0_14 = true := (xi_ap xi_r0_13).1
theorem xi_r0_14 : xi_ok code (xi_0_15 ++ (xi_0_16 ++ (xi_0_17 ++ (xi_0_18 ++ (xi_0_19 ++ (xi_0_20 ++ (xi_0_21 ++ (xi_0_22 ++ (xi_0_23 ++ (xi_0_24 ++ (xi_0_25 ++ (xi_0_26 ++ (xi_0_27 ++ (xi_0_28 ++ (xi_0_29 ++ (xi_0_30 ++ (xi_0_31 ++ (xi_0_32 ++ (xi_0_33 ++ (xi_0_34 ++ (xi_0_35 ++ (xi_0_36 ++ (xi_0_37 ++ (xi_0_38 ++ (xi_0_39 ++ (xi_0_40 ++ (xi_0_41 ++ (xi_0_42 ++ (xi_0_43 ++ (xi_0_44 ++ (xi_0_45 ++ (xi_0_46 ++ (xi_0_47 ++ (xi_0_48 ++ (xi_0_49 ++ (xi_0_50 ++ (xi_0_51 ++ (xi_0_52 ++ (xi_0_53 ++ (xi_0_54 ++ (xi_0_55 ++ (xi_0_56 ++ (xi_0_57 ++ (xi_0_58 ++ (xi_0_59 ++ (xi_0_60 ++ (xi_0_61 ++ (xi_0_62 ++ (xi_0_63 ++ (xi_0_64 ++ (xi_0_65 ++ (xi_0_66 ++ (xi_0_67 ++ (xi_0_68 ++ (xi_0_69 ++ (xi_0_70 ++ (xi_0_71 ++ (xi_0_72 ++ (xi_0_73))))))))))))))))))))))))))))))))))))))))))))))))))))))))))) = true := (xi_ap xi_r0_13).2
theorem xi_ok0_15 : xi_ok code xi_0_15 = true := (xi_ap xi_r0_14).1
theorem xi_r0_15 : xi_ok code (xi_0_16 ++ (xi_0_17 ++ (xi_0_18 ++ (xi_0_19 ++ (xi_0_20 ++ (xi_0_21 ++ (xi_0_22 ++ (xi_0_23 ++ (xi_0_24 ++ (xi_0_25 ++ (xi_0_26 ++ (xi_0_27 ++ (xi_0_28 ++ (xi_0_29 ++ (xi_0_30 ++ (xi_0_31 ++ (xi_0_32 ++ (xi_0_33 ++ (xi_0_34 ++ (xi_0_35 ++ (xi_0_36 ++ (xi_0_37 ++ (xi_0_38 ++ (xi_0_39 ++ (xi_0_40 ++ (xi_0_41 ++ (xi_0_42 ++ (xi_0_43 ++ (xi_0_44 ++ (xi_0_45 ++ (xi_0_46 ++ (xi_0_47 ++ (xi_0_48 ++ (xi_0_49 ++ (xi_0_50 ++ (xi_0_51 ++ (xi_0_52 ++ (xi_0_53 ++ (xi_0_54 ++ (xi_0_55 ++ (xi_0_56 ++ (xi_0_57 ++ (xi_0_58 ++ (xi_0_59 ++ (xi_0_60 ++ (xi_0_61 ++ (xi_0_62 ++ (xi_0_63 ++ (xi_0_64 ++ (xi_0_65 ++ (xi_0_66 ++ (xi_0_67 ++ (xi_0_68 ++ (xi_0_69 ++ (xi_0_70 ++ (xi_0_71 ++ (xi_0_72 ++ (xi_0_73)))))))))))))))))))))))))))))))))))))))))))))))))))))))))) = true := (xi_ap xi_r0_14).2
theorem xi_ok0_16 : xi_ok code xi_0_16 = true := (xi_ap xi_r0_15).1
theorem xi_r0_16 : xi_ok code (xi_0_17 ++ (xi_0_18 ++ (xi_0_19 ++ (xi_0_20 ++ (xi_0_21 ++ (xi_0_22 ++ (xi_0_23 ++ (xi_0_24 ++ (xi_0_25 ++ (xi_0_26 ++ (xi_0_27 ++ (xi_0_28 ++ (xi_0_29 ++ (xi_0_30 ++ (xi_0_31 ++ (xi_0_32 ++ (xi_0_33 ++ (xi_0_34 ++ (xi_0_35 ++ (xi_0_36 ++ (xi_0_37 ++ (xi_0_38 ++ (xi_0_39 ++ (xi_0_40 ++ (xi_0_41 ++ (xi_0_42 ++ (xi_0_43 ++ (xi_0_44 ++ (xi_0_45 ++ (xi_0_46 ++ (xi_0_47 ++ (xi_0_48 ++ (xi_0_49 ++ (xi_0_50 ++ (xi_0_51 ++ (xi_0_52 ++ (xi_0_53 ++ (xi_0_54 ++ (xi_0_55 ++ (xi_0_56 ++ (xi_0_57 ++ (xi_0_58 ++ (xi_0_59 ++ (xi_0_60 ++ (xi_0_61 ++ (xi_0_62 ++ (xi_0_63 ++ (xi_0_64 ++ (xi_0_65 ++ (xi_0_66 ++ (xi_0_67 ++ (xi_0_68 ++ (xi_0_69 ++ (xi_0_70 ++ (xi_0_71 ++ (xi_0_72 ++ (xi_0_73))))))))))))))))))))))))))))))))))))))))))))))))))))))))) = true := (xi_ap xi_r0_15).2
theorem xi_ok0_17 : xi_ok code xi_0_17 = true := (xi_ap xi_r0_16).1
theorem xi_r0_17 : xi_ok code (xi_0_18 ++ (xi_0_19 ++ (xi_0_20 ++ (xi_0_21 ++ (xi_0_22 ++ (xi_0_23 ++ (xi_0_24 ++ (xi_0_25 ++ (xi_0_26 ++ (xi_0_27 ++ (xi_0_28 ++ (xi_0_29 ++ (xi_0_30 ++ (xi_0_31 ++ (xi_0_32 ++ (xi_0_33 ++ (xi_0_34 ++ (xi_0_35 ++ (xi_0_36 ++ (xi_0_37 ++ (xi_0_38 ++ (xi_0_39 ++ (xi_0_40 ++ (xi_0_41 ++ (xi_0_42 ++ (xi_0_43 ++ (xi_0_44 ++ (xi_0_45 ++ (xi_0_46 ++ (xi_0_47 ++ (xi_0_48 ++ (xi_0_49 ++ (xi_0_50 ++ (xi_0_51 ++ (xi_0_52 ++ (xi_0_53 ++ (xi_0_54 ++ (xi_0_55 ++ (xi_0_56 ++ (xi_0_57 ++ (xi_0_58 ++ (xi_0_59 ++ (xi_0_60 ++ (xi_0_61 ++ (xi_0_62 ++ (xi_0_63 ++ (xi_0_64 ++ (xi_0_65 ++ (xi_0_66 ++ (xi_0_67 ++ (xi_0_68 ++ (xi_0_69 ++ (xi_0_70 ++ (xi_0_71 ++ (xi_0_72 ++ (xi_0_73)))))))))))))))))))))))))))))))))))))))))))))))))))))))) = true := (xi_ap xi_r0_16).2
theorem xi_ok0_18 : xi_ok code xi_0_18 = true := (xi_ap xi_r0_17).1
theorem xi_r0_18 : xi_ok code (xi_0_19 ++ (xi_0_20 ++ (xi_0_21 ++ (xi_0_22 ++ (xi_0_23 ++ (xi_0_24 ++ (xi_0_25 ++ (xi_0_26 ++ (xi_0_27 ++ (xi_0_28 ++ (xi_0_29 ++ (xi_0_30 ++ (xi_0_31 ++ (xi_0_32 ++ (xi_0_33 ++ (xi_0_34 ++ (xi_0_35 ++ (xi_0_36 ++ (xi_0_37 ++ (xi_0_38 ++ (xi_0_39 ++ (xi_0_40 ++ (xi_0_41 ++ (xi_0_42 ++ (xi_0_43 ++ (xi_0_44 ++ (xi_0_45 ++ (xi_0_46 ++ (xi_0_47 ++ (xi_0_48 ++ (xi_0_49 ++ (xi_0_50 ++ (xi_0_51 ++ (xi_0_52 ++ (xi_0_53 ++ (xi_0_54 ++ (xi_0_55 ++ (xi_0_56 ++ (xi_0_57 ++ (xi_0_58 ++ (xi_0_59 ++ (xi_0_60 ++ (xi_0_61 ++ (xi_0_62 ++ (xi_0_63 ++ (xi_0_64 ++ (xi_0_65 ++ (xi_0_66 ++ (xi_0_67 ++ (xi_0_68 ++ (xi_0_69 ++ (xi_0_70 ++ (xi_0_71 ++ (xi_0_72 ++ (xi_0_73))))))))))))))))))))))))))))))))))))))))))))))))))))))) = true := (xi_ap xi_r0_17).2
theorem xi_ok0_19 : xi_ok code xi_0_19 = true := (xi_ap xi_r0_18).1
theorem xi_r0_19 : xi_ok code (xi_0_20 ++ (xi_0_21 ++ (xi_0_22 ++ (xi_0_23 ++ (xi_0_24 ++ (xi_0_25 ++ (xi_0_26 ++ (xi_0_27 ++ (xi_0_28 ++ (xi_0_29 ++ (xi_0_30 ++ (xi_0_31 ++ (xi_0_32 ++ (xi_0_33 ++ (xi_0_34 ++ (xi_0_35 ++ (xi_0_36 ++ (xi_0_37 ++ (xi_0_38 ++ (xi_0_39 ++ (xi_0_40 ++ (xi_0_41 ++ (xi_0_42 ++ (xi_0_43 ++ (xi_0_44 ++ (xi_0_45 ++ (xi_0_46 ++ (xi_0_47 ++ (xi_0_48 ++ (xi_0_49 ++ (xi_0_50 ++ (xi_0_51 ++ (xi_0_52 ++ (xi_0_53 ++ (xi_0_54 ++ (xi_0_55 ++ (xi_0_56 ++ (xi_0_57 ++ (xi_0_58 ++ (xi_0_59 ++ (xi_0_60 ++ (xi_0_61 ++ (xi_0_62 ++ (xi_0_63 ++ (xi_0_64 ++ (xi_0_65 ++ (xi_0_66 ++ (xi_0_67 ++ (xi_0_68 ++ (xi_0_69 ++ (xi_0_70 ++ (xi_0_71 ++ (xi_0_72 ++ (xi_0_73)))))))))))))))))))))))))))))))))))))))))))))))))))))) = true := (xi_ap xi_r0_18).2
theorem xi_ok0_20 : xi_ok code xi_0_20 = true := (xi_ap xi_r0_19).1
theorem xi_r0_20 : xi_ok code (xi_0_21 ++ (xi_0_22 ++ (xi_0_23 ++ (xi_0_24 ++ (xi_0_25 ++ (xi_0_26 ++ (xi_0_27 ++ (xi_0_28 ++ (xi_0_29 ++ (xi_0_30 ++ (xi_0_31 ++ (xi_0_32 ++ (xi_0_33 ++ (xi_0_34 ++ (xi_0_35 ++ (xi_0_36 ++ (xi_0_37 ++ (xi_0_38 ++ (xi_0_39 ++ (xi_0_40 ++ (xi_0_41 ++ (xi_0_42 ++ (xi_0_43 ++ (xi_0_44 ++ (xi_0_45 ++ (xi_0_46 ++ (xi_0_47 ++ (xi_0_48 ++ (xi_0_49 ++ (xi_0_50 ++ (xi_0_51 ++ (xi_0_52 ++ (xi_0_53 ++ (xi_0_54 ++ (xi_0_55 ++ (xi_0_56 ++ (xi_0_57 ++ (xi_0_58 ++ (xi_0_59 ++ (xi_0_60 ++ (xi_0_61 ++ (xi_0_62 ++ (xi_0_63 ++ (xi_0_64 ++ (xi_0_65 ++ (xi_0_66 ++ (xi_0_67 ++ (xi_0_68 ++ (xi_0_69 ++ (xi_0_70 ++ (xi_0_71 ++ (xi_0_72 ++ (xi_0_73))))))))))))))))))))))))))))))))))))))))))))))))))))) = true := (xi_ap xi_r0_19).2
theorem xi_ok0_21 : xi_ok code xi_0_21 = true := (xi_ap xi_r0_20).1
theorem xi_r0_21 : xi_ok code (xi_0_22 ++ (xi_0_23 ++ (xi_0_24 ++ (xi_0_25 ++ (xi_0_26 ++ (xi_0_27 ++ (xi_0_28 ++ (xi_0_29 ++ (xi_0_30 ++ (xi_0_31 ++ (xi_0_32 ++ (xi_0_33 ++ (xi_0_34 ++ (xi_0_35 ++ (xi_0_36 ++ (xi_0_37 ++ (xi_0_38 ++ (xi_0_39 ++ (xi_0_40 ++ (xi_0_41 ++ (xi_0_42 ++ (xi_0_43 ++ (xi_0_44 ++ (xi_0_45 ++ (xi_0_46 ++ (xi_0_47 ++ (xi_0_48 ++ (xi_0_49 ++ (xi_0_50 ++ (xi_0_51 ++ (xi_0_52 ++ (xi_0_53 ++ (xi_0_54 ++ (xi_0_55 ++ (xi_0_56 ++ (xi_0_57 ++ (xi_0_58 ++ (xi_0_59 ++ (xi_0_60 ++ (xi_0_61 ++ (xi_0_62 ++ (xi_0_63 ++ (xi_0_64 ++ (xi_0_65 ++ (xi_0_66 ++ (xi_0_67 ++ (xi_0_68 ++ (xi_0_69 ++ (xi_0_70 ++ (xi_0_71 ++ (xi_0_72 ++ (xi_0_73)))))))))))))))))))))))))))))))))))))))))))))))))))) = true := (xi_ap xi_r0_20).2
theorem xi_ok0_22 : xi_ok code xi_0_22 = true := (xi_ap xi_r0_21).1
theorem xi_r0_22 : xi_ok code (xi_0_23 ++ (xi_0_24 ++ (xi_0_25 ++ (xi_0_26 ++ (xi_0_27 ++ (xi_0_28 ++ (xi_0_29 ++ (xi_0_30 ++ (xi_0_31 ++ (xi_0_32 ++ (xi_0_33 ++ (xi_0_34 ++ (xi_0_35 ++ (xi_0_36 ++ (xi_0_37 ++ (xi_0_38 ++ (xi_0_39 ++ (xi_0_40 ++ (xi_0_41 ++ (xi_0_42 ++ (xi_0_43 ++ (xi_0_44 ++ (xi_0_45 ++ (xi_0_46 ++ (xi_0_47 ++ (xi_0_48 ++ (xi_0_49 ++ (xi_0_50 ++ (xi_0_51 ++ (xi_0_52 ++ (xi_0_53 ++ (xi_0_54 ++ (xi_0_55 ++ (xi_0_56 ++ (xi_0_57 ++ (xi_0_58 ++ (xi_0_59 ++ (xi_0_60 ++ (xi_0_61 ++ (xi_0_62 ++ (xi_0_63 ++ (xi_0_64 ++ (xi_0_65 ++ (xi_0_66 ++ (xi_0_67 ++ (xi_0_68 ++ (xi_0_69 ++ (xi_0_70 ++ (xi_0_71 ++ (xi_0_72 ++ (xi_0_73))))))))))))))))))))))))))))))))))))))))))))))))))) = true := (xi_ap xi_r0_21).2
theorem xi_ok0_23 : xi_ok code xi_0_23 = true := (xi_ap xi_r0_22).1
theorem xi_r0_23 : xi_ok code (xi_0_24 ++ (xi_0_25 ++ (xi_0_26 ++ (xi_0_27 ++ (xi_0_28 ++ (xi_0_29 ++ (xi_0_30 ++ (xi_0_31 ++ (xi_0_32 ++ (xi_0_33 ++ (xi_0_34 ++ (xi_0_35 ++ (xi_0_36 ++ (xi_0_37 ++ (xi_0_38 ++ (xi_0_39 ++ (xi_0_40 ++ (xi_0_41 ++ (xi_0_42 ++ (xi_0_43 ++ (xi_0_44 ++ (xi_0_45 ++ (xi_0_46 ++ (xi_0_47 ++ (xi_0_48 ++ (xi_0_49 ++ (xi_0_50 ++ (xi_0_51 ++ (xi_0_52 ++ (xi_0_53 ++ (xi_0_54 ++ (xi_0_55 ++ (xi_0_56 ++ (xi_0_57 ++ (xi_0_58 ++ (xi_0_59 ++ (xi_0_60 ++ (xi_0_61 ++ (xi_0_62 ++ (xi_0_63 ++ (xi_0_64 ++ (xi_0_65 ++ (xi_0_66 ++ (xi_0_67 ++ (xi_0_68 ++ (xi_0_69 ++ (xi_0_70 ++ (xi_0_71 ++ (xi_0_72 ++ (xi_0_73)))))))))))))))))))))))))))))))))))))))))))))))))) = true := (xi_ap xi_r0_22).2
theorem xi_ok0_24 : xi_ok code xi_0_24 = true := (xi_ap xi_r0_23).1
theorem xi_r0_24 : xi_ok code (xi_0_25 ++ (xi_0_26 ++ (xi_0_27 ++ (xi_0_28 ++ (xi_0_29 ++ (xi_0_30 ++ (xi_0_31 ++ (xi_0_32 ++ (xi_0_33 ++ (xi_0_34 ++ (xi_0_35 ++ (xi_0_36 ++ (xi_0_37 ++ (xi_0_38 ++ (xi_0_39 ++ (xi_0_40 ++ (xi_0_41 ++ (xi_0_42 ++ (xi_0_43 ++ (xi_0_44 ++ (xi_0_45 ++ (xi_0_46 ++ (xi_0_47 ++ (xi_0_48 ++ (xi_0_49 ++ (xi_0_50 ++ (xi_0_51 ++ (xi_0_52 ++ (xi_0_53 ++ (xi_0_54 ++ (xi_0_55 ++ (xi_0_56 ++ (xi_0_57 ++ (xi_0_58 ++ (xi_0_59 ++ (xi_0_60 ++ (xi_0_61 ++ (xi_0_62 ++ (xi_0_63 ++ (xi_0_64 ++ (xi_0_65 ++ (xi_0_66 ++ (xi_0_67 ++ (xi_0_68 ++ (xi_0_69 ++ (xi_0_70 ++ (xi_0_71 ++ (xi_0_72 ++ (xi_0_73))))))))))))))))))))))))))))))))))))))))))))))))) = true := (xi_ap xi_r0_23).2
theorem xi_ok0_25 : xi_ok code xi_0_25 = true := (xi_ap xi_r0_24).1
theorem xi_r0_25 : xi_ok code (xi_0_26 ++ (xi_0_27 ++ (xi_0_28 ++ (xi_0_29 ++ (xi_0_30 ++ (xi_0_31 ++ (xi_0_32 ++ (xi_0_33 ++ (xi_0_34 ++ (xi_0_35 ++ (xi_0_36 ++ (xi_0_37 ++ (xi_0_38 ++ (xi_0_39 ++ (xi_0_40 ++ (xi_0_41 ++ (xi_0_42 ++ (xi_0_43 ++ (xi_0_44 ++ (xi_0_45 ++ (xi_0_46 ++ (xi_0_47 ++ (xi_0_48 ++ (xi_0_49 ++ (xi_0_50 ++ (xi_0_51 ++ (xi_0_52 ++ (xi_0_53 ++ (xi_0_54 ++ (xi_0_55 ++ (xi_0_56 ++ (xi_0_57 ++ (xi_0_58 ++ (xi_0_59 ++ (xi_0_60 ++ (xi_0_61 ++ (xi_0_62 ++ (xi_0_63 ++ (xi_0_64 ++ (xi_0_65 ++ (xi_0_66 ++ (xi_0_67 ++ (xi_0_68 ++ (xi_0_69 ++ (xi_0_70 ++ (xi_0_71 ++ (xi_0_72 ++ (xi_0_73)))))))))))))))))))))))))))))))))))))))))))))))) = true := (xi_ap xi_r0_24).2
theorem xi_ok0_26 : xi_ok code xi_0_26 = true := (xi_ap xi_r0_25).1
theorem xi_r0_26 : xi_ok code (xi_0_27 ++ (xi_0_28 ++ (xi_0_29 ++ (xi_0_30 ++ (xi_0_31 ++ (xi_0_32 ++ (xi_0_33 ++ (xi_0_34 ++ (xi_0_35 ++ (xi_0_36 ++ (xi_0_37 ++ (xi_0_38 ++ (xi_0_39 ++ (xi_0_40 ++ (xi_0_41 ++ (xi_0_42 ++ (xi_0_43 ++ (xi_0_44 ++ (xi_0_45 ++ (xi_0_46 ++ (xi_0_47 ++ (xi_0_48 ++ (xi_0_49 ++ (xi_0_50 ++ (xi_0_51 ++ (xi_0_52 ++ (xi_0_53 ++ (xi_0_54 ++ (xi_0_55 ++ (xi_0_56 ++ (xi_0_57 ++ (xi_0_58 ++ (xi_0_59 ++ (xi_0_60 ++ (xi_0_61 ++ (xi_0_62 ++ (xi_0_63 ++ (xi_0_64 ++ (xi_0_65 ++ (xi_0_66 ++ (xi_0_67 ++ (xi_0_68 ++ (xi_0_69 ++ (xi_0_70 ++ (xi_0_71 ++ (xi_0_72 ++ (xi_0_73))))))))))))))))))))))))))))))))))))))))))))))) = true := (xi_ap xi_r0_25).2
theorem xi_ok0_27 : xi_ok code xi_0_27 = true := (xi_ap xi_r0_26).1
theorem xi_r0_27 : xi_ok code (xi_0_28 ++ (xi_0_29 ++ (xi_0_30 ++ (xi_0_31 ++ (xi_0_32 ++ (xi_0_33 ++ (xi_0_34 ++ (xi_0_35 ++ (xi_0_36 ++ (xi_0_37 ++ (xi_0_38 ++ (xi_0_39 ++ (xi_0_40 ++ (xi_0_41 ++ (xi_0_42 ++ (xi_0_43 ++ (xi_0_44 ++ (xi_0_45 ++ (xi_0_46 ++ (xi_0_47 ++ (xi_0_48 ++ (xi_0_49 ++ (xi_0_50 ++ (xi_0_51 ++ (xi_0_52 ++ (xi_0_53 ++ (xi_0_54 ++ (xi_0_55 ++ (xi_0_56 ++ (xi_0_57 ++ (xi_0_58 ++ (xi_0_59 ++ (xi_0_60 ++ (xi_0_61 ++ (xi_0_62 ++ (xi_0_63 ++ (xi_0_64 ++ (xi_0_65 ++ (xi_0_66 ++ (xi_0_67 ++ (xi_0_68 ++ (xi_0_69 ++ (xi_0_70 ++ (xi_0_71 ++ (xi_0_72 ++ (xi_0_73)))))))))))))))))))))))))))))))))))))))))))))) = true := (xi_ap xi_r0_26).2
theorem xi_ok0_28 : xi_ok code xi_0_28 = true := (xi_ap xi_r0_27).1
theorem xi_r0_28 : xi_ok code (xi_0_29 ++ (xi_0_30 ++ (xi_0_31 ++ (xi_0_32 ++ (xi_0_33 ++ (xi_0_34 ++ (xi_0_35 ++ (xi_0_36 ++ (xi_0_37 ++ (xi_0_38 ++ (xi_0_39 ++ (xi_0_40 ++ (xi_0_41 ++ (xi_0_42 ++ (xi_0_43 ++ (xi_0_44 ++ (xi_0_45 ++ (xi_0_46 ++ (xi_0_47 ++ (xi_0_48 ++ (xi_0_49 ++ (xi_0_50 ++ (xi_0_51 ++ (xi_0_52 ++ (xi_0_53 ++ (xi_0_54 ++ (xi_0_55 ++ (xi_0_56 ++ (xi_0_57 ++ (xi_0_58 ++ (xi_0_59 ++ (xi_0_60 ++ (xi_0_61 ++ (xi_0_62 ++ (xi_0_63 ++ (xi_0_64 ++ (xi_0_65 ++ (xi_0_66 ++ (xi_0_67 ++ (xi_0_68 ++ (xi_0_69 ++ (xi_0_70 ++ (xi_0_71 ++ (xi_0_72 ++ (xi_0_73))))))))))))))))))))))))))))))))))))))))))))) = true := (xi_ap xi_r0_27).2
theorem xi_ok0_29 : xi_ok code xi_0_29 = true := (xi_ap xi_r0_28).1
theorem xi_r0_29 : xi_ok code (xi_0_30 ++ (xi_0_31 ++ (xi_0_32 ++ (xi_0_33 ++ (xi_0_34 ++ (xi_0_35 ++ (xi_0_36 ++ (xi_0_37 ++ (xi_0_38 ++ (xi_0_39 ++ (xi_0_40 ++ (xi_0_41 ++ (xi_0_42 ++ (xi_0_43 ++ (xi_0_44 ++ (xi_0_45 ++ (xi_0_46 ++ (xi_0_47 ++ (xi_0_48 ++ (xi_0_49 ++ (xi_0_50 ++ (xi_0_51 ++ (xi_0_52 ++ (xi_0_53 ++ (xi_0_54 ++ (xi_0_55 ++ (xi_0_56 ++ (xi_0_57 ++ (xi_0_58 ++ (xi_0_59 ++ (xi_0_60 ++ (xi_0_61 ++ (xi_0_62 ++ (xi_0_63 ++ (xi_0_64 ++ (xi_0_65 ++ (xi_0_66 ++ (xi_0_67 ++ (xi_0_68 ++ (xi_0_69 ++ (xi_0_70 ++ (xi_0_71 ++ (xi_0_72 ++ (xi_0_73)))))))))))))))))))))))))))))))))))))))))))) = true := (xi_ap xi_r0_28).2
theorem xi_ok0_30 : xi_ok code xi_0_30 = true := (xi_ap xi_r0_29).1
theorem xi_r0_30 : xi_ok code (xi_0_31 ++ (xi_0_32 ++ (xi_0_33 ++ (xi_0_34 ++ (xi_0_35 ++ (xi_0_36 ++ (xi_0_37 ++ (xi_0_38 ++ (xi_0_39 ++ (xi_0_40 ++ (xi_0_41 ++ (xi_0_42 ++ (xi_0_43 ++ (xi_0_44 ++ (xi_0_45 ++ (xi_0_46 ++ (xi_0_47 ++ (xi_0_48 ++ (xi_0_49 ++ (xi_0_50 ++ (xi_0_51 ++ (xi_0_52 ++ (xi_0_53 ++ (xi_0_54 ++ (xi_0_55 ++ (xi_0_56 ++ (xi_0_57 ++ (xi_0_58 ++ (xi_0_59 ++ (xi_0_60 ++ (xi_0_61 ++ (xi_0_62 ++ (xi_0_63 ++ (xi_0_64 ++ (xi_0_65 ++ (xi_0_66 ++ (xi_0_67 ++ (xi_0_68 ++ (xi_0_69 ++ (xi_0_70 ++ (xi_0_71 ++ (xi_0_72 ++ (xi_0_73))))))))))))))))))))))))))))))))))))))))))) = true := (xi_ap xi_r0_29).2
theorem xi_ok0_31 : xi_ok code xi_0_31 = true := (xi_ap xi_r0_30).1
theorem xi_r0_31 : xi_ok code (xi_0_32 ++ (xi_0_33 ++ (xi_0_34 ++ (xi_0_35 ++ (xi_0_36 ++ (xi_0_37 ++ (xi_0_38 ++ (xi_0_39 ++ (xi_0_40 ++ (xi_0_41 ++ (xi_0_42 ++ (xi_0_43 ++ (xi_0_44 ++ (xi_0_45 ++ (xi_0_46 ++ (xi_0_47 ++ (xi_0_48 ++ (xi_0_49 ++ (xi_0_50 ++ (xi_0_51 ++ (xi_0_52 ++ (xi_0_53 ++ (xi_0_54 ++ (xi_0_55 ++ (xi_0_56 ++ (xi_0_57 ++ (xi_0_58 ++ (xi_0_59 ++ (xi_0_60 ++ (xi_0_61 ++ (xi_0_62 ++ (xi_0_63 ++ (xi_0_64 ++ (xi_0_65 ++ (xi_0_66 ++ (xi_0_67 ++ (xi_0_68 ++ (xi_0_69 ++ (xi_0_70 ++ (xi_0_71 ++ (xi_0_72 ++ (xi_0_73)))))))))))))))))))))))))))))))))))))))))) = true := (xi_ap xi_r0_30).2
theorem xi_ok0_32 : xi_ok code xi_0_32 = true := (xi_ap xi_r0_31).1
theorem xi_r0_32 : xi_ok code (xi_0_33 ++ (xi_0_34 ++ (xi_0_35 ++ (xi_0_36 ++ (xi_0_37 ++ (xi_0_38 ++ (xi_0_39 ++ (xi_0_40 ++ (xi_0_41 ++ (xi_0_42 ++ (xi_0_43 ++ (xi_0_44 ++ (xi_0_45 ++ (xi_0_46 ++ (xi_0_47 ++ (xi_0_48 ++ (xi_0_49 ++ (xi_0_50 ++ (xi_0_51 ++ (xi_0_52 ++ (xi_0_53 ++ (xi_0_54 ++ (xi_0_55 ++ (xi_0_56 ++ (xi_0_57 ++ (xi_0_58 ++ (xi_0_59 ++ (xi_0_60 ++ (xi_0_61 ++ (xi_0_62 ++ (xi_0_63 ++ (xi_0_64 ++ (xi_0_65 ++ (xi_0_66 ++ (xi_0_67 ++ (xi_0_68 ++ (xi_0_69 ++ (xi_0_70 ++ (xi_0_71 ++ (xi_0_72 ++ (xi_0_73))))))))))))))))))))))))))))))))))))))))) = true := (xi_ap xi_r0_31).2
theorem xi_ok0_33 : xi_ok code xi_0_33 = true := (xi_ap xi_r0_32).1
theorem xi_r0_33 : xi_ok code (xi_0_34 ++ (xi_0_35 ++ (xi_0_36 ++ (xi_0_37 ++ (xi_0_38 ++ (xi_0_39 ++ (xi_0_40 ++ (xi_0_41 ++ (xi_0_42 ++ (xi_0_43 ++ (xi_0_44 ++ (xi_0_45 ++ (xi_0_46 ++ (xi_0_47 ++ (xi_0_48 ++ (xi_0_49 ++ (xi_0_50 ++ (xi_0_51 ++ (xi_0_52 ++ (xi_0_53 ++ (xi_0_54 ++ (xi_0_55 ++ (xi_0_56 ++ (xi_0_57 ++ (xi_0_58 ++ (xi_0_59 ++ (xi_0_60 ++ (xi_0_61 ++ (xi_0_62 ++ (xi_0_63 ++ (xi_0_64 ++ (xi_0_65 ++ (xi_0_66 ++ (xi_0_67 ++ (xi_0_68 ++ (xi_0_69 ++ (xi_0_70 ++ (xi_0_71 ++ (xi_0_72 ++ (xi_0_73)))))))))))))))))))))))))))))))))))))))) = true := (xi_ap xi_r0_32).2
theorem xi_ok0_34 : xi_ok code xi_0_34 = true := (xi_ap xi_r0_33).1
theorem xi_r0_34 : xi_ok code (xi_0_35 ++ (xi_0_36 ++ (xi_0_37 ++ (xi_0_38 ++ (xi_0_39 ++ (xi_0_40 ++ (xi_0_41 ++ (xi_0_42 ++ (xi_0_43 ++ (xi_0_44 ++ (xi_0_45 ++ (xi_0_46 ++ (xi_0_47 ++ (xi_0_48 ++ (xi_0_49 ++ (xi_0_50 ++ (xi_0_51 ++ (xi_0_52 ++ (xi_0_53 ++ (xi_0_54 ++ (xi_0_55 ++ (xi_0_56 ++ (xi_0_57 ++ (xi_0_58 ++ (xi_0_59 ++ (xi_0_60 ++ (xi_0_61 ++ (xi_0_62 ++ (xi_0_63 ++ (xi_0_64 ++ (xi_0_65 ++ (xi_0_66 ++ (xi_0_67 ++ (xi_0_68 ++ (xi_0_69 ++ (xi_0_70 ++ (xi_0_71 ++ (xi_0_72 ++ (xi_0_73))))))))))))))))))))))))))))))))))))))) = true := (xi_ap xi_r0_33).2
theorem xi_ok0_35 : xi_ok code xi_0_35 = true := (xi_ap xi_r0_34).1
theorem xi_r0_35 : xi_ok code (xi_0_36 ++ (xi_0_37 ++ (xi_0_38 ++ (xi_0_39 ++ (xi_0_40 ++ (xi_0_41 ++ (xi_0_42 ++ (xi_0_43 ++ (xi_0_44 ++ (xi_0_45 ++ (xi_0_46 ++ (xi_0_47 ++ (xi_0_48 ++ (xi_0_49 ++ (xi_0_50 ++ (xi_0_51 ++ (xi_0_52 ++ (xi_0_53 ++ (xi_0_54 ++ (xi_0_55 ++ (xi_0_56 ++ (xi_0_57 ++ (xi_0_58 ++ (xi_0_59 ++ (xi_0_60 ++ (xi_0_61 ++ (xi_0_62 ++ (xi_0_63 ++ (xi_0_64 ++ (xi_0_65 ++ (xi_0_66 ++ (xi_0_67 ++ (xi_0_68 ++ (xi_0_69 ++ (xi_0_70 ++ (xi_0_71 ++ (xi_0_72 ++ (xi_0_73)))))))))))))))))))))))))))))))))))))) = true := (xi_ap xi_r0_34).2
theorem xi_ok0_36 : xi_ok code xi_0_36 = true := (xi_ap xi_r0_35).1
theorem xi_r0_36 : xi_ok code (xi_0_37 ++ (xi_0_38 ++ (xi_0_39 ++ (xi_0_40 ++ (xi_0_41 ++ (xi_0_42 ++ (xi_0_43 ++ (xi_0_44 ++ (xi_0_45 ++ (xi_0_46 ++ (xi_0_47 ++ (xi_0_48 ++ (xi_0_49 ++ (xi_0_50 ++ (xi_0_51 ++ (xi_0_52 ++ (xi_0_53 ++ (xi_0_54 ++ (xi_0_55 ++ (xi_0_56 ++ (xi_0_57 ++ (xi_0_58 ++ (xi_0_59 ++ (xi_0_60 ++ (xi_0_61 ++ (xi_0_62 ++ (xi_0_63 ++ (xi_0_64 ++ (xi_0_65 ++ (xi_0_66 ++ (xi_0_67 ++ (xi_0_68 ++ (xi_0_69 ++ (xi_0_70 ++ (xi_0_71 ++ (xi_0_72 ++ (xi_0_73))))))))))))))))))))))))))))))))))))) = true := (xi_ap xi_r0_35).2
theorem xi_ok0_37 : xi_ok code xi_0_37 = true := (xi_ap xi_r0_36).1
theorem xi_r0_37 : xi_ok code (xi_0_38 ++ (xi_0_39 ++ (xi_0_40 ++ (xi_0_41 ++ (xi_0_42 ++ (xi_0_43 ++ (xi_0_44 ++ (xi_0_45 ++ (xi_0_46 ++ (xi_0_47 ++ (xi_0_48 ++ (xi_0_49 ++ (xi_0_50 ++ (xi_0_51 ++ (xi_0_52 ++ (xi_0_53 ++ (xi_0_54 ++ (xi_0_55 ++ (xi_0_56 ++ (xi_0_57 ++ (xi_0_58 ++ (xi_0_59 ++ (xi_0_60 ++ (xi_0_61 ++ (xi_0_62 ++ (xi_0_63 ++ (xi_0_64 ++ (xi_0_65 ++ (xi_0_66 ++ (xi_0_67 ++ (xi_0_68 ++ (xi_0_69 ++ (xi_0_70 ++ (xi_0_71 ++ (xi_0_72 ++ (xi_0_73)))))))))))))))))))))))))))))))))))) = true := (xi_ap xi_r0_36).2
theorem xi_ok0_38 : xi_ok code xi_0_38 = true := (xi_ap xi_r0_37).1
theorem xi_r0_38 : xi_ok code (xi_0_39 ++ (xi_0_40 ++ (xi_0_41 ++ (xi_0_42 ++ (xi_0_43 ++ (xi_0_44 ++ (xi_0_45 ++ (xi_0_46 ++ (xi_0_47 ++ (xi_0_48 ++ (xi_0_49 ++ (xi_0_50 ++ (xi_0_51 ++ (xi_0_52 ++ (xi_0_53 ++ (xi_0_54 ++ (xi_0_55 ++ (xi_0_56 ++ (xi_0_57 ++ (xi_0_58 ++ (xi_0_59 ++ (xi_0_60 ++ (xi_0_61 ++ (xi_0_62 ++ (xi_0_63 ++ (xi_0_64 ++ (xi_0_65 ++ (xi_0_66 ++ (xi_0_67 ++ (xi_0_68 ++ (xi_0_69 ++ (xi_0_70 ++ (xi_0_71 ++ (xi_0_72 ++ (xi_0_73))))))))))))))))))))))))))))))))))) = true := (xi_ap xi_r0_37).2
theorem xi_ok0_39 : xi_ok code xi_0_39 = true := (xi_ap xi_r0_38).1
theorem xi_r0_39 : xi_ok code (xi_0_40 ++ (xi_0_41 ++ (xi_0_42 ++ (xi_0_43 ++ (xi_0_44 ++ (xi_0_45 ++ (xi_0_46 ++ (xi_0_47 ++ (xi_0_48 ++ (xi_0_49 ++ (xi_0_50 ++ (xi_0_51 ++ (xi_0_52 ++ (xi_0_53 ++ (xi_0_54 ++ (xi_0_55 ++ (xi_0_56 ++ (xi_0_57 ++ (xi_0_58 ++ (xi_0_59 ++ (xi_0_60 ++ (xi_0_61 ++ (xi_0_62 ++ (xi_0_63 ++ (xi_0_64 ++ (xi_0_65 ++ (xi_0_66 ++ (xi_0_67 ++ (xi_0_68 ++ (xi_0_69 ++ (xi_0_70 ++ (xi_0_71 ++ (xi_0_72 ++ (xi_0_73)))))))))))))))))))))))))))))))))) = true := (xi_ap xi_r0_38).2
theorem xi_ok0_40 : xi_ok code xi_0_40 = true := (xi_ap xi_r0_39).1
theorem xi_r0_40 : xi_ok code (xi_0_41 ++ (xi_0_42 ++ (xi_0_43 ++ (xi_0_44 ++ (xi_0_45 ++ (xi_0_46 ++ (xi_0_47 ++ (xi_0_48 ++ (xi_0_49 ++ (xi_0_50 ++ (xi_0_51 ++ (xi_0_52 ++ (xi_0_53 ++ (xi_0_54 ++ (xi_0_55 ++ (xi_0_56 ++ (xi_0_57 ++ (xi_0_58 ++ (xi_0_59 ++ (xi_0_60 ++ (xi_0_61 ++ (xi_0_62 ++ (xi_0_63 ++ (xi_0_64 ++ (xi_0_65 ++ (xi_0_66 ++ (xi_0_67 ++ (xi_0_68 ++ (xi_0_69 ++ (xi_0_70 ++ (xi_0_71 ++ (xi_0_72 ++ (xi_0_73))))))))))))))))))))))))))))))))) = true := (xi_ap xi_r0_39).2
theorem xi_ok0_41 : xi_ok code xi_0_41 = true := (xi_ap xi_r0_40).1
theorem xi_r0_41 : xi_ok code (xi_0_42 ++ (xi_0_43 ++ (xi_0_44 ++ (xi_0_45 ++ (xi_0_46 ++ (xi_0_47 ++ (xi_0_48 ++ (xi_0_49 ++ (xi_0_50 ++ (xi_0_51 ++ (xi_0_52 ++ (xi_0_53 ++ (xi_0_54 ++ (xi_0_55 ++ (xi_0_56 ++ (xi_0_57 ++ (xi_0_58 ++ (xi_0_59 ++ (xi_0_60 ++ (xi_0_61 ++ (xi_0_62 ++ (xi_0_63 ++ (xi_0_64 ++ (xi_0_65 ++ (xi_0_66 ++ (xi_0_67 ++ (xi_0_68 ++ (xi_0_69 ++ (xi_0_70 ++ (xi_0_71 ++ (xi_0_72 ++ (xi_0_73)))))))))))))))))))))))))))))))) = true := (xi_ap xi_r0_40).2
theorem xi_ok0_42 : xi_ok code xi_0_42 = true := (xi_ap xi_r0_41).1
theorem xi_r0_42 : xi_ok code (xi_0_43 ++ (xi_0_44 ++ (xi_0_45 ++ (xi_0_46 ++ (xi_0_47 ++ (xi_0_48 ++ (xi_0_49 ++ (xi_0_50 ++ (xi_0_51 ++ (xi_0_52 ++ (xi_0_53 ++ (xi_0_54 ++ (xi_0_55 ++ (xi_0_56 ++ (xi_0_57 ++ (xi_0_58 ++ (xi_0_59 ++ (xi_0_60 ++ (xi_0_61 ++ (xi_0_62 ++ (xi_0_63 ++ (xi_0_64 ++ (xi_0_65 ++ (xi_0_66 ++ (xi_0_67 ++ (xi_0_68 ++ (xi_0_69 ++ (xi_0_70 ++ (xi_0_71 ++ (xi_0_72 ++ (xi_0_73))))))))))))))))))))))))))))))) = true := (xi_ap xi_r0_41).2
theorem xi_ok0_43 : xi_ok code xi_0_43 = true := (xi_ap xi_r0_42).1
theorem xi_r0_43 : xi_ok code (xi_0_44 ++ (xi_0_45 ++ (xi_0_46 ++ (xi_0_47 ++ (xi_0_48 ++ (xi_0_49 ++ (xi_0_50 ++ (xi_0_51 ++ (xi_0_52 ++ (xi_0_53 ++ (xi_0_54 ++ (xi_0_55 ++ (xi_0_56 ++ (xi_0_57 ++ (xi_0_58 ++ (xi_0_59 ++ (xi_0_60 ++ (xi_0_61 ++ (xi_0_62 ++ (xi_0_63 ++ (xi_0_64 ++ (xi_0_65 ++ (xi_0_66 ++ (xi_0_67 ++ (xi_0_68 ++ (xi_0_69 ++ (xi_0_70 ++ (xi_0_71 ++ (xi_0_72 ++ (xi_0_73)))))))))))))))))))))))))))))) = true := (xi_ap xi_r0_42).2
theorem xi_ok0_44 : xi_ok code xi_0_44 = true := (xi_ap xi_r0_43).1
theorem xi_r0_44 : xi_ok code (xi_0_45 ++ (xi_0_46 ++ (xi_0_47 ++ (xi_0_48 ++ (xi_0_49 ++ (xi_0_50 ++ (xi_0_51 ++ (xi_0_52 ++ (xi_0_53 ++ (xi_0_54 ++ (xi_0_55 ++ (xi_0_56 ++ (xi_0_57 ++ (xi_0_58 ++ (xi_0_59 ++ (xi_0_60 ++ (xi_0_61 ++ (xi_0_62 ++ (xi_0_63 ++ (xi_0_64 ++ (xi_0_65 ++ (xi_0_66 ++ (xi_0_67 ++ (xi_0_68 ++ (xi_0_69 ++ (xi_0_70 ++ (xi_0_71 ++ (xi_0_72 ++ (xi_0_73))))))))))))))))))))))))))))) = true := (xi_ap xi_r0_43).2
theorem xi_ok0_45 : xi_ok code xi_0_45 = true := (xi_ap xi_r0_44).1
theorem xi_r0_45 : xi_ok code (xi_0_46 ++ (xi_0_47 ++ (xi_0_48 ++ (xi_0_49 ++ (xi_0_50 ++ (xi_0_51 ++ (xi_0_52 ++ (xi_0_53 ++ (xi_0_54 ++ (xi_0_55 ++ (xi_0_56 ++ (xi_0_57 ++ (xi_0_58 ++ (xi_0_59 ++ (xi_0_60 ++ (xi_0_61 ++ (xi_0_62 ++ (xi_0_63 ++ (xi_0_64 ++ (xi_0_65 ++ (xi_0_66 ++ (xi_0_67 ++ (xi_0_68 ++ (xi_0_69 ++ (xi_0_70 ++ (xi_0_71 ++ (xi_0_72 ++ (xi_0_73)))))))))))))))))))))))))))) = true := (xi_ap xi_r0_44).2
theorem xi_ok0_46 : xi_ok code xi_0_46 = true := (xi_ap xi_r0_45).1
theorem xi_r0_46 : xi_ok code (xi_0_47 ++ (xi_0_48 ++ (xi_0_49 ++ (xi_0_50 ++ (xi_0_51 ++ (xi_0_52 ++ (xi_0_53 ++ (xi_0_54 ++ (xi_0_55 ++ (xi_0_56 ++ (xi_0_57 ++ (xi_0_58 ++ (xi_0_59 ++ (xi_0_60 ++ (xi_0_61 ++ (xi_0_62 ++ (xi_0_63 ++ (xi_0_64 ++ (xi_0_65 ++ (xi_0_66 ++ (xi_0_67 ++ (xi_0_68 ++ (xi_0_69 ++ (xi_0_70 ++ (xi_0_71 ++ (xi_0_72 ++ (xi_0_73))))))))))))))))))))))))))) = true := (xi_ap xi_r0_45).2
theorem xi_ok0_47 : xi_ok code xi_0_47 = true := (xi_ap xi_r0_46).1
theorem xi_r0_47 : xi_ok code (xi_0_48 ++ (xi_0_49 ++ (xi_0_50 ++ (xi_0_51 ++ (xi_0_52 ++ (xi_0_53 ++ (xi_0_54 ++ (xi_0_55 ++ (xi_0_56 ++ (xi_0_57 ++ (xi_0_58 ++ (xi_0_59 ++ (xi_0_60 ++ (xi_0_61 ++ (xi_0_62 ++ (xi_0_63 ++ (xi_0_64 ++ (xi_0_65 ++ (xi_0_66 ++ (xi_0_67 ++ (xi_0_68 ++ (xi_0_69 ++ (xi_0_70 ++ (xi_0_71 ++ (xi_0_72 ++ (xi_0_73)))))))))))))))))))))))))) = true := (xi_ap xi_r0_46).2
theorem xi_ok0_48 : xi_ok code xi_0_48 = true := (xi_ap xi_r0_47).1
theorem xi_r0_48 : xi_ok code (xi_0_49 ++ (xi_0_50 ++ (xi_0_51 ++ (xi_0_52 ++ (xi_0_53 ++ (xi_0_54 ++ (xi_0_55 ++ (xi_0_56 ++ (xi_0_57 ++ (xi_0_58 ++ (xi_0_59 ++ (xi_0_60 ++ (xi_0_61 ++ (xi_0_62 ++ (xi_0_63 ++ (xi_0_64 ++ (xi_0_65 ++ (xi_0_66 ++ (xi_0_67 ++ (xi_0_68 ++ (xi_0_69 ++ (xi_0_70 ++ (xi_0_71 ++ (xi_0_72 ++ (xi_0_73))))))))))))))))))))))))) = true := (xi_ap xi_r0_47).2
theorem xi_ok0_49 : xi_ok code xi_0_49 = true := (xi_ap xi_r0_48).1
theorem xi_r0_49 : xi_ok code (xi_0_50 ++ (xi_0_51 ++ (xi_0_52 ++ (xi_0_53 ++ (xi_0_54 ++ (xi_0_55 ++ (xi_0_56 ++ (xi_0_57 ++ (xi_0_58 ++ (xi_0_59 ++ (xi_0_60 ++ (xi_0_61 ++ (xi_0_62 ++ (xi_0_63 ++ (xi_0_64 ++ (xi_0_65 ++ (xi_0_66 ++ (xi_0_67 ++ (xi_0_68 ++ (xi_0_69 ++ (xi_0_70 ++ (xi_0_71 ++ (xi_0_72 ++ (xi_0_73)))))))))))))))))))))))) = true := (xi_ap xi_r0_48).2
theorem xi_ok0_50 : xi_ok code xi_0_50 = true := (xi_ap xi_r0_49).1
theorem xi_r0_50 : xi_ok code (xi_0_51 ++ (xi_0_52 ++ (xi_0_53 ++ (xi_0_54 ++ (xi_0_55 ++ (xi_0_56 ++ (xi_0_57 ++ (xi_0_58 ++ (xi_0_59 ++ (xi_0_60 ++ (xi_0_61 ++ (xi_0_62 ++ (xi_0_63 ++ (xi_0_64 ++ (xi_0_65 ++ (xi_0_66 ++ (xi_0_67 ++ (xi_0_68 ++ (xi_0_69 ++ (xi_0_70 ++ (xi_0_71 ++ (xi_0_72 ++ (xi_0_73))))))))))))))))))))))) = true := (xi_ap xi_r0_49).2
theorem xi_ok0_51 : xi_ok code xi_0_51 = true := (xi_ap xi_r0_50).1
theorem xi_r0_51 : xi_ok code (xi_0_52 ++ (xi_0_53 ++ (xi_0_54 ++ (xi_0_55 ++ (xi_0_56 ++ (xi_0_57 ++ (xi_0_58 ++ (xi_0_59 ++ (xi_0_60 ++ (xi_0_61 ++ (xi_0_62 ++ (xi_0_63 ++ (xi_0_64 ++ (xi_0_65 ++ (xi_0_66 ++ (xi_0_67 ++ (xi_0_68 ++ (xi_0_69 ++ (xi_0_70 ++ (xi_0_71 ++ (xi_0_72 ++ (xi_0_73)))))))))))))))))))))) = true := (xi_ap xi_r0_50).2
theorem xi_ok0_52 : xi_ok code xi_0_52 = true := (xi_ap xi_r0_51).1
theorem xi_r0_52 : xi_ok code (xi_0_53 ++ (xi_0_54 ++ (xi_0_55 ++ (xi_0_56 ++ (xi_0_57 ++ (xi_0_58 ++ (xi_0_59 ++ (xi_0_60 ++ (xi_0_61 ++ (xi_0_62 ++ (xi_0_63 ++ (xi_0_64 ++ (xi_0_65 ++ (xi_0_66 ++ (xi_0_67 ++ (xi_0_68 ++ (xi_0_69 ++ (xi_0_70 ++ (xi_0_71 ++ (xi_0_72 ++ (xi_0_73))))))))))))))))))))) = true := (xi_ap xi_r0_51).2
theorem xi_ok0_53 : xi_ok code xi_0_53 = true := (xi_ap xi_r0_52).1
theorem xi_r0_53 : xi_ok code (xi_0_54 ++ (xi_0_55 ++ (xi_0_56 ++ (xi_0_57 ++ (xi_0_58 ++ (xi_0_59 ++ (xi_0_60 ++ (xi_0_61 ++ (xi_0_62 ++ (xi_0_63 ++ (xi_0_64 ++ (xi_0_65 ++ (xi_0_66 ++ (xi_0_67 ++ (xi_0_68 ++ (xi_0_69 ++ (xi_0_70 ++ (xi_0_71 ++ (xi_0_72 ++ (xi_0_73)))))))))))))))))))) = true := (xi_ap xi_r0_52).2
theorem xi_ok0_54 : xi_ok code xi_0_54 = true := (xi_ap xi_r0_53).1
theorem xi_r0_54 : xi_ok code (xi_0_55 ++ (xi_0_56 ++ (xi_0_57 ++ (xi_0_58 ++ (xi_0_59 ++ (xi_0_60 ++ (xi_0_61 ++ (xi_0_62 ++ (xi_0_63 ++ (xi_0_64 ++ (xi_0_65 ++ (xi_0_66 ++ (xi_0_67 ++ (xi_0_68 ++ (xi_0_69 ++ (xi_0_70 ++ (xi_0_71 ++ (xi_0_72 ++ (xi_0_73))))))))))))))))))) = true := (xi_ap xi_r0_53).2
theorem xi_ok0_55 : xi_ok code xi_0_55 = true := (xi_ap xi_r0_54).1
theorem xi_r0_55 : xi_ok code (xi_0_56 ++ (xi_0_57 ++ (xi_0_58 ++ (xi_0_59 ++ (xi_0_60 ++ (xi_0_61 ++ (xi_0_62 ++ (xi_0_63 ++ (xi_0_64 ++ (xi_0_65 ++ (xi_0_66 ++ (xi_0_67 ++ (xi_0_68 ++ (xi_0_69 ++ (xi_0_70 ++ (xi_0_71 ++ (xi_0_72 ++ (xi_0_73)))))))))))))))))) = true := (xi_ap xi_r0_54).2
theorem xi_ok0_56 : xi_ok code xi_0_56 = true := (xi_ap xi_r0_55).1
theorem xi_r0_56 : xi_ok code (xi_0_57 ++ (xi_0_58 ++ (xi_0_59 ++ (xi_0_60 ++ (xi_0_61 ++ (xi_0_62 ++ (xi_0_63 ++ (xi_0_64 ++ (xi_0_65 ++ (xi_0_66 ++ (xi_0_67 ++ (xi_0_68 ++ (xi_0_69 ++ (xi_0_70 ++ (xi_0_71 ++ (xi_0_72 ++ (xi_0_73))))))))))))))))) = true := (xi_ap xi_r0_55).2
theorem xi_ok0_57 : xi_ok code xi_0_57 = true := (xi_ap xi_r0_56).1
theorem xi_r0_57 : xi_ok code (xi_0_58 ++ (xi_0_59 ++ (xi_0_60 ++ (xi_0_61 ++ (xi_0_62 ++ (xi_0_63 ++ (xi_0_64 ++ (xi_0_65 ++ (xi_0_66 ++ (xi_0_67 ++ (xi_0_68 ++ (xi_0_69 ++ (xi_0_70 ++ (xi_0_71 ++ (xi_0_72 ++ (xi_0_73)))))))))))))))) = true := (xi_ap xi_r0_56).2
theorem xi_ok0_58 : xi_ok code xi_0_58 = true := (xi_ap xi_r0_57).1
theorem xi_r0_58 : xi_ok code (xi_0_59 ++ (xi_0_60 ++ (xi_0_61 ++ (xi_0_62 ++ (xi_0_63 ++ (xi_0_64 ++ (xi_0_65 ++ (xi_0_66 ++ (xi_0_67 ++ (xi_0_68 ++ (xi_0_69 ++ (xi_0_70 ++ (xi_0_71 ++ (xi_0_72 ++ (xi_0_73))))))))))))))) = true := (xi_ap xi_r0_57).2
theorem xi_ok0_59 : xi_ok code xi_0_59 = true := (xi_ap xi_r0_58).1
theorem xi_r0_59 : xi_ok code (xi_0_60 ++ (xi_0_61 ++ (xi_0_62 ++ (xi_0_63 ++ (xi_0_64 ++ (xi_0_65 ++ (xi_0_66 ++ (xi_0_67 ++ (xi_0_68 ++ (xi_0_69 ++ (xi_0_70 ++ (xi_0_71 ++ (xi_0_72 ++ (xi_0_73)))))))))))))) = true := (xi_ap xi_r0_58).2
theorem xi_ok0_60 : xi_ok code xi_0_60 = true := (xi_ap xi_r0_59).1
theorem xi_r0_60 : xi_ok code (xi_0_61 ++ (xi_0_62 ++ (xi_0_63 ++ (xi_0_64 ++ (xi_0_65 ++ (xi_0_66 ++ (xi_0_67 ++ (xi_0_68 ++ (xi_0_69 ++ (xi_0_70 ++ (xi_0_71 ++ (xi_0_72 ++ (xi_0_73))))))))))))) = true := (xi_ap xi_r0_59).2
theorem xi_ok0_61 : xi_ok code xi_0_61 = true := (xi_ap xi_r0_60).1
theorem xi_r0_61 : xi_ok code (xi_0_62 ++ (xi_0_63 ++ (xi_0_64 ++ (xi_0_65 ++ (xi_0_66 ++ (xi_0_67 ++ (xi_0_68 ++ (xi_0_69 ++ (xi_0_70 ++ (xi_0_71 ++ (xi_0_72 ++ (xi_0_73)))))))))))) = true := (xi_ap xi_r0_60).2
theorem xi_ok0_62 : xi_ok code xi_0_62 = true := (xi_ap xi_r0_61).1
theorem xi_r0_62 : xi_ok code (xi_0_63 ++ (xi_0_64 ++ (xi_0_65 ++ (xi_0_66 ++ (xi_0_67 ++ (xi_0_68 ++ (xi_0_69 ++ (xi_0_70 ++ (xi_0_71 ++ (xi_0_72 ++ (xi_0_73))))))))))) = true := (xi_ap xi_r0_61).2
theorem xi_ok0_63 : xi_ok code xi_0_63 = true := (xi_ap xi_r0_62).1
theorem xi_r0_63 : xi_ok code (xi_0_64 ++ (xi_0_65 ++ (xi_0_66 ++ (xi_0_67 ++ (xi_0_68 ++ (xi_0_69 ++ (xi_0_70 ++ (xi_0_71 ++ (xi_0_72 ++ (xi_0_73)))))))))) = true := (xi_ap xi_r0_62).2
theorem xi_ok0_64 : xi_ok code xi_0_64 = true := (xi_ap xi_r0_63).1
theorem xi_r0_64 : xi_ok code (xi_0_65 ++ (xi_0_66 ++ (xi_0_67 ++ (xi_0_68 ++ (xi_0_69 ++ (xi_0_70 ++ (xi_0_71 ++ (xi_0_72 ++ (xi_0_73))))))))) = true := (xi_ap xi_r0_63).2
theorem xi_ok0_65 : xi_ok code xi_0_65 = true := (xi_ap xi_r0_64).1
theorem xi_r0_65 : xi_ok code (xi_0_66 ++ (xi_0_67 ++ (xi_0_68 ++ (xi_0_69 ++ (xi_0_70 ++ (xi_0_71 ++ (xi_0_72 ++ (xi_0_73)))))))) = true := (xi_ap xi_r0_64).2
theorem xi_ok0_66 : xi_ok code xi_0_66 = true := (xi_ap xi_r0_65).1
theorem xi_r0_66 : xi_ok code (xi_0_67 ++ (xi_0_68 ++ (xi_0_69 ++ (xi_0_70 ++ (xi_0_71 ++ (xi_0_72 ++ (xi_0_73))))))) = true := (xi_ap xi_r0_65).2
theorem xi_ok0_67 : xi_ok code xi_0_67 = true := (xi_ap xi_r0_66).1
theorem xi_r0_67 : xi_ok code (xi_0_68 ++ (xi_0_69 ++ (xi_0_70 ++ (xi_0_71 ++ (xi_0_72 ++ (xi_0_73)))))) = true := (xi_ap xi_r0_66).2
theorem xi_ok0_68 : xi_ok code xi_0_68 = true := (xi_ap xi_r0_67).1
theorem xi_r0_68 : xi_ok code (xi_0_69 ++ (xi_0_70 ++ (xi_0_71 ++ (xi_0_72 ++ (xi_0_73))))) = true := (xi_ap xi_r0_67).2
theorem xi_ok0_69 : xi_ok code xi_0_69 = true := (xi_ap xi_r0_68).1
theorem xi_r0_69 : xi_ok code (xi_0_70 ++ (xi_0_71 ++ (xi_0_72 ++ (xi_0_73)))) = true := (xi_ap xi_r0_68).2
theorem xi_ok0_70 : xi_ok code xi_0_70 = true := (xi_ap xi_r0_69).1
theorem xi_r0_70 : xi_ok code (xi_0_71 ++ (xi_0_72 ++ (xi_0_73))) = true := (xi_ap xi_r0_69).2
theorem xi_ok0_71 : xi_ok code xi_0_71 = true := (xi_ap xi_r0_70).1
theorem xi_r0_71 : xi_ok code (xi_0_72 ++ (xi_0_73)) = true := (xi_ap xi_r0_70).2
theorem xi_ok0_72 : xi_ok code xi_0_72 = true := (xi_ap xi_r0_71).1
theorem xi_r0_72 : xi_ok code (xi_0_73) = true := (xi_ap xi_r0_71).2
theorem xi_ok0_73 : xi_ok code xi_0_73 = true := xi_r0_72
noncomputable def xi_0 (pc : Nat) : XIs := cond (Nat.blt pc 1030) (cond (Nat.blt pc 590) (cond (Nat.blt pc 378) (cond (Nat.blt pc 267) (cond (Nat.blt pc 40) (cond (Nat.blt pc 27) (xi_0_0) (xi_0_1)) (cond (Nat.blt pc 244) (xi_0_2) (xi_0_3))) (cond (Nat.blt pc 310) (cond (Nat.blt pc 289) (xi_0_4) (xi_0_5)) (cond (Nat.blt pc 329) (xi_0_6) (cond (Nat.blt pc 353) (xi_0_7) (xi_0_8))))) (cond (Nat.blt pc 468) (cond (Nat.blt pc 419) (cond (Nat.blt pc 399) (xi_0_9) (xi_0_10)) (cond (Nat.blt pc 442) (xi_0_11) (xi_0_12))) (cond (Nat.blt pc 517) (cond (Nat.blt pc 491) (xi_0_13) (xi_0_14)) (cond (Nat.blt pc 543) (xi_0_15) (cond (Nat.blt pc 564) (xi_0_16) (xi_0_17)))))) (cond (Nat.blt pc 809) (cond (Nat.blt pc 682) (cond (Nat.blt pc 635) (cond (Nat.blt pc 613) (xi_0_18) (xi_0_19)) (cond (Nat.blt pc 658) (xi_0_20) (xi_0_21))) (cond (Nat.blt pc 736) (cond (Nat.blt pc 712) (xi_0_22) (xi_0_23)) (cond (Nat.blt pc 763) (xi_0_24) (cond (Nat.blt pc 787) (xi_0_25) (xi_0_26))))) (cond (Nat.blt pc 922) (cond (Nat.blt pc 853) (cond (Nat.blt pc 832) (xi_0_27) (xi_0_28)) (cond (Nat.blt pc 877) (xi_0_29) (cond (Nat.blt pc 898) (xi_0_30) (xi_0_31)))) (cond (Nat.blt pc 966) (cond (Nat.blt pc 943) (xi_0_32) (xi_0_33)) (cond (Nat.blt pc 988) (xi_0_34) (cond (Nat.blt pc 1007) (xi_0_35) (xi_0_36))))))) (cond (Nat.blt pc 1464) (cond (Nat.blt pc 1259) (cond (Nat.blt pc 1133) (cond (Nat.blt pc 1079) (cond (Nat.blt pc 1056) (xi_0_37) (xi_0_38)) (cond (Nat.blt pc 1109) (xi_0_39) (xi_0_40))) (cond (Nat.blt pc 1182) (cond (Nat.blt pc 1158) (xi_0_41) (xi_0_42)) (cond (Nat.blt pc 1208) (xi_0_43) (cond (Nat.blt pc 1233) (xi_0_44) (xi_0_45))))) (cond (Nat.blt pc 1346) (cond (Nat.blt pc 1304) (cond (Nat.blt pc 1280) (xi_0_46) (xi_0_47)) (cond (Nat.blt pc 1325) (xi_0_48) (xi_0_49))) (cond (Nat.blt pc 1389) (cond (Nat.blt pc 1368) (xi_0_50) (xi_0_51)) (cond (Nat.blt pc 1414) (xi_0_52) (cond (Nat.blt pc 1438) (xi_0_53) (xi_0_54)))))) (cond (Nat.blt pc 1679) (cond (Nat.blt pc 1558) (cond (Nat.blt pc 1513) (cond (Nat.blt pc 1491) (xi_0_55) (xi_0_56)) (cond (Nat.blt pc 1537) (xi_0_57) (xi_0_58))) (cond (Nat.blt pc 1601) (cond (Nat.blt pc 1579) (xi_0_59) (xi_0_60)) (cond (Nat.blt pc 1624) (xi_0_61) (cond (Nat.blt pc 1652) (xi_0_62) (xi_0_63))))) (cond (Nat.blt pc 1793) (cond (Nat.blt pc 1727) (cond (Nat.blt pc 1703) (xi_0_64) (xi_0_65)) (cond (Nat.blt pc 1751) (xi_0_66) (cond (Nat.blt pc 1771) (xi_0_67) (xi_0_68)))) (cond (Nat.blt pc 1837) (cond (Nat.blt pc 1812) (xi_0_69) (xi_0_70)) (cond (Nat.blt pc 1863) (xi_0_71) (cond (Nat.blt pc 1886) (xi_0_72) (xi_0_73)))))))
theorem xi_ok0 (pc : Nat) : xi_ok code (xi_0 pc) = true := xi_c (xi_c (xi_c (xi_c (xi_c (xi_c (xi_ok0_0) (xi_ok0_1)) (xi_c (xi_ok0_2) (xi_ok0_3))) (xi_c (xi_c (xi_ok0_4) (xi_ok0_5)) (xi_c (xi_ok0_6) (xi_c (xi_ok0_7) (xi_ok0_8))))) (xi_c (xi_c (xi_c (xi_ok0_9) (xi_ok0_10)) (xi_c (xi_ok0_11) (xi_ok0_12))) (xi_c (xi_c (xi_ok0_13) (xi_ok0_14)) (xi_c (xi_ok0_15) (xi_c (xi_ok0_16) (xi_ok0_17)))))) (xi_c (xi_c (xi_c (xi_c (xi_ok0_18) (xi_ok0_19)) (xi_c (xi_ok0_20) (xi_ok0_21))) (xi_c (xi_c (xi_ok0_22) (xi_ok0_23)) (xi_c (xi_ok0_24) (xi_c (xi_ok0_25) (xi_ok0_26))))) (xi_c (xi_c (xi_c (xi_ok0_27) (xi_ok0_28)) (xi_c (xi_ok0_29) (xi_c (xi_ok0_30) (xi_ok0_31)))) (xi_c (xi_c (xi_ok0_32) (xi_ok0_33)) (xi_c (xi_ok0_34) (xi_c (xi_ok0_35) (xi_ok0_36))))))) (xi_c (xi_c (xi_c (xi_c (xi_c (xi_ok0_37) (xi_ok0_38)) (xi_c (xi_ok0_39) (xi_ok0_40))) (xi_c (xi_c (xi_ok0_41) (xi_ok0_42)) (xi_c (xi_ok0_43) (xi_c (xi_ok0_44) (xi_ok0_45))))) (xi_c (xi_c (xi_c (xi_ok0_46) (xi_ok0_47)) (xi_c (xi_ok0_48) (xi_ok0_49))) (xi_c (xi_c (xi_ok0_50) (xi_ok0_51)) (xi_c (xi_ok0_52) (xi_c (xi_ok0_53) (xi_ok0_54)))))) (xi_c (xi_c (xi_c (xi_c (xi_ok0_55) (xi_ok0_56)) (xi_c (xi_ok0_57) (xi_ok0_58))) (xi_c (xi_c (xi_ok0_59) (xi_ok0_60)) (xi_c (xi_ok0_61) (xi_c (xi_ok0_62) (xi_ok0_63))))) (xi_c (xi_c (xi_c (xi_ok0_64) (xi_ok0_65)) (xi_c (xi_ok0_66) (xi_c (xi_ok0_67) (xi_ok0_68)))) (xi_c (xi_c (xi_ok0_69) (xi_ok0_70)) (xi_c (xi_ok0_71) (xi_c (xi_ok0_72) (xi_ok0_73)))))))
noncomputable def xi_1_0 : XIs := [(0, .aload_n 2, 1), (1, .iconst 0, 1), (2, .aload_n 0, 1), (3, .iload_n 1, 1), (4, .invokevirtual 7, 3), (7, .i2l, 1), (8, .lastore, 1), (9, .goto 9, 3), (12, .astore_n 3, 1), (13, .iconst 1, 1), (14, .ireturn, 1), (15, .astore_n 3, 1), (16, .iconst 2, 1), (17, .ireturn, 1), (18, .iconst 0, 1), (19, .ireturn, 1)]
set_option maxRecDepth 100000 in
theorem xi_w1 : xi_ok cL_node (xi_1_0) = true := dl_all _ _ (by decide +kernel)
theorem xi_ok1_0 : xi_ok cL_node xi_1_0 = true := xi_w1
noncomputable def xi_1 (pc : Nat) : XIs := xi_1_0
theorem xi_ok1 (pc : Nat) : xi_ok cL_node (xi_1 pc) = true := xi_ok1_0
noncomputable def xi_2_0 : XIs := [(0, .aload 6, 2), (2, .iconst 0, 1), (3, .aload_n 0, 1), (4, .iload_n 1, 1), (5, .iload_n 2, 1), (6, .iload_n 3, 1), (7, .iload 4, 2), (9, .iload 5, 2), (11, .invokevirtual 17, 3), (14, .i2l, 1), (15, .lastore, 1), (16, .goto 11, 3), (19, .astore 7, 2), (21, .iconst 1, 1), (22, .ireturn, 1), (23, .astore 7, 2)]
noncomputable def xi_2_1 : XIs := [(25, .iconst 2, 1), (26, .ireturn, 1), (27, .iconst 0, 1), (28, .ireturn, 1)]
set_option maxRecDepth 100000 in
theorem xi_w2 : xi_ok cL_arc (xi_2_0 ++ (xi_2_1)) = true := dl_all _ _ (by decide +kernel)
theorem xi_ok2_0 : xi_ok cL_arc xi_2_0 = true := (xi_ap xi_w2).1
theorem xi_r2_1 : xi_ok cL_arc (xi_2_1) = true := (xi_ap xi_w2).2
theorem xi_ok2_1 : xi_ok cL_arc xi_2_1 = true := xi_r2_1
noncomputable def xi_2 (pc : Nat) : XIs := cond (Nat.blt pc 25) (xi_2_0) (xi_2_1)
theorem xi_ok2 (pc : Nat) : xi_ok cL_arc (xi_2 pc) = true := xi_c (xi_ok2_0) (xi_ok2_1)
noncomputable def xi_3_0 : XIs := [(0, .aload_n 2, 1), (1, .iconst 0, 1), (2, .aload_n 0, 1), (3, .iload_n 1, 1), (4, .invokevirtual 21, 3), (7, .i2l, 1), (8, .lastore, 1), (9, .goto 9, 3), (12, .astore_n 3, 1), (13, .iconst 1, 1), (14, .ireturn, 1), (15, .astore_n 3, 1), (16, .iconst 2, 1), (17, .ireturn, 1), (18, .iconst 0, 1), (19, .ireturn, 1)]
set_option maxRecDepth 100000 in
theorem xi_w3 : xi_ok cL_take (xi_3_0) = true := dl_all _ _ (by decide +kernel)
theorem xi_ok3_0 : xi_ok cL_take xi_3_0 = true := xi_w3
noncomputable def xi_3 (pc : Nat) : XIs := xi_3_0
theorem xi_ok3 (pc : Nat) : xi_ok cL_take (xi_3 pc) = true := xi_ok3_0
noncomputable def xi_4_0 : XIs := [(0, .aload 4, 2), (2, .iconst 0, 1), (3, .aload_n 0, 1), (4, .iload_n 1, 1), (5, .iload_n 2, 1), (6, .iload_n 3, 1), (7, .invokevirtual 24, 3), (10, .i2l, 1), (11, .lastore, 1), (12, .goto 11, 3), (15, .astore 5, 2), (17, .iconst 1, 1), (18, .ireturn, 1), (19, .astore 5, 2), (21, .iconst 2, 1), (22, .ireturn, 1)]
noncomputable def xi_4_1 : XIs := [(23, .iconst 0, 1), (24, .ireturn, 1)]
set_option maxRecDepth 100000 in
theorem xi_w4 : xi_ok cL_set (xi_4_0 ++ (xi_4_1)) = true := dl_all _ _ (by decide +kernel)
theorem xi_ok4_0 : xi_ok cL_set xi_4_0 = true := (xi_ap xi_w4).1
theorem xi_r4_1 : xi_ok cL_set (xi_4_1) = true := (xi_ap xi_w4).2
theorem xi_ok4_1 : xi_ok cL_set xi_4_1 = true := xi_r4_1
noncomputable def xi_4 (pc : Nat) : XIs := cond (Nat.blt pc 23) (xi_4_0) (xi_4_1)
theorem xi_ok4 (pc : Nat) : xi_ok cL_set (xi_4 pc) = true := xi_c (xi_ok4_0) (xi_ok4_1)
noncomputable def xi_5_0 : XIs := [(0, .aload_n 3, 1), (1, .iconst 0, 1), (2, .aload_n 0, 1), (3, .iload_n 1, 1), (4, .iload_n 2, 1), (5, .invokevirtual 28, 3), (8, .i2l, 1), (9, .lastore, 1), (10, .goto 11, 3), (13, .astore 4, 2), (15, .iconst 1, 1), (16, .ireturn, 1), (17, .astore 4, 2), (19, .iconst 2, 1), (20, .ireturn, 1), (21, .iconst 0, 1)]
noncomputable def xi_5_1 : XIs := [(22, .ireturn, 1)]
set_option maxRecDepth 100000 in
theorem xi_w5 : xi_ok cL_label (xi_5_0 ++ (xi_5_1)) = true := dl_all _ _ (by decide +kernel)
theorem xi_ok5_0 : xi_ok cL_label xi_5_0 = true := (xi_ap xi_w5).1
theorem xi_r5_1 : xi_ok cL_label (xi_5_1) = true := (xi_ap xi_w5).2
theorem xi_ok5_1 : xi_ok cL_label xi_5_1 = true := xi_r5_1
noncomputable def xi_5 (pc : Nat) : XIs := cond (Nat.blt pc 22) (xi_5_0) (xi_5_1)
theorem xi_ok5 (pc : Nat) : xi_ok cL_label (xi_5 pc) = true := xi_c (xi_ok5_0) (xi_ok5_1)
noncomputable def xi_6_0 : XIs := [(0, .aload_n 2, 1), (1, .iconst 0, 1), (2, .aload_n 0, 1), (3, .iload_n 1, 1), (4, .invokevirtual 32, 3), (7, .i2l, 1), (8, .lastore, 1), (9, .goto 6, 3), (12, .astore_n 3, 1), (13, .iconst 1, 1), (14, .ireturn, 1), (15, .iconst 0, 1), (16, .ireturn, 1)]
set_option maxRecDepth 100000 in
theorem xi_w6 : xi_ok cL_view (xi_6_0) = true := dl_all _ _ (by decide +kernel)
theorem xi_ok6_0 : xi_ok cL_view xi_6_0 = true := xi_w6
noncomputable def xi_6 (pc : Nat) : XIs := xi_6_0
theorem xi_ok6 (pc : Nat) : xi_ok cL_view (xi_6 pc) = true := xi_ok6_0
noncomputable def xi_7_0 : XIs := [(0, .aload_n 2, 1), (1, .iconst 0, 1), (2, .aload_n 0, 1), (3, .iload_n 1, 1), (4, .invokevirtual 35, 3), (7, .i2l, 1), (8, .lastore, 1), (9, .goto 6, 3), (12, .astore_n 3, 1), (13, .iconst 1, 1), (14, .ireturn, 1), (15, .iconst 0, 1), (16, .ireturn, 1)]
set_option maxRecDepth 100000 in
theorem xi_w7 : xi_ok cL_size (xi_7_0) = true := dl_all _ _ (by decide +kernel)
theorem xi_ok7_0 : xi_ok cL_size xi_7_0 = true := xi_w7
noncomputable def xi_7 (pc : Nat) : XIs := xi_7_0
theorem xi_ok7 (pc : Nat) : xi_ok cL_size (xi_7 pc) = true := xi_ok7_0
noncomputable def xi_8_0 : XIs := [(0, .aload_n 3, 1), (1, .iconst 0, 1), (2, .aload_n 0, 1), (3, .iload_n 1, 1), (4, .iload_n 2, 1), (5, .invokevirtual 38, 3), (8, .lastore, 1), (9, .goto 7, 3), (12, .astore 4, 2), (14, .iconst 1, 1), (15, .ireturn, 1), (16, .iconst 0, 1), (17, .ireturn, 1)]
set_option maxRecDepth 100000 in
theorem xi_w8 : xi_ok cL_told (xi_8_0) = true := dl_all _ _ (by decide +kernel)
theorem xi_ok8_0 : xi_ok cL_told xi_8_0 = true := xi_w8
noncomputable def xi_8 (pc : Nat) : XIs := xi_8_0
theorem xi_ok8 (pc : Nat) : xi_ok cL_told (xi_8 pc) = true := xi_ok8_0
noncomputable def xi_9_0 : XIs := [(0, .aload_n 2, 1), (1, .iconst 0, 1), (2, .aload_n 0, 1), (3, .iload_n 1, 1), (4, .invokevirtual 42, 3), (7, .i2l, 1), (8, .lastore, 1), (9, .goto 6, 3), (12, .astore_n 3, 1), (13, .iconst 1, 1), (14, .ireturn, 1), (15, .iconst 0, 1), (16, .ireturn, 1)]
set_option maxRecDepth 100000 in
theorem xi_w9 : xi_ok cL_labelOf (xi_9_0) = true := dl_all _ _ (by decide +kernel)
theorem xi_ok9_0 : xi_ok cL_labelOf xi_9_0 = true := xi_w9
noncomputable def xi_9 (pc : Nat) : XIs := xi_9_0
theorem xi_ok9 (pc : Nat) : xi_ok cL_labelOf (xi_9 pc) = true := xi_ok9_0
noncomputable def xi_10_0 : XIs := [(0, .aload 4, 2), (2, .iconst 0, 1), (3, .aload_n 0, 1), (4, .iload_n 1, 1), (5, .iload_n 2, 1), (6, .iload_n 3, 1), (7, .invokevirtual 45, 3), (10, .i2l, 1), (11, .lastore, 1), (12, .goto 7, 3), (15, .astore 5, 2), (17, .iconst 1, 1), (18, .ireturn, 1), (19, .iconst 0, 1), (20, .ireturn, 1)]
set_option maxRecDepth 100000 in
theorem xi_w10 : xi_ok cL_arcAt (xi_10_0) = true := dl_all _ _ (by decide +kernel)
theorem xi_ok10_0 : xi_ok cL_arcAt xi_10_0 = true := xi_w10
noncomputable def xi_10 (pc : Nat) : XIs := xi_10_0
theorem xi_ok10 (pc : Nat) : xi_ok cL_arcAt (xi_10 pc) = true := xi_ok10_0
noncomputable def xi_11_0 : XIs := [(0, .aload_n 2, 1), (1, .iconst 0, 1), (2, .aload_n 0, 1), (3, .iload_n 1, 1), (4, .invokevirtual 48, 3), (7, .i2l, 1), (8, .lastore, 1), (9, .goto 9, 3), (12, .astore_n 3, 1), (13, .iconst 1, 1), (14, .ireturn, 1), (15, .astore_n 3, 1), (16, .iconst 2, 1), (17, .ireturn, 1), (18, .iconst 0, 1), (19, .ireturn, 1)]
set_option maxRecDepth 100000 in
theorem xi_w11 : xi_ok cL_type (xi_11_0) = true := dl_all _ _ (by decide +kernel)
theorem xi_ok11_0 : xi_ok cL_type xi_11_0 = true := xi_w11
noncomputable def xi_11 (pc : Nat) : XIs := xi_11_0
theorem xi_ok11 (pc : Nat) : xi_ok cL_type (xi_11 pc) = true := xi_ok11_0
noncomputable def xi_12_0 : XIs := [(0, .aload_n 2, 1), (1, .iconst 0, 1), (2, .aload_n 0, 1), (3, .iload_n 1, 1), (4, .invokevirtual 51, 3), (7, .i2l, 1), (8, .lastore, 1), (9, .goto 6, 3), (12, .astore_n 3, 1), (13, .iconst 1, 1), (14, .ireturn, 1), (15, .iconst 0, 1), (16, .ireturn, 1)]
set_option maxRecDepth 100000 in
theorem xi_w12 : xi_ok cL_fault (xi_12_0) = true := dl_all _ _ (by decide +kernel)
theorem xi_ok12_0 : xi_ok cL_fault xi_12_0 = true := xi_w12
noncomputable def xi_12 (pc : Nat) : XIs := xi_12_0
theorem xi_ok12 (pc : Nat) : xi_ok cL_fault (xi_12 pc) = true := xi_ok12_0
noncomputable def xi_13_0 : XIs := [(0, .aload_n 2, 1), (1, .iconst 0, 1), (2, .aload_n 0, 1), (3, .iload_n 1, 1), (4, .invokevirtual 54, 3), (7, .i2l, 1), (8, .lastore, 1), (9, .goto 6, 3), (12, .astore_n 3, 1), (13, .iconst 1, 1), (14, .ireturn, 1), (15, .iconst 0, 1), (16, .ireturn, 1)]
set_option maxRecDepth 100000 in
theorem xi_w13 : xi_ok cL_printed (xi_13_0) = true := dl_all _ _ (by decide +kernel)
theorem xi_ok13_0 : xi_ok cL_printed xi_13_0 = true := xi_w13
noncomputable def xi_13 (pc : Nat) : XIs := xi_13_0
theorem xi_ok13 (pc : Nat) : xi_ok cL_printed (xi_13 pc) = true := xi_ok13_0
noncomputable def xi_14_0 : XIs := [(0, .aload_n 3, 1), (1, .iconst 0, 1), (2, .aload_n 0, 1), (3, .iload_n 1, 1), (4, .iload_n 2, 1), (5, .invokevirtual 57, 3), (8, .lastore, 1), (9, .goto 7, 3), (12, .astore 4, 2), (14, .iconst 1, 1), (15, .ireturn, 1), (16, .iconst 0, 1), (17, .ireturn, 1)]
set_option maxRecDepth 100000 in
theorem xi_w14 : xi_ok cL_distance (xi_14_0) = true := dl_all _ _ (by decide +kernel)
theorem xi_ok14_0 : xi_ok cL_distance xi_14_0 = true := xi_w14
noncomputable def xi_14 (pc : Nat) : XIs := xi_14_0
theorem xi_ok14 (pc : Nat) : xi_ok cL_distance (xi_14 pc) = true := xi_ok14_0
noncomputable def xi_15_0 : XIs := [(0, .aload 4, 2), (2, .iconst 0, 1), (3, .aload_n 0, 1), (4, .iload_n 1, 1), (5, .iload_n 2, 1), (6, .iload_n 3, 1), (7, .invokevirtual 60, 3), (10, .i2l, 1), (11, .lastore, 1), (12, .goto 7, 3), (15, .astore 5, 2), (17, .iconst 1, 1), (18, .ireturn, 1), (19, .iconst 0, 1), (20, .ireturn, 1)]
set_option maxRecDepth 100000 in
theorem xi_w15 : xi_ok cL_way (xi_15_0) = true := dl_all _ _ (by decide +kernel)
theorem xi_ok15_0 : xi_ok cL_way xi_15_0 = true := xi_w15
noncomputable def xi_15 (pc : Nat) : XIs := xi_15_0
theorem xi_ok15 (pc : Nat) : xi_ok cL_way (xi_15 pc) = true := xi_ok15_0
noncomputable def xi_16_0 : XIs := [(0, .aload_n 3, 1), (1, .iconst 0, 1), (2, .aload_n 0, 1), (3, .iload_n 1, 1), (4, .iload_n 2, 1), (5, .invokevirtual 63, 3), (8, .i2l, 1), (9, .lastore, 1), (10, .goto 7, 3), (13, .astore 4, 2), (15, .iconst 1, 1), (16, .ireturn, 1), (17, .iconst 0, 1), (18, .ireturn, 1)]
set_option maxRecDepth 100000 in
theorem xi_w16 : xi_ok cL_width (xi_16_0) = true := dl_all _ _ (by decide +kernel)
theorem xi_ok16_0 : xi_ok cL_width xi_16_0 = true := xi_w16
noncomputable def xi_16 (pc : Nat) : XIs := xi_16_0
theorem xi_ok16 (pc : Nat) : xi_ok cL_width (xi_16 pc) = true := xi_ok16_0
noncomputable def xi_17_0 : XIs := [(0, .aload_n 3, 1), (1, .iconst 0, 1), (2, .aload_n 0, 1), (3, .iload_n 1, 1), (4, .iload_n 2, 1), (5, .invokevirtual 66, 3), (8, .i2l, 1), (9, .lastore, 1), (10, .goto 7, 3), (13, .astore 4, 2), (15, .iconst 1, 1), (16, .ireturn, 1), (17, .iconst 0, 1), (18, .ireturn, 1)]
set_option maxRecDepth 100000 in
theorem xi_w17 : xi_ok cL_shorts (xi_17_0) = true := dl_all _ _ (by decide +kernel)
theorem xi_ok17_0 : xi_ok cL_shorts xi_17_0 = true := xi_w17
noncomputable def xi_17 (pc : Nat) : XIs := xi_17_0
theorem xi_ok17 (pc : Nat) : xi_ok cL_shorts (xi_17 pc) = true := xi_ok17_0
noncomputable def xi_18_0 : XIs := [(0, .aload 5, 2), (2, .iconst 0, 1), (3, .aload_n 0, 1), (4, .iload_n 1, 1), (5, .iload_n 2, 1), (6, .iload_n 3, 1), (7, .iload 4, 2), (9, .invokevirtual 69, 3), (12, .i2l, 1), (13, .lastore, 1), (14, .goto 7, 3), (17, .astore 6, 2), (19, .iconst 1, 1), (20, .ireturn, 1), (21, .iconst 0, 1), (22, .ireturn, 1)]
set_option maxRecDepth 100000 in
theorem xi_w18 : xi_ok cL_shortArc (xi_18_0) = true := dl_all _ _ (by decide +kernel)
theorem xi_ok18_0 : xi_ok cL_shortArc xi_18_0 = true := xi_w18
noncomputable def xi_18 (pc : Nat) : XIs := xi_18_0
theorem xi_ok18 (pc : Nat) : xi_ok cL_shortArc (xi_18 pc) = true := xi_ok18_0
noncomputable def xi_19_0 : XIs := [(0, .aload_n 3, 1), (1, .iconst 0, 1), (2, .aload_n 0, 1), (3, .iload_n 1, 1), (4, .iload_n 2, 1), (5, .invokevirtual 73, 3), (8, .i2l, 1), (9, .lastore, 1), (10, .goto 7, 3), (13, .astore 4, 2), (15, .iconst 1, 1), (16, .ireturn, 1), (17, .iconst 0, 1), (18, .ireturn, 1)]
set_option maxRecDepth 100000 in
theorem xi_w19 : xi_ok cL_part (xi_19_0) = true := dl_all _ _ (by decide +kernel)
theorem xi_ok19_0 : xi_ok cL_part xi_19_0 = true := xi_w19
noncomputable def xi_19 (pc : Nat) : XIs := xi_19_0
theorem xi_ok19 (pc : Nat) : xi_ok cL_part (xi_19 pc) = true := xi_ok19_0
noncomputable def xi_20_0 : XIs := [(0, .aload_n 2, 1), (1, .iconst 0, 1), (2, .aload_n 0, 1), (3, .iload_n 1, 1), (4, .invokevirtual 76, 3), (7, .ifCond .eq 7, 3), (10, .lconst 1, 1), (11, .goto 4, 3), (14, .lconst 0, 1), (15, .lastore, 1), (16, .goto 6, 3), (19, .astore_n 3, 1), (20, .iconst 1, 1), (21, .ireturn, 1), (22, .iconst 0, 1), (23, .ireturn, 1)]
set_option maxRecDepth 100000 in
theorem xi_w20 : xi_ok cL_bridge (xi_20_0) = true := dl_all _ _ (by decide +kernel)
theorem xi_ok20_0 : xi_ok cL_bridge xi_20_0 = true := xi_w20
noncomputable def xi_20 (pc : Nat) : XIs := xi_20_0
theorem xi_ok20 (pc : Nat) : xi_ok cL_bridge (xi_20 pc) = true := xi_ok20_0
noncomputable def xi_21_0 : XIs := [(0, .aload_n 2, 1), (1, .iconst 0, 1), (2, .aload_n 0, 1), (3, .iload_n 1, 1), (4, .invokevirtual 80, 3), (7, .ifCond .eq 7, 3), (10, .lconst 1, 1), (11, .goto 4, 3), (14, .lconst 0, 1), (15, .lastore, 1), (16, .goto 6, 3), (19, .astore_n 3, 1), (20, .iconst 1, 1), (21, .ireturn, 1), (22, .iconst 0, 1), (23, .ireturn, 1)]
set_option maxRecDepth 100000 in
theorem xi_w21 : xi_ok cL_cut (xi_21_0) = true := dl_all _ _ (by decide +kernel)
theorem xi_ok21_0 : xi_ok cL_cut xi_21_0 = true := xi_w21
noncomputable def xi_21 (pc : Nat) : XIs := xi_21_0
theorem xi_ok21 (pc : Nat) : xi_ok cL_cut (xi_21 pc) = true := xi_ok21_0
noncomputable def xi_22_0 : XIs := [(0, .aload_n 2, 1), (1, .iconst 0, 1), (2, .aload_n 0, 1), (3, .iload_n 1, 1), (4, .invokevirtual 83, 3), (7, .i2l, 1), (8, .lastore, 1), (9, .goto 6, 3), (12, .astore_n 3, 1), (13, .iconst 1, 1), (14, .ireturn, 1), (15, .iconst 0, 1), (16, .ireturn, 1)]
set_option maxRecDepth 100000 in
theorem xi_w22 : xi_ok cL_order (xi_22_0) = true := dl_all _ _ (by decide +kernel)
theorem xi_ok22_0 : xi_ok cL_order xi_22_0 = true := xi_w22
noncomputable def xi_22 (pc : Nat) : XIs := xi_22_0
theorem xi_ok22 (pc : Nat) : xi_ok cL_order (xi_22 pc) = true := xi_ok22_0
noncomputable def xi_23_0 : XIs := [(0, .aload_n 2, 1), (1, .iconst 0, 1), (2, .aload_n 0, 1), (3, .iload_n 1, 1), (4, .invokevirtual 86, 3), (7, .i2l, 1), (8, .lastore, 1), (9, .goto 6, 3), (12, .astore_n 3, 1), (13, .iconst 1, 1), (14, .ireturn, 1), (15, .iconst 0, 1), (16, .ireturn, 1)]
set_option maxRecDepth 100000 in
theorem xi_w23 : xi_ok cL_core (xi_23_0) = true := dl_all _ _ (by decide +kernel)
theorem xi_ok23_0 : xi_ok cL_core xi_23_0 = true := xi_w23
noncomputable def xi_23 (pc : Nat) : XIs := xi_23_0
theorem xi_ok23 (pc : Nat) : xi_ok cL_core (xi_23 pc) = true := xi_ok23_0
noncomputable def xi_24_0 : XIs := [(0, .aload_n 2, 1), (1, .iconst 0, 1), (2, .aload_n 0, 1), (3, .iload_n 1, 1), (4, .invokevirtual 89, 3), (7, .i2l, 1), (8, .lastore, 1), (9, .goto 6, 3), (12, .astore_n 3, 1), (13, .iconst 1, 1), (14, .ireturn, 1), (15, .iconst 0, 1), (16, .ireturn, 1)]
set_option maxRecDepth 100000 in
theorem xi_w24 : xi_ok cL_clique (xi_24_0) = true := dl_all _ _ (by decide +kernel)
theorem xi_ok24_0 : xi_ok cL_clique xi_24_0 = true := xi_w24
noncomputable def xi_24 (pc : Nat) : XIs := xi_24_0
theorem xi_ok24 (pc : Nat) : xi_ok cL_clique (xi_24 pc) = true := xi_ok24_0
noncomputable def xi_25_0 : XIs := [(0, .aload_n 2, 1), (1, .iconst 0, 1), (2, .aload_n 0, 1), (3, .iload_n 1, 1), (4, .invokevirtual 92, 3), (7, .i2l, 1), (8, .lastore, 1), (9, .goto 6, 3), (12, .astore_n 3, 1), (13, .iconst 1, 1), (14, .ireturn, 1), (15, .iconst 0, 1), (16, .ireturn, 1)]
set_option maxRecDepth 100000 in
theorem xi_w25 : xi_ok cL_colour (xi_25_0) = true := dl_all _ _ (by decide +kernel)
theorem xi_ok25_0 : xi_ok cL_colour xi_25_0 = true := xi_w25
noncomputable def xi_25 (pc : Nat) : XIs := xi_25_0
theorem xi_ok25 (pc : Nat) : xi_ok cL_colour (xi_25 pc) = true := xi_ok25_0
noncomputable def xi_26_0 : XIs := [(0, .aload_n 3, 1), (1, .iconst 0, 1), (2, .aload_n 0, 1), (3, .iload_n 1, 1), (4, .iload_n 2, 1), (5, .invokevirtual 95, 3), (8, .lastore, 1), (9, .goto 7, 3), (12, .astore 4, 2), (14, .iconst 1, 1), (15, .ireturn, 1), (16, .iconst 0, 1), (17, .ireturn, 1)]
set_option maxRecDepth 100000 in
theorem xi_w26 : xi_ok cL_flow (xi_26_0) = true := dl_all _ _ (by decide +kernel)
theorem xi_ok26_0 : xi_ok cL_flow xi_26_0 = true := xi_w26
noncomputable def xi_26 (pc : Nat) : XIs := xi_26_0
theorem xi_ok26 (pc : Nat) : xi_ok cL_flow (xi_26 pc) = true := xi_ok26_0
noncomputable def xi_27_0 : XIs := [(0, .aload 4, 2), (2, .iconst 0, 1), (3, .aload_n 0, 1), (4, .iload_n 1, 1), (5, .iload_n 2, 1), (6, .iload_n 3, 1), (7, .invokevirtual 98, 3), (10, .ifCond .eq 7, 3), (13, .lconst 1, 1), (14, .goto 4, 3), (17, .lconst 0, 1), (18, .lastore, 1), (19, .goto 7, 3), (22, .astore 5, 2), (24, .iconst 1, 1), (25, .ireturn, 1)]
noncomputable def xi_27_1 : XIs := [(26, .iconst 0, 1), (27, .ireturn, 1)]
set_option maxRecDepth 100000 in
theorem xi_w27 : xi_ok cL_side (xi_27_0 ++ (xi_27_1)) = true := dl_all _ _ (by decide +kernel)
theorem xi_ok27_0 : xi_ok cL_side xi_27_0 = true := (xi_ap xi_w27).1
theorem xi_r27_1 : xi_ok cL_side (xi_27_1) = true := (xi_ap xi_w27).2
theorem xi_ok27_1 : xi_ok cL_side xi_27_1 = true := xi_r27_1
noncomputable def xi_27 (pc : Nat) : XIs := cond (Nat.blt pc 26) (xi_27_0) (xi_27_1)
theorem xi_ok27 (pc : Nat) : xi_ok cL_side (xi_27 pc) = true := xi_c (xi_ok27_0) (xi_ok27_1)
noncomputable def xi_28_0 : XIs := [(0, .aload 4, 2), (2, .iconst 0, 1), (3, .aload_n 0, 1), (4, .iload_n 1, 1), (5, .iload_n 2, 1), (6, .iload_n 3, 1), (7, .invokevirtual 102, 3), (10, .lastore, 1), (11, .goto 7, 3), (14, .astore 5, 2), (16, .iconst 1, 1), (17, .ireturn, 1), (18, .iconst 0, 1), (19, .ireturn, 1)]
set_option maxRecDepth 100000 in
theorem xi_w28 : xi_ok cL_cost (xi_28_0) = true := dl_all _ _ (by decide +kernel)
theorem xi_ok28_0 : xi_ok cL_cost xi_28_0 = true := xi_w28
noncomputable def xi_28 (pc : Nat) : XIs := xi_28_0
theorem xi_ok28 (pc : Nat) : xi_ok cL_cost (xi_28 pc) = true := xi_ok28_0
noncomputable def xi_29_0 : XIs := [(0, .aload_n 2, 1), (1, .iconst 0, 1), (2, .aload_n 0, 1), (3, .iload_n 1, 1), (4, .invokevirtual 106, 3), (7, .lastore, 1), (8, .goto 6, 3), (11, .astore_n 3, 1), (12, .iconst 1, 1), (13, .ireturn, 1), (14, .iconst 0, 1), (15, .ireturn, 1)]
set_option maxRecDepth 100000 in
theorem xi_w29 : xi_ok cL_pairing (xi_29_0) = true := dl_all _ _ (by decide +kernel)
theorem xi_ok29_0 : xi_ok cL_pairing xi_29_0 = true := xi_w29
noncomputable def xi_29 (pc : Nat) : XIs := xi_29_0
theorem xi_ok29 (pc : Nat) : xi_ok cL_pairing (xi_29 pc) = true := xi_ok29_0
noncomputable def xi_30_0 : XIs := [(0, .aload_n 2, 1), (1, .iconst 0, 1), (2, .aload_n 0, 1), (3, .iload_n 1, 1), (4, .invokevirtual 110, 3), (7, .lastore, 1), (8, .goto 6, 3), (11, .astore_n 3, 1), (12, .iconst 1, 1), (13, .ireturn, 1), (14, .iconst 0, 1), (15, .ireturn, 1)]
set_option maxRecDepth 100000 in
theorem xi_w30 : xi_ok cL_tree (xi_30_0) = true := dl_all _ _ (by decide +kernel)
theorem xi_ok30_0 : xi_ok cL_tree xi_30_0 = true := xi_w30
noncomputable def xi_30 (pc : Nat) : XIs := xi_30_0
theorem xi_ok30 (pc : Nat) : xi_ok cL_tree (xi_30 pc) = true := xi_ok30_0
noncomputable def xi_31_0 : XIs := [(0, .aload_n 2, 1), (1, .iconst 0, 1), (2, .aload_n 0, 1), (3, .iload_n 1, 1), (4, .invokevirtual 113, 3), (7, .ifCond .eq 7, 3), (10, .lconst 1, 1), (11, .goto 4, 3), (14, .lconst 0, 1), (15, .lastore, 1), (16, .goto 6, 3), (19, .astore_n 3, 1), (20, .iconst 1, 1), (21, .ireturn, 1), (22, .iconst 0, 1), (23, .ireturn, 1)]
set_option maxRecDepth 100000 in
theorem xi_w31 : xi_ok cL_span (xi_31_0) = true := dl_all _ _ (by decide +kernel)
theorem xi_ok31_0 : xi_ok cL_span xi_31_0 = true := xi_w31
noncomputable def xi_31 (pc : Nat) : XIs := xi_31_0
theorem xi_ok31 (pc : Nat) : xi_ok cL_span (xi_31 pc) = true := xi_ok31_0
noncomputable def xi_32_0 : XIs := [(0, .aload_n 3, 1), (1, .iconst 0, 1), (2, .aload_n 0, 1), (3, .iload_n 1, 1), (4, .iload_n 2, 1), (5, .invokevirtual 116, 3), (8, .lastore, 1), (9, .goto 7, 3), (12, .astore 4, 2), (14, .iconst 1, 1), (15, .ireturn, 1), (16, .iconst 0, 1), (17, .ireturn, 1)]
set_option maxRecDepth 100000 in
theorem xi_w32 : xi_ok cL_rank (xi_32_0) = true := dl_all _ _ (by decide +kernel)
theorem xi_ok32_0 : xi_ok cL_rank xi_32_0 = true := xi_w32
noncomputable def xi_32 (pc : Nat) : XIs := xi_32_0
theorem xi_ok32 (pc : Nat) : xi_ok cL_rank (xi_32 pc) = true := xi_ok32_0
noncomputable def xi_33_0 : XIs := [(0, .aload 5, 2), (2, .iconst 0, 1), (3, .aload_n 0, 1), (4, .iload_n 1, 1), (5, .iload_n 2, 1), (6, .iload_n 3, 1), (7, .iload 4, 2), (9, .invokevirtual 119, 3), (12, .i2l, 1), (13, .lastore, 1), (14, .goto 7, 3), (17, .astore 6, 2), (19, .iconst 1, 1), (20, .ireturn, 1), (21, .iconst 0, 1), (22, .ireturn, 1)]
set_option maxRecDepth 100000 in
theorem xi_w33 : xi_ok cL_shortest (xi_33_0) = true := dl_all _ _ (by decide +kernel)
theorem xi_ok33_0 : xi_ok cL_shortest xi_33_0 = true := xi_w33
noncomputable def xi_33 (pc : Nat) : XIs := xi_33_0
theorem xi_ok33 (pc : Nat) : xi_ok cL_shortest (xi_33 pc) = true := xi_ok33_0
noncomputable def xi_34_0 : XIs := [(0, .aload_n 2, 1), (1, .iconst 0, 1), (2, .aload_n 0, 1), (3, .iload_n 1, 1), (4, .invokevirtual 122, 3), (7, .i2l, 1), (8, .lastore, 1), (9, .goto 6, 3), (12, .astore_n 3, 1), (13, .iconst 1, 1), (14, .ireturn, 1), (15, .iconst 0, 1), (16, .ireturn, 1)]
set_option maxRecDepth 100000 in
theorem xi_w34 : xi_ok cL_group (xi_34_0) = true := dl_all _ _ (by decide +kernel)
theorem xi_ok34_0 : xi_ok cL_group xi_34_0 = true := xi_w34
noncomputable def xi_34 (pc : Nat) : XIs := xi_34_0
theorem xi_ok34 (pc : Nat) : xi_ok cL_group (xi_34 pc) = true := xi_ok34_0
noncomputable def xi_35_0 : XIs := [(0, .aload_n 2, 1), (1, .iconst 0, 1), (2, .aload_n 0, 1), (3, .iload_n 1, 1), (4, .invokevirtual 125, 3), (7, .lastore, 1), (8, .goto 6, 3), (11, .astore_n 3, 1), (12, .iconst 1, 1), (13, .ireturn, 1), (14, .iconst 0, 1), (15, .ireturn, 1)]
set_option maxRecDepth 100000 in
theorem xi_w35 : xi_ok cL_figures (xi_35_0) = true := dl_all _ _ (by decide +kernel)
theorem xi_ok35_0 : xi_ok cL_figures xi_35_0 = true := xi_w35
noncomputable def xi_35 (pc : Nat) : XIs := xi_35_0
theorem xi_ok35 (pc : Nat) : xi_ok cL_figures (xi_35 pc) = true := xi_ok35_0
noncomputable def xi_36_0 : XIs := [(0, .aload_n 3, 1), (1, .iconst 0, 1), (2, .aload_n 0, 1), (3, .iload_n 1, 1), (4, .iload_n 2, 1), (5, .invokevirtual 128, 3), (8, .i2l, 1), (9, .lastore, 1), (10, .goto 7, 3), (13, .astore 4, 2), (15, .iconst 1, 1), (16, .ireturn, 1), (17, .iconst 0, 1), (18, .ireturn, 1)]
set_option maxRecDepth 100000 in
theorem xi_w36 : xi_ok cL_fits (xi_36_0) = true := dl_all _ _ (by decide +kernel)
theorem xi_ok36_0 : xi_ok cL_fits xi_36_0 = true := xi_w36
noncomputable def xi_36 (pc : Nat) : XIs := xi_36_0
theorem xi_ok36 (pc : Nat) : xi_ok cL_fits (xi_36 pc) = true := xi_ok36_0
noncomputable def xi_37_0 : XIs := [(0, .aload 6, 2), (2, .iconst 0, 1), (3, .aload_n 0, 1), (4, .iload_n 1, 1), (5, .iload_n 2, 1), (6, .iload_n 3, 1), (7, .lload 4, 2), (9, .invokevirtual 131, 3), (12, .i2l, 1), (13, .lastore, 1), (14, .goto 7, 3), (17, .astore 7, 2), (19, .iconst 1, 1), (20, .ireturn, 1), (21, .iconst 0, 1), (22, .ireturn, 1)]
set_option maxRecDepth 100000 in
theorem xi_w37 : xi_ok cL_run (xi_37_0) = true := dl_all _ _ (by decide +kernel)
theorem xi_ok37_0 : xi_ok cL_run xi_37_0 = true := xi_w37
noncomputable def xi_37 (pc : Nat) : XIs := xi_37_0
theorem xi_ok37 (pc : Nat) : xi_ok cL_run (xi_37 pc) = true := xi_ok37_0
noncomputable def xi_38_0 : XIs := [(0, .aload_n 2, 1), (1, .iconst 0, 1), (2, .aload_n 0, 1), (3, .iload_n 1, 1), (4, .invokevirtual 135, 3), (7, .lastore, 1), (8, .goto 6, 3), (11, .astore_n 3, 1), (12, .iconst 1, 1), (13, .ireturn, 1), (14, .iconst 0, 1), (15, .ireturn, 1)]
set_option maxRecDepth 100000 in
theorem xi_w38 : xi_ok cL_state (xi_38_0) = true := dl_all _ _ (by decide +kernel)
theorem xi_ok38_0 : xi_ok cL_state xi_38_0 = true := xi_w38
noncomputable def xi_38 (pc : Nat) : XIs := xi_38_0
theorem xi_ok38 (pc : Nat) : xi_ok cL_state (xi_38 pc) = true := xi_ok38_0
noncomputable def xi_39_0 : XIs := [(0, .aload_n 2, 1), (1, .iconst 0, 1), (2, .aload_n 0, 1), (3, .iload_n 1, 1), (4, .invokevirtual 138, 3), (7, .i2l, 1), (8, .lastore, 1), (9, .goto 6, 3), (12, .astore_n 3, 1), (13, .iconst 1, 1), (14, .ireturn, 1), (15, .iconst 0, 1), (16, .ireturn, 1)]
set_option maxRecDepth 100000 in
theorem xi_w39 : xi_ok cL_letters (xi_39_0) = true := dl_all _ _ (by decide +kernel)
theorem xi_ok39_0 : xi_ok cL_letters xi_39_0 = true := xi_w39
noncomputable def xi_39 (pc : Nat) : XIs := xi_39_0
theorem xi_ok39 (pc : Nat) : xi_ok cL_letters (xi_39 pc) = true := xi_ok39_0
noncomputable def xi_40_0 : XIs := [(0, .aload_n 0, 1), (1, .invokespecial 3, 3), (4, .aload_n 0, 1), (5, .iconst (-1), 1), (6, .putfield 9, 3), (9, .aload_n 0, 1), (10, .iconst (-1), 1), (11, .putfield 15, 3), (14, .aload_n 0, 1), (15, .bipush 32, 2), (17, .newarray .int, 2), (19, .putfield 18, 3), (22, .aload_n 0, 1), (23, .bipush 32, 2), (25, .newarray .int, 2), (27, .putfield 22, 3)]
noncomputable def xi_40_1 : XIs := [(30, .aload_n 0, 1), (31, .bipush 32, 2), (33, .newarray .int, 2), (35, .putfield 25, 3), (38, .aload_n 0, 1), (39, .bipush 32, 2), (41, .newarray .int, 2), (43, .putfield 28, 3), (46, .return_, 1)]
set_option maxRecDepth 100000 in
theorem xi_w40 : xi_ok cX0_init (xi_40_0 ++ (xi_40_1)) = true := dl_all _ _ (by decide +kernel)
theorem xi_ok40_0 : xi_ok cX0_init xi_40_0 = true := (xi_ap xi_w40).1
theorem xi_r40_1 : xi_ok cX0_init (xi_40_1) = true := (xi_ap xi_w40).2
theorem xi_ok40_1 : xi_ok cX0_init xi_40_1 = true := xi_r40_1
noncomputable def xi_40 (pc : Nat) : XIs := cond (Nat.blt pc 30) (xi_40_0) (xi_40_1)
theorem xi_ok40 (pc : Nat) : xi_ok cX0_init (xi_40 pc) = true := xi_c (xi_ok40_0) (xi_ok40_1)
noncomputable def xi_41_0 : XIs := [(0, .aload_n 0, 1), (1, .getfield 9, 3), (4, .aload_n 1, 1), (5, .getfield 31, 3), (8, .if_icmp .eq 34, 3), (11, .aload_n 0, 1), (12, .aload_n 1, 1), (13, .getfield 31, 3), (16, .putfield 9, 3), (19, .aload_n 1, 1), (20, .invokevirtual 36, 3), (23, .aload_n 0, 1), (24, .iconst 0, 1), (25, .putfield 39, 3), (28, .aload_n 0, 1), (29, .aload_n 1, 1)]
noncomputable def xi_41_1 : XIs := [(30, .getfield 42, 3), (33, .iconst 0, 1), (34, .aload_n 1, 1), (35, .invokevirtual 45, 3), (38, .iconst 0, 1), (39, .invokevirtual 49, 3), (42, .aload_n 0, 1), (43, .getfield 39, 3), (46, .ireturn, 1)]
set_option maxRecDepth 100000 in
theorem xi_w41 : xi_ok cX0_greatestClique (xi_41_0 ++ (xi_41_1)) = true := dl_all _ _ (by decide +kernel)
theorem xi_ok41_0 : xi_ok cX0_greatestClique xi_41_0 = true := (xi_ap xi_w41).1
theorem xi_r41_1 : xi_ok cX0_greatestClique (xi_41_1) = true := (xi_ap xi_w41).2
theorem xi_ok41_1 : xi_ok cX0_greatestClique xi_41_1 = true := xi_r41_1
noncomputable def xi_41 (pc : Nat) : XIs := cond (Nat.blt pc 30) (xi_41_0) (xi_41_1)
theorem xi_ok41 (pc : Nat) : xi_ok cX0_greatestClique (xi_41 pc) = true := xi_c (xi_ok41_0) (xi_ok41_1)
noncomputable def xi_42_0 : XIs := [(0, .iload_n 2, 1), (1, .invokestatic 53, 3), (4, .istore 5, 2), (6, .iload 5, 2), (8, .aload_n 0, 1), (9, .getfield 39, 3), (12, .invokestatic 53, 3), (15, .if_icmp .le 8, 3), (18, .aload_n 0, 1), (19, .iload_n 2, 1), (20, .putfield 39, 3), (23, .iload 4, 2), (25, .bipush 32, 2), (27, .if_icmp .lt 4, 3), (30, .return_, 1), (31, .iload_n 3, 1)]
noncomputable def xi_42_1 : XIs := [(32, .istore 6, 2), (34, .iload 6, 2), (36, .ifCond .eq 63, 3), (39, .iload 5, 2), (41, .iload 6, 2), (43, .invokestatic 53, 3), (46, .iadd, 1), (47, .aload_n 0, 1), (48, .getfield 39, 3), (51, .invokestatic 53, 3), (54, .if_icmp .gt 4, 3), (57, .return_, 1), (58, .iload 6, 2), (60, .invokestatic 59, 3), (63, .istore 7, 2), (65, .aload_n 0, 1)]
noncomputable def xi_42_2 : XIs := [(66, .aload_n 1, 1), (67, .iload_n 2, 1), (68, .iconst 1, 1), (69, .iload 7, 2), (71, .ishl, 1), (72, .ior, 1), (73, .iload 6, 2), (75, .aload_n 1, 1), (76, .iload 7, 2), (78, .iaload, 1), (79, .iand, 1), (80, .iload 4, 2), (82, .iconst 1, 1), (83, .iadd, 1), (84, .invokevirtual 49, 3), (87, .iload 6, 2)]
noncomputable def xi_42_3 : XIs := [(89, .iload 6, 2), (91, .iconst 1, 1), (92, .isub, 1), (93, .iand, 1), (94, .istore 6, 2), (96, .goto (-62), 3), (99, .return_, 1)]
set_option maxRecDepth 100000 in
theorem xi_w42 : xi_ok cX0_growClique (xi_42_0 ++ (xi_42_1 ++ (xi_42_2 ++ (xi_42_3)))) = true := dl_all _ _ (by decide +kernel)
theorem xi_ok42_0 : xi_ok cX0_growClique xi_42_0 = true := (xi_ap xi_w42).1
theorem xi_r42_1 : xi_ok cX0_growClique (xi_42_1 ++ (xi_42_2 ++ (xi_42_3))) = true := (xi_ap xi_w42).2
theorem xi_ok42_1 : xi_ok cX0_growClique xi_42_1 = true := (xi_ap xi_r42_1).1
theorem xi_r42_2 : xi_ok cX0_growClique (xi_42_2 ++ (xi_42_3)) = true := (xi_ap xi_r42_1).2
theorem xi_ok42_2 : xi_ok cX0_growClique xi_42_2 = true := (xi_ap xi_r42_2).1
theorem xi_r42_3 : xi_ok cX0_growClique (xi_42_3) = true := (xi_ap xi_r42_2).2
theorem xi_ok42_3 : xi_ok cX0_growClique xi_42_3 = true := xi_r42_3
noncomputable def xi_42 (pc : Nat) : XIs := cond (Nat.blt pc 66) (cond (Nat.blt pc 32) (xi_42_0) (xi_42_1)) (cond (Nat.blt pc 89) (xi_42_2) (xi_42_3))
theorem xi_ok42 (pc : Nat) : xi_ok cX0_growClique (xi_42 pc) = true := xi_c (xi_c (xi_ok42_0) (xi_ok42_1)) (xi_c (xi_ok42_2) (xi_ok42_3))
noncomputable def xi_43_0 : XIs := [(0, .aload_n 0, 1), (1, .getfield 15, 3), (4, .aload_n 1, 1), (5, .getfield 31, 3), (8, .if_icmp .eq 16, 3), (11, .aload_n 0, 1), (12, .aload_n 1, 1), (13, .getfield 31, 3), (16, .putfield 15, 3), (19, .aload_n 0, 1), (20, .aload_n 1, 1), (21, .invokevirtual 62, 3), (24, .aload_n 0, 1), (25, .getfield 28, 3), (28, .iload_n 2, 1), (29, .iaload, 1)]
noncomputable def xi_43_1 : XIs := [(30, .ireturn, 1)]
set_option maxRecDepth 100000 in
theorem xi_w43 : xi_ok cX0_colourOf (xi_43_0 ++ (xi_43_1)) = true := dl_all _ _ (by decide +kernel)
theorem xi_ok43_0 : xi_ok cX0_colourOf xi_43_0 = true := (xi_ap xi_w43).1
theorem xi_r43_1 : xi_ok cX0_colourOf (xi_43_1) = true := (xi_ap xi_w43).2
theorem xi_ok43_1 : xi_ok cX0_colourOf xi_43_1 = true := xi_r43_1
noncomputable def xi_43 (pc : Nat) : XIs := cond (Nat.blt pc 30) (xi_43_0) (xi_43_1)
theorem xi_ok43 (pc : Nat) : xi_ok cX0_colourOf (xi_43 pc) = true := xi_c (xi_ok43_0) (xi_ok43_1)
noncomputable def xi_44_0 : XIs := [(0, .aload_n 1, 1), (1, .invokevirtual 36, 3), (4, .aload_n 0, 1), (5, .iconst 1, 1), (6, .aload_n 0, 1), (7, .aload_n 1, 1), (8, .invokevirtual 66, 3), (11, .invokestatic 53, 3), (14, .invokestatic 70, 3), (17, .putfield 76, 3), (20, .aload_n 0, 1), (21, .iconst 0, 1), (22, .putfield 79, 3), (25, .aload_n 0, 1), (26, .getfield 18, 3), (29, .iconst 0, 1)]
noncomputable def xi_44_1 : XIs := [(30, .invokestatic 82, 3), (33, .aload_n 0, 1), (34, .getfield 76, 3), (37, .bipush 32, 2), (39, .if_icmp .ge 32, 3), (42, .aload_n 0, 1), (43, .aload_n 1, 1), (44, .getfield 42, 3), (47, .aload_n 1, 1), (48, .invokevirtual 45, 3), (51, .iconst 0, 1), (52, .invokevirtual 88, 3), (55, .ifCond .ne 16, 3), (58, .aload_n 0, 1), (59, .dup, 1), (60, .getfield 76, 3)]
noncomputable def xi_44_2 : XIs := [(63, .iconst 1, 1), (64, .iadd, 1), (65, .putfield 76, 3), (68, .goto (-35), 3), (71, .iconst 0, 1), (72, .istore_n 2, 1), (73, .iconst 0, 1), (74, .istore_n 3, 1), (75, .iload_n 3, 1), (76, .aload_n 1, 1), (77, .getfield 91, 3), (80, .if_icmp .ge 35, 3), (83, .aload_n 0, 1), (84, .getfield 28, 3), (87, .iload_n 3, 1), (88, .aload_n 0, 1)]
noncomputable def xi_44_3 : XIs := [(89, .aload_n 1, 1), (90, .iload_n 3, 1), (91, .iload_n 2, 1), (92, .invokevirtual 94, 3), (95, .iastore, 1), (96, .iload_n 2, 1), (97, .aload_n 0, 1), (98, .getfield 28, 3), (101, .iload_n 3, 1), (102, .iaload, 1), (103, .iconst 1, 1), (104, .iadd, 1), (105, .invokestatic 70, 3), (108, .istore_n 2, 1), (109, .iinc 3 1, 3), (112, .goto (-37), 3)]
noncomputable def xi_44_4 : XIs := [(115, .return_, 1)]
set_option maxRecDepth 100000 in
theorem xi_w44 : xi_ok cX0_makeColours (xi_44_0 ++ (xi_44_1 ++ (xi_44_2 ++ (xi_44_3 ++ (xi_44_4))))) = true := dl_all _ _ (by decide +kernel)
theorem xi_ok44_0 : xi_ok cX0_makeColours xi_44_0 = true := (xi_ap xi_w44).1
theorem xi_r44_1 : xi_ok cX0_makeColours (xi_44_1 ++ (xi_44_2 ++ (xi_44_3 ++ (xi_44_4)))) = true := (xi_ap xi_w44).2
theorem xi_ok44_1 : xi_ok cX0_makeColours xi_44_1 = true := (xi_ap xi_r44_1).1
theorem xi_r44_2 : xi_ok cX0_makeColours (xi_44_2 ++ (xi_44_3 ++ (xi_44_4))) = true := (xi_ap xi_r44_1).2
theorem xi_ok44_2 : xi_ok cX0_makeColours xi_44_2 = true := (xi_ap xi_r44_2).1
theorem xi_r44_3 : xi_ok cX0_makeColours (xi_44_3 ++ (xi_44_4)) = true := (xi_ap xi_r44_2).2
theorem xi_ok44_3 : xi_ok cX0_makeColours xi_44_3 = true := (xi_ap xi_r44_3).1
theorem xi_r44_4 : xi_ok cX0_makeColours (xi_44_4) = true := (xi_ap xi_r44_3).2
theorem xi_ok44_4 : xi_ok cX0_makeColours xi_44_4 = true := xi_r44_4
noncomputable def xi_44 (pc : Nat) : XIs := cond (Nat.blt pc 63) (cond (Nat.blt pc 30) (xi_44_0) (xi_44_1)) (cond (Nat.blt pc 89) (xi_44_2) (cond (Nat.blt pc 115) (xi_44_3) (xi_44_4)))
theorem xi_ok44 (pc : Nat) : xi_ok cX0_makeColours (xi_44 pc) = true := xi_c (xi_c (xi_ok44_0) (xi_ok44_1)) (xi_c (xi_ok44_2) (xi_c (xi_ok44_3) (xi_ok44_4)))
noncomputable def xi_45_0 : XIs := [(0, .iconst 0, 1), (1, .istore_n 2, 1), (2, .iload_n 2, 1), (3, .bipush 32, 2), (5, .if_icmp .ge 24, 3), (8, .aload_n 0, 1), (9, .getfield 18, 3), (12, .iload_n 2, 1), (13, .iaload, 1), (14, .iload_n 1, 1), (15, .ishr, 1), (16, .iconst 1, 1), (17, .iand, 1), (18, .ifCond .eq 5, 3), (21, .iload_n 2, 1), (22, .ireturn, 1)]
noncomputable def xi_45_1 : XIs := [(23, .iinc 2 1, 3), (26, .goto (-24), 3), (29, .iconst 0, 1), (30, .ireturn, 1)]
set_option maxRecDepth 100000 in
theorem xi_w45 : xi_ok cX0_classOf (xi_45_0 ++ (xi_45_1)) = true := dl_all _ _ (by decide +kernel)
theorem xi_ok45_0 : xi_ok cX0_classOf xi_45_0 = true := (xi_ap xi_w45).1
theorem xi_r45_1 : xi_ok cX0_classOf (xi_45_1) = true := (xi_ap xi_w45).2
theorem xi_ok45_1 : xi_ok cX0_classOf xi_45_1 = true := xi_r45_1
noncomputable def xi_45 (pc : Nat) : XIs := cond (Nat.blt pc 23) (xi_45_0) (xi_45_1)
theorem xi_ok45 (pc : Nat) : xi_ok cX0_classOf (xi_45 pc) = true := xi_c (xi_ok45_0) (xi_ok45_1)
noncomputable def xi_46_0 : XIs := [(0, .iload_n 3, 1), (1, .bipush 32, 2), (3, .if_icmp .le 5, 3), (6, .iconst 0, 1), (7, .ireturn, 1), (8, .aload_n 0, 1), (9, .getfield 79, 3), (12, .istore 4, 2), (14, .aload_n 0, 1), (15, .aload_n 1, 1), (16, .iload_n 2, 1), (17, .invokevirtual 98, 3), (20, .istore 5, 2), (22, .iconst 0, 1), (23, .istore 6, 2), (25, .iload 6, 2)]
noncomputable def xi_46_1 : XIs := [(27, .bipush 32, 2), (29, .if_icmp .ge 87, 3), (32, .iload 5, 2), (34, .ifCond .eq 82, 3), (37, .aload_n 1, 1), (38, .iload 5, 2), (40, .iload 5, 2), (42, .ineg, 1), (43, .iand, 1), (44, .iload 5, 2), (46, .invokestatic 102, 3), (49, .istore 7, 2), (51, .aload_n 0, 1), (52, .aload_n 1, 1), (53, .iload 7, 2), (55, .iload_n 3, 1)]
noncomputable def xi_46_2 : XIs := [(56, .invokevirtual 106, 3), (59, .ifCond .ne 42, 3), (62, .iconst 0, 1), (63, .istore 8, 2), (65, .iload 8, 2), (67, .aload_n 0, 1), (68, .getfield 76, 3), (71, .if_icmp .ge 22, 3), (74, .aload_n 0, 1), (75, .getfield 18, 3), (78, .iload 8, 2), (80, .dup2, 1), (81, .iaload, 1), (82, .iload_n 2, 1), (83, .iconst (-1), 1), (84, .ixor, 1)]
noncomputable def xi_46_3 : XIs := [(85, .iand, 1), (86, .iastore, 1), (87, .iinc 8 1, 3), (90, .goto (-25), 3), (93, .aload_n 0, 1), (94, .iload 4, 2), (96, .putfield 79, 3), (99, .iconst 0, 1), (100, .ireturn, 1), (101, .iload 5, 2), (103, .iload 7, 2), (105, .iconst (-1), 1), (106, .ixor, 1), (107, .iand, 1), (108, .istore 5, 2), (110, .iinc 6 1, 3)]
noncomputable def xi_46_4 : XIs := [(113, .goto (-88), 3), (116, .aload_n 0, 1), (117, .aload_n 1, 1), (118, .iload 4, 2), (120, .invokevirtual 109, 3), (123, .iconst 1, 1), (124, .ireturn, 1)]
set_option maxRecDepth 100000 in
theorem xi_w46 : xi_ok cX0_fill (xi_46_0 ++ (xi_46_1 ++ (xi_46_2 ++ (xi_46_3 ++ (xi_46_4))))) = true := dl_all _ _ (by decide +kernel)
theorem xi_ok46_0 : xi_ok cX0_fill xi_46_0 = true := (xi_ap xi_w46).1
theorem xi_r46_1 : xi_ok cX0_fill (xi_46_1 ++ (xi_46_2 ++ (xi_46_3 ++ (xi_46_4)))) = true := (xi_ap xi_w46).2
theorem xi_ok46_1 : xi_ok cX0_fill xi_46_1 = true := (xi_ap xi_r46_1).1
theorem xi_r46_2 : xi_ok cX0_fill (xi_46_2 ++ (xi_46_3 ++ (xi_46_4))) = true := (xi_ap xi_r46_1).2
theorem xi_ok46_2 : xi_ok cX0_fill xi_46_2 = true := (xi_ap xi_r46_2).1
theorem xi_r46_3 : xi_ok cX0_fill (xi_46_3 ++ (xi_46_4)) = true := (xi_ap xi_r46_2).2
theorem xi_ok46_3 : xi_ok cX0_fill xi_46_3 = true := (xi_ap xi_r46_3).1
theorem xi_r46_4 : xi_ok cX0_fill (xi_46_4) = true := (xi_ap xi_r46_3).2
theorem xi_ok46_4 : xi_ok cX0_fill xi_46_4 = true := xi_r46_4
noncomputable def xi_46 (pc : Nat) : XIs := cond (Nat.blt pc 56) (cond (Nat.blt pc 27) (xi_46_0) (xi_46_1)) (cond (Nat.blt pc 85) (xi_46_2) (cond (Nat.blt pc 113) (xi_46_3) (xi_46_4)))
theorem xi_ok46 (pc : Nat) : xi_ok cX0_fill (xi_46 pc) = true := xi_c (xi_c (xi_ok46_0) (xi_ok46_1)) (xi_c (xi_ok46_2) (xi_c (xi_ok46_3) (xi_ok46_4)))
noncomputable def xi_47_0 : XIs := [(0, .aload_n 0, 1), (1, .aload_n 1, 1), (2, .iload_n 2, 1), (3, .invokevirtual 112, 3), (6, .istore 4, 2), (8, .iconst 1, 1), (9, .iload 4, 2), (11, .ishl, 1), (12, .istore 5, 2), (14, .aload_n 1, 1), (15, .iload_n 2, 1), (16, .invokestatic 115, 3), (19, .istore 6, 2), (21, .iconst 0, 1), (22, .istore 7, 2), (24, .iconst 0, 1)]
noncomputable def xi_47_1 : XIs := [(25, .istore 8, 2), (27, .iload 8, 2), (29, .aload_n 0, 1), (30, .getfield 76, 3), (33, .if_icmp .ge 106, 3), (36, .aload_n 0, 1), (37, .getfield 18, 3), (40, .iload 8, 2), (42, .iaload, 1), (43, .iload 6, 2), (45, .iand, 1), (46, .ifCond .ne 7, 3), (49, .iconst 1, 1), (50, .goto 4, 3), (53, .iconst 0, 1), (54, .istore 9, 2)]
noncomputable def xi_47_2 : XIs := [(56, .aload_n 0, 1), (57, .getfield 18, 3), (60, .iload 8, 2), (62, .iaload, 1), (63, .aload_n 1, 1), (64, .iload 4, 2), (66, .iaload, 1), (67, .iand, 1), (68, .ifCond .ne 65, 3), (71, .iload 9, 2), (73, .ifCond .eq 8, 3), (76, .iload 7, 2), (78, .ifCond .ne 55, 3), (81, .iload 7, 2), (83, .iload 9, 2), (85, .ior, 1)]
noncomputable def xi_47_3 : XIs := [(86, .istore 7, 2), (88, .aload_n 0, 1), (89, .getfield 18, 3), (92, .iload 8, 2), (94, .dup2, 1), (95, .iaload, 1), (96, .iload 5, 2), (98, .ior, 1), (99, .iastore, 1), (100, .aload_n 0, 1), (101, .aload_n 1, 1), (102, .iload_n 2, 1), (103, .iload 5, 2), (105, .iconst (-1), 1), (106, .ixor, 1), (107, .iand, 1)]
noncomputable def xi_47_4 : XIs := [(108, .iload_n 3, 1), (109, .iconst 1, 1), (110, .iadd, 1), (111, .invokevirtual 88, 3), (114, .ifCond .eq 5, 3), (117, .iconst 1, 1), (118, .ireturn, 1), (119, .aload_n 0, 1), (120, .getfield 18, 3), (123, .iload 8, 2), (125, .dup2, 1), (126, .iaload, 1), (127, .iload 5, 2), (129, .iconst (-1), 1), (130, .ixor, 1), (131, .iand, 1)]
noncomputable def xi_47_5 : XIs := [(132, .iastore, 1), (133, .iinc 8 1, 3), (136, .goto (-109), 3), (139, .iconst 0, 1), (140, .ireturn, 1)]
set_option maxRecDepth 100000 in
theorem xi_w47 : xi_ok cX0_fillPiece (xi_47_0 ++ (xi_47_1 ++ (xi_47_2 ++ (xi_47_3 ++ (xi_47_4 ++ (xi_47_5)))))) = true := dl_all _ _ (by decide +kernel)
theorem xi_ok47_0 : xi_ok cX0_fillPiece xi_47_0 = true := (xi_ap xi_w47).1
theorem xi_r47_1 : xi_ok cX0_fillPiece (xi_47_1 ++ (xi_47_2 ++ (xi_47_3 ++ (xi_47_4 ++ (xi_47_5))))) = true := (xi_ap xi_w47).2
theorem xi_ok47_1 : xi_ok cX0_fillPiece xi_47_1 = true := (xi_ap xi_r47_1).1
theorem xi_r47_2 : xi_ok cX0_fillPiece (xi_47_2 ++ (xi_47_3 ++ (xi_47_4 ++ (xi_47_5)))) = true := (xi_ap xi_r47_1).2
theorem xi_ok47_2 : xi_ok cX0_fillPiece xi_47_2 = true := (xi_ap xi_r47_2).1
theorem xi_r47_3 : xi_ok cX0_fillPiece (xi_47_3 ++ (xi_47_4 ++ (xi_47_5))) = true := (xi_ap xi_r47_2).2
theorem xi_ok47_3 : xi_ok cX0_fillPiece xi_47_3 = true := (xi_ap xi_r47_3).1
theorem xi_r47_4 : xi_ok cX0_fillPiece (xi_47_4 ++ (xi_47_5)) = true := (xi_ap xi_r47_3).2
theorem xi_ok47_4 : xi_ok cX0_fillPiece xi_47_4 = true := (xi_ap xi_r47_4).1
theorem xi_r47_5 : xi_ok cX0_fillPiece (xi_47_5) = true := (xi_ap xi_r47_4).2
theorem xi_ok47_5 : xi_ok cX0_fillPiece xi_47_5 = true := xi_r47_5
noncomputable def xi_47 (pc : Nat) : XIs := cond (Nat.blt pc 86) (cond (Nat.blt pc 25) (xi_47_0) (cond (Nat.blt pc 56) (xi_47_1) (xi_47_2))) (cond (Nat.blt pc 108) (xi_47_3) (cond (Nat.blt pc 132) (xi_47_4) (xi_47_5)))
theorem xi_ok47 (pc : Nat) : xi_ok cX0_fillPiece (xi_47 pc) = true := xi_c (xi_c (xi_ok47_0) (xi_c (xi_ok47_1) (xi_ok47_2))) (xi_c (xi_ok47_3) (xi_c (xi_ok47_4) (xi_ok47_5)))
noncomputable def xi_48_0 : XIs := [(0, .iconst 0, 1), (1, .istore_n 2, 1), (2, .iload_n 1, 1), (3, .istore_n 3, 1), (4, .iload_n 3, 1), (5, .ifCond .eq 21, 3), (8, .iload_n 2, 1), (9, .aload_n 0, 1), (10, .iload_n 3, 1), (11, .invokestatic 59, 3), (14, .iaload, 1), (15, .ior, 1), (16, .istore_n 2, 1), (17, .iload_n 3, 1), (18, .iload_n 3, 1), (19, .iconst 1, 1)]
noncomputable def xi_48_1 : XIs := [(20, .isub, 1), (21, .iand, 1), (22, .istore_n 3, 1), (23, .goto (-19), 3), (26, .iload_n 2, 1), (27, .ireturn, 1)]
set_option maxRecDepth 100000 in
theorem xi_w48 : xi_ok cX0_besides (xi_48_0 ++ (xi_48_1)) = true := dl_all _ _ (by decide +kernel)
theorem xi_ok48_0 : xi_ok cX0_besides xi_48_0 = true := (xi_ap xi_w48).1
theorem xi_r48_1 : xi_ok cX0_besides (xi_48_1) = true := (xi_ap xi_w48).2
theorem xi_ok48_1 : xi_ok cX0_besides xi_48_1 = true := xi_r48_1
noncomputable def xi_48 (pc : Nat) : XIs := cond (Nat.blt pc 20) (xi_48_0) (xi_48_1)
theorem xi_ok48 (pc : Nat) : xi_ok cX0_besides (xi_48 pc) = true := xi_c (xi_ok48_0) (xi_ok48_1)
noncomputable def xi_49_0 : XIs := [(0, .iload_n 2, 1), (1, .istore_n 3, 1), (2, .iconst 0, 1), (3, .istore 4, 2), (5, .iconst 0, 1), (6, .istore 5, 2), (8, .iload 5, 2), (10, .bipush 32, 2), (12, .if_icmp .gt 104, 3), (15, .iload_n 3, 1), (16, .iload 4, 2), (18, .if_icmp .eq 98, 3), (21, .iload_n 3, 1), (22, .istore 4, 2), (24, .iload_n 3, 1), (25, .istore 6, 2)]
noncomputable def xi_49_1 : XIs := [(27, .iload 6, 2), (29, .ifCond .eq 81, 3), (32, .iload 6, 2), (34, .invokestatic 59, 3), (37, .istore 7, 2), (39, .aload_n 0, 1), (40, .aload_n 1, 1), (41, .iload 7, 2), (43, .iaload, 1), (44, .invokevirtual 118, 3), (47, .aload_n 1, 1), (48, .iload 7, 2), (50, .iaload, 1), (51, .iload_n 3, 1), (52, .iand, 1), (53, .invokestatic 53, 3)]
noncomputable def xi_49_2 : XIs := [(56, .if_icmp .le 42, 3), (59, .aload_n 0, 1), (60, .getfield 79, 3), (63, .bipush 32, 2), (65, .if_icmp .ge 33, 3), (68, .aload_n 0, 1), (69, .getfield 25, 3), (72, .aload_n 0, 1), (73, .getfield 79, 3), (76, .iload 7, 2), (78, .iastore, 1), (79, .aload_n 0, 1), (80, .dup, 1), (81, .getfield 79, 3), (84, .iconst 1, 1), (85, .iadd, 1)]
noncomputable def xi_49_3 : XIs := [(86, .putfield 79, 3), (89, .iload_n 3, 1), (90, .iconst 1, 1), (91, .iload 7, 2), (93, .ishl, 1), (94, .iconst (-1), 1), (95, .ixor, 1), (96, .iand, 1), (97, .istore_n 3, 1), (98, .iload 6, 2), (100, .iload 6, 2), (102, .iconst 1, 1), (103, .isub, 1), (104, .iand, 1), (105, .istore 6, 2), (107, .goto (-80), 3)]
noncomputable def xi_49_4 : XIs := [(110, .iinc 5 1, 3), (113, .goto (-105), 3), (116, .iload_n 3, 1), (117, .ireturn, 1)]
set_option maxRecDepth 100000 in
theorem xi_w49 : xi_ok cX0_setAside (xi_49_0 ++ (xi_49_1 ++ (xi_49_2 ++ (xi_49_3 ++ (xi_49_4))))) = true := dl_all _ _ (by decide +kernel)
theorem xi_ok49_0 : xi_ok cX0_setAside xi_49_0 = true := (xi_ap xi_w49).1
theorem xi_r49_1 : xi_ok cX0_setAside (xi_49_1 ++ (xi_49_2 ++ (xi_49_3 ++ (xi_49_4)))) = true := (xi_ap xi_w49).2
theorem xi_ok49_1 : xi_ok cX0_setAside xi_49_1 = true := (xi_ap xi_r49_1).1
theorem xi_r49_2 : xi_ok cX0_setAside (xi_49_2 ++ (xi_49_3 ++ (xi_49_4))) = true := (xi_ap xi_r49_1).2
theorem xi_ok49_2 : xi_ok cX0_setAside xi_49_2 = true := (xi_ap xi_r49_2).1
theorem xi_r49_3 : xi_ok cX0_setAside (xi_49_3 ++ (xi_49_4)) = true := (xi_ap xi_r49_2).2
theorem xi_ok49_3 : xi_ok cX0_setAside xi_49_3 = true := (xi_ap xi_r49_3).1
theorem xi_r49_4 : xi_ok cX0_setAside (xi_49_4) = true := (xi_ap xi_r49_3).2
theorem xi_ok49_4 : xi_ok cX0_setAside xi_49_4 = true := xi_r49_4
noncomputable def xi_49 (pc : Nat) : XIs := cond (Nat.blt pc 56) (cond (Nat.blt pc 27) (xi_49_0) (xi_49_1)) (cond (Nat.blt pc 86) (xi_49_2) (cond (Nat.blt pc 110) (xi_49_3) (xi_49_4)))
theorem xi_ok49 (pc : Nat) : xi_ok cX0_setAside (xi_49 pc) = true := xi_c (xi_c (xi_ok49_0) (xi_ok49_1)) (xi_c (xi_ok49_2) (xi_c (xi_ok49_3) (xi_ok49_4)))
noncomputable def xi_50_0 : XIs := [(0, .aload_n 0, 1), (1, .getfield 79, 3), (4, .iload_n 2, 1), (5, .if_icmp .le 75, 3), (8, .aload_n 0, 1), (9, .getfield 25, 3), (12, .aload_n 0, 1), (13, .getfield 79, 3), (16, .iconst 1, 1), (17, .isub, 1), (18, .iaload, 1), (19, .istore_n 3, 1), (20, .iconst 0, 1), (21, .istore 4, 2), (23, .iload 4, 2), (25, .aload_n 0, 1)]
noncomputable def xi_50_1 : XIs := [(26, .getfield 76, 3), (29, .iconst 1, 1), (30, .isub, 1), (31, .if_icmp .ge 23, 3), (34, .aload_n 0, 1), (35, .getfield 18, 3), (38, .iload 4, 2), (40, .iaload, 1), (41, .aload_n 1, 1), (42, .iload_n 3, 1), (43, .iaload, 1), (44, .iand, 1), (45, .ifCond .eq 9, 3), (48, .iinc 4 1, 3), (51, .goto (-28), 3), (54, .aload_n 0, 1)]
noncomputable def xi_50_2 : XIs := [(55, .getfield 18, 3), (58, .iload 4, 2), (60, .dup2, 1), (61, .iaload, 1), (62, .iconst 1, 1), (63, .iload_n 3, 1), (64, .ishl, 1), (65, .ior, 1), (66, .iastore, 1), (67, .aload_n 0, 1), (68, .dup, 1), (69, .getfield 79, 3), (72, .iconst 1, 1), (73, .isub, 1), (74, .putfield 79, 3), (77, .goto (-77), 3)]
noncomputable def xi_50_3 : XIs := [(80, .return_, 1)]
set_option maxRecDepth 100000 in
theorem xi_w50 : xi_ok cX0_takeBack (xi_50_0 ++ (xi_50_1 ++ (xi_50_2 ++ (xi_50_3)))) = true := dl_all _ _ (by decide +kernel)
theorem xi_ok50_0 : xi_ok cX0_takeBack xi_50_0 = true := (xi_ap xi_w50).1
theorem xi_r50_1 : xi_ok cX0_takeBack (xi_50_1 ++ (xi_50_2 ++ (xi_50_3))) = true := (xi_ap xi_w50).2
theorem xi_ok50_1 : xi_ok cX0_takeBack xi_50_1 = true := (xi_ap xi_r50_1).1
theorem xi_r50_2 : xi_ok cX0_takeBack (xi_50_2 ++ (xi_50_3)) = true := (xi_ap xi_r50_1).2
theorem xi_ok50_2 : xi_ok cX0_takeBack xi_50_2 = true := (xi_ap xi_r50_2).1
theorem xi_r50_3 : xi_ok cX0_takeBack (xi_50_3) = true := (xi_ap xi_r50_2).2
theorem xi_ok50_3 : xi_ok cX0_takeBack xi_50_3 = true := xi_r50_3
noncomputable def xi_50 (pc : Nat) : XIs := cond (Nat.blt pc 55) (cond (Nat.blt pc 26) (xi_50_0) (xi_50_1)) (cond (Nat.blt pc 80) (xi_50_2) (xi_50_3))
theorem xi_ok50 (pc : Nat) : xi_ok cX0_takeBack (xi_50 pc) = true := xi_c (xi_c (xi_ok50_0) (xi_ok50_1)) (xi_c (xi_ok50_2) (xi_ok50_3))
noncomputable def xi_51_0 : XIs := [(0, .iconst 0, 1), (1, .istore_n 2, 1), (2, .iconst 0, 1), (3, .istore_n 3, 1), (4, .iload_n 3, 1), (5, .aload_n 0, 1), (6, .getfield 76, 3), (9, .if_icmp .ge 23, 3), (12, .aload_n 0, 1), (13, .getfield 18, 3), (16, .iload_n 3, 1), (17, .iaload, 1), (18, .iload_n 1, 1), (19, .iand, 1), (20, .ifCond .ne 6, 3), (23, .iinc 2 1, 3)]
noncomputable def xi_51_1 : XIs := [(26, .iinc 3 1, 3), (29, .goto (-25), 3), (32, .iload_n 2, 1), (33, .ireturn, 1)]
set_option maxRecDepth 100000 in
theorem xi_w51 : xi_ok cX0_freeColours (xi_51_0 ++ (xi_51_1)) = true := dl_all _ _ (by decide +kernel)
theorem xi_ok51_0 : xi_ok cX0_freeColours xi_51_0 = true := (xi_ap xi_w51).1
theorem xi_r51_1 : xi_ok cX0_freeColours (xi_51_1) = true := (xi_ap xi_w51).2
theorem xi_ok51_1 : xi_ok cX0_freeColours xi_51_1 = true := xi_r51_1
noncomputable def xi_51 (pc : Nat) : XIs := cond (Nat.blt pc 26) (xi_51_0) (xi_51_1)
theorem xi_ok51 (pc : Nat) : xi_ok cX0_freeColours (xi_51 pc) = true := xi_c (xi_ok51_0) (xi_ok51_1)
noncomputable def xi_52_0 : XIs := [(0, .iload_n 2, 1), (1, .invokestatic 59, 3), (4, .istore_n 3, 1), (5, .ldc 121, 2), (7, .istore 4, 2), (9, .iload_n 2, 1), (10, .istore 5, 2), (12, .iload 5, 2), (14, .ifCond .eq 59, 3), (17, .iload 5, 2), (19, .invokestatic 59, 3), (22, .istore 6, 2), (24, .aload_n 0, 1), (25, .aload_n 1, 1), (26, .iload 6, 2), (28, .iaload, 1)]
noncomputable def xi_52_1 : XIs := [(29, .invokevirtual 118, 3), (32, .bipush 64, 2), (34, .imul, 1), (35, .aload_n 1, 1), (36, .iload 6, 2), (38, .iaload, 1), (39, .iload_n 2, 1), (40, .iand, 1), (41, .invokestatic 53, 3), (44, .isub, 1), (45, .istore 7, 2), (47, .iload 7, 2), (49, .iload 4, 2), (51, .if_icmp .ge 10, 3), (54, .iload 7, 2), (56, .istore 4, 2)]
noncomputable def xi_52_2 : XIs := [(58, .iload 6, 2), (60, .istore_n 3, 1), (61, .iload 5, 2), (63, .iload 5, 2), (65, .iconst 1, 1), (66, .isub, 1), (67, .iand, 1), (68, .istore 5, 2), (70, .goto (-58), 3), (73, .iload_n 3, 1), (74, .ireturn, 1)]
set_option maxRecDepth 100000 in
theorem xi_w52 : xi_ok cX0_tightest (xi_52_0 ++ (xi_52_1 ++ (xi_52_2))) = true := dl_all _ _ (by decide +kernel)
theorem xi_ok52_0 : xi_ok cX0_tightest xi_52_0 = true := (xi_ap xi_w52).1
theorem xi_r52_1 : xi_ok cX0_tightest (xi_52_1 ++ (xi_52_2)) = true := (xi_ap xi_w52).2
theorem xi_ok52_1 : xi_ok cX0_tightest xi_52_1 = true := (xi_ap xi_r52_1).1
theorem xi_r52_2 : xi_ok cX0_tightest (xi_52_2) = true := (xi_ap xi_r52_1).2
theorem xi_ok52_2 : xi_ok cX0_tightest xi_52_2 = true := xi_r52_2
noncomputable def xi_52 (pc : Nat) : XIs := cond (Nat.blt pc 29) (xi_52_0) (cond (Nat.blt pc 58) (xi_52_1) (xi_52_2))
theorem xi_ok52 (pc : Nat) : xi_ok cX0_tightest (xi_52 pc) = true := xi_c (xi_ok52_0) (xi_c (xi_ok52_1) (xi_ok52_2))
noncomputable def xi_53_0 : XIs := [(0, .aload_n 0, 1), (1, .iload_n 2, 1), (2, .invokevirtual 122, 3), (5, .istore 4, 2), (7, .iload 4, 2), (9, .iload_n 3, 1), (10, .if_icmp .le 36, 3), (13, .aload_n 0, 1), (14, .getfield 18, 3), (17, .iload 4, 2), (19, .iaload, 1), (20, .istore 5, 2), (22, .aload_n 0, 1), (23, .getfield 18, 3), (26, .iload 4, 2), (28, .aload_n 0, 1)]
noncomputable def xi_53_1 : XIs := [(29, .getfield 18, 3), (32, .iload_n 3, 1), (33, .iaload, 1), (34, .iastore, 1), (35, .aload_n 0, 1), (36, .getfield 18, 3), (39, .iload_n 3, 1), (40, .iload 5, 2), (42, .iastore, 1), (43, .iload_n 3, 1), (44, .istore 4, 2), (46, .iconst 0, 1), (47, .istore 5, 2), (49, .iload 5, 2), (51, .iload 4, 2), (53, .if_icmp .ge 26, 3)]
noncomputable def xi_53_2 : XIs := [(56, .aload_n 0, 1), (57, .aload_n 1, 1), (58, .iload_n 2, 1), (59, .iload 5, 2), (61, .iload 4, 2), (63, .invokevirtual 125, 3), (66, .ifCond .eq 7, 3), (69, .iload 5, 2), (71, .istore 4, 2), (73, .iinc 5 1, 3), (76, .goto (-27), 3), (79, .iload 4, 2), (81, .ireturn, 1)]
set_option maxRecDepth 100000 in
theorem xi_w53 : xi_ok cX0_lessen (xi_53_0 ++ (xi_53_1 ++ (xi_53_2))) = true := dl_all _ _ (by decide +kernel)
theorem xi_ok53_0 : xi_ok cX0_lessen xi_53_0 = true := (xi_ap xi_w53).1
theorem xi_r53_1 : xi_ok cX0_lessen (xi_53_1 ++ (xi_53_2)) = true := (xi_ap xi_w53).2
theorem xi_ok53_1 : xi_ok cX0_lessen xi_53_1 = true := (xi_ap xi_r53_1).1
theorem xi_r53_2 : xi_ok cX0_lessen (xi_53_2) = true := (xi_ap xi_r53_1).2
theorem xi_ok53_2 : xi_ok cX0_lessen xi_53_2 = true := xi_r53_2
noncomputable def xi_53 (pc : Nat) : XIs := cond (Nat.blt pc 29) (xi_53_0) (cond (Nat.blt pc 56) (xi_53_1) (xi_53_2))
theorem xi_ok53 (pc : Nat) : xi_ok cX0_lessen (xi_53 pc) = true := xi_c (xi_ok53_0) (xi_c (xi_ok53_1) (xi_ok53_2))
noncomputable def xi_54_0 : XIs := [(0, .iconst 1, 1), (1, .iload_n 2, 1), (2, .ishl, 1), (3, .istore 5, 2), (5, .iload 5, 2), (7, .iconst 1, 1), (8, .isub, 1), (9, .istore 6, 2), (11, .aload_n 0, 1), (12, .getfield 18, 3), (15, .iload_n 3, 1), (16, .iaload, 1), (17, .aload_n 1, 1), (18, .getfield 42, 3), (21, .iload_n 2, 1), (22, .iaload, 1)]
noncomputable def xi_54_1 : XIs := [(23, .iand, 1), (24, .iload 6, 2), (26, .iand, 1), (27, .ifCond .eq 5, 3), (30, .iconst 0, 1), (31, .ireturn, 1), (32, .aload_n 1, 1), (33, .getfield 42, 3), (36, .iload 5, 2), (38, .aload_n 0, 1), (39, .getfield 18, 3), (42, .iload_n 3, 1), (43, .iaload, 1), (44, .aload_n 0, 1), (45, .getfield 18, 3), (48, .iload 4, 2)]
noncomputable def xi_54_2 : XIs := [(50, .iaload, 1), (51, .ior, 1), (52, .invokestatic 102, 3), (55, .istore 7, 2), (57, .iload 7, 2), (59, .iload 6, 2), (61, .iand, 1), (62, .ifCond .ne 28, 3), (65, .aload_n 0, 1), (66, .getfield 18, 3), (69, .iload_n 3, 1), (70, .dup2, 1), (71, .iaload, 1), (72, .iload 7, 2), (74, .ixor, 1), (75, .iastore, 1)]
noncomputable def xi_54_3 : XIs := [(76, .aload_n 0, 1), (77, .getfield 18, 3), (80, .iload 4, 2), (82, .dup2, 1), (83, .iaload, 1), (84, .iload 7, 2), (86, .ixor, 1), (87, .iastore, 1), (88, .iconst 1, 1), (89, .ireturn, 1), (90, .aload_n 0, 1), (91, .getfield 18, 3), (94, .iconst 0, 1), (95, .aload_n 0, 1), (96, .getfield 22, 3), (99, .iconst 0, 1)]
noncomputable def xi_54_4 : XIs := [(100, .bipush 32, 2), (102, .invokestatic 129, 3), (105, .iconst 0, 1), (106, .istore 8, 2), (108, .iload 8, 2), (110, .aload_n 0, 1), (111, .getfield 76, 3), (114, .if_icmp .ge 21, 3), (117, .aload_n 0, 1), (118, .getfield 18, 3), (121, .iload 8, 2), (123, .dup2, 1), (124, .iaload, 1), (125, .iload 6, 2), (127, .iand, 1), (128, .iastore, 1)]
noncomputable def xi_54_5 : XIs := [(129, .iinc 8 1, 3), (132, .goto (-24), 3), (135, .aload_n 0, 1), (136, .getfield 18, 3), (139, .iload_n 3, 1), (140, .dup2, 1), (141, .iaload, 1), (142, .iload 5, 2), (144, .ior, 1), (145, .iastore, 1), (146, .aload_n 0, 1), (147, .aload_n 1, 1), (148, .getfield 42, 3), (151, .aload_n 1, 1), (152, .invokevirtual 45, 3), (155, .iload 6, 2)]
noncomputable def xi_54_6 : XIs := [(157, .iconst (-1), 1), (158, .ixor, 1), (159, .iand, 1), (160, .iload 5, 2), (162, .iconst (-1), 1), (163, .ixor, 1), (164, .iand, 1), (165, .iconst 0, 1), (166, .invokevirtual 88, 3), (169, .ifCond .eq 5, 3), (172, .iconst 1, 1), (173, .ireturn, 1), (174, .aload_n 0, 1), (175, .getfield 22, 3), (178, .iconst 0, 1), (179, .aload_n 0, 1)]
noncomputable def xi_54_7 : XIs := [(180, .getfield 18, 3), (183, .iconst 0, 1), (184, .bipush 32, 2), (186, .invokestatic 129, 3), (189, .iconst 0, 1), (190, .ireturn, 1)]
set_option maxRecDepth 100000 in
theorem xi_w54 : xi_ok cX0_canLower (xi_54_0 ++ (xi_54_1 ++ (xi_54_2 ++ (xi_54_3 ++ (xi_54_4 ++ (xi_54_5 ++ (xi_54_6 ++ (xi_54_7)))))))) = true := dl_all _ _ (by decide +kernel)
theorem xi_ok54_0 : xi_ok cX0_canLower xi_54_0 = true := (xi_ap xi_w54).1
theorem xi_r54_1 : xi_ok cX0_canLower (xi_54_1 ++ (xi_54_2 ++ (xi_54_3 ++ (xi_54_4 ++ (xi_54_5 ++ (xi_54_6 ++ (xi_54_7))))))) = true := (xi_ap xi_w54).2
theorem xi_ok54_1 : xi_ok cX0_canLower xi_54_1 = true := (xi_ap xi_r54_1).1
theorem xi_r54_2 : xi_ok cX0_canLower (xi_54_2 ++ (xi_54_3 ++ (xi_54_4 ++ (xi_54_5 ++ (xi_54_6 ++ (xi_54_7)))))) = true := (xi_ap xi_r54_1).2
theorem xi_ok54_2 : xi_ok cX0_canLower xi_54_2 = true := (xi_ap xi_r54_2).1
theorem xi_r54_3 : xi_ok cX0_canLower (xi_54_3 ++ (xi_54_4 ++ (xi_54_5 ++ (xi_54_6 ++ (xi_54_7))))) = true := (xi_ap xi_r54_2).2
theorem xi_ok54_3 : xi_ok cX0_canLower xi_54_3 = true := (xi_ap xi_r54_3).1
theorem xi_r54_4 : xi_ok cX0_canLower (xi_54_4 ++ (xi_54_5 ++ (xi_54_6 ++ (xi_54_7)))) = true := (xi_ap xi_r54_3).2
theorem xi_ok54_4 : xi_ok cX0_canLower xi_54_4 = true := (xi_ap xi_r54_4).1
theorem xi_r54_5 : xi_ok cX0_canLower (xi_54_5 ++ (xi_54_6 ++ (xi_54_7))) = true := (xi_ap xi_r54_4).2
theorem xi_ok54_5 : xi_ok cX0_canLower xi_54_5 = true := (xi_ap xi_r54_5).1
theorem xi_r54_6 : xi_ok cX0_canLower (xi_54_6 ++ (xi_54_7)) = true := (xi_ap xi_r54_5).2
theorem xi_ok54_6 : xi_ok cX0_canLower xi_54_6 = true := (xi_ap xi_r54_6).1
theorem xi_r54_7 : xi_ok cX0_canLower (xi_54_7) = true := (xi_ap xi_r54_6).2
theorem xi_ok54_7 : xi_ok cX0_canLower xi_54_7 = true := xi_r54_7
noncomputable def xi_54 (pc : Nat) : XIs := cond (Nat.blt pc 100) (cond (Nat.blt pc 50) (cond (Nat.blt pc 23) (xi_54_0) (xi_54_1)) (cond (Nat.blt pc 76) (xi_54_2) (xi_54_3))) (cond (Nat.blt pc 157) (cond (Nat.blt pc 129) (xi_54_4) (xi_54_5)) (cond (Nat.blt pc 180) (xi_54_6) (xi_54_7)))
theorem xi_ok54 (pc : Nat) : xi_ok cX0_canLower (xi_54 pc) = true := xi_c (xi_c (xi_c (xi_ok54_0) (xi_ok54_1)) (xi_c (xi_ok54_2) (xi_ok54_3))) (xi_c (xi_c (xi_ok54_4) (xi_ok54_5)) (xi_c (xi_ok54_6) (xi_ok54_7)))
noncomputable def xi_55_0 : XIs := [(0, .aload_n 0, 1), (1, .invokespecial 5, 3), (4, .aload_n 0, 1), (5, .bipush 120, 2), (7, .newarray .int, 2), (9, .putfield 11, 3), (12, .aload_n 0, 1), (13, .iconst 1, 1), (14, .putfield 15, 3), (17, .aload_n 0, 1), (18, .iconst 2, 1), (19, .putfield 19, 3), (22, .aload_n 0, 1), (23, .bipush 120, 2), (25, .newarray .int, 2), (27, .putfield 22, 3)]
noncomputable def xi_55_1 : XIs := [(30, .aload_n 0, 1), (31, .bipush 120, 2), (33, .newarray .long, 2), (35, .putfield 25, 3), (38, .aload_n 0, 1), (39, .bipush 9, 2), (41, .newarray .long, 2), (43, .putfield 29, 3), (46, .aload_n 0, 1), (47, .bipush 32, 2), (49, .newarray .long, 2), (51, .putfield 32, 3), (54, .aload_n 0, 1), (55, .bipush 32, 2), (57, .newarray .long, 2), (59, .putfield 35, 3)]
noncomputable def xi_55_2 : XIs := [(62, .return_, 1)]
set_option maxRecDepth 100000 in
theorem xi_w55 : xi_ok cX1_init (xi_55_0 ++ (xi_55_1 ++ (xi_55_2))) = true := dl_all _ _ (by decide +kernel)
theorem xi_ok55_0 : xi_ok cX1_init xi_55_0 = true := (xi_ap xi_w55).1
theorem xi_r55_1 : xi_ok cX1_init (xi_55_1 ++ (xi_55_2)) = true := (xi_ap xi_w55).2
theorem xi_ok55_1 : xi_ok cX1_init xi_55_1 = true := (xi_ap xi_r55_1).1
theorem xi_r55_2 : xi_ok cX1_init (xi_55_2) = true := (xi_ap xi_r55_1).2
theorem xi_ok55_2 : xi_ok cX1_init xi_55_2 = true := xi_r55_2
noncomputable def xi_55 (pc : Nat) : XIs := cond (Nat.blt pc 30) (xi_55_0) (cond (Nat.blt pc 62) (xi_55_1) (xi_55_2))
theorem xi_ok55 (pc : Nat) : xi_ok cX1_init (xi_55 pc) = true := xi_c (xi_ok55_0) (xi_c (xi_ok55_1) (xi_ok55_2))
noncomputable def xi_56_0 : XIs := [(0, .aload_n 1, 1), (1, .invokevirtual 38, 3), (4, .aload_n 1, 1), (5, .getfield 43, 3), (8, .bipush 120, 2), (10, .if_icmp .le 11, 3), (13, .aload_n 1, 1), (14, .iconst 2, 1), (15, .bipush 120, 2), (17, .invokevirtual 46, 3), (20, .ireturn, 1), (21, .aload_n 0, 1), (22, .iconst 0, 1), (23, .putfield 50, 3), (26, .aload_n 1, 1), (27, .bipush 6, 2)]
noncomputable def xi_56_1 : XIs := [(29, .iconst 0, 1), (30, .invokevirtual 53, 3), (33, .aload_n 0, 1), (34, .aload_n 1, 1), (35, .iconst 0, 1), (36, .invokevirtual 57, 3), (39, .ifCond .ne 5, 3), (42, .iconst 0, 1), (43, .ireturn, 1), (44, .aload_n 1, 1), (45, .bipush 59, 2), (47, .invokevirtual 61, 3), (50, .ifCond .ne 10, 3), (53, .aload_n 1, 1), (54, .iconst 2, 1), (55, .iconst 4, 1)]
noncomputable def xi_56_2 : XIs := [(56, .invokevirtual 65, 3), (59, .ireturn, 1), (60, .aload_n 0, 1), (61, .getfield 50, 3), (64, .istore_n 2, 1), (65, .aload_n 1, 1), (66, .bipush 6, 2), (68, .iconst 0, 1), (69, .invokevirtual 53, 3), (72, .aload_n 0, 1), (73, .aload_n 1, 1), (74, .iconst 0, 1), (75, .invokevirtual 57, 3), (78, .ifCond .ne 5, 3), (81, .iconst 0, 1), (82, .ireturn, 1)]
noncomputable def xi_56_3 : XIs := [(83, .aload_n 1, 1), (84, .getfield 68, 3), (87, .ifCond .eq 10, 3), (90, .aload_n 1, 1), (91, .iconst 2, 1), (92, .iconst 4, 1), (93, .invokevirtual 65, 3), (96, .ireturn, 1), (97, .aload_n 0, 1), (98, .iload_n 2, 1), (99, .putfield 15, 3), (102, .aload_n 0, 1), (103, .aload_n 0, 1), (104, .getfield 50, 3), (107, .putfield 19, 3), (110, .aload_n 0, 1)]
noncomputable def xi_56_4 : XIs := [(111, .getfield 22, 3), (114, .iconst 0, 1), (115, .aload_n 0, 1), (116, .getfield 11, 3), (119, .iconst 0, 1), (120, .aload_n 0, 1), (121, .getfield 50, 3), (124, .invokestatic 71, 3), (127, .iconst 1, 1), (128, .ireturn, 1)]
set_option maxRecDepth 100000 in
theorem xi_w56 : xi_ok cX1_adopt (xi_56_0 ++ (xi_56_1 ++ (xi_56_2 ++ (xi_56_3 ++ (xi_56_4))))) = true := dl_all _ _ (by decide +kernel)
theorem xi_ok56_0 : xi_ok cX1_adopt xi_56_0 = true := (xi_ap xi_w56).1
theorem xi_r56_1 : xi_ok cX1_adopt (xi_56_1 ++ (xi_56_2 ++ (xi_56_3 ++ (xi_56_4)))) = true := (xi_ap xi_w56).2
theorem xi_ok56_1 : xi_ok cX1_adopt xi_56_1 = true := (xi_ap xi_r56_1).1
theorem xi_r56_2 : xi_ok cX1_adopt (xi_56_2 ++ (xi_56_3 ++ (xi_56_4))) = true := (xi_ap xi_r56_1).2
theorem xi_ok56_2 : xi_ok cX1_adopt xi_56_2 = true := (xi_ap xi_r56_2).1
theorem xi_r56_3 : xi_ok cX1_adopt (xi_56_3 ++ (xi_56_4)) = true := (xi_ap xi_r56_2).2
theorem xi_ok56_3 : xi_ok cX1_adopt xi_56_3 = true := (xi_ap xi_r56_3).1
theorem xi_r56_4 : xi_ok cX1_adopt (xi_56_4) = true := (xi_ap xi_r56_3).2
theorem xi_ok56_4 : xi_ok cX1_adopt xi_56_4 = true := xi_r56_4
noncomputable def xi_56 (pc : Nat) : XIs := cond (Nat.blt pc 56) (cond (Nat.blt pc 29) (xi_56_0) (xi_56_1)) (cond (Nat.blt pc 83) (xi_56_2) (cond (Nat.blt pc 111) (xi_56_3) (xi_56_4)))
theorem xi_ok56 (pc : Nat) : xi_ok cX1_adopt (xi_56 pc) = true := xi_c (xi_c (xi_ok56_0) (xi_ok56_1)) (xi_c (xi_ok56_2) (xi_c (xi_ok56_3) (xi_ok56_4)))
noncomputable def xi_57_0 : XIs := [(0, .aload_n 0, 1), (1, .getfield 50, 3), (4, .bipush 120, 2), (6, .if_icmp .ge 23, 3), (9, .aload_n 0, 1), (10, .getfield 22, 3), (13, .aload_n 0, 1), (14, .getfield 50, 3), (17, .iload_n 1, 1), (18, .iastore, 1), (19, .aload_n 0, 1), (20, .dup, 1), (21, .getfield 50, 3), (24, .iconst 1, 1), (25, .iadd, 1), (26, .putfield 50, 3)]
noncomputable def xi_57_1 : XIs := [(29, .iconst 1, 1), (30, .ireturn, 1)]
set_option maxRecDepth 100000 in
theorem xi_w57 : xi_ok cX1_emit (xi_57_0 ++ (xi_57_1)) = true := dl_all _ _ (by decide +kernel)
theorem xi_ok57_0 : xi_ok cX1_emit xi_57_0 = true := (xi_ap xi_w57).1
theorem xi_r57_1 : xi_ok cX1_emit (xi_57_1) = true := (xi_ap xi_w57).2
theorem xi_ok57_1 : xi_ok cX1_emit xi_57_1 = true := xi_r57_1
noncomputable def xi_57 (pc : Nat) : XIs := cond (Nat.blt pc 29) (xi_57_0) (xi_57_1)
theorem xi_ok57 (pc : Nat) : xi_ok cX1_emit (xi_57 pc) = true := xi_c (xi_ok57_0) (xi_ok57_1)
noncomputable def xi_58_0 : XIs := [(0, .aload_n 0, 1), (1, .aload_n 1, 1), (2, .iload_n 2, 1), (3, .invokevirtual 77, 3), (6, .ifCond .ne 5, 3), (9, .iconst 0, 1), (10, .ireturn, 1), (11, .aload_n 1, 1), (12, .bipush 60, 2), (14, .invokevirtual 61, 3), (17, .ifCond .ne 14, 3), (20, .aload_n 1, 1), (21, .bipush 61, 2), (23, .invokevirtual 61, 3), (26, .ifCond .ne 5, 3), (29, .iconst 1, 1)]
noncomputable def xi_58_1 : XIs := [(30, .ireturn, 1), (31, .aload_n 1, 1), (32, .getfield 80, 3), (35, .istore_n 3, 1), (36, .aload_n 1, 1), (37, .bipush 6, 2), (39, .iconst 0, 1), (40, .invokevirtual 53, 3), (43, .aload_n 0, 1), (44, .aload_n 1, 1), (45, .iload_n 2, 1), (46, .invokevirtual 77, 3), (49, .ifCond .eq 18, 3), (52, .aload_n 0, 1), (53, .ldc 83, 2), (55, .iload_n 3, 1)]
noncomputable def xi_58_2 : XIs := [(56, .iadd, 1), (57, .invokevirtual 84, 3), (60, .ifCond .eq 7, 3), (63, .iconst 1, 1), (64, .goto 4, 3), (67, .iconst 0, 1), (68, .ireturn, 1)]
set_option maxRecDepth 100000 in
theorem xi_w58 : xi_ok cX1_readExpression (xi_58_0 ++ (xi_58_1 ++ (xi_58_2))) = true := dl_all _ _ (by decide +kernel)
theorem xi_ok58_0 : xi_ok cX1_readExpression xi_58_0 = true := (xi_ap xi_w58).1
theorem xi_r58_1 : xi_ok cX1_readExpression (xi_58_1 ++ (xi_58_2)) = true := (xi_ap xi_w58).2
theorem xi_ok58_1 : xi_ok cX1_readExpression xi_58_1 = true := (xi_ap xi_r58_1).1
theorem xi_r58_2 : xi_ok cX1_readExpression (xi_58_2) = true := (xi_ap xi_r58_1).2
theorem xi_ok58_2 : xi_ok cX1_readExpression xi_58_2 = true := xi_r58_2
noncomputable def xi_58 (pc : Nat) : XIs := cond (Nat.blt pc 30) (xi_58_0) (cond (Nat.blt pc 56) (xi_58_1) (xi_58_2))
theorem xi_ok58 (pc : Nat) : xi_ok cX1_readExpression (xi_58 pc) = true := xi_c (xi_ok58_0) (xi_c (xi_ok58_1) (xi_ok58_2))
noncomputable def xi_59_0 : XIs := [(0, .aload_n 0, 1), (1, .aload_n 1, 1), (2, .iload_n 2, 1), (3, .invokevirtual 87, 3), (6, .ifCond .ne 5, 3), (9, .iconst 0, 1), (10, .ireturn, 1), (11, .iconst 0, 1), (12, .istore_n 3, 1), (13, .iload_n 3, 1), (14, .bipush 120, 2), (16, .if_icmp .ge 61, 3), (19, .aload_n 1, 1), (20, .bipush 43, 2), (22, .invokevirtual 61, 3), (25, .ifCond .ne 12, 3)]
noncomputable def xi_59_1 : XIs := [(28, .aload_n 1, 1), (29, .bipush 45, 2), (31, .invokevirtual 61, 3), (34, .ifCond .eq 43, 3), (37, .aload_n 1, 1), (38, .getfield 80, 3), (41, .istore 4, 2), (43, .aload_n 1, 1), (44, .bipush 6, 2), (46, .iconst 0, 1), (47, .invokevirtual 53, 3), (50, .aload_n 0, 1), (51, .aload_n 1, 1), (52, .iload_n 2, 1), (53, .invokevirtual 87, 3), (56, .ifCond .ne 5, 3)]
noncomputable def xi_59_2 : XIs := [(59, .iconst 0, 1), (60, .ireturn, 1), (61, .aload_n 0, 1), (62, .ldc 83, 2), (64, .iload 4, 2), (66, .iadd, 1), (67, .invokevirtual 84, 3), (70, .pop, 1), (71, .iinc 3 1, 3), (74, .goto (-61), 3), (77, .iconst 1, 1), (78, .ireturn, 1)]
set_option maxRecDepth 100000 in
theorem xi_w59 : xi_ok cX1_readSum (xi_59_0 ++ (xi_59_1 ++ (xi_59_2))) = true := dl_all _ _ (by decide +kernel)
theorem xi_ok59_0 : xi_ok cX1_readSum xi_59_0 = true := (xi_ap xi_w59).1
theorem xi_r59_1 : xi_ok cX1_readSum (xi_59_1 ++ (xi_59_2)) = true := (xi_ap xi_w59).2
theorem xi_ok59_1 : xi_ok cX1_readSum xi_59_1 = true := (xi_ap xi_r59_1).1
theorem xi_r59_2 : xi_ok cX1_readSum (xi_59_2) = true := (xi_ap xi_r59_1).2
theorem xi_ok59_2 : xi_ok cX1_readSum xi_59_2 = true := xi_r59_2
noncomputable def xi_59 (pc : Nat) : XIs := cond (Nat.blt pc 28) (xi_59_0) (cond (Nat.blt pc 59) (xi_59_1) (xi_59_2))
theorem xi_ok59 (pc : Nat) : xi_ok cX1_readSum (xi_59 pc) = true := xi_c (xi_ok59_0) (xi_c (xi_ok59_1) (xi_ok59_2))
noncomputable def xi_60_0 : XIs := [(0, .aload_n 0, 1), (1, .aload_n 1, 1), (2, .iload_n 2, 1), (3, .invokevirtual 90, 3), (6, .ifCond .ne 5, 3), (9, .iconst 0, 1), (10, .ireturn, 1), (11, .iconst 0, 1), (12, .istore_n 3, 1), (13, .iload_n 3, 1), (14, .bipush 120, 2), (16, .if_icmp .ge 43, 3), (19, .aload_n 1, 1), (20, .bipush 42, 2), (22, .invokevirtual 61, 3), (25, .ifCond .eq 34, 3)]
noncomputable def xi_60_1 : XIs := [(28, .aload_n 1, 1), (29, .bipush 6, 2), (31, .iconst 0, 1), (32, .invokevirtual 53, 3), (35, .aload_n 0, 1), (36, .aload_n 1, 1), (37, .iload_n 2, 1), (38, .invokevirtual 90, 3), (41, .ifCond .ne 5, 3), (44, .iconst 0, 1), (45, .ireturn, 1), (46, .aload_n 0, 1), (47, .ldc 93, 2), (49, .invokevirtual 84, 3), (52, .pop, 1), (53, .iinc 3 1, 3)]
noncomputable def xi_60_2 : XIs := [(56, .goto (-43), 3), (59, .iconst 1, 1), (60, .ireturn, 1)]
set_option maxRecDepth 100000 in
theorem xi_w60 : xi_ok cX1_readProduct (xi_60_0 ++ (xi_60_1 ++ (xi_60_2))) = true := dl_all _ _ (by decide +kernel)
theorem xi_ok60_0 : xi_ok cX1_readProduct xi_60_0 = true := (xi_ap xi_w60).1
theorem xi_r60_1 : xi_ok cX1_readProduct (xi_60_1 ++ (xi_60_2)) = true := (xi_ap xi_w60).2
theorem xi_ok60_1 : xi_ok cX1_readProduct xi_60_1 = true := (xi_ap xi_r60_1).1
theorem xi_r60_2 : xi_ok cX1_readProduct (xi_60_2) = true := (xi_ap xi_r60_1).2
theorem xi_ok60_2 : xi_ok cX1_readProduct xi_60_2 = true := xi_r60_2
noncomputable def xi_60 (pc : Nat) : XIs := cond (Nat.blt pc 28) (xi_60_0) (cond (Nat.blt pc 56) (xi_60_1) (xi_60_2))
theorem xi_ok60 (pc : Nat) : xi_ok cX1_readProduct (xi_60 pc) = true := xi_c (xi_ok60_0) (xi_c (xi_ok60_1) (xi_ok60_2))
noncomputable def xi_61_0 : XIs := [(0, .aload_n 1, 1), (1, .getfield 68, 3), (4, .iconst 2, 1), (5, .if_icmp .eq 11, 3), (8, .aload_n 1, 1), (9, .getfield 68, 3), (12, .iconst 1, 1), (13, .if_icmp .ne 9, 3), (16, .aload_n 0, 1), (17, .aload_n 1, 1), (18, .invokevirtual 94, 3), (21, .ireturn, 1), (22, .aload_n 1, 1), (23, .bipush 45, 2), (25, .invokevirtual 61, 3), (28, .istore_n 3, 1)]
noncomputable def xi_61_1 : XIs := [(29, .iload_n 3, 1), (30, .ifCond .ne 19, 3), (33, .aload_n 1, 1), (34, .bipush 40, 2), (36, .invokevirtual 61, 3), (39, .ifCond .ne 10, 3), (42, .aload_n 1, 1), (43, .iconst 2, 1), (44, .iconst 4, 1), (45, .invokevirtual 65, 3), (48, .ireturn, 1), (49, .iload_n 2, 1), (50, .bipush 10, 2), (52, .if_icmp .lt 13, 3), (55, .aload_n 1, 1), (56, .iconst 3, 1)]
noncomputable def xi_61_2 : XIs := [(57, .aload_n 1, 1), (58, .getfield 98, 3), (61, .invokevirtual 46, 3), (64, .ireturn, 1), (65, .aload_n 1, 1), (66, .bipush 6, 2), (68, .iconst 0, 1), (69, .invokevirtual 53, 3), (72, .iload_n 3, 1), (73, .ifCond .eq 29, 3), (76, .aload_n 0, 1), (77, .aload_n 1, 1), (78, .iload_n 2, 1), (79, .iconst 1, 1), (80, .iadd, 1), (81, .invokevirtual 90, 3)]
noncomputable def xi_61_3 : XIs := [(84, .ifCond .eq 16, 3), (87, .aload_n 0, 1), (88, .ldc 101, 2), (90, .invokevirtual 84, 3), (93, .ifCond .eq 7, 3), (96, .iconst 1, 1), (97, .goto 4, 3), (100, .iconst 0, 1), (101, .ireturn, 1), (102, .aload_n 0, 1), (103, .aload_n 1, 1), (104, .iload_n 2, 1), (105, .iconst 1, 1), (106, .iadd, 1), (107, .invokevirtual 57, 3), (110, .ifCond .ne 5, 3)]
noncomputable def xi_61_4 : XIs := [(113, .iconst 0, 1), (114, .ireturn, 1), (115, .aload_n 1, 1), (116, .bipush 41, 2), (118, .invokevirtual 61, 3), (121, .ifCond .ne 10, 3), (124, .aload_n 1, 1), (125, .iconst 2, 1), (126, .iconst 4, 1), (127, .invokevirtual 65, 3), (130, .ireturn, 1), (131, .aload_n 1, 1), (132, .bipush 6, 2), (134, .iconst 0, 1), (135, .invokevirtual 53, 3), (138, .iconst 1, 1)]
noncomputable def xi_61_5 : XIs := [(139, .ireturn, 1)]
set_option maxRecDepth 100000 in
theorem xi_w61 : xi_ok cX1_readFactor (xi_61_0 ++ (xi_61_1 ++ (xi_61_2 ++ (xi_61_3 ++ (xi_61_4 ++ (xi_61_5)))))) = true := dl_all _ _ (by decide +kernel)
theorem xi_ok61_0 : xi_ok cX1_readFactor xi_61_0 = true := (xi_ap xi_w61).1
theorem xi_r61_1 : xi_ok cX1_readFactor (xi_61_1 ++ (xi_61_2 ++ (xi_61_3 ++ (xi_61_4 ++ (xi_61_5))))) = true := (xi_ap xi_w61).2
theorem xi_ok61_1 : xi_ok cX1_readFactor xi_61_1 = true := (xi_ap xi_r61_1).1
theorem xi_r61_2 : xi_ok cX1_readFactor (xi_61_2 ++ (xi_61_3 ++ (xi_61_4 ++ (xi_61_5)))) = true := (xi_ap xi_r61_1).2
theorem xi_ok61_2 : xi_ok cX1_readFactor xi_61_2 = true := (xi_ap xi_r61_2).1
theorem xi_r61_3 : xi_ok cX1_readFactor (xi_61_3 ++ (xi_61_4 ++ (xi_61_5))) = true := (xi_ap xi_r61_2).2
theorem xi_ok61_3 : xi_ok cX1_readFactor xi_61_3 = true := (xi_ap xi_r61_3).1
theorem xi_r61_4 : xi_ok cX1_readFactor (xi_61_4 ++ (xi_61_5)) = true := (xi_ap xi_r61_3).2
theorem xi_ok61_4 : xi_ok cX1_readFactor xi_61_4 = true := (xi_ap xi_r61_4).1
theorem xi_r61_5 : xi_ok cX1_readFactor (xi_61_5) = true := (xi_ap xi_r61_4).2
theorem xi_ok61_5 : xi_ok cX1_readFactor xi_61_5 = true := xi_r61_5
noncomputable def xi_61 (pc : Nat) : XIs := cond (Nat.blt pc 84) (cond (Nat.blt pc 29) (xi_61_0) (cond (Nat.blt pc 57) (xi_61_1) (xi_61_2))) (cond (Nat.blt pc 113) (xi_61_3) (cond (Nat.blt pc 139) (xi_61_4) (xi_61_5)))
theorem xi_ok61 (pc : Nat) : xi_ok cX1_readFactor (xi_61 pc) = true := xi_c (xi_c (xi_ok61_0) (xi_c (xi_ok61_1) (xi_ok61_2))) (xi_c (xi_ok61_3) (xi_c (xi_ok61_4) (xi_ok61_5)))
noncomputable def xi_62_0 : XIs := [(0, .aload_n 1, 1), (1, .getfield 80, 3), (4, .istore_n 2, 1), (5, .aload_n 1, 1), (6, .getfield 68, 3), (9, .iconst 1, 1), (10, .if_icmp .ne 36, 3), (13, .ldc 102, 2), (15, .bipush 97, 2), (17, .aload_n 1, 1), (18, .getfield 80, 3), (21, .iadd, 1), (22, .i2c, 1), (23, .invokevirtual 104, 3), (26, .istore_n 3, 1), (27, .iload_n 3, 1)]
noncomputable def xi_62_1 : XIs := [(28, .ifCond .ge 13, 3), (31, .aload_n 1, 1), (32, .iconst 5, 1), (33, .aload_n 1, 1), (34, .getfield 98, 3), (37, .invokevirtual 46, 3), (40, .ireturn, 1), (41, .ldc 110, 2), (43, .iload_n 3, 1), (44, .iadd, 1), (45, .istore_n 2, 1), (46, .aload_n 0, 1), (47, .iload_n 2, 1), (48, .invokevirtual 84, 3), (51, .pop, 1), (52, .aload_n 1, 1)]
noncomputable def xi_62_2 : XIs := [(53, .bipush 6, 2), (55, .iconst 0, 1), (56, .invokevirtual 53, 3), (59, .iconst 1, 1), (60, .ireturn, 1)]
set_option maxRecDepth 100000 in
theorem xi_w62 : xi_ok cX1_readAtom (xi_62_0 ++ (xi_62_1 ++ (xi_62_2))) = true := dl_all _ _ (by decide +kernel)
theorem xi_ok62_0 : xi_ok cX1_readAtom xi_62_0 = true := (xi_ap xi_w62).1
theorem xi_r62_1 : xi_ok cX1_readAtom (xi_62_1 ++ (xi_62_2)) = true := (xi_ap xi_w62).2
theorem xi_ok62_1 : xi_ok cX1_readAtom xi_62_1 = true := (xi_ap xi_r62_1).1
theorem xi_r62_2 : xi_ok cX1_readAtom (xi_62_2) = true := (xi_ap xi_r62_1).2
theorem xi_ok62_2 : xi_ok cX1_readAtom xi_62_2 = true := xi_r62_2
noncomputable def xi_62 (pc : Nat) : XIs := cond (Nat.blt pc 28) (xi_62_0) (cond (Nat.blt pc 53) (xi_62_1) (xi_62_2))
theorem xi_ok62 (pc : Nat) : xi_ok cX1_readAtom (xi_62 pc) = true := xi_c (xi_ok62_0) (xi_c (xi_ok62_1) (xi_ok62_2))
noncomputable def xi_63_0 : XIs := [(0, .aload_n 1, 1), (1, .invokevirtual 111, 3), (4, .aload_n 0, 1), (5, .aload_n 1, 1), (6, .getfield 116, 3), (9, .putfield 119, 3), (12, .aload_n 0, 1), (13, .getfield 35, 3), (16, .lconst 0, 1), (17, .invokestatic 120, 3), (20, .aload_n 0, 1), (21, .aload_n 1, 1), (22, .iconst 0, 1), (23, .invokevirtual 126, 3), (26, .pop, 1), (27, .iconst 1, 1)]
noncomputable def xi_63_1 : XIs := [(28, .istore_n 3, 1), (29, .iload_n 3, 1), (30, .iload_n 2, 1), (31, .if_icmp .gt 35, 3), (34, .aload_n 0, 1), (35, .getfield 32, 3), (38, .iconst 0, 1), (39, .aload_n 0, 1), (40, .getfield 35, 3), (43, .iconst 0, 1), (44, .bipush 32, 2), (46, .invokestatic 71, 3), (49, .aload_n 0, 1), (50, .aload_n 1, 1), (51, .iload_n 3, 1), (52, .invokevirtual 126, 3)]
noncomputable def xi_63_2 : XIs := [(55, .ifCond .ne 5, 3), (58, .iload_n 3, 1), (59, .ireturn, 1), (60, .iinc 3 1, 3), (63, .goto (-34), 3), (66, .iload_n 2, 1), (67, .ireturn, 1)]
set_option maxRecDepth 100000 in
theorem xi_w63 : xi_ok cX1_work (xi_63_0 ++ (xi_63_1 ++ (xi_63_2))) = true := dl_all _ _ (by decide +kernel)
theorem xi_ok63_0 : xi_ok cX1_work xi_63_0 = true := (xi_ap xi_w63).1
theorem xi_r63_1 : xi_ok cX1_work (xi_63_1 ++ (xi_63_2)) = true := (xi_ap xi_w63).2
theorem xi_ok63_1 : xi_ok cX1_work xi_63_1 = true := (xi_ap xi_r63_1).1
theorem xi_r63_2 : xi_ok cX1_work (xi_63_2) = true := (xi_ap xi_r63_1).2
theorem xi_ok63_2 : xi_ok cX1_work xi_63_2 = true := xi_r63_2
noncomputable def xi_63 (pc : Nat) : XIs := cond (Nat.blt pc 28) (xi_63_0) (cond (Nat.blt pc 55) (xi_63_1) (xi_63_2))
theorem xi_ok63 (pc : Nat) : xi_ok cX1_work (xi_63 pc) = true := xi_c (xi_ok63_0) (xi_c (xi_ok63_1) (xi_ok63_2))
noncomputable def xi_64_0 : XIs := [(0, .iconst 0, 1), (1, .istore_n 3, 1), (2, .iconst 0, 1), (3, .istore 4, 2), (5, .iload 4, 2), (7, .aload_n 1, 1), (8, .getfield 116, 3), (11, .if_icmp .ge 78, 3), (14, .aload_n 0, 1), (15, .aload_n 1, 1), (16, .iload 4, 2), (18, .iload_n 2, 1), (19, .invokevirtual 130, 3), (22, .aload_n 0, 1), (23, .getfield 32, 3), (26, .iload 4, 2)]
noncomputable def xi_64_1 : XIs := [(28, .iload_n 2, 1), (29, .ifCond .ne 15, 3), (32, .aload_n 0, 1), (33, .iconst 0, 1), (34, .aload_n 0, 1), (35, .getfield 15, 3), (38, .invokevirtual 134, 3), (41, .goto 15, 3), (44, .aload_n 0, 1), (45, .aload_n 0, 1), (46, .getfield 15, 3), (49, .aload_n 0, 1), (50, .getfield 19, 3), (53, .invokevirtual 134, 3), (56, .lastore, 1), (57, .iload_n 3, 1)]
noncomputable def xi_64_2 : XIs := [(58, .aload_n 0, 1), (59, .getfield 32, 3), (62, .iload 4, 2), (64, .laload, 1), (65, .aload_n 0, 1), (66, .getfield 35, 3), (69, .iload 4, 2), (71, .laload, 1), (72, .lcmp, 1), (73, .ifCond .eq 7, 3), (76, .iconst 1, 1), (77, .goto 4, 3), (80, .iconst 0, 1), (81, .ior, 1), (82, .istore_n 3, 1), (83, .iinc 4 1, 3)]
noncomputable def xi_64_3 : XIs := [(86, .goto (-81), 3), (89, .iload_n 3, 1), (90, .ireturn, 1)]
set_option maxRecDepth 100000 in
theorem xi_w64 : xi_ok cX1_doRound (xi_64_0 ++ (xi_64_1 ++ (xi_64_2 ++ (xi_64_3)))) = true := dl_all _ _ (by decide +kernel)
theorem xi_ok64_0 : xi_ok cX1_doRound xi_64_0 = true := (xi_ap xi_w64).1
theorem xi_r64_1 : xi_ok cX1_doRound (xi_64_1 ++ (xi_64_2 ++ (xi_64_3))) = true := (xi_ap xi_w64).2
theorem xi_ok64_1 : xi_ok cX1_doRound xi_64_1 = true := (xi_ap xi_r64_1).1
theorem xi_r64_2 : xi_ok cX1_doRound (xi_64_2 ++ (xi_64_3)) = true := (xi_ap xi_r64_1).2
theorem xi_ok64_2 : xi_ok cX1_doRound xi_64_2 = true := (xi_ap xi_r64_2).1
theorem xi_r64_3 : xi_ok cX1_doRound (xi_64_3) = true := (xi_ap xi_r64_2).2
theorem xi_ok64_3 : xi_ok cX1_doRound xi_64_3 = true := xi_r64_3
noncomputable def xi_64 (pc : Nat) : XIs := cond (Nat.blt pc 58) (cond (Nat.blt pc 28) (xi_64_0) (xi_64_1)) (cond (Nat.blt pc 86) (xi_64_2) (xi_64_3))
theorem xi_ok64 (pc : Nat) : xi_ok cX1_doRound (xi_64 pc) = true := xi_c (xi_c (xi_ok64_0) (xi_ok64_1)) (xi_c (xi_ok64_2) (xi_ok64_3))
noncomputable def xi_65_0 : XIs := [(0, .lconst 0, 1), (1, .lstore 4, 2), (3, .ldc2_w 138, 3), (6, .lstore 6, 2), (8, .ldc2_w 140, 3), (11, .lstore 8, 2), (13, .aload_n 1, 1), (14, .getfield 142, 3), (17, .iload_n 2, 1), (18, .iaload, 1), (19, .istore 10, 2), (21, .iload 10, 2), (23, .aload_n 1, 1), (24, .getfield 142, 3), (27, .iload_n 2, 1), (28, .iconst 1, 1)]
noncomputable def xi_65_1 : XIs := [(29, .iadd, 1), (30, .iaload, 1), (31, .if_icmp .ge 73, 3), (34, .aload_n 1, 1), (35, .getfield 145, 3), (38, .iload 10, 2), (40, .iaload, 1), (41, .istore 11, 2), (43, .aload_n 0, 1), (44, .getfield 35, 3), (47, .aload_n 1, 1), (48, .getfield 148, 3), (51, .iload 11, 2), (53, .iaload, 1), (54, .laload, 1), (55, .lstore 12, 2)]
noncomputable def xi_65_2 : XIs := [(57, .lload 12, 2), (59, .aload_n 1, 1), (60, .getfield 151, 3), (63, .iload 11, 2), (65, .iaload, 1), (66, .i2l, 1), (67, .ladd, 1), (68, .invokestatic 154, 3), (71, .lstore 14, 2), (73, .lload 4, 2), (75, .lload 12, 2), (77, .ladd, 1), (78, .lstore 4, 2), (80, .lload 6, 2), (82, .lload 14, 2), (84, .invokestatic 158, 3)]
noncomputable def xi_65_3 : XIs := [(87, .lstore 6, 2), (89, .lload 8, 2), (91, .lload 14, 2), (93, .invokestatic 164, 3), (96, .lstore 8, 2), (98, .iinc 10 1, 3), (101, .goto (-80), 3), (104, .aload_n 0, 1), (105, .getfield 29, 3), (108, .iconst 0, 1), (109, .aload_n 0, 1), (110, .getfield 35, 3), (113, .iload_n 2, 1), (114, .laload, 1), (115, .lastore, 1), (116, .aload_n 0, 1)]
noncomputable def xi_65_4 : XIs := [(117, .getfield 29, 3), (120, .iconst 1, 1), (121, .iload_n 2, 1), (122, .i2l, 1), (123, .lastore, 1), (124, .aload_n 0, 1), (125, .getfield 29, 3), (128, .iconst 2, 1), (129, .aload_n 1, 1), (130, .getfield 167, 3), (133, .iload_n 2, 1), (134, .iaload, 1), (135, .i2l, 1), (136, .lastore, 1), (137, .aload_n 0, 1), (138, .getfield 29, 3)]
noncomputable def xi_65_5 : XIs := [(141, .iconst 3, 1), (142, .aload_n 1, 1), (143, .iload_n 2, 1), (144, .invokevirtual 170, 3), (147, .i2l, 1), (148, .lastore, 1), (149, .aload_n 0, 1), (150, .getfield 29, 3), (153, .iconst 4, 1), (154, .aload_n 1, 1), (155, .iload_n 2, 1), (156, .invokevirtual 173, 3), (159, .i2l, 1), (160, .lastore, 1), (161, .aload_n 0, 1), (162, .getfield 29, 3)]
noncomputable def xi_65_6 : XIs := [(165, .iconst 5, 1), (166, .iload_n 3, 1), (167, .i2l, 1), (168, .lastore, 1), (169, .aload_n 0, 1), (170, .getfield 29, 3), (173, .bipush 6, 2), (175, .lload 4, 2), (177, .invokestatic 154, 3), (180, .lastore, 1), (181, .aload_n 0, 1), (182, .getfield 29, 3), (185, .bipush 7, 2), (187, .lload 6, 2), (189, .lastore, 1), (190, .aload_n 0, 1)]
noncomputable def xi_65_7 : XIs := [(191, .getfield 29, 3), (194, .bipush 8, 2), (196, .lload 8, 2), (198, .lastore, 1), (199, .return_, 1)]
set_option maxRecDepth 100000 in
theorem xi_w65 : xi_ok cX1_look (xi_65_0 ++ (xi_65_1 ++ (xi_65_2 ++ (xi_65_3 ++ (xi_65_4 ++ (xi_65_5 ++ (xi_65_6 ++ (xi_65_7)))))))) = true := dl_all _ _ (by decide +kernel)
theorem xi_ok65_0 : xi_ok cX1_look xi_65_0 = true := (xi_ap xi_w65).1
theorem xi_r65_1 : xi_ok cX1_look (xi_65_1 ++ (xi_65_2 ++ (xi_65_3 ++ (xi_65_4 ++ (xi_65_5 ++ (xi_65_6 ++ (xi_65_7))))))) = true := (xi_ap xi_w65).2
theorem xi_ok65_1 : xi_ok cX1_look xi_65_1 = true := (xi_ap xi_r65_1).1
theorem xi_r65_2 : xi_ok cX1_look (xi_65_2 ++ (xi_65_3 ++ (xi_65_4 ++ (xi_65_5 ++ (xi_65_6 ++ (xi_65_7)))))) = true := (xi_ap xi_r65_1).2
theorem xi_ok65_2 : xi_ok cX1_look xi_65_2 = true := (xi_ap xi_r65_2).1
theorem xi_r65_3 : xi_ok cX1_look (xi_65_3 ++ (xi_65_4 ++ (xi_65_5 ++ (xi_65_6 ++ (xi_65_7))))) = true := (xi_ap xi_r65_2).2
theorem xi_ok65_3 : xi_ok cX1_look xi_65_3 = true := (xi_ap xi_r65_3).1
theorem xi_r65_4 : xi_ok cX1_look (xi_65_4 ++ (xi_65_5 ++ (xi_65_6 ++ (xi_65_7)))) = true := (xi_ap xi_r65_3).2
theorem xi_ok65_4 : xi_ok cX1_look xi_65_4 = true := (xi_ap xi_r65_4).1
theorem xi_r65_5 : xi_ok cX1_look (xi_65_5 ++ (xi_65_6 ++ (xi_65_7))) = true := (xi_ap xi_r65_4).2
theorem xi_ok65_5 : xi_ok cX1_look xi_65_5 = true := (xi_ap xi_r65_5).1
theorem xi_r65_6 : xi_ok cX1_look (xi_65_6 ++ (xi_65_7)) = true := (xi_ap xi_r65_5).2
theorem xi_ok65_6 : xi_ok cX1_look xi_65_6 = true := (xi_ap xi_r65_6).1
theorem xi_r65_7 : xi_ok cX1_look (xi_65_7) = true := (xi_ap xi_r65_6).2
theorem xi_ok65_7 : xi_ok cX1_look xi_65_7 = true := xi_r65_7
noncomputable def xi_65 (pc : Nat) : XIs := cond (Nat.blt pc 117) (cond (Nat.blt pc 57) (cond (Nat.blt pc 29) (xi_65_0) (xi_65_1)) (cond (Nat.blt pc 87) (xi_65_2) (xi_65_3))) (cond (Nat.blt pc 165) (cond (Nat.blt pc 141) (xi_65_4) (xi_65_5)) (cond (Nat.blt pc 191) (xi_65_6) (xi_65_7)))
theorem xi_ok65 (pc : Nat) : xi_ok cX1_look (xi_65 pc) = true := xi_c (xi_c (xi_c (xi_ok65_0) (xi_ok65_1)) (xi_c (xi_ok65_2) (xi_ok65_3))) (xi_c (xi_c (xi_ok65_4) (xi_ok65_5)) (xi_c (xi_ok65_6) (xi_ok65_7)))
noncomputable def xi_66_0 : XIs := [(0, .iconst 0, 1), (1, .istore_n 3, 1), (2, .iload_n 1, 1), (3, .istore 4, 2), (5, .iload 4, 2), (7, .iload_n 2, 1), (8, .if_icmp .ge 120, 3), (11, .aload_n 0, 1), (12, .getfield 11, 3), (15, .iload 4, 2), (17, .iaload, 1), (18, .istore 5, 2), (20, .iload 5, 2), (22, .ldc 83, 2), (24, .if_icmp .ge 38, 3), (27, .aload_n 0, 1)]
noncomputable def xi_66_1 : XIs := [(28, .getfield 25, 3), (31, .iload_n 3, 1), (32, .iload 5, 2), (34, .ldc 110, 2), (36, .if_icmp .ge 9, 3), (39, .iload 5, 2), (41, .i2l, 1), (42, .goto 13, 3), (45, .aload_n 0, 1), (46, .getfield 29, 3), (49, .iload 5, 2), (51, .ldc 110, 2), (53, .isub, 1), (54, .laload, 1), (55, .lastore, 1), (56, .iinc 3 1, 3)]
noncomputable def xi_66_2 : XIs := [(59, .goto 63, 3), (62, .iload 5, 2), (64, .ldc 101, 2), (66, .if_icmp .ne 23, 3), (69, .aload_n 0, 1), (70, .getfield 25, 3), (73, .iload_n 3, 1), (74, .iconst 1, 1), (75, .isub, 1), (76, .aload_n 0, 1), (77, .getfield 25, 3), (80, .iload_n 3, 1), (81, .iconst 1, 1), (82, .isub, 1), (83, .laload, 1), (84, .lneg, 1)]
noncomputable def xi_66_3 : XIs := [(85, .lastore, 1), (86, .goto 36, 3), (89, .iinc 3 (-1), 3), (92, .aload_n 0, 1), (93, .getfield 25, 3), (96, .iload_n 3, 1), (97, .iconst 1, 1), (98, .isub, 1), (99, .iload 5, 2), (101, .ldc 83, 2), (103, .isub, 1), (104, .aload_n 0, 1), (105, .getfield 25, 3), (108, .iload_n 3, 1), (109, .iconst 1, 1), (110, .isub, 1)]
noncomputable def xi_66_4 : XIs := [(111, .laload, 1), (112, .aload_n 0, 1), (113, .getfield 25, 3), (116, .iload_n 3, 1), (117, .laload, 1), (118, .invokestatic 176, 3), (121, .lastore, 1), (122, .iinc 4 1, 3), (125, .goto (-120), 3), (128, .aload_n 0, 1), (129, .getfield 25, 3), (132, .iconst 0, 1), (133, .laload, 1), (134, .lreturn, 1)]
set_option maxRecDepth 100000 in
theorem xi_w66 : xi_ok cX1_compute (xi_66_0 ++ (xi_66_1 ++ (xi_66_2 ++ (xi_66_3 ++ (xi_66_4))))) = true := dl_all _ _ (by decide +kernel)
theorem xi_ok66_0 : xi_ok cX1_compute xi_66_0 = true := (xi_ap xi_w66).1
theorem xi_r66_1 : xi_ok cX1_compute (xi_66_1 ++ (xi_66_2 ++ (xi_66_3 ++ (xi_66_4)))) = true := (xi_ap xi_w66).2
theorem xi_ok66_1 : xi_ok cX1_compute xi_66_1 = true := (xi_ap xi_r66_1).1
theorem xi_r66_2 : xi_ok cX1_compute (xi_66_2 ++ (xi_66_3 ++ (xi_66_4))) = true := (xi_ap xi_r66_1).2
theorem xi_ok66_2 : xi_ok cX1_compute xi_66_2 = true := (xi_ap xi_r66_2).1
theorem xi_r66_3 : xi_ok cX1_compute (xi_66_3 ++ (xi_66_4)) = true := (xi_ap xi_r66_2).2
theorem xi_ok66_3 : xi_ok cX1_compute xi_66_3 = true := (xi_ap xi_r66_3).1
theorem xi_r66_4 : xi_ok cX1_compute (xi_66_4) = true := (xi_ap xi_r66_3).2
theorem xi_ok66_4 : xi_ok cX1_compute xi_66_4 = true := xi_r66_4
noncomputable def xi_66 (pc : Nat) : XIs := cond (Nat.blt pc 59) (cond (Nat.blt pc 28) (xi_66_0) (xi_66_1)) (cond (Nat.blt pc 85) (xi_66_2) (cond (Nat.blt pc 111) (xi_66_3) (xi_66_4)))
theorem xi_ok66 (pc : Nat) : xi_ok cX1_compute (xi_66 pc) = true := xi_c (xi_c (xi_ok66_0) (xi_ok66_1)) (xi_c (xi_ok66_2) (xi_c (xi_ok66_3) (xi_ok66_4)))
noncomputable def xi_67_0 : XIs := [(0, .iload_n 0, 1)]
noncomputable def xi_67_1 : XIs := [(1, .lookupswitch 75 #[(42, 57), (43, 43), (45, 50), (60, 63)], 43)]
set_option maxRecDepth 100000 in
theorem xi_ok67_1 : xi_ok cX1_combine xi_67_1 = true := by decide +kernel
noncomputable def xi_67_2 : XIs := [(44, .lload_n 1, 1), (45, .lload_n 3, 1), (46, .ladd, 1), (47, .invokestatic 154, 3), (50, .lreturn, 1), (51, .lload_n 1, 1), (52, .lload_n 3, 1), (53, .lsub, 1), (54, .invokestatic 154, 3), (57, .lreturn, 1), (58, .lload_n 1, 1), (59, .lload_n 3, 1), (60, .invokestatic 180, 3), (63, .lreturn, 1), (64, .lload_n 1, 1), (65, .lload_n 3, 1)]
noncomputable def xi_67_3 : XIs := [(66, .lcmp, 1), (67, .ifCond .ge 7, 3), (70, .lconst 1, 1), (71, .goto 4, 3), (74, .lconst 0, 1), (75, .lreturn, 1), (76, .lload_n 1, 1), (77, .lload_n 3, 1), (78, .lcmp, 1), (79, .ifCond .ne 7, 3), (82, .lconst 1, 1), (83, .goto 4, 3), (86, .lconst 0, 1), (87, .lreturn, 1)]
set_option maxRecDepth 100000 in
theorem xi_w67 : xi_ok cX1_combine (xi_67_0 ++ (xi_67_2 ++ (xi_67_3))) = true := dl_all _ _ (by decide +kernel)
theorem xi_ok67_0 : xi_ok cX1_combine xi_67_0 = true := (xi_ap xi_w67).1
theorem xi_r67_1 : xi_ok cX1_combine (xi_67_2 ++ (xi_67_3)) = true := (xi_ap xi_w67).2
theorem xi_ok67_2 : xi_ok cX1_combine xi_67_2 = true := (xi_ap xi_r67_1).1
theorem xi_r67_2 : xi_ok cX1_combine (xi_67_3) = true := (xi_ap xi_r67_1).2
theorem xi_ok67_3 : xi_ok cX1_combine xi_67_3 = true := xi_r67_2
noncomputable def xi_67 (pc : Nat) : XIs := cond (Nat.blt pc 44) (cond (Nat.blt pc 1) (xi_67_0) (xi_67_1)) (cond (Nat.blt pc 66) (xi_67_2) (xi_67_3))
theorem xi_ok67 (pc : Nat) : xi_ok cX1_combine (xi_67 pc) = true := xi_c (xi_c (xi_ok67_0) (xi_ok67_1)) (xi_c (xi_ok67_2) (xi_ok67_3))
noncomputable def xi_68_0 : XIs := [(0, .lload_n 0, 1), (1, .lconst 0, 1), (2, .lcmp, 1), (3, .ifCond .eq 19, 3), (6, .lload_n 2, 1), (7, .invokestatic 183, 3), (10, .ldc2_w 138, 3), (13, .lload_n 0, 1), (14, .invokestatic 183, 3), (17, .ldiv, 1), (18, .lcmp, 1), (19, .ifCond .gt 7, 3), (22, .lload_n 0, 1), (23, .lload_n 2, 1), (24, .lmul, 1), (25, .lreturn, 1)]
noncomputable def xi_68_1 : XIs := [(26, .lload_n 0, 1), (27, .lconst 0, 1), (28, .lcmp, 1), (29, .ifCond .le 7, 3), (32, .iconst 1, 1), (33, .goto 4, 3), (36, .iconst 0, 1), (37, .lload_n 2, 1), (38, .lconst 0, 1), (39, .lcmp, 1), (40, .ifCond .le 7, 3), (43, .iconst 1, 1), (44, .goto 4, 3), (47, .iconst 0, 1), (48, .if_icmp .ne 9, 3), (51, .ldc2_w 138, 3)]
noncomputable def xi_68_2 : XIs := [(54, .goto 6, 3), (57, .ldc2_w 140, 3), (60, .lreturn, 1)]
set_option maxRecDepth 100000 in
theorem xi_w68 : xi_ok cX1_times (xi_68_0 ++ (xi_68_1 ++ (xi_68_2))) = true := dl_all _ _ (by decide +kernel)
theorem xi_ok68_0 : xi_ok cX1_times xi_68_0 = true := (xi_ap xi_w68).1
theorem xi_r68_1 : xi_ok cX1_times (xi_68_1 ++ (xi_68_2)) = true := (xi_ap xi_w68).2
theorem xi_ok68_1 : xi_ok cX1_times xi_68_1 = true := (xi_ap xi_r68_1).1
theorem xi_r68_2 : xi_ok cX1_times (xi_68_2) = true := (xi_ap xi_r68_1).2
theorem xi_ok68_2 : xi_ok cX1_times xi_68_2 = true := xi_r68_2
noncomputable def xi_68 (pc : Nat) : XIs := cond (Nat.blt pc 26) (xi_68_0) (cond (Nat.blt pc 54) (xi_68_1) (xi_68_2))
theorem xi_ok68 (pc : Nat) : xi_ok cX1_times (xi_68 pc) = true := xi_c (xi_ok68_0) (xi_c (xi_ok68_1) (xi_ok68_2))
noncomputable def xi_69_0 : XIs := [(0, .ldc2_w 140, 3), (3, .ldc2_w 138, 3), (6, .lload_n 0, 1), (7, .invokestatic 158, 3), (10, .invokestatic 164, 3), (13, .lreturn, 1)]
set_option maxRecDepth 100000 in
theorem xi_w69 : xi_ok cX1_clip (xi_69_0) = true := dl_all _ _ (by decide +kernel)
theorem xi_ok69_0 : xi_ok cX1_clip xi_69_0 = true := xi_w69
noncomputable def xi_69 (pc : Nat) : XIs := xi_69_0
theorem xi_ok69 (pc : Nat) : xi_ok cX1_clip (xi_69 pc) = true := xi_ok69_0
noncomputable def xi_70_0 : XIs := [(0, .aload_n 0, 1), (1, .iconst 0, 1), (2, .putfield 186, 3), (5, .aload_n 0, 1), (6, .iconst 0, 1), (7, .putfield 189, 3), (10, .aload_n 0, 1), (11, .iconst 0, 1), (12, .putfield 192, 3), (15, .aload_n 1, 1), (16, .iload_n 3, 1), (17, .invokestatic 195, 3), (20, .istore 7, 2), (22, .iconst 0, 1), (23, .istore 8, 2), (25, .iload 8, 2)]
noncomputable def xi_70_1 : XIs := [(27, .iload_n 2, 1), (28, .if_icmp .ge 56, 3), (31, .iload 7, 2), (33, .istore 9, 2), (35, .iconst 0, 1), (36, .istore 10, 2), (38, .iload 10, 2), (40, .ldc 110, 2), (42, .if_icmp .ge 36, 3), (45, .iload 9, 2), (47, .ifCond .le 31, 3), (50, .aload_n 0, 1), (51, .iload 9, 2), (53, .iload 4, 2), (55, .lload 5, 2), (57, .invokevirtual 199, 3)]
noncomputable def xi_70_2 : XIs := [(60, .istore 9, 2), (62, .aload_n 0, 1), (63, .dup, 1), (64, .getfield 192, 3), (67, .iconst 1, 1), (68, .iadd, 1), (69, .putfield 192, 3), (72, .iinc 10 1, 3), (75, .goto (-37), 3), (78, .iinc 8 1, 3), (81, .goto (-56), 3), (84, .return_, 1)]
set_option maxRecDepth 100000 in
theorem xi_w70 : xi_ok cX1_post (xi_70_0 ++ (xi_70_1 ++ (xi_70_2))) = true := dl_all _ _ (by decide +kernel)
theorem xi_ok70_0 : xi_ok cX1_post xi_70_0 = true := (xi_ap xi_w70).1
theorem xi_r70_1 : xi_ok cX1_post (xi_70_1 ++ (xi_70_2)) = true := (xi_ap xi_w70).2
theorem xi_ok70_1 : xi_ok cX1_post xi_70_1 = true := (xi_ap xi_r70_1).1
theorem xi_r70_2 : xi_ok cX1_post (xi_70_2) = true := (xi_ap xi_r70_1).2
theorem xi_ok70_2 : xi_ok cX1_post xi_70_2 = true := xi_r70_2
noncomputable def xi_70 (pc : Nat) : XIs := cond (Nat.blt pc 27) (xi_70_0) (cond (Nat.blt pc 60) (xi_70_1) (xi_70_2))
theorem xi_ok70 (pc : Nat) : xi_ok cX1_post (xi_70 pc) = true := xi_c (xi_ok70_0) (xi_c (xi_ok70_1) (xi_ok70_2))
noncomputable def xi_71_0 : XIs := [(0, .iload_n 1, 1), (1, .iconst 1, 1), (2, .if_icmp .ge 5, 3), (5, .iconst 0, 1), (6, .ireturn, 1), (7, .iconst 0, 1), (8, .istore_n 2, 1), (9, .iconst 0, 1), (10, .istore_n 3, 1), (11, .iload_n 3, 1), (12, .aload_n 0, 1), (13, .getfield 116, 3), (16, .if_icmp .ge 67, 3), (19, .iconst 0, 1), (20, .istore 4, 2), (22, .aload_n 0, 1)]
noncomputable def xi_71_1 : XIs := [(23, .getfield 203, 3), (26, .iload_n 3, 1), (27, .iaload, 1), (28, .istore 5, 2), (30, .iload 5, 2), (32, .ifCond .eq 29, 3), (35, .iload 4, 2), (37, .iconst 1, 1), (38, .iload 5, 2), (40, .invokestatic 206, 3), (43, .iload_n 1, 1), (44, .irem, 1), (45, .ishl, 1), (46, .ior, 1), (47, .istore 4, 2), (49, .iload 5, 2)]
noncomputable def xi_71_2 : XIs := [(51, .iload 5, 2), (53, .iconst 1, 1), (54, .isub, 1), (55, .iand, 1), (56, .istore 5, 2), (58, .goto (-28), 3), (61, .iload_n 2, 1), (62, .iload 4, 2), (64, .iconst 1, 1), (65, .iload_n 3, 1), (66, .iload_n 1, 1), (67, .irem, 1), (68, .ishl, 1), (69, .iconst (-1), 1), (70, .ixor, 1), (71, .iand, 1)]
noncomputable def xi_71_3 : XIs := [(72, .invokestatic 209, 3), (75, .iadd, 1), (76, .istore_n 2, 1), (77, .iinc 3 1, 3), (80, .goto (-69), 3), (83, .iload_n 2, 1), (84, .ireturn, 1)]
set_option maxRecDepth 100000 in
theorem xi_w71 : xi_ok cX1_lettersOf (xi_71_0 ++ (xi_71_1 ++ (xi_71_2 ++ (xi_71_3)))) = true := dl_all _ _ (by decide +kernel)
theorem xi_ok71_0 : xi_ok cX1_lettersOf xi_71_0 = true := (xi_ap xi_w71).1
theorem xi_r71_1 : xi_ok cX1_lettersOf (xi_71_1 ++ (xi_71_2 ++ (xi_71_3))) = true := (xi_ap xi_w71).2
theorem xi_ok71_1 : xi_ok cX1_lettersOf xi_71_1 = true := (xi_ap xi_r71_1).1
theorem xi_r71_2 : xi_ok cX1_lettersOf (xi_71_2 ++ (xi_71_3)) = true := (xi_ap xi_r71_1).2
theorem xi_ok71_2 : xi_ok cX1_lettersOf xi_71_2 = true := (xi_ap xi_r71_2).1
theorem xi_r71_3 : xi_ok cX1_lettersOf (xi_71_3) = true := (xi_ap xi_r71_2).2
theorem xi_ok71_3 : xi_ok cX1_lettersOf xi_71_3 = true := xi_r71_3
noncomputable def xi_71 (pc : Nat) : XIs := cond (Nat.blt pc 51) (cond (Nat.blt pc 23) (xi_71_0) (xi_71_1)) (cond (Nat.blt pc 72) (xi_71_2) (xi_71_3))
theorem xi_ok71 (pc : Nat) : xi_ok cX1_lettersOf (xi_71 pc) = true := xi_c (xi_c (xi_ok71_0) (xi_ok71_1)) (xi_c (xi_ok71_2) (xi_ok71_3))
noncomputable def xi_72_0 : XIs := [(0, .iconst 0, 1), (1, .istore 5, 2), (3, .iconst 0, 1), (4, .istore 6, 2), (6, .iload 6, 2), (8, .iload_n 1, 1), (9, .if_icmp .ge 42, 3), (12, .aload_n 0, 1), (13, .dup, 1), (14, .getfield 186, 3), (17, .iconst 1, 1), (18, .iadd, 1), (19, .putfield 186, 3), (22, .lload_n 3, 1), (23, .ldc2_w 214, 3), (26, .aload_n 0, 1)]
noncomputable def xi_72_1 : XIs := [(27, .getfield 186, 3), (30, .i2l, 1), (31, .lmul, 1), (32, .ladd, 1), (33, .invokestatic 216, 3), (36, .iload_n 2, 1), (37, .i2l, 1), (38, .lcmp, 1), (39, .ifCond .ge 6, 3), (42, .iinc 5 1, 3), (45, .iinc 6 1, 3), (48, .goto (-42), 3), (51, .aload_n 0, 1), (52, .dup, 1), (53, .getfield 189, 3), (56, .iload 5, 2)]
noncomputable def xi_72_2 : XIs := [(58, .iadd, 1), (59, .putfield 189, 3), (62, .iload 5, 2), (64, .ireturn, 1)]
set_option maxRecDepth 100000 in
theorem xi_w72 : xi_ok cX1_sendAll (xi_72_0 ++ (xi_72_1 ++ (xi_72_2))) = true := dl_all _ _ (by decide +kernel)
theorem xi_ok72_0 : xi_ok cX1_sendAll xi_72_0 = true := (xi_ap xi_w72).1
theorem xi_r72_1 : xi_ok cX1_sendAll (xi_72_1 ++ (xi_72_2)) = true := (xi_ap xi_w72).2
theorem xi_ok72_1 : xi_ok cX1_sendAll xi_72_1 = true := (xi_ap xi_r72_1).1
theorem xi_r72_2 : xi_ok cX1_sendAll (xi_72_2) = true := (xi_ap xi_r72_1).2
theorem xi_ok72_2 : xi_ok cX1_sendAll xi_72_2 = true := xi_r72_2
noncomputable def xi_72 (pc : Nat) : XIs := cond (Nat.blt pc 27) (xi_72_0) (cond (Nat.blt pc 58) (xi_72_1) (xi_72_2))
theorem xi_ok72 (pc : Nat) : xi_ok cX1_sendAll (xi_72 pc) = true := xi_c (xi_ok72_0) (xi_c (xi_ok72_1) (xi_ok72_2))
noncomputable def xi_73_0 : XIs := [(0, .lload_n 0, 1), (1, .lstore_n 2, 1), (2, .lload_n 2, 1), (3, .lload_n 2, 1), (4, .bipush 30, 2), (6, .lushr, 1), (7, .lxor, 1), (8, .ldc2_w 219, 3), (11, .lmul, 1), (12, .lstore_n 2, 1), (13, .lload_n 2, 1), (14, .lload_n 2, 1), (15, .bipush 27, 2), (17, .lushr, 1), (18, .lxor, 1), (19, .ldc2_w 221, 3)]
noncomputable def xi_73_1 : XIs := [(22, .lmul, 1), (23, .lstore_n 2, 1), (24, .lload_n 2, 1), (25, .lload_n 2, 1), (26, .bipush 31, 2), (28, .lushr, 1), (29, .lxor, 1), (30, .lstore_n 2, 1), (31, .lload_n 2, 1), (32, .bipush 33, 2), (34, .lushr, 1), (35, .ldc2_w 223, 3), (38, .lrem, 1), (39, .lreturn, 1)]
set_option maxRecDepth 100000 in
theorem xi_w73 : xi_ok cX1_draw (xi_73_0 ++ (xi_73_1)) = true := dl_all _ _ (by decide +kernel)
theorem xi_ok73_0 : xi_ok cX1_draw xi_73_0 = true := (xi_ap xi_w73).1
theorem xi_r73_1 : xi_ok cX1_draw (xi_73_1) = true := (xi_ap xi_w73).2
theorem xi_ok73_1 : xi_ok cX1_draw xi_73_1 = true := xi_r73_1
noncomputable def xi_73 (pc : Nat) : XIs := cond (Nat.blt pc 22) (xi_73_0) (xi_73_1)
theorem xi_ok73 (pc : Nat) : xi_ok cX1_draw (xi_73 pc) = true := xi_c (xi_ok73_0) (xi_ok73_1)
noncomputable def xi_74_0 : XIs := [(0, .aload_n 0, 1), (1, .invokespecial 3, 3), (4, .aload_n 0, 1), (5, .iconst (-1), 1), (6, .putfield 9, 3), (9, .aload_n 0, 1), (10, .sipush 1024, 3), (13, .newarray .int, 2), (15, .putfield 15, 3), (18, .aload_n 0, 1), (19, .bipush 32, 2), (21, .newarray .int, 2), (23, .putfield 19, 3), (26, .aload_n 0, 1), (27, .bipush 32, 2), (29, .newarray .int, 2)]
noncomputable def xi_74_1 : XIs := [(31, .putfield 22, 3), (34, .aload_n 0, 1), (35, .sipush 160, 3), (38, .newarray .int, 2), (40, .putfield 25, 3), (43, .aload_n 0, 1), (44, .sipush 160, 3), (47, .newarray .int, 2), (49, .putfield 28, 3), (52, .aload_n 0, 1), (53, .sipush 160, 3), (56, .newarray .int, 2), (58, .putfield 31, 3), (61, .aload_n 0, 1), (62, .sipush 160, 3), (65, .newarray .int, 2)]
noncomputable def xi_74_2 : XIs := [(67, .putfield 34, 3), (70, .aload_n 0, 1), (71, .sipush 160, 3), (74, .newarray .int, 2), (76, .putfield 37, 3), (79, .aload_n 0, 1), (80, .bipush 32, 2), (82, .newarray .int, 2), (84, .putfield 40, 3), (87, .aload_n 0, 1), (88, .bipush 32, 2), (90, .newarray .long, 2), (92, .putfield 43, 3), (95, .aload_n 0, 1), (96, .iconst (-1), 1), (97, .putfield 47, 3)]
noncomputable def xi_74_3 : XIs := [(100, .return_, 1)]
set_option maxRecDepth 100000 in
theorem xi_w74 : xi_ok cX2_init (xi_74_0 ++ (xi_74_1 ++ (xi_74_2 ++ (xi_74_3)))) = true := dl_all _ _ (by decide +kernel)
theorem xi_ok74_0 : xi_ok cX2_init xi_74_0 = true := (xi_ap xi_w74).1
theorem xi_r74_1 : xi_ok cX2_init (xi_74_1 ++ (xi_74_2 ++ (xi_74_3))) = true := (xi_ap xi_w74).2
theorem xi_ok74_1 : xi_ok cX2_init xi_74_1 = true := (xi_ap xi_r74_1).1
theorem xi_r74_2 : xi_ok cX2_init (xi_74_2 ++ (xi_74_3)) = true := (xi_ap xi_r74_1).2
theorem xi_ok74_2 : xi_ok cX2_init xi_74_2 = true := (xi_ap xi_r74_2).1
theorem xi_r74_3 : xi_ok cX2_init (xi_74_3) = true := (xi_ap xi_r74_2).2
theorem xi_ok74_3 : xi_ok cX2_init xi_74_3 = true := xi_r74_3
noncomputable def xi_74 (pc : Nat) : XIs := cond (Nat.blt pc 67) (cond (Nat.blt pc 31) (xi_74_0) (xi_74_1)) (cond (Nat.blt pc 100) (xi_74_2) (xi_74_3))
theorem xi_ok74 (pc : Nat) : xi_ok cX2_init (xi_74 pc) = true := xi_c (xi_c (xi_ok74_0) (xi_ok74_1)) (xi_c (xi_ok74_2) (xi_ok74_3))
noncomputable def xi_75_0 : XIs := [(0, .aload_n 0, 1), (1, .getfield 9, 3), (4, .aload_n 1, 1), (5, .getfield 50, 3), (8, .if_icmp .ne 24, 3), (11, .aload_n 0, 1), (12, .getfield 55, 3), (15, .iload_n 2, 1), (16, .if_icmp .ne 16, 3), (19, .aload_n 0, 1), (20, .getfield 58, 3), (23, .iload_n 3, 1), (24, .if_icmp .ne 8, 3), (27, .aload_n 0, 1), (28, .getfield 61, 3), (31, .lreturn, 1)]
noncomputable def xi_75_1 : XIs := [(32, .aload_n 0, 1), (33, .aload_n 1, 1), (34, .getfield 50, 3), (37, .putfield 9, 3), (40, .aload_n 0, 1), (41, .iload_n 2, 1), (42, .putfield 55, 3), (45, .aload_n 0, 1), (46, .iload_n 3, 1), (47, .putfield 58, 3), (50, .aload_n 0, 1), (51, .lconst 0, 1), (52, .putfield 61, 3), (55, .aload_n 0, 1), (56, .aload_n 1, 1), (57, .invokevirtual 65, 3)]
noncomputable def xi_75_2 : XIs := [(60, .iconst 0, 1), (61, .istore 4, 2), (63, .iload 4, 2), (65, .ldc 69, 2), (67, .if_icmp .ge 34, 3), (70, .aload_n 0, 1), (71, .iload_n 2, 1), (72, .iload_n 3, 1), (73, .invokevirtual 70, 3), (76, .ifCond .eq 25, 3), (79, .aload_n 0, 1), (80, .dup, 1), (81, .getfield 61, 3), (84, .aload_n 0, 1), (85, .iload_n 2, 1), (86, .iload_n 3, 1)]
noncomputable def xi_75_3 : XIs := [(87, .invokevirtual 74, 3), (90, .i2l, 1), (91, .ladd, 1), (92, .putfield 61, 3), (95, .iinc 4 1, 3), (98, .goto (-35), 3), (101, .aload_n 0, 1), (102, .getfield 61, 3), (105, .lreturn, 1)]
set_option maxRecDepth 100000 in
theorem xi_w75 : xi_ok cX2_greatest (xi_75_0 ++ (xi_75_1 ++ (xi_75_2 ++ (xi_75_3)))) = true := dl_all _ _ (by decide +kernel)
theorem xi_ok75_0 : xi_ok cX2_greatest xi_75_0 = true := (xi_ap xi_w75).1
theorem xi_r75_1 : xi_ok cX2_greatest (xi_75_1 ++ (xi_75_2 ++ (xi_75_3))) = true := (xi_ap xi_w75).2
theorem xi_ok75_1 : xi_ok cX2_greatest xi_75_1 = true := (xi_ap xi_r75_1).1
theorem xi_r75_2 : xi_ok cX2_greatest (xi_75_2 ++ (xi_75_3)) = true := (xi_ap xi_r75_1).2
theorem xi_ok75_2 : xi_ok cX2_greatest xi_75_2 = true := (xi_ap xi_r75_2).1
theorem xi_r75_3 : xi_ok cX2_greatest (xi_75_3) = true := (xi_ap xi_r75_2).2
theorem xi_ok75_3 : xi_ok cX2_greatest xi_75_3 = true := xi_r75_3
noncomputable def xi_75 (pc : Nat) : XIs := cond (Nat.blt pc 60) (cond (Nat.blt pc 32) (xi_75_0) (xi_75_1)) (cond (Nat.blt pc 87) (xi_75_2) (xi_75_3))
theorem xi_ok75 (pc : Nat) : xi_ok cX2_greatest (xi_75 pc) = true := xi_c (xi_c (xi_ok75_0) (xi_ok75_1)) (xi_c (xi_ok75_2) (xi_ok75_3))
noncomputable def xi_76_0 : XIs := [(0, .aload_n 0, 1), (1, .getfield 15, 3), (4, .iconst 0, 1), (5, .invokestatic 78, 3), (8, .aload_n 0, 1), (9, .getfield 19, 3), (12, .iconst 0, 1), (13, .invokestatic 78, 3), (16, .iconst 0, 1), (17, .istore_n 2, 1), (18, .iload_n 2, 1), (19, .aload_n 1, 1), (20, .getfield 84, 3), (23, .if_icmp .ge 78, 3), (26, .aload_n 1, 1), (27, .iload_n 2, 1)]
noncomputable def xi_76_1 : XIs := [(28, .invokevirtual 87, 3), (31, .ifCond .eq 64, 3), (34, .aload_n 1, 1), (35, .getfield 91, 3), (38, .iload_n 2, 1), (39, .iaload, 1), (40, .ifCond .le 55, 3), (43, .aload_n 0, 1), (44, .getfield 15, 3), (47, .aload_n 1, 1), (48, .getfield 94, 3), (51, .iload_n 2, 1), (52, .iaload, 1), (53, .bipush 32, 2), (55, .imul, 1), (56, .aload_n 1, 1)]
noncomputable def xi_76_2 : XIs := [(57, .getfield 97, 3), (60, .iload_n 2, 1), (61, .iaload, 1), (62, .iadd, 1), (63, .dup2, 1), (64, .iaload, 1), (65, .aload_n 1, 1), (66, .getfield 91, 3), (69, .iload_n 2, 1), (70, .iaload, 1), (71, .iadd, 1), (72, .iastore, 1), (73, .aload_n 0, 1), (74, .getfield 19, 3), (77, .aload_n 1, 1), (78, .getfield 94, 3)]
noncomputable def xi_76_3 : XIs := [(81, .iload_n 2, 1), (82, .iaload, 1), (83, .dup2, 1), (84, .iaload, 1), (85, .iconst 1, 1), (86, .aload_n 1, 1), (87, .getfield 97, 3), (90, .iload_n 2, 1), (91, .iaload, 1), (92, .ishl, 1), (93, .ior, 1), (94, .iastore, 1), (95, .iinc 2 1, 3), (98, .goto (-80), 3), (101, .return_, 1)]
set_option maxRecDepth 100000 in
theorem xi_w76 : xi_ok cX2_openAll (xi_76_0 ++ (xi_76_1 ++ (xi_76_2 ++ (xi_76_3)))) = true := dl_all _ _ (by decide +kernel)
theorem xi_ok76_0 : xi_ok cX2_openAll xi_76_0 = true := (xi_ap xi_w76).1
theorem xi_r76_1 : xi_ok cX2_openAll (xi_76_1 ++ (xi_76_2 ++ (xi_76_3))) = true := (xi_ap xi_w76).2
theorem xi_ok76_1 : xi_ok cX2_openAll xi_76_1 = true := (xi_ap xi_r76_1).1
theorem xi_r76_2 : xi_ok cX2_openAll (xi_76_2 ++ (xi_76_3)) = true := (xi_ap xi_r76_1).2
theorem xi_ok76_2 : xi_ok cX2_openAll xi_76_2 = true := (xi_ap xi_r76_2).1
theorem xi_r76_3 : xi_ok cX2_openAll (xi_76_3) = true := (xi_ap xi_r76_2).2
theorem xi_ok76_3 : xi_ok cX2_openAll xi_76_3 = true := xi_r76_3
noncomputable def xi_76 (pc : Nat) : XIs := cond (Nat.blt pc 57) (cond (Nat.blt pc 28) (xi_76_0) (xi_76_1)) (cond (Nat.blt pc 81) (xi_76_2) (xi_76_3))
theorem xi_ok76 (pc : Nat) : xi_ok cX2_openAll (xi_76 pc) = true := xi_c (xi_c (xi_ok76_0) (xi_ok76_1)) (xi_c (xi_ok76_2) (xi_ok76_3))
noncomputable def xi_77_0 : XIs := [(0, .iconst 1, 1), (1, .iload_n 1, 1), (2, .ishl, 1), (3, .istore_n 3, 1), (4, .iload_n 3, 1), (5, .istore 4, 2), (7, .iconst 0, 1), (8, .istore 5, 2), (10, .iload 5, 2), (12, .bipush 32, 2), (14, .if_icmp .ge 115, 3), (17, .iload 4, 2), (19, .ifCond .eq 110, 3), (22, .iload_n 3, 1), (23, .iload_n 2, 1), (24, .ishr, 1)]
noncomputable def xi_77_1 : XIs := [(25, .iconst 1, 1), (26, .iand, 1), (27, .ifCond .ne 102, 3), (30, .iconst 0, 1), (31, .istore 6, 2), (33, .iload 4, 2), (35, .istore 7, 2), (37, .iload 7, 2), (39, .ifCond .eq 80, 3), (42, .iload 7, 2), (44, .invokestatic 100, 3), (47, .istore 8, 2), (49, .aload_n 0, 1), (50, .getfield 19, 3), (53, .iload 8, 2), (55, .iaload, 1)]
noncomputable def xi_77_2 : XIs := [(56, .iload_n 3, 1), (57, .iconst (-1), 1), (58, .ixor, 1), (59, .iand, 1), (60, .istore 9, 2), (62, .iload 9, 2), (64, .istore 10, 2), (66, .iload 10, 2), (68, .ifCond .eq 27, 3), (71, .aload_n 0, 1), (72, .getfield 22, 3), (75, .iload 10, 2), (77, .invokestatic 100, 3), (80, .iload 8, 2), (82, .iastore, 1), (83, .iload 10, 2)]
noncomputable def xi_77_3 : XIs := [(85, .iload 10, 2), (87, .iconst 1, 1), (88, .isub, 1), (89, .iand, 1), (90, .istore 10, 2), (92, .goto (-26), 3), (95, .iload_n 3, 1), (96, .iload 9, 2), (98, .ior, 1), (99, .istore_n 3, 1), (100, .iload 6, 2), (102, .iload 9, 2), (104, .ior, 1), (105, .istore 6, 2), (107, .iload 7, 2), (109, .iload 7, 2)]
noncomputable def xi_77_4 : XIs := [(111, .iconst 1, 1), (112, .isub, 1), (113, .iand, 1), (114, .istore 7, 2), (116, .goto (-79), 3), (119, .iload 6, 2), (121, .istore 4, 2), (123, .iinc 5 1, 3), (126, .goto (-116), 3), (129, .aload_n 0, 1), (130, .iload_n 3, 1), (131, .putfield 104, 3), (134, .iload_n 3, 1), (135, .iload_n 2, 1), (136, .ishr, 1), (137, .iconst 1, 1)]
noncomputable def xi_77_5 : XIs := [(138, .iand, 1), (139, .ifCond .eq 7, 3), (142, .iconst 1, 1), (143, .goto 4, 3), (146, .iconst 0, 1), (147, .ireturn, 1)]
set_option maxRecDepth 100000 in
theorem xi_w77 : xi_ok cX2_reach (xi_77_0 ++ (xi_77_1 ++ (xi_77_2 ++ (xi_77_3 ++ (xi_77_4 ++ (xi_77_5)))))) = true := dl_all _ _ (by decide +kernel)
theorem xi_ok77_0 : xi_ok cX2_reach xi_77_0 = true := (xi_ap xi_w77).1
theorem xi_r77_1 : xi_ok cX2_reach (xi_77_1 ++ (xi_77_2 ++ (xi_77_3 ++ (xi_77_4 ++ (xi_77_5))))) = true := (xi_ap xi_w77).2
theorem xi_ok77_1 : xi_ok cX2_reach xi_77_1 = true := (xi_ap xi_r77_1).1
theorem xi_r77_2 : xi_ok cX2_reach (xi_77_2 ++ (xi_77_3 ++ (xi_77_4 ++ (xi_77_5)))) = true := (xi_ap xi_r77_1).2
theorem xi_ok77_2 : xi_ok cX2_reach xi_77_2 = true := (xi_ap xi_r77_2).1
theorem xi_r77_3 : xi_ok cX2_reach (xi_77_3 ++ (xi_77_4 ++ (xi_77_5))) = true := (xi_ap xi_r77_2).2
theorem xi_ok77_3 : xi_ok cX2_reach xi_77_3 = true := (xi_ap xi_r77_3).1
theorem xi_r77_4 : xi_ok cX2_reach (xi_77_4 ++ (xi_77_5)) = true := (xi_ap xi_r77_3).2
theorem xi_ok77_4 : xi_ok cX2_reach xi_77_4 = true := (xi_ap xi_r77_4).1
theorem xi_r77_5 : xi_ok cX2_reach (xi_77_5) = true := (xi_ap xi_r77_4).2
theorem xi_ok77_5 : xi_ok cX2_reach xi_77_5 = true := xi_r77_5
noncomputable def xi_77 (pc : Nat) : XIs := cond (Nat.blt pc 85) (cond (Nat.blt pc 25) (xi_77_0) (cond (Nat.blt pc 56) (xi_77_1) (xi_77_2))) (cond (Nat.blt pc 111) (xi_77_3) (cond (Nat.blt pc 138) (xi_77_4) (xi_77_5)))
theorem xi_ok77 (pc : Nat) : xi_ok cX2_reach (xi_77 pc) = true := xi_c (xi_c (xi_ok77_0) (xi_c (xi_ok77_1) (xi_ok77_2))) (xi_c (xi_ok77_3) (xi_c (xi_ok77_4) (xi_ok77_5)))
noncomputable def xi_78_0 : XIs := [(0, .ldc 107, 2), (2, .istore_n 3, 1), (3, .iload_n 2, 1), (4, .istore 4, 2), (6, .iconst 0, 1), (7, .istore 5, 2), (9, .iload 5, 2), (11, .bipush 32, 2), (13, .if_icmp .ge 47, 3), (16, .iload 4, 2), (18, .iload_n 1, 1), (19, .if_icmp .eq 41, 3), (22, .iload_n 3, 1), (23, .aload_n 0, 1), (24, .getfield 15, 3), (27, .aload_n 0, 1)]
noncomputable def xi_78_1 : XIs := [(28, .getfield 22, 3), (31, .iload 4, 2), (33, .iaload, 1), (34, .bipush 32, 2), (36, .imul, 1), (37, .iload 4, 2), (39, .iadd, 1), (40, .iaload, 1), (41, .invokestatic 108, 3), (44, .istore_n 3, 1), (45, .aload_n 0, 1), (46, .getfield 22, 3), (49, .iload 4, 2), (51, .iaload, 1), (52, .istore 4, 2), (54, .iinc 5 1, 3)]
noncomputable def xi_78_2 : XIs := [(57, .goto (-48), 3), (60, .iload_n 2, 1), (61, .istore 4, 2), (63, .iconst 0, 1), (64, .istore 5, 2), (66, .iload 5, 2), (68, .bipush 32, 2), (70, .if_icmp .ge 108, 3), (73, .iload 4, 2), (75, .iload_n 1, 1), (76, .if_icmp .eq 102, 3), (79, .aload_n 0, 1), (80, .getfield 22, 3), (83, .iload 4, 2), (85, .iaload, 1), (86, .istore 6, 2)]
noncomputable def xi_78_3 : XIs := [(88, .aload_n 0, 1), (89, .getfield 15, 3), (92, .iload 6, 2), (94, .bipush 32, 2), (96, .imul, 1), (97, .iload 4, 2), (99, .iadd, 1), (100, .dup2, 1), (101, .iaload, 1), (102, .iload_n 3, 1), (103, .isub, 1), (104, .iastore, 1), (105, .aload_n 0, 1), (106, .getfield 15, 3), (109, .iload 6, 2), (111, .bipush 32, 2)]
noncomputable def xi_78_4 : XIs := [(113, .imul, 1), (114, .iload 4, 2), (116, .iadd, 1), (117, .iaload, 1), (118, .ifCond .ne 19, 3), (121, .aload_n 0, 1), (122, .getfield 19, 3), (125, .iload 6, 2), (127, .dup2, 1), (128, .iaload, 1), (129, .iconst 1, 1), (130, .iload 4, 2), (132, .ishl, 1), (133, .iconst (-1), 1), (134, .ixor, 1), (135, .iand, 1)]
noncomputable def xi_78_5 : XIs := [(136, .iastore, 1), (137, .aload_n 0, 1), (138, .getfield 15, 3), (141, .iload 4, 2), (143, .bipush 32, 2), (145, .imul, 1), (146, .iload 6, 2), (148, .iadd, 1), (149, .dup2, 1), (150, .iaload, 1), (151, .iload_n 3, 1), (152, .iadd, 1), (153, .iastore, 1), (154, .aload_n 0, 1), (155, .getfield 19, 3), (158, .iload 4, 2)]
noncomputable def xi_78_6 : XIs := [(160, .dup2, 1), (161, .iaload, 1), (162, .iconst 1, 1), (163, .iload 6, 2), (165, .ishl, 1), (166, .ior, 1), (167, .iastore, 1), (168, .iload 6, 2), (170, .istore 4, 2), (172, .iinc 5 1, 3), (175, .goto (-109), 3), (178, .iload_n 3, 1), (179, .ireturn, 1)]
set_option maxRecDepth 100000 in
theorem xi_w78 : xi_ok cX2_push (xi_78_0 ++ (xi_78_1 ++ (xi_78_2 ++ (xi_78_3 ++ (xi_78_4 ++ (xi_78_5 ++ (xi_78_6))))))) = true := dl_all _ _ (by decide +kernel)
theorem xi_ok78_0 : xi_ok cX2_push xi_78_0 = true := (xi_ap xi_w78).1
theorem xi_r78_1 : xi_ok cX2_push (xi_78_1 ++ (xi_78_2 ++ (xi_78_3 ++ (xi_78_4 ++ (xi_78_5 ++ (xi_78_6)))))) = true := (xi_ap xi_w78).2
theorem xi_ok78_1 : xi_ok cX2_push xi_78_1 = true := (xi_ap xi_r78_1).1
theorem xi_r78_2 : xi_ok cX2_push (xi_78_2 ++ (xi_78_3 ++ (xi_78_4 ++ (xi_78_5 ++ (xi_78_6))))) = true := (xi_ap xi_r78_1).2
theorem xi_ok78_2 : xi_ok cX2_push xi_78_2 = true := (xi_ap xi_r78_2).1
theorem xi_r78_3 : xi_ok cX2_push (xi_78_3 ++ (xi_78_4 ++ (xi_78_5 ++ (xi_78_6)))) = true := (xi_ap xi_r78_2).2
theorem xi_ok78_3 : xi_ok cX2_push xi_78_3 = true := (xi_ap xi_r78_3).1
theorem xi_r78_4 : xi_ok cX2_push (xi_78_4 ++ (xi_78_5 ++ (xi_78_6))) = true := (xi_ap xi_r78_3).2
theorem xi_ok78_4 : xi_ok cX2_push xi_78_4 = true := (xi_ap xi_r78_4).1
theorem xi_r78_5 : xi_ok cX2_push (xi_78_5 ++ (xi_78_6)) = true := (xi_ap xi_r78_4).2
theorem xi_ok78_5 : xi_ok cX2_push xi_78_5 = true := (xi_ap xi_r78_5).1
theorem xi_r78_6 : xi_ok cX2_push (xi_78_6) = true := (xi_ap xi_r78_5).2
theorem xi_ok78_6 : xi_ok cX2_push xi_78_6 = true := xi_r78_6
noncomputable def xi_78 (pc : Nat) : XIs := cond (Nat.blt pc 88) (cond (Nat.blt pc 28) (xi_78_0) (cond (Nat.blt pc 57) (xi_78_1) (xi_78_2))) (cond (Nat.blt pc 136) (cond (Nat.blt pc 113) (xi_78_3) (xi_78_4)) (cond (Nat.blt pc 160) (xi_78_5) (xi_78_6)))
theorem xi_ok78 (pc : Nat) : xi_ok cX2_push (xi_78 pc) = true := xi_c (xi_c (xi_ok78_0) (xi_c (xi_ok78_1) (xi_ok78_2))) (xi_c (xi_c (xi_ok78_3) (xi_ok78_4)) (xi_c (xi_ok78_5) (xi_ok78_6)))
noncomputable def xi_79_0 : XIs := [(0, .iload 4, 2), (2, .i2l, 1), (3, .aload_n 0, 1), (4, .aload_n 1, 1), (5, .iload_n 2, 1), (6, .iload_n 3, 1), (7, .invokevirtual 113, 3), (10, .lcmp, 1), (11, .ifCond .le 7, 3), (14, .ldc2_w 117, 3), (17, .lreturn, 1), (18, .aload_n 0, 1), (19, .aload_n 1, 1), (20, .invokevirtual 119, 3), (23, .lstore 5, 2), (25, .aload_n 0, 1)]
noncomputable def xi_79_1 : XIs := [(26, .getfield 40, 3), (29, .iload_n 2, 1), (30, .iload 4, 2), (32, .iastore, 1), (33, .aload_n 0, 1), (34, .getfield 40, 3), (37, .iload_n 3, 1), (38, .iload 4, 2), (40, .ineg, 1), (41, .iastore, 1), (42, .ldc 123, 2), (44, .istore 7, 2), (46, .ldc 124, 2), (48, .istore 8, 2), (50, .iload 8, 2), (52, .ifCond .le 39, 3)]
noncomputable def xi_79_2 : XIs := [(55, .aload_n 0, 1), (56, .aload_n 1, 1), (57, .getfield 125, 3), (60, .iload 7, 2), (62, .iload 8, 2), (64, .invokevirtual 128, 3), (67, .aload_n 0, 1), (68, .aload_n 1, 1), (69, .getfield 125, 3), (72, .iload 8, 2), (74, .invokevirtual 132, 3), (77, .iload 8, 2), (79, .istore 7, 2), (81, .iload 8, 2), (83, .bipush 16, 2), (85, .idiv, 1)]
noncomputable def xi_79_3 : XIs := [(86, .istore 8, 2), (88, .goto (-38), 3), (91, .iconst 0, 1), (92, .istore 8, 2), (94, .iload 8, 2), (96, .aload_n 0, 1), (97, .getfield 136, 3), (100, .if_icmp .ge 31, 3), (103, .lload 5, 2), (105, .aload_n 0, 1), (106, .getfield 31, 3), (109, .iload 8, 2), (111, .iaload, 1), (112, .i2l, 1), (113, .aload_n 0, 1), (114, .getfield 37, 3)]
noncomputable def xi_79_4 : XIs := [(117, .iload 8, 2), (119, .iaload, 1), (120, .i2l, 1), (121, .lmul, 1), (122, .ladd, 1), (123, .lstore 5, 2), (125, .iinc 8 1, 3), (128, .goto (-34), 3), (131, .lload 5, 2), (133, .lreturn, 1)]
set_option maxRecDepth 100000 in
theorem xi_w79 : xi_ok cX2_cheapest (xi_79_0 ++ (xi_79_1 ++ (xi_79_2 ++ (xi_79_3 ++ (xi_79_4))))) = true := dl_all _ _ (by decide +kernel)
theorem xi_ok79_0 : xi_ok cX2_cheapest xi_79_0 = true := (xi_ap xi_w79).1
theorem xi_r79_1 : xi_ok cX2_cheapest (xi_79_1 ++ (xi_79_2 ++ (xi_79_3 ++ (xi_79_4)))) = true := (xi_ap xi_w79).2
theorem xi_ok79_1 : xi_ok cX2_cheapest xi_79_1 = true := (xi_ap xi_r79_1).1
theorem xi_r79_2 : xi_ok cX2_cheapest (xi_79_2 ++ (xi_79_3 ++ (xi_79_4))) = true := (xi_ap xi_r79_1).2
theorem xi_ok79_2 : xi_ok cX2_cheapest xi_79_2 = true := (xi_ap xi_r79_2).1
theorem xi_r79_3 : xi_ok cX2_cheapest (xi_79_3 ++ (xi_79_4)) = true := (xi_ap xi_r79_2).2
theorem xi_ok79_3 : xi_ok cX2_cheapest xi_79_3 = true := (xi_ap xi_r79_3).1
theorem xi_r79_4 : xi_ok cX2_cheapest (xi_79_4) = true := (xi_ap xi_r79_3).2
theorem xi_ok79_4 : xi_ok cX2_cheapest xi_79_4 = true := xi_r79_4
noncomputable def xi_79 (pc : Nat) : XIs := cond (Nat.blt pc 55) (cond (Nat.blt pc 26) (xi_79_0) (xi_79_1)) (cond (Nat.blt pc 86) (xi_79_2) (cond (Nat.blt pc 117) (xi_79_3) (xi_79_4)))
theorem xi_ok79 (pc : Nat) : xi_ok cX2_cheapest (xi_79 pc) = true := xi_c (xi_c (xi_ok79_0) (xi_ok79_1)) (xi_c (xi_ok79_2) (xi_c (xi_ok79_3) (xi_ok79_4)))
noncomputable def xi_80_0 : XIs := [(0, .aload_n 0, 1), (1, .getfield 40, 3), (4, .iconst 0, 1), (5, .invokestatic 78, 3), (8, .aload_n 0, 1), (9, .iconst 0, 1), (10, .putfield 136, 3), (13, .lconst 0, 1), (14, .lstore_n 2, 1), (15, .iconst 0, 1), (16, .istore 4, 2), (18, .iload 4, 2), (20, .aload_n 1, 1), (21, .getfield 84, 3), (24, .if_icmp .ge 94, 3), (27, .aload_n 1, 1)]
noncomputable def xi_80_1 : XIs := [(28, .iload 4, 2), (30, .invokevirtual 87, 3), (33, .ifCond .eq 38, 3), (36, .aload_n 0, 1), (37, .aload_n 1, 1), (38, .getfield 94, 3), (41, .iload 4, 2), (43, .iaload, 1), (44, .aload_n 1, 1), (45, .getfield 97, 3), (48, .iload 4, 2), (50, .iaload, 1), (51, .aload_n 1, 1), (52, .getfield 139, 3), (55, .iload 4, 2), (57, .iaload, 1)]
noncomputable def xi_80_2 : XIs := [(58, .aload_n 1, 1), (59, .getfield 91, 3), (62, .iload 4, 2), (64, .iaload, 1), (65, .invokevirtual 142, 3), (68, .goto 44, 3), (71, .aload_n 1, 1), (72, .getfield 94, 3), (75, .iload 4, 2), (77, .iaload, 1), (78, .iconst (-1), 1), (79, .if_icmp .eq 33, 3), (82, .aload_n 1, 1), (83, .getfield 139, 3), (86, .iload 4, 2), (88, .iaload, 1)]
noncomputable def xi_80_3 : XIs := [(89, .ifCond .ge 23, 3), (92, .lload_n 2, 1), (93, .aload_n 1, 1), (94, .getfield 139, 3), (97, .iload 4, 2), (99, .iaload, 1), (100, .i2l, 1), (101, .aload_n 1, 1), (102, .getfield 91, 3), (105, .iload 4, 2), (107, .iaload, 1), (108, .i2l, 1), (109, .lmul, 1), (110, .ladd, 1), (111, .lstore_n 2, 1), (112, .iinc 4 1, 3)]
noncomputable def xi_80_4 : XIs := [(115, .goto (-97), 3), (118, .lload_n 2, 1), (119, .lreturn, 1)]
set_option maxRecDepth 100000 in
theorem xi_w80 : xi_ok cX2_layArcs (xi_80_0 ++ (xi_80_1 ++ (xi_80_2 ++ (xi_80_3 ++ (xi_80_4))))) = true := dl_all _ _ (by decide +kernel)
theorem xi_ok80_0 : xi_ok cX2_layArcs xi_80_0 = true := (xi_ap xi_w80).1
theorem xi_r80_1 : xi_ok cX2_layArcs (xi_80_1 ++ (xi_80_2 ++ (xi_80_3 ++ (xi_80_4)))) = true := (xi_ap xi_w80).2
theorem xi_ok80_1 : xi_ok cX2_layArcs xi_80_1 = true := (xi_ap xi_r80_1).1
theorem xi_r80_2 : xi_ok cX2_layArcs (xi_80_2 ++ (xi_80_3 ++ (xi_80_4))) = true := (xi_ap xi_r80_1).2
theorem xi_ok80_2 : xi_ok cX2_layArcs xi_80_2 = true := (xi_ap xi_r80_2).1
theorem xi_r80_3 : xi_ok cX2_layArcs (xi_80_3 ++ (xi_80_4)) = true := (xi_ap xi_r80_2).2
theorem xi_ok80_3 : xi_ok cX2_layArcs xi_80_3 = true := (xi_ap xi_r80_3).1
theorem xi_r80_4 : xi_ok cX2_layArcs (xi_80_4) = true := (xi_ap xi_r80_3).2
theorem xi_ok80_4 : xi_ok cX2_layArcs xi_80_4 = true := xi_r80_4
noncomputable def xi_80 (pc : Nat) : XIs := cond (Nat.blt pc 58) (cond (Nat.blt pc 28) (xi_80_0) (xi_80_1)) (cond (Nat.blt pc 89) (xi_80_2) (cond (Nat.blt pc 115) (xi_80_3) (xi_80_4)))
theorem xi_ok80 (pc : Nat) : xi_ok cX2_layArcs (xi_80 pc) = true := xi_c (xi_c (xi_ok80_0) (xi_ok80_1)) (xi_c (xi_ok80_2) (xi_c (xi_ok80_3) (xi_ok80_4)))
noncomputable def xi_81_0 : XIs := [(0, .aload_n 0, 1), (1, .getfield 43, 3), (4, .lconst 0, 1), (5, .invokestatic 146, 3), (8, .aload_n 0, 1), (9, .iload_n 1, 1), (10, .iload_n 2, 1), (11, .invokevirtual 149, 3), (14, .iconst 0, 1), (15, .istore 4, 2), (17, .iload 4, 2), (19, .aload_n 0, 1), (20, .getfield 136, 3), (23, .if_icmp .ge 118, 3), (26, .aload_n 0, 1), (27, .getfield 43, 3)]
noncomputable def xi_81_1 : XIs := [(30, .aload_n 0, 1), (31, .getfield 25, 3), (34, .iload 4, 2), (36, .iaload, 1), (37, .laload, 1), (38, .aload_n 0, 1), (39, .getfield 31, 3), (42, .iload 4, 2), (44, .iaload, 1), (45, .i2l, 1), (46, .ladd, 1), (47, .aload_n 0, 1), (48, .getfield 43, 3), (51, .aload_n 0, 1), (52, .getfield 28, 3), (55, .iload 4, 2)]
noncomputable def xi_81_2 : XIs := [(57, .iaload, 1), (58, .laload, 1), (59, .lsub, 1), (60, .lstore 5, 2), (62, .aload_n 0, 1), (63, .getfield 34, 3), (66, .iload 4, 2), (68, .iaload, 1), (69, .aload_n 0, 1), (70, .getfield 37, 3), (73, .iload 4, 2), (75, .iaload, 1), (76, .isub, 1), (77, .istore 7, 2), (79, .lload 5, 2), (81, .lconst 0, 1)]
noncomputable def xi_81_3 : XIs := [(82, .lcmp, 1), (83, .ifCond .ge 20, 3), (86, .iload 7, 2), (88, .iload_n 3, 1), (89, .if_icmp .lt 14, 3), (92, .aload_n 0, 1), (93, .iload 4, 2), (95, .iload 7, 2), (97, .invokevirtual 152, 3), (100, .goto 35, 3), (103, .lload 5, 2), (105, .lconst 0, 1), (106, .lcmp, 1), (107, .ifCond .le 28, 3), (110, .aload_n 0, 1), (111, .getfield 37, 3)]
noncomputable def xi_81_4 : XIs := [(114, .iload 4, 2), (116, .iaload, 1), (117, .iload_n 3, 1), (118, .if_icmp .lt 17, 3), (121, .aload_n 0, 1), (122, .iload 4, 2), (124, .aload_n 0, 1), (125, .getfield 37, 3), (128, .iload 4, 2), (130, .iaload, 1), (131, .ineg, 1), (132, .invokevirtual 152, 3), (135, .iinc 4 1, 3), (138, .goto (-121), 3), (141, .return_, 1)]
set_option maxRecDepth 100000 in
theorem xi_w81 : xi_ok cX2_turnEarners (xi_81_0 ++ (xi_81_1 ++ (xi_81_2 ++ (xi_81_3 ++ (xi_81_4))))) = true := dl_all _ _ (by decide +kernel)
theorem xi_ok81_0 : xi_ok cX2_turnEarners xi_81_0 = true := (xi_ap xi_w81).1
theorem xi_r81_1 : xi_ok cX2_turnEarners (xi_81_1 ++ (xi_81_2 ++ (xi_81_3 ++ (xi_81_4)))) = true := (xi_ap xi_w81).2
theorem xi_ok81_1 : xi_ok cX2_turnEarners xi_81_1 = true := (xi_ap xi_r81_1).1
theorem xi_r81_2 : xi_ok cX2_turnEarners (xi_81_2 ++ (xi_81_3 ++ (xi_81_4))) = true := (xi_ap xi_r81_1).2
theorem xi_ok81_2 : xi_ok cX2_turnEarners xi_81_2 = true := (xi_ap xi_r81_2).1
theorem xi_r81_3 : xi_ok cX2_turnEarners (xi_81_3 ++ (xi_81_4)) = true := (xi_ap xi_r81_2).2
theorem xi_ok81_3 : xi_ok cX2_turnEarners xi_81_3 = true := (xi_ap xi_r81_3).1
theorem xi_r81_4 : xi_ok cX2_turnEarners (xi_81_4) = true := (xi_ap xi_r81_3).2
theorem xi_ok81_4 : xi_ok cX2_turnEarners xi_81_4 = true := xi_r81_4
noncomputable def xi_81 (pc : Nat) : XIs := cond (Nat.blt pc 57) (cond (Nat.blt pc 30) (xi_81_0) (xi_81_1)) (cond (Nat.blt pc 82) (xi_81_2) (cond (Nat.blt pc 114) (xi_81_3) (xi_81_4)))
theorem xi_ok81 (pc : Nat) : xi_ok cX2_turnEarners (xi_81 pc) = true := xi_c (xi_c (xi_ok81_0) (xi_ok81_1)) (xi_c (xi_ok81_2) (xi_c (xi_ok81_3) (xi_ok81_4)))
noncomputable def xi_82_0 : XIs := [(0, .aload_n 0, 1), (1, .getfield 37, 3), (4, .iload_n 1, 1), (5, .dup2, 1), (6, .iaload, 1), (7, .iload_n 2, 1), (8, .iadd, 1), (9, .iastore, 1), (10, .aload_n 0, 1), (11, .getfield 40, 3), (14, .aload_n 0, 1), (15, .getfield 28, 3), (18, .iload_n 1, 1), (19, .iaload, 1), (20, .dup2, 1), (21, .iaload, 1)]
noncomputable def xi_82_1 : XIs := [(22, .iload_n 2, 1), (23, .iadd, 1), (24, .iastore, 1), (25, .aload_n 0, 1), (26, .getfield 40, 3), (29, .aload_n 0, 1), (30, .getfield 25, 3), (33, .iload_n 1, 1), (34, .iaload, 1), (35, .dup2, 1), (36, .iaload, 1), (37, .iload_n 2, 1), (38, .isub, 1), (39, .iastore, 1), (40, .return_, 1)]
set_option maxRecDepth 100000 in
theorem xi_w82 : xi_ok cX2_turn (xi_82_0 ++ (xi_82_1)) = true := dl_all _ _ (by decide +kernel)
theorem xi_ok82_0 : xi_ok cX2_turn xi_82_0 = true := (xi_ap xi_w82).1
theorem xi_r82_1 : xi_ok cX2_turn (xi_82_1) = true := (xi_ap xi_w82).2
theorem xi_ok82_1 : xi_ok cX2_turn xi_82_1 = true := xi_r82_1
noncomputable def xi_82 (pc : Nat) : XIs := cond (Nat.blt pc 22) (xi_82_0) (xi_82_1)
theorem xi_ok82 (pc : Nat) : xi_ok cX2_turn (xi_82 pc) = true := xi_c (xi_ok82_0) (xi_ok82_1)
noncomputable def xi_83_0 : XIs := [(0, .iconst 0, 1), (1, .istore_n 3, 1), (2, .iload_n 3, 1), (3, .ldc 69, 2), (5, .if_icmp .ge 31, 3), (8, .aload_n 0, 1), (9, .iload_n 1, 1), (10, .iload_n 2, 1), (11, .invokevirtual 155, 3), (14, .istore 4, 2), (16, .iload 4, 2), (18, .iconst (-1), 1), (19, .if_icmp .ne 4, 3), (22, .return_, 1), (23, .aload_n 0, 1), (24, .iload 4, 2)]
noncomputable def xi_83_1 : XIs := [(26, .invokevirtual 158, 3), (29, .pop2, 1), (30, .iinc 3 1, 3), (33, .goto (-31), 3), (36, .return_, 1)]
set_option maxRecDepth 100000 in
theorem xi_w83 : xi_ok cX2_carryAll (xi_83_0 ++ (xi_83_1)) = true := dl_all _ _ (by decide +kernel)
theorem xi_ok83_0 : xi_ok cX2_carryAll xi_83_0 = true := (xi_ap xi_w83).1
theorem xi_r83_1 : xi_ok cX2_carryAll (xi_83_1) = true := (xi_ap xi_w83).2
theorem xi_ok83_1 : xi_ok cX2_carryAll xi_83_1 = true := xi_r83_1
noncomputable def xi_83 (pc : Nat) : XIs := cond (Nat.blt pc 26) (xi_83_0) (xi_83_1)
theorem xi_ok83 (pc : Nat) : xi_ok cX2_carryAll (xi_83 pc) = true := xi_c (xi_ok83_0) (xi_ok83_1)
noncomputable def xi_84_0 : XIs := [(0, .aload_n 0, 1), (1, .getfield 136, 3), (4, .sipush 160, 3), (7, .if_icmp .ge 64, 3), (10, .aload_n 0, 1), (11, .getfield 25, 3), (14, .aload_n 0, 1), (15, .getfield 136, 3), (18, .iload_n 1, 1), (19, .iastore, 1), (20, .aload_n 0, 1), (21, .getfield 28, 3), (24, .aload_n 0, 1), (25, .getfield 136, 3), (28, .iload_n 2, 1), (29, .iastore, 1)]
noncomputable def xi_84_1 : XIs := [(30, .aload_n 0, 1), (31, .getfield 31, 3), (34, .aload_n 0, 1), (35, .getfield 136, 3), (38, .iload_n 3, 1), (39, .iastore, 1), (40, .aload_n 0, 1), (41, .getfield 34, 3), (44, .aload_n 0, 1), (45, .getfield 136, 3), (48, .iload 4, 2), (50, .iastore, 1), (51, .aload_n 0, 1), (52, .getfield 37, 3), (55, .aload_n 0, 1), (56, .getfield 136, 3)]
noncomputable def xi_84_2 : XIs := [(59, .iconst 0, 1), (60, .iastore, 1), (61, .aload_n 0, 1), (62, .dup, 1), (63, .getfield 136, 3), (66, .iconst 1, 1), (67, .iadd, 1), (68, .putfield 136, 3), (71, .return_, 1)]
set_option maxRecDepth 100000 in
theorem xi_w84 : xi_ok cX2_lay (xi_84_0 ++ (xi_84_1 ++ (xi_84_2))) = true := dl_all _ _ (by decide +kernel)
theorem xi_ok84_0 : xi_ok cX2_lay xi_84_0 = true := (xi_ap xi_w84).1
theorem xi_r84_1 : xi_ok cX2_lay (xi_84_1 ++ (xi_84_2)) = true := (xi_ap xi_w84).2
theorem xi_ok84_1 : xi_ok cX2_lay xi_84_1 = true := (xi_ap xi_r84_1).1
theorem xi_r84_2 : xi_ok cX2_lay (xi_84_2) = true := (xi_ap xi_r84_1).2
theorem xi_ok84_2 : xi_ok cX2_lay xi_84_2 = true := xi_r84_2
noncomputable def xi_84 (pc : Nat) : XIs := cond (Nat.blt pc 30) (xi_84_0) (cond (Nat.blt pc 59) (xi_84_1) (xi_84_2))
theorem xi_ok84 (pc : Nat) : xi_ok cX2_lay (xi_84 pc) = true := xi_c (xi_ok84_0) (xi_c (xi_ok84_1) (xi_ok84_2))
noncomputable def xi_85_0 : XIs := [(0, .iconst 0, 1), (1, .istore_n 3, 1), (2, .iload_n 3, 1), (3, .iload_n 1, 1), (4, .if_icmp .ge 39, 3), (7, .aload_n 0, 1), (8, .getfield 43, 3), (11, .iload_n 3, 1), (12, .aload_n 0, 1), (13, .getfield 40, 3), (16, .iload_n 3, 1), (17, .iaload, 1), (18, .iload_n 2, 1), (19, .if_icmp .lt 7, 3), (22, .lconst 0, 1), (23, .goto 6, 3)]
noncomputable def xi_85_1 : XIs := [(26, .ldc2_w 162, 3), (29, .lastore, 1), (30, .aload_n 0, 1), (31, .getfield 22, 3), (34, .iload_n 3, 1), (35, .iconst (-1), 1), (36, .iastore, 1), (37, .iinc 3 1, 3), (40, .goto (-38), 3), (43, .aload_n 0, 1), (44, .iload_n 1, 1), (45, .iload_n 2, 1), (46, .invokevirtual 149, 3), (49, .iconst (-1), 1), (50, .istore_n 3, 1), (51, .iconst 0, 1)]
noncomputable def xi_85_2 : XIs := [(52, .istore 4, 2), (54, .iload 4, 2), (56, .iload_n 1, 1), (57, .if_icmp .ge 60, 3), (60, .aload_n 0, 1), (61, .getfield 40, 3), (64, .iload 4, 2), (66, .iaload, 1), (67, .iload_n 2, 1), (68, .ineg, 1), (69, .if_icmp .gt 42, 3), (72, .aload_n 0, 1), (73, .getfield 43, 3), (76, .iload 4, 2), (78, .laload, 1), (79, .ldc2_w 162, 3)]
noncomputable def xi_85_3 : XIs := [(82, .lcmp, 1), (83, .ifCond .eq 28, 3), (86, .iload_n 3, 1), (87, .iconst (-1), 1), (88, .if_icmp .eq 20, 3), (91, .aload_n 0, 1), (92, .getfield 43, 3), (95, .iload 4, 2), (97, .laload, 1), (98, .aload_n 0, 1), (99, .getfield 43, 3), (102, .iload_n 3, 1), (103, .laload, 1), (104, .lcmp, 1), (105, .ifCond .ge 6, 3), (108, .iload 4, 2)]
noncomputable def xi_85_4 : XIs := [(110, .istore_n 3, 1), (111, .iinc 4 1, 3), (114, .goto (-60), 3), (117, .iload_n 3, 1), (118, .ireturn, 1)]
set_option maxRecDepth 100000 in
theorem xi_w85 : xi_ok cX2_nearestLack (xi_85_0 ++ (xi_85_1 ++ (xi_85_2 ++ (xi_85_3 ++ (xi_85_4))))) = true := dl_all _ _ (by decide +kernel)
theorem xi_ok85_0 : xi_ok cX2_nearestLack xi_85_0 = true := (xi_ap xi_w85).1
theorem xi_r85_1 : xi_ok cX2_nearestLack (xi_85_1 ++ (xi_85_2 ++ (xi_85_3 ++ (xi_85_4)))) = true := (xi_ap xi_w85).2
theorem xi_ok85_1 : xi_ok cX2_nearestLack xi_85_1 = true := (xi_ap xi_r85_1).1
theorem xi_r85_2 : xi_ok cX2_nearestLack (xi_85_2 ++ (xi_85_3 ++ (xi_85_4))) = true := (xi_ap xi_r85_1).2
theorem xi_ok85_2 : xi_ok cX2_nearestLack xi_85_2 = true := (xi_ap xi_r85_2).1
theorem xi_r85_3 : xi_ok cX2_nearestLack (xi_85_3 ++ (xi_85_4)) = true := (xi_ap xi_r85_2).2
theorem xi_ok85_3 : xi_ok cX2_nearestLack xi_85_3 = true := (xi_ap xi_r85_3).1
theorem xi_r85_4 : xi_ok cX2_nearestLack (xi_85_4) = true := (xi_ap xi_r85_3).2
theorem xi_ok85_4 : xi_ok cX2_nearestLack xi_85_4 = true := xi_r85_4
noncomputable def xi_85 (pc : Nat) : XIs := cond (Nat.blt pc 52) (cond (Nat.blt pc 26) (xi_85_0) (xi_85_1)) (cond (Nat.blt pc 82) (xi_85_2) (cond (Nat.blt pc 110) (xi_85_3) (xi_85_4)))
theorem xi_ok85 (pc : Nat) : xi_ok cX2_nearestLack (xi_85 pc) = true := xi_c (xi_c (xi_ok85_0) (xi_ok85_1)) (xi_c (xi_ok85_2) (xi_c (xi_ok85_3) (xi_ok85_4)))
noncomputable def xi_86_0 : XIs := [(0, .iconst 1, 1), (1, .istore_n 3, 1), (2, .iconst 0, 1), (3, .istore 4, 2), (5, .iload 4, 2), (7, .iload_n 1, 1), (8, .if_icmp .gt 43, 3), (11, .iload_n 3, 1), (12, .ifCond .eq 39, 3), (15, .iconst 0, 1), (16, .istore_n 3, 1), (17, .iconst 0, 1), (18, .istore 5, 2), (20, .iload 5, 2), (22, .aload_n 0, 1), (23, .getfield 136, 3)]
noncomputable def xi_86_1 : XIs := [(26, .if_icmp .ge 19, 3), (29, .iload_n 3, 1), (30, .aload_n 0, 1), (31, .iload 5, 2), (33, .iload_n 2, 1), (34, .invokevirtual 164, 3), (37, .ior, 1), (38, .istore_n 3, 1), (39, .iinc 5 1, 3), (42, .goto (-22), 3), (45, .iinc 4 1, 3), (48, .goto (-43), 3), (51, .return_, 1)]
set_option maxRecDepth 100000 in
theorem xi_w86 : xi_ok cX2_relaxAll (xi_86_0 ++ (xi_86_1)) = true := dl_all _ _ (by decide +kernel)
theorem xi_ok86_0 : xi_ok cX2_relaxAll xi_86_0 = true := (xi_ap xi_w86).1
theorem xi_r86_1 : xi_ok cX2_relaxAll (xi_86_1) = true := (xi_ap xi_w86).2
theorem xi_ok86_1 : xi_ok cX2_relaxAll xi_86_1 = true := xi_r86_1
noncomputable def xi_86 (pc : Nat) : XIs := cond (Nat.blt pc 26) (xi_86_0) (xi_86_1)
theorem xi_ok86 (pc : Nat) : xi_ok cX2_relaxAll (xi_86 pc) = true := xi_c (xi_ok86_0) (xi_ok86_1)
noncomputable def xi_87_0 : XIs := [(0, .aload_n 0, 1), (1, .getfield 25, 3), (4, .iload_n 1, 1), (5, .iaload, 1), (6, .istore_n 3, 1), (7, .aload_n 0, 1), (8, .getfield 28, 3), (11, .iload_n 1, 1), (12, .iaload, 1), (13, .istore 4, 2), (15, .aload_n 0, 1), (16, .getfield 34, 3), (19, .iload_n 1, 1), (20, .iaload, 1), (21, .aload_n 0, 1), (22, .getfield 37, 3)]
noncomputable def xi_87_1 : XIs := [(25, .iload_n 1, 1), (26, .iaload, 1), (27, .isub, 1), (28, .iload_n 2, 1), (29, .if_icmp .lt 74, 3), (32, .aload_n 0, 1), (33, .getfield 43, 3), (36, .iload_n 3, 1), (37, .laload, 1), (38, .ldc2_w 162, 3), (41, .lcmp, 1), (42, .ifCond .eq 61, 3), (45, .aload_n 0, 1), (46, .getfield 43, 3), (49, .iload_n 3, 1), (50, .laload, 1)]
noncomputable def xi_87_2 : XIs := [(51, .aload_n 0, 1), (52, .getfield 31, 3), (55, .iload_n 1, 1), (56, .iaload, 1), (57, .i2l, 1), (58, .ladd, 1), (59, .aload_n 0, 1), (60, .getfield 43, 3), (63, .iload 4, 2), (65, .laload, 1), (66, .lcmp, 1), (67, .ifCond .ge 36, 3), (70, .aload_n 0, 1), (71, .getfield 43, 3), (74, .iload 4, 2), (76, .aload_n 0, 1)]
noncomputable def xi_87_3 : XIs := [(77, .getfield 43, 3), (80, .iload_n 3, 1), (81, .laload, 1), (82, .aload_n 0, 1), (83, .getfield 31, 3), (86, .iload_n 1, 1), (87, .iaload, 1), (88, .i2l, 1), (89, .ladd, 1), (90, .lastore, 1), (91, .aload_n 0, 1), (92, .getfield 22, 3), (95, .iload 4, 2), (97, .iconst 2, 1), (98, .iload_n 1, 1), (99, .imul, 1)]
noncomputable def xi_87_4 : XIs := [(100, .iastore, 1), (101, .iconst 1, 1), (102, .ireturn, 1), (103, .aload_n 0, 1), (104, .getfield 37, 3), (107, .iload_n 1, 1), (108, .iaload, 1), (109, .iload_n 2, 1), (110, .if_icmp .lt 76, 3), (113, .aload_n 0, 1), (114, .getfield 43, 3), (117, .iload 4, 2), (119, .laload, 1), (120, .ldc2_w 162, 3), (123, .lcmp, 1), (124, .ifCond .eq 62, 3)]
noncomputable def xi_87_5 : XIs := [(127, .aload_n 0, 1), (128, .getfield 43, 3), (131, .iload 4, 2), (133, .laload, 1), (134, .aload_n 0, 1), (135, .getfield 31, 3), (138, .iload_n 1, 1), (139, .iaload, 1), (140, .i2l, 1), (141, .lsub, 1), (142, .aload_n 0, 1), (143, .getfield 43, 3), (146, .iload_n 3, 1), (147, .laload, 1), (148, .lcmp, 1), (149, .ifCond .ge 37, 3)]
noncomputable def xi_87_6 : XIs := [(152, .aload_n 0, 1), (153, .getfield 43, 3), (156, .iload_n 3, 1), (157, .aload_n 0, 1), (158, .getfield 43, 3), (161, .iload 4, 2), (163, .laload, 1), (164, .aload_n 0, 1), (165, .getfield 31, 3), (168, .iload_n 1, 1), (169, .iaload, 1), (170, .i2l, 1), (171, .lsub, 1), (172, .lastore, 1), (173, .aload_n 0, 1), (174, .getfield 22, 3)]
noncomputable def xi_87_7 : XIs := [(177, .iload_n 3, 1), (178, .iconst 2, 1), (179, .iload_n 1, 1), (180, .imul, 1), (181, .iconst 1, 1), (182, .iadd, 1), (183, .iastore, 1), (184, .iconst 1, 1), (185, .ireturn, 1), (186, .iconst 0, 1), (187, .ireturn, 1)]
set_option maxRecDepth 100000 in
theorem xi_w87 : xi_ok cX2_relaxPipe (xi_87_0 ++ (xi_87_1 ++ (xi_87_2 ++ (xi_87_3 ++ (xi_87_4 ++ (xi_87_5 ++ (xi_87_6 ++ (xi_87_7)))))))) = true := dl_all _ _ (by decide +kernel)
theorem xi_ok87_0 : xi_ok cX2_relaxPipe xi_87_0 = true := (xi_ap xi_w87).1
theorem xi_r87_1 : xi_ok cX2_relaxPipe (xi_87_1 ++ (xi_87_2 ++ (xi_87_3 ++ (xi_87_4 ++ (xi_87_5 ++ (xi_87_6 ++ (xi_87_7))))))) = true := (xi_ap xi_w87).2
theorem xi_ok87_1 : xi_ok cX2_relaxPipe xi_87_1 = true := (xi_ap xi_r87_1).1
theorem xi_r87_2 : xi_ok cX2_relaxPipe (xi_87_2 ++ (xi_87_3 ++ (xi_87_4 ++ (xi_87_5 ++ (xi_87_6 ++ (xi_87_7)))))) = true := (xi_ap xi_r87_1).2
theorem xi_ok87_2 : xi_ok cX2_relaxPipe xi_87_2 = true := (xi_ap xi_r87_2).1
theorem xi_r87_3 : xi_ok cX2_relaxPipe (xi_87_3 ++ (xi_87_4 ++ (xi_87_5 ++ (xi_87_6 ++ (xi_87_7))))) = true := (xi_ap xi_r87_2).2
theorem xi_ok87_3 : xi_ok cX2_relaxPipe xi_87_3 = true := (xi_ap xi_r87_3).1
theorem xi_r87_4 : xi_ok cX2_relaxPipe (xi_87_4 ++ (xi_87_5 ++ (xi_87_6 ++ (xi_87_7)))) = true := (xi_ap xi_r87_3).2
theorem xi_ok87_4 : xi_ok cX2_relaxPipe xi_87_4 = true := (xi_ap xi_r87_4).1
theorem xi_r87_5 : xi_ok cX2_relaxPipe (xi_87_5 ++ (xi_87_6 ++ (xi_87_7))) = true := (xi_ap xi_r87_4).2
theorem xi_ok87_5 : xi_ok cX2_relaxPipe xi_87_5 = true := (xi_ap xi_r87_5).1
theorem xi_r87_6 : xi_ok cX2_relaxPipe (xi_87_6 ++ (xi_87_7)) = true := (xi_ap xi_r87_5).2
theorem xi_ok87_6 : xi_ok cX2_relaxPipe xi_87_6 = true := (xi_ap xi_r87_6).1
theorem xi_r87_7 : xi_ok cX2_relaxPipe (xi_87_7) = true := (xi_ap xi_r87_6).2
theorem xi_ok87_7 : xi_ok cX2_relaxPipe xi_87_7 = true := xi_r87_7
noncomputable def xi_87 (pc : Nat) : XIs := cond (Nat.blt pc 100) (cond (Nat.blt pc 51) (cond (Nat.blt pc 25) (xi_87_0) (xi_87_1)) (cond (Nat.blt pc 77) (xi_87_2) (xi_87_3))) (cond (Nat.blt pc 152) (cond (Nat.blt pc 127) (xi_87_4) (xi_87_5)) (cond (Nat.blt pc 177) (xi_87_6) (xi_87_7)))
theorem xi_ok87 (pc : Nat) : xi_ok cX2_relaxPipe (xi_87 pc) = true := xi_c (xi_c (xi_c (xi_ok87_0) (xi_ok87_1)) (xi_c (xi_ok87_2) (xi_ok87_3))) (xi_c (xi_c (xi_ok87_4) (xi_ok87_5)) (xi_c (xi_ok87_6) (xi_ok87_7)))
noncomputable def xi_88_0 : XIs := [(0, .aload_n 0, 1), (1, .getfield 40, 3), (4, .iload_n 1, 1), (5, .iaload, 1), (6, .ineg, 1), (7, .istore_n 2, 1), (8, .iload_n 1, 1), (9, .istore_n 3, 1), (10, .iconst 0, 1), (11, .istore 4, 2), (13, .iload 4, 2), (15, .bipush 32, 2), (17, .if_icmp .ge 105, 3), (20, .aload_n 0, 1), (21, .getfield 22, 3), (24, .iload_n 3, 1)]
noncomputable def xi_88_1 : XIs := [(25, .iaload, 1), (26, .iconst (-1), 1), (27, .if_icmp .eq 95, 3), (30, .aload_n 0, 1), (31, .getfield 22, 3), (34, .iload_n 3, 1), (35, .iaload, 1), (36, .iconst 1, 1), (37, .ishr, 1), (38, .istore 5, 2), (40, .aload_n 0, 1), (41, .getfield 22, 3), (44, .iload_n 3, 1), (45, .iaload, 1), (46, .iconst 1, 1), (47, .iand, 1)]
noncomputable def xi_88_2 : XIs := [(48, .ifCond .ne 7, 3), (51, .iconst 1, 1), (52, .goto 4, 3), (55, .iconst 0, 1), (56, .istore 6, 2), (58, .iload_n 2, 1), (59, .iload 6, 2), (61, .ifCond .eq 21, 3), (64, .aload_n 0, 1), (65, .getfield 34, 3), (68, .iload 5, 2), (70, .iaload, 1), (71, .aload_n 0, 1), (72, .getfield 37, 3), (75, .iload 5, 2), (77, .iaload, 1)]
noncomputable def xi_88_3 : XIs := [(78, .isub, 1), (79, .goto 10, 3), (82, .aload_n 0, 1), (83, .getfield 37, 3), (86, .iload 5, 2), (88, .iaload, 1), (89, .invokestatic 108, 3), (92, .istore_n 2, 1), (93, .iload 6, 2), (95, .ifCond .eq 13, 3), (98, .aload_n 0, 1), (99, .getfield 25, 3), (102, .iload 5, 2), (104, .iaload, 1), (105, .goto 10, 3), (108, .aload_n 0, 1)]
noncomputable def xi_88_4 : XIs := [(109, .getfield 28, 3), (112, .iload 5, 2), (114, .iaload, 1), (115, .istore_n 3, 1), (116, .iinc 4 1, 3), (119, .goto (-106), 3), (122, .iload_n 2, 1), (123, .aload_n 0, 1), (124, .getfield 40, 3), (127, .iload_n 3, 1), (128, .iaload, 1), (129, .invokestatic 108, 3), (132, .istore_n 2, 1), (133, .aload_n 0, 1), (134, .getfield 40, 3), (137, .iload_n 3, 1)]
noncomputable def xi_88_5 : XIs := [(138, .dup2, 1), (139, .iaload, 1), (140, .iload_n 2, 1), (141, .isub, 1), (142, .iastore, 1), (143, .aload_n 0, 1), (144, .getfield 40, 3), (147, .iload_n 1, 1), (148, .dup2, 1), (149, .iaload, 1), (150, .iload_n 2, 1), (151, .iadd, 1), (152, .iastore, 1), (153, .iload_n 1, 1), (154, .istore_n 3, 1), (155, .iconst 0, 1)]
noncomputable def xi_88_6 : XIs := [(156, .istore 4, 2), (158, .iload 4, 2), (160, .bipush 32, 2), (162, .if_icmp .ge 91, 3), (165, .aload_n 0, 1), (166, .getfield 22, 3), (169, .iload_n 3, 1), (170, .iaload, 1), (171, .iconst (-1), 1), (172, .if_icmp .eq 81, 3), (175, .aload_n 0, 1), (176, .getfield 22, 3), (179, .iload_n 3, 1), (180, .iaload, 1), (181, .iconst 1, 1), (182, .ishr, 1)]
noncomputable def xi_88_7 : XIs := [(183, .istore 5, 2), (185, .aload_n 0, 1), (186, .getfield 22, 3), (189, .iload_n 3, 1), (190, .iaload, 1), (191, .iconst 1, 1), (192, .iand, 1), (193, .ifCond .ne 7, 3), (196, .iconst 1, 1), (197, .goto 4, 3), (200, .iconst 0, 1), (201, .istore 6, 2), (203, .aload_n 0, 1), (204, .getfield 37, 3), (207, .iload 5, 2), (209, .dup2, 1)]
noncomputable def xi_88_8 : XIs := [(210, .iaload, 1), (211, .iload 6, 2), (213, .ifCond .eq 7, 3), (216, .iload_n 2, 1), (217, .goto 5, 3), (220, .iload_n 2, 1), (221, .ineg, 1), (222, .iadd, 1), (223, .iastore, 1), (224, .iload 6, 2), (226, .ifCond .eq 13, 3), (229, .aload_n 0, 1), (230, .getfield 25, 3), (233, .iload 5, 2), (235, .iaload, 1), (236, .goto 10, 3)]
noncomputable def xi_88_9 : XIs := [(239, .aload_n 0, 1), (240, .getfield 28, 3), (243, .iload 5, 2), (245, .iaload, 1), (246, .istore_n 3, 1), (247, .iinc 4 1, 3), (250, .goto (-92), 3), (253, .aload_n 0, 1), (254, .getfield 43, 3), (257, .iload_n 1, 1), (258, .laload, 1), (259, .iload_n 2, 1), (260, .i2l, 1), (261, .lmul, 1), (262, .lreturn, 1)]
set_option maxRecDepth 100000 in
theorem xi_w88 : xi_ok cX2_carryTo (xi_88_0 ++ (xi_88_1 ++ (xi_88_2 ++ (xi_88_3 ++ (xi_88_4 ++ (xi_88_5 ++ (xi_88_6 ++ (xi_88_7 ++ (xi_88_8 ++ (xi_88_9)))))))))) = true := dl_all _ _ (by decide +kernel)
theorem xi_ok88_0 : xi_ok cX2_carryTo xi_88_0 = true := (xi_ap xi_w88).1
theorem xi_r88_1 : xi_ok cX2_carryTo (xi_88_1 ++ (xi_88_2 ++ (xi_88_3 ++ (xi_88_4 ++ (xi_88_5 ++ (xi_88_6 ++ (xi_88_7 ++ (xi_88_8 ++ (xi_88_9))))))))) = true := (xi_ap xi_w88).2
theorem xi_ok88_1 : xi_ok cX2_carryTo xi_88_1 = true := (xi_ap xi_r88_1).1
theorem xi_r88_2 : xi_ok cX2_carryTo (xi_88_2 ++ (xi_88_3 ++ (xi_88_4 ++ (xi_88_5 ++ (xi_88_6 ++ (xi_88_7 ++ (xi_88_8 ++ (xi_88_9)))))))) = true := (xi_ap xi_r88_1).2
theorem xi_ok88_2 : xi_ok cX2_carryTo xi_88_2 = true := (xi_ap xi_r88_2).1
theorem xi_r88_3 : xi_ok cX2_carryTo (xi_88_3 ++ (xi_88_4 ++ (xi_88_5 ++ (xi_88_6 ++ (xi_88_7 ++ (xi_88_8 ++ (xi_88_9))))))) = true := (xi_ap xi_r88_2).2
theorem xi_ok88_3 : xi_ok cX2_carryTo xi_88_3 = true := (xi_ap xi_r88_3).1
theorem xi_r88_4 : xi_ok cX2_carryTo (xi_88_4 ++ (xi_88_5 ++ (xi_88_6 ++ (xi_88_7 ++ (xi_88_8 ++ (xi_88_9)))))) = true := (xi_ap xi_r88_3).2
theorem xi_ok88_4 : xi_ok cX2_carryTo xi_88_4 = true := (xi_ap xi_r88_4).1
theorem xi_r88_5 : xi_ok cX2_carryTo (xi_88_5 ++ (xi_88_6 ++ (xi_88_7 ++ (xi_88_8 ++ (xi_88_9))))) = true := (xi_ap xi_r88_4).2
theorem xi_ok88_5 : xi_ok cX2_carryTo xi_88_5 = true := (xi_ap xi_r88_5).1
theorem xi_r88_6 : xi_ok cX2_carryTo (xi_88_6 ++ (xi_88_7 ++ (xi_88_8 ++ (xi_88_9)))) = true := (xi_ap xi_r88_5).2
theorem xi_ok88_6 : xi_ok cX2_carryTo xi_88_6 = true := (xi_ap xi_r88_6).1
theorem xi_r88_7 : xi_ok cX2_carryTo (xi_88_7 ++ (xi_88_8 ++ (xi_88_9))) = true := (xi_ap xi_r88_6).2
theorem xi_ok88_7 : xi_ok cX2_carryTo xi_88_7 = true := (xi_ap xi_r88_7).1
theorem xi_r88_8 : xi_ok cX2_carryTo (xi_88_8 ++ (xi_88_9)) = true := (xi_ap xi_r88_7).2
theorem xi_ok88_8 : xi_ok cX2_carryTo xi_88_8 = true := (xi_ap xi_r88_8).1
theorem xi_r88_9 : xi_ok cX2_carryTo (xi_88_9) = true := (xi_ap xi_r88_8).2
theorem xi_ok88_9 : xi_ok cX2_carryTo xi_88_9 = true := xi_r88_9
noncomputable def xi_88 (pc : Nat) : XIs := cond (Nat.blt pc 138) (cond (Nat.blt pc 48) (cond (Nat.blt pc 25) (xi_88_0) (xi_88_1)) (cond (Nat.blt pc 78) (xi_88_2) (cond (Nat.blt pc 109) (xi_88_3) (xi_88_4)))) (cond (Nat.blt pc 183) (cond (Nat.blt pc 156) (xi_88_5) (xi_88_6)) (cond (Nat.blt pc 210) (xi_88_7) (cond (Nat.blt pc 239) (xi_88_8) (xi_88_9))))
theorem xi_ok88 (pc : Nat) : xi_ok cX2_carryTo (xi_88 pc) = true := xi_c (xi_c (xi_c (xi_ok88_0) (xi_ok88_1)) (xi_c (xi_ok88_2) (xi_c (xi_ok88_3) (xi_ok88_4)))) (xi_c (xi_c (xi_ok88_5) (xi_ok88_6)) (xi_c (xi_ok88_7) (xi_c (xi_ok88_8) (xi_ok88_9))))
noncomputable def xi_89_0 : XIs := [(0, .aload_n 0, 1), (1, .getfield 47, 3), (4, .aload_n 1, 1), (5, .getfield 50, 3), (8, .if_icmp .ne 4, 3), (11, .return_, 1), (12, .aload_n 0, 1), (13, .aload_n 1, 1), (14, .getfield 50, 3), (17, .putfield 47, 3), (20, .aload_n 0, 1), (21, .iconst 0, 1), (22, .putfield 167, 3), (25, .aload_n 0, 1), (26, .lconst 0, 1), (27, .putfield 170, 3)]
noncomputable def xi_89_1 : XIs := [(30, .aload_n 0, 1), (31, .iconst 0, 1), (32, .putfield 136, 3), (35, .iconst 0, 1), (36, .istore_n 2, 1), (37, .iload_n 2, 1), (38, .aload_n 1, 1), (39, .getfield 125, 3), (42, .if_icmp .ge 28, 3), (45, .aload_n 0, 1), (46, .getfield 40, 3), (49, .iload_n 2, 1), (50, .aload_n 1, 1), (51, .iload_n 2, 1), (52, .invokestatic 173, 3), (55, .ifCond .eq 7, 3)]
noncomputable def xi_89_2 : XIs := [(58, .iconst 1, 1), (59, .goto 4, 3), (62, .iconst (-1), 1), (63, .iastore, 1), (64, .iinc 2 1, 3), (67, .goto (-30), 3), (70, .iconst 0, 1), (71, .istore_n 2, 1), (72, .iload_n 2, 1), (73, .aload_n 1, 1), (74, .getfield 84, 3), (77, .if_icmp .ge 100, 3), (80, .aload_n 1, 1), (81, .iload_n 2, 1), (82, .invokevirtual 87, 3), (85, .ifCond .eq 86, 3)]
noncomputable def xi_89_3 : XIs := [(88, .aload_n 1, 1), (89, .aload_n 1, 1), (90, .getfield 94, 3), (93, .iload_n 2, 1), (94, .iaload, 1), (95, .invokestatic 173, 3), (98, .aload_n 1, 1), (99, .aload_n 1, 1), (100, .getfield 97, 3), (103, .iload_n 2, 1), (104, .iaload, 1), (105, .invokestatic 173, 3), (108, .if_icmp .eq 63, 3), (111, .aload_n 1, 1), (112, .aload_n 1, 1), (113, .getfield 94, 3)]
noncomputable def xi_89_4 : XIs := [(116, .iload_n 2, 1), (117, .iaload, 1), (118, .invokestatic 173, 3), (121, .istore_n 3, 1), (122, .aload_n 0, 1), (123, .iload_n 3, 1), (124, .ifCond .eq 12, 3), (127, .aload_n 1, 1), (128, .getfield 94, 3), (131, .iload_n 2, 1), (132, .iaload, 1), (133, .goto 9, 3), (136, .aload_n 1, 1), (137, .getfield 97, 3), (140, .iload_n 2, 1), (141, .iaload, 1)]
noncomputable def xi_89_5 : XIs := [(142, .iload_n 3, 1), (143, .ifCond .eq 12, 3), (146, .aload_n 1, 1), (147, .getfield 97, 3), (150, .iload_n 2, 1), (151, .iaload, 1), (152, .goto 9, 3), (155, .aload_n 1, 1), (156, .getfield 94, 3), (159, .iload_n 2, 1), (160, .iaload, 1), (161, .aload_n 1, 1), (162, .getfield 139, 3), (165, .iload_n 2, 1), (166, .iaload, 1), (167, .iconst 1, 1)]
noncomputable def xi_89_6 : XIs := [(168, .invokevirtual 142, 3), (171, .iinc 2 1, 3), (174, .goto (-102), 3), (177, .iconst 0, 1), (178, .istore_n 2, 1), (179, .iload_n 2, 1), (180, .bipush 32, 2), (182, .if_icmp .ge 49, 3), (185, .aload_n 0, 1), (186, .aload_n 1, 1), (187, .getfield 125, 3), (190, .iconst 1, 1), (191, .invokevirtual 155, 3), (194, .istore_n 3, 1), (195, .iload_n 3, 1), (196, .iconst (-1), 1)]
noncomputable def xi_89_7 : XIs := [(197, .if_icmp .ne 4, 3), (200, .return_, 1), (201, .aload_n 0, 1), (202, .dup, 1), (203, .getfield 170, 3), (206, .aload_n 0, 1), (207, .iload_n 3, 1), (208, .invokevirtual 158, 3), (211, .ladd, 1), (212, .putfield 170, 3), (215, .aload_n 0, 1), (216, .dup, 1), (217, .getfield 167, 3), (220, .iconst 1, 1), (221, .iadd, 1), (222, .putfield 167, 3)]
noncomputable def xi_89_8 : XIs := [(225, .iinc 2 1, 3), (228, .goto (-49), 3), (231, .return_, 1)]
set_option maxRecDepth 100000 in
theorem xi_w89 : xi_ok cX2_pair (xi_89_0 ++ (xi_89_1 ++ (xi_89_2 ++ (xi_89_3 ++ (xi_89_4 ++ (xi_89_5 ++ (xi_89_6 ++ (xi_89_7 ++ (xi_89_8))))))))) = true := dl_all _ _ (by decide +kernel)
theorem xi_ok89_0 : xi_ok cX2_pair xi_89_0 = true := (xi_ap xi_w89).1
theorem xi_r89_1 : xi_ok cX2_pair (xi_89_1 ++ (xi_89_2 ++ (xi_89_3 ++ (xi_89_4 ++ (xi_89_5 ++ (xi_89_6 ++ (xi_89_7 ++ (xi_89_8)))))))) = true := (xi_ap xi_w89).2
theorem xi_ok89_1 : xi_ok cX2_pair xi_89_1 = true := (xi_ap xi_r89_1).1
theorem xi_r89_2 : xi_ok cX2_pair (xi_89_2 ++ (xi_89_3 ++ (xi_89_4 ++ (xi_89_5 ++ (xi_89_6 ++ (xi_89_7 ++ (xi_89_8))))))) = true := (xi_ap xi_r89_1).2
theorem xi_ok89_2 : xi_ok cX2_pair xi_89_2 = true := (xi_ap xi_r89_2).1
theorem xi_r89_3 : xi_ok cX2_pair (xi_89_3 ++ (xi_89_4 ++ (xi_89_5 ++ (xi_89_6 ++ (xi_89_7 ++ (xi_89_8)))))) = true := (xi_ap xi_r89_2).2
theorem xi_ok89_3 : xi_ok cX2_pair xi_89_3 = true := (xi_ap xi_r89_3).1
theorem xi_r89_4 : xi_ok cX2_pair (xi_89_4 ++ (xi_89_5 ++ (xi_89_6 ++ (xi_89_7 ++ (xi_89_8))))) = true := (xi_ap xi_r89_3).2
theorem xi_ok89_4 : xi_ok cX2_pair xi_89_4 = true := (xi_ap xi_r89_4).1
theorem xi_r89_5 : xi_ok cX2_pair (xi_89_5 ++ (xi_89_6 ++ (xi_89_7 ++ (xi_89_8)))) = true := (xi_ap xi_r89_4).2
theorem xi_ok89_5 : xi_ok cX2_pair xi_89_5 = true := (xi_ap xi_r89_5).1
theorem xi_r89_6 : xi_ok cX2_pair (xi_89_6 ++ (xi_89_7 ++ (xi_89_8))) = true := (xi_ap xi_r89_5).2
theorem xi_ok89_6 : xi_ok cX2_pair xi_89_6 = true := (xi_ap xi_r89_6).1
theorem xi_r89_7 : xi_ok cX2_pair (xi_89_7 ++ (xi_89_8)) = true := (xi_ap xi_r89_6).2
theorem xi_ok89_7 : xi_ok cX2_pair xi_89_7 = true := (xi_ap xi_r89_7).1
theorem xi_r89_8 : xi_ok cX2_pair (xi_89_8) = true := (xi_ap xi_r89_7).2
theorem xi_ok89_8 : xi_ok cX2_pair xi_89_8 = true := xi_r89_8
noncomputable def xi_89 (pc : Nat) : XIs := cond (Nat.blt pc 116) (cond (Nat.blt pc 58) (cond (Nat.blt pc 30) (xi_89_0) (xi_89_1)) (cond (Nat.blt pc 88) (xi_89_2) (xi_89_3))) (cond (Nat.blt pc 168) (cond (Nat.blt pc 142) (xi_89_4) (xi_89_5)) (cond (Nat.blt pc 197) (xi_89_6) (cond (Nat.blt pc 225) (xi_89_7) (xi_89_8))))
theorem xi_ok89 (pc : Nat) : xi_ok cX2_pair (xi_89 pc) = true := xi_c (xi_c (xi_c (xi_ok89_0) (xi_ok89_1)) (xi_c (xi_ok89_2) (xi_ok89_3))) (xi_c (xi_c (xi_ok89_4) (xi_ok89_5)) (xi_c (xi_ok89_6) (xi_c (xi_ok89_7) (xi_ok89_8))))
noncomputable def xi_90_0 : XIs := [(0, .aload_n 0, 1), (1, .getfield 177, 3), (4, .iload_n 1, 1), (5, .iaload, 1), (6, .bipush 13, 2), (8, .if_icmp .ge 7, 3), (11, .iconst 1, 1), (12, .goto 4, 3), (15, .iconst 0, 1), (16, .ireturn, 1)]
set_option maxRecDepth 100000 in
theorem xi_w90 : xi_ok cX2_isLow (xi_90_0) = true := dl_all _ _ (by decide +kernel)
theorem xi_ok90_0 : xi_ok cX2_isLow xi_90_0 = true := xi_w90
noncomputable def xi_90 (pc : Nat) : XIs := xi_90_0
theorem xi_ok90 (pc : Nat) : xi_ok cX2_isLow (xi_90 pc) = true := xi_ok90_0
noncomputable def xi_91_0 : XIs := [(0, .aload_n 0, 1), (1, .invokespecial 3, 3), (4, .aload_n 0, 1), (5, .bipush 32, 2), (7, .newarray .int, 2), (9, .putfield 9, 3), (12, .aload_n 0, 1), (13, .sipush 160, 3), (16, .newarray .int, 2), (18, .putfield 15, 3), (21, .aload_n 0, 1), (22, .sipush 160, 3), (25, .newarray .int, 2), (27, .putfield 18, 3), (30, .aload_n 0, 1), (31, .sipush 160, 3)]
noncomputable def xi_91_1 : XIs := [(34, .newarray .int, 2), (36, .putfield 21, 3), (39, .aload_n 0, 1), (40, .sipush 160, 3), (43, .newarray .int, 2), (45, .putfield 24, 3), (48, .aload_n 0, 1), (49, .sipush 160, 3), (52, .newarray .int, 2), (54, .putfield 27, 3), (57, .aload_n 0, 1), (58, .bipush 32, 2), (60, .newarray .int, 2), (62, .putfield 30, 3), (65, .aload_n 0, 1), (66, .bipush 32, 2)]
noncomputable def xi_91_2 : XIs := [(68, .newarray .int, 2), (70, .putfield 33, 3), (73, .aload_n 0, 1), (74, .bipush 32, 2), (76, .newarray .int, 2), (78, .putfield 36, 3), (81, .aload_n 0, 1), (82, .bipush 33, 2), (84, .newarray .int, 2), (86, .putfield 39, 3), (89, .aload_n 0, 1), (90, .sipush 160, 3), (93, .newarray .int, 2), (95, .putfield 42, 3), (98, .aload_n 0, 1), (99, .bipush 33, 2)]
noncomputable def xi_91_3 : XIs := [(101, .newarray .int, 2), (103, .putfield 45, 3), (106, .aload_n 0, 1), (107, .sipush 160, 3), (110, .newarray .int, 2), (112, .putfield 48, 3), (115, .aload_n 0, 1), (116, .iconst (-1), 1), (117, .putfield 51, 3), (120, .aload_n 0, 1), (121, .getfield 15, 3), (124, .iconst (-1), 1), (125, .invokestatic 55, 3), (128, .return_, 1)]
set_option maxRecDepth 100000 in
theorem xi_w91 : xi_ok cX3_init (xi_91_0 ++ (xi_91_1 ++ (xi_91_2 ++ (xi_91_3)))) = true := dl_all _ _ (by decide +kernel)
theorem xi_ok91_0 : xi_ok cX3_init xi_91_0 = true := (xi_ap xi_w91).1
theorem xi_r91_1 : xi_ok cX3_init (xi_91_1 ++ (xi_91_2 ++ (xi_91_3))) = true := (xi_ap xi_w91).2
theorem xi_ok91_1 : xi_ok cX3_init xi_91_1 = true := (xi_ap xi_r91_1).1
theorem xi_r91_2 : xi_ok cX3_init (xi_91_2 ++ (xi_91_3)) = true := (xi_ap xi_r91_1).2
theorem xi_ok91_2 : xi_ok cX3_init xi_91_2 = true := (xi_ap xi_r91_2).1
theorem xi_r91_3 : xi_ok cX3_init (xi_91_3) = true := (xi_ap xi_r91_2).2
theorem xi_ok91_3 : xi_ok cX3_init xi_91_3 = true := xi_r91_3
noncomputable def xi_91 (pc : Nat) : XIs := cond (Nat.blt pc 68) (cond (Nat.blt pc 34) (xi_91_0) (xi_91_1)) (cond (Nat.blt pc 101) (xi_91_2) (xi_91_3))
theorem xi_ok91 (pc : Nat) : xi_ok cX3_init (xi_91 pc) = true := xi_c (xi_c (xi_ok91_0) (xi_ok91_1)) (xi_c (xi_ok91_2) (xi_ok91_3))
noncomputable def xi_92_0 : XIs := [(0, .aload_n 0, 1), (1, .iconst 0, 1), (2, .putfield 61, 3), (5, .aload_n 0, 1), (6, .iconst 0, 1), (7, .putfield 64, 3), (10, .aload_n 0, 1), (11, .iconst 0, 1), (12, .putfield 67, 3), (15, .aload_n 0, 1), (16, .iconst 0, 1), (17, .putfield 70, 3), (20, .aload_n 0, 1), (21, .iconst (-1), 1), (22, .putfield 51, 3), (25, .aload_n 0, 1)]
noncomputable def xi_92_1 : XIs := [(26, .getfield 15, 3), (29, .iconst (-1), 1), (30, .invokestatic 55, 3), (33, .return_, 1)]
set_option maxRecDepth 100000 in
theorem xi_w92 : xi_ok cX3_clear (xi_92_0 ++ (xi_92_1)) = true := dl_all _ _ (by decide +kernel)
theorem xi_ok92_0 : xi_ok cX3_clear xi_92_0 = true := (xi_ap xi_w92).1
theorem xi_r92_1 : xi_ok cX3_clear (xi_92_1) = true := (xi_ap xi_w92).2
theorem xi_ok92_1 : xi_ok cX3_clear xi_92_1 = true := xi_r92_1
noncomputable def xi_92 (pc : Nat) : XIs := cond (Nat.blt pc 26) (xi_92_0) (xi_92_1)
theorem xi_ok92 (pc : Nat) : xi_ok cX3_clear (xi_92 pc) = true := xi_c (xi_ok92_0) (xi_ok92_1)
noncomputable def xi_93_0 : XIs := [(0, .aload_n 0, 1), (1, .aload_n 1, 1), (2, .getfield 61, 3), (5, .putfield 61, 3), (8, .aload_n 0, 1), (9, .aload_n 1, 1), (10, .getfield 64, 3), (13, .putfield 64, 3), (16, .aload_n 0, 1), (17, .aload_n 1, 1), (18, .getfield 67, 3), (21, .putfield 67, 3), (24, .aload_n 0, 1), (25, .aload_n 1, 1), (26, .getfield 70, 3), (29, .putfield 70, 3)]
noncomputable def xi_93_1 : XIs := [(32, .aload_n 0, 1), (33, .iconst (-1), 1), (34, .putfield 51, 3), (37, .aload_n 1, 1), (38, .getfield 9, 3), (41, .iconst 0, 1), (42, .aload_n 0, 1), (43, .getfield 9, 3), (46, .iconst 0, 1), (47, .bipush 32, 2), (49, .invokestatic 73, 3), (52, .aload_n 1, 1), (53, .getfield 15, 3), (56, .iconst 0, 1), (57, .aload_n 0, 1), (58, .getfield 15, 3)]
noncomputable def xi_93_2 : XIs := [(61, .iconst 0, 1), (62, .sipush 160, 3), (65, .invokestatic 73, 3), (68, .aload_n 1, 1), (69, .getfield 18, 3), (72, .iconst 0, 1), (73, .aload_n 0, 1), (74, .getfield 18, 3), (77, .iconst 0, 1), (78, .sipush 160, 3), (81, .invokestatic 73, 3), (84, .aload_n 1, 1), (85, .getfield 21, 3), (88, .iconst 0, 1), (89, .aload_n 0, 1), (90, .getfield 21, 3)]
noncomputable def xi_93_3 : XIs := [(93, .iconst 0, 1), (94, .sipush 160, 3), (97, .invokestatic 73, 3), (100, .aload_n 1, 1), (101, .getfield 24, 3), (104, .iconst 0, 1), (105, .aload_n 0, 1), (106, .getfield 24, 3), (109, .iconst 0, 1), (110, .sipush 160, 3), (113, .invokestatic 73, 3), (116, .aload_n 1, 1), (117, .getfield 27, 3), (120, .iconst 0, 1), (121, .aload_n 0, 1), (122, .getfield 27, 3)]
noncomputable def xi_93_4 : XIs := [(125, .iconst 0, 1), (126, .sipush 160, 3), (129, .invokestatic 73, 3), (132, .return_, 1)]
set_option maxRecDepth 100000 in
theorem xi_w93 : xi_ok cX3_copyOf (xi_93_0 ++ (xi_93_1 ++ (xi_93_2 ++ (xi_93_3 ++ (xi_93_4))))) = true := dl_all _ _ (by decide +kernel)
theorem xi_ok93_0 : xi_ok cX3_copyOf xi_93_0 = true := (xi_ap xi_w93).1
theorem xi_r93_1 : xi_ok cX3_copyOf (xi_93_1 ++ (xi_93_2 ++ (xi_93_3 ++ (xi_93_4)))) = true := (xi_ap xi_w93).2
theorem xi_ok93_1 : xi_ok cX3_copyOf xi_93_1 = true := (xi_ap xi_r93_1).1
theorem xi_r93_2 : xi_ok cX3_copyOf (xi_93_2 ++ (xi_93_3 ++ (xi_93_4))) = true := (xi_ap xi_r93_1).2
theorem xi_ok93_2 : xi_ok cX3_copyOf xi_93_2 = true := (xi_ap xi_r93_2).1
theorem xi_r93_3 : xi_ok cX3_copyOf (xi_93_3 ++ (xi_93_4)) = true := (xi_ap xi_r93_2).2
theorem xi_ok93_3 : xi_ok cX3_copyOf xi_93_3 = true := (xi_ap xi_r93_3).1
theorem xi_r93_4 : xi_ok cX3_copyOf (xi_93_4) = true := (xi_ap xi_r93_3).2
theorem xi_ok93_4 : xi_ok cX3_copyOf xi_93_4 = true := xi_r93_4
noncomputable def xi_93 (pc : Nat) : XIs := cond (Nat.blt pc 61) (cond (Nat.blt pc 32) (xi_93_0) (xi_93_1)) (cond (Nat.blt pc 93) (xi_93_2) (cond (Nat.blt pc 125) (xi_93_3) (xi_93_4)))
theorem xi_ok93 (pc : Nat) : xi_ok cX3_copyOf (xi_93 pc) = true := xi_c (xi_c (xi_ok93_0) (xi_ok93_1)) (xi_c (xi_ok93_2) (xi_c (xi_ok93_3) (xi_ok93_4)))
noncomputable def xi_94_0 : XIs := [(0, .iload_n 1, 1), (1, .ifCond .lt 15, 3), (4, .iload_n 1, 1), (5, .aload_n 0, 1), (6, .getfield 64, 3), (9, .if_icmp .ge 7, 3), (12, .iconst 1, 1), (13, .goto 4, 3), (16, .iconst 0, 1), (17, .ireturn, 1)]
set_option maxRecDepth 100000 in
theorem xi_w94 : xi_ok cX3_hasNode (xi_94_0) = true := dl_all _ _ (by decide +kernel)
theorem xi_ok94_0 : xi_ok cX3_hasNode xi_94_0 = true := xi_w94
noncomputable def xi_94 (pc : Nat) : XIs := xi_94_0
theorem xi_ok94 (pc : Nat) : xi_ok cX3_hasNode (xi_94 pc) = true := xi_ok94_0
noncomputable def xi_95_0 : XIs := [(0, .aload_n 0, 1), (1, .iload_n 1, 1), (2, .invokevirtual 79, 3), (5, .ifCond .eq 20, 3), (8, .aload_n 0, 1), (9, .iload_n 2, 1), (10, .invokevirtual 79, 3), (13, .ifCond .eq 12, 3), (16, .iload_n 1, 1), (17, .iload_n 2, 1), (18, .if_icmp .eq 7, 3), (21, .iconst 1, 1), (22, .goto 4, 3), (25, .iconst 0, 1), (26, .ireturn, 1)]
set_option maxRecDepth 100000 in
theorem xi_w95 : xi_ok cX3_hasTwo (xi_95_0) = true := dl_all _ _ (by decide +kernel)
theorem xi_ok95_0 : xi_ok cX3_hasTwo xi_95_0 = true := xi_w95
noncomputable def xi_95 (pc : Nat) : XIs := xi_95_0
theorem xi_ok95 (pc : Nat) : xi_ok cX3_hasTwo (xi_95 pc) = true := xi_ok95_0
noncomputable def xi_96_0 : XIs := [(0, .iload_n 1, 1), (1, .ifCond .lt 25, 3), (4, .iload_n 1, 1), (5, .aload_n 0, 1), (6, .getfield 70, 3), (9, .if_icmp .ge 17, 3), (12, .aload_n 0, 1), (13, .getfield 15, 3), (16, .iload_n 1, 1), (17, .iaload, 1), (18, .iconst (-1), 1), (19, .if_icmp .eq 7, 3), (22, .iconst 1, 1), (23, .goto 4, 3), (26, .iconst 0, 1), (27, .ireturn, 1)]
set_option maxRecDepth 100000 in
theorem xi_w96 : xi_ok cX3_hasArc (xi_96_0) = true := dl_all _ _ (by decide +kernel)
theorem xi_ok96_0 : xi_ok cX3_hasArc xi_96_0 = true := xi_w96
noncomputable def xi_96 (pc : Nat) : XIs := xi_96_0
theorem xi_ok96 (pc : Nat) : xi_ok cX3_hasArc (xi_96 pc) = true := xi_ok96_0
noncomputable def xi_97_0 : XIs := [(0, .aload_n 0, 1), (1, .getfield 15, 3), (4, .iload_n 1, 1), (5, .iaload, 1), (6, .iconst (-1), 1), (7, .if_icmp .eq 22, 3), (10, .aload_n 0, 1), (11, .getfield 15, 3), (14, .iload_n 1, 1), (15, .iaload, 1), (16, .aload_n 0, 1), (17, .getfield 18, 3), (20, .iload_n 1, 1), (21, .iaload, 1), (22, .if_icmp .eq 7, 3), (25, .iconst 1, 1)]
noncomputable def xi_97_1 : XIs := [(26, .goto 4, 3), (29, .iconst 0, 1), (30, .ireturn, 1)]
set_option maxRecDepth 100000 in
theorem xi_w97 : xi_ok cX3_isJoint (xi_97_0 ++ (xi_97_1)) = true := dl_all _ _ (by decide +kernel)
theorem xi_ok97_0 : xi_ok cX3_isJoint xi_97_0 = true := (xi_ap xi_w97).1
theorem xi_r97_1 : xi_ok cX3_isJoint (xi_97_1) = true := (xi_ap xi_w97).2
theorem xi_ok97_1 : xi_ok cX3_isJoint xi_97_1 = true := xi_r97_1
noncomputable def xi_97 (pc : Nat) : XIs := cond (Nat.blt pc 26) (xi_97_0) (xi_97_1)
theorem xi_ok97 (pc : Nat) : xi_ok cX3_isJoint (xi_97 pc) = true := xi_c (xi_ok97_0) (xi_ok97_1)
noncomputable def xi_98_0 : XIs := [(0, .iconst 0, 1), (1, .istore_n 1, 1), (2, .iconst 0, 1), (3, .istore_n 2, 1), (4, .iload_n 2, 1), (5, .aload_n 0, 1), (6, .getfield 70, 3), (9, .if_icmp .ge 20, 3), (12, .aload_n 0, 1), (13, .iload_n 2, 1), (14, .invokevirtual 83, 3), (17, .ifCond .eq 6, 3), (20, .iinc 1 1, 3), (23, .iinc 2 1, 3), (26, .goto (-22), 3), (29, .iload_n 1, 1)]
noncomputable def xi_98_1 : XIs := [(30, .ireturn, 1)]
set_option maxRecDepth 100000 in
theorem xi_w98 : xi_ok cX3_joints (xi_98_0 ++ (xi_98_1)) = true := dl_all _ _ (by decide +kernel)
theorem xi_ok98_0 : xi_ok cX3_joints xi_98_0 = true := (xi_ap xi_w98).1
theorem xi_r98_1 : xi_ok cX3_joints (xi_98_1) = true := (xi_ap xi_w98).2
theorem xi_ok98_1 : xi_ok cX3_joints xi_98_1 = true := xi_r98_1
noncomputable def xi_98 (pc : Nat) : XIs := cond (Nat.blt pc 30) (xi_98_0) (xi_98_1)
theorem xi_ok98 (pc : Nat) : xi_ok cX3_joints (xi_98 pc) = true := xi_c (xi_ok98_0) (xi_ok98_1)
noncomputable def xi_99_0 : XIs := [(0, .aload_n 1, 1), (1, .iconst 0, 1), (2, .invokestatic 55, 3), (5, .iconst 0, 1), (6, .istore_n 2, 1), (7, .iload_n 2, 1), (8, .aload_n 0, 1), (9, .getfield 70, 3), (12, .if_icmp .ge 41, 3), (15, .aload_n 0, 1), (16, .iload_n 2, 1), (17, .invokevirtual 83, 3), (20, .ifCond .eq 27, 3), (23, .aload_n 1, 1), (24, .aload_n 0, 1), (25, .getfield 15, 3)]
noncomputable def xi_99_1 : XIs := [(28, .iload_n 2, 1), (29, .iaload, 1), (30, .dup2, 1), (31, .iaload, 1), (32, .iconst 1, 1), (33, .iadd, 1), (34, .iastore, 1), (35, .aload_n 1, 1), (36, .aload_n 0, 1), (37, .getfield 18, 3), (40, .iload_n 2, 1), (41, .iaload, 1), (42, .dup2, 1), (43, .iaload, 1), (44, .iconst 1, 1), (45, .iadd, 1)]
noncomputable def xi_99_2 : XIs := [(46, .iastore, 1), (47, .iinc 2 1, 3), (50, .goto (-43), 3), (53, .return_, 1)]
set_option maxRecDepth 100000 in
theorem xi_w99 : xi_ok cX3_countJoints (xi_99_0 ++ (xi_99_1 ++ (xi_99_2))) = true := dl_all _ _ (by decide +kernel)
theorem xi_ok99_0 : xi_ok cX3_countJoints xi_99_0 = true := (xi_ap xi_w99).1
theorem xi_r99_1 : xi_ok cX3_countJoints (xi_99_1 ++ (xi_99_2)) = true := (xi_ap xi_w99).2
theorem xi_ok99_1 : xi_ok cX3_countJoints xi_99_1 = true := (xi_ap xi_r99_1).1
theorem xi_r99_2 : xi_ok cX3_countJoints (xi_99_2) = true := (xi_ap xi_r99_1).2
theorem xi_ok99_2 : xi_ok cX3_countJoints xi_99_2 = true := xi_r99_2
noncomputable def xi_99 (pc : Nat) : XIs := cond (Nat.blt pc 28) (xi_99_0) (cond (Nat.blt pc 46) (xi_99_1) (xi_99_2))
theorem xi_ok99 (pc : Nat) : xi_ok cX3_countJoints (xi_99 pc) = true := xi_c (xi_ok99_0) (xi_c (xi_ok99_1) (xi_ok99_2))
noncomputable def xi_100_0 : XIs := [(0, .iload_n 2, 1), (1, .ifCond .ne 10, 3), (4, .aload_n 0, 1), (5, .getfield 21, 3), (8, .iload_n 1, 1), (9, .iaload, 1), (10, .ireturn, 1), (11, .iload_n 2, 1), (12, .iconst 1, 1), (13, .if_icmp .ne 12, 3), (16, .aload_n 0, 1), (17, .getfield 24, 3), (20, .iload_n 1, 1), (21, .iaload, 1), (22, .goto 9, 3), (25, .aload_n 0, 1)]
noncomputable def xi_100_1 : XIs := [(26, .getfield 27, 3), (29, .iload_n 1, 1), (30, .iaload, 1), (31, .ireturn, 1)]
set_option maxRecDepth 100000 in
theorem xi_w100 : xi_ok cX3_valueOf (xi_100_0 ++ (xi_100_1)) = true := dl_all _ _ (by decide +kernel)
theorem xi_ok100_0 : xi_ok cX3_valueOf xi_100_0 = true := (xi_ap xi_w100).1
theorem xi_r100_1 : xi_ok cX3_valueOf (xi_100_1) = true := (xi_ap xi_w100).2
theorem xi_ok100_1 : xi_ok cX3_valueOf xi_100_1 = true := xi_r100_1
noncomputable def xi_100 (pc : Nat) : XIs := cond (Nat.blt pc 26) (xi_100_0) (xi_100_1)
theorem xi_ok100 (pc : Nat) : xi_ok cX3_valueOf (xi_100 pc) = true := xi_c (xi_ok100_0) (xi_ok100_1)
noncomputable def xi_101_0 : XIs := [(0, .iconst 0, 1), (1, .istore_n 1, 1), (2, .iload_n 1, 1), (3, .sipush 160, 3), (6, .if_icmp .ge 21, 3), (9, .aload_n 0, 1), (10, .getfield 15, 3), (13, .iload_n 1, 1), (14, .iaload, 1), (15, .iconst (-1), 1), (16, .if_icmp .ne 5, 3), (19, .iload_n 1, 1), (20, .ireturn, 1), (21, .iinc 1 1, 3), (24, .goto (-22), 3), (27, .iconst (-1), 1)]
noncomputable def xi_101_1 : XIs := [(28, .ireturn, 1)]
set_option maxRecDepth 100000 in
theorem xi_w101 : xi_ok cX3_freePlace (xi_101_0 ++ (xi_101_1)) = true := dl_all _ _ (by decide +kernel)
theorem xi_ok101_0 : xi_ok cX3_freePlace xi_101_0 = true := (xi_ap xi_w101).1
theorem xi_r101_1 : xi_ok cX3_freePlace (xi_101_1) = true := (xi_ap xi_w101).2
theorem xi_ok101_1 : xi_ok cX3_freePlace xi_101_1 = true := xi_r101_1
noncomputable def xi_101 (pc : Nat) : XIs := cond (Nat.blt pc 28) (xi_101_0) (xi_101_1)
theorem xi_ok101 (pc : Nat) : xi_ok cX3_freePlace (xi_101 pc) = true := xi_c (xi_ok101_0) (xi_ok101_1)
noncomputable def xi_102_0 : XIs := [(0, .aload_n 0, 1), (1, .getfield 64, 3), (4, .bipush 32, 2), (6, .if_icmp .lt 7, 3), (9, .iconst (-1), 1), (10, .goto 11, 3), (13, .iconst 1, 1), (14, .aload_n 0, 1), (15, .getfield 64, 3), (18, .ishl, 1), (19, .iconst 1, 1), (20, .isub, 1), (21, .ireturn, 1)]
set_option maxRecDepth 100000 in
theorem xi_w102 : xi_ok cX3_allNodes (xi_102_0) = true := dl_all _ _ (by decide +kernel)
theorem xi_ok102_0 : xi_ok cX3_allNodes xi_102_0 = true := xi_w102
noncomputable def xi_102 (pc : Nat) : XIs := xi_102_0
theorem xi_ok102 (pc : Nat) : xi_ok cX3_allNodes (xi_102 pc) = true := xi_ok102_0
noncomputable def xi_103_0 : XIs := [(0, .aload_n 0, 1), (1, .getfield 39, 3), (4, .iload_n 1, 1), (5, .iconst 1, 1), (6, .iadd, 1), (7, .iaload, 1), (8, .aload_n 0, 1), (9, .getfield 39, 3), (12, .iload_n 1, 1), (13, .iaload, 1), (14, .isub, 1), (15, .ireturn, 1)]
set_option maxRecDepth 100000 in
theorem xi_w103 : xi_ok cX3_outCount (xi_103_0) = true := dl_all _ _ (by decide +kernel)
theorem xi_ok103_0 : xi_ok cX3_outCount xi_103_0 = true := xi_w103
noncomputable def xi_103 (pc : Nat) : XIs := xi_103_0
theorem xi_ok103 (pc : Nat) : xi_ok cX3_outCount (xi_103 pc) = true := xi_ok103_0
noncomputable def xi_104_0 : XIs := [(0, .aload_n 0, 1), (1, .getfield 45, 3), (4, .iload_n 1, 1), (5, .iconst 1, 1), (6, .iadd, 1), (7, .iaload, 1), (8, .aload_n 0, 1), (9, .getfield 45, 3), (12, .iload_n 1, 1), (13, .iaload, 1), (14, .isub, 1), (15, .ireturn, 1)]
set_option maxRecDepth 100000 in
theorem xi_w104 : xi_ok cX3_inCount (xi_104_0) = true := dl_all _ _ (by decide +kernel)
theorem xi_ok104_0 : xi_ok cX3_inCount xi_104_0 = true := xi_w104
noncomputable def xi_104 (pc : Nat) : XIs := xi_104_0
theorem xi_ok104 (pc : Nat) : xi_ok cX3_inCount (xi_104 pc) = true := xi_ok104_0
noncomputable def xi_105_0 : XIs := [(0, .aload_n 0, 1), (1, .getfield 15, 3), (4, .iload_n 1, 1), (5, .iconst (-1), 1), (6, .iastore, 1), (7, .aload_n 0, 1), (8, .dup, 1), (9, .getfield 67, 3), (12, .iconst 1, 1), (13, .isub, 1), (14, .putfield 67, 3), (17, .aload_n 0, 1), (18, .getfield 70, 3), (21, .ifCond .le 31, 3), (24, .aload_n 0, 1), (25, .getfield 15, 3)]
noncomputable def xi_105_1 : XIs := [(28, .aload_n 0, 1), (29, .getfield 70, 3), (32, .iconst 1, 1), (33, .isub, 1), (34, .iaload, 1), (35, .iconst (-1), 1), (36, .if_icmp .ne 16, 3), (39, .aload_n 0, 1), (40, .dup, 1), (41, .getfield 70, 3), (44, .iconst 1, 1), (45, .isub, 1), (46, .putfield 70, 3), (49, .goto (-32), 3), (52, .return_, 1)]
set_option maxRecDepth 100000 in
theorem xi_w105 : xi_ok cX3_dropAt (xi_105_0 ++ (xi_105_1)) = true := dl_all _ _ (by decide +kernel)
theorem xi_ok105_0 : xi_ok cX3_dropAt xi_105_0 = true := (xi_ap xi_w105).1
theorem xi_r105_1 : xi_ok cX3_dropAt (xi_105_1) = true := (xi_ap xi_w105).2
theorem xi_ok105_1 : xi_ok cX3_dropAt xi_105_1 = true := xi_r105_1
noncomputable def xi_105 (pc : Nat) : XIs := cond (Nat.blt pc 28) (xi_105_0) (xi_105_1)
theorem xi_ok105 (pc : Nat) : xi_ok cX3_dropAt (xi_105 pc) = true := xi_c (xi_ok105_0) (xi_ok105_1)
noncomputable def xi_106_0 : XIs := [(0, .aload_n 0, 1), (1, .getfield 51, 3), (4, .aload_n 0, 1), (5, .getfield 61, 3), (8, .if_icmp .ne 4, 3), (11, .return_, 1), (12, .aload_n 0, 1), (13, .aload_n 0, 1), (14, .getfield 61, 3), (17, .putfield 51, 3), (20, .aload_n 0, 1), (21, .getfield 30, 3), (24, .iconst 0, 1), (25, .invokestatic 55, 3), (28, .aload_n 0, 1), (29, .getfield 33, 3)]
noncomputable def xi_106_1 : XIs := [(32, .iconst 0, 1), (33, .invokestatic 55, 3), (36, .aload_n 0, 1), (37, .getfield 36, 3), (40, .iconst 0, 1), (41, .invokestatic 55, 3), (44, .aload_n 0, 1), (45, .getfield 39, 3), (48, .iconst 0, 1), (49, .invokestatic 55, 3), (52, .aload_n 0, 1), (53, .getfield 45, 3), (56, .iconst 0, 1), (57, .invokestatic 55, 3), (60, .iconst 0, 1), (61, .istore_n 1, 1)]
noncomputable def xi_106_2 : XIs := [(62, .iload_n 1, 1), (63, .aload_n 0, 1), (64, .getfield 70, 3), (67, .if_icmp .ge 35, 3), (70, .aload_n 0, 1), (71, .getfield 15, 3), (74, .iload_n 1, 1), (75, .iaload, 1), (76, .iconst (-1), 1), (77, .if_icmp .eq 19, 3), (80, .aload_n 0, 1), (81, .aload_n 0, 1), (82, .getfield 15, 3), (85, .iload_n 1, 1), (86, .iaload, 1), (87, .aload_n 0, 1)]
noncomputable def xi_106_3 : XIs := [(88, .getfield 18, 3), (91, .iload_n 1, 1), (92, .iaload, 1), (93, .invokevirtual 86, 3), (96, .iinc 1 1, 3), (99, .goto (-37), 3), (102, .iconst 1, 1), (103, .istore_n 1, 1), (104, .iload_n 1, 1), (105, .bipush 32, 2), (107, .if_icmp .gt 43, 3), (110, .aload_n 0, 1), (111, .getfield 39, 3), (114, .iload_n 1, 1), (115, .dup2, 1), (116, .iaload, 1)]
noncomputable def xi_106_4 : XIs := [(117, .aload_n 0, 1), (118, .getfield 39, 3), (121, .iload_n 1, 1), (122, .iconst 1, 1), (123, .isub, 1), (124, .iaload, 1), (125, .iadd, 1), (126, .iastore, 1), (127, .aload_n 0, 1), (128, .getfield 45, 3), (131, .iload_n 1, 1), (132, .dup2, 1), (133, .iaload, 1), (134, .aload_n 0, 1), (135, .getfield 45, 3), (138, .iload_n 1, 1)]
noncomputable def xi_106_5 : XIs := [(139, .iconst 1, 1), (140, .isub, 1), (141, .iaload, 1), (142, .iadd, 1), (143, .iastore, 1), (144, .iinc 1 1, 3), (147, .goto (-43), 3), (150, .aload_n 0, 1), (151, .getfield 70, 3), (154, .iconst 1, 1), (155, .isub, 1), (156, .istore_n 1, 1), (157, .iload_n 1, 1), (158, .ifCond .lt 83, 3), (161, .aload_n 0, 1), (162, .getfield 15, 3)]
noncomputable def xi_106_6 : XIs := [(165, .iload_n 1, 1), (166, .iaload, 1), (167, .iconst (-1), 1), (168, .if_icmp .eq 67, 3), (171, .aload_n 0, 1), (172, .getfield 39, 3), (175, .aload_n 0, 1), (176, .getfield 15, 3), (179, .iload_n 1, 1), (180, .iaload, 1), (181, .dup2, 1), (182, .iaload, 1), (183, .iconst 1, 1), (184, .isub, 1), (185, .iastore, 1), (186, .aload_n 0, 1)]
noncomputable def xi_106_7 : XIs := [(187, .getfield 42, 3), (190, .aload_n 0, 1), (191, .getfield 39, 3), (194, .aload_n 0, 1), (195, .getfield 15, 3), (198, .iload_n 1, 1), (199, .iaload, 1), (200, .iaload, 1), (201, .iload_n 1, 1), (202, .iastore, 1), (203, .aload_n 0, 1), (204, .getfield 45, 3), (207, .aload_n 0, 1), (208, .getfield 18, 3), (211, .iload_n 1, 1), (212, .iaload, 1)]
noncomputable def xi_106_8 : XIs := [(213, .dup2, 1), (214, .iaload, 1), (215, .iconst 1, 1), (216, .isub, 1), (217, .iastore, 1), (218, .aload_n 0, 1), (219, .getfield 48, 3), (222, .aload_n 0, 1), (223, .getfield 45, 3), (226, .aload_n 0, 1), (227, .getfield 18, 3), (230, .iload_n 1, 1), (231, .iaload, 1), (232, .iaload, 1), (233, .iload_n 1, 1), (234, .iastore, 1)]
noncomputable def xi_106_9 : XIs := [(235, .iinc 1 (-1), 3), (238, .goto (-81), 3), (241, .return_, 1)]
set_option maxRecDepth 100000 in
theorem xi_w106 : xi_ok cX3_tie (xi_106_0 ++ (xi_106_1 ++ (xi_106_2 ++ (xi_106_3 ++ (xi_106_4 ++ (xi_106_5 ++ (xi_106_6 ++ (xi_106_7 ++ (xi_106_8 ++ (xi_106_9)))))))))) = true := dl_all _ _ (by decide +kernel)
theorem xi_ok106_0 : xi_ok cX3_tie xi_106_0 = true := (xi_ap xi_w106).1
theorem xi_r106_1 : xi_ok cX3_tie (xi_106_1 ++ (xi_106_2 ++ (xi_106_3 ++ (xi_106_4 ++ (xi_106_5 ++ (xi_106_6 ++ (xi_106_7 ++ (xi_106_8 ++ (xi_106_9))))))))) = true := (xi_ap xi_w106).2
theorem xi_ok106_1 : xi_ok cX3_tie xi_106_1 = true := (xi_ap xi_r106_1).1
theorem xi_r106_2 : xi_ok cX3_tie (xi_106_2 ++ (xi_106_3 ++ (xi_106_4 ++ (xi_106_5 ++ (xi_106_6 ++ (xi_106_7 ++ (xi_106_8 ++ (xi_106_9)))))))) = true := (xi_ap xi_r106_1).2
theorem xi_ok106_2 : xi_ok cX3_tie xi_106_2 = true := (xi_ap xi_r106_2).1
theorem xi_r106_3 : xi_ok cX3_tie (xi_106_3 ++ (xi_106_4 ++ (xi_106_5 ++ (xi_106_6 ++ (xi_106_7 ++ (xi_106_8 ++ (xi_106_9))))))) = true := (xi_ap xi_r106_2).2
theorem xi_ok106_3 : xi_ok cX3_tie xi_106_3 = true := (xi_ap xi_r106_3).1
theorem xi_r106_4 : xi_ok cX3_tie (xi_106_4 ++ (xi_106_5 ++ (xi_106_6 ++ (xi_106_7 ++ (xi_106_8 ++ (xi_106_9)))))) = true := (xi_ap xi_r106_3).2
theorem xi_ok106_4 : xi_ok cX3_tie xi_106_4 = true := (xi_ap xi_r106_4).1
theorem xi_r106_5 : xi_ok cX3_tie (xi_106_5 ++ (xi_106_6 ++ (xi_106_7 ++ (xi_106_8 ++ (xi_106_9))))) = true := (xi_ap xi_r106_4).2
theorem xi_ok106_5 : xi_ok cX3_tie xi_106_5 = true := (xi_ap xi_r106_5).1
theorem xi_r106_6 : xi_ok cX3_tie (xi_106_6 ++ (xi_106_7 ++ (xi_106_8 ++ (xi_106_9)))) = true := (xi_ap xi_r106_5).2
theorem xi_ok106_6 : xi_ok cX3_tie xi_106_6 = true := (xi_ap xi_r106_6).1
theorem xi_r106_7 : xi_ok cX3_tie (xi_106_7 ++ (xi_106_8 ++ (xi_106_9))) = true := (xi_ap xi_r106_6).2
theorem xi_ok106_7 : xi_ok cX3_tie xi_106_7 = true := (xi_ap xi_r106_7).1
theorem xi_r106_8 : xi_ok cX3_tie (xi_106_8 ++ (xi_106_9)) = true := (xi_ap xi_r106_7).2
theorem xi_ok106_8 : xi_ok cX3_tie xi_106_8 = true := (xi_ap xi_r106_8).1
theorem xi_r106_9 : xi_ok cX3_tie (xi_106_9) = true := (xi_ap xi_r106_8).2
theorem xi_ok106_9 : xi_ok cX3_tie xi_106_9 = true := xi_r106_9
noncomputable def xi_106 (pc : Nat) : XIs := cond (Nat.blt pc 139) (cond (Nat.blt pc 62) (cond (Nat.blt pc 32) (xi_106_0) (xi_106_1)) (cond (Nat.blt pc 88) (xi_106_2) (cond (Nat.blt pc 117) (xi_106_3) (xi_106_4)))) (cond (Nat.blt pc 187) (cond (Nat.blt pc 165) (xi_106_5) (xi_106_6)) (cond (Nat.blt pc 213) (xi_106_7) (cond (Nat.blt pc 235) (xi_106_8) (xi_106_9))))
theorem xi_ok106 (pc : Nat) : xi_ok cX3_tie (xi_106 pc) = true := xi_c (xi_c (xi_c (xi_ok106_0) (xi_ok106_1)) (xi_c (xi_ok106_2) (xi_c (xi_ok106_3) (xi_ok106_4)))) (xi_c (xi_c (xi_ok106_5) (xi_ok106_6)) (xi_c (xi_ok106_7) (xi_c (xi_ok106_8) (xi_ok106_9))))
noncomputable def xi_107_0 : XIs := [(0, .aload_n 0, 1), (1, .getfield 39, 3), (4, .iload_n 1, 1), (5, .dup2, 1), (6, .iaload, 1), (7, .iconst 1, 1), (8, .iadd, 1), (9, .iastore, 1), (10, .aload_n 0, 1), (11, .getfield 45, 3), (14, .iload_n 2, 1), (15, .dup2, 1), (16, .iaload, 1), (17, .iconst 1, 1), (18, .iadd, 1), (19, .iastore, 1)]
noncomputable def xi_107_1 : XIs := [(20, .aload_n 0, 1), (21, .getfield 33, 3), (24, .iload_n 1, 1), (25, .dup2, 1), (26, .iaload, 1), (27, .iconst 1, 1), (28, .iload_n 2, 1), (29, .ishl, 1), (30, .ior, 1), (31, .iastore, 1), (32, .aload_n 0, 1), (33, .getfield 36, 3), (36, .iload_n 2, 1), (37, .dup2, 1), (38, .iaload, 1), (39, .iconst 1, 1)]
noncomputable def xi_107_2 : XIs := [(40, .iload_n 1, 1), (41, .ishl, 1), (42, .ior, 1), (43, .iastore, 1), (44, .iload_n 1, 1), (45, .iload_n 2, 1), (46, .if_icmp .eq 27, 3), (49, .aload_n 0, 1), (50, .getfield 30, 3), (53, .iload_n 1, 1), (54, .dup2, 1), (55, .iaload, 1), (56, .iconst 1, 1), (57, .iload_n 2, 1), (58, .ishl, 1), (59, .ior, 1)]
noncomputable def xi_107_3 : XIs := [(60, .iastore, 1), (61, .aload_n 0, 1), (62, .getfield 30, 3), (65, .iload_n 2, 1), (66, .dup2, 1), (67, .iaload, 1), (68, .iconst 1, 1), (69, .iload_n 1, 1), (70, .ishl, 1), (71, .ior, 1), (72, .iastore, 1), (73, .return_, 1)]
set_option maxRecDepth 100000 in
theorem xi_w107 : xi_ok cX3_tieEnds (xi_107_0 ++ (xi_107_1 ++ (xi_107_2 ++ (xi_107_3)))) = true := dl_all _ _ (by decide +kernel)
theorem xi_ok107_0 : xi_ok cX3_tieEnds xi_107_0 = true := (xi_ap xi_w107).1
theorem xi_r107_1 : xi_ok cX3_tieEnds (xi_107_1 ++ (xi_107_2 ++ (xi_107_3))) = true := (xi_ap xi_w107).2
theorem xi_ok107_1 : xi_ok cX3_tieEnds xi_107_1 = true := (xi_ap xi_r107_1).1
theorem xi_r107_2 : xi_ok cX3_tieEnds (xi_107_2 ++ (xi_107_3)) = true := (xi_ap xi_r107_1).2
theorem xi_ok107_2 : xi_ok cX3_tieEnds xi_107_2 = true := (xi_ap xi_r107_2).1
theorem xi_r107_3 : xi_ok cX3_tieEnds (xi_107_3) = true := (xi_ap xi_r107_2).2
theorem xi_ok107_3 : xi_ok cX3_tieEnds xi_107_3 = true := xi_r107_3
noncomputable def xi_107 (pc : Nat) : XIs := cond (Nat.blt pc 40) (cond (Nat.blt pc 20) (xi_107_0) (xi_107_1)) (cond (Nat.blt pc 60) (xi_107_2) (xi_107_3))
theorem xi_ok107 (pc : Nat) : xi_ok cX3_tieEnds (xi_107 pc) = true := xi_c (xi_c (xi_ok107_0) (xi_ok107_1)) (xi_c (xi_ok107_2) (xi_ok107_3))
noncomputable def xi_108_0 : XIs := [(0, .aload_n 0, 1), (1, .invokespecial 3, 3), (4, .aload_n 0, 1), (5, .iconst (-1), 1), (6, .putfield 9, 3), (9, .aload_n 0, 1), (10, .bipush 32, 2), (12, .newarray .long, 2), (14, .putfield 15, 3), (17, .aload_n 0, 1), (18, .bipush 32, 2), (20, .newarray .long, 2), (22, .putfield 19, 3), (25, .aload_n 0, 1), (26, .iconst (-1), 1), (27, .putfield 22, 3)]
noncomputable def xi_108_1 : XIs := [(30, .aload_n 0, 1), (31, .bipush 32, 2), (33, .newarray .int, 2), (35, .putfield 25, 3), (38, .aload_n 0, 1), (39, .bipush 32, 2), (41, .newarray .int, 2), (43, .putfield 29, 3), (46, .aload_n 0, 1), (47, .bipush 32, 2), (49, .newarray .int, 2), (51, .putfield 32, 3), (54, .aload_n 0, 1), (55, .bipush 32, 2), (57, .newarray .int, 2), (59, .putfield 35, 3)]
noncomputable def xi_108_2 : XIs := [(62, .aload_n 0, 1), (63, .bipush 32, 2), (65, .newarray .int, 2), (67, .putfield 38, 3), (70, .return_, 1)]
set_option maxRecDepth 100000 in
theorem xi_w108 : xi_ok cX4_init (xi_108_0 ++ (xi_108_1 ++ (xi_108_2))) = true := dl_all _ _ (by decide +kernel)
theorem xi_ok108_0 : xi_ok cX4_init xi_108_0 = true := (xi_ap xi_w108).1
theorem xi_r108_1 : xi_ok cX4_init (xi_108_1 ++ (xi_108_2)) = true := (xi_ap xi_w108).2
theorem xi_ok108_1 : xi_ok cX4_init xi_108_1 = true := (xi_ap xi_r108_1).1
theorem xi_r108_2 : xi_ok cX4_init (xi_108_2) = true := (xi_ap xi_r108_1).2
theorem xi_ok108_2 : xi_ok cX4_init xi_108_2 = true := xi_r108_2
noncomputable def xi_108 (pc : Nat) : XIs := cond (Nat.blt pc 30) (xi_108_0) (cond (Nat.blt pc 62) (xi_108_1) (xi_108_2))
theorem xi_ok108 (pc : Nat) : xi_ok cX4_init (xi_108 pc) = true := xi_c (xi_ok108_0) (xi_c (xi_ok108_1) (xi_ok108_2))
noncomputable def xi_109_0 : XIs := [(0, .aload_n 0, 1), (1, .getfield 9, 3), (4, .aload_n 1, 1), (5, .getfield 41, 3), (8, .if_icmp .ne 11, 3), (11, .iload_n 3, 1), (12, .aload_n 0, 1), (13, .getfield 46, 3), (16, .if_icmp .ge 26, 3), (19, .aload_n 0, 1), (20, .aload_n 1, 1), (21, .getfield 41, 3), (24, .putfield 9, 3), (27, .aload_n 0, 1), (28, .iconst 0, 1), (29, .putfield 46, 3)]
noncomputable def xi_109_1 : XIs := [(32, .aload_n 0, 1), (33, .getfield 15, 3), (36, .ldc2_w 49, 3), (39, .invokestatic 51, 3), (42, .aload_n 1, 1), (43, .invokevirtual 57, 3), (46, .aload_n 0, 1), (47, .getfield 46, 3), (50, .iload_n 3, 1), (51, .if_icmp .ge 21, 3), (54, .aload_n 0, 1), (55, .aload_n 1, 1), (56, .invokevirtual 60, 3), (59, .aload_n 0, 1), (60, .dup, 1), (61, .getfield 46, 3)]
noncomputable def xi_109_2 : XIs := [(64, .iconst 1, 1), (65, .iadd, 1), (66, .putfield 46, 3), (69, .goto (-23), 3), (72, .aload_n 0, 1), (73, .getfield 15, 3), (76, .iload_n 2, 1), (77, .laload, 1), (78, .lreturn, 1)]
set_option maxRecDepth 100000 in
theorem xi_w109 : xi_ok cX4_unitsOf (xi_109_0 ++ (xi_109_1 ++ (xi_109_2))) = true := dl_all _ _ (by decide +kernel)
theorem xi_ok109_0 : xi_ok cX4_unitsOf xi_109_0 = true := (xi_ap xi_w109).1
theorem xi_r109_1 : xi_ok cX4_unitsOf (xi_109_1 ++ (xi_109_2)) = true := (xi_ap xi_w109).2
theorem xi_ok109_1 : xi_ok cX4_unitsOf xi_109_1 = true := (xi_ap xi_r109_1).1
theorem xi_r109_2 : xi_ok cX4_unitsOf (xi_109_2) = true := (xi_ap xi_r109_1).2
theorem xi_ok109_2 : xi_ok cX4_unitsOf xi_109_2 = true := xi_r109_2
noncomputable def xi_109 (pc : Nat) : XIs := cond (Nat.blt pc 32) (xi_109_0) (cond (Nat.blt pc 64) (xi_109_1) (xi_109_2))
theorem xi_ok109 (pc : Nat) : xi_ok cX4_unitsOf (xi_109 pc) = true := xi_c (xi_ok109_0) (xi_c (xi_ok109_1) (xi_ok109_2))
noncomputable def xi_110_0 : XIs := [(0, .lconst 0, 1), (1, .lstore_n 2, 1), (2, .aload_n 0, 1), (3, .getfield 19, 3), (6, .lconst 0, 1), (7, .invokestatic 51, 3), (10, .iconst 0, 1), (11, .istore 4, 2), (13, .iload 4, 2), (15, .aload_n 1, 1), (16, .getfield 64, 3), (19, .if_icmp .ge 115, 3), (22, .aload_n 1, 1), (23, .iload 4, 2), (25, .invokevirtual 67, 3), (28, .istore 5, 2)]
noncomputable def xi_110_1 : XIs := [(30, .iload 5, 2), (32, .ifCond .ne 7, 3), (35, .lconst 0, 1), (36, .goto 22, 3), (39, .aload_n 0, 1), (40, .getfield 15, 3), (43, .iload 4, 2), (45, .laload, 1), (46, .ldc2_w 71, 3), (49, .lmul, 1), (50, .ldc2_w 73, 3), (53, .iload 5, 2), (55, .i2l, 1), (56, .lmul, 1), (57, .ldiv, 1), (58, .lstore 6, 2)]
noncomputable def xi_110_2 : XIs := [(60, .aload_n 1, 1), (61, .getfield 75, 3), (64, .iload 4, 2), (66, .iaload, 1), (67, .istore 8, 2), (69, .iload 8, 2), (71, .aload_n 1, 1), (72, .getfield 75, 3), (75, .iload 4, 2), (77, .iconst 1, 1), (78, .iadd, 1), (79, .iaload, 1), (80, .if_icmp .ge 31, 3), (83, .aload_n 0, 1), (84, .getfield 19, 3), (87, .aload_n 1, 1)]
noncomputable def xi_110_3 : XIs := [(88, .getfield 78, 3), (91, .aload_n 1, 1), (92, .getfield 81, 3), (95, .iload 8, 2), (97, .iaload, 1), (98, .iaload, 1), (99, .dup2, 1), (100, .laload, 1), (101, .lload 6, 2), (103, .ladd, 1), (104, .lastore, 1), (105, .iinc 8 1, 3), (108, .goto (-39), 3), (111, .lload_n 2, 1), (112, .aload_n 0, 1), (113, .getfield 15, 3)]
noncomputable def xi_110_4 : XIs := [(116, .iload 4, 2), (118, .laload, 1), (119, .lload 6, 2), (121, .iload 5, 2), (123, .i2l, 1), (124, .lmul, 1), (125, .lsub, 1), (126, .ladd, 1), (127, .lstore_n 2, 1), (128, .iinc 4 1, 3), (131, .goto (-118), 3), (134, .iconst 0, 1), (135, .istore 4, 2), (137, .iload 4, 2), (139, .aload_n 1, 1), (140, .getfield 64, 3)]
noncomputable def xi_110_5 : XIs := [(143, .if_icmp .ge 46, 3), (146, .aload_n 0, 1), (147, .getfield 19, 3), (150, .iload 4, 2), (152, .dup2, 1), (153, .laload, 1), (154, .lload_n 2, 1), (155, .aload_n 1, 1), (156, .getfield 64, 3), (159, .i2l, 1), (160, .ldiv, 1), (161, .iload 4, 2), (163, .i2l, 1), (164, .lload_n 2, 1), (165, .aload_n 1, 1), (166, .getfield 64, 3)]
noncomputable def xi_110_6 : XIs := [(169, .i2l, 1), (170, .lrem, 1), (171, .lcmp, 1), (172, .ifCond .ge 7, 3), (175, .lconst 1, 1), (176, .goto 4, 3), (179, .lconst 0, 1), (180, .ladd, 1), (181, .ladd, 1), (182, .lastore, 1), (183, .iinc 4 1, 3), (186, .goto (-49), 3), (189, .aload_n 0, 1), (190, .getfield 15, 3), (193, .astore 4, 2), (195, .aload_n 0, 1)]
noncomputable def xi_110_7 : XIs := [(196, .aload_n 0, 1), (197, .getfield 19, 3), (200, .putfield 15, 3), (203, .aload_n 0, 1), (204, .aload 4, 2), (206, .putfield 19, 3), (209, .return_, 1)]
set_option maxRecDepth 100000 in
theorem xi_w110 : xi_ok cX4_shareOut (xi_110_0 ++ (xi_110_1 ++ (xi_110_2 ++ (xi_110_3 ++ (xi_110_4 ++ (xi_110_5 ++ (xi_110_6 ++ (xi_110_7)))))))) = true := dl_all _ _ (by decide +kernel)
theorem xi_ok110_0 : xi_ok cX4_shareOut xi_110_0 = true := (xi_ap xi_w110).1
theorem xi_r110_1 : xi_ok cX4_shareOut (xi_110_1 ++ (xi_110_2 ++ (xi_110_3 ++ (xi_110_4 ++ (xi_110_5 ++ (xi_110_6 ++ (xi_110_7))))))) = true := (xi_ap xi_w110).2
theorem xi_ok110_1 : xi_ok cX4_shareOut xi_110_1 = true := (xi_ap xi_r110_1).1
theorem xi_r110_2 : xi_ok cX4_shareOut (xi_110_2 ++ (xi_110_3 ++ (xi_110_4 ++ (xi_110_5 ++ (xi_110_6 ++ (xi_110_7)))))) = true := (xi_ap xi_r110_1).2
theorem xi_ok110_2 : xi_ok cX4_shareOut xi_110_2 = true := (xi_ap xi_r110_2).1
theorem xi_r110_3 : xi_ok cX4_shareOut (xi_110_3 ++ (xi_110_4 ++ (xi_110_5 ++ (xi_110_6 ++ (xi_110_7))))) = true := (xi_ap xi_r110_2).2
theorem xi_ok110_3 : xi_ok cX4_shareOut xi_110_3 = true := (xi_ap xi_r110_3).1
theorem xi_r110_4 : xi_ok cX4_shareOut (xi_110_4 ++ (xi_110_5 ++ (xi_110_6 ++ (xi_110_7)))) = true := (xi_ap xi_r110_3).2
theorem xi_ok110_4 : xi_ok cX4_shareOut xi_110_4 = true := (xi_ap xi_r110_4).1
theorem xi_r110_5 : xi_ok cX4_shareOut (xi_110_5 ++ (xi_110_6 ++ (xi_110_7))) = true := (xi_ap xi_r110_4).2
theorem xi_ok110_5 : xi_ok cX4_shareOut xi_110_5 = true := (xi_ap xi_r110_5).1
theorem xi_r110_6 : xi_ok cX4_shareOut (xi_110_6 ++ (xi_110_7)) = true := (xi_ap xi_r110_5).2
theorem xi_ok110_6 : xi_ok cX4_shareOut xi_110_6 = true := (xi_ap xi_r110_6).1
theorem xi_r110_7 : xi_ok cX4_shareOut (xi_110_7) = true := (xi_ap xi_r110_6).2
theorem xi_ok110_7 : xi_ok cX4_shareOut xi_110_7 = true := xi_r110_7
noncomputable def xi_110 (pc : Nat) : XIs := cond (Nat.blt pc 116) (cond (Nat.blt pc 60) (cond (Nat.blt pc 30) (xi_110_0) (xi_110_1)) (cond (Nat.blt pc 88) (xi_110_2) (xi_110_3))) (cond (Nat.blt pc 169) (cond (Nat.blt pc 143) (xi_110_4) (xi_110_5)) (cond (Nat.blt pc 196) (xi_110_6) (xi_110_7)))
theorem xi_ok110 (pc : Nat) : xi_ok cX4_shareOut (xi_110 pc) = true := xi_c (xi_c (xi_c (xi_ok110_0) (xi_ok110_1)) (xi_c (xi_ok110_2) (xi_ok110_3))) (xi_c (xi_c (xi_ok110_4) (xi_ok110_5)) (xi_c (xi_ok110_6) (xi_ok110_7)))
noncomputable def xi_111_0 : XIs := [(0, .aload_n 0, 1), (1, .aload_n 1, 1), (2, .invokevirtual 84, 3), (5, .aload_n 0, 1), (6, .getfield 29, 3), (9, .aload_n 0, 1), (10, .getfield 25, 3), (13, .iload_n 2, 1), (14, .iaload, 1), (15, .iaload, 1), (16, .invokestatic 87, 3), (19, .ireturn, 1)]
set_option maxRecDepth 100000 in
theorem xi_w111 : xi_ok cX4_groupOf (xi_111_0) = true := dl_all _ _ (by decide +kernel)
theorem xi_ok111_0 : xi_ok cX4_groupOf xi_111_0 = true := xi_w111
noncomputable def xi_111 (pc : Nat) : XIs := xi_111_0
theorem xi_ok111 (pc : Nat) : xi_ok cX4_groupOf (xi_111 pc) = true := xi_ok111_0
noncomputable def xi_112_0 : XIs := [(0, .aload_n 0, 1), (1, .aload_n 1, 1), (2, .invokevirtual 84, 3), (5, .lconst 0, 1), (6, .lstore_n 2, 1), (7, .iconst 0, 1), (8, .istore 4, 2), (10, .iload 4, 2), (12, .aload_n 1, 1), (13, .getfield 90, 3), (16, .if_icmp .ge 57, 3), (19, .aload_n 1, 1), (20, .iload 4, 2), (22, .invokevirtual 93, 3), (25, .ifCond .eq 42, 3), (28, .aload_n 0, 1)]
noncomputable def xi_112_1 : XIs := [(29, .getfield 25, 3), (32, .aload_n 1, 1), (33, .getfield 97, 3), (36, .iload 4, 2), (38, .iaload, 1), (39, .iaload, 1), (40, .aload_n 0, 1), (41, .getfield 25, 3), (44, .aload_n 1, 1), (45, .getfield 78, 3), (48, .iload 4, 2), (50, .iaload, 1), (51, .iaload, 1), (52, .if_icmp .ne 15, 3), (55, .lload_n 2, 1), (56, .ldc2_w 100, 3)]
noncomputable def xi_112_2 : XIs := [(59, .aload_n 0, 1), (60, .getfield 102, 3), (63, .i2l, 1), (64, .lmul, 1), (65, .ladd, 1), (66, .lstore_n 2, 1), (67, .iinc 4 1, 3), (70, .goto (-60), 3), (73, .iconst 0, 1), (74, .istore 4, 2), (76, .iload 4, 2), (78, .aload_n 1, 1), (79, .getfield 64, 3), (82, .if_icmp .ge 42, 3), (85, .lload_n 2, 1), (86, .aload_n 0, 1)]
noncomputable def xi_112_3 : XIs := [(87, .getfield 32, 3), (90, .iload 4, 2), (92, .iaload, 1), (93, .i2l, 1), (94, .aload_n 0, 1), (95, .getfield 35, 3), (98, .aload_n 0, 1), (99, .getfield 25, 3), (102, .iload 4, 2), (104, .iaload, 1), (105, .iaload, 1), (106, .aload_n 0, 1), (107, .getfield 32, 3), (110, .iload 4, 2), (112, .iaload, 1), (113, .isub, 1)]
noncomputable def xi_112_4 : XIs := [(114, .i2l, 1), (115, .lmul, 1), (116, .lsub, 1), (117, .lstore_n 2, 1), (118, .iinc 4 1, 3), (121, .goto (-45), 3), (124, .lload_n 2, 1), (125, .lreturn, 1)]
set_option maxRecDepth 100000 in
theorem xi_w112 : xi_ok cX4_totalGain (xi_112_0 ++ (xi_112_1 ++ (xi_112_2 ++ (xi_112_3 ++ (xi_112_4))))) = true := dl_all _ _ (by decide +kernel)
theorem xi_ok112_0 : xi_ok cX4_totalGain xi_112_0 = true := (xi_ap xi_w112).1
theorem xi_r112_1 : xi_ok cX4_totalGain (xi_112_1 ++ (xi_112_2 ++ (xi_112_3 ++ (xi_112_4)))) = true := (xi_ap xi_w112).2
theorem xi_ok112_1 : xi_ok cX4_totalGain xi_112_1 = true := (xi_ap xi_r112_1).1
theorem xi_r112_2 : xi_ok cX4_totalGain (xi_112_2 ++ (xi_112_3 ++ (xi_112_4))) = true := (xi_ap xi_r112_1).2
theorem xi_ok112_2 : xi_ok cX4_totalGain xi_112_2 = true := (xi_ap xi_r112_2).1
theorem xi_r112_3 : xi_ok cX4_totalGain (xi_112_3 ++ (xi_112_4)) = true := (xi_ap xi_r112_2).2
theorem xi_ok112_3 : xi_ok cX4_totalGain xi_112_3 = true := (xi_ap xi_r112_3).1
theorem xi_r112_4 : xi_ok cX4_totalGain (xi_112_4) = true := (xi_ap xi_r112_3).2
theorem xi_ok112_4 : xi_ok cX4_totalGain xi_112_4 = true := xi_r112_4
noncomputable def xi_112 (pc : Nat) : XIs := cond (Nat.blt pc 59) (cond (Nat.blt pc 29) (xi_112_0) (xi_112_1)) (cond (Nat.blt pc 87) (xi_112_2) (cond (Nat.blt pc 114) (xi_112_3) (xi_112_4)))
theorem xi_ok112 (pc : Nat) : xi_ok cX4_totalGain (xi_112 pc) = true := xi_c (xi_c (xi_ok112_0) (xi_ok112_1)) (xi_c (xi_ok112_2) (xi_c (xi_ok112_3) (xi_ok112_4)))
noncomputable def xi_113_0 : XIs := [(0, .aload_n 0, 1), (1, .getfield 22, 3), (4, .aload_n 1, 1), (5, .getfield 41, 3), (8, .if_icmp .ne 4, 3), (11, .return_, 1), (12, .aload_n 0, 1), (13, .aload_n 1, 1), (14, .getfield 41, 3), (17, .putfield 22, 3), (20, .aload_n 0, 1), (21, .aload_n 1, 1), (22, .invokevirtual 105, 3), (25, .iconst 1, 1), (26, .istore_n 2, 1), (27, .iconst 0, 1)]
noncomputable def xi_113_1 : XIs := [(28, .istore_n 3, 1), (29, .iload_n 3, 1), (30, .bipush 20, 2), (32, .if_icmp .ge 43, 3), (35, .iload_n 2, 1), (36, .ifCond .eq 39, 3), (39, .iconst 0, 1), (40, .istore_n 2, 1), (41, .iconst 0, 1), (42, .istore 4, 2), (44, .iload 4, 2), (46, .aload_n 1, 1), (47, .getfield 64, 3), (50, .if_icmp .ge 19, 3), (53, .iload_n 2, 1), (54, .aload_n 0, 1)]
noncomputable def xi_113_2 : XIs := [(55, .aload_n 1, 1), (56, .iload 4, 2), (58, .invokevirtual 108, 3), (61, .ior, 1), (62, .istore_n 2, 1), (63, .iinc 4 1, 3), (66, .goto (-22), 3), (69, .iinc 3 1, 3), (72, .goto (-43), 3), (75, .return_, 1)]
set_option maxRecDepth 100000 in
theorem xi_w113 : xi_ok cX4_settle (xi_113_0 ++ (xi_113_1 ++ (xi_113_2))) = true := dl_all _ _ (by decide +kernel)
theorem xi_ok113_0 : xi_ok cX4_settle xi_113_0 = true := (xi_ap xi_w113).1
theorem xi_r113_1 : xi_ok cX4_settle (xi_113_1 ++ (xi_113_2)) = true := (xi_ap xi_w113).2
theorem xi_ok113_1 : xi_ok cX4_settle xi_113_1 = true := (xi_ap xi_r113_1).1
theorem xi_r113_2 : xi_ok cX4_settle (xi_113_2) = true := (xi_ap xi_r113_1).2
theorem xi_ok113_2 : xi_ok cX4_settle xi_113_2 = true := xi_r113_2
noncomputable def xi_113 (pc : Nat) : XIs := cond (Nat.blt pc 28) (xi_113_0) (cond (Nat.blt pc 55) (xi_113_1) (xi_113_2))
theorem xi_ok113 (pc : Nat) : xi_ok cX4_settle (xi_113 pc) = true := xi_c (xi_ok113_0) (xi_c (xi_ok113_1) (xi_ok113_2))
noncomputable def xi_114_0 : XIs := [(0, .aload_n 1, 1), (1, .invokevirtual 57, 3), (4, .aload_n 0, 1), (5, .aload_n 1, 1), (6, .invokevirtual 112, 3), (9, .putfield 102, 3), (12, .aload_n 1, 1), (13, .aload_n 0, 1), (14, .getfield 32, 3), (17, .invokevirtual 115, 3), (20, .aload_n 0, 1), (21, .getfield 29, 3), (24, .iconst 0, 1), (25, .invokestatic 119, 3), (28, .iconst 0, 1), (29, .istore_n 2, 1)]
noncomputable def xi_114_1 : XIs := [(30, .iload_n 2, 1), (31, .aload_n 1, 1), (32, .getfield 64, 3), (35, .if_icmp .ge 37, 3), (38, .aload_n 0, 1), (39, .getfield 25, 3), (42, .iload_n 2, 1), (43, .iload_n 2, 1), (44, .iastore, 1), (45, .aload_n 0, 1), (46, .getfield 29, 3), (49, .iload_n 2, 1), (50, .iconst 1, 1), (51, .iload_n 2, 1), (52, .ishl, 1), (53, .iastore, 1)]
noncomputable def xi_114_2 : XIs := [(54, .aload_n 0, 1), (55, .getfield 35, 3), (58, .iload_n 2, 1), (59, .aload_n 0, 1), (60, .getfield 32, 3), (63, .iload_n 2, 1), (64, .iaload, 1), (65, .iastore, 1), (66, .iinc 2 1, 3), (69, .goto (-39), 3), (72, .return_, 1)]
set_option maxRecDepth 100000 in
theorem xi_w114 : xi_ok cX4_begin (xi_114_0 ++ (xi_114_1 ++ (xi_114_2))) = true := dl_all _ _ (by decide +kernel)
theorem xi_ok114_0 : xi_ok cX4_begin xi_114_0 = true := (xi_ap xi_w114).1
theorem xi_r114_1 : xi_ok cX4_begin (xi_114_1 ++ (xi_114_2)) = true := (xi_ap xi_w114).2
theorem xi_ok114_1 : xi_ok cX4_begin xi_114_1 = true := (xi_ap xi_r114_1).1
theorem xi_r114_2 : xi_ok cX4_begin (xi_114_2) = true := (xi_ap xi_r114_1).2
theorem xi_ok114_2 : xi_ok cX4_begin xi_114_2 = true := xi_r114_2
noncomputable def xi_114 (pc : Nat) : XIs := cond (Nat.blt pc 30) (xi_114_0) (cond (Nat.blt pc 54) (xi_114_1) (xi_114_2))
theorem xi_ok114 (pc : Nat) : xi_ok cX4_begin (xi_114 pc) = true := xi_c (xi_ok114_0) (xi_c (xi_ok114_1) (xi_ok114_2))
noncomputable def xi_115_0 : XIs := [(0, .aload_n 0, 1), (1, .aload_n 1, 1), (2, .iload_n 2, 1), (3, .invokevirtual 122, 3), (6, .aload_n 0, 1), (7, .getfield 25, 3), (10, .iload_n 2, 1), (11, .iaload, 1), (12, .istore_n 3, 1), (13, .aload_n 0, 1), (14, .iload_n 2, 1), (15, .iload_n 3, 1), (16, .invokevirtual 126, 3), (19, .lstore 4, 2), (21, .iconst (-1), 1), (22, .istore 6, 2)]
noncomputable def xi_115_1 : XIs := [(24, .iconst 0, 1), (25, .istore 7, 2), (27, .aload_n 1, 1), (28, .getfield 130, 3), (31, .iload_n 2, 1), (32, .iaload, 1), (33, .istore 8, 2), (35, .iload 8, 2), (37, .ifCond .eq 79, 3), (40, .aload_n 0, 1), (41, .getfield 25, 3), (44, .iload 8, 2), (46, .invokestatic 87, 3), (49, .iaload, 1), (50, .istore 9, 2), (52, .iload 9, 2)]
noncomputable def xi_115_2 : XIs := [(54, .iload_n 3, 1), (55, .if_icmp .eq 49, 3), (58, .iload 7, 2), (60, .iload 9, 2), (62, .ishr, 1), (63, .iconst 1, 1), (64, .iand, 1), (65, .ifCond .ne 39, 3), (68, .iload 7, 2), (70, .iconst 1, 1), (71, .iload 9, 2), (73, .ishl, 1), (74, .ior, 1), (75, .istore 7, 2), (77, .iload 6, 2), (79, .iconst (-1), 1)]
noncomputable def xi_115_3 : XIs := [(80, .if_icmp .eq 15, 3), (83, .aload_n 0, 1), (84, .iload_n 2, 1), (85, .iload 9, 2), (87, .iload 6, 2), (89, .invokevirtual 133, 3), (92, .ifCond .eq 8, 3), (95, .iload 9, 2), (97, .goto 5, 3), (100, .iload 6, 2), (102, .istore 6, 2), (104, .iload 8, 2), (106, .iload 8, 2), (108, .iconst 1, 1), (109, .isub, 1), (110, .iand, 1)]
noncomputable def xi_115_4 : XIs := [(111, .istore 8, 2), (113, .goto (-78), 3), (116, .iload 6, 2), (118, .iconst (-1), 1), (119, .if_icmp .eq 15, 3), (122, .aload_n 0, 1), (123, .iload_n 2, 1), (124, .iload 6, 2), (126, .invokevirtual 126, 3), (129, .lconst 0, 1), (130, .lcmp, 1), (131, .ifCond .ge 28, 3), (134, .lconst 0, 1), (135, .lload 4, 2), (137, .lcmp, 1), (138, .ifCond .le 19, 3)]
noncomputable def xi_115_5 : XIs := [(141, .aload_n 0, 1), (142, .iload_n 2, 1), (143, .aload_n 0, 1), (144, .invokevirtual 137, 3), (147, .invokevirtual 140, 3), (150, .ifCond .eq 7, 3), (153, .iconst 1, 1), (154, .goto 4, 3), (157, .iconst 0, 1), (158, .ireturn, 1), (159, .aload_n 0, 1), (160, .iload_n 2, 1), (161, .iload 6, 2), (163, .invokevirtual 126, 3), (166, .lload 4, 2), (168, .lcmp, 1)]
noncomputable def xi_115_6 : XIs := [(169, .ifCond .le 17, 3), (172, .aload_n 0, 1), (173, .iload_n 2, 1), (174, .iload 6, 2), (176, .invokevirtual 140, 3), (179, .ifCond .eq 7, 3), (182, .iconst 1, 1), (183, .goto 4, 3), (186, .iconst 0, 1), (187, .ireturn, 1)]
set_option maxRecDepth 100000 in
theorem xi_w115 : xi_ok cX4_settleNode (xi_115_0 ++ (xi_115_1 ++ (xi_115_2 ++ (xi_115_3 ++ (xi_115_4 ++ (xi_115_5 ++ (xi_115_6))))))) = true := dl_all _ _ (by decide +kernel)
theorem xi_ok115_0 : xi_ok cX4_settleNode xi_115_0 = true := (xi_ap xi_w115).1
theorem xi_r115_1 : xi_ok cX4_settleNode (xi_115_1 ++ (xi_115_2 ++ (xi_115_3 ++ (xi_115_4 ++ (xi_115_5 ++ (xi_115_6)))))) = true := (xi_ap xi_w115).2
theorem xi_ok115_1 : xi_ok cX4_settleNode xi_115_1 = true := (xi_ap xi_r115_1).1
theorem xi_r115_2 : xi_ok cX4_settleNode (xi_115_2 ++ (xi_115_3 ++ (xi_115_4 ++ (xi_115_5 ++ (xi_115_6))))) = true := (xi_ap xi_r115_1).2
theorem xi_ok115_2 : xi_ok cX4_settleNode xi_115_2 = true := (xi_ap xi_r115_2).1
theorem xi_r115_3 : xi_ok cX4_settleNode (xi_115_3 ++ (xi_115_4 ++ (xi_115_5 ++ (xi_115_6)))) = true := (xi_ap xi_r115_2).2
theorem xi_ok115_3 : xi_ok cX4_settleNode xi_115_3 = true := (xi_ap xi_r115_3).1
theorem xi_r115_4 : xi_ok cX4_settleNode (xi_115_4 ++ (xi_115_5 ++ (xi_115_6))) = true := (xi_ap xi_r115_3).2
theorem xi_ok115_4 : xi_ok cX4_settleNode xi_115_4 = true := (xi_ap xi_r115_4).1
theorem xi_r115_5 : xi_ok cX4_settleNode (xi_115_5 ++ (xi_115_6)) = true := (xi_ap xi_r115_4).2
theorem xi_ok115_5 : xi_ok cX4_settleNode xi_115_5 = true := (xi_ap xi_r115_5).1
theorem xi_r115_6 : xi_ok cX4_settleNode (xi_115_6) = true := (xi_ap xi_r115_5).2
theorem xi_ok115_6 : xi_ok cX4_settleNode xi_115_6 = true := xi_r115_6
noncomputable def xi_115 (pc : Nat) : XIs := cond (Nat.blt pc 80) (cond (Nat.blt pc 24) (xi_115_0) (cond (Nat.blt pc 54) (xi_115_1) (xi_115_2))) (cond (Nat.blt pc 141) (cond (Nat.blt pc 111) (xi_115_3) (xi_115_4)) (cond (Nat.blt pc 169) (xi_115_5) (xi_115_6)))
theorem xi_ok115 (pc : Nat) : xi_ok cX4_settleNode (xi_115 pc) = true := xi_c (xi_c (xi_ok115_0) (xi_c (xi_ok115_1) (xi_ok115_2))) (xi_c (xi_c (xi_ok115_3) (xi_ok115_4)) (xi_c (xi_ok115_5) (xi_ok115_6)))
noncomputable def xi_116_0 : XIs := [(0, .aload_n 0, 1), (1, .iload_n 1, 1), (2, .iload_n 2, 1), (3, .invokevirtual 126, 3), (6, .aload_n 0, 1), (7, .iload_n 1, 1), (8, .iload_n 3, 1), (9, .invokevirtual 126, 3), (12, .lsub, 1), (13, .lstore 4, 2), (15, .lload 4, 2), (17, .lconst 0, 1), (18, .lcmp, 1), (19, .ifCond .gt 31, 3), (22, .lload 4, 2), (24, .lconst 0, 1)]
noncomputable def xi_116_1 : XIs := [(25, .lcmp, 1), (26, .ifCond .ne 28, 3), (29, .aload_n 0, 1), (30, .getfield 29, 3), (33, .iload_n 2, 1), (34, .iaload, 1), (35, .invokestatic 87, 3), (38, .aload_n 0, 1), (39, .getfield 29, 3), (42, .iload_n 3, 1), (43, .iaload, 1), (44, .invokestatic 87, 3), (47, .if_icmp .ge 7, 3), (50, .iconst 1, 1), (51, .goto 4, 3), (54, .iconst 0, 1)]
noncomputable def xi_116_2 : XIs := [(55, .ireturn, 1)]
set_option maxRecDepth 100000 in
theorem xi_w116 : xi_ok cX4_isBetter (xi_116_0 ++ (xi_116_1 ++ (xi_116_2))) = true := dl_all _ _ (by decide +kernel)
theorem xi_ok116_0 : xi_ok cX4_isBetter xi_116_0 = true := (xi_ap xi_w116).1
theorem xi_r116_1 : xi_ok cX4_isBetter (xi_116_1 ++ (xi_116_2)) = true := (xi_ap xi_w116).2
theorem xi_ok116_1 : xi_ok cX4_isBetter xi_116_1 = true := (xi_ap xi_r116_1).1
theorem xi_r116_2 : xi_ok cX4_isBetter (xi_116_2) = true := (xi_ap xi_r116_1).2
theorem xi_ok116_2 : xi_ok cX4_isBetter xi_116_2 = true := xi_r116_2
noncomputable def xi_116 (pc : Nat) : XIs := cond (Nat.blt pc 25) (xi_116_0) (cond (Nat.blt pc 55) (xi_116_1) (xi_116_2))
theorem xi_ok116 (pc : Nat) : xi_ok cX4_isBetter (xi_116 pc) = true := xi_c (xi_ok116_0) (xi_c (xi_ok116_1) (xi_ok116_2))
noncomputable def xi_117_0 : XIs := [(0, .aload_n 0, 1), (1, .getfield 38, 3), (4, .iconst 0, 1), (5, .invokestatic 119, 3), (8, .aload_n 1, 1), (9, .getfield 75, 3), (12, .iload_n 2, 1), (13, .iaload, 1), (14, .istore_n 3, 1), (15, .iload_n 3, 1), (16, .aload_n 1, 1), (17, .getfield 75, 3), (20, .iload_n 2, 1), (21, .iconst 1, 1), (22, .iadd, 1), (23, .iaload, 1)]
noncomputable def xi_117_1 : XIs := [(24, .if_icmp .ge 34, 3), (27, .aload_n 0, 1), (28, .getfield 38, 3), (31, .aload_n 0, 1), (32, .getfield 25, 3), (35, .aload_n 1, 1), (36, .getfield 78, 3), (39, .aload_n 1, 1), (40, .getfield 81, 3), (43, .iload_n 3, 1), (44, .iaload, 1), (45, .iaload, 1), (46, .iaload, 1), (47, .dup2, 1), (48, .iaload, 1), (49, .iconst 1, 1)]
noncomputable def xi_117_2 : XIs := [(50, .iadd, 1), (51, .iastore, 1), (52, .iinc 3 1, 3), (55, .goto (-40), 3), (58, .aload_n 1, 1), (59, .getfield 144, 3), (62, .iload_n 2, 1), (63, .iaload, 1), (64, .istore_n 3, 1), (65, .iload_n 3, 1), (66, .aload_n 1, 1), (67, .getfield 144, 3), (70, .iload_n 2, 1), (71, .iconst 1, 1), (72, .iadd, 1), (73, .iaload, 1)]
noncomputable def xi_117_3 : XIs := [(74, .if_icmp .ge 34, 3), (77, .aload_n 0, 1), (78, .getfield 38, 3), (81, .aload_n 0, 1), (82, .getfield 25, 3), (85, .aload_n 1, 1), (86, .getfield 97, 3), (89, .aload_n 1, 1), (90, .getfield 147, 3), (93, .iload_n 3, 1), (94, .iaload, 1), (95, .iaload, 1), (96, .iaload, 1), (97, .dup2, 1), (98, .iaload, 1), (99, .iconst 1, 1)]
noncomputable def xi_117_4 : XIs := [(100, .iadd, 1), (101, .iastore, 1), (102, .iinc 3 1, 3), (105, .goto (-40), 3), (108, .aload_n 1, 1), (109, .getfield 75, 3), (112, .iload_n 2, 1), (113, .iaload, 1), (114, .istore_n 3, 1), (115, .iload_n 3, 1), (116, .aload_n 1, 1), (117, .getfield 75, 3), (120, .iload_n 2, 1), (121, .iconst 1, 1), (122, .iadd, 1), (123, .iaload, 1)]
noncomputable def xi_117_5 : XIs := [(124, .if_icmp .ge 39, 3), (127, .aload_n 1, 1), (128, .getfield 78, 3), (131, .aload_n 1, 1), (132, .getfield 81, 3), (135, .iload_n 3, 1), (136, .iaload, 1), (137, .iaload, 1), (138, .iload_n 2, 1), (139, .if_icmp .ne 18, 3), (142, .aload_n 0, 1), (143, .getfield 38, 3), (146, .aload_n 0, 1), (147, .getfield 25, 3), (150, .iload_n 2, 1), (151, .iaload, 1)]
noncomputable def xi_117_6 : XIs := [(152, .dup2, 1), (153, .iaload, 1), (154, .iconst 2, 1), (155, .isub, 1), (156, .iastore, 1), (157, .iinc 3 1, 3), (160, .goto (-45), 3), (163, .return_, 1)]
set_option maxRecDepth 100000 in
theorem xi_w117 : xi_ok cX4_countLinks (xi_117_0 ++ (xi_117_1 ++ (xi_117_2 ++ (xi_117_3 ++ (xi_117_4 ++ (xi_117_5 ++ (xi_117_6))))))) = true := dl_all _ _ (by decide +kernel)
theorem xi_ok117_0 : xi_ok cX4_countLinks xi_117_0 = true := (xi_ap xi_w117).1
theorem xi_r117_1 : xi_ok cX4_countLinks (xi_117_1 ++ (xi_117_2 ++ (xi_117_3 ++ (xi_117_4 ++ (xi_117_5 ++ (xi_117_6)))))) = true := (xi_ap xi_w117).2
theorem xi_ok117_1 : xi_ok cX4_countLinks xi_117_1 = true := (xi_ap xi_r117_1).1
theorem xi_r117_2 : xi_ok cX4_countLinks (xi_117_2 ++ (xi_117_3 ++ (xi_117_4 ++ (xi_117_5 ++ (xi_117_6))))) = true := (xi_ap xi_r117_1).2
theorem xi_ok117_2 : xi_ok cX4_countLinks xi_117_2 = true := (xi_ap xi_r117_2).1
theorem xi_r117_3 : xi_ok cX4_countLinks (xi_117_3 ++ (xi_117_4 ++ (xi_117_5 ++ (xi_117_6)))) = true := (xi_ap xi_r117_2).2
theorem xi_ok117_3 : xi_ok cX4_countLinks xi_117_3 = true := (xi_ap xi_r117_3).1
theorem xi_r117_4 : xi_ok cX4_countLinks (xi_117_4 ++ (xi_117_5 ++ (xi_117_6))) = true := (xi_ap xi_r117_3).2
theorem xi_ok117_4 : xi_ok cX4_countLinks xi_117_4 = true := (xi_ap xi_r117_4).1
theorem xi_r117_5 : xi_ok cX4_countLinks (xi_117_5 ++ (xi_117_6)) = true := (xi_ap xi_r117_4).2
theorem xi_ok117_5 : xi_ok cX4_countLinks xi_117_5 = true := (xi_ap xi_r117_5).1
theorem xi_r117_6 : xi_ok cX4_countLinks (xi_117_6) = true := (xi_ap xi_r117_5).2
theorem xi_ok117_6 : xi_ok cX4_countLinks xi_117_6 = true := xi_r117_6
noncomputable def xi_117 (pc : Nat) : XIs := cond (Nat.blt pc 74) (cond (Nat.blt pc 24) (xi_117_0) (cond (Nat.blt pc 50) (xi_117_1) (xi_117_2))) (cond (Nat.blt pc 124) (cond (Nat.blt pc 100) (xi_117_3) (xi_117_4)) (cond (Nat.blt pc 152) (xi_117_5) (xi_117_6)))
theorem xi_ok117 (pc : Nat) : xi_ok cX4_countLinks (xi_117 pc) = true := xi_c (xi_c (xi_ok117_0) (xi_c (xi_ok117_1) (xi_ok117_2))) (xi_c (xi_c (xi_ok117_3) (xi_ok117_4)) (xi_c (xi_ok117_5) (xi_ok117_6)))
noncomputable def xi_118_0 : XIs := [(0, .aload_n 0, 1), (1, .getfield 25, 3), (4, .iload_n 1, 1), (5, .iaload, 1), (6, .iload_n 2, 1), (7, .if_icmp .ne 19, 3), (10, .aload_n 0, 1), (11, .getfield 35, 3), (14, .iload_n 2, 1), (15, .iaload, 1), (16, .aload_n 0, 1), (17, .getfield 32, 3), (20, .iload_n 1, 1), (21, .iaload, 1), (22, .isub, 1), (23, .goto 9, 3)]
noncomputable def xi_118_1 : XIs := [(26, .aload_n 0, 1), (27, .getfield 35, 3), (30, .iload_n 2, 1), (31, .iaload, 1), (32, .istore_n 3, 1), (33, .ldc2_w 150, 3), (36, .aload_n 0, 1), (37, .getfield 102, 3), (40, .i2l, 1), (41, .lmul, 1), (42, .aload_n 0, 1), (43, .getfield 38, 3), (46, .iload_n 2, 1), (47, .iaload, 1), (48, .i2l, 1), (49, .lmul, 1)]
noncomputable def xi_118_2 : XIs := [(50, .aload_n 0, 1), (51, .getfield 32, 3), (54, .iload_n 1, 1), (55, .iaload, 1), (56, .i2l, 1), (57, .iload_n 3, 1), (58, .i2l, 1), (59, .lmul, 1), (60, .lsub, 1), (61, .lreturn, 1)]
set_option maxRecDepth 100000 in
theorem xi_w118 : xi_ok cX4_score (xi_118_0 ++ (xi_118_1 ++ (xi_118_2))) = true := dl_all _ _ (by decide +kernel)
theorem xi_ok118_0 : xi_ok cX4_score xi_118_0 = true := (xi_ap xi_w118).1
theorem xi_r118_1 : xi_ok cX4_score (xi_118_1 ++ (xi_118_2)) = true := (xi_ap xi_w118).2
theorem xi_ok118_1 : xi_ok cX4_score xi_118_1 = true := (xi_ap xi_r118_1).1
theorem xi_r118_2 : xi_ok cX4_score (xi_118_2) = true := (xi_ap xi_r118_1).2
theorem xi_ok118_2 : xi_ok cX4_score xi_118_2 = true := xi_r118_2
noncomputable def xi_118 (pc : Nat) : XIs := cond (Nat.blt pc 26) (xi_118_0) (cond (Nat.blt pc 50) (xi_118_1) (xi_118_2))
theorem xi_ok118 (pc : Nat) : xi_ok cX4_score (xi_118 pc) = true := xi_c (xi_ok118_0) (xi_c (xi_ok118_1) (xi_ok118_2))
noncomputable def xi_119_0 : XIs := [(0, .iconst 0, 1), (1, .istore_n 1, 1), (2, .iload_n 1, 1), (3, .bipush 32, 2), (5, .if_icmp .ge 20, 3), (8, .aload_n 0, 1), (9, .getfield 29, 3), (12, .iload_n 1, 1), (13, .iaload, 1), (14, .ifCond .ne 5, 3), (17, .iload_n 1, 1), (18, .ireturn, 1), (19, .iinc 1 1, 3), (22, .goto (-20), 3), (25, .iconst (-1), 1), (26, .ireturn, 1)]
set_option maxRecDepth 100000 in
theorem xi_w119 : xi_ok cX4_freeGroup (xi_119_0) = true := dl_all _ _ (by decide +kernel)
theorem xi_ok119_0 : xi_ok cX4_freeGroup xi_119_0 = true := xi_w119
noncomputable def xi_119 (pc : Nat) : XIs := xi_119_0
theorem xi_ok119 (pc : Nat) : xi_ok cX4_freeGroup (xi_119 pc) = true := xi_ok119_0
noncomputable def xi_120_0 : XIs := [(0, .iload_n 2, 1), (1, .iconst (-1), 1), (2, .if_icmp .ne 5, 3), (5, .iconst 0, 1), (6, .ireturn, 1), (7, .aload_n 0, 1), (8, .getfield 25, 3), (11, .iload_n 1, 1), (12, .iaload, 1), (13, .istore_n 3, 1), (14, .aload_n 0, 1), (15, .getfield 29, 3), (18, .iload_n 3, 1), (19, .dup2, 1), (20, .iaload, 1), (21, .iconst 1, 1)]
noncomputable def xi_120_1 : XIs := [(22, .iload_n 1, 1), (23, .ishl, 1), (24, .iconst (-1), 1), (25, .ixor, 1), (26, .iand, 1), (27, .iastore, 1), (28, .aload_n 0, 1), (29, .getfield 35, 3), (32, .iload_n 3, 1), (33, .dup2, 1), (34, .iaload, 1), (35, .aload_n 0, 1), (36, .getfield 32, 3), (39, .iload_n 1, 1), (40, .iaload, 1), (41, .isub, 1)]
noncomputable def xi_120_2 : XIs := [(42, .iastore, 1), (43, .aload_n 0, 1), (44, .getfield 35, 3), (47, .iload_n 2, 1), (48, .aload_n 0, 1), (49, .getfield 29, 3), (52, .iload_n 2, 1), (53, .iaload, 1), (54, .ifCond .ne 12, 3), (57, .aload_n 0, 1), (58, .getfield 32, 3), (61, .iload_n 1, 1), (62, .iaload, 1), (63, .goto 16, 3), (66, .aload_n 0, 1), (67, .getfield 35, 3)]
noncomputable def xi_120_3 : XIs := [(70, .iload_n 2, 1), (71, .iaload, 1), (72, .aload_n 0, 1), (73, .getfield 32, 3), (76, .iload_n 1, 1), (77, .iaload, 1), (78, .iadd, 1), (79, .iastore, 1), (80, .aload_n 0, 1), (81, .getfield 29, 3), (84, .iload_n 2, 1), (85, .dup2, 1), (86, .iaload, 1), (87, .iconst 1, 1), (88, .iload_n 1, 1), (89, .ishl, 1)]
noncomputable def xi_120_4 : XIs := [(90, .ior, 1), (91, .iastore, 1), (92, .aload_n 0, 1), (93, .getfield 25, 3), (96, .iload_n 1, 1), (97, .iload_n 2, 1), (98, .iastore, 1), (99, .iconst 1, 1), (100, .ireturn, 1)]
set_option maxRecDepth 100000 in
theorem xi_w120 : xi_ok cX4_moveTo (xi_120_0 ++ (xi_120_1 ++ (xi_120_2 ++ (xi_120_3 ++ (xi_120_4))))) = true := dl_all _ _ (by decide +kernel)
theorem xi_ok120_0 : xi_ok cX4_moveTo xi_120_0 = true := (xi_ap xi_w120).1
theorem xi_r120_1 : xi_ok cX4_moveTo (xi_120_1 ++ (xi_120_2 ++ (xi_120_3 ++ (xi_120_4)))) = true := (xi_ap xi_w120).2
theorem xi_ok120_1 : xi_ok cX4_moveTo xi_120_1 = true := (xi_ap xi_r120_1).1
theorem xi_r120_2 : xi_ok cX4_moveTo (xi_120_2 ++ (xi_120_3 ++ (xi_120_4))) = true := (xi_ap xi_r120_1).2
theorem xi_ok120_2 : xi_ok cX4_moveTo xi_120_2 = true := (xi_ap xi_r120_2).1
theorem xi_r120_3 : xi_ok cX4_moveTo (xi_120_3 ++ (xi_120_4)) = true := (xi_ap xi_r120_2).2
theorem xi_ok120_3 : xi_ok cX4_moveTo xi_120_3 = true := (xi_ap xi_r120_3).1
theorem xi_r120_4 : xi_ok cX4_moveTo (xi_120_4) = true := (xi_ap xi_r120_3).2
theorem xi_ok120_4 : xi_ok cX4_moveTo xi_120_4 = true := xi_r120_4
noncomputable def xi_120 (pc : Nat) : XIs := cond (Nat.blt pc 42) (cond (Nat.blt pc 22) (xi_120_0) (xi_120_1)) (cond (Nat.blt pc 70) (xi_120_2) (cond (Nat.blt pc 90) (xi_120_3) (xi_120_4)))
theorem xi_ok120 (pc : Nat) : xi_ok cX4_moveTo (xi_120 pc) = true := xi_c (xi_c (xi_ok120_0) (xi_ok120_1)) (xi_c (xi_ok120_2) (xi_c (xi_ok120_3) (xi_ok120_4)))
noncomputable def xi_121_0 : XIs := [(0, .aload_n 0, 1), (1, .invokespecial 3, 3), (4, .aload_n 0, 1), (5, .new 9, 3), (8, .dup, 1), (9, .invokespecial 11, 3), (12, .putfield 12, 3), (15, .aload_n 0, 1), (16, .new 9, 3), (19, .dup, 1), (20, .invokespecial 11, 3), (23, .putfield 18, 3), (26, .aload_n 0, 1), (27, .sipush 448, 3), (30, .newarray .int, 2), (32, .putfield 21, 3)]
noncomputable def xi_121_1 : XIs := [(35, .aload_n 0, 1), (36, .iconst 5, 1), (37, .newarray .int, 2), (39, .putfield 25, 3), (42, .return_, 1)]
set_option maxRecDepth 100000 in
theorem xi_w121 : xi_ok cX5_init (xi_121_0 ++ (xi_121_1)) = true := dl_all _ _ (by decide +kernel)
theorem xi_ok121_0 : xi_ok cX5_init xi_121_0 = true := (xi_ap xi_w121).1
theorem xi_r121_1 : xi_ok cX5_init (xi_121_1) = true := (xi_ap xi_w121).2
theorem xi_ok121_1 : xi_ok cX5_init xi_121_1 = true := xi_r121_1
noncomputable def xi_121 (pc : Nat) : XIs := cond (Nat.blt pc 35) (xi_121_0) (xi_121_1)
theorem xi_ok121 (pc : Nat) : xi_ok cX5_init (xi_121 pc) = true := xi_c (xi_ok121_0) (xi_ok121_1)
noncomputable def xi_122_0 : XIs := [(0, .aload_n 0, 1), (1, .getfield 12, 3), (4, .getfield 28, 3), (7, .sipush 4000, 3), (10, .if_icmp .lt 7, 3), (13, .iconst 1, 1), (14, .goto 4, 3), (17, .iconst 0, 1), (18, .ireturn, 1)]
set_option maxRecDepth 100000 in
theorem xi_w122 : xi_ok cX5_isFull (xi_122_0) = true := dl_all _ _ (by decide +kernel)
theorem xi_ok122_0 : xi_ok cX5_isFull xi_122_0 = true := xi_w122
noncomputable def xi_122 (pc : Nat) : XIs := xi_122_0
theorem xi_ok122 (pc : Nat) : xi_ok cX5_isFull (xi_122 pc) = true := xi_ok122_0
noncomputable def xi_123_0 : XIs := [(0, .aload_n 0, 1), (1, .getfield 12, 3), (4, .iload_n 1, 1), (5, .invokevirtual 32, 3), (8, .ifCond .eq 41, 3), (11, .aload_n 0, 1), (12, .getfield 12, 3), (15, .iload_n 2, 1), (16, .invokevirtual 32, 3), (19, .ifCond .eq 30, 3), (22, .iload_n 3, 1), (23, .invokestatic 36, 3), (26, .ifCond .eq 23, 3), (29, .iload 4, 2), (31, .invokestatic 39, 3), (34, .ifCond .eq 15, 3)]
noncomputable def xi_123_1 : XIs := [(37, .iload 5, 2), (39, .invokestatic 42, 3), (42, .ifCond .eq 7, 3), (45, .iconst 1, 1), (46, .goto 4, 3), (49, .iconst 0, 1), (50, .ireturn, 1)]
set_option maxRecDepth 100000 in
theorem xi_w123 : xi_ok cX5_isGoodArc (xi_123_0 ++ (xi_123_1)) = true := dl_all _ _ (by decide +kernel)
theorem xi_ok123_0 : xi_ok cX5_isGoodArc xi_123_0 = true := (xi_ap xi_w123).1
theorem xi_r123_1 : xi_ok cX5_isGoodArc (xi_123_1) = true := (xi_ap xi_w123).2
theorem xi_ok123_1 : xi_ok cX5_isGoodArc xi_123_1 = true := xi_r123_1
noncomputable def xi_123 (pc : Nat) : XIs := cond (Nat.blt pc 37) (xi_123_0) (xi_123_1)
theorem xi_ok123 (pc : Nat) : xi_ok cX5_isGoodArc (xi_123 pc) = true := xi_c (xi_ok123_0) (xi_ok123_1)
noncomputable def xi_124_0 : XIs := [(0, .aload_n 0, 1), (1, .iconst 0, 1), (2, .aload_n 0, 1), (3, .getfield 12, 3), (6, .getfield 45, 3), (9, .iload_n 1, 1), (10, .iconst 0, 1), (11, .invokevirtual 48, 3), (14, .aload_n 0, 1), (15, .getfield 12, 3), (18, .getfield 45, 3), (21, .iconst 1, 1), (22, .isub, 1), (23, .ireturn, 1)]
set_option maxRecDepth 100000 in
theorem xi_w124 : xi_ok cX5_addNode (xi_124_0) = true := dl_all _ _ (by decide +kernel)
theorem xi_ok124_0 : xi_ok cX5_addNode xi_124_0 = true := xi_w124
noncomputable def xi_124 (pc : Nat) : XIs := xi_124_0
theorem xi_ok124 (pc : Nat) : xi_ok cX5_addNode (xi_124 pc) = true := xi_ok124_0
noncomputable def xi_125_0 : XIs := [(0, .aload_n 0, 1), (1, .getfield 12, 3), (4, .invokevirtual 52, 3), (7, .istore 6, 2), (9, .iload 6, 2), (11, .iconst (-1), 1), (12, .if_icmp .ne 6, 3), (15, .bipush (-3), 2), (17, .ireturn, 1), (18, .aload_n 0, 1), (19, .invokevirtual 56, 3), (22, .istore 7, 2), (24, .aload_n 0, 1), (25, .getfield 21, 3), (28, .iload 7, 2), (30, .iconst 1, 1)]
noncomputable def xi_125_1 : XIs := [(31, .iastore, 1), (32, .aload_n 0, 1), (33, .getfield 21, 3), (36, .iload 7, 2), (38, .iconst 1, 1), (39, .iadd, 1), (40, .iload 6, 2), (42, .iastore, 1), (43, .aload_n 0, 1), (44, .getfield 21, 3), (47, .iload 7, 2), (49, .iconst 2, 1), (50, .iadd, 1), (51, .iload_n 1, 1), (52, .iastore, 1), (53, .aload_n 0, 1)]
noncomputable def xi_125_2 : XIs := [(54, .getfield 21, 3), (57, .iload 7, 2), (59, .iconst 3, 1), (60, .iadd, 1), (61, .iload_n 2, 1), (62, .iastore, 1), (63, .aload_n 0, 1), (64, .getfield 21, 3), (67, .iload 7, 2), (69, .iconst 4, 1), (70, .iadd, 1), (71, .iload_n 3, 1), (72, .iastore, 1), (73, .aload_n 0, 1), (74, .getfield 21, 3), (77, .iload 7, 2)]
noncomputable def xi_125_3 : XIs := [(79, .iconst 5, 1), (80, .iadd, 1), (81, .iload 4, 2), (83, .iastore, 1), (84, .aload_n 0, 1), (85, .getfield 21, 3), (88, .iload 7, 2), (90, .bipush 6, 2), (92, .iadd, 1), (93, .iload 5, 2), (95, .iastore, 1), (96, .aload_n 0, 1), (97, .aload_n 0, 1), (98, .getfield 12, 3), (101, .invokevirtual 59, 3), (104, .iload 6, 2)]
noncomputable def xi_125_4 : XIs := [(106, .ireturn, 1)]
set_option maxRecDepth 100000 in
theorem xi_w125 : xi_ok cX5_addArc (xi_125_0 ++ (xi_125_1 ++ (xi_125_2 ++ (xi_125_3 ++ (xi_125_4))))) = true := dl_all _ _ (by decide +kernel)
theorem xi_ok125_0 : xi_ok cX5_addArc xi_125_0 = true := (xi_ap xi_w125).1
theorem xi_r125_1 : xi_ok cX5_addArc (xi_125_1 ++ (xi_125_2 ++ (xi_125_3 ++ (xi_125_4)))) = true := (xi_ap xi_w125).2
theorem xi_ok125_1 : xi_ok cX5_addArc xi_125_1 = true := (xi_ap xi_r125_1).1
theorem xi_r125_2 : xi_ok cX5_addArc (xi_125_2 ++ (xi_125_3 ++ (xi_125_4))) = true := (xi_ap xi_r125_1).2
theorem xi_ok125_2 : xi_ok cX5_addArc xi_125_2 = true := (xi_ap xi_r125_2).1
theorem xi_r125_3 : xi_ok cX5_addArc (xi_125_3 ++ (xi_125_4)) = true := (xi_ap xi_r125_2).2
theorem xi_ok125_3 : xi_ok cX5_addArc xi_125_3 = true := (xi_ap xi_r125_3).1
theorem xi_r125_4 : xi_ok cX5_addArc (xi_125_4) = true := (xi_ap xi_r125_3).2
theorem xi_ok125_4 : xi_ok cX5_addArc xi_125_4 = true := xi_r125_4
noncomputable def xi_125 (pc : Nat) : XIs := cond (Nat.blt pc 54) (cond (Nat.blt pc 31) (xi_125_0) (xi_125_1)) (cond (Nat.blt pc 79) (xi_125_2) (cond (Nat.blt pc 106) (xi_125_3) (xi_125_4)))
theorem xi_ok125 (pc : Nat) : xi_ok cX5_addArc (xi_125 pc) = true := xi_c (xi_c (xi_ok125_0) (xi_ok125_1)) (xi_c (xi_ok125_2) (xi_c (xi_ok125_3) (xi_ok125_4)))
noncomputable def xi_126_0 : XIs := [(0, .aload_n 0, 1), (1, .iconst 2, 1), (2, .iload_n 1, 1), (3, .iconst 0, 1), (4, .iconst 0, 1), (5, .invokevirtual 48, 3), (8, .return_, 1)]
set_option maxRecDepth 100000 in
theorem xi_w126 : xi_ok cX5_dropArc (xi_126_0) = true := dl_all _ _ (by decide +kernel)
theorem xi_ok126_0 : xi_ok cX5_dropArc xi_126_0 = true := xi_w126
noncomputable def xi_126 (pc : Nat) : XIs := xi_126_0
theorem xi_ok126 (pc : Nat) : xi_ok cX5_dropArc (xi_126 pc) = true := xi_ok126_0
noncomputable def xi_127_0 : XIs := [(0, .aload_n 0, 1), (1, .iconst 3, 1), (2, .iload_n 1, 1), (3, .iload_n 2, 1), (4, .iload_n 3, 1), (5, .invokevirtual 48, 3), (8, .return_, 1)]
set_option maxRecDepth 100000 in
theorem xi_w127 : xi_ok cX5_changeArc (xi_127_0) = true := dl_all _ _ (by decide +kernel)
theorem xi_ok127_0 : xi_ok cX5_changeArc xi_127_0 = true := xi_w127
noncomputable def xi_127 (pc : Nat) : XIs := xi_127_0
theorem xi_ok127 (pc : Nat) : xi_ok cX5_changeArc (xi_127 pc) = true := xi_ok127_0
noncomputable def xi_128_0 : XIs := [(0, .aload_n 0, 1), (1, .iconst 4, 1), (2, .iload_n 1, 1), (3, .iload_n 2, 1), (4, .iconst 0, 1), (5, .invokevirtual 48, 3), (8, .return_, 1)]
set_option maxRecDepth 100000 in
theorem xi_w128 : xi_ok cX5_relabel (xi_128_0) = true := dl_all _ _ (by decide +kernel)
theorem xi_ok128_0 : xi_ok cX5_relabel xi_128_0 = true := xi_w128
noncomputable def xi_128 (pc : Nat) : XIs := xi_128_0
theorem xi_ok128 (pc : Nat) : xi_ok cX5_relabel (xi_128 pc) = true := xi_ok128_0
noncomputable def xi_129_0 : XIs := [(0, .aload_n 0, 1), (1, .invokevirtual 56, 3), (4, .istore 5, 2), (6, .aload_n 0, 1), (7, .getfield 21, 3), (10, .iload 5, 2), (12, .iload_n 1, 1), (13, .iastore, 1), (14, .aload_n 0, 1), (15, .getfield 21, 3), (18, .iload 5, 2), (20, .iconst 1, 1), (21, .iadd, 1), (22, .iload_n 2, 1), (23, .iastore, 1), (24, .aload_n 0, 1)]
noncomputable def xi_129_1 : XIs := [(25, .getfield 21, 3), (28, .iload 5, 2), (30, .iconst 2, 1), (31, .iadd, 1), (32, .iload_n 3, 1), (33, .iastore, 1), (34, .aload_n 0, 1), (35, .getfield 21, 3), (38, .iload 5, 2), (40, .iconst 3, 1), (41, .iadd, 1), (42, .iload 4, 2), (44, .iastore, 1), (45, .aload_n 0, 1), (46, .aload_n 0, 1), (47, .getfield 12, 3)]
noncomputable def xi_129_2 : XIs := [(50, .invokevirtual 59, 3), (53, .return_, 1)]
set_option maxRecDepth 100000 in
theorem xi_w129 : xi_ok cX5_note (xi_129_0 ++ (xi_129_1 ++ (xi_129_2))) = true := dl_all _ _ (by decide +kernel)
theorem xi_ok129_0 : xi_ok cX5_note xi_129_0 = true := (xi_ap xi_w129).1
theorem xi_r129_1 : xi_ok cX5_note (xi_129_1 ++ (xi_129_2)) = true := (xi_ap xi_w129).2
theorem xi_ok129_1 : xi_ok cX5_note xi_129_1 = true := (xi_ap xi_r129_1).1
theorem xi_r129_2 : xi_ok cX5_note (xi_129_2) = true := (xi_ap xi_r129_1).2
theorem xi_ok129_2 : xi_ok cX5_note xi_129_2 = true := xi_r129_2
noncomputable def xi_129 (pc : Nat) : XIs := cond (Nat.blt pc 25) (xi_129_0) (cond (Nat.blt pc 50) (xi_129_1) (xi_129_2))
theorem xi_ok129 (pc : Nat) : xi_ok cX5_note (xi_129 pc) = true := xi_c (xi_ok129_0) (xi_c (xi_ok129_1) (xi_ok129_2))
