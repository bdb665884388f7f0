/-! the instructions of the methods, as lists -/
abbrev XIs : Type := List (Nat × Instr × Nat)
def xi_ok (cc : ByteArray) (l : XIs) : Bool := l.all (fun q => decide (decode cc q.1 = .ok (q.2.1, q.2.2)))
theorem xi_c {cc : ByteArray} {b : Bool} {x y : XIs} (hx : xi_ok cc x = true) (hy : xi_ok cc y = true) : xi_ok cc (cond b x y) = true := by
  cases b
  · exact hy
  · exact hx
def xi_0_0 : XIs := [(0, .new 8, 3), (3, .dup, 1), (4, .invokespecial 141, 3), (7, .astore_n 1, 1), (8, .new 142, 3), (11, .dup, 1), (12, .invokespecial 144, 3), (15, .astore_n 2, 1), (16, .iconst 1, 1), (17, .newarray .long, 2), (19, .astore_n 3, 1), (20, .iconst 0, 1), (21, .istore 4, 2), (23, .iload 4, 2), (25, .aload_n 0, 1), (26, .arraylength, 1)]
set_option maxRecDepth 100000 in
theorem xi_ok0_0 : xi_ok code xi_0_0 = true := by decide +kernel
def xi_0_1 : XIs := [(27, .bipush 6, 2), (29, .isub, 1), (30, .if_icmp .gt 2944, 3), (33, .aload_n 0, 1), (34, .iload 4, 2), (36, .iaload, 1), (37, .bipush 63, 2), (39, .iand, 1), (40, .tableswitch 2928 0 46 #[204, 260, 364, 420, 500, 568, 624, 637, 693, 760, 816, 896, 952, 965, 978, 1034, 1047, 1103, 1170, 1250, 1318, 1386, 1478, 1546, 1609, 1672, 1728, 1784, 1840, 1896, 1963, 2050, 2129, 2184, 2239, 2302, 2315, 2382, 2474, 2530, 2544, 2599, 2612, 2680, 2693, 2817, 2872], 204), (244, .aload_n 1, 1), (245, .aload_n 0, 1), (246, .iload 4, 2), (248, .iconst 1, 1), (249, .iadd, 1), (250, .iaload, 1), (251, .aload_n 3, 1)]
set_option maxRecDepth 100000 in
theorem xi_ok0_1 : xi_ok code xi_0_1 = true := by decide +kernel
def xi_0_2 : XIs := [(252, .invokestatic 145, 3), (255, .istore 5, 2), (257, .aload_n 2, 1), (258, .aload_n 0, 1), (259, .iload 4, 2), (261, .iconst 1, 1), (262, .iadd, 1), (263, .iaload, 1), (264, .invokevirtual 150, 3), (267, .istore 6, 2), (269, .aload_n 2, 1), (270, .invokevirtual 151, 3), (273, .iload 5, 2), (275, .if_icmp .eq 5, 3), (280, .iload 5, 2), (282, .ifCond .ne 15, 3)]
set_option maxRecDepth 100000 in
theorem xi_ok0_2 : xi_ok code xi_0_2 = true := by decide +kernel
def xi_0_3 : XIs := [(285, .aload_n 3, 1), (286, .iconst 0, 1), (287, .laload, 1), (288, .iload 6, 2), (290, .i2l, 1), (291, .lcmp, 1), (292, .ifCond .eq 5, 3), (297, .goto 2671, 3), (300, .aload_n 1, 1), (301, .aload_n 0, 1), (302, .iload 4, 2), (304, .iconst 1, 1), (305, .iadd, 1), (306, .iaload, 1), (307, .aload_n 0, 1), (308, .iload 4, 2)]
set_option maxRecDepth 100000 in
theorem xi_ok0_3 : xi_ok code xi_0_3 = true := by decide +kernel
def xi_0_4 : XIs := [(310, .iconst 2, 1), (311, .iadd, 1), (312, .iaload, 1), (313, .aload_n 0, 1), (314, .iload 4, 2), (316, .iconst 3, 1), (317, .iadd, 1), (318, .iaload, 1), (319, .aload_n 0, 1), (320, .iload 4, 2), (322, .iconst 4, 1), (323, .iadd, 1), (324, .iaload, 1), (325, .aload_n 0, 1), (326, .iload 4, 2), (328, .iconst 5, 1)]
set_option maxRecDepth 100000 in
theorem xi_ok0_4 : xi_ok code xi_0_4 = true := by decide +kernel
def xi_0_5 : XIs := [(329, .iadd, 1), (330, .iaload, 1), (331, .aload_n 3, 1), (332, .invokestatic 155, 3), (335, .istore 5, 2), (337, .aload_n 2, 1), (338, .aload_n 0, 1), (339, .iload 4, 2), (341, .iconst 1, 1), (342, .iadd, 1), (343, .iaload, 1), (344, .aload_n 0, 1), (345, .iload 4, 2), (347, .iconst 2, 1), (348, .iadd, 1), (349, .iaload, 1)]
set_option maxRecDepth 100000 in
theorem xi_ok0_5 : xi_ok code xi_0_5 = true := by decide +kernel
def xi_0_6 : XIs := [(350, .aload_n 0, 1), (351, .iload 4, 2), (353, .iconst 3, 1), (354, .iadd, 1), (355, .iaload, 1), (356, .aload_n 0, 1), (357, .iload 4, 2), (359, .iconst 4, 1), (360, .iadd, 1), (361, .iaload, 1), (362, .aload_n 0, 1), (363, .iload 4, 2), (365, .iconst 5, 1), (366, .iadd, 1), (367, .iaload, 1), (368, .invokevirtual 158, 3)]
set_option maxRecDepth 100000 in
theorem xi_ok0_6 : xi_ok code xi_0_6 = true := by decide +kernel
def xi_0_7 : XIs := [(371, .istore 6, 2), (373, .aload_n 2, 1), (374, .invokevirtual 151, 3), (377, .iload 5, 2), (379, .if_icmp .eq 5, 3), (384, .iload 5, 2), (386, .ifCond .ne 15, 3), (401, .goto 2567, 3), (404, .aload_n 1, 1), (405, .aload_n 0, 1), (406, .iload 4, 2), (408, .iconst 1, 1), (409, .iadd, 1), (410, .iaload, 1), (411, .aload_n 3, 1), (412, .invokestatic 159, 3)]
set_option maxRecDepth 100000 in
theorem xi_ok0_7 : xi_ok code xi_0_7 = true := by decide +kernel
def xi_0_8 : XIs := [(415, .istore 5, 2), (417, .aload_n 2, 1), (418, .aload_n 0, 1), (419, .iload 4, 2), (421, .iconst 1, 1), (422, .iadd, 1), (423, .iaload, 1), (424, .invokevirtual 161, 3), (427, .istore 6, 2), (429, .aload_n 2, 1), (430, .invokevirtual 151, 3), (433, .iload 5, 2), (435, .if_icmp .eq 5, 3), (440, .iload 5, 2), (442, .ifCond .ne 15, 3), (457, .goto 2511, 3)]
set_option maxRecDepth 100000 in
theorem xi_ok0_8 : xi_ok code xi_0_8 = true := by decide +kernel
def xi_0_9 : XIs := [(460, .aload_n 1, 1), (461, .aload_n 0, 1), (462, .iload 4, 2), (464, .iconst 1, 1), (465, .iadd, 1), (466, .iaload, 1), (467, .aload_n 0, 1), (468, .iload 4, 2), (470, .iconst 2, 1), (471, .iadd, 1), (472, .iaload, 1), (473, .aload_n 0, 1), (474, .iload 4, 2), (476, .iconst 3, 1), (477, .iadd, 1), (478, .iaload, 1)]
set_option maxRecDepth 100000 in
theorem xi_ok0_9 : xi_ok code xi_0_9 = true := by decide +kernel
def xi_0_10 : XIs := [(479, .aload_n 3, 1), (480, .invokestatic 162, 3), (483, .istore 5, 2), (485, .aload_n 2, 1), (486, .aload_n 0, 1), (487, .iload 4, 2), (489, .iconst 1, 1), (490, .iadd, 1), (491, .iaload, 1), (492, .aload_n 0, 1), (493, .iload 4, 2), (495, .iconst 2, 1), (496, .iadd, 1), (497, .iaload, 1), (498, .aload_n 0, 1), (499, .iload 4, 2)]
set_option maxRecDepth 100000 in
theorem xi_ok0_10 : xi_ok code xi_0_10 = true := by decide +kernel
def xi_0_11 : XIs := [(501, .iconst 3, 1), (502, .iadd, 1), (503, .iaload, 1), (504, .invokevirtual 165, 3), (507, .istore 6, 2), (509, .aload_n 2, 1), (510, .invokevirtual 151, 3), (513, .iload 5, 2), (515, .if_icmp .eq 5, 3), (520, .iload 5, 2), (522, .ifCond .ne 15, 3), (537, .goto 2431, 3), (540, .aload_n 1, 1), (541, .aload_n 0, 1), (542, .iload 4, 2), (544, .iconst 1, 1)]
set_option maxRecDepth 100000 in
theorem xi_ok0_11 : xi_ok code xi_0_11 = true := by decide +kernel
def xi_0_12 : XIs := [(545, .iadd, 1), (546, .iaload, 1), (547, .aload_n 0, 1), (548, .iload 4, 2), (550, .iconst 2, 1), (551, .iadd, 1), (552, .iaload, 1), (553, .aload_n 3, 1), (554, .invokestatic 166, 3), (557, .istore 5, 2), (559, .aload_n 2, 1), (560, .aload_n 0, 1), (561, .iload 4, 2), (563, .iconst 1, 1), (564, .iadd, 1), (565, .iaload, 1)]
set_option maxRecDepth 100000 in
theorem xi_ok0_12 : xi_ok code xi_0_12 = true := by decide +kernel
def xi_0_13 : XIs := [(566, .aload_n 0, 1), (567, .iload 4, 2), (569, .iconst 2, 1), (570, .iadd, 1), (571, .iaload, 1), (572, .invokevirtual 169, 3), (575, .istore 6, 2), (577, .aload_n 2, 1), (578, .invokevirtual 151, 3), (581, .iload 5, 2), (583, .if_icmp .eq 5, 3), (588, .iload 5, 2), (590, .ifCond .ne 15, 3), (605, .goto 2363, 3), (608, .aload_n 1, 1), (609, .aload_n 0, 1)]
set_option maxRecDepth 100000 in
theorem xi_ok0_13 : xi_ok code xi_0_13 = true := by decide +kernel
def xi_0_14 : XIs := [(610, .iload 4, 2), (612, .iconst 1, 1), (613, .iadd, 1), (614, .iaload, 1), (615, .aload_n 3, 1), (616, .invokestatic 170, 3), (619, .istore 5, 2), (621, .aload_n 2, 1), (622, .aload_n 0, 1), (623, .iload 4, 2), (625, .iconst 1, 1), (626, .iadd, 1), (627, .iaload, 1), (628, .invokevirtual 172, 3), (631, .istore 6, 2)]
set_option maxRecDepth 100000 in
theorem xi_ok0_14 : xi_ok code xi_0_14 = true := by decide +kernel
def xi_0_15 : XIs := [(633, .aload_n 2, 1), (634, .invokevirtual 151, 3), (637, .iload 5, 2), (639, .if_icmp .eq 5, 3), (644, .iload 5, 2), (646, .ifCond .ne 15, 3), (649, .aload_n 3, 1), (650, .iconst 0, 1), (651, .laload, 1), (652, .iload 6, 2), (654, .i2l, 1), (655, .lcmp, 1), (656, .ifCond .eq 5, 3), (661, .goto 2307, 3)]
set_option maxRecDepth 100000 in
theorem xi_ok0_15 : xi_ok code xi_0_15 = true := by decide +kernel
def xi_0_16 : XIs := [(664, .aload_n 1, 1), (665, .invokevirtual 173, 3), (668, .aload_n 2, 1), (669, .invokevirtual 176, 3), (672, .if_icmp .eq 2296, 3), (677, .aload_n 1, 1), (678, .aload_n 0, 1), (679, .iload 4, 2), (681, .iconst 1, 1), (682, .iadd, 1), (683, .iaload, 1), (684, .aload_n 3, 1), (685, .invokestatic 177, 3)]
set_option maxRecDepth 100000 in
theorem xi_ok0_16 : xi_ok code xi_0_16 = true := by decide +kernel
def xi_0_17 : XIs := [(688, .istore 5, 2), (690, .aload_n 2, 1), (691, .aload_n 0, 1), (692, .iload 4, 2), (694, .iconst 1, 1), (695, .iadd, 1), (696, .iaload, 1), (697, .invokevirtual 179, 3), (700, .istore 6, 2), (702, .aload_n 2, 1), (703, .invokevirtual 151, 3), (706, .iload 5, 2), (708, .if_icmp .eq 5, 3)]
set_option maxRecDepth 100000 in
theorem xi_ok0_17 : xi_ok code xi_0_17 = true := by decide +kernel
def xi_0_18 : XIs := [(713, .iload 5, 2), (715, .ifCond .ne 15, 3), (718, .aload_n 3, 1), (719, .iconst 0, 1), (720, .laload, 1), (721, .iload 6, 2), (723, .i2l, 1), (724, .lcmp, 1), (725, .ifCond .eq 5, 3), (730, .goto 2238, 3), (733, .aload_n 1, 1), (734, .aload_n 0, 1), (735, .iload 4, 2)]
set_option maxRecDepth 100000 in
theorem xi_ok0_18 : xi_ok code xi_0_18 = true := by decide +kernel
def xi_0_19 : XIs := [(737, .iconst 1, 1), (738, .iadd, 1), (739, .iaload, 1), (740, .aload_n 0, 1), (741, .iload 4, 2), (743, .iconst 2, 1), (744, .iadd, 1), (745, .iaload, 1), (746, .aload_n 3, 1), (747, .invokestatic 180, 3), (750, .istore 5, 2), (752, .aload_n 2, 1)]
set_option maxRecDepth 100000 in
theorem xi_ok0_19 : xi_ok code xi_0_19 = true := by decide +kernel
def xi_0_20 : XIs := [(753, .aload_n 0, 1), (754, .iload 4, 2), (756, .iconst 1, 1), (757, .iadd, 1), (758, .iaload, 1), (759, .aload_n 0, 1), (760, .iload 4, 2), (762, .iconst 2, 1), (763, .iadd, 1), (764, .iaload, 1), (765, .invokevirtual 182, 3), (768, .lstore 6, 2)]
set_option maxRecDepth 100000 in
theorem xi_ok0_20 : xi_ok code xi_0_20 = true := by decide +kernel
def xi_0_21 : XIs := [(770, .aload_n 2, 1), (771, .invokevirtual 151, 3), (774, .iload 5, 2), (776, .if_icmp .eq 5, 3), (781, .iload 5, 2), (783, .ifCond .ne 14, 3), (786, .aload_n 3, 1), (787, .iconst 0, 1), (788, .laload, 1), (789, .lload 6, 2), (791, .lcmp, 1), (792, .ifCond .eq 5, 3)]
set_option maxRecDepth 100000 in
theorem xi_ok0_21 : xi_ok code xi_0_21 = true := by decide +kernel
def xi_0_22 : XIs := [(797, .goto 2171, 3), (800, .aload_n 1, 1), (801, .aload_n 0, 1), (802, .iload 4, 2), (804, .iconst 1, 1), (805, .iadd, 1), (806, .iaload, 1), (807, .aload_n 3, 1), (808, .invokestatic 183, 3), (811, .istore 5, 2), (813, .aload_n 2, 1)]
set_option maxRecDepth 100000 in
theorem xi_ok0_22 : xi_ok code xi_0_22 = true := by decide +kernel
def xi_0_23 : XIs := [(814, .aload_n 0, 1), (815, .iload 4, 2), (817, .iconst 1, 1), (818, .iadd, 1), (819, .iaload, 1), (820, .invokevirtual 185, 3), (823, .istore 6, 2), (825, .aload_n 2, 1), (826, .invokevirtual 151, 3), (829, .iload 5, 2), (831, .if_icmp .eq 5, 3)]
set_option maxRecDepth 100000 in
theorem xi_ok0_23 : xi_ok code xi_0_23 = true := by decide +kernel
def xi_0_24 : XIs := [(836, .iload 5, 2), (838, .ifCond .ne 15, 3), (853, .goto 2115, 3), (856, .aload_n 1, 1), (857, .aload_n 0, 1), (858, .iload 4, 2), (860, .iconst 1, 1), (861, .iadd, 1), (862, .iaload, 1), (863, .aload_n 0, 1), (864, .iload 4, 2)]
set_option maxRecDepth 100000 in
theorem xi_ok0_24 : xi_ok code xi_0_24 = true := by decide +kernel
def xi_0_25 : XIs := [(866, .iconst 2, 1), (867, .iadd, 1), (868, .iaload, 1), (869, .aload_n 0, 1), (870, .iload 4, 2), (872, .iconst 3, 1), (873, .iadd, 1), (874, .iaload, 1), (875, .aload_n 3, 1), (876, .invokestatic 186, 3), (879, .istore 5, 2)]
set_option maxRecDepth 100000 in
theorem xi_ok0_25 : xi_ok code xi_0_25 = true := by decide +kernel
def xi_0_26 : XIs := [(881, .aload_n 2, 1), (882, .aload_n 0, 1), (883, .iload 4, 2), (885, .iconst 1, 1), (886, .iadd, 1), (887, .iaload, 1), (888, .aload_n 0, 1), (889, .iload 4, 2), (891, .iconst 2, 1), (892, .iadd, 1)]
set_option maxRecDepth 100000 in
theorem xi_ok0_26 : xi_ok code xi_0_26 = true := by decide +kernel
def xi_0_27 : XIs := [(893, .iaload, 1), (894, .aload_n 0, 1), (895, .iload 4, 2), (897, .iconst 3, 1), (898, .iadd, 1), (899, .iaload, 1), (900, .invokevirtual 188, 3), (903, .istore 6, 2), (905, .aload_n 2, 1), (906, .invokevirtual 151, 3)]
set_option maxRecDepth 100000 in
theorem xi_ok0_27 : xi_ok code xi_0_27 = true := by decide +kernel
def xi_0_28 : XIs := [(909, .iload 5, 2), (911, .if_icmp .eq 5, 3), (916, .iload 5, 2), (918, .ifCond .ne 15, 3), (933, .goto 2035, 3), (936, .aload_n 1, 1), (937, .aload_n 0, 1), (938, .iload 4, 2), (940, .iconst 1, 1), (941, .iadd, 1)]
set_option maxRecDepth 100000 in
theorem xi_ok0_28 : xi_ok code xi_0_28 = true := by decide +kernel
def xi_0_29 : XIs := [(942, .iaload, 1), (943, .aload_n 3, 1), (944, .invokestatic 189, 3), (947, .istore 5, 2), (949, .aload_n 2, 1), (950, .aload_n 0, 1), (951, .iload 4, 2), (953, .iconst 1, 1), (954, .iadd, 1), (955, .iaload, 1)]
set_option maxRecDepth 100000 in
theorem xi_ok0_29 : xi_ok code xi_0_29 = true := by decide +kernel
def xi_0_30 : XIs := [(956, .invokevirtual 191, 3), (959, .istore 6, 2), (961, .aload_n 2, 1), (962, .invokevirtual 151, 3), (965, .iload 5, 2), (967, .if_icmp .eq 5, 3), (972, .iload 5, 2), (974, .ifCond .ne 15, 3), (977, .aload_n 3, 1), (978, .iconst 0, 1)]
set_option maxRecDepth 100000 in
theorem xi_ok0_30 : xi_ok code xi_0_30 = true := by decide +kernel
def xi_0_31 : XIs := [(979, .laload, 1), (980, .iload 6, 2), (982, .i2l, 1), (983, .lcmp, 1), (984, .ifCond .eq 5, 3), (989, .goto 1979, 3), (992, .aload_n 1, 1), (993, .invokevirtual 192, 3), (996, .aload_n 2, 1)]
set_option maxRecDepth 100000 in
theorem xi_ok0_31 : xi_ok code xi_0_31 = true := by decide +kernel
