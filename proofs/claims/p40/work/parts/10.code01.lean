noncomputable def zi_0_0 : ZIs := [(0, ev_0), (3, ev_1), (4, ev_2), (7, ev_3), (8, ev_4), (11, ev_1), (12, ev_5), (15, ev_6), (16, ev_7), (17, ev_8), (19, ev_9), (20, ev_10), (21, ev_11), (23, ev_12), (25, ev_13), (26, ev_14)]
noncomputable def zi_0_1 : ZIs := [(27, ev_15), (29, ev_16), (30, ev_17), (33, ev_13), (34, ev_12), (36, ev_18), (37, ev_19), (39, ev_20)]
noncomputable def xi_0_2 : XIs := [(40, .tableswitch 1844 0 46 #[204, 232, 308, 336, 388, 428, 456, 469, 497, 537, 565, 617, 645, 658, 671, 699, 712, 740, 780, 832, 872, 912, 976, 1016, 1044, 1072, 1100, 1128, 1156, 1184, 1224, 1276, 1328, 1356, 1384, 1412, 1425, 1465, 1529, 1585, 1598, 1626, 1639, 1679, 1692, 1788, 1816], 204)]
set_option maxRecDepth 100000 in
theorem xi_ok0_2 : xi_ok code xi_0_2 = true := by decide +kernel
noncomputable def zi_0_3 : ZIs := [(244, ev_21), (245, ev_13), (246, ev_12), (248, ev_7), (249, ev_22), (250, ev_18), (251, ev_23), (252, ev_24), (255, ev_25), (257, ev_26), (258, ev_13), (259, ev_12), (261, ev_7), (262, ev_22), (263, ev_18), (264, ev_27)]
noncomputable def zi_0_4 : ZIs := [(267, ev_28), (269, ev_29), (272, ev_21), (273, ev_13), (274, ev_12), (276, ev_7), (277, ev_22), (278, ev_18), (279, ev_13), (280, ev_12), (282, ev_30), (283, ev_22), (284, ev_18), (285, ev_13), (286, ev_12), (288, ev_31)]
noncomputable def zi_0_5 : ZIs := [(289, ev_22), (290, ev_18), (291, ev_13), (292, ev_12), (294, ev_32), (295, ev_22), (296, ev_18), (297, ev_13), (298, ev_12), (300, ev_33), (301, ev_22), (302, ev_18), (303, ev_23), (304, ev_34), (307, ev_25), (309, ev_26)]
noncomputable def zi_0_6 : ZIs := [(310, ev_13), (311, ev_12), (313, ev_7), (314, ev_22), (315, ev_18), (316, ev_13), (317, ev_12), (319, ev_30), (320, ev_22), (321, ev_18), (322, ev_13), (323, ev_12), (325, ev_31), (326, ev_22), (327, ev_18), (328, ev_13)]
noncomputable def zi_0_7 : ZIs := [(329, ev_12), (331, ev_32), (332, ev_22), (333, ev_18), (334, ev_13), (335, ev_12), (337, ev_33), (338, ev_22), (339, ev_18), (340, ev_35), (343, ev_28), (345, ev_36), (348, ev_21), (349, ev_13), (350, ev_12), (352, ev_7)]
noncomputable def zi_0_8 : ZIs := [(353, ev_22), (354, ev_18), (355, ev_23), (356, ev_37), (359, ev_25), (361, ev_26), (362, ev_13), (363, ev_12), (365, ev_7), (366, ev_22), (367, ev_18), (368, ev_38), (371, ev_28), (373, ev_39), (376, ev_21), (377, ev_13)]
noncomputable def zi_0_9 : ZIs := [(378, ev_12), (380, ev_7), (381, ev_22), (382, ev_18), (383, ev_13), (384, ev_12), (386, ev_30), (387, ev_22), (388, ev_18), (389, ev_13), (390, ev_12), (392, ev_31), (393, ev_22), (394, ev_18), (395, ev_23), (396, ev_40)]
noncomputable def zi_0_10 : ZIs := [(399, ev_25), (401, ev_26), (402, ev_13), (403, ev_12), (405, ev_7), (406, ev_22), (407, ev_18), (408, ev_13), (409, ev_12), (411, ev_30), (412, ev_22), (413, ev_18), (414, ev_13), (415, ev_12), (417, ev_31), (418, ev_22)]
noncomputable def zi_0_11 : ZIs := [(419, ev_18), (420, ev_41), (423, ev_28), (425, ev_42), (428, ev_21), (429, ev_13), (430, ev_12), (432, ev_7), (433, ev_22), (434, ev_18), (435, ev_13), (436, ev_12), (438, ev_30), (439, ev_22), (440, ev_18), (441, ev_23)]
noncomputable def zi_0_12 : ZIs := [(442, ev_43), (445, ev_25), (447, ev_26), (448, ev_13), (449, ev_12), (451, ev_7), (452, ev_22), (453, ev_18), (454, ev_13), (455, ev_12), (457, ev_30), (458, ev_22), (459, ev_18), (460, ev_44), (463, ev_28), (465, ev_45)]
noncomputable def zi_0_13 : ZIs := [(468, ev_21), (469, ev_13), (470, ev_12), (472, ev_7), (473, ev_22), (474, ev_18), (475, ev_23), (476, ev_46), (479, ev_25), (481, ev_26), (482, ev_13), (483, ev_12), (485, ev_7), (486, ev_22), (487, ev_18), (488, ev_47)]
noncomputable def zi_0_14 : ZIs := [(491, ev_28), (493, ev_48), (496, ev_21), (497, ev_49), (500, ev_50), (501, ev_26), (502, ev_51), (505, ev_50), (506, ev_52), (509, ev_21), (510, ev_13), (511, ev_12), (513, ev_7), (514, ev_22), (515, ev_18), (516, ev_23)]
noncomputable def zi_0_15 : ZIs := [(517, ev_53), (520, ev_25), (522, ev_26), (523, ev_13), (524, ev_12), (526, ev_7), (527, ev_22), (528, ev_18), (529, ev_54), (532, ev_28), (534, ev_55), (537, ev_21), (538, ev_13), (539, ev_12), (541, ev_7), (542, ev_22)]
noncomputable def zi_0_16 : ZIs := [(543, ev_18), (544, ev_13), (545, ev_12), (547, ev_30), (548, ev_22), (549, ev_18), (550, ev_23), (551, ev_56), (554, ev_25), (556, ev_26), (557, ev_13), (558, ev_12), (560, ev_7), (561, ev_22), (562, ev_18), (563, ev_13)]
noncomputable def zi_0_17 : ZIs := [(564, ev_12), (566, ev_30), (567, ev_22), (568, ev_18), (569, ev_57), (572, ev_58), (574, ev_59), (577, ev_21), (578, ev_13), (579, ev_12), (581, ev_7), (582, ev_22), (583, ev_18), (584, ev_23), (585, ev_60), (588, ev_25)]
noncomputable def zi_0_18 : ZIs := [(590, ev_26), (591, ev_13), (592, ev_12), (594, ev_7), (595, ev_22), (596, ev_18), (597, ev_61), (600, ev_28), (602, ev_62), (605, ev_21), (606, ev_13), (607, ev_12), (609, ev_7), (610, ev_22), (611, ev_18), (612, ev_13)]
noncomputable def zi_0_19 : ZIs := [(613, ev_12), (615, ev_30), (616, ev_22), (617, ev_18), (618, ev_13), (619, ev_12), (621, ev_31), (622, ev_22), (623, ev_18), (624, ev_23), (625, ev_63), (628, ev_25), (630, ev_26), (631, ev_13), (632, ev_12), (634, ev_7)]
noncomputable def zi_0_20 : ZIs := [(635, ev_22), (636, ev_18), (637, ev_13), (638, ev_12), (640, ev_30), (641, ev_22), (642, ev_18), (643, ev_13), (644, ev_12), (646, ev_31), (647, ev_22), (648, ev_18), (649, ev_64), (652, ev_28), (654, ev_65), (657, ev_21)]
noncomputable def zi_0_21 : ZIs := [(658, ev_13), (659, ev_12), (661, ev_7), (662, ev_22), (663, ev_18), (664, ev_23), (665, ev_66), (668, ev_25), (670, ev_26), (671, ev_13), (672, ev_12), (674, ev_7), (675, ev_22), (676, ev_18), (677, ev_67), (680, ev_28)]
noncomputable def zi_0_22 : ZIs := [(682, ev_68), (685, ev_21), (686, ev_69), (689, ev_50), (690, ev_26), (691, ev_70), (694, ev_50), (695, ev_71), (698, ev_21), (699, ev_72), (702, ev_50), (703, ev_26), (704, ev_73), (707, ev_50), (708, ev_74), (711, ev_21)]
noncomputable def zi_0_23 : ZIs := [(712, ev_13), (713, ev_12), (715, ev_7), (716, ev_22), (717, ev_18), (718, ev_23), (719, ev_75), (722, ev_25), (724, ev_26), (725, ev_13), (726, ev_12), (728, ev_7), (729, ev_22), (730, ev_18), (731, ev_76), (734, ev_28)]
noncomputable def zi_0_24 : ZIs := [(736, ev_77), (739, ev_21), (740, ev_78), (743, ev_50), (744, ev_26), (745, ev_79), (748, ev_50), (749, ev_80), (752, ev_21), (753, ev_13), (754, ev_12), (756, ev_7), (757, ev_22), (758, ev_18), (759, ev_23), (760, ev_81)]
noncomputable def zi_0_25 : ZIs := [(763, ev_25), (765, ev_26), (766, ev_13), (767, ev_12), (769, ev_7), (770, ev_22), (771, ev_18), (772, ev_82), (775, ev_28), (777, ev_83), (780, ev_21), (781, ev_13), (782, ev_12), (784, ev_7), (785, ev_22), (786, ev_18)]
noncomputable def zi_0_26 : ZIs := [(787, ev_13), (788, ev_12), (790, ev_30), (791, ev_22), (792, ev_18), (793, ev_23), (794, ev_84), (797, ev_25), (799, ev_26), (800, ev_13), (801, ev_12), (803, ev_7), (804, ev_22), (805, ev_18), (806, ev_13), (807, ev_12)]
noncomputable def zi_0_27 : ZIs := [(809, ev_30), (810, ev_22), (811, ev_18), (812, ev_85), (815, ev_58), (817, ev_86), (820, ev_21), (821, ev_13), (822, ev_12), (824, ev_7), (825, ev_22), (826, ev_18), (827, ev_13), (828, ev_12), (830, ev_30), (831, ev_22)]
noncomputable def zi_0_28 : ZIs := [(832, ev_18), (833, ev_13), (834, ev_12), (836, ev_31), (837, ev_22), (838, ev_18), (839, ev_23), (840, ev_87), (843, ev_25), (845, ev_26), (846, ev_13), (847, ev_12), (849, ev_7), (850, ev_22), (851, ev_18), (852, ev_13)]
noncomputable def zi_0_29 : ZIs := [(853, ev_12), (855, ev_30), (856, ev_22), (857, ev_18), (858, ev_13), (859, ev_12), (861, ev_31), (862, ev_22), (863, ev_18), (864, ev_88), (867, ev_28), (869, ev_89), (872, ev_21), (873, ev_13), (874, ev_12), (876, ev_7)]
noncomputable def zi_0_30 : ZIs := [(877, ev_22), (878, ev_18), (879, ev_13), (880, ev_12), (882, ev_30), (883, ev_22), (884, ev_18), (885, ev_23), (886, ev_90), (889, ev_25), (891, ev_26), (892, ev_13), (893, ev_12), (895, ev_7), (896, ev_22), (897, ev_18)]
noncomputable def zi_0_31 : ZIs := [(898, ev_13), (899, ev_12), (901, ev_30), (902, ev_22), (903, ev_18), (904, ev_91), (907, ev_28), (909, ev_92), (912, ev_21), (913, ev_13), (914, ev_12), (916, ev_7), (917, ev_22), (918, ev_18), (919, ev_13), (920, ev_12)]
noncomputable def zi_0_32 : ZIs := [(922, ev_30), (923, ev_22), (924, ev_18), (925, ev_23), (926, ev_93), (929, ev_25), (931, ev_26), (932, ev_13), (933, ev_12), (935, ev_7), (936, ev_22), (937, ev_18), (938, ev_13), (939, ev_12), (941, ev_30), (942, ev_22)]
noncomputable def zi_0_33 : ZIs := [(943, ev_18), (944, ev_94), (947, ev_28), (949, ev_95), (952, ev_21), (953, ev_13), (954, ev_12), (956, ev_7), (957, ev_22), (958, ev_18), (959, ev_13), (960, ev_12), (962, ev_30), (963, ev_22), (964, ev_18), (965, ev_13)]
noncomputable def zi_0_34 : ZIs := [(966, ev_12), (968, ev_31), (969, ev_22), (970, ev_18), (971, ev_13), (972, ev_12), (974, ev_32), (975, ev_22), (976, ev_18), (977, ev_23), (978, ev_96), (981, ev_25), (983, ev_26), (984, ev_13), (985, ev_12), (987, ev_7)]
noncomputable def zi_0_35 : ZIs := [(988, ev_22), (989, ev_18), (990, ev_13), (991, ev_12), (993, ev_30), (994, ev_22), (995, ev_18), (996, ev_13), (997, ev_12), (999, ev_31), (1000, ev_22), (1001, ev_18), (1002, ev_13), (1003, ev_12), (1005, ev_32), (1006, ev_22)]
noncomputable def zi_0_36 : ZIs := [(1007, ev_18), (1008, ev_97), (1011, ev_28), (1013, ev_98), (1016, ev_21), (1017, ev_13), (1018, ev_12), (1020, ev_7), (1021, ev_22), (1022, ev_18), (1023, ev_13), (1024, ev_12), (1026, ev_30), (1027, ev_22), (1028, ev_18), (1029, ev_23)]
noncomputable def zi_0_37 : ZIs := [(1030, ev_99), (1033, ev_25), (1035, ev_26), (1036, ev_13), (1037, ev_12), (1039, ev_7), (1040, ev_22), (1041, ev_18), (1042, ev_13), (1043, ev_12), (1045, ev_30), (1046, ev_22), (1047, ev_18), (1048, ev_100), (1051, ev_28), (1053, ev_101)]
noncomputable def zi_0_38 : ZIs := [(1056, ev_21), (1057, ev_13), (1058, ev_12), (1060, ev_7), (1061, ev_22), (1062, ev_18), (1063, ev_23), (1064, ev_102), (1067, ev_25), (1069, ev_26), (1070, ev_13), (1071, ev_12), (1073, ev_7), (1074, ev_22), (1075, ev_18), (1076, ev_103)]
noncomputable def zi_0_39 : ZIs := [(1079, ev_28), (1081, ev_104), (1084, ev_21), (1085, ev_13), (1086, ev_12), (1088, ev_7), (1089, ev_22), (1090, ev_18), (1091, ev_23), (1092, ev_105), (1095, ev_25), (1097, ev_26), (1098, ev_13), (1099, ev_12), (1101, ev_7), (1102, ev_22)]
noncomputable def zi_0_40 : ZIs := [(1103, ev_18), (1104, ev_106), (1107, ev_28), (1109, ev_107), (1112, ev_21), (1113, ev_13), (1114, ev_12), (1116, ev_7), (1117, ev_22), (1118, ev_18), (1119, ev_23), (1120, ev_108), (1123, ev_25), (1125, ev_26), (1126, ev_13), (1127, ev_12)]
noncomputable def zi_0_41 : ZIs := [(1129, ev_7), (1130, ev_22), (1131, ev_18), (1132, ev_109), (1135, ev_28), (1137, ev_110), (1140, ev_21), (1141, ev_13), (1142, ev_12), (1144, ev_7), (1145, ev_22), (1146, ev_18), (1147, ev_23), (1148, ev_111), (1151, ev_25), (1153, ev_26)]
noncomputable def zi_0_42 : ZIs := [(1154, ev_13), (1155, ev_12), (1157, ev_7), (1158, ev_22), (1159, ev_18), (1160, ev_112), (1163, ev_28), (1165, ev_113), (1168, ev_21), (1169, ev_13), (1170, ev_12), (1172, ev_7), (1173, ev_22), (1174, ev_18), (1175, ev_23), (1176, ev_114)]
noncomputable def zi_0_43 : ZIs := [(1179, ev_25), (1181, ev_26), (1182, ev_13), (1183, ev_12), (1185, ev_7), (1186, ev_22), (1187, ev_18), (1188, ev_115), (1191, ev_28), (1193, ev_116), (1196, ev_21), (1197, ev_13), (1198, ev_12), (1200, ev_7), (1201, ev_22), (1202, ev_18)]
noncomputable def zi_0_44 : ZIs := [(1203, ev_23), (1204, ev_117), (1207, ev_25), (1209, ev_26), (1210, ev_13), (1211, ev_12), (1213, ev_7), (1214, ev_22), (1215, ev_18), (1216, ev_118), (1219, ev_28), (1221, ev_119), (1224, ev_21), (1225, ev_13), (1226, ev_12), (1228, ev_7)]
noncomputable def zi_0_45 : ZIs := [(1229, ev_22), (1230, ev_18), (1231, ev_13), (1232, ev_12), (1234, ev_30), (1235, ev_22), (1236, ev_18), (1237, ev_23), (1238, ev_120), (1241, ev_25), (1243, ev_26), (1244, ev_13), (1245, ev_12), (1247, ev_7), (1248, ev_22), (1249, ev_18)]
noncomputable def zi_0_46 : ZIs := [(1250, ev_13), (1251, ev_12), (1253, ev_30), (1254, ev_22), (1255, ev_18), (1256, ev_121), (1259, ev_58), (1261, ev_122), (1264, ev_21), (1265, ev_13), (1266, ev_12), (1268, ev_7), (1269, ev_22), (1270, ev_18), (1271, ev_13), (1272, ev_12)]
noncomputable def zi_0_47 : ZIs := [(1274, ev_30), (1275, ev_22), (1276, ev_18), (1277, ev_13), (1278, ev_12), (1280, ev_31), (1281, ev_22), (1282, ev_18), (1283, ev_23), (1284, ev_123), (1287, ev_25), (1289, ev_26), (1290, ev_13), (1291, ev_12), (1293, ev_7), (1294, ev_22)]
noncomputable def zi_0_48 : ZIs := [(1295, ev_18), (1296, ev_13), (1297, ev_12), (1299, ev_30), (1300, ev_22), (1301, ev_18), (1302, ev_13), (1303, ev_12), (1305, ev_31), (1306, ev_22), (1307, ev_18), (1308, ev_124), (1311, ev_28), (1313, ev_125), (1316, ev_21), (1317, ev_13)]
noncomputable def zi_0_49 : ZIs := [(1318, ev_12), (1320, ev_7), (1321, ev_22), (1322, ev_18), (1323, ev_13), (1324, ev_12), (1326, ev_30), (1327, ev_22), (1328, ev_18), (1329, ev_13), (1330, ev_12), (1332, ev_31), (1333, ev_22), (1334, ev_18), (1335, ev_23), (1336, ev_126)]
noncomputable def zi_0_50 : ZIs := [(1339, ev_25), (1341, ev_26), (1342, ev_13), (1343, ev_12), (1345, ev_7), (1346, ev_22), (1347, ev_18), (1348, ev_13), (1349, ev_12), (1351, ev_30), (1352, ev_22), (1353, ev_18), (1354, ev_13), (1355, ev_12), (1357, ev_31), (1358, ev_22)]
noncomputable def zi_0_51 : ZIs := [(1359, ev_18), (1360, ev_127), (1363, ev_58), (1365, ev_128), (1368, ev_21), (1369, ev_13), (1370, ev_12), (1372, ev_7), (1373, ev_22), (1374, ev_18), (1375, ev_23), (1376, ev_129), (1379, ev_25), (1381, ev_26), (1382, ev_13), (1383, ev_12)]
noncomputable def zi_0_52 : ZIs := [(1385, ev_7), (1386, ev_22), (1387, ev_18), (1388, ev_130), (1391, ev_58), (1393, ev_131), (1396, ev_21), (1397, ev_13), (1398, ev_12), (1400, ev_7), (1401, ev_22), (1402, ev_18), (1403, ev_23), (1404, ev_132), (1407, ev_25), (1409, ev_26)]
noncomputable def zi_0_53 : ZIs := [(1410, ev_13), (1411, ev_12), (1413, ev_7), (1414, ev_22), (1415, ev_18), (1416, ev_133), (1419, ev_58), (1421, ev_134), (1424, ev_21), (1425, ev_13), (1426, ev_12), (1428, ev_7), (1429, ev_22), (1430, ev_18), (1431, ev_23), (1432, ev_135)]
noncomputable def zi_0_54 : ZIs := [(1435, ev_25), (1437, ev_26), (1438, ev_13), (1439, ev_12), (1441, ev_7), (1442, ev_22), (1443, ev_18), (1444, ev_136), (1447, ev_28), (1449, ev_137), (1452, ev_21), (1453, ev_138), (1456, ev_50), (1457, ev_26), (1458, ev_139), (1461, ev_50)]
noncomputable def zi_0_55 : ZIs := [(1462, ev_140), (1465, ev_21), (1466, ev_13), (1467, ev_12), (1469, ev_7), (1470, ev_22), (1471, ev_18), (1472, ev_13), (1473, ev_12), (1475, ev_30), (1476, ev_22), (1477, ev_18), (1478, ev_23), (1479, ev_141), (1482, ev_25), (1484, ev_26)]
noncomputable def zi_0_56 : ZIs := [(1485, ev_13), (1486, ev_12), (1488, ev_7), (1489, ev_22), (1490, ev_18), (1491, ev_13), (1492, ev_12), (1494, ev_30), (1495, ev_22), (1496, ev_18), (1497, ev_142), (1500, ev_58), (1502, ev_143), (1505, ev_21), (1506, ev_13), (1507, ev_12)]
noncomputable def zi_0_57 : ZIs := [(1509, ev_7), (1510, ev_22), (1511, ev_18), (1512, ev_13), (1513, ev_12), (1515, ev_30), (1516, ev_22), (1517, ev_18), (1518, ev_13), (1519, ev_12), (1521, ev_31), (1522, ev_22), (1523, ev_18), (1524, ev_13), (1525, ev_12), (1527, ev_32)]
noncomputable def zi_0_58 : ZIs := [(1528, ev_22), (1529, ev_18), (1530, ev_23), (1531, ev_144), (1534, ev_25), (1536, ev_26), (1537, ev_13), (1538, ev_12), (1540, ev_7), (1541, ev_22), (1542, ev_18), (1543, ev_13), (1544, ev_12), (1546, ev_30), (1547, ev_22), (1548, ev_18)]
noncomputable def zi_0_59 : ZIs := [(1549, ev_13), (1550, ev_12), (1552, ev_31), (1553, ev_22), (1554, ev_18), (1555, ev_13), (1556, ev_12), (1558, ev_32), (1559, ev_22), (1560, ev_18), (1561, ev_145), (1564, ev_28), (1566, ev_146), (1569, ev_21), (1570, ev_13), (1571, ev_12)]
noncomputable def zi_0_60 : ZIs := [(1573, ev_7), (1574, ev_22), (1575, ev_18), (1576, ev_23), (1577, ev_147), (1580, ev_25), (1582, ev_26), (1583, ev_13), (1584, ev_12), (1586, ev_7), (1587, ev_22), (1588, ev_18), (1589, ev_148), (1592, ev_28), (1594, ev_26), (1595, ev_149)]
noncomputable def zi_0_61 : ZIs := [(1598, ev_150), (1600, ev_151), (1603, ev_10), (1604, ev_152), (1605, ev_150), (1607, ev_153), (1610, ev_23), (1611, ev_10), (1612, ev_154), (1613, ev_155), (1615, ev_156), (1616, ev_157), (1617, ev_158), (1620, ev_10), (1621, ev_152), (1622, ev_159)]
noncomputable def zi_0_62 : ZIs := [(1625, ev_21), (1626, ev_160), (1629, ev_161), (1630, ev_26), (1631, ev_162), (1634, ev_161), (1635, ev_163), (1638, ev_21), (1639, ev_13), (1640, ev_12), (1642, ev_7), (1643, ev_22), (1644, ev_18), (1645, ev_23), (1646, ev_164), (1649, ev_25)]
noncomputable def zi_0_63 : ZIs := [(1651, ev_26), (1652, ev_13), (1653, ev_12), (1655, ev_7), (1656, ev_22), (1657, ev_18), (1658, ev_165), (1661, ev_58), (1663, ev_166), (1666, ev_21), (1667, ev_167), (1670, ev_50), (1671, ev_26), (1672, ev_168), (1675, ev_50), (1676, ev_169)]
noncomputable def zi_0_64 : ZIs := [(1679, ev_21), (1680, ev_13), (1681, ev_12), (1683, ev_7), (1684, ev_22), (1685, ev_18), (1686, ev_13), (1687, ev_12), (1689, ev_30), (1690, ev_22), (1691, ev_18), (1692, ev_23), (1693, ev_170), (1696, ev_25), (1698, ev_26), (1699, ev_13)]
noncomputable def zi_0_65 : ZIs := [(1700, ev_12), (1702, ev_7), (1703, ev_22), (1704, ev_18), (1705, ev_13), (1706, ev_12), (1708, ev_30), (1709, ev_22), (1710, ev_18), (1711, ev_171), (1714, ev_28), (1716, ev_172), (1719, ev_21), (1720, ev_173), (1723, ev_50), (1724, ev_26)]
noncomputable def zi_0_66 : ZIs := [(1725, ev_174), (1728, ev_50), (1729, ev_175), (1732, ev_21), (1733, ev_13), (1734, ev_12), (1736, ev_7), (1737, ev_22), (1738, ev_18), (1739, ev_13), (1740, ev_12), (1742, ev_30), (1743, ev_22), (1744, ev_18), (1745, ev_13), (1746, ev_12)]
noncomputable def zi_0_67 : ZIs := [(1748, ev_31), (1749, ev_22), (1750, ev_18), (1751, ev_13), (1752, ev_12), (1754, ev_32), (1755, ev_22), (1756, ev_18), (1757, ev_156), (1758, ev_176), (1760, ev_177), (1761, ev_13), (1762, ev_12), (1764, ev_33), (1765, ev_22), (1766, ev_18)]
noncomputable def zi_0_68 : ZIs := [(1767, ev_156), (1768, ev_178), (1771, ev_179), (1772, ev_180), (1773, ev_23), (1774, ev_181), (1777, ev_25), (1779, ev_26), (1780, ev_13), (1781, ev_12), (1783, ev_7), (1784, ev_22), (1785, ev_18), (1786, ev_13), (1787, ev_12), (1789, ev_30)]
noncomputable def zi_0_69 : ZIs := [(1790, ev_22), (1791, ev_18), (1792, ev_13), (1793, ev_12), (1795, ev_31), (1796, ev_22), (1797, ev_18), (1798, ev_13), (1799, ev_12), (1801, ev_32), (1802, ev_22), (1803, ev_18), (1804, ev_156), (1805, ev_176), (1807, ev_177), (1808, ev_13)]
noncomputable def zi_0_70 : ZIs := [(1809, ev_12), (1811, ev_33), (1812, ev_22), (1813, ev_18), (1814, ev_156), (1815, ev_178), (1818, ev_179), (1819, ev_180), (1820, ev_182), (1823, ev_28), (1825, ev_183), (1828, ev_21), (1829, ev_13), (1830, ev_12), (1832, ev_7), (1833, ev_22)]
noncomputable def zi_0_71 : ZIs := [(1834, ev_18), (1835, ev_23), (1836, ev_184), (1839, ev_25), (1841, ev_26), (1842, ev_13), (1843, ev_12), (1845, ev_7), (1846, ev_22), (1847, ev_18), (1848, ev_185), (1851, ev_58), (1853, ev_186), (1856, ev_21), (1857, ev_13), (1858, ev_12)]
noncomputable def zi_0_72 : ZIs := [(1860, ev_7), (1861, ev_22), (1862, ev_18), (1863, ev_23), (1864, ev_187), (1867, ev_25), (1869, ev_26), (1870, ev_13), (1871, ev_12), (1873, ev_7), (1874, ev_22), (1875, ev_18), (1876, ev_188), (1879, ev_28), (1881, ev_189), (1884, ev_190)]
noncomputable def zi_0_73 : ZIs := [(1887, ev_191), (1890, ev_7), (1891, ev_152)]
set_option maxRecDepth 100000 in
theorem xi_w0 : zall code [zi_0_0, zi_0_1, zi_0_3, zi_0_4, zi_0_5, zi_0_6, zi_0_7, zi_0_8, zi_0_9, zi_0_10, zi_0_11, zi_0_12, zi_0_13, zi_0_14, zi_0_15, zi_0_16, zi_0_17, zi_0_18, zi_0_19, zi_0_20, zi_0_21, zi_0_22, zi_0_23, zi_0_24, zi_0_25, zi_0_26, zi_0_27, zi_0_28, zi_0_29, zi_0_30, zi_0_31, zi_0_32, zi_0_33, zi_0_34, zi_0_35, zi_0_36, zi_0_37, zi_0_38, zi_0_39, zi_0_40, zi_0_41, zi_0_42, zi_0_43, zi_0_44, zi_0_45, zi_0_46, zi_0_47, zi_0_48, zi_0_49, zi_0_50, zi_0_51, zi_0_52, zi_0_53, zi_0_54, zi_0_55, zi_0_56, zi_0_57, zi_0_58, zi_0_59, zi_0_60, zi_0_61, zi_0_62, zi_0_63, zi_0_64, zi_0_65, zi_0_66, zi_0_67, zi_0_68, zi_0_69, zi_0_70, zi_0_71, zi_0_72, zi_0_73] := zall_w _ _ (by decide +kernel)
noncomputable def xi_0 (pc : Nat) : XIs := cond (Nat.blt pc 1030) (cond (Nat.blt pc 590) (cond (Nat.blt pc 378) (cond (Nat.blt pc 267) (cond (Nat.blt pc 40) (cond (Nat.blt pc 27) (zx zi_0_0) (zx zi_0_1)) (cond (Nat.blt pc 244) (xi_0_2) (zx zi_0_3))) (cond (Nat.blt pc 310) (cond (Nat.blt pc 289) (zx zi_0_4) (zx zi_0_5)) (cond (Nat.blt pc 329) (zx zi_0_6) (cond (Nat.blt pc 353) (zx zi_0_7) (zx zi_0_8))))) (cond (Nat.blt pc 468) (cond (Nat.blt pc 419) (cond (Nat.blt pc 399) (zx zi_0_9) (zx zi_0_10)) (cond (Nat.blt pc 442) (zx zi_0_11) (zx zi_0_12))) (cond (Nat.blt pc 517) (cond (Nat.blt pc 491) (zx zi_0_13) (zx zi_0_14)) (cond (Nat.blt pc 543) (zx zi_0_15) (cond (Nat.blt pc 564) (zx zi_0_16) (zx zi_0_17)))))) (cond (Nat.blt pc 809) (cond (Nat.blt pc 682) (cond (Nat.blt pc 635) (cond (Nat.blt pc 613) (zx zi_0_18) (zx zi_0_19)) (cond (Nat.blt pc 658) (zx zi_0_20) (zx zi_0_21))) (cond (Nat.blt pc 736) (cond (Nat.blt pc 712) (zx zi_0_22) (zx zi_0_23)) (cond (Nat.blt pc 763) (zx zi_0_24) (cond (Nat.blt pc 787) (zx zi_0_25) (zx zi_0_26))))) (cond (Nat.blt pc 922) (cond (Nat.blt pc 853) (cond (Nat.blt pc 832) (zx zi_0_27) (zx zi_0_28)) (cond (Nat.blt pc 877) (zx zi_0_29) (cond (Nat.blt pc 898) (zx zi_0_30) (zx zi_0_31)))) (cond (Nat.blt pc 966) (cond (Nat.blt pc 943) (zx zi_0_32) (zx zi_0_33)) (cond (Nat.blt pc 988) (zx zi_0_34) (cond (Nat.blt pc 1007) (zx zi_0_35) (zx zi_0_36))))))) (cond (Nat.blt pc 1462) (cond (Nat.blt pc 1250) (cond (Nat.blt pc 1129) (cond (Nat.blt pc 1079) (cond (Nat.blt pc 1056) (zx zi_0_37) (zx zi_0_38)) (cond (Nat.blt pc 1103) (zx zi_0_39) (zx zi_0_40))) (cond (Nat.blt pc 1179) (cond (Nat.blt pc 1154) (zx zi_0_41) (zx zi_0_42)) (cond (Nat.blt pc 1203) (zx zi_0_43) (cond (Nat.blt pc 1229) (zx zi_0_44) (zx zi_0_45))))) (cond (Nat.blt pc 1339) (cond (Nat.blt pc 1295) (cond (Nat.blt pc 1274) (zx zi_0_46) (zx zi_0_47)) (cond (Nat.blt pc 1318) (zx zi_0_48) (zx zi_0_49))) (cond (Nat.blt pc 1385) (cond (Nat.blt pc 1359) (zx zi_0_50) (zx zi_0_51)) (cond (Nat.blt pc 1410) (zx zi_0_52) (cond (Nat.blt pc 1435) (zx zi_0_53) (zx zi_0_54)))))) (cond (Nat.blt pc 1679) (cond (Nat.blt pc 1549) (cond (Nat.blt pc 1509) (cond (Nat.blt pc 1485) (zx zi_0_55) (zx zi_0_56)) (cond (Nat.blt pc 1528) (zx zi_0_57) (zx zi_0_58))) (cond (Nat.blt pc 1598) (cond (Nat.blt pc 1573) (zx zi_0_59) (zx zi_0_60)) (cond (Nat.blt pc 1625) (zx zi_0_61) (cond (Nat.blt pc 1651) (zx zi_0_62) (zx zi_0_63))))) (cond (Nat.blt pc 1790) (cond (Nat.blt pc 1725) (cond (Nat.blt pc 1700) (zx zi_0_64) (zx zi_0_65)) (cond (Nat.blt pc 1748) (zx zi_0_66) (cond (Nat.blt pc 1767) (zx zi_0_67) (zx zi_0_68)))) (cond (Nat.blt pc 1834) (cond (Nat.blt pc 1809) (zx zi_0_69) (zx zi_0_70)) (cond (Nat.blt pc 1860) (zx zi_0_71) (cond (Nat.blt pc 1887) (zx zi_0_72) (zx zi_0_73)))))))
theorem xi_ok0 (pc : Nat) : xi_ok code (xi_0 pc) = true := xi_c (xi_c (xi_c (xi_c (xi_c (xi_c (zq1 xi_w0) (zq1 (zq2 xi_w0))) (xi_c (xi_ok0_2) (zq1 (zq2 (zq2 xi_w0))))) (xi_c (xi_c (zq1 (zq2 (zq2 (zq2 xi_w0)))) (zq1 (zq2 (zq2 (zq2 (zq2 xi_w0)))))) (xi_c (zq1 (zq2 (zq2 (zq2 (zq2 (zq2 xi_w0)))))) (xi_c (zq1 (zq2 (zq2 (zq2 (zq2 (zq2 (zq2 xi_w0))))))) (zq1 (zq2 (zq2 (zq2 (zq2 (zq2 (zq2 (zq2 xi_w0)))))))))))) (xi_c (xi_c (xi_c (zq1 (zq2 (zq2 (zq2 (zq2 (zq2 (zq2 (zq2 (zq2 xi_w0))))))))) (zq1 (zq2 (zq2 (zq2 (zq2 (zq2 (zq2 (zq2 (zq2 (zq2 xi_w0))))))))))) (xi_c (zq1 (zq2 (zq2 (zq2 (zq2 (zq2 (zq2 (zq2 (zq2 (zq2 (zq2 xi_w0))))))))))) (zq1 (zq2 (zq2 (zq2 (zq2 (zq2 (zq2 (zq2 (zq2 (zq2 (zq2 (zq2 xi_w0)))))))))))))) (xi_c (xi_c (zq1 (zq2 (zq2 (zq2 (zq2 (zq2 (zq2 (zq2 (zq2 (zq2 (zq2 (zq2 (zq2 xi_w0))))))))))))) (zq1 (zq2 (zq2 (zq2 (zq2 (zq2 (zq2 (zq2 (zq2 (zq2 (zq2 (zq2 (zq2 (zq2 xi_w0))))))))))))))) (xi_c (zq1 (zq2 (zq2 (zq2 (zq2 (zq2 (zq2 (zq2 (zq2 (zq2 (zq2 (zq2 (zq2 (zq2 (zq2 xi_w0))))))))))))))) (xi_c (zq1 (zq2 (zq2 (zq2 (zq2 (zq2 (zq2 (zq2 (zq2 (zq2 (zq2 (zq2 (zq2 (zq2 (zq2 (zq2 xi_w0)))))))))))))))) (zq1 (zq2 (zq2 (zq2 (zq2 (zq2 (zq2 (zq2 (zq2 (zq2 (zq2 (zq2 (zq2 (zq2 (zq2 (zq2 (zq2 xi_w0)))))))))))))))))))))) (xi_c (xi_c (xi_c (xi_c (zq1 (zq2 (zq2 (zq2 (zq2 (zq2 (zq2 (zq2 (zq2 (zq2 (zq2 (zq2 (zq2 (zq2 (zq2 (zq2 (zq2 (zq2 xi_w0)))))))))))))))))) (zq1 (zq2 (zq2 (zq2 (zq2 (zq2 (zq2 (zq2 (zq2 (zq2 (zq2 (zq2 (zq2 (zq2 (zq2 (zq2 (zq2 (zq2 (zq2 xi_w0)))))))))))))))))))) (xi_c (zq1 (zq2 (zq2 (zq2 (zq2 (zq2 (zq2 (zq2 (zq2 (zq2 (zq2 (zq2 (zq2 (zq2 (zq2 (zq2 (zq2 (zq2 (zq2 (zq2 xi_w0)))))))))))))))))))) (zq1 (zq2 (zq2 (zq2 (zq2 (zq2 (zq2 (zq2 (zq2 (zq2 (zq2 (zq2 (zq2 (zq2 (zq2 (zq2 (zq2 (zq2 (zq2 (zq2 (zq2 xi_w0))))))))))))))))))))))) (xi_c (xi_c (zq1 (zq2 (zq2 (zq2 (zq2 (zq2 (zq2 (zq2 (zq2 (zq2 (zq2 (zq2 (zq2 (zq2 (zq2 (zq2 (zq2 (zq2 (zq2 (zq2 (zq2 (zq2 xi_w0)))))))))))))))))))))) (zq1 (zq2 (zq2 (zq2 (zq2 (zq2 (zq2 (zq2 (zq2 (zq2 (zq2 (zq2 (zq2 (zq2 (zq2 (zq2 (zq2 (zq2 (zq2 (zq2 (zq2 (zq2 (zq2 xi_w0)))))))))))))))))))))))) (xi_c (zq1 (zq2 (zq2 (zq2 (zq2 (zq2 (zq2 (zq2 (zq2 (zq2 (zq2 (zq2 (zq2 (zq2 (zq2 (zq2 (zq2 (zq2 (zq2 (zq2 (zq2 (zq2 (zq2 (zq2 xi_w0)))))))))))))))))))))))) (xi_c (zq1 (zq2 (zq2 (zq2 (zq2 (zq2 (zq2 (zq2 (zq2 (zq2 (zq2 (zq2 (zq2 (zq2 (zq2 (zq2 (zq2 (zq2 (zq2 (zq2 (zq2 (zq2 (zq2 (zq2 (zq2 xi_w0))))))))))))))))))))))))) (zq1 (zq2 (zq2 (zq2 (zq2 (zq2 (zq2 (zq2 (zq2 (zq2 (zq2 (zq2 (zq2 (zq2 (zq2 (zq2 (zq2 (zq2 (zq2 (zq2 (zq2 (zq2 (zq2 (zq2 (zq2 (zq2 xi_w0)))))))))))))))))))))))))))))) (xi_c (xi_c (xi_c (zq1 (zq2 (zq2 (zq2 (zq2 (zq2 (zq2 (zq2 (zq2 (zq2 (zq2 (zq2 (zq2 (zq2 (zq2 (zq2 (zq2 (zq2 (zq2 (zq2 (zq2 (zq2 (zq2 (zq2 (zq2 (zq2 (zq2 xi_w0))))))))))))))))))))))))))) (zq1 (zq2 (zq2 (zq2 (zq2 (zq2 (zq2 (zq2 (zq2 (zq2 (zq2 (zq2 (zq2 (zq2 (zq2 (zq2 (zq2 (zq2 (zq2 (zq2 (zq2 (zq2 (zq2 (zq2 (zq2 (zq2 (zq2 (zq2 xi_w0))))))))))))))))))))))))))))) (xi_c (zq1 (zq2 (zq2 (zq2 (zq2 (zq2 (zq2 (zq2 (zq2 (zq2 (zq2 (zq2 (zq2 (zq2 (zq2 (zq2 (zq2 (zq2 (zq2 (zq2 (zq2 (zq2 (zq2 (zq2 (zq2 (zq2 (zq2 (zq2 (zq2 xi_w0))))))))))))))))))))))))))))) (xi_c (zq1 (zq2 (zq2 (zq2 (zq2 (zq2 (zq2 (zq2 (zq2 (zq2 (zq2 (zq2 (zq2 (zq2 (zq2 (zq2 (zq2 (zq2 (zq2 (zq2 (zq2 (zq2 (zq2 (zq2 (zq2 (zq2 (zq2 (zq2 (zq2 (zq2 xi_w0)))))))))))))))))))))))))))))) (zq1 (zq2 (zq2 (zq2 (zq2 (zq2 (zq2 (zq2 (zq2 (zq2 (zq2 (zq2 (zq2 (zq2 (zq2 (zq2 (zq2 (zq2 (zq2 (zq2 (zq2 (zq2 (zq2 (zq2 (zq2 (zq2 (zq2 (zq2 (zq2 (zq2 (zq2 xi_w0)))))))))))))))))))))))))))))))))) (xi_c (xi_c (zq1 (zq2 (zq2 (zq2 (zq2 (zq2 (zq2 (zq2 (zq2 (zq2 (zq2 (zq2 (zq2 (zq2 (zq2 (zq2 (zq2 (zq2 (zq2 (zq2 (zq2 (zq2 (zq2 (zq2 (zq2 (zq2 (zq2 (zq2 (zq2 (zq2 (zq2 (zq2 xi_w0)))))))))))))))))))))))))))))))) (zq1 (zq2 (zq2 (zq2 (zq2 (zq2 (zq2 (zq2 (zq2 (zq2 (zq2 (zq2 (zq2 (zq2 (zq2 (zq2 (zq2 (zq2 (zq2 (zq2 (zq2 (zq2 (zq2 (zq2 (zq2 (zq2 (zq2 (zq2 (zq2 (zq2 (zq2 (zq2 (zq2 xi_w0)))))))))))))))))))))))))))))))))) (xi_c (zq1 (zq2 (zq2 (zq2 (zq2 (zq2 (zq2 (zq2 (zq2 (zq2 (zq2 (zq2 (zq2 (zq2 (zq2 (zq2 (zq2 (zq2 (zq2 (zq2 (zq2 (zq2 (zq2 (zq2 (zq2 (zq2 (zq2 (zq2 (zq2 (zq2 (zq2 (zq2 (zq2 (zq2 xi_w0)))))))))))))))))))))))))))))))))) (xi_c (zq1 (zq2 (zq2 (zq2 (zq2 (zq2 (zq2 (zq2 (zq2 (zq2 (zq2 (zq2 (zq2 (zq2 (zq2 (zq2 (zq2 (zq2 (zq2 (zq2 (zq2 (zq2 (zq2 (zq2 (zq2 (zq2 (zq2 (zq2 (zq2 (zq2 (zq2 (zq2 (zq2 (zq2 (zq2 xi_w0))))))))))))))))))))))))))))))))))) (zq1 (zq2 (zq2 (zq2 (zq2 (zq2 (zq2 (zq2 (zq2 (zq2 (zq2 (zq2 (zq2 (zq2 (zq2 (zq2 (zq2 (zq2 (zq2 (zq2 (zq2 (zq2 (zq2 (zq2 (zq2 (zq2 (zq2 (zq2 (zq2 (zq2 (zq2 (zq2 (zq2 (zq2 (zq2 (zq2 xi_w0)))))))))))))))))))))))))))))))))))))))))) (xi_c (xi_c (xi_c (xi_c (xi_c (zq1 (zq2 (zq2 (zq2 (zq2 (zq2 (zq2 (zq2 (zq2 (zq2 (zq2 (zq2 (zq2 (zq2 (zq2 (zq2 (zq2 (zq2 (zq2 (zq2 (zq2 (zq2 (zq2 (zq2 (zq2 (zq2 (zq2 (zq2 (zq2 (zq2 (zq2 (zq2 (zq2 (zq2 (zq2 (zq2 (zq2 xi_w0))))))))))))))))))))))))))))))))))))) (zq1 (zq2 (zq2 (zq2 (zq2 (zq2 (zq2 (zq2 (zq2 (zq2 (zq2 (zq2 (zq2 (zq2 (zq2 (zq2 (zq2 (zq2 (zq2 (zq2 (zq2 (zq2 (zq2 (zq2 (zq2 (zq2 (zq2 (zq2 (zq2 (zq2 (zq2 (zq2 (zq2 (zq2 (zq2 (zq2 (zq2 (zq2 xi_w0))))))))))))))))))))))))))))))))))))))) (xi_c (zq1 (zq2 (zq2 (zq2 (zq2 (zq2 (zq2 (zq2 (zq2 (zq2 (zq2 (zq2 (zq2 (zq2 (zq2 (zq2 (zq2 (zq2 (zq2 (zq2 (zq2 (zq2 (zq2 (zq2 (zq2 (zq2 (zq2 (zq2 (zq2 (zq2 (zq2 (zq2 (zq2 (zq2 (zq2 (zq2 (zq2 (zq2 (zq2 xi_w0))))))))))))))))))))))))))))))))))))))) (zq1 (zq2 (zq2 (zq2 (zq2 (zq2 (zq2 (zq2 (zq2 (zq2 (zq2 (zq2 (zq2 (zq2 (zq2 (zq2 (zq2 (zq2 (zq2 (zq2 (zq2 (zq2 (zq2 (zq2 (zq2 (zq2 (zq2 (zq2 (zq2 (zq2 (zq2 (zq2 (zq2 (zq2 (zq2 (zq2 (zq2 (zq2 (zq2 (zq2 xi_w0)))))))))))))))))))))))))))))))))))))))))) (xi_c (xi_c (zq1 (zq2 (zq2 (zq2 (zq2 (zq2 (zq2 (zq2 (zq2 (zq2 (zq2 (zq2 (zq2 (zq2 (zq2 (zq2 (zq2 (zq2 (zq2 (zq2 (zq2 (zq2 (zq2 (zq2 (zq2 (zq2 (zq2 (zq2 (zq2 (zq2 (zq2 (zq2 (zq2 (zq2 (zq2 (zq2 (zq2 (zq2 (zq2 (zq2 (zq2 xi_w0))))))))))))))))))))))))))))))))))))))))) (zq1 (zq2 (zq2 (zq2 (zq2 (zq2 (zq2 (zq2 (zq2 (zq2 (zq2 (zq2 (zq2 (zq2 (zq2 (zq2 (zq2 (zq2 (zq2 (zq2 (zq2 (zq2 (zq2 (zq2 (zq2 (zq2 (zq2 (zq2 (zq2 (zq2 (zq2 (zq2 (zq2 (zq2 (zq2 (zq2 (zq2 (zq2 (zq2 (zq2 (zq2 (zq2 xi_w0))))))))))))))))))))))))))))))))))))))))))) (xi_c (zq1 (zq2 (zq2 (zq2 (zq2 (zq2 (zq2 (zq2 (zq2 (zq2 (zq2 (zq2 (zq2 (zq2 (zq2 (zq2 (zq2 (zq2 (zq2 (zq2 (zq2 (zq2 (zq2 (zq2 (zq2 (zq2 (zq2 (zq2 (zq2 (zq2 (zq2 (zq2 (zq2 (zq2 (zq2 (zq2 (zq2 (zq2 (zq2 (zq2 (zq2 (zq2 (zq2 xi_w0))))))))))))))))))))))))))))))))))))))))))) (xi_c (zq1 (zq2 (zq2 (zq2 (zq2 (zq2 (zq2 (zq2 (zq2 (zq2 (zq2 (zq2 (zq2 (zq2 (zq2 (zq2 (zq2 (zq2 (zq2 (zq2 (zq2 (zq2 (zq2 (zq2 (zq2 (zq2 (zq2 (zq2 (zq2 (zq2 (zq2 (zq2 (zq2 (zq2 (zq2 (zq2 (zq2 (zq2 (zq2 (zq2 (zq2 (zq2 (zq2 (zq2 xi_w0)))))))))))))))))))))))))))))))))))))))))))) (zq1 (zq2 (zq2 (zq2 (zq2 (zq2 (zq2 (zq2 (zq2 (zq2 (zq2 (zq2 (zq2 (zq2 (zq2 (zq2 (zq2 (zq2 (zq2 (zq2 (zq2 (zq2 (zq2 (zq2 (zq2 (zq2 (zq2 (zq2 (zq2 (zq2 (zq2 (zq2 (zq2 (zq2 (zq2 (zq2 (zq2 (zq2 (zq2 (zq2 (zq2 (zq2 (zq2 (zq2 (zq2 xi_w0))))))))))))))))))))))))))))))))))))))))))))))))) (xi_c (xi_c (xi_c (zq1 (zq2 (zq2 (zq2 (zq2 (zq2 (zq2 (zq2 (zq2 (zq2 (zq2 (zq2 (zq2 (zq2 (zq2 (zq2 (zq2 (zq2 (zq2 (zq2 (zq2 (zq2 (zq2 (zq2 (zq2 (zq2 (zq2 (zq2 (zq2 (zq2 (zq2 (zq2 (zq2 (zq2 (zq2 (zq2 (zq2 (zq2 (zq2 (zq2 (zq2 (zq2 (zq2 (zq2 (zq2 (zq2 xi_w0)))))))))))))))))))))))))))))))))))))))))))))) (zq1 (zq2 (zq2 (zq2 (zq2 (zq2 (zq2 (zq2 (zq2 (zq2 (zq2 (zq2 (zq2 (zq2 (zq2 (zq2 (zq2 (zq2 (zq2 (zq2 (zq2 (zq2 (zq2 (zq2 (zq2 (zq2 (zq2 (zq2 (zq2 (zq2 (zq2 (zq2 (zq2 (zq2 (zq2 (zq2 (zq2 (zq2 (zq2 (zq2 (zq2 (zq2 (zq2 (zq2 (zq2 (zq2 (zq2 xi_w0)))))))))))))))))))))))))))))))))))))))))))))))) (xi_c (zq1 (zq2 (zq2 (zq2 (zq2 (zq2 (zq2 (zq2 (zq2 (zq2 (zq2 (zq2 (zq2 (zq2 (zq2 (zq2 (zq2 (zq2 (zq2 (zq2 (zq2 (zq2 (zq2 (zq2 (zq2 (zq2 (zq2 (zq2 (zq2 (zq2 (zq2 (zq2 (zq2 (zq2 (zq2 (zq2 (zq2 (zq2 (zq2 (zq2 (zq2 (zq2 (zq2 (zq2 (zq2 (zq2 (zq2 (zq2 xi_w0)))))))))))))))))))))))))))))))))))))))))))))))) (zq1 (zq2 (zq2 (zq2 (zq2 (zq2 (zq2 (zq2 (zq2 (zq2 (zq2 (zq2 (zq2 (zq2 (zq2 (zq2 (zq2 (zq2 (zq2 (zq2 (zq2 (zq2 (zq2 (zq2 (zq2 (zq2 (zq2 (zq2 (zq2 (zq2 (zq2 (zq2 (zq2 (zq2 (zq2 (zq2 (zq2 (zq2 (zq2 (zq2 (zq2 (zq2 (zq2 (zq2 (zq2 (zq2 (zq2 (zq2 (zq2 xi_w0))))))))))))))))))))))))))))))))))))))))))))))))))) (xi_c (xi_c (zq1 (zq2 (zq2 (zq2 (zq2 (zq2 (zq2 (zq2 (zq2 (zq2 (zq2 (zq2 (zq2 (zq2 (zq2 (zq2 (zq2 (zq2 (zq2 (zq2 (zq2 (zq2 (zq2 (zq2 (zq2 (zq2 (zq2 (zq2 (zq2 (zq2 (zq2 (zq2 (zq2 (zq2 (zq2 (zq2 (zq2 (zq2 (zq2 (zq2 (zq2 (zq2 (zq2 (zq2 (zq2 (zq2 (zq2 (zq2 (zq2 (zq2 xi_w0)))))))))))))))))))))))))))))))))))))))))))))))))) (zq1 (zq2 (zq2 (zq2 (zq2 (zq2 (zq2 (zq2 (zq2 (zq2 (zq2 (zq2 (zq2 (zq2 (zq2 (zq2 (zq2 (zq2 (zq2 (zq2 (zq2 (zq2 (zq2 (zq2 (zq2 (zq2 (zq2 (zq2 (zq2 (zq2 (zq2 (zq2 (zq2 (zq2 (zq2 (zq2 (zq2 (zq2 (zq2 (zq2 (zq2 (zq2 (zq2 (zq2 (zq2 (zq2 (zq2 (zq2 (zq2 (zq2 (zq2 xi_w0)))))))))))))))))))))))))))))))))))))))))))))))))))) (xi_c (zq1 (zq2 (zq2 (zq2 (zq2 (zq2 (zq2 (zq2 (zq2 (zq2 (zq2 (zq2 (zq2 (zq2 (zq2 (zq2 (zq2 (zq2 (zq2 (zq2 (zq2 (zq2 (zq2 (zq2 (zq2 (zq2 (zq2 (zq2 (zq2 (zq2 (zq2 (zq2 (zq2 (zq2 (zq2 (zq2 (zq2 (zq2 (zq2 (zq2 (zq2 (zq2 (zq2 (zq2 (zq2 (zq2 (zq2 (zq2 (zq2 (zq2 (zq2 (zq2 xi_w0)))))))))))))))))))))))))))))))))))))))))))))))))))) (xi_c (zq1 (zq2 (zq2 (zq2 (zq2 (zq2 (zq2 (zq2 (zq2 (zq2 (zq2 (zq2 (zq2 (zq2 (zq2 (zq2 (zq2 (zq2 (zq2 (zq2 (zq2 (zq2 (zq2 (zq2 (zq2 (zq2 (zq2 (zq2 (zq2 (zq2 (zq2 (zq2 (zq2 (zq2 (zq2 (zq2 (zq2 (zq2 (zq2 (zq2 (zq2 (zq2 (zq2 (zq2 (zq2 (zq2 (zq2 (zq2 (zq2 (zq2 (zq2 (zq2 (zq2 xi_w0))))))))))))))))))))))))))))))))))))))))))))))))))))) (zq1 (zq2 (zq2 (zq2 (zq2 (zq2 (zq2 (zq2 (zq2 (zq2 (zq2 (zq2 (zq2 (zq2 (zq2 (zq2 (zq2 (zq2 (zq2 (zq2 (zq2 (zq2 (zq2 (zq2 (zq2 (zq2 (zq2 (zq2 (zq2 (zq2 (zq2 (zq2 (zq2 (zq2 (zq2 (zq2 (zq2 (zq2 (zq2 (zq2 (zq2 (zq2 (zq2 (zq2 (zq2 (zq2 (zq2 (zq2 (zq2 (zq2 (zq2 (zq2 (zq2 (zq2 xi_w0))))))))))))))))))))))))))))))))))))))))))))))))))))))))))) (xi_c (xi_c (xi_c (xi_c (zq1 (zq2 (zq2 (zq2 (zq2 (zq2 (zq2 (zq2 (zq2 (zq2 (zq2 (zq2 (zq2 (zq2 (zq2 (zq2 (zq2 (zq2 (zq2 (zq2 (zq2 (zq2 (zq2 (zq2 (zq2 (zq2 (zq2 (zq2 (zq2 (zq2 (zq2 (zq2 (zq2 (zq2 (zq2 (zq2 (zq2 (zq2 (zq2 (zq2 (zq2 (zq2 (zq2 (zq2 (zq2 (zq2 (zq2 (zq2 (zq2 (zq2 (zq2 (zq2 (zq2 (zq2 (zq2 xi_w0))))))))))))))))))))))))))))))))))))))))))))))))))))))) (zq1 (zq2 (zq2 (zq2 (zq2 (zq2 (zq2 (zq2 (zq2 (zq2 (zq2 (zq2 (zq2 (zq2 (zq2 (zq2 (zq2 (zq2 (zq2 (zq2 (zq2 (zq2 (zq2 (zq2 (zq2 (zq2 (zq2 (zq2 (zq2 (zq2 (zq2 (zq2 (zq2 (zq2 (zq2 (zq2 (zq2 (zq2 (zq2 (zq2 (zq2 (zq2 (zq2 (zq2 (zq2 (zq2 (zq2 (zq2 (zq2 (zq2 (zq2 (zq2 (zq2 (zq2 (zq2 (zq2 xi_w0))))))))))))))))))))))))))))))))))))))))))))))))))))))))) (xi_c (zq1 (zq2 (zq2 (zq2 (zq2 (zq2 (zq2 (zq2 (zq2 (zq2 (zq2 (zq2 (zq2 (zq2 (zq2 (zq2 (zq2 (zq2 (zq2 (zq2 (zq2 (zq2 (zq2 (zq2 (zq2 (zq2 (zq2 (zq2 (zq2 (zq2 (zq2 (zq2 (zq2 (zq2 (zq2 (zq2 (zq2 (zq2 (zq2 (zq2 (zq2 (zq2 (zq2 (zq2 (zq2 (zq2 (zq2 (zq2 (zq2 (zq2 (zq2 (zq2 (zq2 (zq2 (zq2 (zq2 (zq2 xi_w0))))))))))))))))))))))))))))))))))))))))))))))))))))))))) (zq1 (zq2 (zq2 (zq2 (zq2 (zq2 (zq2 (zq2 (zq2 (zq2 (zq2 (zq2 (zq2 (zq2 (zq2 (zq2 (zq2 (zq2 (zq2 (zq2 (zq2 (zq2 (zq2 (zq2 (zq2 (zq2 (zq2 (zq2 (zq2 (zq2 (zq2 (zq2 (zq2 (zq2 (zq2 (zq2 (zq2 (zq2 (zq2 (zq2 (zq2 (zq2 (zq2 (zq2 (zq2 (zq2 (zq2 (zq2 (zq2 (zq2 (zq2 (zq2 (zq2 (zq2 (zq2 (zq2 (zq2 (zq2 xi_w0)))))))))))))))))))))))))))))))))))))))))))))))))))))))))))) (xi_c (xi_c (zq1 (zq2 (zq2 (zq2 (zq2 (zq2 (zq2 (zq2 (zq2 (zq2 (zq2 (zq2 (zq2 (zq2 (zq2 (zq2 (zq2 (zq2 (zq2 (zq2 (zq2 (zq2 (zq2 (zq2 (zq2 (zq2 (zq2 (zq2 (zq2 (zq2 (zq2 (zq2 (zq2 (zq2 (zq2 (zq2 (zq2 (zq2 (zq2 (zq2 (zq2 (zq2 (zq2 (zq2 (zq2 (zq2 (zq2 (zq2 (zq2 (zq2 (zq2 (zq2 (zq2 (zq2 (zq2 (zq2 (zq2 (zq2 (zq2 xi_w0))))))))))))))))))))))))))))))))))))))))))))))))))))))))))) (zq1 (zq2 (zq2 (zq2 (zq2 (zq2 (zq2 (zq2 (zq2 (zq2 (zq2 (zq2 (zq2 (zq2 (zq2 (zq2 (zq2 (zq2 (zq2 (zq2 (zq2 (zq2 (zq2 (zq2 (zq2 (zq2 (zq2 (zq2 (zq2 (zq2 (zq2 (zq2 (zq2 (zq2 (zq2 (zq2 (zq2 (zq2 (zq2 (zq2 (zq2 (zq2 (zq2 (zq2 (zq2 (zq2 (zq2 (zq2 (zq2 (zq2 (zq2 (zq2 (zq2 (zq2 (zq2 (zq2 (zq2 (zq2 (zq2 (zq2 xi_w0))))))))))))))))))))))))))))))))))))))))))))))))))))))))))))) (xi_c (zq1 (zq2 (zq2 (zq2 (zq2 (zq2 (zq2 (zq2 (zq2 (zq2 (zq2 (zq2 (zq2 (zq2 (zq2 (zq2 (zq2 (zq2 (zq2 (zq2 (zq2 (zq2 (zq2 (zq2 (zq2 (zq2 (zq2 (zq2 (zq2 (zq2 (zq2 (zq2 (zq2 (zq2 (zq2 (zq2 (zq2 (zq2 (zq2 (zq2 (zq2 (zq2 (zq2 (zq2 (zq2 (zq2 (zq2 (zq2 (zq2 (zq2 (zq2 (zq2 (zq2 (zq2 (zq2 (zq2 (zq2 (zq2 (zq2 (zq2 (zq2 xi_w0))))))))))))))))))))))))))))))))))))))))))))))))))))))))))))) (xi_c (zq1 (zq2 (zq2 (zq2 (zq2 (zq2 (zq2 (zq2 (zq2 (zq2 (zq2 (zq2 (zq2 (zq2 (zq2 (zq2 (zq2 (zq2 (zq2 (zq2 (zq2 (zq2 (zq2 (zq2 (zq2 (zq2 (zq2 (zq2 (zq2 (zq2 (zq2 (zq2 (zq2 (zq2 (zq2 (zq2 (zq2 (zq2 (zq2 (zq2 (zq2 (zq2 (zq2 (zq2 (zq2 (zq2 (zq2 (zq2 (zq2 (zq2 (zq2 (zq2 (zq2 (zq2 (zq2 (zq2 (zq2 (zq2 (zq2 (zq2 (zq2 (zq2 xi_w0)))))))))))))))))))))))))))))))))))))))))))))))))))))))))))))) (zq1 (zq2 (zq2 (zq2 (zq2 (zq2 (zq2 (zq2 (zq2 (zq2 (zq2 (zq2 (zq2 (zq2 (zq2 (zq2 (zq2 (zq2 (zq2 (zq2 (zq2 (zq2 (zq2 (zq2 (zq2 (zq2 (zq2 (zq2 (zq2 (zq2 (zq2 (zq2 (zq2 (zq2 (zq2 (zq2 (zq2 (zq2 (zq2 (zq2 (zq2 (zq2 (zq2 (zq2 (zq2 (zq2 (zq2 (zq2 (zq2 (zq2 (zq2 (zq2 (zq2 (zq2 (zq2 (zq2 (zq2 (zq2 (zq2 (zq2 (zq2 (zq2 (zq2 xi_w0))))))))))))))))))))))))))))))))))))))))))))))))))))))))))))))))))) (xi_c (xi_c (xi_c (zq1 (zq2 (zq2 (zq2 (zq2 (zq2 (zq2 (zq2 (zq2 (zq2 (zq2 (zq2 (zq2 (zq2 (zq2 (zq2 (zq2 (zq2 (zq2 (zq2 (zq2 (zq2 (zq2 (zq2 (zq2 (zq2 (zq2 (zq2 (zq2 (zq2 (zq2 (zq2 (zq2 (zq2 (zq2 (zq2 (zq2 (zq2 (zq2 (zq2 (zq2 (zq2 (zq2 (zq2 (zq2 (zq2 (zq2 (zq2 (zq2 (zq2 (zq2 (zq2 (zq2 (zq2 (zq2 (zq2 (zq2 (zq2 (zq2 (zq2 (zq2 (zq2 (zq2 (zq2 xi_w0)))))))))))))))))))))))))))))))))))))))))))))))))))))))))))))))) (zq1 (zq2 (zq2 (zq2 (zq2 (zq2 (zq2 (zq2 (zq2 (zq2 (zq2 (zq2 (zq2 (zq2 (zq2 (zq2 (zq2 (zq2 (zq2 (zq2 (zq2 (zq2 (zq2 (zq2 (zq2 (zq2 (zq2 (zq2 (zq2 (zq2 (zq2 (zq2 (zq2 (zq2 (zq2 (zq2 (zq2 (zq2 (zq2 (zq2 (zq2 (zq2 (zq2 (zq2 (zq2 (zq2 (zq2 (zq2 (zq2 (zq2 (zq2 (zq2 (zq2 (zq2 (zq2 (zq2 (zq2 (zq2 (zq2 (zq2 (zq2 (zq2 (zq2 (zq2 (zq2 xi_w0)))))))))))))))))))))))))))))))))))))))))))))))))))))))))))))))))) (xi_c (zq1 (zq2 (zq2 (zq2 (zq2 (zq2 (zq2 (zq2 (zq2 (zq2 (zq2 (zq2 (zq2 (zq2 (zq2 (zq2 (zq2 (zq2 (zq2 (zq2 (zq2 (zq2 (zq2 (zq2 (zq2 (zq2 (zq2 (zq2 (zq2 (zq2 (zq2 (zq2 (zq2 (zq2 (zq2 (zq2 (zq2 (zq2 (zq2 (zq2 (zq2 (zq2 (zq2 (zq2 (zq2 (zq2 (zq2 (zq2 (zq2 (zq2 (zq2 (zq2 (zq2 (zq2 (zq2 (zq2 (zq2 (zq2 (zq2 (zq2 (zq2 (zq2 (zq2 (zq2 (zq2 (zq2 xi_w0)))))))))))))))))))))))))))))))))))))))))))))))))))))))))))))))))) (xi_c (zq1 (zq2 (zq2 (zq2 (zq2 (zq2 (zq2 (zq2 (zq2 (zq2 (zq2 (zq2 (zq2 (zq2 (zq2 (zq2 (zq2 (zq2 (zq2 (zq2 (zq2 (zq2 (zq2 (zq2 (zq2 (zq2 (zq2 (zq2 (zq2 (zq2 (zq2 (zq2 (zq2 (zq2 (zq2 (zq2 (zq2 (zq2 (zq2 (zq2 (zq2 (zq2 (zq2 (zq2 (zq2 (zq2 (zq2 (zq2 (zq2 (zq2 (zq2 (zq2 (zq2 (zq2 (zq2 (zq2 (zq2 (zq2 (zq2 (zq2 (zq2 (zq2 (zq2 (zq2 (zq2 (zq2 (zq2 xi_w0))))))))))))))))))))))))))))))))))))))))))))))))))))))))))))))))))) (zq1 (zq2 (zq2 (zq2 (zq2 (zq2 (zq2 (zq2 (zq2 (zq2 (zq2 (zq2 (zq2 (zq2 (zq2 (zq2 (zq2 (zq2 (zq2 (zq2 (zq2 (zq2 (zq2 (zq2 (zq2 (zq2 (zq2 (zq2 (zq2 (zq2 (zq2 (zq2 (zq2 (zq2 (zq2 (zq2 (zq2 (zq2 (zq2 (zq2 (zq2 (zq2 (zq2 (zq2 (zq2 (zq2 (zq2 (zq2 (zq2 (zq2 (zq2 (zq2 (zq2 (zq2 (zq2 (zq2 (zq2 (zq2 (zq2 (zq2 (zq2 (zq2 (zq2 (zq2 (zq2 (zq2 (zq2 (zq2 xi_w0))))))))))))))))))))))))))))))))))))))))))))))))))))))))))))))))))))))) (xi_c (xi_c (zq1 (zq2 (zq2 (zq2 (zq2 (zq2 (zq2 (zq2 (zq2 (zq2 (zq2 (zq2 (zq2 (zq2 (zq2 (zq2 (zq2 (zq2 (zq2 (zq2 (zq2 (zq2 (zq2 (zq2 (zq2 (zq2 (zq2 (zq2 (zq2 (zq2 (zq2 (zq2 (zq2 (zq2 (zq2 (zq2 (zq2 (zq2 (zq2 (zq2 (zq2 (zq2 (zq2 (zq2 (zq2 (zq2 (zq2 (zq2 (zq2 (zq2 (zq2 (zq2 (zq2 (zq2 (zq2 (zq2 (zq2 (zq2 (zq2 (zq2 (zq2 (zq2 (zq2 (zq2 (zq2 (zq2 (zq2 (zq2 (zq2 xi_w0))))))))))))))))))))))))))))))))))))))))))))))))))))))))))))))))))))) (zq1 (zq2 (zq2 (zq2 (zq2 (zq2 (zq2 (zq2 (zq2 (zq2 (zq2 (zq2 (zq2 (zq2 (zq2 (zq2 (zq2 (zq2 (zq2 (zq2 (zq2 (zq2 (zq2 (zq2 (zq2 (zq2 (zq2 (zq2 (zq2 (zq2 (zq2 (zq2 (zq2 (zq2 (zq2 (zq2 (zq2 (zq2 (zq2 (zq2 (zq2 (zq2 (zq2 (zq2 (zq2 (zq2 (zq2 (zq2 (zq2 (zq2 (zq2 (zq2 (zq2 (zq2 (zq2 (zq2 (zq2 (zq2 (zq2 (zq2 (zq2 (zq2 (zq2 (zq2 (zq2 (zq2 (zq2 (zq2 (zq2 (zq2 xi_w0))))))))))))))))))))))))))))))))))))))))))))))))))))))))))))))))))))))) (xi_c (zq1 (zq2 (zq2 (zq2 (zq2 (zq2 (zq2 (zq2 (zq2 (zq2 (zq2 (zq2 (zq2 (zq2 (zq2 (zq2 (zq2 (zq2 (zq2 (zq2 (zq2 (zq2 (zq2 (zq2 (zq2 (zq2 (zq2 (zq2 (zq2 (zq2 (zq2 (zq2 (zq2 (zq2 (zq2 (zq2 (zq2 (zq2 (zq2 (zq2 (zq2 (zq2 (zq2 (zq2 (zq2 (zq2 (zq2 (zq2 (zq2 (zq2 (zq2 (zq2 (zq2 (zq2 (zq2 (zq2 (zq2 (zq2 (zq2 (zq2 (zq2 (zq2 (zq2 (zq2 (zq2 (zq2 (zq2 (zq2 (zq2 (zq2 (zq2 xi_w0))))))))))))))))))))))))))))))))))))))))))))))))))))))))))))))))))))))) (xi_c (zq1 (zq2 (zq2 (zq2 (zq2 (zq2 (zq2 (zq2 (zq2 (zq2 (zq2 (zq2 (zq2 (zq2 (zq2 (zq2 (zq2 (zq2 (zq2 (zq2 (zq2 (zq2 (zq2 (zq2 (zq2 (zq2 (zq2 (zq2 (zq2 (zq2 (zq2 (zq2 (zq2 (zq2 (zq2 (zq2 (zq2 (zq2 (zq2 (zq2 (zq2 (zq2 (zq2 (zq2 (zq2 (zq2 (zq2 (zq2 (zq2 (zq2 (zq2 (zq2 (zq2 (zq2 (zq2 (zq2 (zq2 (zq2 (zq2 (zq2 (zq2 (zq2 (zq2 (zq2 (zq2 (zq2 (zq2 (zq2 (zq2 (zq2 (zq2 (zq2 xi_w0)))))))))))))))))))))))))))))))))))))))))))))))))))))))))))))))))))))))) (zq1 (zq2 (zq2 (zq2 (zq2 (zq2 (zq2 (zq2 (zq2 (zq2 (zq2 (zq2 (zq2 (zq2 (zq2 (zq2 (zq2 (zq2 (zq2 (zq2 (zq2 (zq2 (zq2 (zq2 (zq2 (zq2 (zq2 (zq2 (zq2 (zq2 (zq2 (zq2 (zq2 (zq2 (zq2 (zq2 (zq2 (zq2 (zq2 (zq2 (zq2 (zq2 (zq2 (zq2 (zq2 (zq2 (zq2 (zq2 (zq2 (zq2 (zq2 (zq2 (zq2 (zq2 (zq2 (zq2 (zq2 (zq2 (zq2 (zq2 (zq2 (zq2 (zq2 (zq2 (zq2 (zq2 (zq2 (zq2 (zq2 (zq2 (zq2 (zq2 (zq2 xi_w0)))))))))))))))))))))))))))))))))))))))))))))))))))))))))))))))))))))))))))))))
noncomputable def zi_1_0 : ZIs := [(0, ev_26), (1, ev_10), (2, ev_13), (3, ev_192), (4, ev_193), (7, ev_156), (8, ev_194), (9, ev_195), (12, ev_9), (13, ev_7), (14, ev_152), (15, ev_9), (16, ev_30), (17, ev_152), (18, ev_10), (19, ev_152)]
set_option maxRecDepth 100000 in
theorem xi_w1 : zall cL_node [zi_1_0] := zall_w _ _ (by decide +kernel)
noncomputable def xi_1 (pc : Nat) : XIs := zx zi_1_0
theorem xi_ok1 (pc : Nat) : xi_ok cL_node (xi_1 pc) = true := zq1 xi_w1
noncomputable def zi_2_0 : ZIs := [(0, ev_196), (2, ev_10), (3, ev_13), (4, ev_192), (5, ev_197), (6, ev_198), (7, ev_12), (9, ev_150), (11, ev_199), (14, ev_156), (15, ev_194), (16, ev_200), (19, ev_201), (21, ev_7), (22, ev_152), (23, ev_201)]
noncomputable def zi_2_1 : ZIs := [(25, ev_30), (26, ev_152), (27, ev_10), (28, ev_152)]
set_option maxRecDepth 100000 in
theorem xi_w2 : zall cL_arc [zi_2_0, zi_2_1] := zall_w _ _ (by decide +kernel)
noncomputable def xi_2 (pc : Nat) : XIs := cond (Nat.blt pc 25) (zx zi_2_0) (zx zi_2_1)
theorem xi_ok2 (pc : Nat) : xi_ok cL_arc (xi_2 pc) = true := xi_c (zq1 xi_w2) (zq1 (zq2 xi_w2))
noncomputable def zi_3_0 : ZIs := [(0, ev_26), (1, ev_10), (2, ev_13), (3, ev_192), (4, ev_202), (7, ev_156), (8, ev_194), (9, ev_195), (12, ev_9), (13, ev_7), (14, ev_152), (15, ev_9), (16, ev_30), (17, ev_152), (18, ev_10), (19, ev_152)]
set_option maxRecDepth 100000 in
theorem xi_w3 : zall cL_take [zi_3_0] := zall_w _ _ (by decide +kernel)
noncomputable def xi_3 (pc : Nat) : XIs := zx zi_3_0
theorem xi_ok3 (pc : Nat) : xi_ok cL_take (xi_3 pc) = true := zq1 xi_w3
noncomputable def zi_4_0 : ZIs := [(0, ev_203), (2, ev_10), (3, ev_13), (4, ev_192), (5, ev_197), (6, ev_198), (7, ev_204), (10, ev_156), (11, ev_194), (12, ev_200), (15, ev_205), (17, ev_7), (18, ev_152), (19, ev_205), (21, ev_30), (22, ev_152)]
noncomputable def zi_4_1 : ZIs := [(23, ev_10), (24, ev_152)]
set_option maxRecDepth 100000 in
theorem xi_w4 : zall cL_set [zi_4_0, zi_4_1] := zall_w _ _ (by decide +kernel)
noncomputable def xi_4 (pc : Nat) : XIs := cond (Nat.blt pc 23) (zx zi_4_0) (zx zi_4_1)
theorem xi_ok4 (pc : Nat) : xi_ok cL_set (xi_4 pc) = true := xi_c (zq1 xi_w4) (zq1 (zq2 xi_w4))
noncomputable def zi_5_0 : ZIs := [(0, ev_23), (1, ev_10), (2, ev_13), (3, ev_192), (4, ev_197), (5, ev_206), (8, ev_156), (9, ev_194), (10, ev_200), (13, ev_207), (15, ev_7), (16, ev_152), (17, ev_207), (19, ev_30), (20, ev_152), (21, ev_10)]
noncomputable def zi_5_1 : ZIs := [(22, ev_152)]
set_option maxRecDepth 100000 in
theorem xi_w5 : zall cL_label [zi_5_0, zi_5_1] := zall_w _ _ (by decide +kernel)
noncomputable def xi_5 (pc : Nat) : XIs := cond (Nat.blt pc 22) (zx zi_5_0) (zx zi_5_1)
theorem xi_ok5 (pc : Nat) : xi_ok cL_label (xi_5 pc) = true := xi_c (zq1 xi_w5) (zq1 (zq2 xi_w5))
noncomputable def zi_6_0 : ZIs := [(0, ev_26), (1, ev_10), (2, ev_13), (3, ev_192), (4, ev_208), (7, ev_156), (8, ev_194), (9, ev_209), (12, ev_9), (13, ev_7), (14, ev_152), (15, ev_10), (16, ev_152)]
set_option maxRecDepth 100000 in
theorem xi_w6 : zall cL_view [zi_6_0] := zall_w _ _ (by decide +kernel)
noncomputable def xi_6 (pc : Nat) : XIs := zx zi_6_0
theorem xi_ok6 (pc : Nat) : xi_ok cL_view (xi_6 pc) = true := zq1 xi_w6
noncomputable def zi_7_0 : ZIs := [(0, ev_26), (1, ev_10), (2, ev_13), (3, ev_192), (4, ev_210), (7, ev_156), (8, ev_194), (9, ev_209), (12, ev_9), (13, ev_7), (14, ev_152), (15, ev_10), (16, ev_152)]
set_option maxRecDepth 100000 in
theorem xi_w7 : zall cL_size [zi_7_0] := zall_w _ _ (by decide +kernel)
noncomputable def xi_7 (pc : Nat) : XIs := zx zi_7_0
theorem xi_ok7 (pc : Nat) : xi_ok cL_size (xi_7 pc) = true := zq1 xi_w7
noncomputable def zi_8_0 : ZIs := [(0, ev_23), (1, ev_10), (2, ev_13), (3, ev_192), (4, ev_197), (5, ev_211), (8, ev_194), (9, ev_212), (12, ev_207), (14, ev_7), (15, ev_152), (16, ev_10), (17, ev_152)]
set_option maxRecDepth 100000 in
theorem xi_w8 : zall cL_told [zi_8_0] := zall_w _ _ (by decide +kernel)
noncomputable def xi_8 (pc : Nat) : XIs := zx zi_8_0
theorem xi_ok8 (pc : Nat) : xi_ok cL_told (xi_8 pc) = true := zq1 xi_w8
noncomputable def zi_9_0 : ZIs := [(0, ev_26), (1, ev_10), (2, ev_13), (3, ev_192), (4, ev_213), (7, ev_156), (8, ev_194), (9, ev_209), (12, ev_9), (13, ev_7), (14, ev_152), (15, ev_10), (16, ev_152)]
set_option maxRecDepth 100000 in
theorem xi_w9 : zall cL_labelOf [zi_9_0] := zall_w _ _ (by decide +kernel)
noncomputable def xi_9 (pc : Nat) : XIs := zx zi_9_0
theorem xi_ok9 (pc : Nat) : xi_ok cL_labelOf (xi_9 pc) = true := zq1 xi_w9
noncomputable def zi_10_0 : ZIs := [(0, ev_203), (2, ev_10), (3, ev_13), (4, ev_192), (5, ev_197), (6, ev_198), (7, ev_214), (10, ev_156), (11, ev_194), (12, ev_212), (15, ev_205), (17, ev_7), (18, ev_152), (19, ev_10), (20, ev_152)]
set_option maxRecDepth 100000 in
theorem xi_w10 : zall cL_arcAt [zi_10_0] := zall_w _ _ (by decide +kernel)
noncomputable def xi_10 (pc : Nat) : XIs := zx zi_10_0
theorem xi_ok10 (pc : Nat) : xi_ok cL_arcAt (xi_10 pc) = true := zq1 xi_w10
noncomputable def zi_11_0 : ZIs := [(0, ev_26), (1, ev_10), (2, ev_13), (3, ev_192), (4, ev_215), (7, ev_156), (8, ev_194), (9, ev_195), (12, ev_9), (13, ev_7), (14, ev_152), (15, ev_9), (16, ev_30), (17, ev_152), (18, ev_10), (19, ev_152)]
set_option maxRecDepth 100000 in
theorem xi_w11 : zall cL_type [zi_11_0] := zall_w _ _ (by decide +kernel)
noncomputable def xi_11 (pc : Nat) : XIs := zx zi_11_0
theorem xi_ok11 (pc : Nat) : xi_ok cL_type (xi_11 pc) = true := zq1 xi_w11
noncomputable def zi_12_0 : ZIs := [(0, ev_26), (1, ev_10), (2, ev_13), (3, ev_192), (4, ev_216), (7, ev_156), (8, ev_194), (9, ev_209), (12, ev_9), (13, ev_7), (14, ev_152), (15, ev_10), (16, ev_152)]
set_option maxRecDepth 100000 in
theorem xi_w12 : zall cL_fault [zi_12_0] := zall_w _ _ (by decide +kernel)
noncomputable def xi_12 (pc : Nat) : XIs := zx zi_12_0
theorem xi_ok12 (pc : Nat) : xi_ok cL_fault (xi_12 pc) = true := zq1 xi_w12
noncomputable def zi_13_0 : ZIs := [(0, ev_26), (1, ev_10), (2, ev_13), (3, ev_192), (4, ev_217), (7, ev_156), (8, ev_194), (9, ev_209), (12, ev_9), (13, ev_7), (14, ev_152), (15, ev_10), (16, ev_152)]
set_option maxRecDepth 100000 in
theorem xi_w13 : zall cL_printed [zi_13_0] := zall_w _ _ (by decide +kernel)
noncomputable def xi_13 (pc : Nat) : XIs := zx zi_13_0
theorem xi_ok13 (pc : Nat) : xi_ok cL_printed (xi_13 pc) = true := zq1 xi_w13
noncomputable def zi_14_0 : ZIs := [(0, ev_23), (1, ev_10), (2, ev_13), (3, ev_192), (4, ev_197), (5, ev_218), (8, ev_194), (9, ev_212), (12, ev_207), (14, ev_7), (15, ev_152), (16, ev_10), (17, ev_152)]
set_option maxRecDepth 100000 in
theorem xi_w14 : zall cL_distance [zi_14_0] := zall_w _ _ (by decide +kernel)
noncomputable def xi_14 (pc : Nat) : XIs := zx zi_14_0
theorem xi_ok14 (pc : Nat) : xi_ok cL_distance (xi_14 pc) = true := zq1 xi_w14
noncomputable def zi_15_0 : ZIs := [(0, ev_203), (2, ev_10), (3, ev_13), (4, ev_192), (5, ev_197), (6, ev_198), (7, ev_219), (10, ev_156), (11, ev_194), (12, ev_212), (15, ev_205), (17, ev_7), (18, ev_152), (19, ev_10), (20, ev_152)]
set_option maxRecDepth 100000 in
theorem xi_w15 : zall cL_way [zi_15_0] := zall_w _ _ (by decide +kernel)
noncomputable def xi_15 (pc : Nat) : XIs := zx zi_15_0
theorem xi_ok15 (pc : Nat) : xi_ok cL_way (xi_15 pc) = true := zq1 xi_w15
noncomputable def zi_16_0 : ZIs := [(0, ev_23), (1, ev_10), (2, ev_13), (3, ev_192), (4, ev_197), (5, ev_220), (8, ev_156), (9, ev_194), (10, ev_212), (13, ev_207), (15, ev_7), (16, ev_152), (17, ev_10), (18, ev_152)]
set_option maxRecDepth 100000 in
theorem xi_w16 : zall cL_width [zi_16_0] := zall_w _ _ (by decide +kernel)
noncomputable def xi_16 (pc : Nat) : XIs := zx zi_16_0
theorem xi_ok16 (pc : Nat) : xi_ok cL_width (xi_16 pc) = true := zq1 xi_w16
noncomputable def zi_17_0 : ZIs := [(0, ev_23), (1, ev_10), (2, ev_13), (3, ev_192), (4, ev_197), (5, ev_221), (8, ev_156), (9, ev_194), (10, ev_212), (13, ev_207), (15, ev_7), (16, ev_152), (17, ev_10), (18, ev_152)]
set_option maxRecDepth 100000 in
theorem xi_w17 : zall cL_shorts [zi_17_0] := zall_w _ _ (by decide +kernel)
noncomputable def xi_17 (pc : Nat) : XIs := zx zi_17_0
theorem xi_ok17 (pc : Nat) : xi_ok cL_shorts (xi_17 pc) = true := zq1 xi_w17
noncomputable def zi_18_0 : ZIs := [(0, ev_222), (2, ev_10), (3, ev_13), (4, ev_192), (5, ev_197), (6, ev_198), (7, ev_12), (9, ev_223), (12, ev_156), (13, ev_194), (14, ev_212), (17, ev_224), (19, ev_7), (20, ev_152), (21, ev_10), (22, ev_152)]
set_option maxRecDepth 100000 in
theorem xi_w18 : zall cL_shortArc [zi_18_0] := zall_w _ _ (by decide +kernel)
noncomputable def xi_18 (pc : Nat) : XIs := zx zi_18_0
theorem xi_ok18 (pc : Nat) : xi_ok cL_shortArc (xi_18 pc) = true := zq1 xi_w18
noncomputable def zi_19_0 : ZIs := [(0, ev_23), (1, ev_10), (2, ev_13), (3, ev_192), (4, ev_197), (5, ev_225), (8, ev_156), (9, ev_194), (10, ev_212), (13, ev_207), (15, ev_7), (16, ev_152), (17, ev_10), (18, ev_152)]
set_option maxRecDepth 100000 in
theorem xi_w19 : zall cL_part [zi_19_0] := zall_w _ _ (by decide +kernel)
noncomputable def xi_19 (pc : Nat) : XIs := zx zi_19_0
theorem xi_ok19 (pc : Nat) : xi_ok cL_part (xi_19 pc) = true := zq1 xi_w19
noncomputable def zi_20_0 : ZIs := [(0, ev_26), (1, ev_10), (2, ev_13), (3, ev_192), (4, ev_226), (7, ev_227), (10, ev_228), (11, ev_229), (14, ev_230), (15, ev_194), (16, ev_209), (19, ev_9), (20, ev_7), (21, ev_152), (22, ev_10), (23, ev_152)]
set_option maxRecDepth 100000 in
theorem xi_w20 : zall cL_bridge [zi_20_0] := zall_w _ _ (by decide +kernel)
noncomputable def xi_20 (pc : Nat) : XIs := zx zi_20_0
theorem xi_ok20 (pc : Nat) : xi_ok cL_bridge (xi_20 pc) = true := zq1 xi_w20
noncomputable def zi_21_0 : ZIs := [(0, ev_26), (1, ev_10), (2, ev_13), (3, ev_192), (4, ev_231), (7, ev_227), (10, ev_228), (11, ev_229), (14, ev_230), (15, ev_194), (16, ev_209), (19, ev_9), (20, ev_7), (21, ev_152), (22, ev_10), (23, ev_152)]
set_option maxRecDepth 100000 in
theorem xi_w21 : zall cL_cut [zi_21_0] := zall_w _ _ (by decide +kernel)
noncomputable def xi_21 (pc : Nat) : XIs := zx zi_21_0
theorem xi_ok21 (pc : Nat) : xi_ok cL_cut (xi_21 pc) = true := zq1 xi_w21
noncomputable def zi_22_0 : ZIs := [(0, ev_26), (1, ev_10), (2, ev_13), (3, ev_192), (4, ev_232), (7, ev_156), (8, ev_194), (9, ev_209), (12, ev_9), (13, ev_7), (14, ev_152), (15, ev_10), (16, ev_152)]
set_option maxRecDepth 100000 in
theorem xi_w22 : zall cL_order [zi_22_0] := zall_w _ _ (by decide +kernel)
noncomputable def xi_22 (pc : Nat) : XIs := zx zi_22_0
theorem xi_ok22 (pc : Nat) : xi_ok cL_order (xi_22 pc) = true := zq1 xi_w22
noncomputable def zi_23_0 : ZIs := [(0, ev_26), (1, ev_10), (2, ev_13), (3, ev_192), (4, ev_233), (7, ev_156), (8, ev_194), (9, ev_209), (12, ev_9), (13, ev_7), (14, ev_152), (15, ev_10), (16, ev_152)]
set_option maxRecDepth 100000 in
theorem xi_w23 : zall cL_core [zi_23_0] := zall_w _ _ (by decide +kernel)
noncomputable def xi_23 (pc : Nat) : XIs := zx zi_23_0
theorem xi_ok23 (pc : Nat) : xi_ok cL_core (xi_23 pc) = true := zq1 xi_w23
noncomputable def zi_24_0 : ZIs := [(0, ev_26), (1, ev_10), (2, ev_13), (3, ev_192), (4, ev_234), (7, ev_156), (8, ev_194), (9, ev_209), (12, ev_9), (13, ev_7), (14, ev_152), (15, ev_10), (16, ev_152)]
set_option maxRecDepth 100000 in
theorem xi_w24 : zall cL_clique [zi_24_0] := zall_w _ _ (by decide +kernel)
noncomputable def xi_24 (pc : Nat) : XIs := zx zi_24_0
theorem xi_ok24 (pc : Nat) : xi_ok cL_clique (xi_24 pc) = true := zq1 xi_w24
noncomputable def zi_25_0 : ZIs := [(0, ev_26), (1, ev_10), (2, ev_13), (3, ev_192), (4, ev_235), (7, ev_156), (8, ev_194), (9, ev_209), (12, ev_9), (13, ev_7), (14, ev_152), (15, ev_10), (16, ev_152)]
set_option maxRecDepth 100000 in
theorem xi_w25 : zall cL_colour [zi_25_0] := zall_w _ _ (by decide +kernel)
noncomputable def xi_25 (pc : Nat) : XIs := zx zi_25_0
theorem xi_ok25 (pc : Nat) : xi_ok cL_colour (xi_25 pc) = true := zq1 xi_w25
noncomputable def zi_26_0 : ZIs := [(0, ev_23), (1, ev_10), (2, ev_13), (3, ev_192), (4, ev_197), (5, ev_236), (8, ev_194), (9, ev_212), (12, ev_207), (14, ev_7), (15, ev_152), (16, ev_10), (17, ev_152)]
set_option maxRecDepth 100000 in
theorem xi_w26 : zall cL_flow [zi_26_0] := zall_w _ _ (by decide +kernel)
noncomputable def xi_26 (pc : Nat) : XIs := zx zi_26_0
theorem xi_ok26 (pc : Nat) : xi_ok cL_flow (xi_26 pc) = true := zq1 xi_w26
noncomputable def zi_27_0 : ZIs := [(0, ev_203), (2, ev_10), (3, ev_13), (4, ev_192), (5, ev_197), (6, ev_198), (7, ev_237), (10, ev_227), (13, ev_228), (14, ev_229), (17, ev_230), (18, ev_194), (19, ev_212), (22, ev_205), (24, ev_7), (25, ev_152)]
noncomputable def zi_27_1 : ZIs := [(26, ev_10), (27, ev_152)]
set_option maxRecDepth 100000 in
theorem xi_w27 : zall cL_side [zi_27_0, zi_27_1] := zall_w _ _ (by decide +kernel)
noncomputable def xi_27 (pc : Nat) : XIs := cond (Nat.blt pc 26) (zx zi_27_0) (zx zi_27_1)
theorem xi_ok27 (pc : Nat) : xi_ok cL_side (xi_27 pc) = true := xi_c (zq1 xi_w27) (zq1 (zq2 xi_w27))
noncomputable def zi_28_0 : ZIs := [(0, ev_203), (2, ev_10), (3, ev_13), (4, ev_192), (5, ev_197), (6, ev_198), (7, ev_238), (10, ev_194), (11, ev_212), (14, ev_205), (16, ev_7), (17, ev_152), (18, ev_10), (19, ev_152)]
set_option maxRecDepth 100000 in
theorem xi_w28 : zall cL_cost [zi_28_0] := zall_w _ _ (by decide +kernel)
noncomputable def xi_28 (pc : Nat) : XIs := zx zi_28_0
theorem xi_ok28 (pc : Nat) : xi_ok cL_cost (xi_28 pc) = true := zq1 xi_w28
noncomputable def zi_29_0 : ZIs := [(0, ev_26), (1, ev_10), (2, ev_13), (3, ev_192), (4, ev_239), (7, ev_194), (8, ev_209), (11, ev_9), (12, ev_7), (13, ev_152), (14, ev_10), (15, ev_152)]
set_option maxRecDepth 100000 in
theorem xi_w29 : zall cL_pairing [zi_29_0] := zall_w _ _ (by decide +kernel)
noncomputable def xi_29 (pc : Nat) : XIs := zx zi_29_0
theorem xi_ok29 (pc : Nat) : xi_ok cL_pairing (xi_29 pc) = true := zq1 xi_w29
noncomputable def zi_30_0 : ZIs := [(0, ev_26), (1, ev_10), (2, ev_13), (3, ev_192), (4, ev_240), (7, ev_194), (8, ev_209), (11, ev_9), (12, ev_7), (13, ev_152), (14, ev_10), (15, ev_152)]
set_option maxRecDepth 100000 in
theorem xi_w30 : zall cL_tree [zi_30_0] := zall_w _ _ (by decide +kernel)
noncomputable def xi_30 (pc : Nat) : XIs := zx zi_30_0
theorem xi_ok30 (pc : Nat) : xi_ok cL_tree (xi_30 pc) = true := zq1 xi_w30
noncomputable def zi_31_0 : ZIs := [(0, ev_26), (1, ev_10), (2, ev_13), (3, ev_192), (4, ev_241), (7, ev_227), (10, ev_228), (11, ev_229), (14, ev_230), (15, ev_194), (16, ev_209), (19, ev_9), (20, ev_7), (21, ev_152), (22, ev_10), (23, ev_152)]
set_option maxRecDepth 100000 in
theorem xi_w31 : zall cL_span [zi_31_0] := zall_w _ _ (by decide +kernel)
noncomputable def xi_31 (pc : Nat) : XIs := zx zi_31_0
theorem xi_ok31 (pc : Nat) : xi_ok cL_span (xi_31 pc) = true := zq1 xi_w31
noncomputable def zi_32_0 : ZIs := [(0, ev_23), (1, ev_10), (2, ev_13), (3, ev_192), (4, ev_197), (5, ev_242), (8, ev_194), (9, ev_212), (12, ev_207), (14, ev_7), (15, ev_152), (16, ev_10), (17, ev_152)]
set_option maxRecDepth 100000 in
theorem xi_w32 : zall cL_rank [zi_32_0] := zall_w _ _ (by decide +kernel)
noncomputable def xi_32 (pc : Nat) : XIs := zx zi_32_0
theorem xi_ok32 (pc : Nat) : xi_ok cL_rank (xi_32 pc) = true := zq1 xi_w32
noncomputable def zi_33_0 : ZIs := [(0, ev_222), (2, ev_10), (3, ev_13), (4, ev_192), (5, ev_197), (6, ev_198), (7, ev_12), (9, ev_243), (12, ev_156), (13, ev_194), (14, ev_212), (17, ev_224), (19, ev_7), (20, ev_152), (21, ev_10), (22, ev_152)]
set_option maxRecDepth 100000 in
theorem xi_w33 : zall cL_shortest [zi_33_0] := zall_w _ _ (by decide +kernel)
noncomputable def xi_33 (pc : Nat) : XIs := zx zi_33_0
theorem xi_ok33 (pc : Nat) : xi_ok cL_shortest (xi_33 pc) = true := zq1 xi_w33
noncomputable def zi_34_0 : ZIs := [(0, ev_26), (1, ev_10), (2, ev_13), (3, ev_192), (4, ev_244), (7, ev_156), (8, ev_194), (9, ev_209), (12, ev_9), (13, ev_7), (14, ev_152), (15, ev_10), (16, ev_152)]
set_option maxRecDepth 100000 in
theorem xi_w34 : zall cL_group [zi_34_0] := zall_w _ _ (by decide +kernel)
noncomputable def xi_34 (pc : Nat) : XIs := zx zi_34_0
theorem xi_ok34 (pc : Nat) : xi_ok cL_group (xi_34 pc) = true := zq1 xi_w34
noncomputable def zi_35_0 : ZIs := [(0, ev_26), (1, ev_10), (2, ev_13), (3, ev_192), (4, ev_245), (7, ev_194), (8, ev_209), (11, ev_9), (12, ev_7), (13, ev_152), (14, ev_10), (15, ev_152)]
set_option maxRecDepth 100000 in
theorem xi_w35 : zall cL_figures [zi_35_0] := zall_w _ _ (by decide +kernel)
noncomputable def xi_35 (pc : Nat) : XIs := zx zi_35_0
theorem xi_ok35 (pc : Nat) : xi_ok cL_figures (xi_35 pc) = true := zq1 xi_w35
noncomputable def zi_36_0 : ZIs := [(0, ev_23), (1, ev_10), (2, ev_13), (3, ev_192), (4, ev_197), (5, ev_246), (8, ev_156), (9, ev_194), (10, ev_212), (13, ev_207), (15, ev_7), (16, ev_152), (17, ev_10), (18, ev_152)]
set_option maxRecDepth 100000 in
theorem xi_w36 : zall cL_fits [zi_36_0] := zall_w _ _ (by decide +kernel)
noncomputable def xi_36 (pc : Nat) : XIs := zx zi_36_0
theorem xi_ok36 (pc : Nat) : xi_ok cL_fits (xi_36 pc) = true := zq1 xi_w36
noncomputable def zi_37_0 : ZIs := [(0, ev_196), (2, ev_10), (3, ev_13), (4, ev_192), (5, ev_197), (6, ev_198), (7, ev_247), (9, ev_248), (12, ev_156), (13, ev_194), (14, ev_212), (17, ev_201), (19, ev_7), (20, ev_152), (21, ev_10), (22, ev_152)]
set_option maxRecDepth 100000 in
theorem xi_w37 : zall cL_run [zi_37_0] := zall_w _ _ (by decide +kernel)
noncomputable def xi_37 (pc : Nat) : XIs := zx zi_37_0
theorem xi_ok37 (pc : Nat) : xi_ok cL_run (xi_37 pc) = true := zq1 xi_w37
noncomputable def zi_38_0 : ZIs := [(0, ev_26), (1, ev_10), (2, ev_13), (3, ev_192), (4, ev_249), (7, ev_194), (8, ev_209), (11, ev_9), (12, ev_7), (13, ev_152), (14, ev_10), (15, ev_152)]
set_option maxRecDepth 100000 in
theorem xi_w38 : zall cL_state [zi_38_0] := zall_w _ _ (by decide +kernel)
noncomputable def xi_38 (pc : Nat) : XIs := zx zi_38_0
theorem xi_ok38 (pc : Nat) : xi_ok cL_state (xi_38 pc) = true := zq1 xi_w38
noncomputable def zi_39_0 : ZIs := [(0, ev_26), (1, ev_10), (2, ev_13), (3, ev_192), (4, ev_250), (7, ev_156), (8, ev_194), (9, ev_209), (12, ev_9), (13, ev_7), (14, ev_152), (15, ev_10), (16, ev_152)]
set_option maxRecDepth 100000 in
theorem xi_w39 : zall cL_letters [zi_39_0] := zall_w _ _ (by decide +kernel)
noncomputable def xi_39 (pc : Nat) : XIs := zx zi_39_0
theorem xi_ok39 (pc : Nat) : xi_ok cL_letters (xi_39 pc) = true := zq1 xi_w39
noncomputable def zi_40_0 : ZIs := [(0, ev_13), (1, ev_251), (4, ev_13), (5, ev_252), (6, ev_253), (9, ev_13), (10, ev_252), (11, ev_254), (14, ev_13), (15, ev_176), (17, ev_255), (19, ev_256), (22, ev_13), (23, ev_176), (25, ev_255), (27, ev_257)]
noncomputable def zi_40_1 : ZIs := [(30, ev_13), (31, ev_176), (33, ev_255), (35, ev_258), (38, ev_13), (39, ev_176), (41, ev_255), (43, ev_259), (46, ev_260)]
set_option maxRecDepth 100000 in
theorem xi_w40 : zall cX0_init [zi_40_0, zi_40_1] := zall_w _ _ (by decide +kernel)
noncomputable def xi_40 (pc : Nat) : XIs := cond (Nat.blt pc 30) (zx zi_40_0) (zx zi_40_1)
theorem xi_ok40 (pc : Nat) : xi_ok cX0_init (xi_40 pc) = true := xi_c (zq1 xi_w40) (zq1 (zq2 xi_w40))
noncomputable def zi_41_0 : ZIs := [(0, ev_13), (1, ev_261), (4, ev_21), (5, ev_262), (8, ev_263), (11, ev_13), (12, ev_21), (13, ev_262), (16, ev_253), (19, ev_21), (20, ev_264), (23, ev_13), (24, ev_10), (25, ev_265), (28, ev_13), (29, ev_21)]
noncomputable def zi_41_1 : ZIs := [(30, ev_266), (33, ev_10), (34, ev_21), (35, ev_214), (38, ev_10), (39, ev_267), (42, ev_13), (43, ev_268), (46, ev_152)]
set_option maxRecDepth 100000 in
theorem xi_w41 : zall cX0_greatestClique [zi_41_0, zi_41_1] := zall_w _ _ (by decide +kernel)
noncomputable def xi_41 (pc : Nat) : XIs := cond (Nat.blt pc 30) (zx zi_41_0) (zx zi_41_1)
theorem xi_ok41 (pc : Nat) : xi_ok cX0_greatestClique (xi_41 pc) = true := xi_c (zq1 xi_w41) (zq1 (zq2 xi_w41))
noncomputable def zi_42_0 : ZIs := [(0, ev_197), (1, ev_269), (4, ev_25), (6, ev_150), (8, ev_13), (9, ev_268), (12, ev_269), (15, ev_270), (18, ev_13), (19, ev_197), (20, ev_265), (23, ev_12), (25, ev_176), (27, ev_271), (30, ev_260), (31, ev_198)]
noncomputable def zi_42_1 : ZIs := [(32, ev_28), (34, ev_155), (36, ev_272), (39, ev_150), (41, ev_155), (43, ev_269), (46, ev_22), (47, ev_13), (48, ev_268), (51, ev_269), (54, ev_273), (57, ev_260), (58, ev_155), (60, ev_274), (63, ev_275), (65, ev_13)]
noncomputable def zi_42_2 : ZIs := [(66, ev_21), (67, ev_197), (68, ev_7), (69, ev_276), (71, ev_277), (72, ev_278), (73, ev_155), (75, ev_21), (76, ev_276), (78, ev_18), (79, ev_20), (80, ev_12), (82, ev_7), (83, ev_22), (84, ev_267), (87, ev_155)]
noncomputable def zi_42_3 : ZIs := [(89, ev_155), (91, ev_7), (92, ev_16), (93, ev_20), (94, ev_28), (96, ev_279), (99, ev_260)]
set_option maxRecDepth 100000 in
theorem xi_w42 : zall cX0_growClique [zi_42_0, zi_42_1, zi_42_2, zi_42_3] := zall_w _ _ (by decide +kernel)
noncomputable def xi_42 (pc : Nat) : XIs := cond (Nat.blt pc 66) (cond (Nat.blt pc 32) (zx zi_42_0) (zx zi_42_1)) (cond (Nat.blt pc 89) (zx zi_42_2) (zx zi_42_3))
theorem xi_ok42 (pc : Nat) : xi_ok cX0_growClique (xi_42 pc) = true := xi_c (xi_c (zq1 xi_w42) (zq1 (zq2 xi_w42))) (xi_c (zq1 (zq2 (zq2 xi_w42))) (zq1 (zq2 (zq2 (zq2 xi_w42)))))
noncomputable def zi_43_0 : ZIs := [(0, ev_13), (1, ev_280), (4, ev_21), (5, ev_262), (8, ev_281), (11, ev_13), (12, ev_21), (13, ev_262), (16, ev_254), (19, ev_13), (20, ev_21), (21, ev_282), (24, ev_13), (25, ev_283), (28, ev_197), (29, ev_18)]
noncomputable def zi_43_1 : ZIs := [(30, ev_152)]
set_option maxRecDepth 100000 in
theorem xi_w43 : zall cX0_colourOf [zi_43_0, zi_43_1] := zall_w _ _ (by decide +kernel)
noncomputable def xi_43 (pc : Nat) : XIs := cond (Nat.blt pc 30) (zx zi_43_0) (zx zi_43_1)
theorem xi_ok43 (pc : Nat) : xi_ok cX0_colourOf (xi_43 pc) = true := xi_c (zq1 xi_w43) (zq1 (zq2 xi_w43))
noncomputable def zi_44_0 : ZIs := [(0, ev_21), (1, ev_264), (4, ev_13), (5, ev_7), (6, ev_13), (7, ev_21), (8, ev_221), (11, ev_269), (14, ev_284), (17, ev_285), (20, ev_13), (21, ev_10), (22, ev_286), (25, ev_13), (26, ev_287), (29, ev_10)]
noncomputable def zi_44_1 : ZIs := [(30, ev_288), (33, ev_13), (34, ev_289), (37, ev_176), (39, ev_290), (42, ev_13), (43, ev_21), (44, ev_266), (47, ev_21), (48, ev_214), (51, ev_10), (52, ev_291), (55, ev_292), (58, ev_13), (59, ev_1), (60, ev_289)]
noncomputable def zi_44_2 : ZIs := [(63, ev_7), (64, ev_22), (65, ev_285), (68, ev_293), (71, ev_10), (72, ev_294), (73, ev_10), (74, ev_295), (75, ev_198), (76, ev_21), (77, ev_296), (80, ev_297), (83, ev_13), (84, ev_283), (87, ev_198), (88, ev_13)]
noncomputable def zi_44_3 : ZIs := [(89, ev_21), (90, ev_198), (91, ev_197), (92, ev_298), (95, ev_299), (96, ev_197), (97, ev_13), (98, ev_283), (101, ev_198), (102, ev_18), (103, ev_7), (104, ev_22), (105, ev_284), (108, ev_294), (109, ev_300), (112, ev_301)]
noncomputable def zi_44_4 : ZIs := [(115, ev_260)]
set_option maxRecDepth 100000 in
theorem xi_w44 : zall cX0_makeColours [zi_44_0, zi_44_1, zi_44_2, zi_44_3, zi_44_4] := zall_w _ _ (by decide +kernel)
noncomputable def xi_44 (pc : Nat) : XIs := cond (Nat.blt pc 63) (cond (Nat.blt pc 30) (zx zi_44_0) (zx zi_44_1)) (cond (Nat.blt pc 89) (zx zi_44_2) (cond (Nat.blt pc 115) (zx zi_44_3) (zx zi_44_4)))
theorem xi_ok44 (pc : Nat) : xi_ok cX0_makeColours (xi_44 pc) = true := xi_c (xi_c (zq1 xi_w44) (zq1 (zq2 xi_w44))) (xi_c (zq1 (zq2 (zq2 xi_w44))) (xi_c (zq1 (zq2 (zq2 (zq2 xi_w44)))) (zq1 (zq2 (zq2 (zq2 (zq2 xi_w44)))))))
noncomputable def zi_45_0 : ZIs := [(0, ev_10), (1, ev_294), (2, ev_197), (3, ev_176), (5, ev_302), (8, ev_13), (9, ev_287), (12, ev_197), (13, ev_18), (14, ev_192), (15, ev_303), (16, ev_7), (17, ev_20), (18, ev_158), (21, ev_197), (22, ev_152)]
noncomputable def zi_45_1 : ZIs := [(23, ev_304), (26, ev_305), (29, ev_10), (30, ev_152)]
set_option maxRecDepth 100000 in
theorem xi_w45 : zall cX0_classOf [zi_45_0, zi_45_1] := zall_w _ _ (by decide +kernel)
noncomputable def xi_45 (pc : Nat) : XIs := cond (Nat.blt pc 23) (zx zi_45_0) (zx zi_45_1)
theorem xi_ok45 (pc : Nat) : xi_ok cX0_classOf (xi_45 pc) = true := xi_c (zq1 xi_w45) (zq1 (zq2 xi_w45))
noncomputable def zi_46_0 : ZIs := [(0, ev_198), (1, ev_176), (3, ev_306), (6, ev_10), (7, ev_152), (8, ev_13), (9, ev_307), (12, ev_11), (14, ev_13), (15, ev_21), (16, ev_197), (17, ev_237), (20, ev_25), (22, ev_10), (23, ev_28), (25, ev_155)]
noncomputable def zi_46_1 : ZIs := [(27, ev_176), (29, ev_308), (32, ev_150), (34, ev_309), (37, ev_21), (38, ev_150), (40, ev_150), (42, ev_310), (43, ev_20), (44, ev_150), (46, ev_311), (49, ev_275), (51, ev_13), (52, ev_21), (53, ev_276), (55, ev_198)]
noncomputable def zi_46_2 : ZIs := [(56, ev_239), (59, ev_312), (62, ev_10), (63, ev_313), (65, ev_314), (67, ev_13), (68, ev_289), (71, ev_315), (74, ev_13), (75, ev_287), (78, ev_314), (80, ev_316), (81, ev_18), (82, ev_197), (83, ev_252), (84, ev_317)]
noncomputable def zi_46_3 : ZIs := [(85, ev_20), (86, ev_299), (87, ev_318), (90, ev_319), (93, ev_13), (94, ev_12), (96, ev_286), (99, ev_10), (100, ev_152), (101, ev_150), (103, ev_276), (105, ev_252), (106, ev_317), (107, ev_20), (108, ev_25), (110, ev_320)]
noncomputable def zi_46_4 : ZIs := [(113, ev_321), (116, ev_13), (117, ev_21), (118, ev_12), (120, ev_322), (123, ev_7), (124, ev_152)]
set_option maxRecDepth 100000 in
theorem xi_w46 : zall cX0_fill [zi_46_0, zi_46_1, zi_46_2, zi_46_3, zi_46_4] := zall_w _ _ (by decide +kernel)
noncomputable def xi_46 (pc : Nat) : XIs := cond (Nat.blt pc 56) (cond (Nat.blt pc 27) (zx zi_46_0) (zx zi_46_1)) (cond (Nat.blt pc 85) (zx zi_46_2) (cond (Nat.blt pc 113) (zx zi_46_3) (zx zi_46_4)))
theorem xi_ok46 (pc : Nat) : xi_ok cX0_fill (xi_46 pc) = true := xi_c (xi_c (zq1 xi_w46) (zq1 (zq2 xi_w46))) (xi_c (zq1 (zq2 (zq2 xi_w46))) (xi_c (zq1 (zq2 (zq2 (zq2 xi_w46)))) (zq1 (zq2 (zq2 (zq2 (zq2 xi_w46)))))))
noncomputable def zi_47_0 : ZIs := [(0, ev_13), (1, ev_21), (2, ev_197), (3, ev_323), (6, ev_11), (8, ev_7), (9, ev_12), (11, ev_277), (12, ev_25), (14, ev_21), (15, ev_197), (16, ev_324), (19, ev_28), (21, ev_10), (22, ev_275), (24, ev_10)]
noncomputable def zi_47_1 : ZIs := [(25, ev_313), (27, ev_314), (29, ev_13), (30, ev_289), (33, ev_325), (36, ev_13), (37, ev_287), (40, ev_314), (42, ev_18), (43, ev_155), (45, ev_20), (46, ev_326), (49, ev_7), (50, ev_229), (53, ev_10), (54, ev_327)]
noncomputable def zi_47_2 : ZIs := [(56, ev_13), (57, ev_287), (60, ev_314), (62, ev_18), (63, ev_21), (64, ev_12), (66, ev_18), (67, ev_20), (68, ev_328), (71, ev_329), (73, ev_330), (76, ev_276), (78, ev_331), (81, ev_276), (83, ev_329), (85, ev_278)]
noncomputable def zi_47_3 : ZIs := [(86, ev_275), (88, ev_13), (89, ev_287), (92, ev_314), (94, ev_316), (95, ev_18), (96, ev_150), (98, ev_278), (99, ev_299), (100, ev_13), (101, ev_21), (102, ev_197), (103, ev_150), (105, ev_252), (106, ev_317), (107, ev_20)]
noncomputable def zi_47_4 : ZIs := [(108, ev_198), (109, ev_7), (110, ev_22), (111, ev_291), (114, ev_158), (117, ev_7), (118, ev_152), (119, ev_13), (120, ev_287), (123, ev_314), (125, ev_316), (126, ev_18), (127, ev_150), (129, ev_252), (130, ev_317), (131, ev_20)]
noncomputable def zi_47_5 : ZIs := [(132, ev_299), (133, ev_318), (136, ev_332), (139, ev_10), (140, ev_152)]
set_option maxRecDepth 100000 in
theorem xi_w47 : zall cX0_fillPiece [zi_47_0, zi_47_1, zi_47_2, zi_47_3, zi_47_4, zi_47_5] := zall_w _ _ (by decide +kernel)
noncomputable def xi_47 (pc : Nat) : XIs := cond (Nat.blt pc 86) (cond (Nat.blt pc 25) (zx zi_47_0) (cond (Nat.blt pc 56) (zx zi_47_1) (zx zi_47_2))) (cond (Nat.blt pc 108) (zx zi_47_3) (cond (Nat.blt pc 132) (zx zi_47_4) (zx zi_47_5)))
theorem xi_ok47 (pc : Nat) : xi_ok cX0_fillPiece (xi_47 pc) = true := xi_c (xi_c (zq1 xi_w47) (xi_c (zq1 (zq2 xi_w47)) (zq1 (zq2 (zq2 xi_w47))))) (xi_c (zq1 (zq2 (zq2 (zq2 xi_w47)))) (xi_c (zq1 (zq2 (zq2 (zq2 (zq2 xi_w47))))) (zq1 (zq2 (zq2 (zq2 (zq2 (zq2 xi_w47))))))))
noncomputable def zi_48_0 : ZIs := [(0, ev_10), (1, ev_294), (2, ev_192), (3, ev_295), (4, ev_198), (5, ev_333), (8, ev_197), (9, ev_13), (10, ev_198), (11, ev_274), (14, ev_18), (15, ev_278), (16, ev_294), (17, ev_198), (18, ev_198), (19, ev_7)]
noncomputable def zi_48_1 : ZIs := [(20, ev_16), (21, ev_20), (22, ev_295), (23, ev_334), (26, ev_197), (27, ev_152)]
set_option maxRecDepth 100000 in
theorem xi_w48 : zall cX0_besides [zi_48_0, zi_48_1] := zall_w _ _ (by decide +kernel)
noncomputable def xi_48 (pc : Nat) : XIs := cond (Nat.blt pc 20) (zx zi_48_0) (zx zi_48_1)
theorem xi_ok48 (pc : Nat) : xi_ok cX0_besides (xi_48 pc) = true := xi_c (zq1 xi_w48) (zq1 (zq2 xi_w48))
noncomputable def zi_49_0 : ZIs := [(0, ev_197), (1, ev_295), (2, ev_10), (3, ev_11), (5, ev_10), (6, ev_25), (8, ev_150), (10, ev_176), (12, ev_335), (15, ev_198), (16, ev_12), (18, ev_336), (21, ev_198), (22, ev_11), (24, ev_198), (25, ev_28)]
noncomputable def zi_49_1 : ZIs := [(27, ev_155), (29, ev_337), (32, ev_155), (34, ev_274), (37, ev_275), (39, ev_13), (40, ev_21), (41, ev_276), (43, ev_18), (44, ev_338), (47, ev_21), (48, ev_276), (50, ev_18), (51, ev_198), (52, ev_20), (53, ev_269)]
noncomputable def zi_49_2 : ZIs := [(56, ev_339), (59, ev_13), (60, ev_307), (63, ev_176), (65, ev_340), (68, ev_13), (69, ev_341), (72, ev_13), (73, ev_307), (76, ev_276), (78, ev_299), (79, ev_13), (80, ev_1), (81, ev_307), (84, ev_7), (85, ev_22)]
noncomputable def zi_49_3 : ZIs := [(86, ev_286), (89, ev_198), (90, ev_7), (91, ev_276), (93, ev_277), (94, ev_252), (95, ev_317), (96, ev_20), (97, ev_295), (98, ev_155), (100, ev_155), (102, ev_7), (103, ev_16), (104, ev_20), (105, ev_28), (107, ev_342)]
noncomputable def zi_49_4 : ZIs := [(110, ev_343), (113, ev_344), (116, ev_198), (117, ev_152)]
set_option maxRecDepth 100000 in
theorem xi_w49 : zall cX0_setAside [zi_49_0, zi_49_1, zi_49_2, zi_49_3, zi_49_4] := zall_w _ _ (by decide +kernel)
noncomputable def xi_49 (pc : Nat) : XIs := cond (Nat.blt pc 56) (cond (Nat.blt pc 27) (zx zi_49_0) (zx zi_49_1)) (cond (Nat.blt pc 86) (zx zi_49_2) (cond (Nat.blt pc 110) (zx zi_49_3) (zx zi_49_4)))
theorem xi_ok49 (pc : Nat) : xi_ok cX0_setAside (xi_49 pc) = true := xi_c (xi_c (zq1 xi_w49) (zq1 (zq2 xi_w49))) (xi_c (zq1 (zq2 (zq2 xi_w49))) (xi_c (zq1 (zq2 (zq2 (zq2 xi_w49)))) (zq1 (zq2 (zq2 (zq2 (zq2 xi_w49)))))))
noncomputable def zi_50_0 : ZIs := [(0, ev_13), (1, ev_307), (4, ev_197), (5, ev_345), (8, ev_13), (9, ev_341), (12, ev_13), (13, ev_307), (16, ev_7), (17, ev_16), (18, ev_18), (19, ev_295), (20, ev_10), (21, ev_11), (23, ev_12), (25, ev_13)]
noncomputable def zi_50_1 : ZIs := [(26, ev_289), (29, ev_7), (30, ev_16), (31, ev_346), (34, ev_13), (35, ev_287), (38, ev_12), (40, ev_18), (41, ev_21), (42, ev_198), (43, ev_18), (44, ev_20), (45, ev_347), (48, ev_348), (51, ev_349), (54, ev_13)]
noncomputable def zi_50_2 : ZIs := [(55, ev_287), (58, ev_12), (60, ev_316), (61, ev_18), (62, ev_7), (63, ev_198), (64, ev_277), (65, ev_278), (66, ev_299), (67, ev_13), (68, ev_1), (69, ev_307), (72, ev_7), (73, ev_16), (74, ev_286), (77, ev_350)]
noncomputable def zi_50_3 : ZIs := [(80, ev_260)]
set_option maxRecDepth 100000 in
theorem xi_w50 : zall cX0_takeBack [zi_50_0, zi_50_1, zi_50_2, zi_50_3] := zall_w _ _ (by decide +kernel)
noncomputable def xi_50 (pc : Nat) : XIs := cond (Nat.blt pc 55) (cond (Nat.blt pc 26) (zx zi_50_0) (zx zi_50_1)) (cond (Nat.blt pc 80) (zx zi_50_2) (zx zi_50_3))
theorem xi_ok50 (pc : Nat) : xi_ok cX0_takeBack (xi_50 pc) = true := xi_c (xi_c (zq1 xi_w50) (zq1 (zq2 xi_w50))) (xi_c (zq1 (zq2 (zq2 xi_w50))) (zq1 (zq2 (zq2 (zq2 xi_w50)))))
noncomputable def zi_51_0 : ZIs := [(0, ev_10), (1, ev_294), (2, ev_10), (3, ev_295), (4, ev_198), (5, ev_13), (6, ev_289), (9, ev_346), (12, ev_13), (13, ev_287), (16, ev_198), (17, ev_18), (18, ev_192), (19, ev_20), (20, ev_351), (23, ev_304)]
noncomputable def zi_51_1 : ZIs := [(26, ev_300), (29, ev_319), (32, ev_197), (33, ev_152)]
set_option maxRecDepth 100000 in
theorem xi_w51 : zall cX0_freeColours [zi_51_0, zi_51_1] := zall_w _ _ (by decide +kernel)
noncomputable def xi_51 (pc : Nat) : XIs := cond (Nat.blt pc 26) (zx zi_51_0) (zx zi_51_1)
theorem xi_ok51 (pc : Nat) : xi_ok cX0_freeColours (xi_51 pc) = true := xi_c (zq1 xi_w51) (zq1 (zq2 xi_w51))
noncomputable def zi_52_0 : ZIs := [(0, ev_197), (1, ev_274), (4, ev_295), (5, ev_352), (7, ev_11), (9, ev_197), (10, ev_25), (12, ev_150), (14, ev_353), (17, ev_150), (19, ev_274), (22, ev_28), (24, ev_13), (25, ev_21), (26, ev_155), (28, ev_18)]
noncomputable def zi_52_1 : ZIs := [(29, ev_338), (32, ev_354), (34, ev_355), (35, ev_21), (36, ev_155), (38, ev_18), (39, ev_197), (40, ev_20), (41, ev_269), (44, ev_16), (45, ev_275), (47, ev_276), (49, ev_12), (51, ev_356), (54, ev_276), (56, ev_11)]
noncomputable def zi_52_2 : ZIs := [(58, ev_155), (60, ev_295), (61, ev_150), (63, ev_150), (65, ev_7), (66, ev_16), (67, ev_20), (68, ev_25), (70, ev_357), (73, ev_198), (74, ev_152)]
set_option maxRecDepth 100000 in
theorem xi_w52 : zall cX0_tightest [zi_52_0, zi_52_1, zi_52_2] := zall_w _ _ (by decide +kernel)
noncomputable def xi_52 (pc : Nat) : XIs := cond (Nat.blt pc 29) (zx zi_52_0) (cond (Nat.blt pc 58) (zx zi_52_1) (zx zi_52_2))
theorem xi_ok52 (pc : Nat) : xi_ok cX0_tightest (xi_52 pc) = true := xi_c (zq1 xi_w52) (xi_c (zq1 (zq2 xi_w52)) (zq1 (zq2 (zq2 xi_w52))))
noncomputable def zi_53_0 : ZIs := [(0, ev_13), (1, ev_197), (2, ev_244), (5, ev_11), (7, ev_12), (9, ev_198), (10, ev_358), (13, ev_13), (14, ev_287), (17, ev_12), (19, ev_18), (20, ev_25), (22, ev_13), (23, ev_287), (26, ev_12), (28, ev_13)]
noncomputable def zi_53_1 : ZIs := [(29, ev_287), (32, ev_198), (33, ev_18), (34, ev_299), (35, ev_13), (36, ev_287), (39, ev_198), (40, ev_150), (42, ev_299), (43, ev_198), (44, ev_11), (46, ev_10), (47, ev_25), (49, ev_150), (51, ev_12), (53, ev_359)]
noncomputable def zi_53_2 : ZIs := [(56, ev_13), (57, ev_21), (58, ev_197), (59, ev_150), (61, ev_12), (63, ev_245), (66, ev_227), (69, ev_150), (71, ev_11), (73, ev_343), (76, ev_360), (79, ev_12), (81, ev_152)]
set_option maxRecDepth 100000 in
theorem xi_w53 : zall cX0_lessen [zi_53_0, zi_53_1, zi_53_2] := zall_w _ _ (by decide +kernel)
noncomputable def xi_53 (pc : Nat) : XIs := cond (Nat.blt pc 29) (zx zi_53_0) (cond (Nat.blt pc 56) (zx zi_53_1) (zx zi_53_2))
theorem xi_ok53 (pc : Nat) : xi_ok cX0_lessen (xi_53 pc) = true := xi_c (zq1 xi_w53) (xi_c (zq1 (zq2 xi_w53)) (zq1 (zq2 (zq2 xi_w53))))
noncomputable def zi_54_0 : ZIs := [(0, ev_7), (1, ev_197), (2, ev_277), (3, ev_25), (5, ev_150), (7, ev_7), (8, ev_16), (9, ev_28), (11, ev_13), (12, ev_287), (15, ev_198), (16, ev_18), (17, ev_21), (18, ev_266), (21, ev_197), (22, ev_18)]
noncomputable def zi_54_1 : ZIs := [(23, ev_20), (24, ev_155), (26, ev_20), (27, ev_158), (30, ev_10), (31, ev_152), (32, ev_21), (33, ev_266), (36, ev_150), (38, ev_13), (39, ev_287), (42, ev_198), (43, ev_18), (44, ev_13), (45, ev_287), (48, ev_12)]
noncomputable def zi_54_2 : ZIs := [(50, ev_18), (51, ev_278), (52, ev_311), (55, ev_275), (57, ev_276), (59, ev_155), (61, ev_20), (62, ev_361), (65, ev_13), (66, ev_287), (69, ev_198), (70, ev_316), (71, ev_18), (72, ev_276), (74, ev_317), (75, ev_299)]
noncomputable def zi_54_3 : ZIs := [(76, ev_13), (77, ev_287), (80, ev_12), (82, ev_316), (83, ev_18), (84, ev_276), (86, ev_317), (87, ev_299), (88, ev_7), (89, ev_152), (90, ev_13), (91, ev_287), (94, ev_10), (95, ev_13), (96, ev_362), (99, ev_10)]
noncomputable def zi_54_4 : ZIs := [(100, ev_176), (102, ev_363), (105, ev_10), (106, ev_313), (108, ev_314), (110, ev_13), (111, ev_289), (114, ev_364), (117, ev_13), (118, ev_287), (121, ev_314), (123, ev_316), (124, ev_18), (125, ev_155), (127, ev_20), (128, ev_299)]
noncomputable def zi_54_5 : ZIs := [(129, ev_318), (132, ev_305), (135, ev_13), (136, ev_287), (139, ev_198), (140, ev_316), (141, ev_18), (142, ev_150), (144, ev_278), (145, ev_299), (146, ev_13), (147, ev_21), (148, ev_266), (151, ev_21), (152, ev_214), (155, ev_155)]
noncomputable def zi_54_6 : ZIs := [(157, ev_252), (158, ev_317), (159, ev_20), (160, ev_150), (162, ev_252), (163, ev_317), (164, ev_20), (165, ev_10), (166, ev_291), (169, ev_158), (172, ev_7), (173, ev_152), (174, ev_13), (175, ev_362), (178, ev_10), (179, ev_13)]
noncomputable def zi_54_7 : ZIs := [(180, ev_287), (183, ev_10), (184, ev_176), (186, ev_363), (189, ev_10), (190, ev_152)]
set_option maxRecDepth 100000 in
theorem xi_w54 : zall cX0_canLower [zi_54_0, zi_54_1, zi_54_2, zi_54_3, zi_54_4, zi_54_5, zi_54_6, zi_54_7] := zall_w _ _ (by decide +kernel)
noncomputable def xi_54 (pc : Nat) : XIs := cond (Nat.blt pc 100) (cond (Nat.blt pc 50) (cond (Nat.blt pc 23) (zx zi_54_0) (zx zi_54_1)) (cond (Nat.blt pc 76) (zx zi_54_2) (zx zi_54_3))) (cond (Nat.blt pc 157) (cond (Nat.blt pc 129) (zx zi_54_4) (zx zi_54_5)) (cond (Nat.blt pc 180) (zx zi_54_6) (zx zi_54_7)))
theorem xi_ok54 (pc : Nat) : xi_ok cX0_canLower (xi_54 pc) = true := xi_c (xi_c (xi_c (zq1 xi_w54) (zq1 (zq2 xi_w54))) (xi_c (zq1 (zq2 (zq2 xi_w54))) (zq1 (zq2 (zq2 (zq2 xi_w54)))))) (xi_c (xi_c (zq1 (zq2 (zq2 (zq2 (zq2 xi_w54))))) (zq1 (zq2 (zq2 (zq2 (zq2 (zq2 xi_w54))))))) (xi_c (zq1 (zq2 (zq2 (zq2 (zq2 (zq2 (zq2 xi_w54))))))) (zq1 (zq2 (zq2 (zq2 (zq2 (zq2 (zq2 (zq2 xi_w54))))))))))
noncomputable def zi_55_0 : ZIs := [(0, ev_13), (1, ev_365), (4, ev_13), (5, ev_366), (7, ev_255), (9, ev_367), (12, ev_13), (13, ev_7), (14, ev_254), (17, ev_13), (18, ev_30), (19, ev_368), (22, ev_13), (23, ev_366), (25, ev_255), (27, ev_257)]
noncomputable def zi_55_1 : ZIs := [(30, ev_13), (31, ev_366), (33, ev_8), (35, ev_258), (38, ev_13), (39, ev_369), (41, ev_8), (43, ev_370), (46, ev_13), (47, ev_176), (49, ev_8), (51, ev_371), (54, ev_13), (55, ev_176), (57, ev_8), (59, ev_372)]
noncomputable def zi_55_2 : ZIs := [(62, ev_260)]
set_option maxRecDepth 100000 in
theorem xi_w55 : zall cX1_init [zi_55_0, zi_55_1, zi_55_2] := zall_w _ _ (by decide +kernel)
noncomputable def xi_55 (pc : Nat) : XIs := cond (Nat.blt pc 30) (zx zi_55_0) (cond (Nat.blt pc 62) (zx zi_55_1) (zx zi_55_2))
theorem xi_ok55 (pc : Nat) : xi_ok cX1_init (xi_55 pc) = true := xi_c (zq1 xi_w55) (xi_c (zq1 (zq2 xi_w55)) (zq1 (zq2 (zq2 xi_w55))))
noncomputable def zi_56_0 : ZIs := [(0, ev_21), (1, ev_211), (4, ev_21), (5, ev_373), (8, ev_366), (10, ev_374), (13, ev_21), (14, ev_30), (15, ev_366), (17, ev_375), (20, ev_152), (21, ev_13), (22, ev_10), (23, ev_376), (26, ev_21), (27, ev_15)]
noncomputable def zi_56_1 : ZIs := [(29, ev_10), (30, ev_377), (33, ev_13), (34, ev_21), (35, ev_10), (36, ev_218), (39, ev_378), (42, ev_10), (43, ev_152), (44, ev_21), (45, ev_379), (47, ev_380), (50, ev_381), (53, ev_21), (54, ev_30), (55, ev_32)]
noncomputable def zi_56_2 : ZIs := [(56, ev_382), (59, ev_152), (60, ev_13), (61, ev_383), (64, ev_294), (65, ev_21), (66, ev_15), (68, ev_10), (69, ev_377), (72, ev_13), (73, ev_21), (74, ev_10), (75, ev_218), (78, ev_378), (81, ev_10), (82, ev_152)]
noncomputable def zi_56_3 : ZIs := [(83, ev_21), (84, ev_384), (87, ev_385), (90, ev_21), (91, ev_30), (92, ev_32), (93, ev_382), (96, ev_152), (97, ev_13), (98, ev_197), (99, ev_254), (102, ev_13), (103, ev_13), (104, ev_383), (107, ev_368), (110, ev_13)]
noncomputable def zi_56_4 : ZIs := [(111, ev_362), (114, ev_10), (115, ev_13), (116, ev_386), (119, ev_10), (120, ev_13), (121, ev_383), (124, ev_387), (127, ev_7), (128, ev_152)]
set_option maxRecDepth 100000 in
theorem xi_w56 : zall cX1_adopt [zi_56_0, zi_56_1, zi_56_2, zi_56_3, zi_56_4] := zall_w _ _ (by decide +kernel)
noncomputable def xi_56 (pc : Nat) : XIs := cond (Nat.blt pc 56) (cond (Nat.blt pc 29) (zx zi_56_0) (zx zi_56_1)) (cond (Nat.blt pc 83) (zx zi_56_2) (cond (Nat.blt pc 111) (zx zi_56_3) (zx zi_56_4)))
theorem xi_ok56 (pc : Nat) : xi_ok cX1_adopt (xi_56 pc) = true := xi_c (xi_c (zq1 xi_w56) (zq1 (zq2 xi_w56))) (xi_c (zq1 (zq2 (zq2 xi_w56))) (xi_c (zq1 (zq2 (zq2 (zq2 xi_w56)))) (zq1 (zq2 (zq2 (zq2 (zq2 xi_w56)))))))
noncomputable def zi_57_0 : ZIs := [(0, ev_13), (1, ev_383), (4, ev_366), (6, ev_346), (9, ev_13), (10, ev_362), (13, ev_13), (14, ev_383), (17, ev_192), (18, ev_299), (19, ev_13), (20, ev_1), (21, ev_383), (24, ev_7), (25, ev_22), (26, ev_376)]
noncomputable def zi_57_1 : ZIs := [(29, ev_7), (30, ev_152)]
set_option maxRecDepth 100000 in
theorem xi_w57 : zall cX1_emit [zi_57_0, zi_57_1] := zall_w _ _ (by decide +kernel)
noncomputable def xi_57 (pc : Nat) : XIs := cond (Nat.blt pc 29) (zx zi_57_0) (zx zi_57_1)
theorem xi_ok57 (pc : Nat) : xi_ok cX1_emit (xi_57 pc) = true := xi_c (zq1 xi_w57) (zq1 (zq2 xi_w57))
noncomputable def zi_58_0 : ZIs := [(0, ev_13), (1, ev_21), (2, ev_197), (3, ev_388), (6, ev_378), (9, ev_10), (10, ev_152), (11, ev_21), (12, ev_389), (14, ev_380), (17, ev_390), (20, ev_21), (21, ev_391), (23, ev_380), (26, ev_378), (29, ev_7)]
noncomputable def zi_58_1 : ZIs := [(30, ev_152), (31, ev_21), (32, ev_392), (35, ev_295), (36, ev_21), (37, ev_15), (39, ev_10), (40, ev_377), (43, ev_13), (44, ev_21), (45, ev_197), (46, ev_388), (49, ev_393), (52, ev_13), (53, ev_394), (55, ev_198)]
noncomputable def zi_58_2 : ZIs := [(56, ev_22), (57, ev_395), (60, ev_227), (63, ev_7), (64, ev_229), (67, ev_10), (68, ev_152)]
set_option maxRecDepth 100000 in
theorem xi_w58 : zall cX1_readExpression [zi_58_0, zi_58_1, zi_58_2] := zall_w _ _ (by decide +kernel)
noncomputable def xi_58 (pc : Nat) : XIs := cond (Nat.blt pc 30) (zx zi_58_0) (cond (Nat.blt pc 56) (zx zi_58_1) (zx zi_58_2))
theorem xi_ok58 (pc : Nat) : xi_ok cX1_readExpression (xi_58 pc) = true := xi_c (zq1 xi_w58) (xi_c (zq1 (zq2 xi_w58)) (zq1 (zq2 (zq2 xi_w58))))
noncomputable def zi_59_0 : ZIs := [(0, ev_13), (1, ev_21), (2, ev_197), (3, ev_396), (6, ev_378), (9, ev_10), (10, ev_152), (11, ev_10), (12, ev_295), (13, ev_198), (14, ev_366), (16, ev_397), (19, ev_21), (20, ev_398), (22, ev_380), (25, ev_399)]
noncomputable def zi_59_1 : ZIs := [(28, ev_21), (29, ev_400), (31, ev_380), (34, ev_401), (37, ev_21), (38, ev_392), (41, ev_11), (43, ev_21), (44, ev_15), (46, ev_10), (47, ev_377), (50, ev_13), (51, ev_21), (52, ev_197), (53, ev_396), (56, ev_378)]
noncomputable def zi_59_2 : ZIs := [(59, ev_10), (60, ev_152), (61, ev_13), (62, ev_394), (64, ev_12), (66, ev_22), (67, ev_395), (70, ev_50), (71, ev_300), (74, ev_402), (77, ev_7), (78, ev_152)]
set_option maxRecDepth 100000 in
theorem xi_w59 : zall cX1_readSum [zi_59_0, zi_59_1, zi_59_2] := zall_w _ _ (by decide +kernel)
noncomputable def xi_59 (pc : Nat) : XIs := cond (Nat.blt pc 28) (zx zi_59_0) (cond (Nat.blt pc 59) (zx zi_59_1) (zx zi_59_2))
theorem xi_ok59 (pc : Nat) : xi_ok cX1_readSum (xi_59 pc) = true := xi_c (zq1 xi_w59) (xi_c (zq1 (zq2 xi_w59)) (zq1 (zq2 (zq2 xi_w59))))
noncomputable def zi_60_0 : ZIs := [(0, ev_13), (1, ev_21), (2, ev_197), (3, ev_403), (6, ev_378), (9, ev_10), (10, ev_152), (11, ev_10), (12, ev_295), (13, ev_198), (14, ev_366), (16, ev_404), (19, ev_21), (20, ev_405), (22, ev_380), (25, ev_406)]
noncomputable def zi_60_1 : ZIs := [(28, ev_21), (29, ev_15), (31, ev_10), (32, ev_377), (35, ev_13), (36, ev_21), (37, ev_197), (38, ev_403), (41, ev_378), (44, ev_10), (45, ev_152), (46, ev_13), (47, ev_407), (49, ev_395), (52, ev_50), (53, ev_300)]
noncomputable def zi_60_2 : ZIs := [(56, ev_408), (59, ev_7), (60, ev_152)]
set_option maxRecDepth 100000 in
theorem xi_w60 : zall cX1_readProduct [zi_60_0, zi_60_1, zi_60_2] := zall_w _ _ (by decide +kernel)
noncomputable def xi_60 (pc : Nat) : XIs := cond (Nat.blt pc 28) (zx zi_60_0) (cond (Nat.blt pc 56) (zx zi_60_1) (zx zi_60_2))
theorem xi_ok60 (pc : Nat) : xi_ok cX1_readProduct (xi_60 pc) = true := xi_c (zq1 xi_w60) (xi_c (zq1 (zq2 xi_w60)) (zq1 (zq2 (zq2 xi_w60))))
noncomputable def zi_61_0 : ZIs := [(0, ev_21), (1, ev_384), (4, ev_30), (5, ev_409), (8, ev_21), (9, ev_384), (12, ev_7), (13, ev_410), (16, ev_13), (17, ev_21), (18, ev_298), (21, ev_152), (22, ev_21), (23, ev_400), (25, ev_380), (28, ev_295)]
noncomputable def zi_61_1 : ZIs := [(29, ev_198), (30, ev_411), (33, ev_21), (34, ev_412), (36, ev_380), (39, ev_381), (42, ev_21), (43, ev_30), (44, ev_32), (45, ev_382), (48, ev_152), (49, ev_197), (50, ev_413), (52, ev_414), (55, ev_21), (56, ev_31)]
noncomputable def zi_61_2 : ZIs := [(57, ev_21), (58, ev_415), (61, ev_375), (64, ev_152), (65, ev_21), (66, ev_15), (68, ev_10), (69, ev_377), (72, ev_198), (73, ev_416), (76, ev_13), (77, ev_21), (78, ev_197), (79, ev_7), (80, ev_22), (81, ev_403)]
noncomputable def zi_61_3 : ZIs := [(84, ev_417), (87, ev_13), (88, ev_418), (90, ev_395), (93, ev_227), (96, ev_7), (97, ev_229), (100, ev_10), (101, ev_152), (102, ev_13), (103, ev_21), (104, ev_197), (105, ev_7), (106, ev_22), (107, ev_218), (110, ev_378)]
noncomputable def zi_61_4 : ZIs := [(113, ev_10), (114, ev_152), (115, ev_21), (116, ev_419), (118, ev_380), (121, ev_381), (124, ev_21), (125, ev_30), (126, ev_32), (127, ev_382), (130, ev_152), (131, ev_21), (132, ev_15), (134, ev_10), (135, ev_377), (138, ev_7)]
noncomputable def zi_61_5 : ZIs := [(139, ev_152)]
set_option maxRecDepth 100000 in
theorem xi_w61 : zall cX1_readFactor [zi_61_0, zi_61_1, zi_61_2, zi_61_3, zi_61_4, zi_61_5] := zall_w _ _ (by decide +kernel)
noncomputable def xi_61 (pc : Nat) : XIs := cond (Nat.blt pc 84) (cond (Nat.blt pc 29) (zx zi_61_0) (cond (Nat.blt pc 57) (zx zi_61_1) (zx zi_61_2))) (cond (Nat.blt pc 113) (zx zi_61_3) (cond (Nat.blt pc 139) (zx zi_61_4) (zx zi_61_5)))
theorem xi_ok61 (pc : Nat) : xi_ok cX1_readFactor (xi_61 pc) = true := xi_c (xi_c (zq1 xi_w61) (xi_c (zq1 (zq2 xi_w61)) (zq1 (zq2 (zq2 xi_w61))))) (xi_c (zq1 (zq2 (zq2 (zq2 xi_w61)))) (xi_c (zq1 (zq2 (zq2 (zq2 (zq2 xi_w61))))) (zq1 (zq2 (zq2 (zq2 (zq2 (zq2 xi_w61))))))))
noncomputable def zi_62_0 : ZIs := [(0, ev_21), (1, ev_392), (4, ev_294), (5, ev_21), (6, ev_384), (9, ev_7), (10, ev_420), (13, ev_421), (15, ev_422), (17, ev_21), (18, ev_392), (21, ev_22), (22, ev_423), (23, ev_424), (26, ev_295), (27, ev_198)]
noncomputable def zi_62_1 : ZIs := [(28, ev_425), (31, ev_21), (32, ev_33), (33, ev_21), (34, ev_415), (37, ev_375), (40, ev_152), (41, ev_426), (43, ev_198), (44, ev_22), (45, ev_294), (46, ev_13), (47, ev_197), (48, ev_395), (51, ev_50), (52, ev_21)]
noncomputable def zi_62_2 : ZIs := [(53, ev_15), (55, ev_10), (56, ev_377), (59, ev_7), (60, ev_152)]
set_option maxRecDepth 100000 in
theorem xi_w62 : zall cX1_readAtom [zi_62_0, zi_62_1, zi_62_2] := zall_w _ _ (by decide +kernel)
noncomputable def xi_62 (pc : Nat) : XIs := cond (Nat.blt pc 28) (zx zi_62_0) (cond (Nat.blt pc 53) (zx zi_62_1) (zx zi_62_2))
theorem xi_ok62 (pc : Nat) : xi_ok cX1_readAtom (xi_62 pc) = true := xi_c (zq1 xi_w62) (xi_c (zq1 (zq2 xi_w62)) (zq1 (zq2 (zq2 xi_w62))))
noncomputable def zi_63_0 : ZIs := [(0, ev_21), (1, ev_427), (4, ev_13), (5, ev_21), (6, ev_428), (9, ev_429), (12, ev_13), (13, ev_430), (16, ev_230), (17, ev_431), (20, ev_13), (21, ev_21), (22, ev_10), (23, ev_432), (26, ev_50), (27, ev_7)]
noncomputable def zi_63_1 : ZIs := [(28, ev_295), (29, ev_198), (30, ev_197), (31, ev_433), (34, ev_13), (35, ev_434), (38, ev_10), (39, ev_13), (40, ev_430), (43, ev_10), (44, ev_176), (46, ev_387), (49, ev_13), (50, ev_21), (51, ev_198), (52, ev_432)]
noncomputable def zi_63_2 : ZIs := [(55, ev_378), (58, ev_198), (59, ev_152), (60, ev_300), (63, ev_435), (66, ev_197), (67, ev_152)]
set_option maxRecDepth 100000 in
theorem xi_w63 : zall cX1_work [zi_63_0, zi_63_1, zi_63_2] := zall_w _ _ (by decide +kernel)
noncomputable def xi_63 (pc : Nat) : XIs := cond (Nat.blt pc 28) (zx zi_63_0) (cond (Nat.blt pc 55) (zx zi_63_1) (zx zi_63_2))
theorem xi_ok63 (pc : Nat) : xi_ok cX1_work (xi_63 pc) = true := xi_c (zq1 xi_w63) (xi_c (zq1 (zq2 xi_w63)) (zq1 (zq2 (zq2 xi_w63))))
noncomputable def zi_64_0 : ZIs := [(0, ev_10), (1, ev_295), (2, ev_10), (3, ev_11), (5, ev_12), (7, ev_21), (8, ev_428), (11, ev_436), (14, ev_13), (15, ev_21), (16, ev_12), (18, ev_197), (19, ev_437), (22, ev_13), (23, ev_434), (26, ev_12)]
noncomputable def zi_64_1 : ZIs := [(28, ev_197), (29, ev_153), (32, ev_13), (33, ev_10), (34, ev_13), (35, ev_280), (38, ev_438), (41, ev_439), (44, ev_13), (45, ev_13), (46, ev_280), (49, ev_13), (50, ev_440), (53, ev_438), (56, ev_194), (57, ev_198)]
noncomputable def zi_64_2 : ZIs := [(58, ev_13), (59, ev_434), (62, ev_12), (64, ev_154), (65, ev_13), (66, ev_430), (69, ev_12), (71, ev_154), (72, ev_157), (73, ev_227), (76, ev_7), (77, ev_229), (80, ev_10), (81, ev_278), (82, ev_295), (83, ev_348)]
noncomputable def zi_64_3 : ZIs := [(86, ev_441), (89, ev_198), (90, ev_152)]
set_option maxRecDepth 100000 in
theorem xi_w64 : zall cX1_doRound [zi_64_0, zi_64_1, zi_64_2, zi_64_3] := zall_w _ _ (by decide +kernel)
noncomputable def xi_64 (pc : Nat) : XIs := cond (Nat.blt pc 58) (cond (Nat.blt pc 28) (zx zi_64_0) (zx zi_64_1)) (cond (Nat.blt pc 86) (zx zi_64_2) (zx zi_64_3))
theorem xi_ok64 (pc : Nat) : xi_ok cX1_doRound (xi_64 pc) = true := xi_c (xi_c (zq1 xi_w64) (zq1 (zq2 xi_w64))) (xi_c (zq1 (zq2 (zq2 xi_w64))) (zq1 (zq2 (zq2 (zq2 xi_w64)))))
noncomputable def zi_65_0 : ZIs := [(0, ev_230), (1, ev_442), (3, ev_443), (6, ev_58), (8, ev_444), (11, ev_445), (13, ev_21), (14, ev_446), (17, ev_197), (18, ev_18), (19, ev_447), (21, ev_448), (23, ev_21), (24, ev_446), (27, ev_197), (28, ev_7)]
noncomputable def zi_65_1 : ZIs := [(29, ev_22), (30, ev_18), (31, ev_449), (34, ev_21), (35, ev_450), (38, ev_448), (40, ev_18), (41, ev_451), (43, ev_13), (44, ev_430), (47, ev_21), (48, ev_452), (51, ev_453), (53, ev_18), (54, ev_154), (55, ev_454)]
noncomputable def zi_65_2 : ZIs := [(57, ev_455), (59, ev_21), (60, ev_456), (63, ev_453), (65, ev_18), (66, ev_156), (67, ev_457), (68, ev_458), (71, ev_459), (73, ev_247), (75, ev_455), (77, ev_457), (78, ev_442), (80, ev_460), (82, ev_461), (84, ev_40)]
noncomputable def zi_65_3 : ZIs := [(87, ev_58), (89, ev_462), (91, ev_461), (93, ev_463), (96, ev_445), (98, ev_464), (101, ev_342), (104, ev_13), (105, ev_465), (108, ev_10), (109, ev_13), (110, ev_430), (113, ev_197), (114, ev_154), (115, ev_194), (116, ev_13)]
noncomputable def zi_65_4 : ZIs := [(117, ev_465), (120, ev_7), (121, ev_197), (122, ev_156), (123, ev_194), (124, ev_13), (125, ev_465), (128, ev_30), (129, ev_21), (130, ev_466), (133, ev_197), (134, ev_18), (135, ev_156), (136, ev_194), (137, ev_13), (138, ev_465)]
noncomputable def zi_65_5 : ZIs := [(141, ev_31), (142, ev_21), (143, ev_197), (144, ev_467), (147, ev_156), (148, ev_194), (149, ev_13), (150, ev_465), (153, ev_32), (154, ev_21), (155, ev_197), (156, ev_51), (159, ev_156), (160, ev_194), (161, ev_13), (162, ev_465)]
noncomputable def zi_65_6 : ZIs := [(165, ev_33), (166, ev_198), (167, ev_156), (168, ev_194), (169, ev_13), (170, ev_465), (173, ev_15), (175, ev_247), (177, ev_458), (180, ev_194), (181, ev_13), (182, ev_465), (185, ev_468), (187, ev_460), (189, ev_194), (190, ev_13)]
noncomputable def zi_65_7 : ZIs := [(191, ev_465), (194, ev_469), (196, ev_462), (198, ev_194), (199, ev_260)]
set_option maxRecDepth 100000 in
theorem xi_w65 : zall cX1_look [zi_65_0, zi_65_1, zi_65_2, zi_65_3, zi_65_4, zi_65_5, zi_65_6, zi_65_7] := zall_w _ _ (by decide +kernel)
noncomputable def xi_65 (pc : Nat) : XIs := cond (Nat.blt pc 117) (cond (Nat.blt pc 57) (cond (Nat.blt pc 29) (zx zi_65_0) (zx zi_65_1)) (cond (Nat.blt pc 87) (zx zi_65_2) (zx zi_65_3))) (cond (Nat.blt pc 165) (cond (Nat.blt pc 141) (zx zi_65_4) (zx zi_65_5)) (cond (Nat.blt pc 191) (zx zi_65_6) (zx zi_65_7)))
theorem xi_ok65 (pc : Nat) : xi_ok cX1_look (xi_65 pc) = true := xi_c (xi_c (xi_c (zq1 xi_w65) (zq1 (zq2 xi_w65))) (xi_c (zq1 (zq2 (zq2 xi_w65))) (zq1 (zq2 (zq2 (zq2 xi_w65)))))) (xi_c (xi_c (zq1 (zq2 (zq2 (zq2 (zq2 xi_w65))))) (zq1 (zq2 (zq2 (zq2 (zq2 (zq2 xi_w65))))))) (xi_c (zq1 (zq2 (zq2 (zq2 (zq2 (zq2 (zq2 xi_w65))))))) (zq1 (zq2 (zq2 (zq2 (zq2 (zq2 (zq2 (zq2 xi_w65))))))))))
noncomputable def zi_66_0 : ZIs := [(0, ev_10), (1, ev_295), (2, ev_192), (3, ev_11), (5, ev_12), (7, ev_197), (8, ev_470), (11, ev_13), (12, ev_386), (15, ev_12), (17, ev_18), (18, ev_25), (20, ev_150), (22, ev_394), (24, ev_471), (27, ev_13)]
noncomputable def zi_66_1 : ZIs := [(28, ev_341), (31, ev_198), (32, ev_150), (34, ev_426), (36, ev_472), (39, ev_150), (41, ev_156), (42, ev_473), (45, ev_13), (46, ev_465), (49, ev_150), (51, ev_426), (53, ev_16), (54, ev_154), (55, ev_194), (56, ev_300)]
noncomputable def zi_66_2 : ZIs := [(59, ev_474), (62, ev_150), (64, ev_418), (66, ev_475), (69, ev_13), (70, ev_341), (73, ev_198), (74, ev_7), (75, ev_16), (76, ev_13), (77, ev_341), (80, ev_198), (81, ev_7), (82, ev_16), (83, ev_154), (84, ev_476)]
noncomputable def zi_66_3 : ZIs := [(85, ev_194), (86, ev_477), (89, ev_478), (92, ev_13), (93, ev_341), (96, ev_198), (97, ev_7), (98, ev_16), (99, ev_150), (101, ev_394), (103, ev_16), (104, ev_13), (105, ev_341), (108, ev_198), (109, ev_7), (110, ev_16)]
noncomputable def zi_66_4 : ZIs := [(111, ev_154), (112, ev_13), (113, ev_341), (116, ev_198), (117, ev_154), (118, ev_479), (121, ev_194), (122, ev_348), (125, ev_480), (128, ev_13), (129, ev_341), (132, ev_10), (133, ev_154), (134, ev_481)]
set_option maxRecDepth 100000 in
theorem xi_w66 : zall cX1_compute [zi_66_0, zi_66_1, zi_66_2, zi_66_3, zi_66_4] := zall_w _ _ (by decide +kernel)
noncomputable def xi_66 (pc : Nat) : XIs := cond (Nat.blt pc 59) (cond (Nat.blt pc 28) (zx zi_66_0) (zx zi_66_1)) (cond (Nat.blt pc 85) (zx zi_66_2) (cond (Nat.blt pc 111) (zx zi_66_3) (zx zi_66_4)))
theorem xi_ok66 (pc : Nat) : xi_ok cX1_compute (xi_66 pc) = true := xi_c (xi_c (zq1 xi_w66) (zq1 (zq2 xi_w66))) (xi_c (zq1 (zq2 (zq2 xi_w66))) (xi_c (zq1 (zq2 (zq2 (zq2 xi_w66)))) (zq1 (zq2 (zq2 (zq2 (zq2 xi_w66)))))))
noncomputable def zi_67_0 : ZIs := [(0, ev_482)]
noncomputable def xi_67_1 : XIs := [(1, .lookupswitch 75 #[(42, 57), (43, 43), (45, 50), (60, 63)], 43)]
set_option maxRecDepth 100000 in
theorem xi_ok67_1 : xi_ok cX1_combine xi_67_1 = true := by decide +kernel
noncomputable def zi_67_2 : ZIs := [(44, ev_483), (45, ev_484), (46, ev_457), (47, ev_458), (50, ev_481), (51, ev_483), (52, ev_484), (53, ev_485), (54, ev_458), (57, ev_481), (58, ev_483), (59, ev_484), (60, ev_60), (63, ev_481), (64, ev_483), (65, ev_484)]
noncomputable def zi_67_3 : ZIs := [(66, ev_157), (67, ev_486), (70, ev_228), (71, ev_229), (74, ev_230), (75, ev_481), (76, ev_483), (77, ev_484), (78, ev_157), (79, ev_326), (82, ev_228), (83, ev_229), (86, ev_230), (87, ev_481)]
set_option maxRecDepth 100000 in
theorem xi_w67 : zall cX1_combine [zi_67_0, zi_67_2, zi_67_3] := zall_w _ _ (by decide +kernel)
noncomputable def xi_67 (pc : Nat) : XIs := cond (Nat.blt pc 44) (cond (Nat.blt pc 1) (zx zi_67_0) (xi_67_1)) (cond (Nat.blt pc 66) (zx zi_67_2) (zx zi_67_3))
theorem xi_ok67 (pc : Nat) : xi_ok cX1_combine (xi_67 pc) = true := xi_c (xi_c (zq1 xi_w67) (xi_ok67_1)) (xi_c (zq1 (zq2 xi_w67)) (zq1 (zq2 (zq2 xi_w67))))
noncomputable def zi_68_0 : ZIs := [(0, ev_487), (1, ev_230), (2, ev_157), (3, ev_488), (6, ev_489), (7, ev_63), (10, ev_443), (13, ev_487), (14, ev_63), (17, ev_490), (18, ev_157), (19, ev_491), (22, ev_487), (23, ev_489), (24, ev_492), (25, ev_481)]
noncomputable def zi_68_1 : ZIs := [(26, ev_487), (27, ev_230), (28, ev_157), (29, ev_493), (32, ev_7), (33, ev_229), (36, ev_10), (37, ev_489), (38, ev_230), (39, ev_157), (40, ev_493), (43, ev_7), (44, ev_229), (47, ev_10), (48, ev_410), (51, ev_443)]
noncomputable def zi_68_2 : ZIs := [(54, ev_209), (57, ev_444), (60, ev_481)]
set_option maxRecDepth 100000 in
theorem xi_w68 : zall cX1_times [zi_68_0, zi_68_1, zi_68_2] := zall_w _ _ (by decide +kernel)
noncomputable def xi_68 (pc : Nat) : XIs := cond (Nat.blt pc 26) (zx zi_68_0) (cond (Nat.blt pc 54) (zx zi_68_1) (zx zi_68_2))
theorem xi_ok68 (pc : Nat) : xi_ok cX1_times (xi_68 pc) = true := xi_c (zq1 xi_w68) (xi_c (zq1 (zq2 xi_w68)) (zq1 (zq2 (zq2 xi_w68))))
noncomputable def zi_69_0 : ZIs := [(0, ev_444), (3, ev_443), (6, ev_487), (7, ev_40), (10, ev_463), (13, ev_481)]
set_option maxRecDepth 100000 in
theorem xi_w69 : zall cX1_clip [zi_69_0] := zall_w _ _ (by decide +kernel)
noncomputable def xi_69 (pc : Nat) : XIs := zx zi_69_0
theorem xi_ok69 (pc : Nat) : xi_ok cX1_clip (xi_69 pc) = true := zq1 xi_w69
noncomputable def zi_70_0 : ZIs := [(0, ev_13), (1, ev_10), (2, ev_494), (5, ev_13), (6, ev_10), (7, ev_495), (10, ev_13), (11, ev_10), (12, ev_496), (15, ev_21), (16, ev_198), (17, ev_497), (20, ev_275), (22, ev_10), (23, ev_313), (25, ev_314)]
noncomputable def zi_70_1 : ZIs := [(27, ev_197), (28, ev_498), (31, ev_276), (33, ev_327), (35, ev_10), (36, ev_447), (38, ev_448), (40, ev_426), (42, ev_499), (45, ev_329), (47, ev_500), (50, ev_13), (51, ev_329), (53, ev_12), (55, ev_501), (57, ev_76)]
noncomputable def zi_70_2 : ZIs := [(60, ev_327), (62, ev_13), (63, ev_1), (64, ev_502), (67, ev_7), (68, ev_22), (69, ev_496), (72, ev_464), (75, ev_301), (78, ev_318), (81, ev_503), (84, ev_260)]
set_option maxRecDepth 100000 in
theorem xi_w70 : zall cX1_post [zi_70_0, zi_70_1, zi_70_2] := zall_w _ _ (by decide +kernel)
noncomputable def xi_70 (pc : Nat) : XIs := cond (Nat.blt pc 27) (zx zi_70_0) (cond (Nat.blt pc 60) (zx zi_70_1) (zx zi_70_2))
theorem xi_ok70 (pc : Nat) : xi_ok cX1_post (xi_70 pc) = true := xi_c (zq1 xi_w70) (xi_c (zq1 (zq2 xi_w70)) (zq1 (zq2 (zq2 xi_w70))))
noncomputable def zi_71_0 : ZIs := [(0, ev_192), (1, ev_7), (2, ev_504), (5, ev_10), (6, ev_152), (7, ev_10), (8, ev_294), (9, ev_10), (10, ev_295), (11, ev_198), (12, ev_13), (13, ev_428), (16, ev_505), (19, ev_10), (20, ev_11), (22, ev_13)]
noncomputable def zi_71_1 : ZIs := [(23, ev_506), (26, ev_198), (27, ev_18), (28, ev_25), (30, ev_150), (32, ev_416), (35, ev_12), (37, ev_7), (38, ev_150), (40, ev_507), (43, ev_192), (44, ev_508), (45, ev_277), (46, ev_278), (47, ev_11), (49, ev_150)]
noncomputable def zi_71_2 : ZIs := [(51, ev_150), (53, ev_7), (54, ev_16), (55, ev_20), (56, ev_25), (58, ev_349), (61, ev_197), (62, ev_12), (64, ev_7), (65, ev_198), (66, ev_192), (67, ev_508), (68, ev_277), (69, ev_252), (70, ev_317), (71, ev_20)]
noncomputable def zi_71_3 : ZIs := [(72, ev_509), (75, ev_22), (76, ev_294), (77, ev_300), (80, ev_510), (83, ev_197), (84, ev_152)]
set_option maxRecDepth 100000 in
theorem xi_w71 : zall cX1_lettersOf [zi_71_0, zi_71_1, zi_71_2, zi_71_3] := zall_w _ _ (by decide +kernel)
noncomputable def xi_71 (pc : Nat) : XIs := cond (Nat.blt pc 51) (cond (Nat.blt pc 23) (zx zi_71_0) (zx zi_71_1)) (cond (Nat.blt pc 72) (zx zi_71_2) (zx zi_71_3))
theorem xi_ok71 (pc : Nat) : xi_ok cX1_lettersOf (xi_71 pc) = true := xi_c (xi_c (zq1 xi_w71) (zq1 (zq2 xi_w71))) (xi_c (zq1 (zq2 (zq2 xi_w71))) (zq1 (zq2 (zq2 (zq2 xi_w71)))))
noncomputable def zi_72_0 : ZIs := [(0, ev_10), (1, ev_25), (3, ev_10), (4, ev_28), (6, ev_155), (8, ev_192), (9, ev_511), (12, ev_13), (13, ev_1), (14, ev_512), (17, ev_7), (18, ev_22), (19, ev_494), (22, ev_484), (23, ev_513), (26, ev_13)]
noncomputable def zi_72_1 : ZIs := [(27, ev_512), (30, ev_156), (31, ev_492), (32, ev_457), (33, ev_93), (36, ev_197), (37, ev_156), (38, ev_157), (39, ev_514), (42, ev_343), (45, ev_320), (48, ev_515), (51, ev_13), (52, ev_1), (53, ev_516), (56, ev_150)]
noncomputable def zi_72_2 : ZIs := [(58, ev_22), (59, ev_495), (62, ev_150), (64, ev_152)]
set_option maxRecDepth 100000 in
theorem xi_w72 : zall cX1_sendAll [zi_72_0, zi_72_1, zi_72_2] := zall_w _ _ (by decide +kernel)
noncomputable def xi_72 (pc : Nat) : XIs := cond (Nat.blt pc 27) (zx zi_72_0) (cond (Nat.blt pc 58) (zx zi_72_1) (zx zi_72_2))
theorem xi_ok72 (pc : Nat) : xi_ok cX1_sendAll (xi_72 pc) = true := xi_c (zq1 xi_w72) (xi_c (zq1 (zq2 xi_w72)) (zq1 (zq2 (zq2 xi_w72))))
noncomputable def zi_73_0 : ZIs := [(0, ev_487), (1, ev_517), (2, ev_489), (3, ev_489), (4, ev_518), (6, ev_519), (7, ev_520), (8, ev_521), (11, ev_492), (12, ev_517), (13, ev_489), (14, ev_489), (15, ev_522), (17, ev_519), (18, ev_520), (19, ev_523)]
noncomputable def zi_73_1 : ZIs := [(22, ev_492), (23, ev_517), (24, ev_489), (25, ev_489), (26, ev_524), (28, ev_519), (29, ev_520), (30, ev_517), (31, ev_489), (32, ev_525), (34, ev_519), (35, ev_526), (38, ev_527), (39, ev_481)]
set_option maxRecDepth 100000 in
theorem xi_w73 : zall cX1_draw [zi_73_0, zi_73_1] := zall_w _ _ (by decide +kernel)
noncomputable def xi_73 (pc : Nat) : XIs := cond (Nat.blt pc 22) (zx zi_73_0) (zx zi_73_1)
theorem xi_ok73 (pc : Nat) : xi_ok cX1_draw (xi_73 pc) = true := xi_c (zq1 xi_w73) (zq1 (zq2 xi_w73))
noncomputable def zi_74_0 : ZIs := [(0, ev_13), (1, ev_251), (4, ev_13), (5, ev_252), (6, ev_253), (9, ev_13), (10, ev_528), (13, ev_255), (15, ev_254), (18, ev_13), (19, ev_176), (21, ev_255), (23, ev_368), (26, ev_13), (27, ev_176), (29, ev_255)]
noncomputable def zi_74_1 : ZIs := [(31, ev_257), (34, ev_13), (35, ev_529), (38, ev_255), (40, ev_258), (43, ev_13), (44, ev_529), (47, ev_255), (49, ev_259), (52, ev_13), (53, ev_529), (56, ev_255), (58, ev_530), (61, ev_13), (62, ev_529), (65, ev_255)]
noncomputable def zi_74_2 : ZIs := [(67, ev_531), (70, ev_13), (71, ev_529), (74, ev_255), (76, ev_532), (79, ev_13), (80, ev_176), (82, ev_255), (84, ev_533), (87, ev_13), (88, ev_176), (90, ev_8), (92, ev_534), (95, ev_13), (96, ev_252), (97, ev_535)]
noncomputable def zi_74_3 : ZIs := [(100, ev_260)]
set_option maxRecDepth 100000 in
theorem xi_w74 : zall cX2_init [zi_74_0, zi_74_1, zi_74_2, zi_74_3] := zall_w _ _ (by decide +kernel)
noncomputable def xi_74 (pc : Nat) : XIs := cond (Nat.blt pc 67) (cond (Nat.blt pc 31) (zx zi_74_0) (zx zi_74_1)) (cond (Nat.blt pc 100) (zx zi_74_2) (zx zi_74_3))
theorem xi_ok74 (pc : Nat) : xi_ok cX2_init (xi_74 pc) = true := xi_c (xi_c (zq1 xi_w74) (zq1 (zq2 xi_w74))) (xi_c (zq1 (zq2 (zq2 xi_w74))) (zq1 (zq2 (zq2 (zq2 xi_w74)))))
noncomputable def zi_75_0 : ZIs := [(0, ev_13), (1, ev_261), (4, ev_21), (5, ev_383), (8, ev_536), (11, ev_13), (12, ev_537), (15, ev_197), (16, ev_538), (19, ev_13), (20, ev_539), (23, ev_198), (24, ev_540), (27, ev_13), (28, ev_541), (31, ev_481)]
noncomputable def zi_75_1 : ZIs := [(32, ev_13), (33, ev_21), (34, ev_383), (37, ev_253), (40, ev_13), (41, ev_197), (42, ev_542), (45, ev_13), (46, ev_198), (47, ev_543), (50, ev_13), (51, ev_230), (52, ev_544), (55, ev_13), (56, ev_21), (57, ev_382)]
noncomputable def zi_75_2 : ZIs := [(60, ev_10), (61, ev_11), (63, ev_12), (65, ev_545), (67, ev_546), (70, ev_13), (71, ev_197), (72, ev_198), (73, ev_547), (76, ev_548), (79, ev_13), (80, ev_1), (81, ev_541), (84, ev_13), (85, ev_197), (86, ev_198)]
noncomputable def zi_75_3 : ZIs := [(87, ev_549), (90, ev_156), (91, ev_457), (92, ev_544), (95, ev_348), (98, ev_293), (101, ev_13), (102, ev_541), (105, ev_481)]
set_option maxRecDepth 100000 in
theorem xi_w75 : zall cX2_greatest [zi_75_0, zi_75_1, zi_75_2, zi_75_3] := zall_w _ _ (by decide +kernel)
noncomputable def xi_75 (pc : Nat) : XIs := cond (Nat.blt pc 60) (cond (Nat.blt pc 32) (zx zi_75_0) (zx zi_75_1)) (cond (Nat.blt pc 87) (zx zi_75_2) (zx zi_75_3))
theorem xi_ok75 (pc : Nat) : xi_ok cX2_greatest (xi_75 pc) = true := xi_c (xi_c (zq1 xi_w75) (zq1 (zq2 xi_w75))) (xi_c (zq1 (zq2 (zq2 xi_w75))) (zq1 (zq2 (zq2 (zq2 xi_w75)))))
noncomputable def zi_76_0 : ZIs := [(0, ev_13), (1, ev_280), (4, ev_10), (5, ev_550), (8, ev_13), (9, ev_440), (12, ev_10), (13, ev_550), (16, ev_10), (17, ev_294), (18, ev_197), (19, ev_21), (20, ev_551), (23, ev_436), (26, ev_21), (27, ev_197)]
noncomputable def zi_76_1 : ZIs := [(28, ev_396), (31, ev_552), (34, ev_21), (35, ev_296), (38, ev_197), (39, ev_18), (40, ev_553), (43, ev_13), (44, ev_280), (47, ev_21), (48, ev_554), (51, ev_197), (52, ev_18), (53, ev_176), (55, ev_355), (56, ev_21)]
noncomputable def zi_76_2 : ZIs := [(57, ev_555), (60, ev_197), (61, ev_18), (62, ev_22), (63, ev_316), (64, ev_18), (65, ev_21), (66, ev_296), (69, ev_197), (70, ev_18), (71, ev_22), (72, ev_299), (73, ev_13), (74, ev_440), (77, ev_21), (78, ev_554)]
noncomputable def zi_76_3 : ZIs := [(81, ev_197), (82, ev_18), (83, ev_316), (84, ev_18), (85, ev_7), (86, ev_21), (87, ev_555), (90, ev_197), (91, ev_18), (92, ev_277), (93, ev_278), (94, ev_299), (95, ev_304), (98, ev_342), (101, ev_260)]
set_option maxRecDepth 100000 in
theorem xi_w76 : zall cX2_openAll [zi_76_0, zi_76_1, zi_76_2, zi_76_3] := zall_w _ _ (by decide +kernel)
noncomputable def xi_76 (pc : Nat) : XIs := cond (Nat.blt pc 57) (cond (Nat.blt pc 28) (zx zi_76_0) (zx zi_76_1)) (cond (Nat.blt pc 81) (zx zi_76_2) (zx zi_76_3))
theorem xi_ok76 (pc : Nat) : xi_ok cX2_openAll (xi_76 pc) = true := xi_c (xi_c (zq1 xi_w76) (zq1 (zq2 xi_w76))) (xi_c (zq1 (zq2 (zq2 xi_w76))) (zq1 (zq2 (zq2 (zq2 xi_w76)))))
noncomputable def zi_77_0 : ZIs := [(0, ev_7), (1, ev_192), (2, ev_277), (3, ev_295), (4, ev_198), (5, ev_11), (7, ev_10), (8, ev_25), (10, ev_150), (12, ev_176), (14, ev_556), (17, ev_12), (19, ev_557), (22, ev_198), (23, ev_197), (24, ev_303)]
noncomputable def zi_77_1 : ZIs := [(25, ev_7), (26, ev_20), (27, ev_558), (30, ev_10), (31, ev_28), (33, ev_12), (35, ev_275), (37, ev_276), (39, ev_559), (42, ev_276), (44, ev_560), (47, ev_313), (49, ev_13), (50, ev_440), (53, ev_314), (55, ev_18)]
noncomputable def zi_77_2 : ZIs := [(56, ev_198), (57, ev_252), (58, ev_317), (59, ev_20), (60, ev_327), (62, ev_329), (64, ev_447), (66, ev_448), (68, ev_561), (71, ev_13), (72, ev_362), (75, ev_448), (77, ev_560), (80, ev_314), (82, ev_299), (83, ev_448)]
noncomputable def zi_77_3 : ZIs := [(85, ev_448), (87, ev_7), (88, ev_16), (89, ev_20), (90, ev_447), (92, ev_562), (95, ev_198), (96, ev_329), (98, ev_278), (99, ev_295), (100, ev_155), (102, ev_329), (104, ev_278), (105, ev_28), (107, ev_276), (109, ev_276)]
noncomputable def zi_77_4 : ZIs := [(111, ev_7), (112, ev_16), (113, ev_20), (114, ev_275), (116, ev_563), (119, ev_155), (121, ev_11), (123, ev_343), (126, ev_564), (129, ev_13), (130, ev_198), (131, ev_565), (134, ev_198), (135, ev_197), (136, ev_303), (137, ev_7)]
noncomputable def zi_77_5 : ZIs := [(138, ev_20), (139, ev_227), (142, ev_7), (143, ev_229), (146, ev_10), (147, ev_152)]
set_option maxRecDepth 100000 in
theorem xi_w77 : zall cX2_reach [zi_77_0, zi_77_1, zi_77_2, zi_77_3, zi_77_4, zi_77_5] := zall_w _ _ (by decide +kernel)
noncomputable def xi_77 (pc : Nat) : XIs := cond (Nat.blt pc 85) (cond (Nat.blt pc 25) (zx zi_77_0) (cond (Nat.blt pc 56) (zx zi_77_1) (zx zi_77_2))) (cond (Nat.blt pc 111) (zx zi_77_3) (cond (Nat.blt pc 138) (zx zi_77_4) (zx zi_77_5)))
theorem xi_ok77 (pc : Nat) : xi_ok cX2_reach (xi_77 pc) = true := xi_c (xi_c (zq1 xi_w77) (xi_c (zq1 (zq2 xi_w77)) (zq1 (zq2 (zq2 xi_w77))))) (xi_c (zq1 (zq2 (zq2 (zq2 xi_w77)))) (xi_c (zq1 (zq2 (zq2 (zq2 (zq2 xi_w77))))) (zq1 (zq2 (zq2 (zq2 (zq2 (zq2 xi_w77))))))))
noncomputable def zi_78_0 : ZIs := [(0, ev_566), (2, ev_295), (3, ev_197), (4, ev_11), (6, ev_10), (7, ev_25), (9, ev_150), (11, ev_176), (13, ev_567), (16, ev_12), (18, ev_192), (19, ev_568), (22, ev_198), (23, ev_13), (24, ev_280), (27, ev_13)]
noncomputable def zi_78_1 : ZIs := [(28, ev_362), (31, ev_12), (33, ev_18), (34, ev_176), (36, ev_355), (37, ev_12), (39, ev_22), (40, ev_18), (41, ev_569), (44, ev_295), (45, ev_13), (46, ev_362), (49, ev_12), (51, ev_18), (52, ev_11), (54, ev_343)]
noncomputable def zi_78_2 : ZIs := [(57, ev_570), (60, ev_197), (61, ev_11), (63, ev_10), (64, ev_25), (66, ev_150), (68, ev_176), (70, ev_571), (73, ev_12), (75, ev_192), (76, ev_572), (79, ev_13), (80, ev_362), (83, ev_12), (85, ev_18), (86, ev_28)]
noncomputable def zi_78_3 : ZIs := [(88, ev_13), (89, ev_280), (92, ev_155), (94, ev_176), (96, ev_355), (97, ev_12), (99, ev_22), (100, ev_316), (101, ev_18), (102, ev_198), (103, ev_16), (104, ev_299), (105, ev_13), (106, ev_280), (109, ev_155), (111, ev_176)]
noncomputable def zi_78_4 : ZIs := [(113, ev_355), (114, ev_12), (116, ev_22), (117, ev_18), (118, ev_411), (121, ev_13), (122, ev_440), (125, ev_155), (127, ev_316), (128, ev_18), (129, ev_7), (130, ev_12), (132, ev_277), (133, ev_252), (134, ev_317), (135, ev_20)]
noncomputable def zi_78_5 : ZIs := [(136, ev_299), (137, ev_13), (138, ev_280), (141, ev_12), (143, ev_176), (145, ev_355), (146, ev_155), (148, ev_22), (149, ev_316), (150, ev_18), (151, ev_198), (152, ev_22), (153, ev_299), (154, ev_13), (155, ev_440), (158, ev_12)]
noncomputable def zi_78_6 : ZIs := [(160, ev_316), (161, ev_18), (162, ev_7), (163, ev_155), (165, ev_277), (166, ev_278), (167, ev_299), (168, ev_155), (170, ev_11), (172, ev_343), (175, ev_332), (178, ev_198), (179, ev_152)]
set_option maxRecDepth 100000 in
theorem xi_w78 : zall cX2_push [zi_78_0, zi_78_1, zi_78_2, zi_78_3, zi_78_4, zi_78_5, zi_78_6] := zall_w _ _ (by decide +kernel)
noncomputable def xi_78 (pc : Nat) : XIs := cond (Nat.blt pc 88) (cond (Nat.blt pc 28) (zx zi_78_0) (cond (Nat.blt pc 57) (zx zi_78_1) (zx zi_78_2))) (cond (Nat.blt pc 136) (cond (Nat.blt pc 113) (zx zi_78_3) (zx zi_78_4)) (cond (Nat.blt pc 160) (zx zi_78_5) (zx zi_78_6)))
theorem xi_ok78 (pc : Nat) : xi_ok cX2_push (xi_78 pc) = true := xi_c (xi_c (zq1 xi_w78) (xi_c (zq1 (zq2 xi_w78)) (zq1 (zq2 (zq2 xi_w78))))) (xi_c (xi_c (zq1 (zq2 (zq2 (zq2 xi_w78)))) (zq1 (zq2 (zq2 (zq2 (zq2 xi_w78)))))) (xi_c (zq1 (zq2 (zq2 (zq2 (zq2 (zq2 xi_w78)))))) (zq1 (zq2 (zq2 (zq2 (zq2 (zq2 (zq2 xi_w78)))))))))
noncomputable def zi_79_0 : ZIs := [(0, ev_12), (2, ev_156), (3, ev_13), (4, ev_21), (5, ev_197), (6, ev_198), (7, ev_241), (10, ev_157), (11, ev_493), (14, ev_573), (17, ev_481), (18, ev_13), (19, ev_21), (20, ev_243), (23, ev_574), (25, ev_13)]
noncomputable def zi_79_1 : ZIs := [(26, ev_575), (29, ev_197), (30, ev_12), (32, ev_299), (33, ev_13), (34, ev_575), (37, ev_198), (38, ev_12), (40, ev_310), (41, ev_299), (42, ev_576), (44, ev_275), (46, ev_577), (48, ev_313), (50, ev_314), (52, ev_578)]
noncomputable def zi_79_2 : ZIs := [(55, ev_13), (56, ev_21), (57, ev_579), (60, ev_276), (62, ev_314), (64, ev_246), (67, ev_13), (68, ev_21), (69, ev_579), (72, ev_314), (74, ev_580), (77, ev_314), (79, ev_275), (81, ev_314), (83, ev_581), (85, ev_582)]
noncomputable def zi_79_3 : ZIs := [(86, ev_313), (88, ev_583), (91, ev_10), (92, ev_313), (94, ev_314), (96, ev_13), (97, ev_584), (100, ev_585), (103, ev_501), (105, ev_13), (106, ev_262), (109, ev_314), (111, ev_18), (112, ev_156), (113, ev_13), (114, ev_586)]
noncomputable def zi_79_4 : ZIs := [(117, ev_314), (119, ev_18), (120, ev_156), (121, ev_492), (122, ev_457), (123, ev_574), (125, ev_318), (128, ev_435), (131, ev_501), (133, ev_481)]
set_option maxRecDepth 100000 in
theorem xi_w79 : zall cX2_cheapest [zi_79_0, zi_79_1, zi_79_2, zi_79_3, zi_79_4] := zall_w _ _ (by decide +kernel)
noncomputable def xi_79 (pc : Nat) : XIs := cond (Nat.blt pc 55) (cond (Nat.blt pc 26) (zx zi_79_0) (zx zi_79_1)) (cond (Nat.blt pc 86) (zx zi_79_2) (cond (Nat.blt pc 117) (zx zi_79_3) (zx zi_79_4)))
theorem xi_ok79 (pc : Nat) : xi_ok cX2_cheapest (xi_79 pc) = true := xi_c (xi_c (zq1 xi_w79) (zq1 (zq2 xi_w79))) (xi_c (zq1 (zq2 (zq2 xi_w79))) (xi_c (zq1 (zq2 (zq2 (zq2 xi_w79)))) (zq1 (zq2 (zq2 (zq2 (zq2 xi_w79)))))))
noncomputable def zi_80_0 : ZIs := [(0, ev_13), (1, ev_575), (4, ev_10), (5, ev_550), (8, ev_13), (9, ev_10), (10, ev_587), (13, ev_230), (14, ev_517), (15, ev_10), (16, ev_11), (18, ev_12), (20, ev_21), (21, ev_551), (24, ev_588), (27, ev_21)]
noncomputable def zi_80_1 : ZIs := [(28, ev_12), (30, ev_396), (33, ev_589), (36, ev_13), (37, ev_21), (38, ev_554), (41, ev_12), (43, ev_18), (44, ev_21), (45, ev_555), (48, ev_12), (50, ev_18), (51, ev_21), (52, ev_590), (55, ev_12), (57, ev_18)]
noncomputable def zi_80_2 : ZIs := [(58, ev_21), (59, ev_296), (62, ev_12), (64, ev_18), (65, ev_591), (68, ev_592), (71, ev_21), (72, ev_554), (75, ev_12), (77, ev_18), (78, ev_252), (79, ev_593), (82, ev_21), (83, ev_590), (86, ev_12), (88, ev_18)]
noncomputable def zi_80_3 : ZIs := [(89, ev_594), (92, ev_489), (93, ev_21), (94, ev_590), (97, ev_12), (99, ev_18), (100, ev_156), (101, ev_21), (102, ev_296), (105, ev_12), (107, ev_18), (108, ev_156), (109, ev_492), (110, ev_457), (111, ev_517), (112, ev_348)]
noncomputable def zi_80_4 : ZIs := [(115, ev_595), (118, ev_489), (119, ev_481)]
set_option maxRecDepth 100000 in
theorem xi_w80 : zall cX2_layArcs [zi_80_0, zi_80_1, zi_80_2, zi_80_3, zi_80_4] := zall_w _ _ (by decide +kernel)
noncomputable def xi_80 (pc : Nat) : XIs := cond (Nat.blt pc 58) (cond (Nat.blt pc 28) (zx zi_80_0) (zx zi_80_1)) (cond (Nat.blt pc 89) (zx zi_80_2) (cond (Nat.blt pc 115) (zx zi_80_3) (zx zi_80_4)))
theorem xi_ok80 (pc : Nat) : xi_ok cX2_layArcs (xi_80 pc) = true := xi_c (xi_c (zq1 xi_w80) (zq1 (zq2 xi_w80))) (xi_c (zq1 (zq2 (zq2 xi_w80))) (xi_c (zq1 (zq2 (zq2 (zq2 xi_w80)))) (zq1 (zq2 (zq2 (zq2 (zq2 xi_w80)))))))
noncomputable def zi_81_0 : ZIs := [(0, ev_13), (1, ev_373), (4, ev_230), (5, ev_596), (8, ev_13), (9, ev_192), (10, ev_197), (11, ev_597), (14, ev_10), (15, ev_11), (17, ev_12), (19, ev_13), (20, ev_584), (23, ev_598), (26, ev_13), (27, ev_373)]
noncomputable def zi_81_1 : ZIs := [(30, ev_13), (31, ev_341), (34, ev_12), (36, ev_18), (37, ev_154), (38, ev_13), (39, ev_262), (42, ev_12), (44, ev_18), (45, ev_156), (46, ev_457), (47, ev_13), (48, ev_373), (51, ev_13), (52, ev_283), (55, ev_12)]
noncomputable def zi_81_2 : ZIs := [(57, ev_18), (58, ev_154), (59, ev_485), (60, ev_574), (62, ev_13), (63, ev_599), (66, ev_12), (68, ev_18), (69, ev_13), (70, ev_586), (73, ev_12), (75, ev_18), (76, ev_16), (77, ev_275), (79, ev_501), (81, ev_230)]
noncomputable def zi_81_3 : ZIs := [(82, ev_157), (83, ev_600), (86, ev_276), (88, ev_198), (89, ev_601), (92, ev_13), (93, ev_12), (95, ev_276), (97, ev_602), (100, ev_603), (103, ev_501), (105, ev_230), (106, ev_157), (107, ev_604), (110, ev_13), (111, ev_586)]
noncomputable def zi_81_4 : ZIs := [(114, ev_12), (116, ev_18), (117, ev_198), (118, ev_605), (121, ev_13), (122, ev_12), (124, ev_13), (125, ev_586), (128, ev_12), (130, ev_18), (131, ev_310), (132, ev_602), (135, ev_348), (138, ev_606), (141, ev_260)]
set_option maxRecDepth 100000 in
theorem xi_w81 : zall cX2_turnEarners [zi_81_0, zi_81_1, zi_81_2, zi_81_3, zi_81_4] := zall_w _ _ (by decide +kernel)
noncomputable def xi_81 (pc : Nat) : XIs := cond (Nat.blt pc 57) (cond (Nat.blt pc 30) (zx zi_81_0) (zx zi_81_1)) (cond (Nat.blt pc 82) (zx zi_81_2) (cond (Nat.blt pc 114) (zx zi_81_3) (zx zi_81_4)))
theorem xi_ok81 (pc : Nat) : xi_ok cX2_turnEarners (xi_81 pc) = true := xi_c (xi_c (zq1 xi_w81) (zq1 (zq2 xi_w81))) (xi_c (zq1 (zq2 (zq2 xi_w81))) (xi_c (zq1 (zq2 (zq2 (zq2 xi_w81)))) (zq1 (zq2 (zq2 (zq2 (zq2 xi_w81)))))))
noncomputable def zi_82_0 : ZIs := [(0, ev_13), (1, ev_586), (4, ev_192), (5, ev_316), (6, ev_18), (7, ev_197), (8, ev_22), (9, ev_299), (10, ev_13), (11, ev_575), (14, ev_13), (15, ev_283), (18, ev_192), (19, ev_18), (20, ev_316), (21, ev_18)]
noncomputable def zi_82_1 : ZIs := [(22, ev_197), (23, ev_22), (24, ev_299), (25, ev_13), (26, ev_575), (29, ev_13), (30, ev_341), (33, ev_192), (34, ev_18), (35, ev_316), (36, ev_18), (37, ev_197), (38, ev_16), (39, ev_299), (40, ev_260)]
set_option maxRecDepth 100000 in
theorem xi_w82 : zall cX2_turn [zi_82_0, zi_82_1] := zall_w _ _ (by decide +kernel)
noncomputable def xi_82 (pc : Nat) : XIs := cond (Nat.blt pc 22) (zx zi_82_0) (zx zi_82_1)
theorem xi_ok82 (pc : Nat) : xi_ok cX2_turn (xi_82 pc) = true := xi_c (zq1 xi_w82) (zq1 (zq2 xi_w82))
noncomputable def zi_83_0 : ZIs := [(0, ev_10), (1, ev_295), (2, ev_198), (3, ev_545), (5, ev_585), (8, ev_13), (9, ev_192), (10, ev_197), (11, ev_607), (14, ev_11), (16, ev_12), (18, ev_252), (19, ev_608), (22, ev_260), (23, ev_13), (24, ev_12)]
noncomputable def zi_83_1 : ZIs := [(26, ev_609), (29, ev_161), (30, ev_300), (33, ev_610), (36, ev_260)]
set_option maxRecDepth 100000 in
theorem xi_w83 : zall cX2_carryAll [zi_83_0, zi_83_1] := zall_w _ _ (by decide +kernel)
noncomputable def xi_83 (pc : Nat) : XIs := cond (Nat.blt pc 26) (zx zi_83_0) (zx zi_83_1)
theorem xi_ok83 (pc : Nat) : xi_ok cX2_carryAll (xi_83 pc) = true := xi_c (zq1 xi_w83) (zq1 (zq2 xi_w83))
noncomputable def zi_84_0 : ZIs := [(0, ev_13), (1, ev_584), (4, ev_529), (7, ev_611), (10, ev_13), (11, ev_341), (14, ev_13), (15, ev_584), (18, ev_192), (19, ev_299), (20, ev_13), (21, ev_283), (24, ev_13), (25, ev_584), (28, ev_197), (29, ev_299)]
noncomputable def zi_84_1 : ZIs := [(30, ev_13), (31, ev_262), (34, ev_13), (35, ev_584), (38, ev_198), (39, ev_299), (40, ev_13), (41, ev_599), (44, ev_13), (45, ev_584), (48, ev_12), (50, ev_299), (51, ev_13), (52, ev_586), (55, ev_13), (56, ev_584)]
noncomputable def zi_84_2 : ZIs := [(59, ev_10), (60, ev_299), (61, ev_13), (62, ev_1), (63, ev_584), (66, ev_7), (67, ev_22), (68, ev_587), (71, ev_260)]
set_option maxRecDepth 100000 in
theorem xi_w84 : zall cX2_lay [zi_84_0, zi_84_1, zi_84_2] := zall_w _ _ (by decide +kernel)
noncomputable def xi_84 (pc : Nat) : XIs := cond (Nat.blt pc 30) (zx zi_84_0) (cond (Nat.blt pc 59) (zx zi_84_1) (zx zi_84_2))
theorem xi_ok84 (pc : Nat) : xi_ok cX2_lay (xi_84 pc) = true := xi_c (zq1 xi_w84) (xi_c (zq1 (zq2 xi_w84)) (zq1 (zq2 (zq2 xi_w84))))
noncomputable def zi_85_0 : ZIs := [(0, ev_10), (1, ev_295), (2, ev_198), (3, ev_192), (4, ev_612), (7, ev_13), (8, ev_373), (11, ev_198), (12, ev_13), (13, ev_575), (16, ev_198), (17, ev_18), (18, ev_197), (19, ev_613), (22, ev_230), (23, ev_209)]
noncomputable def zi_85_1 : ZIs := [(26, ev_614), (29, ev_194), (30, ev_13), (31, ev_362), (34, ev_198), (35, ev_252), (36, ev_299), (37, ev_300), (40, ev_583), (43, ev_13), (44, ev_192), (45, ev_197), (46, ev_597), (49, ev_252), (50, ev_295), (51, ev_10)]
noncomputable def zi_85_2 : ZIs := [(52, ev_11), (54, ev_12), (56, ev_192), (57, ev_615), (60, ev_13), (61, ev_575), (64, ev_12), (66, ev_18), (67, ev_197), (68, ev_310), (69, ev_616), (72, ev_13), (73, ev_373), (76, ev_12), (78, ev_154), (79, ev_614)]
noncomputable def zi_85_3 : ZIs := [(82, ev_157), (83, ev_617), (86, ev_198), (87, ev_252), (88, ev_618), (91, ev_13), (92, ev_373), (95, ev_12), (97, ev_154), (98, ev_13), (99, ev_373), (102, ev_198), (103, ev_154), (104, ev_157), (105, ev_514), (108, ev_12)]
noncomputable def zi_85_4 : ZIs := [(110, ev_295), (111, ev_348), (114, ev_619), (117, ev_198), (118, ev_152)]
set_option maxRecDepth 100000 in
theorem xi_w85 : zall cX2_nearestLack [zi_85_0, zi_85_1, zi_85_2, zi_85_3, zi_85_4] := zall_w _ _ (by decide +kernel)
noncomputable def xi_85 (pc : Nat) : XIs := cond (Nat.blt pc 52) (cond (Nat.blt pc 26) (zx zi_85_0) (zx zi_85_1)) (cond (Nat.blt pc 82) (zx zi_85_2) (cond (Nat.blt pc 110) (zx zi_85_3) (zx zi_85_4)))
theorem xi_ok85 (pc : Nat) : xi_ok cX2_nearestLack (xi_85 pc) = true := xi_c (xi_c (zq1 xi_w85) (zq1 (zq2 xi_w85))) (xi_c (zq1 (zq2 (zq2 xi_w85))) (xi_c (zq1 (zq2 (zq2 (zq2 xi_w85)))) (zq1 (zq2 (zq2 (zq2 (zq2 xi_w85)))))))
noncomputable def zi_86_0 : ZIs := [(0, ev_7), (1, ev_295), (2, ev_10), (3, ev_11), (5, ev_12), (7, ev_192), (8, ev_620), (11, ev_198), (12, ev_621), (15, ev_10), (16, ev_295), (17, ev_10), (18, ev_25), (20, ev_150), (22, ev_13), (23, ev_584)]
noncomputable def zi_86_1 : ZIs := [(26, ev_622), (29, ev_198), (30, ev_13), (31, ev_150), (33, ev_197), (34, ev_623), (37, ev_278), (38, ev_295), (39, ev_343), (42, ev_624), (45, ev_348), (48, ev_408), (51, ev_260)]
set_option maxRecDepth 100000 in
theorem xi_w86 : zall cX2_relaxAll [zi_86_0, zi_86_1] := zall_w _ _ (by decide +kernel)
noncomputable def xi_86 (pc : Nat) : XIs := cond (Nat.blt pc 26) (zx zi_86_0) (zx zi_86_1)
theorem xi_ok86 (pc : Nat) : xi_ok cX2_relaxAll (xi_86 pc) = true := xi_c (zq1 xi_w86) (zq1 (zq2 xi_w86))
noncomputable def zi_87_0 : ZIs := [(0, ev_13), (1, ev_341), (4, ev_192), (5, ev_18), (6, ev_295), (7, ev_13), (8, ev_283), (11, ev_192), (12, ev_18), (13, ev_11), (15, ev_13), (16, ev_599), (19, ev_192), (20, ev_18), (21, ev_13), (22, ev_586)]
noncomputable def zi_87_1 : ZIs := [(25, ev_192), (26, ev_18), (27, ev_16), (28, ev_197), (29, ev_625), (32, ev_13), (33, ev_373), (36, ev_198), (37, ev_154), (38, ev_614), (41, ev_157), (42, ev_626), (45, ev_13), (46, ev_373), (49, ev_198), (50, ev_154)]
noncomputable def zi_87_2 : ZIs := [(51, ev_13), (52, ev_262), (55, ev_192), (56, ev_18), (57, ev_156), (58, ev_457), (59, ev_13), (60, ev_373), (63, ev_12), (65, ev_154), (66, ev_157), (67, ev_627), (70, ev_13), (71, ev_373), (74, ev_12), (76, ev_13)]
noncomputable def zi_87_3 : ZIs := [(77, ev_373), (80, ev_198), (81, ev_154), (82, ev_13), (83, ev_262), (86, ev_192), (87, ev_18), (88, ev_156), (89, ev_457), (90, ev_194), (91, ev_13), (92, ev_362), (95, ev_12), (97, ev_30), (98, ev_192), (99, ev_355)]
noncomputable def zi_87_4 : ZIs := [(100, ev_299), (101, ev_7), (102, ev_152), (103, ev_13), (104, ev_586), (107, ev_192), (108, ev_18), (109, ev_197), (110, ev_628), (113, ev_13), (114, ev_373), (117, ev_12), (119, ev_154), (120, ev_614), (123, ev_157), (124, ev_629)]
noncomputable def zi_87_5 : ZIs := [(127, ev_13), (128, ev_373), (131, ev_12), (133, ev_154), (134, ev_13), (135, ev_262), (138, ev_192), (139, ev_18), (140, ev_156), (141, ev_485), (142, ev_13), (143, ev_373), (146, ev_198), (147, ev_154), (148, ev_157), (149, ev_630)]
noncomputable def zi_87_6 : ZIs := [(152, ev_13), (153, ev_373), (156, ev_198), (157, ev_13), (158, ev_373), (161, ev_12), (163, ev_154), (164, ev_13), (165, ev_262), (168, ev_192), (169, ev_18), (170, ev_156), (171, ev_485), (172, ev_194), (173, ev_13), (174, ev_362)]
noncomputable def zi_87_7 : ZIs := [(177, ev_198), (178, ev_30), (179, ev_192), (180, ev_355), (181, ev_7), (182, ev_22), (183, ev_299), (184, ev_7), (185, ev_152), (186, ev_10), (187, ev_152)]
set_option maxRecDepth 100000 in
theorem xi_w87 : zall cX2_relaxPipe [zi_87_0, zi_87_1, zi_87_2, zi_87_3, zi_87_4, zi_87_5, zi_87_6, zi_87_7] := zall_w _ _ (by decide +kernel)
noncomputable def xi_87 (pc : Nat) : XIs := cond (Nat.blt pc 100) (cond (Nat.blt pc 51) (cond (Nat.blt pc 25) (zx zi_87_0) (zx zi_87_1)) (cond (Nat.blt pc 77) (zx zi_87_2) (zx zi_87_3))) (cond (Nat.blt pc 152) (cond (Nat.blt pc 127) (zx zi_87_4) (zx zi_87_5)) (cond (Nat.blt pc 177) (zx zi_87_6) (zx zi_87_7)))
theorem xi_ok87 (pc : Nat) : xi_ok cX2_relaxPipe (xi_87 pc) = true := xi_c (xi_c (xi_c (zq1 xi_w87) (zq1 (zq2 xi_w87))) (xi_c (zq1 (zq2 (zq2 xi_w87))) (zq1 (zq2 (zq2 (zq2 xi_w87)))))) (xi_c (xi_c (zq1 (zq2 (zq2 (zq2 (zq2 xi_w87))))) (zq1 (zq2 (zq2 (zq2 (zq2 (zq2 xi_w87))))))) (xi_c (zq1 (zq2 (zq2 (zq2 (zq2 (zq2 (zq2 xi_w87))))))) (zq1 (zq2 (zq2 (zq2 (zq2 (zq2 (zq2 (zq2 xi_w87))))))))))
noncomputable def zi_88_0 : ZIs := [(0, ev_13), (1, ev_575), (4, ev_192), (5, ev_18), (6, ev_310), (7, ev_294), (8, ev_192), (9, ev_295), (10, ev_10), (11, ev_11), (13, ev_12), (15, ev_176), (17, ev_631), (20, ev_13), (21, ev_362), (24, ev_198)]
noncomputable def zi_88_1 : ZIs := [(25, ev_18), (26, ev_252), (27, ev_632), (30, ev_13), (31, ev_362), (34, ev_198), (35, ev_18), (36, ev_7), (37, ev_303), (38, ev_25), (40, ev_13), (41, ev_362), (44, ev_198), (45, ev_18), (46, ev_7), (47, ev_20)]
noncomputable def zi_88_2 : ZIs := [(48, ev_326), (51, ev_7), (52, ev_229), (55, ev_10), (56, ev_28), (58, ev_197), (59, ev_155), (61, ev_333), (64, ev_13), (65, ev_599), (68, ev_150), (70, ev_18), (71, ev_13), (72, ev_586), (75, ev_150), (77, ev_18)]
noncomputable def zi_88_3 : ZIs := [(78, ev_16), (79, ev_633), (82, ev_13), (83, ev_586), (86, ev_150), (88, ev_18), (89, ev_569), (92, ev_294), (93, ev_155), (95, ev_634), (98, ev_13), (99, ev_341), (102, ev_150), (104, ev_18), (105, ev_633), (108, ev_13)]
noncomputable def zi_88_4 : ZIs := [(109, ev_283), (112, ev_150), (114, ev_18), (115, ev_295), (116, ev_348), (119, ev_635), (122, ev_197), (123, ev_13), (124, ev_575), (127, ev_198), (128, ev_18), (129, ev_569), (132, ev_294), (133, ev_13), (134, ev_575), (137, ev_198)]
noncomputable def zi_88_5 : ZIs := [(138, ev_316), (139, ev_18), (140, ev_197), (141, ev_16), (142, ev_299), (143, ev_13), (144, ev_575), (147, ev_192), (148, ev_316), (149, ev_18), (150, ev_197), (151, ev_22), (152, ev_299), (153, ev_192), (154, ev_295), (155, ev_10)]
noncomputable def zi_88_6 : ZIs := [(156, ev_11), (158, ev_12), (160, ev_176), (162, ev_636), (165, ev_13), (166, ev_362), (169, ev_198), (170, ev_18), (171, ev_252), (172, ev_637), (175, ev_13), (176, ev_362), (179, ev_198), (180, ev_18), (181, ev_7), (182, ev_303)]
noncomputable def zi_88_7 : ZIs := [(183, ev_25), (185, ev_13), (186, ev_362), (189, ev_198), (190, ev_18), (191, ev_7), (192, ev_20), (193, ev_326), (196, ev_7), (197, ev_229), (200, ev_10), (201, ev_28), (203, ev_13), (204, ev_586), (207, ev_150), (209, ev_316)]
noncomputable def zi_88_8 : ZIs := [(210, ev_18), (211, ev_155), (213, ev_227), (216, ev_197), (217, ev_638), (220, ev_197), (221, ev_310), (222, ev_22), (223, ev_299), (224, ev_155), (226, ev_634), (229, ev_13), (230, ev_341), (233, ev_150), (235, ev_18), (236, ev_633)]
noncomputable def zi_88_9 : ZIs := [(239, ev_13), (240, ev_283), (243, ev_150), (245, ev_18), (246, ev_295), (247, ev_348), (250, ev_639), (253, ev_13), (254, ev_373), (257, ev_192), (258, ev_154), (259, ev_197), (260, ev_156), (261, ev_492), (262, ev_481)]
set_option maxRecDepth 100000 in
theorem xi_w88 : zall cX2_carryTo [zi_88_0, zi_88_1, zi_88_2, zi_88_3, zi_88_4, zi_88_5, zi_88_6, zi_88_7, zi_88_8, zi_88_9] := zall_w _ _ (by decide +kernel)
noncomputable def xi_88 (pc : Nat) : XIs := cond (Nat.blt pc 138) (cond (Nat.blt pc 48) (cond (Nat.blt pc 25) (zx zi_88_0) (zx zi_88_1)) (cond (Nat.blt pc 78) (zx zi_88_2) (cond (Nat.blt pc 109) (zx zi_88_3) (zx zi_88_4)))) (cond (Nat.blt pc 183) (cond (Nat.blt pc 156) (zx zi_88_5) (zx zi_88_6)) (cond (Nat.blt pc 210) (zx zi_88_7) (cond (Nat.blt pc 239) (zx zi_88_8) (zx zi_88_9))))
theorem xi_ok88 (pc : Nat) : xi_ok cX2_carryTo (xi_88 pc) = true := xi_c (xi_c (xi_c (zq1 xi_w88) (zq1 (zq2 xi_w88))) (xi_c (zq1 (zq2 (zq2 xi_w88))) (xi_c (zq1 (zq2 (zq2 (zq2 xi_w88)))) (zq1 (zq2 (zq2 (zq2 (zq2 xi_w88)))))))) (xi_c (xi_c (zq1 (zq2 (zq2 (zq2 (zq2 (zq2 xi_w88)))))) (zq1 (zq2 (zq2 (zq2 (zq2 (zq2 (zq2 xi_w88)))))))) (xi_c (zq1 (zq2 (zq2 (zq2 (zq2 (zq2 (zq2 (zq2 xi_w88)))))))) (xi_c (zq1 (zq2 (zq2 (zq2 (zq2 (zq2 (zq2 (zq2 (zq2 xi_w88))))))))) (zq1 (zq2 (zq2 (zq2 (zq2 (zq2 (zq2 (zq2 (zq2 (zq2 xi_w88)))))))))))))
noncomputable def zi_89_0 : ZIs := [(0, ev_13), (1, ev_640), (4, ev_21), (5, ev_383), (8, ev_608), (11, ev_260), (12, ev_13), (13, ev_21), (14, ev_383), (17, ev_535), (20, ev_13), (21, ev_10), (22, ev_641), (25, ev_13), (26, ev_230), (27, ev_642)]
noncomputable def zi_89_1 : ZIs := [(30, ev_13), (31, ev_10), (32, ev_587), (35, ev_10), (36, ev_294), (37, ev_197), (38, ev_21), (39, ev_579), (42, ev_643), (45, ev_13), (46, ev_575), (49, ev_197), (50, ev_21), (51, ev_197), (52, ev_644), (55, ev_227)]
noncomputable def zi_89_2 : ZIs := [(58, ev_7), (59, ev_229), (62, ev_252), (63, ev_299), (64, ev_304), (67, ev_645), (70, ev_10), (71, ev_294), (72, ev_197), (73, ev_21), (74, ev_551), (77, ev_646), (80, ev_21), (81, ev_197), (82, ev_396), (85, ev_647)]
noncomputable def zi_89_3 : ZIs := [(88, ev_21), (89, ev_21), (90, ev_554), (93, ev_197), (94, ev_18), (95, ev_644), (98, ev_21), (99, ev_21), (100, ev_555), (103, ev_197), (104, ev_18), (105, ev_644), (108, ev_648), (111, ev_21), (112, ev_21), (113, ev_554)]
noncomputable def zi_89_4 : ZIs := [(116, ev_197), (117, ev_18), (118, ev_644), (121, ev_295), (122, ev_13), (123, ev_198), (124, ev_649), (127, ev_21), (128, ev_554), (131, ev_197), (132, ev_18), (133, ev_195), (136, ev_21), (137, ev_555), (140, ev_197), (141, ev_18)]
noncomputable def zi_89_5 : ZIs := [(142, ev_198), (143, ev_649), (146, ev_21), (147, ev_555), (150, ev_197), (151, ev_18), (152, ev_195), (155, ev_21), (156, ev_554), (159, ev_197), (160, ev_18), (161, ev_21), (162, ev_590), (165, ev_197), (166, ev_18), (167, ev_7)]
noncomputable def zi_89_6 : ZIs := [(168, ev_591), (171, ev_304), (174, ev_650), (177, ev_10), (178, ev_294), (179, ev_197), (180, ev_176), (182, ev_651), (185, ev_13), (186, ev_21), (187, ev_579), (190, ev_7), (191, ev_607), (194, ev_295), (195, ev_198), (196, ev_252)]
noncomputable def zi_89_7 : ZIs := [(197, ev_608), (200, ev_260), (201, ev_13), (202, ev_1), (203, ev_652), (206, ev_13), (207, ev_198), (208, ev_609), (211, ev_457), (212, ev_642), (215, ev_13), (216, ev_1), (217, ev_466), (220, ev_7), (221, ev_22), (222, ev_641)]
noncomputable def zi_89_8 : ZIs := [(225, ev_304), (228, ev_653), (231, ev_260)]
set_option maxRecDepth 100000 in
theorem xi_w89 : zall cX2_pair [zi_89_0, zi_89_1, zi_89_2, zi_89_3, zi_89_4, zi_89_5, zi_89_6, zi_89_7, zi_89_8] := zall_w _ _ (by decide +kernel)
noncomputable def xi_89 (pc : Nat) : XIs := cond (Nat.blt pc 116) (cond (Nat.blt pc 58) (cond (Nat.blt pc 30) (zx zi_89_0) (zx zi_89_1)) (cond (Nat.blt pc 88) (zx zi_89_2) (zx zi_89_3))) (cond (Nat.blt pc 168) (cond (Nat.blt pc 142) (zx zi_89_4) (zx zi_89_5)) (cond (Nat.blt pc 197) (zx zi_89_6) (cond (Nat.blt pc 225) (zx zi_89_7) (zx zi_89_8))))
theorem xi_ok89 (pc : Nat) : xi_ok cX2_pair (xi_89 pc) = true := xi_c (xi_c (xi_c (zq1 xi_w89) (zq1 (zq2 xi_w89))) (xi_c (zq1 (zq2 (zq2 xi_w89))) (zq1 (zq2 (zq2 (zq2 xi_w89)))))) (xi_c (xi_c (zq1 (zq2 (zq2 (zq2 (zq2 xi_w89))))) (zq1 (zq2 (zq2 (zq2 (zq2 (zq2 xi_w89))))))) (xi_c (zq1 (zq2 (zq2 (zq2 (zq2 (zq2 (zq2 xi_w89))))))) (xi_c (zq1 (zq2 (zq2 (zq2 (zq2 (zq2 (zq2 (zq2 xi_w89)))))))) (zq1 (zq2 (zq2 (zq2 (zq2 (zq2 (zq2 (zq2 (zq2 xi_w89))))))))))))
noncomputable def zi_90_0 : ZIs := [(0, ev_13), (1, ev_654), (4, ev_192), (5, ev_18), (6, ev_655), (8, ev_656), (11, ev_7), (12, ev_229), (15, ev_10), (16, ev_152)]
set_option maxRecDepth 100000 in
theorem xi_w90 : zall cX2_isLow [zi_90_0] := zall_w _ _ (by decide +kernel)
noncomputable def xi_90 (pc : Nat) : XIs := zx zi_90_0
theorem xi_ok90 (pc : Nat) : xi_ok cX2_isLow (xi_90 pc) = true := zq1 xi_w90
noncomputable def zi_91_0 : ZIs := [(0, ev_13), (1, ev_251), (4, ev_13), (5, ev_176), (7, ev_255), (9, ev_253), (12, ev_13), (13, ev_529), (16, ev_255), (18, ev_254), (21, ev_13), (22, ev_529), (25, ev_255), (27, ev_256), (30, ev_13), (31, ev_529)]
noncomputable def zi_91_1 : ZIs := [(34, ev_255), (36, ev_657), (39, ev_13), (40, ev_529), (43, ev_255), (45, ev_658), (48, ev_13), (49, ev_529), (52, ev_255), (54, ev_659), (57, ev_13), (58, ev_176), (60, ev_255), (62, ev_660), (65, ev_13), (66, ev_176)]
noncomputable def zi_91_2 : ZIs := [(68, ev_255), (70, ev_661), (73, ev_13), (74, ev_176), (76, ev_255), (78, ev_662), (81, ev_13), (82, ev_525), (84, ev_255), (86, ev_265), (89, ev_13), (90, ev_529), (93, ev_255), (95, ev_663), (98, ev_13), (99, ev_525)]
noncomputable def zi_91_3 : ZIs := [(101, ev_255), (103, ev_664), (106, ev_13), (107, ev_529), (110, ev_255), (112, ev_665), (115, ev_13), (116, ev_252), (117, ev_666), (120, ev_13), (121, ev_280), (124, ev_252), (125, ev_667), (128, ev_260)]
set_option maxRecDepth 100000 in
theorem xi_w91 : zall cX3_init [zi_91_0, zi_91_1, zi_91_2, zi_91_3] := zall_w _ _ (by decide +kernel)
noncomputable def xi_91 (pc : Nat) : XIs := cond (Nat.blt pc 68) (cond (Nat.blt pc 34) (zx zi_91_0) (zx zi_91_1)) (cond (Nat.blt pc 101) (zx zi_91_2) (zx zi_91_3))
theorem xi_ok91 (pc : Nat) : xi_ok cX3_init (xi_91 pc) = true := xi_c (xi_c (zq1 xi_w91) (zq1 (zq2 xi_w91))) (xi_c (zq1 (zq2 (zq2 xi_w91))) (zq1 (zq2 (zq2 (zq2 xi_w91)))))
noncomputable def zi_92_0 : ZIs := [(0, ev_13), (1, ev_10), (2, ev_544), (5, ev_13), (6, ev_10), (7, ev_668), (10, ev_13), (11, ev_10), (12, ev_669), (15, ev_13), (16, ev_10), (17, ev_670), (20, ev_13), (21, ev_252), (22, ev_666), (25, ev_13)]
noncomputable def zi_92_1 : ZIs := [(26, ev_280), (29, ev_252), (30, ev_667), (33, ev_260)]
set_option maxRecDepth 100000 in
theorem xi_w92 : zall cX3_clear [zi_92_0, zi_92_1] := zall_w _ _ (by decide +kernel)
noncomputable def xi_92 (pc : Nat) : XIs := cond (Nat.blt pc 26) (zx zi_92_0) (zx zi_92_1)
theorem xi_ok92 (pc : Nat) : xi_ok cX3_clear (xi_92 pc) = true := xi_c (zq1 xi_w92) (zq1 (zq2 xi_w92))
noncomputable def zi_93_0 : ZIs := [(0, ev_13), (1, ev_21), (2, ev_541), (5, ev_544), (8, ev_13), (9, ev_21), (10, ev_671), (13, ev_668), (16, ev_13), (17, ev_21), (18, ev_672), (21, ev_669), (24, ev_13), (25, ev_21), (26, ev_673), (29, ev_670)]
noncomputable def zi_93_1 : ZIs := [(32, ev_13), (33, ev_252), (34, ev_666), (37, ev_21), (38, ev_261), (41, ev_10), (42, ev_13), (43, ev_261), (46, ev_10), (47, ev_176), (49, ev_674), (52, ev_21), (53, ev_280), (56, ev_10), (57, ev_13), (58, ev_280)]
noncomputable def zi_93_2 : ZIs := [(61, ev_10), (62, ev_529), (65, ev_674), (68, ev_21), (69, ev_287), (72, ev_10), (73, ev_13), (74, ev_287), (77, ev_10), (78, ev_529), (81, ev_674), (84, ev_21), (85, ev_675), (88, ev_10), (89, ev_13), (90, ev_675)]
noncomputable def zi_93_3 : ZIs := [(93, ev_10), (94, ev_529), (97, ev_674), (100, ev_21), (101, ev_676), (104, ev_10), (105, ev_13), (106, ev_676), (109, ev_10), (110, ev_529), (113, ev_674), (116, ev_21), (117, ev_677), (120, ev_10), (121, ev_13), (122, ev_677)]
noncomputable def zi_93_4 : ZIs := [(125, ev_10), (126, ev_529), (129, ev_674), (132, ev_260)]
set_option maxRecDepth 100000 in
theorem xi_w93 : zall cX3_copyOf [zi_93_0, zi_93_1, zi_93_2, zi_93_3, zi_93_4] := zall_w _ _ (by decide +kernel)
noncomputable def xi_93 (pc : Nat) : XIs := cond (Nat.blt pc 61) (cond (Nat.blt pc 32) (zx zi_93_0) (zx zi_93_1)) (cond (Nat.blt pc 93) (zx zi_93_2) (cond (Nat.blt pc 125) (zx zi_93_3) (zx zi_93_4)))
theorem xi_ok93 (pc : Nat) : xi_ok cX3_copyOf (xi_93 pc) = true := xi_c (xi_c (zq1 xi_w93) (zq1 (zq2 xi_w93))) (xi_c (zq1 (zq2 (zq2 xi_w93))) (xi_c (zq1 (zq2 (zq2 (zq2 xi_w93)))) (zq1 (zq2 (zq2 (zq2 (zq2 xi_w93)))))))
noncomputable def zi_94_0 : ZIs := [(0, ev_192), (1, ev_678), (4, ev_192), (5, ev_13), (6, ev_671), (9, ev_656), (12, ev_7), (13, ev_229), (16, ev_10), (17, ev_152)]
set_option maxRecDepth 100000 in
theorem xi_w94 : zall cX3_hasNode [zi_94_0] := zall_w _ _ (by decide +kernel)
noncomputable def xi_94 (pc : Nat) : XIs := zx zi_94_0
theorem xi_ok94 (pc : Nat) : xi_ok cX3_hasNode (xi_94 pc) = true := zq1 xi_w94
noncomputable def zi_95_0 : ZIs := [(0, ev_13), (1, ev_192), (2, ev_679), (5, ev_680), (8, ev_13), (9, ev_197), (10, ev_679), (13, ev_649), (16, ev_192), (17, ev_197), (18, ev_681), (21, ev_7), (22, ev_229), (25, ev_10), (26, ev_152)]
set_option maxRecDepth 100000 in
theorem xi_w95 : zall cX3_hasTwo [zi_95_0] := zall_w _ _ (by decide +kernel)
noncomputable def xi_95 (pc : Nat) : XIs := zx zi_95_0
theorem xi_ok95 (pc : Nat) : xi_ok cX3_hasTwo (xi_95 pc) = true := zq1 xi_w95
noncomputable def zi_96_0 : ZIs := [(0, ev_192), (1, ev_682), (4, ev_192), (5, ev_13), (6, ev_673), (9, ev_683), (12, ev_13), (13, ev_280), (16, ev_192), (17, ev_18), (18, ev_252), (19, ev_681), (22, ev_7), (23, ev_229), (26, ev_10), (27, ev_152)]
set_option maxRecDepth 100000 in
theorem xi_w96 : zall cX3_hasArc [zi_96_0] := zall_w _ _ (by decide +kernel)
noncomputable def xi_96 (pc : Nat) : XIs := zx zi_96_0
theorem xi_ok96 (pc : Nat) : xi_ok cX3_hasArc (xi_96 pc) = true := zq1 xi_w96
noncomputable def zi_97_0 : ZIs := [(0, ev_13), (1, ev_280), (4, ev_192), (5, ev_18), (6, ev_252), (7, ev_684), (10, ev_13), (11, ev_280), (14, ev_192), (15, ev_18), (16, ev_13), (17, ev_287), (20, ev_192), (21, ev_18), (22, ev_681), (25, ev_7)]
noncomputable def zi_97_1 : ZIs := [(26, ev_229), (29, ev_10), (30, ev_152)]
set_option maxRecDepth 100000 in
theorem xi_w97 : zall cX3_isJoint [zi_97_0, zi_97_1] := zall_w _ _ (by decide +kernel)
noncomputable def xi_97 (pc : Nat) : XIs := cond (Nat.blt pc 26) (zx zi_97_0) (zx zi_97_1)
theorem xi_ok97 (pc : Nat) : xi_ok cX3_isJoint (xi_97 pc) = true := xi_c (zq1 xi_w97) (zq1 (zq2 xi_w97))
noncomputable def zi_98_0 : ZIs := [(0, ev_10), (1, ev_685), (2, ev_10), (3, ev_294), (4, ev_197), (5, ev_13), (6, ev_673), (9, ev_686), (12, ev_13), (13, ev_197), (14, ev_232), (17, ev_687), (20, ev_688), (23, ev_304), (26, ev_624), (29, ev_192)]
noncomputable def zi_98_1 : ZIs := [(30, ev_152)]
set_option maxRecDepth 100000 in
theorem xi_w98 : zall cX3_joints [zi_98_0, zi_98_1] := zall_w _ _ (by decide +kernel)
noncomputable def xi_98 (pc : Nat) : XIs := cond (Nat.blt pc 30) (zx zi_98_0) (zx zi_98_1)
theorem xi_ok98 (pc : Nat) : xi_ok cX3_joints (xi_98 pc) = true := xi_c (zq1 xi_w98) (zq1 (zq2 xi_w98))
noncomputable def zi_99_0 : ZIs := [(0, ev_21), (1, ev_10), (2, ev_667), (5, ev_10), (6, ev_294), (7, ev_197), (8, ev_13), (9, ev_673), (12, ev_689), (15, ev_13), (16, ev_197), (17, ev_232), (20, ev_561), (23, ev_21), (24, ev_13), (25, ev_280)]
noncomputable def zi_99_1 : ZIs := [(28, ev_197), (29, ev_18), (30, ev_316), (31, ev_18), (32, ev_7), (33, ev_22), (34, ev_299), (35, ev_21), (36, ev_13), (37, ev_287), (40, ev_197), (41, ev_18), (42, ev_316), (43, ev_18), (44, ev_7), (45, ev_22)]
noncomputable def zi_99_2 : ZIs := [(46, ev_299), (47, ev_304), (50, ev_408), (53, ev_260)]
set_option maxRecDepth 100000 in
theorem xi_w99 : zall cX3_countJoints [zi_99_0, zi_99_1, zi_99_2] := zall_w _ _ (by decide +kernel)
noncomputable def xi_99 (pc : Nat) : XIs := cond (Nat.blt pc 28) (zx zi_99_0) (cond (Nat.blt pc 46) (zx zi_99_1) (zx zi_99_2))
theorem xi_ok99 (pc : Nat) : xi_ok cX3_countJoints (xi_99 pc) = true := xi_c (zq1 xi_w99) (xi_c (zq1 (zq2 xi_w99)) (zq1 (zq2 (zq2 xi_w99))))
noncomputable def zi_100_0 : ZIs := [(0, ev_197), (1, ev_381), (4, ev_13), (5, ev_675), (8, ev_192), (9, ev_18), (10, ev_152), (11, ev_197), (12, ev_7), (13, ev_690), (16, ev_13), (17, ev_676), (20, ev_192), (21, ev_18), (22, ev_195), (25, ev_13)]
noncomputable def zi_100_1 : ZIs := [(26, ev_677), (29, ev_192), (30, ev_18), (31, ev_152)]
set_option maxRecDepth 100000 in
theorem xi_w100 : zall cX3_valueOf [zi_100_0, zi_100_1] := zall_w _ _ (by decide +kernel)
noncomputable def xi_100 (pc : Nat) : XIs := cond (Nat.blt pc 26) (zx zi_100_0) (zx zi_100_1)
theorem xi_ok100 (pc : Nat) : xi_ok cX3_valueOf (xi_100 pc) = true := xi_c (zq1 xi_w100) (zq1 (zq2 xi_w100))
noncomputable def zi_101_0 : ZIs := [(0, ev_10), (1, ev_685), (2, ev_192), (3, ev_529), (6, ev_364), (9, ev_13), (10, ev_280), (13, ev_192), (14, ev_18), (15, ev_252), (16, ev_691), (19, ev_192), (20, ev_152), (21, ev_688), (24, ev_624), (27, ev_252)]
noncomputable def zi_101_1 : ZIs := [(28, ev_152)]
set_option maxRecDepth 100000 in
theorem xi_w101 : zall cX3_freePlace [zi_101_0, zi_101_1] := zall_w _ _ (by decide +kernel)
noncomputable def xi_101 (pc : Nat) : XIs := cond (Nat.blt pc 28) (zx zi_101_0) (zx zi_101_1)
theorem xi_ok101 (pc : Nat) : xi_ok cX3_freePlace (xi_101 pc) = true := xi_c (zq1 xi_w101) (zq1 (zq2 xi_w101))
noncomputable def zi_102_0 : ZIs := [(0, ev_13), (1, ev_671), (4, ev_176), (6, ev_613), (9, ev_252), (10, ev_200), (13, ev_7), (14, ev_13), (15, ev_671), (18, ev_277), (19, ev_7), (20, ev_16), (21, ev_152)]
set_option maxRecDepth 100000 in
theorem xi_w102 : zall cX3_allNodes [zi_102_0] := zall_w _ _ (by decide +kernel)
noncomputable def xi_102 (pc : Nat) : XIs := zx zi_102_0
theorem xi_ok102 (pc : Nat) : xi_ok cX3_allNodes (xi_102 pc) = true := zq1 xi_w102
noncomputable def zi_103_0 : ZIs := [(0, ev_13), (1, ev_268), (4, ev_192), (5, ev_7), (6, ev_22), (7, ev_18), (8, ev_13), (9, ev_268), (12, ev_192), (13, ev_18), (14, ev_16), (15, ev_152)]
set_option maxRecDepth 100000 in
theorem xi_w103 : zall cX3_outCount [zi_103_0] := zall_w _ _ (by decide +kernel)
noncomputable def xi_103 (pc : Nat) : XIs := zx zi_103_0
theorem xi_ok103 (pc : Nat) : xi_ok cX3_outCount (xi_103 pc) = true := zq1 xi_w103
noncomputable def zi_104_0 : ZIs := [(0, ev_13), (1, ev_692), (4, ev_192), (5, ev_7), (6, ev_22), (7, ev_18), (8, ev_13), (9, ev_692), (12, ev_192), (13, ev_18), (14, ev_16), (15, ev_152)]
set_option maxRecDepth 100000 in
theorem xi_w104 : zall cX3_inCount [zi_104_0] := zall_w _ _ (by decide +kernel)
noncomputable def xi_104 (pc : Nat) : XIs := zx zi_104_0
theorem xi_ok104 (pc : Nat) : xi_ok cX3_inCount (xi_104 pc) = true := zq1 xi_w104
noncomputable def zi_105_0 : ZIs := [(0, ev_13), (1, ev_280), (4, ev_192), (5, ev_252), (6, ev_299), (7, ev_13), (8, ev_1), (9, ev_672), (12, ev_7), (13, ev_16), (14, ev_669), (17, ev_13), (18, ev_673), (21, ev_500), (24, ev_13), (25, ev_280)]
noncomputable def zi_105_1 : ZIs := [(28, ev_13), (29, ev_673), (32, ev_7), (33, ev_16), (34, ev_18), (35, ev_252), (36, ev_538), (39, ev_13), (40, ev_1), (41, ev_673), (44, ev_7), (45, ev_16), (46, ev_670), (49, ev_693), (52, ev_260)]
set_option maxRecDepth 100000 in
theorem xi_w105 : zall cX3_dropAt [zi_105_0, zi_105_1] := zall_w _ _ (by decide +kernel)
noncomputable def xi_105 (pc : Nat) : XIs := cond (Nat.blt pc 28) (zx zi_105_0) (zx zi_105_1)
theorem xi_ok105 (pc : Nat) : xi_ok cX3_dropAt (xi_105 pc) = true := xi_c (zq1 xi_w105) (zq1 (zq2 xi_w105))
noncomputable def zi_106_0 : ZIs := [(0, ev_13), (1, ev_694), (4, ev_13), (5, ev_541), (8, ev_608), (11, ev_260), (12, ev_13), (13, ev_13), (14, ev_541), (17, ev_666), (20, ev_13), (21, ev_695), (24, ev_10), (25, ev_667), (28, ev_13), (29, ev_696)]
noncomputable def zi_106_1 : ZIs := [(32, ev_10), (33, ev_667), (36, ev_13), (37, ev_697), (40, ev_10), (41, ev_667), (44, ev_13), (45, ev_268), (48, ev_10), (49, ev_667), (52, ev_13), (53, ev_692), (56, ev_10), (57, ev_667), (60, ev_10), (61, ev_685)]
noncomputable def zi_106_2 : ZIs := [(62, ev_192), (63, ev_13), (64, ev_673), (67, ev_297), (70, ev_13), (71, ev_280), (74, ev_192), (75, ev_18), (76, ev_252), (77, ev_698), (80, ev_13), (81, ev_13), (82, ev_280), (85, ev_192), (86, ev_18), (87, ev_13)]
noncomputable def zi_106_3 : ZIs := [(88, ev_287), (91, ev_192), (92, ev_18), (93, ev_233), (96, ev_688), (99, ev_301), (102, ev_7), (103, ev_685), (104, ev_192), (105, ev_176), (107, ev_620), (110, ev_13), (111, ev_268), (114, ev_192), (115, ev_316), (116, ev_18)]
noncomputable def zi_106_4 : ZIs := [(117, ev_13), (118, ev_268), (121, ev_192), (122, ev_7), (123, ev_16), (124, ev_18), (125, ev_22), (126, ev_299), (127, ev_13), (128, ev_692), (131, ev_192), (132, ev_316), (133, ev_18), (134, ev_13), (135, ev_692), (138, ev_192)]
noncomputable def zi_106_5 : ZIs := [(139, ev_7), (140, ev_16), (141, ev_18), (142, ev_22), (143, ev_299), (144, ev_688), (147, ev_408), (150, ev_13), (151, ev_673), (154, ev_7), (155, ev_16), (156, ev_685), (157, ev_192), (158, ev_699), (161, ev_13), (162, ev_280)]
noncomputable def zi_106_6 : ZIs := [(165, ev_192), (166, ev_18), (167, ev_252), (168, ev_700), (171, ev_13), (172, ev_268), (175, ev_13), (176, ev_280), (179, ev_192), (180, ev_18), (181, ev_316), (182, ev_18), (183, ev_7), (184, ev_16), (185, ev_299), (186, ev_13)]
noncomputable def zi_106_7 : ZIs := [(187, ev_266), (190, ev_13), (191, ev_268), (194, ev_13), (195, ev_280), (198, ev_192), (199, ev_18), (200, ev_18), (201, ev_192), (202, ev_299), (203, ev_13), (204, ev_692), (207, ev_13), (208, ev_287), (211, ev_192), (212, ev_18)]
noncomputable def zi_106_8 : ZIs := [(213, ev_316), (214, ev_18), (215, ev_7), (216, ev_16), (217, ev_299), (218, ev_13), (219, ev_701), (222, ev_13), (223, ev_692), (226, ev_13), (227, ev_287), (230, ev_192), (231, ev_18), (232, ev_18), (233, ev_192), (234, ev_299)]
noncomputable def zi_106_9 : ZIs := [(235, ev_702), (238, ev_441), (241, ev_260)]
set_option maxRecDepth 100000 in
theorem xi_w106 : zall cX3_tie [zi_106_0, zi_106_1, zi_106_2, zi_106_3, zi_106_4, zi_106_5, zi_106_6, zi_106_7, zi_106_8, zi_106_9] := zall_w _ _ (by decide +kernel)
noncomputable def xi_106 (pc : Nat) : XIs := cond (Nat.blt pc 139) (cond (Nat.blt pc 62) (cond (Nat.blt pc 32) (zx zi_106_0) (zx zi_106_1)) (cond (Nat.blt pc 88) (zx zi_106_2) (cond (Nat.blt pc 117) (zx zi_106_3) (zx zi_106_4)))) (cond (Nat.blt pc 187) (cond (Nat.blt pc 165) (zx zi_106_5) (zx zi_106_6)) (cond (Nat.blt pc 213) (zx zi_106_7) (cond (Nat.blt pc 235) (zx zi_106_8) (zx zi_106_9))))
theorem xi_ok106 (pc : Nat) : xi_ok cX3_tie (xi_106 pc) = true := xi_c (xi_c (xi_c (zq1 xi_w106) (zq1 (zq2 xi_w106))) (xi_c (zq1 (zq2 (zq2 xi_w106))) (xi_c (zq1 (zq2 (zq2 (zq2 xi_w106)))) (zq1 (zq2 (zq2 (zq2 (zq2 xi_w106)))))))) (xi_c (xi_c (zq1 (zq2 (zq2 (zq2 (zq2 (zq2 xi_w106)))))) (zq1 (zq2 (zq2 (zq2 (zq2 (zq2 (zq2 xi_w106)))))))) (xi_c (zq1 (zq2 (zq2 (zq2 (zq2 (zq2 (zq2 (zq2 xi_w106)))))))) (xi_c (zq1 (zq2 (zq2 (zq2 (zq2 (zq2 (zq2 (zq2 (zq2 xi_w106))))))))) (zq1 (zq2 (zq2 (zq2 (zq2 (zq2 (zq2 (zq2 (zq2 (zq2 xi_w106)))))))))))))
noncomputable def zi_107_0 : ZIs := [(0, ev_13), (1, ev_268), (4, ev_192), (5, ev_316), (6, ev_18), (7, ev_7), (8, ev_22), (9, ev_299), (10, ev_13), (11, ev_692), (14, ev_197), (15, ev_316), (16, ev_18), (17, ev_7), (18, ev_22), (19, ev_299)]
noncomputable def zi_107_1 : ZIs := [(20, ev_13), (21, ev_696), (24, ev_192), (25, ev_316), (26, ev_18), (27, ev_7), (28, ev_197), (29, ev_277), (30, ev_278), (31, ev_299), (32, ev_13), (33, ev_697), (36, ev_197), (37, ev_316), (38, ev_18), (39, ev_7)]
noncomputable def zi_107_2 : ZIs := [(40, ev_192), (41, ev_277), (42, ev_278), (43, ev_299), (44, ev_192), (45, ev_197), (46, ev_703), (49, ev_13), (50, ev_695), (53, ev_192), (54, ev_316), (55, ev_18), (56, ev_7), (57, ev_197), (58, ev_277), (59, ev_278)]
noncomputable def zi_107_3 : ZIs := [(60, ev_299), (61, ev_13), (62, ev_695), (65, ev_197), (66, ev_316), (67, ev_18), (68, ev_7), (69, ev_192), (70, ev_277), (71, ev_278), (72, ev_299), (73, ev_260)]
set_option maxRecDepth 100000 in
theorem xi_w107 : zall cX3_tieEnds [zi_107_0, zi_107_1, zi_107_2, zi_107_3] := zall_w _ _ (by decide +kernel)
noncomputable def xi_107 (pc : Nat) : XIs := cond (Nat.blt pc 40) (cond (Nat.blt pc 20) (zx zi_107_0) (zx zi_107_1)) (cond (Nat.blt pc 60) (zx zi_107_2) (zx zi_107_3))
theorem xi_ok107 (pc : Nat) : xi_ok cX3_tieEnds (xi_107 pc) = true := xi_c (xi_c (zq1 xi_w107) (zq1 (zq2 xi_w107))) (xi_c (zq1 (zq2 (zq2 xi_w107))) (zq1 (zq2 (zq2 (zq2 xi_w107)))))
noncomputable def zi_108_0 : ZIs := [(0, ev_13), (1, ev_251), (4, ev_13), (5, ev_252), (6, ev_253), (9, ev_13), (10, ev_176), (12, ev_8), (14, ev_254), (17, ev_13), (18, ev_176), (20, ev_8), (22, ev_368), (25, ev_13), (26, ev_252), (27, ev_257)]
noncomputable def zi_108_1 : ZIs := [(30, ev_13), (31, ev_176), (33, ev_255), (35, ev_258), (38, ev_13), (39, ev_176), (41, ev_255), (43, ev_370), (46, ev_13), (47, ev_176), (49, ev_255), (51, ev_371), (54, ev_13), (55, ev_176), (57, ev_255), (59, ev_372)]
noncomputable def zi_108_2 : ZIs := [(62, ev_13), (63, ev_176), (65, ev_255), (67, ev_704), (70, ev_260)]
set_option maxRecDepth 100000 in
theorem xi_w108 : zall cX4_init [zi_108_0, zi_108_1, zi_108_2] := zall_w _ _ (by decide +kernel)
noncomputable def xi_108 (pc : Nat) : XIs := cond (Nat.blt pc 30) (zx zi_108_0) (cond (Nat.blt pc 62) (zx zi_108_1) (zx zi_108_2))
theorem xi_ok108 (pc : Nat) : xi_ok cX4_init (xi_108 pc) = true := xi_c (zq1 xi_w108) (xi_c (zq1 (zq2 xi_w108)) (zq1 (zq2 (zq2 xi_w108))))
noncomputable def zi_109_0 : ZIs := [(0, ev_13), (1, ev_261), (4, ev_21), (5, ev_705), (8, ev_706), (11, ev_198), (12, ev_13), (13, ev_707), (16, ev_359), (19, ev_13), (20, ev_21), (21, ev_705), (24, ev_253), (27, ev_13), (28, ev_10), (29, ev_708)]
noncomputable def zi_109_1 : ZIs := [(32, ev_13), (33, ev_280), (36, ev_709), (39, ev_710), (42, ev_21), (43, ev_218), (46, ev_13), (47, ev_707), (50, ev_198), (51, ev_364), (54, ev_13), (55, ev_21), (56, ev_219), (59, ev_13), (60, ev_1), (61, ev_707)]
noncomputable def zi_109_2 : ZIs := [(64, ev_7), (65, ev_22), (66, ev_708), (69, ev_711), (72, ev_13), (73, ev_280), (76, ev_197), (77, ev_154), (78, ev_481)]
set_option maxRecDepth 100000 in
theorem xi_w109 : zall cX4_unitsOf [zi_109_0, zi_109_1, zi_109_2] := zall_w _ _ (by decide +kernel)
noncomputable def xi_109 (pc : Nat) : XIs := cond (Nat.blt pc 32) (zx zi_109_0) (cond (Nat.blt pc 64) (zx zi_109_1) (zx zi_109_2))
theorem xi_ok109 (pc : Nat) : xi_ok cX4_unitsOf (xi_109 pc) = true := xi_c (zq1 xi_w109) (xi_c (zq1 (zq2 xi_w109)) (zq1 (zq2 (zq2 xi_w109))))
noncomputable def zi_110_0 : ZIs := [(0, ev_230), (1, ev_517), (2, ev_13), (3, ev_440), (6, ev_230), (7, ev_710), (10, ev_10), (11, ev_11), (13, ev_12), (15, ev_21), (16, ev_671), (19, ev_556), (22, ev_21), (23, ev_12), (25, ev_712), (28, ev_25)]
noncomputable def zi_110_1 : ZIs := [(30, ev_150), (32, ev_326), (35, ev_230), (36, ev_713), (39, ev_13), (40, ev_280), (43, ev_12), (45, ev_154), (46, ev_714), (49, ev_492), (50, ev_715), (53, ev_150), (55, ev_156), (56, ev_492), (57, ev_490), (58, ev_58)]
noncomputable def zi_110_2 : ZIs := [(60, ev_21), (61, ev_716), (64, ev_12), (66, ev_18), (67, ev_313), (69, ev_314), (71, ev_21), (72, ev_716), (75, ev_12), (77, ev_7), (78, ev_22), (79, ev_18), (80, ev_585), (83, ev_13), (84, ev_440), (87, ev_21)]
noncomputable def zi_110_3 : ZIs := [(88, ev_717), (91, ev_21), (92, ev_718), (95, ev_314), (97, ev_18), (98, ev_18), (99, ev_316), (100, ev_154), (101, ev_460), (103, ev_457), (104, ev_194), (105, ev_318), (108, ev_719), (111, ev_489), (112, ev_13), (113, ev_280)]
noncomputable def zi_110_4 : ZIs := [(116, ev_12), (118, ev_154), (119, ev_460), (121, ev_150), (123, ev_156), (124, ev_492), (125, ev_485), (126, ev_457), (127, ev_517), (128, ev_348), (131, ev_720), (134, ev_10), (135, ev_11), (137, ev_12), (139, ev_21), (140, ev_671)]
noncomputable def zi_110_5 : ZIs := [(143, ev_721), (146, ev_13), (147, ev_440), (150, ev_12), (152, ev_316), (153, ev_154), (154, ev_489), (155, ev_21), (156, ev_671), (159, ev_156), (160, ev_490), (161, ev_12), (163, ev_156), (164, ev_489), (165, ev_21), (166, ev_671)]
noncomputable def zi_110_6 : ZIs := [(169, ev_156), (170, ev_527), (171, ev_157), (172, ev_486), (175, ev_228), (176, ev_229), (179, ev_230), (180, ev_457), (181, ev_457), (182, ev_194), (183, ev_348), (186, ev_653), (189, ev_13), (190, ev_280), (193, ev_207), (195, ev_13)]
noncomputable def zi_110_7 : ZIs := [(196, ev_13), (197, ev_440), (200, ev_254), (203, ev_13), (204, ev_203), (206, ev_368), (209, ev_260)]
set_option maxRecDepth 100000 in
theorem xi_w110 : zall cX4_shareOut [zi_110_0, zi_110_1, zi_110_2, zi_110_3, zi_110_4, zi_110_5, zi_110_6, zi_110_7] := zall_w _ _ (by decide +kernel)
noncomputable def xi_110 (pc : Nat) : XIs := cond (Nat.blt pc 116) (cond (Nat.blt pc 60) (cond (Nat.blt pc 30) (zx zi_110_0) (zx zi_110_1)) (cond (Nat.blt pc 88) (zx zi_110_2) (zx zi_110_3))) (cond (Nat.blt pc 169) (cond (Nat.blt pc 143) (zx zi_110_4) (zx zi_110_5)) (cond (Nat.blt pc 196) (zx zi_110_6) (zx zi_110_7)))
theorem xi_ok110 (pc : Nat) : xi_ok cX4_shareOut (xi_110 pc) = true := xi_c (xi_c (xi_c (zq1 xi_w110) (zq1 (zq2 xi_w110))) (xi_c (zq1 (zq2 (zq2 xi_w110))) (zq1 (zq2 (zq2 (zq2 xi_w110)))))) (xi_c (xi_c (zq1 (zq2 (zq2 (zq2 (zq2 xi_w110))))) (zq1 (zq2 (zq2 (zq2 (zq2 (zq2 xi_w110))))))) (xi_c (zq1 (zq2 (zq2 (zq2 (zq2 (zq2 (zq2 xi_w110))))))) (zq1 (zq2 (zq2 (zq2 (zq2 (zq2 (zq2 (zq2 xi_w110))))))))))
noncomputable def zi_111_0 : ZIs := [(0, ev_13), (1, ev_21), (2, ev_395), (5, ev_13), (6, ev_465), (9, ev_13), (10, ev_341), (13, ev_197), (14, ev_18), (15, ev_18), (16, ev_722), (19, ev_152)]
set_option maxRecDepth 100000 in
theorem xi_w111 : zall cX4_groupOf [zi_111_0] := zall_w _ _ (by decide +kernel)
noncomputable def xi_111 (pc : Nat) : XIs := zx zi_111_0
theorem xi_ok111 (pc : Nat) : xi_ok cX4_groupOf (xi_111 pc) = true := zq1 xi_w111
noncomputable def zi_112_0 : ZIs := [(0, ev_13), (1, ev_21), (2, ev_395), (5, ev_230), (6, ev_517), (7, ev_10), (8, ev_11), (10, ev_12), (12, ev_21), (13, ev_723), (16, ev_724), (19, ev_21), (20, ev_12), (22, ev_725), (25, ev_726), (28, ev_13)]
noncomputable def zi_112_1 : ZIs := [(29, ev_341), (32, ev_21), (33, ev_555), (36, ev_12), (38, ev_18), (39, ev_18), (40, ev_13), (41, ev_341), (44, ev_21), (45, ev_717), (48, ev_12), (50, ev_18), (51, ev_18), (52, ev_727), (55, ev_489), (56, ev_728)]
noncomputable def zi_112_2 : ZIs := [(59, ev_13), (60, ev_729), (63, ev_156), (64, ev_492), (65, ev_457), (66, ev_517), (67, ev_348), (70, ev_619), (73, ev_10), (74, ev_11), (76, ev_12), (78, ev_21), (79, ev_671), (82, ev_511), (85, ev_489), (86, ev_13)]
noncomputable def zi_112_3 : ZIs := [(87, ev_434), (90, ev_12), (92, ev_18), (93, ev_156), (94, ev_13), (95, ev_430), (98, ev_13), (99, ev_341), (102, ev_12), (104, ev_18), (105, ev_18), (106, ev_13), (107, ev_434), (110, ev_12), (112, ev_18), (113, ev_16)]
noncomputable def zi_112_4 : ZIs := [(114, ev_156), (115, ev_492), (116, ev_485), (117, ev_517), (118, ev_348), (121, ev_730), (124, ev_489), (125, ev_481)]
set_option maxRecDepth 100000 in
theorem xi_w112 : zall cX4_totalGain [zi_112_0, zi_112_1, zi_112_2, zi_112_3, zi_112_4] := zall_w _ _ (by decide +kernel)
noncomputable def xi_112 (pc : Nat) : XIs := cond (Nat.blt pc 59) (cond (Nat.blt pc 29) (zx zi_112_0) (zx zi_112_1)) (cond (Nat.blt pc 87) (zx zi_112_2) (cond (Nat.blt pc 114) (zx zi_112_3) (zx zi_112_4)))
theorem xi_ok112 (pc : Nat) : xi_ok cX4_totalGain (xi_112 pc) = true := xi_c (xi_c (zq1 xi_w112) (zq1 (zq2 xi_w112))) (xi_c (zq1 (zq2 (zq2 xi_w112))) (xi_c (zq1 (zq2 (zq2 (zq2 xi_w112)))) (zq1 (zq2 (zq2 (zq2 (zq2 xi_w112)))))))
noncomputable def zi_113_0 : ZIs := [(0, ev_13), (1, ev_362), (4, ev_21), (5, ev_705), (8, ev_608), (11, ev_260), (12, ev_13), (13, ev_21), (14, ev_705), (17, ev_257), (20, ev_13), (21, ev_21), (22, ev_731), (25, ev_7), (26, ev_294), (27, ev_10)]
noncomputable def zi_113_1 : ZIs := [(28, ev_295), (29, ev_198), (30, ev_732), (32, ev_404), (35, ev_197), (36, ev_621), (39, ev_10), (40, ev_294), (41, ev_10), (42, ev_11), (44, ev_12), (46, ev_21), (47, ev_671), (50, ev_622), (53, ev_197), (54, ev_13)]
noncomputable def zi_113_2 : ZIs := [(55, ev_21), (56, ev_12), (58, ev_733), (61, ev_278), (62, ev_294), (63, ev_348), (66, ev_624), (69, ev_300), (72, ev_408), (75, ev_260)]
set_option maxRecDepth 100000 in
theorem xi_w113 : zall cX4_settle [zi_113_0, zi_113_1, zi_113_2] := zall_w _ _ (by decide +kernel)
noncomputable def xi_113 (pc : Nat) : XIs := cond (Nat.blt pc 28) (zx zi_113_0) (cond (Nat.blt pc 55) (zx zi_113_1) (zx zi_113_2))
theorem xi_ok113 (pc : Nat) : xi_ok cX4_settle (xi_113 pc) = true := xi_c (zq1 xi_w113) (xi_c (zq1 (zq2 xi_w113)) (zq1 (zq2 (zq2 xi_w113))))
noncomputable def zi_114_0 : ZIs := [(0, ev_21), (1, ev_218), (4, ev_13), (5, ev_21), (6, ev_323), (9, ev_734), (12, ev_21), (13, ev_13), (14, ev_434), (17, ev_735), (20, ev_13), (21, ev_465), (24, ev_10), (25, ev_736), (28, ev_10), (29, ev_294)]
noncomputable def zi_114_1 : ZIs := [(30, ev_197), (31, ev_21), (32, ev_671), (35, ev_737), (38, ev_13), (39, ev_341), (42, ev_197), (43, ev_197), (44, ev_299), (45, ev_13), (46, ev_465), (49, ev_197), (50, ev_7), (51, ev_197), (52, ev_277), (53, ev_299)]
noncomputable def zi_114_2 : ZIs := [(54, ev_13), (55, ev_430), (58, ev_197), (59, ev_13), (60, ev_434), (63, ev_197), (64, ev_18), (65, ev_299), (66, ev_304), (69, ev_719), (72, ev_260)]
set_option maxRecDepth 100000 in
theorem xi_w114 : zall cX4_begin [zi_114_0, zi_114_1, zi_114_2] := zall_w _ _ (by decide +kernel)
noncomputable def xi_114 (pc : Nat) : XIs := cond (Nat.blt pc 30) (zx zi_114_0) (cond (Nat.blt pc 54) (zx zi_114_1) (zx zi_114_2))
theorem xi_ok114 (pc : Nat) : xi_ok cX4_begin (xi_114 pc) = true := xi_c (zq1 xi_w114) (xi_c (zq1 (zq2 xi_w114)) (zq1 (zq2 (zq2 xi_w114))))
noncomputable def zi_115_0 : ZIs := [(0, ev_13), (1, ev_21), (2, ev_197), (3, ev_244), (6, ev_13), (7, ev_341), (10, ev_197), (11, ev_18), (12, ev_295), (13, ev_13), (14, ev_197), (15, ev_198), (16, ev_432), (19, ev_442), (21, ev_252), (22, ev_28)]
noncomputable def zi_115_1 : ZIs := [(24, ev_10), (25, ev_275), (27, ev_21), (28, ev_738), (31, ev_197), (32, ev_18), (33, ev_313), (35, ev_314), (37, ev_739), (40, ev_13), (41, ev_341), (44, ev_314), (46, ev_722), (49, ev_18), (50, ev_327), (52, ev_329)]
noncomputable def zi_115_2 : ZIs := [(54, ev_198), (55, ev_740), (58, ev_276), (60, ev_329), (62, ev_303), (63, ev_7), (64, ev_20), (65, ev_741), (68, ev_276), (70, ev_7), (71, ev_329), (73, ev_277), (74, ev_278), (75, ev_275), (77, ev_155), (79, ev_252)]
noncomputable def zi_115_3 : ZIs := [(80, ev_742), (83, ev_13), (84, ev_197), (85, ev_329), (87, ev_155), (89, ev_743), (92, ev_330), (95, ev_329), (97, ev_638), (100, ev_155), (102, ev_28), (104, ev_314), (106, ev_314), (108, ev_7), (109, ev_16), (110, ev_20)]
noncomputable def zi_115_4 : ZIs := [(111, ev_313), (113, ev_744), (116, ev_155), (118, ev_252), (119, ev_742), (122, ev_13), (123, ev_197), (124, ev_155), (126, ev_432), (129, ev_230), (130, ev_157), (131, ev_745), (134, ev_230), (135, ev_247), (137, ev_157), (138, ev_746)]
noncomputable def zi_115_5 : ZIs := [(141, ev_13), (142, ev_197), (143, ev_13), (144, ev_747), (147, ev_748), (150, ev_227), (153, ev_7), (154, ev_229), (157, ev_10), (158, ev_152), (159, ev_13), (160, ev_197), (161, ev_155), (163, ev_432), (166, ev_247), (168, ev_157)]
noncomputable def zi_115_6 : ZIs := [(169, ev_749), (172, ev_13), (173, ev_197), (174, ev_155), (176, ev_748), (179, ev_227), (182, ev_7), (183, ev_229), (186, ev_10), (187, ev_152)]
set_option maxRecDepth 100000 in
theorem xi_w115 : zall cX4_settleNode [zi_115_0, zi_115_1, zi_115_2, zi_115_3, zi_115_4, zi_115_5, zi_115_6] := zall_w _ _ (by decide +kernel)
noncomputable def xi_115 (pc : Nat) : XIs := cond (Nat.blt pc 80) (cond (Nat.blt pc 24) (zx zi_115_0) (cond (Nat.blt pc 54) (zx zi_115_1) (zx zi_115_2))) (cond (Nat.blt pc 141) (cond (Nat.blt pc 111) (zx zi_115_3) (zx zi_115_4)) (cond (Nat.blt pc 169) (zx zi_115_5) (zx zi_115_6)))
theorem xi_ok115 (pc : Nat) : xi_ok cX4_settleNode (xi_115 pc) = true := xi_c (xi_c (zq1 xi_w115) (xi_c (zq1 (zq2 xi_w115)) (zq1 (zq2 (zq2 xi_w115))))) (xi_c (xi_c (zq1 (zq2 (zq2 (zq2 xi_w115)))) (zq1 (zq2 (zq2 (zq2 (zq2 xi_w115)))))) (xi_c (zq1 (zq2 (zq2 (zq2 (zq2 (zq2 xi_w115)))))) (zq1 (zq2 (zq2 (zq2 (zq2 (zq2 (zq2 xi_w115)))))))))
noncomputable def zi_116_0 : ZIs := [(0, ev_13), (1, ev_192), (2, ev_197), (3, ev_432), (6, ev_13), (7, ev_192), (8, ev_198), (9, ev_432), (12, ev_485), (13, ev_442), (15, ev_247), (17, ev_230), (18, ev_157), (19, ev_750), (22, ev_247), (24, ev_230)]
noncomputable def zi_116_1 : ZIs := [(25, ev_157), (26, ev_361), (29, ev_13), (30, ev_465), (33, ev_197), (34, ev_18), (35, ev_722), (38, ev_13), (39, ev_465), (42, ev_198), (43, ev_18), (44, ev_722), (47, ev_656), (50, ev_7), (51, ev_229), (54, ev_10)]
noncomputable def zi_116_2 : ZIs := [(55, ev_152)]
set_option maxRecDepth 100000 in
theorem xi_w116 : zall cX4_isBetter [zi_116_0, zi_116_1, zi_116_2] := zall_w _ _ (by decide +kernel)
noncomputable def xi_116 (pc : Nat) : XIs := cond (Nat.blt pc 25) (zx zi_116_0) (cond (Nat.blt pc 55) (zx zi_116_1) (zx zi_116_2))
theorem xi_ok116 (pc : Nat) : xi_ok cX4_isBetter (xi_116 pc) = true := xi_c (zq1 xi_w116) (xi_c (zq1 (zq2 xi_w116)) (zq1 (zq2 (zq2 xi_w116))))
noncomputable def zi_117_0 : ZIs := [(0, ev_13), (1, ev_751), (4, ev_10), (5, ev_736), (8, ev_21), (9, ev_716), (12, ev_197), (13, ev_18), (14, ev_295), (15, ev_198), (16, ev_21), (17, ev_716), (20, ev_197), (21, ev_7), (22, ev_22), (23, ev_18)]
noncomputable def zi_117_1 : ZIs := [(24, ev_546), (27, ev_13), (28, ev_751), (31, ev_13), (32, ev_341), (35, ev_21), (36, ev_717), (39, ev_21), (40, ev_718), (43, ev_198), (44, ev_18), (45, ev_18), (46, ev_18), (47, ev_316), (48, ev_18), (49, ev_7)]
noncomputable def zi_117_2 : ZIs := [(50, ev_22), (51, ev_299), (52, ev_300), (55, ev_752), (58, ev_21), (59, ev_753), (62, ev_197), (63, ev_18), (64, ev_295), (65, ev_198), (66, ev_21), (67, ev_753), (70, ev_197), (71, ev_7), (72, ev_22), (73, ev_18)]
noncomputable def zi_117_3 : ZIs := [(74, ev_546), (77, ev_13), (78, ev_751), (81, ev_13), (82, ev_341), (85, ev_21), (86, ev_555), (89, ev_21), (90, ev_754), (93, ev_198), (94, ev_18), (95, ev_18), (96, ev_18), (97, ev_316), (98, ev_18), (99, ev_7)]
noncomputable def zi_117_4 : ZIs := [(100, ev_22), (101, ev_299), (102, ev_300), (105, ev_752), (108, ev_21), (109, ev_716), (112, ev_197), (113, ev_18), (114, ev_295), (115, ev_198), (116, ev_21), (117, ev_716), (120, ev_197), (121, ev_7), (122, ev_22), (123, ev_18)]
noncomputable def zi_117_5 : ZIs := [(124, ev_612), (127, ev_21), (128, ev_717), (131, ev_21), (132, ev_718), (135, ev_198), (136, ev_18), (137, ev_18), (138, ev_197), (139, ev_755), (142, ev_13), (143, ev_751), (146, ev_13), (147, ev_341), (150, ev_197), (151, ev_18)]
noncomputable def zi_117_6 : ZIs := [(152, ev_316), (153, ev_18), (154, ev_30), (155, ev_16), (156, ev_299), (157, ev_300), (160, ev_730), (163, ev_260)]
set_option maxRecDepth 100000 in
theorem xi_w117 : zall cX4_countLinks [zi_117_0, zi_117_1, zi_117_2, zi_117_3, zi_117_4, zi_117_5, zi_117_6] := zall_w _ _ (by decide +kernel)
noncomputable def xi_117 (pc : Nat) : XIs := cond (Nat.blt pc 74) (cond (Nat.blt pc 24) (zx zi_117_0) (cond (Nat.blt pc 50) (zx zi_117_1) (zx zi_117_2))) (cond (Nat.blt pc 124) (cond (Nat.blt pc 100) (zx zi_117_3) (zx zi_117_4)) (cond (Nat.blt pc 152) (zx zi_117_5) (zx zi_117_6)))
theorem xi_ok117 (pc : Nat) : xi_ok cX4_countLinks (xi_117 pc) = true := xi_c (xi_c (zq1 xi_w117) (xi_c (zq1 (zq2 xi_w117)) (zq1 (zq2 (zq2 xi_w117))))) (xi_c (xi_c (zq1 (zq2 (zq2 (zq2 xi_w117)))) (zq1 (zq2 (zq2 (zq2 (zq2 xi_w117)))))) (xi_c (zq1 (zq2 (zq2 (zq2 (zq2 (zq2 xi_w117)))))) (zq1 (zq2 (zq2 (zq2 (zq2 (zq2 (zq2 xi_w117)))))))))
noncomputable def zi_118_0 : ZIs := [(0, ev_13), (1, ev_341), (4, ev_192), (5, ev_18), (6, ev_197), (7, ev_756), (10, ev_13), (11, ev_430), (14, ev_197), (15, ev_18), (16, ev_13), (17, ev_434), (20, ev_192), (21, ev_18), (22, ev_16), (23, ev_195)]
noncomputable def zi_118_1 : ZIs := [(26, ev_13), (27, ev_430), (30, ev_197), (31, ev_18), (32, ev_295), (33, ev_757), (36, ev_13), (37, ev_729), (40, ev_156), (41, ev_492), (42, ev_13), (43, ev_751), (46, ev_197), (47, ev_18), (48, ev_156), (49, ev_492)]
noncomputable def zi_118_2 : ZIs := [(50, ev_13), (51, ev_434), (54, ev_192), (55, ev_18), (56, ev_156), (57, ev_198), (58, ev_156), (59, ev_492), (60, ev_485), (61, ev_481)]
set_option maxRecDepth 100000 in
theorem xi_w118 : zall cX4_score [zi_118_0, zi_118_1, zi_118_2] := zall_w _ _ (by decide +kernel)
noncomputable def xi_118 (pc : Nat) : XIs := cond (Nat.blt pc 26) (zx zi_118_0) (cond (Nat.blt pc 50) (zx zi_118_1) (zx zi_118_2))
theorem xi_ok118 (pc : Nat) : xi_ok cX4_score (xi_118 pc) = true := xi_c (zq1 xi_w118) (xi_c (zq1 (zq2 xi_w118)) (zq1 (zq2 (zq2 xi_w118))))
noncomputable def zi_119_0 : ZIs := [(0, ev_10), (1, ev_685), (2, ev_192), (3, ev_176), (5, ev_686), (8, ev_13), (9, ev_465), (12, ev_192), (13, ev_18), (14, ev_378), (17, ev_192), (18, ev_152), (19, ev_688), (22, ev_758), (25, ev_252), (26, ev_152)]
set_option maxRecDepth 100000 in
theorem xi_w119 : zall cX4_freeGroup [zi_119_0] := zall_w _ _ (by decide +kernel)
noncomputable def xi_119 (pc : Nat) : XIs := zx zi_119_0
theorem xi_ok119 (pc : Nat) : xi_ok cX4_freeGroup (xi_119 pc) = true := zq1 xi_w119
noncomputable def zi_120_0 : ZIs := [(0, ev_197), (1, ev_252), (2, ev_691), (5, ev_10), (6, ev_152), (7, ev_13), (8, ev_341), (11, ev_192), (12, ev_18), (13, ev_295), (14, ev_13), (15, ev_465), (18, ev_198), (19, ev_316), (20, ev_18), (21, ev_7)]
noncomputable def zi_120_1 : ZIs := [(22, ev_192), (23, ev_277), (24, ev_252), (25, ev_317), (26, ev_20), (27, ev_299), (28, ev_13), (29, ev_430), (32, ev_198), (33, ev_316), (34, ev_18), (35, ev_13), (36, ev_434), (39, ev_192), (40, ev_18), (41, ev_16)]
noncomputable def zi_120_2 : ZIs := [(42, ev_299), (43, ev_13), (44, ev_430), (47, ev_197), (48, ev_13), (49, ev_465), (52, ev_197), (53, ev_18), (54, ev_399), (57, ev_13), (58, ev_434), (61, ev_192), (62, ev_18), (63, ev_759), (66, ev_13), (67, ev_430)]
noncomputable def zi_120_3 : ZIs := [(70, ev_197), (71, ev_18), (72, ev_13), (73, ev_434), (76, ev_192), (77, ev_18), (78, ev_22), (79, ev_299), (80, ev_13), (81, ev_465), (84, ev_197), (85, ev_316), (86, ev_18), (87, ev_7), (88, ev_192), (89, ev_277)]
noncomputable def zi_120_4 : ZIs := [(90, ev_278), (91, ev_299), (92, ev_13), (93, ev_341), (96, ev_192), (97, ev_197), (98, ev_299), (99, ev_7), (100, ev_152)]
set_option maxRecDepth 100000 in
theorem xi_w120 : zall cX4_moveTo [zi_120_0, zi_120_1, zi_120_2, zi_120_3, zi_120_4] := zall_w _ _ (by decide +kernel)
noncomputable def xi_120 (pc : Nat) : XIs := cond (Nat.blt pc 42) (cond (Nat.blt pc 22) (zx zi_120_0) (zx zi_120_1)) (cond (Nat.blt pc 70) (zx zi_120_2) (cond (Nat.blt pc 90) (zx zi_120_3) (zx zi_120_4)))
theorem xi_ok120 (pc : Nat) : xi_ok cX4_moveTo (xi_120 pc) = true := xi_c (xi_c (zq1 xi_w120) (zq1 (zq2 xi_w120))) (xi_c (zq1 (zq2 (zq2 xi_w120))) (xi_c (zq1 (zq2 (zq2 (zq2 xi_w120)))) (zq1 (zq2 (zq2 (zq2 (zq2 xi_w120)))))))
noncomputable def zi_121_0 : ZIs := [(0, ev_13), (1, ev_251), (4, ev_13), (5, ev_760), (8, ev_1), (9, ev_761), (12, ev_762), (15, ev_13), (16, ev_760), (19, ev_1), (20, ev_761), (23, ev_256), (26, ev_13), (27, ev_763), (30, ev_255), (32, ev_657)]
noncomputable def zi_121_1 : ZIs := [(35, ev_13), (36, ev_33), (37, ev_255), (39, ev_258), (42, ev_260)]
set_option maxRecDepth 100000 in
theorem xi_w121 : zall cX5_init [zi_121_0, zi_121_1] := zall_w _ _ (by decide +kernel)
noncomputable def xi_121 (pc : Nat) : XIs := cond (Nat.blt pc 35) (zx zi_121_0) (zx zi_121_1)
theorem xi_ok121 (pc : Nat) : xi_ok cX5_init (xi_121 pc) = true := xi_c (zq1 xi_w121) (zq1 (zq2 xi_w121))
noncomputable def zi_122_0 : ZIs := [(0, ev_13), (1, ev_764), (4, ev_283), (7, ev_765), (10, ev_613), (13, ev_7), (14, ev_229), (17, ev_10), (18, ev_152)]
set_option maxRecDepth 100000 in
theorem xi_w122 : zall cX5_isFull [zi_122_0] := zall_w _ _ (by decide +kernel)
noncomputable def xi_122 (pc : Nat) : XIs := zx zi_122_0
theorem xi_ok122 (pc : Nat) : xi_ok cX5_isFull (xi_122 pc) = true := zq1 xi_w122
noncomputable def zi_123_0 : ZIs := [(0, ev_13), (1, ev_764), (4, ev_192), (5, ev_208), (8, ev_766), (11, ev_13), (12, ev_764), (15, ev_197), (16, ev_208), (19, ev_767), (22, ev_198), (23, ev_768), (26, ev_769), (29, ev_12), (31, ev_770), (34, ev_771)]
noncomputable def zi_123_1 : ZIs := [(37, ev_150), (39, ev_772), (42, ev_227), (45, ev_7), (46, ev_229), (49, ev_10), (50, ev_152)]
set_option maxRecDepth 100000 in
theorem xi_w123 : zall cX5_isGoodArc [zi_123_0, zi_123_1] := zall_w _ _ (by decide +kernel)
noncomputable def xi_123 (pc : Nat) : XIs := cond (Nat.blt pc 37) (zx zi_123_0) (zx zi_123_1)
theorem xi_ok123 (pc : Nat) : xi_ok cX5_isGoodArc (xi_123 pc) = true := xi_c (zq1 xi_w123) (zq1 (zq2 xi_w123))
noncomputable def zi_124_0 : ZIs := [(0, ev_13), (1, ev_10), (2, ev_13), (3, ev_764), (6, ev_692), (9, ev_192), (10, ev_10), (11, ev_215), (14, ev_13), (15, ev_764), (18, ev_692), (21, ev_7), (22, ev_16), (23, ev_152)]
set_option maxRecDepth 100000 in
theorem xi_w124 : zall cX5_addNode [zi_124_0] := zall_w _ _ (by decide +kernel)
noncomputable def xi_124 (pc : Nat) : XIs := zx zi_124_0
theorem xi_ok124 (pc : Nat) : xi_ok cX5_addNode (xi_124 pc) = true := zq1 xi_w124
noncomputable def zi_125_0 : ZIs := [(0, ev_13), (1, ev_764), (4, ev_773), (7, ev_28), (9, ev_155), (11, ev_252), (12, ev_774), (15, ev_775), (17, ev_152), (18, ev_13), (19, ev_776), (22, ev_275), (24, ev_13), (25, ev_675), (28, ev_276), (30, ev_7)]
noncomputable def zi_125_1 : ZIs := [(31, ev_299), (32, ev_13), (33, ev_675), (36, ev_276), (38, ev_7), (39, ev_22), (40, ev_155), (42, ev_299), (43, ev_13), (44, ev_675), (47, ev_276), (49, ev_30), (50, ev_22), (51, ev_192), (52, ev_299), (53, ev_13)]
noncomputable def zi_125_2 : ZIs := [(54, ev_675), (57, ev_276), (59, ev_31), (60, ev_22), (61, ev_197), (62, ev_299), (63, ev_13), (64, ev_675), (67, ev_276), (69, ev_32), (70, ev_22), (71, ev_198), (72, ev_299), (73, ev_13), (74, ev_675), (77, ev_276)]
noncomputable def zi_125_3 : ZIs := [(79, ev_33), (80, ev_22), (81, ev_12), (83, ev_299), (84, ev_13), (85, ev_675), (88, ev_276), (90, ev_15), (92, ev_22), (93, ev_150), (95, ev_299), (96, ev_13), (97, ev_13), (98, ev_764), (101, ev_777), (104, ev_155)]
noncomputable def zi_125_4 : ZIs := [(106, ev_152)]
set_option maxRecDepth 100000 in
theorem xi_w125 : zall cX5_addArc [zi_125_0, zi_125_1, zi_125_2, zi_125_3, zi_125_4] := zall_w _ _ (by decide +kernel)
noncomputable def xi_125 (pc : Nat) : XIs := cond (Nat.blt pc 54) (cond (Nat.blt pc 31) (zx zi_125_0) (zx zi_125_1)) (cond (Nat.blt pc 79) (zx zi_125_2) (cond (Nat.blt pc 106) (zx zi_125_3) (zx zi_125_4)))
theorem xi_ok125 (pc : Nat) : xi_ok cX5_addArc (xi_125 pc) = true := xi_c (xi_c (zq1 xi_w125) (zq1 (zq2 xi_w125))) (xi_c (zq1 (zq2 (zq2 xi_w125))) (xi_c (zq1 (zq2 (zq2 (zq2 xi_w125)))) (zq1 (zq2 (zq2 (zq2 (zq2 xi_w125)))))))
noncomputable def zi_126_0 : ZIs := [(0, ev_13), (1, ev_30), (2, ev_192), (3, ev_10), (4, ev_10), (5, ev_215), (8, ev_260)]
set_option maxRecDepth 100000 in
theorem xi_w126 : zall cX5_dropArc [zi_126_0] := zall_w _ _ (by decide +kernel)
noncomputable def xi_126 (pc : Nat) : XIs := zx zi_126_0
theorem xi_ok126 (pc : Nat) : xi_ok cX5_dropArc (xi_126 pc) = true := zq1 xi_w126
noncomputable def zi_127_0 : ZIs := [(0, ev_13), (1, ev_31), (2, ev_192), (3, ev_197), (4, ev_198), (5, ev_215), (8, ev_260)]
set_option maxRecDepth 100000 in
theorem xi_w127 : zall cX5_changeArc [zi_127_0] := zall_w _ _ (by decide +kernel)
noncomputable def xi_127 (pc : Nat) : XIs := zx zi_127_0
theorem xi_ok127 (pc : Nat) : xi_ok cX5_changeArc (xi_127 pc) = true := zq1 xi_w127
noncomputable def zi_128_0 : ZIs := [(0, ev_13), (1, ev_32), (2, ev_192), (3, ev_197), (4, ev_10), (5, ev_215), (8, ev_260)]
set_option maxRecDepth 100000 in
theorem xi_w128 : zall cX5_relabel [zi_128_0] := zall_w _ _ (by decide +kernel)
noncomputable def xi_128 (pc : Nat) : XIs := zx zi_128_0
theorem xi_ok128 (pc : Nat) : xi_ok cX5_relabel (xi_128 pc) = true := zq1 xi_w128
noncomputable def zi_129_0 : ZIs := [(0, ev_13), (1, ev_776), (4, ev_25), (6, ev_13), (7, ev_675), (10, ev_150), (12, ev_192), (13, ev_299), (14, ev_13), (15, ev_675), (18, ev_150), (20, ev_7), (21, ev_22), (22, ev_197), (23, ev_299), (24, ev_13)]
noncomputable def zi_129_1 : ZIs := [(25, ev_675), (28, ev_150), (30, ev_30), (31, ev_22), (32, ev_198), (33, ev_299), (34, ev_13), (35, ev_675), (38, ev_150), (40, ev_31), (41, ev_22), (42, ev_12), (44, ev_299), (45, ev_13), (46, ev_13), (47, ev_764)]
noncomputable def zi_129_2 : ZIs := [(50, ev_777), (53, ev_260)]
set_option maxRecDepth 100000 in
theorem xi_w129 : zall cX5_note [zi_129_0, zi_129_1, zi_129_2] := zall_w _ _ (by decide +kernel)
noncomputable def xi_129 (pc : Nat) : XIs := cond (Nat.blt pc 25) (zx zi_129_0) (cond (Nat.blt pc 50) (zx zi_129_1) (zx zi_129_2))
theorem xi_ok129 (pc : Nat) : xi_ok cX5_note (xi_129 pc) = true := xi_c (zq1 xi_w129) (xi_c (zq1 (zq2 xi_w129)) (zq1 (zq2 (zq2 xi_w129))))
noncomputable def zi_130_0 : ZIs := [(0, ev_13), (1, ev_764), (4, ev_283), (7, ev_468), (9, ev_355), (10, ev_685), (11, ev_192), (12, ev_468), (14, ev_22), (15, ev_13), (16, ev_675), (19, ev_14), (20, ev_778), (23, ev_13), (24, ev_13), (25, ev_675)]
noncomputable def zi_130_1 : ZIs := [(28, ev_192), (29, ev_468), (31, ev_22), (32, ev_30), (33, ev_13), (34, ev_675), (37, ev_14), (38, ev_355), (39, ev_779), (42, ev_780), (45, ev_781), (48, ev_782), (51, ev_657), (54, ev_192), (55, ev_152)]
set_option maxRecDepth 100000 in
theorem xi_w130 : zall cX5_openRow [zi_130_0, zi_130_1] := zall_w _ _ (by decide +kernel)
noncomputable def xi_130 (pc : Nat) : XIs := cond (Nat.blt pc 28) (zx zi_130_0) (zx zi_130_1)
theorem xi_ok130 (pc : Nat) : xi_ok cX5_openRow (xi_130 pc) = true := xi_c (zq1 xi_w130) (zq1 (zq2 xi_w130))
noncomputable def zi_131_0 : ZIs := [(0, ev_21), (1, ev_283), (4, ev_468), (6, ev_355), (7, ev_294), (8, ev_13), (9, ev_675), (12, ev_197), (13, ev_7), (14, ev_22), (15, ev_18), (16, ev_295), (17, ev_21), (18, ev_1), (19, ev_283), (22, ev_7)]
noncomputable def zi_131_1 : ZIs := [(23, ev_22), (24, ev_259), (27, ev_13), (28, ev_675), (31, ev_197), (32, ev_18)]
noncomputable def xi_131_2 : XIs := [(33, .tableswitch 101 0 3 #[31, 58, 68, 76], 31)]
set_option maxRecDepth 100000 in
theorem xi_ok131_2 : xi_ok cX5_apply xi_131_2 = true := by decide +kernel
noncomputable def zi_131_3 : ZIs := [(64, ev_21), (65, ev_717), (68, ev_198), (69, ev_13), (70, ev_675), (73, ev_197), (74, ev_30), (75, ev_22), (76, ev_18), (77, ev_299), (78, ev_21), (79, ev_1), (80, ev_692), (83, ev_7), (84, ev_22), (85, ev_664)]
noncomputable def zi_131_4 : ZIs := [(88, ev_783), (91, ev_13), (92, ev_21), (93, ev_197), (94, ev_198), (95, ev_784), (98, ev_785), (101, ev_21), (102, ev_198), (103, ev_786), (106, ev_787), (109, ev_13), (110, ev_21), (111, ev_198), (112, ev_13), (113, ev_675)]
noncomputable def zi_131_5 : ZIs := [(116, ev_197), (117, ev_30), (118, ev_22), (119, ev_18), (120, ev_13), (121, ev_675), (124, ev_197), (125, ev_31), (126, ev_22), (127, ev_18), (128, ev_234), (131, ev_788), (134, ev_21), (135, ev_717), (138, ev_198), (139, ev_13)]
noncomputable def zi_131_6 : ZIs := [(140, ev_675), (143, ev_197), (144, ev_30), (145, ev_22), (146, ev_18), (147, ev_299), (148, ev_260)]
set_option maxRecDepth 100000 in
theorem xi_w131 : zall cX5_apply [zi_131_0, zi_131_1, zi_131_3, zi_131_4, zi_131_5, zi_131_6] := zall_w _ _ (by decide +kernel)
noncomputable def xi_131 (pc : Nat) : XIs := cond (Nat.blt pc 64) (cond (Nat.blt pc 23) (zx zi_131_0) (cond (Nat.blt pc 33) (zx zi_131_1) (xi_131_2))) (cond (Nat.blt pc 116) (cond (Nat.blt pc 88) (zx zi_131_3) (zx zi_131_4)) (cond (Nat.blt pc 140) (zx zi_131_5) (zx zi_131_6)))
theorem xi_ok131 (pc : Nat) : xi_ok cX5_apply (xi_131 pc) = true := xi_c (xi_c (zq1 xi_w131) (xi_c (zq1 (zq2 xi_w131)) (xi_ok131_2))) (xi_c (xi_c (zq1 (zq2 (zq2 xi_w131))) (zq1 (zq2 (zq2 (zq2 xi_w131))))) (xi_c (zq1 (zq2 (zq2 (zq2 (zq2 xi_w131))))) (zq1 (zq2 (zq2 (zq2 (zq2 (zq2 xi_w131))))))))
noncomputable def zi_132_0 : ZIs := [(0, ev_21), (1, ev_789), (4, ev_198), (5, ev_13), (6, ev_675), (9, ev_197), (10, ev_30), (11, ev_22), (12, ev_18), (13, ev_299), (14, ev_21), (15, ev_790), (18, ev_198), (19, ev_13), (20, ev_675), (23, ev_197)]
noncomputable def zi_132_1 : ZIs := [(24, ev_31), (25, ev_22), (26, ev_18), (27, ev_299), (28, ev_21), (29, ev_791), (32, ev_198), (33, ev_13), (34, ev_675), (37, ev_197), (38, ev_32), (39, ev_22), (40, ev_18), (41, ev_299), (42, ev_21), (43, ev_729)]
noncomputable def zi_132_2 : ZIs := [(46, ev_198), (47, ev_13), (48, ev_675), (51, ev_197), (52, ev_33), (53, ev_22), (54, ev_18), (55, ev_299), (56, ev_21), (57, ev_792), (60, ev_198), (61, ev_13), (62, ev_675), (65, ev_197), (66, ev_15), (68, ev_22)]
noncomputable def zi_132_3 : ZIs := [(69, ev_18), (70, ev_299), (71, ev_21), (72, ev_1), (73, ev_793), (76, ev_7), (77, ev_22), (78, ev_794), (81, ev_21), (82, ev_21), (83, ev_795), (86, ev_198), (87, ev_7), (88, ev_22), (89, ev_781), (92, ev_796)]
noncomputable def zi_132_4 : ZIs := [(95, ev_260)]
set_option maxRecDepth 100000 in
theorem xi_w132 : zall cX5_applyArc [zi_132_0, zi_132_1, zi_132_2, zi_132_3, zi_132_4] := zall_w _ _ (by decide +kernel)
noncomputable def xi_132 (pc : Nat) : XIs := cond (Nat.blt pc 46) (cond (Nat.blt pc 24) (zx zi_132_0) (zx zi_132_1)) (cond (Nat.blt pc 69) (zx zi_132_2) (cond (Nat.blt pc 95) (zx zi_132_3) (zx zi_132_4)))
theorem xi_ok132 (pc : Nat) : xi_ok cX5_applyArc (xi_132 pc) = true := xi_c (xi_c (zq1 xi_w132) (zq1 (zq2 xi_w132))) (xi_c (zq1 (zq2 (zq2 xi_w132))) (xi_c (zq1 (zq2 (zq2 (zq2 xi_w132)))) (zq1 (zq2 (zq2 (zq2 (zq2 xi_w132)))))))
noncomputable def zi_133_0 : ZIs := [(0, ev_198), (1, ev_390), (4, ev_21), (5, ev_791), (8, ev_197), (9, ev_12), (11, ev_299), (12, ev_797), (15, ev_198), (16, ev_7), (17, ev_798), (20, ev_21), (21, ev_729), (24, ev_197), (25, ev_12), (27, ev_299)]
noncomputable def zi_133_1 : ZIs := [(28, ev_200), (31, ev_21), (32, ev_792), (35, ev_197), (36, ev_12), (38, ev_299), (39, ev_260)]
set_option maxRecDepth 100000 in
theorem xi_w133 : zall cX5_applyValue [zi_133_0, zi_133_1] := zall_w _ _ (by decide +kernel)
noncomputable def xi_133 (pc : Nat) : XIs := cond (Nat.blt pc 28) (zx zi_133_0) (zx zi_133_1)
theorem xi_ok133 (pc : Nat) : xi_ok cX5_applyValue (xi_133 pc) = true := xi_c (zq1 xi_w133) (zq1 (zq2 xi_w133))
noncomputable def zi_134_0 : ZIs := [(0, ev_197), (1, ev_21), (2, ev_283), (5, ev_656), (8, ev_21), (9, ev_799), (12, ev_21), (13, ev_283), (16, ev_295), (17, ev_198), (18, ev_197), (19, ev_800), (22, ev_13), (23, ev_21), (24, ev_777), (27, ev_300)]
noncomputable def zi_134_1 : ZIs := [(30, ev_801), (33, ev_260)]
set_option maxRecDepth 100000 in
theorem xi_w134 : zall cX5_replay [zi_134_0, zi_134_1] := zall_w _ _ (by decide +kernel)
noncomputable def xi_134 (pc : Nat) : XIs := cond (Nat.blt pc 30) (zx zi_134_0) (zx zi_134_1)
theorem xi_ok134 (pc : Nat) : xi_ok cX5_replay (xi_134 pc) = true := xi_c (zq1 xi_w134) (zq1 (zq2 xi_w134))
noncomputable def zi_135_0 : ZIs := [(0, ev_13), (1, ev_287), (4, ev_13), (5, ev_764), (8, ev_802), (11, ev_21), (12, ev_243), (15, ev_10), (16, ev_294), (17, ev_197), (18, ev_803), (21, ev_804), (24, ev_21), (25, ev_468), (27, ev_7), (28, ev_805)]
noncomputable def zi_135_1 : ZIs := [(31, ev_21), (32, ev_806), (35, ev_378), (38, ev_197), (39, ev_152), (40, ev_13), (41, ev_21), (42, ev_248), (45, ev_807), (48, ev_13), (49, ev_764), (52, ev_13), (53, ev_287), (56, ev_802), (59, ev_808), (61, ev_152)]
noncomputable def zi_135_2 : ZIs := [(62, ev_304), (65, ev_570), (68, ev_808), (70, ev_152)]
set_option maxRecDepth 100000 in
theorem xi_w135 : zall cX5_carryOut [zi_135_0, zi_135_1, zi_135_2] := zall_w _ _ (by decide +kernel)
noncomputable def xi_135 (pc : Nat) : XIs := cond (Nat.blt pc 31) (zx zi_135_0) (cond (Nat.blt pc 62) (zx zi_135_1) (zx zi_135_2))
theorem xi_ok135 (pc : Nat) : xi_ok cX5_carryOut (xi_135 pc) = true := xi_c (zq1 xi_w135) (xi_c (zq1 (zq2 xi_w135)) (zq1 (zq2 (zq2 xi_w135))))
noncomputable def zi_136_0 : ZIs := [(0, ev_21), (1, ev_809), (4, ev_294), (5, ev_21), (6, ev_806), (9, ev_7), (10, ev_810), (13, ev_21), (14, ev_811), (17, ev_229), (20, ev_252), (21, ev_295), (22, ev_198), (23, ev_812), (26, ev_207), (28, ev_203)]
noncomputable def zi_136_1 : ZIs := [(30, ev_813), (33, ev_385), (36, ev_21), (37, ev_30), (38, ev_31), (39, ev_814), (42, ev_152), (43, ev_10), (44, ev_25), (46, ev_150), (48, ev_203), (50, ev_607), (53, ev_815), (56, ev_150), (58, ev_13), (59, ev_341)]
noncomputable def zi_136_2 : ZIs := [(62, ev_14), (63, ev_816), (66, ev_21), (67, ev_468), (69, ev_7), (70, ev_805), (73, ev_203), (75, ev_150), (77, ev_609), (80, ev_817), (82, ev_818), (85, ev_7), (86, ev_229), (89, ev_30), (90, ev_28), (92, ev_21)]
noncomputable def zi_136_3 : ZIs := [(93, ev_806), (96, ev_155), (98, ev_819), (101, ev_21), (102, ev_30), (103, ev_31), (104, ev_814), (107, ev_152), (108, ev_13), (109, ev_341), (112, ev_150), (114, ev_21), (115, ev_811), (118, ev_299), (119, ev_343), (122, ev_820)]
noncomputable def zi_136_4 : ZIs := [(125, ev_21), (126, ev_468), (128, ev_7), (129, ev_805), (132, ev_21), (133, ev_379), (135, ev_821), (138, ev_381), (141, ev_21), (142, ev_30), (143, ev_31), (144, ev_814), (147, ev_152), (148, ev_13), (149, ev_198), (150, ev_44)]
noncomputable def zi_136_5 : ZIs := [(153, ev_399), (156, ev_21), (157, ev_32), (158, ev_197), (159, ev_47), (162, ev_227), (165, ev_7), (166, ev_229), (169, ev_10), (170, ev_152)]
set_option maxRecDepth 100000 in
theorem xi_w136 : zall cX5_readCommand [zi_136_0, zi_136_1, zi_136_2, zi_136_3, zi_136_4, zi_136_5] := zall_w _ _ (by decide +kernel)
noncomputable def xi_136 (pc : Nat) : XIs := cond (Nat.blt pc 93) (cond (Nat.blt pc 30) (zx zi_136_0) (cond (Nat.blt pc 62) (zx zi_136_1) (zx zi_136_2))) (cond (Nat.blt pc 125) (zx zi_136_3) (cond (Nat.blt pc 153) (zx zi_136_4) (zx zi_136_5)))
theorem xi_ok136 (pc : Nat) : xi_ok cX5_readCommand (xi_136 pc) = true := xi_c (xi_c (zq1 xi_w136) (xi_c (zq1 (zq2 xi_w136)) (zq1 (zq2 (zq2 xi_w136))))) (xi_c (zq1 (zq2 (zq2 (zq2 xi_w136)))) (xi_c (zq1 (zq2 (zq2 (zq2 (zq2 xi_w136))))) (zq1 (zq2 (zq2 (zq2 (zq2 (zq2 xi_w136))))))))
noncomputable def zi_137_0 : ZIs := [(0, ev_482)]
noncomputable def xi_137_1 : XIs := [(1, .lookupswitch 55 #[(0, 46), (13, 43), (19, 49), (22, 52)], 43)]
set_option maxRecDepth 100000 in
theorem xi_ok137_1 : xi_ok cX5_shapeOf xi_137_1 = true := by decide +kernel
noncomputable def zi_137_2 : ZIs := [(44, ev_822), (46, ev_823), (47, ev_824), (49, ev_823), (50, ev_825), (52, ev_823), (53, ev_826), (55, ev_823), (56, ev_827), (58, ev_823)]
set_option maxRecDepth 100000 in
theorem xi_w137 : zall cX5_shapeOf [zi_137_0, zi_137_2] := zall_w _ _ (by decide +kernel)
noncomputable def xi_137 (pc : Nat) : XIs := cond (Nat.blt pc 1) (zx zi_137_0) (cond (Nat.blt pc 44) (xi_137_1) (zx zi_137_2))
theorem xi_ok137 (pc : Nat) : xi_ok cX5_shapeOf (xi_137 pc) = true := xi_c (zq1 xi_w137) (xi_c (xi_ok137_1) (zq1 (zq2 xi_w137)))
noncomputable def zi_138_0 : ZIs := [(0, ev_13), (1, ev_828), (4, ev_158), (7, ev_10), (8, ev_152), (9, ev_192), (10, ev_655), (12, ev_829), (15, ev_13), (16, ev_764), (19, ev_692), (22, ev_176), (24, ev_686), (27, ev_13), (28, ev_13), (29, ev_341)]
noncomputable def zi_138_1 : ZIs := [(32, ev_10), (33, ev_18), (34, ev_830), (37, ev_831), (40, ev_7), (41, ev_229), (44, ev_10), (45, ev_152), (46, ev_192), (47, ev_832), (50, ev_13), (51, ev_13), (52, ev_341), (55, ev_10), (56, ev_18), (57, ev_13)]
noncomputable def zi_138_2 : ZIs := [(58, ev_341), (61, ev_7), (62, ev_18), (63, ev_13), (64, ev_341), (67, ev_30), (68, ev_18), (69, ev_13), (70, ev_341), (73, ev_31), (74, ev_18), (75, ev_13), (76, ev_341), (79, ev_32), (80, ev_18), (81, ev_67)]
noncomputable def zi_138_3 : ZIs := [(84, ev_833), (87, ev_13), (88, ev_13), (89, ev_341), (92, ev_10), (93, ev_18), (94, ev_13), (95, ev_341), (98, ev_7), (99, ev_18), (100, ev_13), (101, ev_341), (104, ev_30), (105, ev_18), (106, ev_13), (107, ev_341)]
noncomputable def zi_138_4 : ZIs := [(110, ev_31), (111, ev_18), (112, ev_13), (113, ev_341), (116, ev_32), (117, ev_18), (118, ev_70), (121, ev_775), (123, ev_681), (126, ev_7), (127, ev_229), (130, ev_10), (131, ev_152), (132, ev_13), (133, ev_764), (136, ev_13)]
noncomputable def zi_138_5 : ZIs := [(137, ev_341), (140, ev_10), (141, ev_18), (142, ev_73), (145, ev_378), (148, ev_10), (149, ev_152), (150, ev_192), (151, ev_834), (153, ev_727), (156, ev_13), (157, ev_13), (158, ev_341), (161, ev_10), (162, ev_18), (163, ev_76)]
noncomputable def zi_138_6 : ZIs := [(166, ev_7), (167, ev_152), (168, ev_13), (169, ev_341), (172, ev_7), (173, ev_18), (174, ev_768), (177, ev_378), (180, ev_10), (181, ev_152), (182, ev_13), (183, ev_13), (184, ev_341), (187, ev_10), (188, ev_18), (189, ev_10)]
noncomputable def zi_138_7 : ZIs := [(190, ev_13), (191, ev_341), (194, ev_7), (195, ev_18), (196, ev_835), (199, ev_7), (200, ev_152)]
set_option maxRecDepth 100000 in
theorem xi_w138 : zall cX5_doCommand [zi_138_0, zi_138_1, zi_138_2, zi_138_3, zi_138_4, zi_138_5, zi_138_6, zi_138_7] := zall_w _ _ (by decide +kernel)
noncomputable def xi_138 (pc : Nat) : XIs := cond (Nat.blt pc 110) (cond (Nat.blt pc 58) (cond (Nat.blt pc 32) (zx zi_138_0) (zx zi_138_1)) (cond (Nat.blt pc 84) (zx zi_138_2) (zx zi_138_3))) (cond (Nat.blt pc 166) (cond (Nat.blt pc 137) (zx zi_138_4) (zx zi_138_5)) (cond (Nat.blt pc 190) (zx zi_138_6) (zx zi_138_7)))
theorem xi_ok138 (pc : Nat) : xi_ok cX5_doCommand (xi_138 pc) = true := xi_c (xi_c (xi_c (zq1 xi_w138) (zq1 (zq2 xi_w138))) (xi_c (zq1 (zq2 (zq2 xi_w138))) (zq1 (zq2 (zq2 (zq2 xi_w138)))))) (xi_c (xi_c (zq1 (zq2 (zq2 (zq2 (zq2 xi_w138))))) (zq1 (zq2 (zq2 (zq2 (zq2 (zq2 xi_w138))))))) (xi_c (zq1 (zq2 (zq2 (zq2 (zq2 (zq2 (zq2 xi_w138))))))) (zq1 (zq2 (zq2 (zq2 (zq2 (zq2 (zq2 (zq2 xi_w138))))))))))
noncomputable def zi_139_0 : ZIs := [(0, ev_13), (1, ev_251), (4, ev_13), (5, ev_252), (6, ev_253), (9, ev_13), (10, ev_176), (12, ev_255), (14, ev_254), (17, ev_13), (18, ev_252), (19, ev_368), (22, ev_13), (23, ev_176), (25, ev_255), (27, ev_257)]
noncomputable def zi_139_1 : ZIs := [(30, ev_13), (31, ev_176), (33, ev_255), (35, ev_258), (38, ev_260)]
set_option maxRecDepth 100000 in
theorem xi_w139 : zall cX6_init [zi_139_0, zi_139_1] := zall_w _ _ (by decide +kernel)
noncomputable def xi_139 (pc : Nat) : XIs := cond (Nat.blt pc 30) (zx zi_139_0) (zx zi_139_1)
theorem xi_ok139 (pc : Nat) : xi_ok cX6_init (xi_139 pc) = true := xi_c (zq1 xi_w139) (zq1 (zq2 xi_w139))
noncomputable def zi_140_0 : ZIs := [(0, ev_21), (1, ev_206), (4, ev_21), (5, ev_696), (8, ev_7), (9, ev_197), (10, ev_277), (11, ev_252), (12, ev_768), (15, ev_21), (16, ev_575), (19, ev_7), (20, ev_197), (21, ev_277), (22, ev_252), (23, ev_768)]
noncomputable def zi_140_1 : ZIs := [(26, ev_20), (27, ev_836), (30, ev_152)]
set_option maxRecDepth 100000 in
theorem xi_w140 : zall cX6_strongPart [zi_140_0, zi_140_1] := zall_w _ _ (by decide +kernel)
noncomputable def xi_140 (pc : Nat) : XIs := cond (Nat.blt pc 26) (zx zi_140_0) (zx zi_140_1)
theorem xi_ok140 (pc : Nat) : xi_ok cX6_strongPart (xi_140 pc) = true := xi_c (zq1 xi_w140) (zq1 (zq2 xi_w140))
noncomputable def zi_141_0 : ZIs := [(0, ev_21), (1, ev_206), (4, ev_21), (5, ev_640), (8, ev_7), (9, ev_197), (10, ev_277), (11, ev_252), (12, ev_768), (15, ev_836), (18, ev_152)]
set_option maxRecDepth 100000 in
theorem xi_w141 : zall cX6_weakPart [zi_141_0] := zall_w _ _ (by decide +kernel)
noncomputable def xi_141 (pc : Nat) : XIs := zx zi_141_0
theorem xi_ok141 (pc : Nat) : xi_ok cX6_weakPart (xi_141 pc) = true := zq1 xi_w141
noncomputable def zi_142_0 : ZIs := [(0, ev_21), (1, ev_197), (2, ev_837), (5, ev_378), (8, ev_10), (9, ev_152), (10, ev_21), (11, ev_838), (14, ev_197), (15, ev_18), (16, ev_295), (17, ev_21), (18, ev_839), (21, ev_197), (22, ev_18), (23, ev_11)]
noncomputable def zi_142_1 : ZIs := [(25, ev_10), (26, ev_25), (28, ev_150), (30, ev_21), (31, ev_840), (34, ev_815), (37, ev_150), (39, ev_197), (40, ev_841), (43, ev_21), (44, ev_150), (46, ev_837), (49, ev_842), (52, ev_21), (53, ev_838), (56, ev_150)]
noncomputable def zi_142_2 : ZIs := [(58, ev_18), (59, ev_198), (60, ev_727), (63, ev_21), (64, ev_839), (67, ev_150), (69, ev_18), (70, ev_12), (72, ev_843), (75, ev_21), (76, ev_838), (79, ev_150), (81, ev_18), (82, ev_12), (84, ev_538), (87, ev_21)]
noncomputable def zi_142_3 : ZIs := [(88, ev_839), (91, ev_150), (93, ev_18), (94, ev_198), (95, ev_691), (98, ev_10), (99, ev_152), (100, ev_343), (103, ev_844), (106, ev_21), (107, ev_206), (110, ev_21), (111, ev_640), (114, ev_21), (115, ev_640), (118, ev_198)]
noncomputable def zi_142_4 : ZIs := [(119, ev_18), (120, ev_7), (121, ev_12), (123, ev_277), (124, ev_252), (125, ev_317), (126, ev_20), (127, ev_7), (128, ev_198), (129, ev_277), (130, ev_252), (131, ev_317), (132, ev_768), (135, ev_25), (137, ev_150), (139, ev_12)]
noncomputable def zi_142_5 : ZIs := [(141, ev_303), (142, ev_7), (143, ev_20), (144, ev_326), (147, ev_7), (148, ev_229), (151, ev_10), (152, ev_152)]
set_option maxRecDepth 100000 in
theorem xi_w142 : zall cX6_isBridge [zi_142_0, zi_142_1, zi_142_2, zi_142_3, zi_142_4, zi_142_5] := zall_w _ _ (by decide +kernel)
noncomputable def xi_142 (pc : Nat) : XIs := cond (Nat.blt pc 88) (cond (Nat.blt pc 25) (zx zi_142_0) (cond (Nat.blt pc 58) (zx zi_142_1) (zx zi_142_2))) (cond (Nat.blt pc 119) (zx zi_142_3) (cond (Nat.blt pc 141) (zx zi_142_4) (zx zi_142_5)))
theorem xi_ok142 (pc : Nat) : xi_ok cX6_isBridge (xi_142 pc) = true := xi_c (xi_c (zq1 xi_w142) (xi_c (zq1 (zq2 xi_w142)) (zq1 (zq2 (zq2 xi_w142))))) (xi_c (zq1 (zq2 (zq2 (zq2 xi_w142)))) (xi_c (zq1 (zq2 (zq2 (zq2 (zq2 xi_w142))))) (zq1 (zq2 (zq2 (zq2 (zq2 (zq2 xi_w142))))))))
noncomputable def zi_143_0 : ZIs := [(0, ev_21), (1, ev_206), (4, ev_21), (5, ev_640), (8, ev_197), (9, ev_18), (10, ev_295), (11, ev_21), (12, ev_640), (15, ev_198), (16, ev_198), (17, ev_310), (18, ev_20), (19, ev_7), (20, ev_197), (21, ev_277)]
noncomputable def zi_143_1 : ZIs := [(22, ev_252), (23, ev_317), (24, ev_768), (27, ev_11), (29, ev_198), (30, ev_12), (32, ev_252), (33, ev_317), (34, ev_20), (35, ev_227), (38, ev_7), (39, ev_229), (42, ev_10), (43, ev_152)]
set_option maxRecDepth 100000 in
theorem xi_w143 : zall cX6_isCut [zi_143_0, zi_143_1] := zall_w _ _ (by decide +kernel)
noncomputable def xi_143 (pc : Nat) : XIs := cond (Nat.blt pc 22) (zx zi_143_0) (zx zi_143_1)
theorem xi_ok143 (pc : Nat) : xi_ok cX6_isCut (xi_143 pc) = true := xi_c (zq1 xi_w143) (zq1 (zq2 xi_w143))
noncomputable def zi_144_0 : ZIs := [(0, ev_13), (1, ev_261), (4, ev_21), (5, ev_845), (8, ev_281), (11, ev_13), (12, ev_21), (13, ev_845), (16, ev_253), (19, ev_13), (20, ev_21), (21, ev_221), (24, ev_197), (25, ev_13), (26, ev_673), (29, ev_846)]
noncomputable def zi_144_1 : ZIs := [(32, ev_13), (33, ev_280), (36, ev_197), (37, ev_18), (38, ev_229), (41, ev_252), (42, ev_152)]
set_option maxRecDepth 100000 in
theorem xi_w144 : zall cX6_ordered [zi_144_0, zi_144_1] := zall_w _ _ (by decide +kernel)
noncomputable def xi_144 (pc : Nat) : XIs := cond (Nat.blt pc 32) (zx zi_144_0) (zx zi_144_1)
theorem xi_ok144 (pc : Nat) : xi_ok cX6_ordered (xi_144 pc) = true := xi_c (zq1 xi_w144) (zq1 (zq2 xi_w144))
noncomputable def zi_145_0 : ZIs := [(0, ev_21), (1, ev_206), (4, ev_21), (5, ev_225), (8, ev_294), (9, ev_10), (10, ev_295), (11, ev_198), (12, ev_21), (13, ev_847), (16, ev_848), (19, ev_21), (20, ev_197), (21, ev_849), (24, ev_11), (26, ev_12)]
noncomputable def zi_145_1 : ZIs := [(28, ev_252), (29, ev_410), (32, ev_13), (33, ev_10), (34, ev_670), (37, ev_260), (38, ev_13), (39, ev_280), (42, ev_198), (43, ev_12), (45, ev_299), (46, ev_197), (47, ev_7), (48, ev_12), (50, ev_277), (51, ev_252)]
noncomputable def zi_145_2 : ZIs := [(52, ev_317), (53, ev_20), (54, ev_294), (55, ev_300), (58, ev_850), (61, ev_13), (62, ev_21), (63, ev_847), (66, ev_670), (69, ev_260)]
set_option maxRecDepth 100000 in
theorem xi_w145 : zall cX6_makeOrder [zi_145_0, zi_145_1, zi_145_2] := zall_w _ _ (by decide +kernel)
noncomputable def xi_145 (pc : Nat) : XIs := cond (Nat.blt pc 28) (zx zi_145_0) (cond (Nat.blt pc 52) (zx zi_145_1) (zx zi_145_2))
theorem xi_ok145 (pc : Nat) : xi_ok cX6_makeOrder (xi_145 pc) = true := xi_c (zq1 xi_w145) (xi_c (zq1 (zq2 xi_w145)) (zq1 (zq2 (zq2 xi_w145))))
noncomputable def zi_146_0 : ZIs := [(0, ev_192), (1, ev_294), (2, ev_197), (3, ev_851), (6, ev_13), (7, ev_575), (10, ev_197), (11, ev_836), (14, ev_18), (15, ev_192), (16, ev_20), (17, ev_852), (20, ev_197), (21, ev_836), (24, ev_152), (25, ev_197)]
noncomputable def zi_146_1 : ZIs := [(26, ev_197), (27, ev_7), (28, ev_16), (29, ev_20), (30, ev_294), (31, ev_853), (34, ev_252), (35, ev_152)]
set_option maxRecDepth 100000 in
theorem xi_w146 : zall cX6_firstFree [zi_146_0, zi_146_1] := zall_w _ _ (by decide +kernel)
noncomputable def xi_146 (pc : Nat) : XIs := cond (Nat.blt pc 26) (zx zi_146_0) (zx zi_146_1)
theorem xi_ok146 (pc : Nat) : xi_ok cX6_firstFree (xi_146 pc) = true := xi_c (zq1 xi_w146) (zq1 (zq2 xi_w146))
noncomputable def zi_147_0 : ZIs := [(0, ev_13), (1, ev_440), (4, ev_21), (5, ev_845), (8, ev_281), (11, ev_13), (12, ev_21), (13, ev_845), (16, ev_368), (19, ev_13), (20, ev_21), (21, ev_395), (24, ev_13), (25, ev_362), (28, ev_197), (29, ev_18)]
noncomputable def zi_147_1 : ZIs := [(30, ev_152)]
set_option maxRecDepth 100000 in
theorem xi_w147 : zall cX6_coreOf [zi_147_0, zi_147_1] := zall_w _ _ (by decide +kernel)
noncomputable def xi_147 (pc : Nat) : XIs := cond (Nat.blt pc 30) (zx zi_147_0) (zx zi_147_1)
theorem xi_ok147 (pc : Nat) : xi_ok cX6_coreOf (xi_147 pc) = true := xi_c (zq1 xi_w147) (zq1 (zq2 xi_w147))
noncomputable def zi_148_0 : ZIs := [(0, ev_21), (1, ev_206), (4, ev_21), (5, ev_225), (8, ev_294), (9, ev_10), (10, ev_295), (11, ev_21), (12, ev_13), (13, ev_341), (16, ev_396), (19, ev_10), (20, ev_11), (22, ev_12), (24, ev_21), (25, ev_847)]
noncomputable def zi_148_1 : ZIs := [(28, ev_854), (31, ev_13), (32, ev_197), (33, ev_855), (36, ev_25), (38, ev_198), (39, ev_13), (40, ev_341), (43, ev_150), (45, ev_18), (46, ev_856), (49, ev_295), (50, ev_13), (51, ev_362), (54, ev_150), (56, ev_198)]
noncomputable def zi_148_2 : ZIs := [(57, ev_299), (58, ev_197), (59, ev_7), (60, ev_150), (62, ev_277), (63, ev_252), (64, ev_317), (65, ev_20), (66, ev_294), (67, ev_13), (68, ev_21), (69, ev_150), (71, ev_857), (74, ev_348), (77, ev_858), (80, ev_260)]
set_option maxRecDepth 100000 in
theorem xi_w148 : zall cX6_peel [zi_148_0, zi_148_1, zi_148_2] := zall_w _ _ (by decide +kernel)
noncomputable def xi_148 (pc : Nat) : XIs := cond (Nat.blt pc 28) (zx zi_148_0) (cond (Nat.blt pc 57) (zx zi_148_1) (zx zi_148_2))
theorem xi_ok148 (pc : Nat) : xi_ok cX6_peel (xi_148 pc) = true := xi_c (zq1 xi_w148) (xi_c (zq1 (zq2 xi_w148)) (zq1 (zq2 (zq2 xi_w148))))
noncomputable def zi_149_0 : ZIs := [(0, ev_192), (1, ev_836), (4, ev_294), (5, ev_192), (6, ev_295), (7, ev_198), (8, ev_859), (11, ev_13), (12, ev_341), (15, ev_198), (16, ev_836), (19, ev_18), (20, ev_13), (21, ev_341), (24, ev_197), (25, ev_18)]
noncomputable def zi_149_1 : ZIs := [(26, ev_860), (29, ev_198), (30, ev_836), (33, ev_294), (34, ev_198), (35, ev_198), (36, ev_7), (37, ev_16), (38, ev_20), (39, ev_295), (40, ev_861), (43, ev_197), (44, ev_152)]
set_option maxRecDepth 100000 in
theorem xi_w149 : zall cX6_loosest [zi_149_0, zi_149_1] := zall_w _ _ (by decide +kernel)
noncomputable def xi_149 (pc : Nat) : XIs := cond (Nat.blt pc 26) (zx zi_149_0) (zx zi_149_1)
theorem xi_ok149 (pc : Nat) : xi_ok cX6_loosest (xi_149 pc) = true := xi_c (zq1 xi_w149) (zq1 (zq2 xi_w149))
noncomputable def zi_150_0 : ZIs := [(0, ev_21), (1, ev_862), (4, ev_197), (5, ev_18), (6, ev_295), (7, ev_198), (8, ev_21), (9, ev_862), (12, ev_197), (13, ev_7), (14, ev_22), (15, ev_18), (16, ev_863), (19, ev_13), (20, ev_341), (23, ev_21)]
noncomputable def zi_150_1 : ZIs := [(24, ev_839), (27, ev_21), (28, ev_864), (31, ev_198), (32, ev_18), (33, ev_18), (34, ev_316), (35, ev_18), (36, ev_7), (37, ev_16), (38, ev_299), (39, ev_300), (42, ev_293), (45, ev_21), (46, ev_865), (49, ev_197)]
noncomputable def zi_150_2 : ZIs := [(50, ev_18), (51, ev_295), (52, ev_198), (53, ev_21), (54, ev_865), (57, ev_197), (58, ev_7), (59, ev_22), (60, ev_18), (61, ev_863), (64, ev_13), (65, ev_341), (68, ev_21), (69, ev_838), (72, ev_21), (73, ev_866)]
noncomputable def zi_150_3 : ZIs := [(76, ev_198), (77, ev_18), (78, ev_18), (79, ev_316), (80, ev_18), (81, ev_7), (82, ev_16), (83, ev_299), (84, ev_300), (87, ev_293), (90, ev_260)]
set_option maxRecDepth 100000 in
theorem xi_w150 : zall cX6_loosen [zi_150_0, zi_150_1, zi_150_2, zi_150_3] := zall_w _ _ (by decide +kernel)
noncomputable def xi_150 (pc : Nat) : XIs := cond (Nat.blt pc 50) (cond (Nat.blt pc 24) (zx zi_150_0) (zx zi_150_1)) (cond (Nat.blt pc 76) (zx zi_150_2) (zx zi_150_3))
theorem xi_ok150 (pc : Nat) : xi_ok cX6_loosen (xi_150 pc) = true := xi_c (xi_c (zq1 xi_w150) (zq1 (zq2 xi_w150))) (xi_c (zq1 (zq2 (zq2 xi_w150))) (zq1 (zq2 (zq2 (zq2 xi_w150)))))
noncomputable def zi_151_0 : ZIs := [(0, ev_21), (1, ev_206), (4, ev_230), (5, ev_517), (6, ev_10), (7, ev_11), (9, ev_12), (11, ev_21), (12, ev_847), (15, ev_615), (18, ev_21), (19, ev_640), (22, ev_12), (24, ev_18), (25, ev_25), (27, ev_150)]
noncomputable def zi_151_1 : ZIs := [(29, ev_867), (32, ev_489), (33, ev_21), (34, ev_640), (37, ev_12), (39, ev_18), (40, ev_21), (41, ev_640), (44, ev_150), (46, ev_836), (49, ev_18), (50, ev_20), (51, ev_868), (54, ev_156), (55, ev_457), (56, ev_517)]
noncomputable def zi_151_2 : ZIs := [(57, ev_150), (59, ev_150), (61, ev_7), (62, ev_16), (63, ev_20), (64, ev_25), (66, ev_719), (69, ev_348), (72, ev_869), (75, ev_489), (76, ev_870), (79, ev_490), (80, ev_481)]
set_option maxRecDepth 100000 in
theorem xi_w151 : zall cX6_triangles [zi_151_0, zi_151_1, zi_151_2] := zall_w _ _ (by decide +kernel)
noncomputable def xi_151 (pc : Nat) : XIs := cond (Nat.blt pc 29) (zx zi_151_0) (cond (Nat.blt pc 57) (zx zi_151_1) (zx zi_151_2))
theorem xi_ok151 (pc : Nat) : xi_ok cX6_triangles (xi_151 pc) = true := xi_c (zq1 xi_w151) (xi_c (zq1 (zq2 xi_w151)) (zq1 (zq2 (zq2 xi_w151))))
noncomputable def zi_152_0 : ZIs := [(0, ev_21), (1, ev_206), (4, ev_230), (5, ev_517), (6, ev_10), (7, ev_11), (9, ev_12), (11, ev_21), (12, ev_847), (15, ev_871), (18, ev_12), (20, ev_7), (21, ev_22), (22, ev_25), (24, ev_150), (26, ev_21)]
noncomputable def zi_152_1 : ZIs := [(27, ev_847), (30, ev_511), (33, ev_21), (34, ev_640), (37, ev_12), (39, ev_18), (40, ev_21), (41, ev_640), (44, ev_150), (46, ev_18), (47, ev_20), (48, ev_868), (51, ev_28), (53, ev_489), (54, ev_155), (56, ev_155)]
noncomputable def zi_152_2 : ZIs := [(58, ev_7), (59, ev_16), (60, ev_355), (61, ev_30), (62, ev_582), (63, ev_156), (64, ev_457), (65, ev_517), (66, ev_343), (69, ev_730), (72, ev_348), (75, ev_872), (78, ev_489), (79, ev_873), (82, ev_490), (83, ev_481)]
set_option maxRecDepth 100000 in
theorem xi_w152 : zall cX6_squares [zi_152_0, zi_152_1, zi_152_2] := zall_w _ _ (by decide +kernel)
noncomputable def xi_152 (pc : Nat) : XIs := cond (Nat.blt pc 27) (zx zi_152_0) (cond (Nat.blt pc 58) (zx zi_152_1) (zx zi_152_2))
theorem xi_ok152 (pc : Nat) : xi_ok cX6_squares (xi_152 pc) = true := xi_c (zq1 xi_w152) (xi_c (zq1 (zq2 xi_w152)) (zq1 (zq2 (zq2 xi_w152))))
noncomputable def zi_153_0 : ZIs := [(0, ev_13), (1, ev_251), (4, ev_13), (5, ev_228), (6, ev_253), (9, ev_13), (10, ev_228), (11, ev_254), (14, ev_13), (15, ev_391), (17, ev_8), (19, ev_256), (22, ev_13), (23, ev_874), (25, ev_8), (27, ev_257)]
noncomputable def zi_153_1 : ZIs := [(30, ev_13), (31, ev_875), (33, ev_255), (35, ev_258), (38, ev_13), (39, ev_875), (41, ev_8), (43, ev_370), (46, ev_13), (47, ev_176), (49, ev_8), (51, ev_371), (54, ev_13), (55, ev_176), (57, ev_8), (59, ev_372)]
noncomputable def zi_153_2 : ZIs := [(62, ev_13), (63, ev_176), (65, ev_8), (67, ev_704), (70, ev_260)]
set_option maxRecDepth 100000 in
theorem xi_w153 : zall cX7_init [zi_153_0, zi_153_1, zi_153_2] := zall_w _ _ (by decide +kernel)
noncomputable def xi_153 (pc : Nat) : XIs := cond (Nat.blt pc 30) (zx zi_153_0) (cond (Nat.blt pc 62) (zx zi_153_1) (zx zi_153_2))
theorem xi_ok153 (pc : Nat) : xi_ok cX7_init (xi_153 pc) = true := xi_c (zq1 xi_w153) (xi_c (zq1 (zq2 xi_w153)) (zq1 (zq2 (zq2 xi_w153))))
noncomputable def zi_154_0 : ZIs := [(0, ev_21), (1, ev_876), (4, ev_21), (5, ev_707), (8, ev_389), (10, ev_374), (13, ev_21), (14, ev_30), (15, ev_389), (17, ev_837), (20, ev_152), (21, ev_21), (22, ev_877), (25, ev_378), (28, ev_10), (29, ev_152)]
noncomputable def zi_154_1 : ZIs := [(30, ev_13), (31, ev_21), (32, ev_878), (35, ev_7), (36, ev_152)]
set_option maxRecDepth 100000 in
theorem xi_w154 : zall cX7_adopt [zi_154_0, zi_154_1] := zall_w _ _ (by decide +kernel)
noncomputable def xi_154 (pc : Nat) : XIs := cond (Nat.blt pc 30) (zx zi_154_0) (zx zi_154_1)
theorem xi_ok154 (pc : Nat) : xi_ok cX7_adopt (xi_154 pc) = true := xi_c (zq1 xi_w154) (zq1 (zq2 xi_w154))
noncomputable def zi_155_0 : ZIs := [(0, ev_10), (1, ev_685), (2, ev_10), (3, ev_294), (4, ev_10), (5, ev_295), (6, ev_198), (7, ev_13), (8, ev_707), (11, ev_879), (14, ev_13), (15, ev_880), (18, ev_198), (19, ev_881), (20, ev_11), (22, ev_12)]
noncomputable def zi_155_1 : ZIs := [(24, ev_197), (25, ev_192), (26, ev_882), (29, ev_25), (31, ev_150), (33, ev_252), (34, ev_409), (37, ev_13), (38, ev_150), (40, ev_198), (41, ev_837), (44, ev_152), (45, ev_12), (47, ev_412), (49, ev_774), (52, ev_688)]
noncomputable def zi_155_2 : ZIs := [(55, ev_12), (57, ev_419), (59, ev_774), (62, ev_702), (65, ev_12), (67, ev_419), (69, ev_409), (72, ev_12), (74, ev_284), (77, ev_227), (80, ev_7), (81, ev_229), (84, ev_10), (85, ev_294), (86, ev_300), (89, ev_883)]
noncomputable def zi_155_3 : ZIs := [(92, ev_192), (93, ev_771), (96, ev_13), (97, ev_30), (98, ev_13), (99, ev_707), (102, ev_837), (105, ev_227), (108, ev_7), (109, ev_229), (112, ev_10), (113, ev_152)]
set_option maxRecDepth 100000 in
theorem xi_w155 : zall cX7_isGood [zi_155_0, zi_155_1, zi_155_2, zi_155_3] := zall_w _ _ (by decide +kernel)
noncomputable def xi_155 (pc : Nat) : XIs := cond (Nat.blt pc 55) (cond (Nat.blt pc 24) (zx zi_155_0) (zx zi_155_1)) (cond (Nat.blt pc 92) (zx zi_155_2) (zx zi_155_3))
theorem xi_ok155 (pc : Nat) : xi_ok cX7_isGood (xi_155 pc) = true := xi_c (xi_c (zq1 xi_w155) (zq1 (zq2 xi_w155))) (xi_c (zq1 (zq2 (zq2 xi_w155))) (zq1 (zq2 (zq2 (zq2 xi_w155)))))
noncomputable def zi_156_0 : ZIs := [(0, ev_482)]
noncomputable def xi_156_1 : XIs := [(1, .lookupswitch 93 #[(40, 69), (41, 81), (42, 59), (43, 59), (63, 59), (124, 91)], 59)]
set_option maxRecDepth 100000 in
theorem xi_ok156_1 : xi_ok cX7_judge xi_156_1 = true := by decide +kernel
noncomputable def zi_156_2 : ZIs := [(60, ev_192), (61, ev_227), (64, ev_252), (65, ev_229), (68, ev_30), (69, ev_152), (70, ev_197), (71, ev_413), (73, ev_656), (76, ev_252), (77, ev_229), (80, ev_31), (81, ev_152), (82, ev_197), (83, ev_493), (86, ev_252)]
noncomputable def zi_156_3 : ZIs := [(87, ev_229), (90, ev_30), (91, ev_152), (92, ev_252), (93, ev_152), (94, ev_482), (95, ev_284), (98, ev_227), (101, ev_252), (102, ev_229), (105, ev_7), (106, ev_152)]
set_option maxRecDepth 100000 in
theorem xi_w156 : zall cX7_judge [zi_156_0, zi_156_2, zi_156_3] := zall_w _ _ (by decide +kernel)
noncomputable def xi_156 (pc : Nat) : XIs := cond (Nat.blt pc 60) (cond (Nat.blt pc 1) (zx zi_156_0) (xi_156_1)) (cond (Nat.blt pc 87) (zx zi_156_2) (zx zi_156_3))
theorem xi_ok156 (pc : Nat) : xi_ok cX7_judge (xi_156 pc) = true := xi_c (xi_c (zq1 xi_w156) (xi_ok156_1)) (xi_c (zq1 (zq2 xi_w156)) (zq1 (zq2 (zq2 xi_w156))))
noncomputable def zi_157_0 : ZIs := [(0, ev_482), (1, ev_884), (3, ev_742), (6, ev_482), (7, ev_422), (9, ev_414), (12, ev_482), (13, ev_885), (15, ev_886), (18, ev_7), (19, ev_229), (22, ev_10), (23, ev_152)]
set_option maxRecDepth 100000 in
theorem xi_w157 : zall cX7_isAtom [zi_157_0] := zall_w _ _ (by decide +kernel)
noncomputable def xi_157 (pc : Nat) : XIs := zx zi_157_0
theorem xi_ok157 (pc : Nat) : xi_ok cX7_isAtom (xi_157 pc) = true := zq1 xi_w157
noncomputable def zi_158_0 : ZIs := [(0, ev_13), (1, ev_287), (4, ev_230), (5, ev_887), (8, ev_13), (9, ev_362), (12, ev_230), (13, ev_887), (16, ev_13), (17, ev_228), (18, ev_253), (21, ev_13), (22, ev_228), (23, ev_21), (24, ev_707), (27, ev_177)]
noncomputable def zi_158_1 : ZIs := [(28, ev_254), (31, ev_13), (32, ev_465), (35, ev_10), (36, ev_230), (37, ev_194), (38, ev_10), (39, ev_294), (40, ev_10), (41, ev_295), (42, ev_198), (43, ev_21), (44, ev_707), (47, ev_888), (50, ev_21), (51, ev_880)]
noncomputable def zi_158_2 : ZIs := [(54, ev_198), (55, ev_881), (56, ev_11), (58, ev_198), (59, ev_25), (61, ev_12), (63, ev_412), (65, ev_889), (68, ev_197), (69, ev_413), (71, ev_346), (74, ev_304), (77, ev_13), (78, ev_341), (81, ev_197), (82, ev_198)]
noncomputable def zi_158_3 : ZIs := [(83, ev_299), (84, ev_13), (85, ev_465), (88, ev_197), (89, ev_230), (90, ev_194), (91, ev_890), (94, ev_12), (96, ev_419), (98, ev_891), (101, ev_197), (102, ev_892), (105, ev_13), (106, ev_341), (109, ev_197), (110, ev_18)]
noncomputable def zi_158_4 : ZIs := [(111, ev_25), (113, ev_13), (114, ev_13), (115, ev_465), (118, ev_197), (119, ev_154), (120, ev_228), (121, ev_198), (122, ev_177), (123, ev_231), (126, ev_893), (129, ev_13), (130, ev_12), (132, ev_198), (133, ev_197), (134, ev_395)]
noncomputable def zi_158_5 : ZIs := [(137, ev_198), (138, ev_7), (139, ev_22), (140, ev_21), (141, ev_707), (144, ev_686), (147, ev_13), (148, ev_21), (149, ev_880), (152, ev_198), (153, ev_7), (154, ev_22), (155, ev_881), (156, ev_150), (158, ev_198), (159, ev_7)]
noncomputable def zi_158_6 : ZIs := [(160, ev_22), (161, ev_291), (164, ev_300), (167, ev_894), (170, ev_13), (171, ev_13), (172, ev_465), (175, ev_10), (176, ev_154), (177, ev_13), (178, ev_280), (181, ev_231), (184, ev_13), (185, ev_21), (186, ev_707), (189, ev_855)]
noncomputable def zi_158_7 : ZIs := [(192, ev_260)]
set_option maxRecDepth 100000 in
theorem xi_w158 : zall cX7_build [zi_158_0, zi_158_1, zi_158_2, zi_158_3, zi_158_4, zi_158_5, zi_158_6, zi_158_7] := zall_w _ _ (by decide +kernel)
noncomputable def xi_158 (pc : Nat) : XIs := cond (Nat.blt pc 111) (cond (Nat.blt pc 54) (cond (Nat.blt pc 28) (zx zi_158_0) (zx zi_158_1)) (cond (Nat.blt pc 83) (zx zi_158_2) (zx zi_158_3))) (cond (Nat.blt pc 160) (cond (Nat.blt pc 137) (zx zi_158_4) (zx zi_158_5)) (cond (Nat.blt pc 192) (zx zi_158_6) (zx zi_158_7)))
theorem xi_ok158 (pc : Nat) : xi_ok cX7_build (xi_158 pc) = true := xi_c (xi_c (xi_c (zq1 xi_w158) (zq1 (zq2 xi_w158))) (xi_c (zq1 (zq2 (zq2 xi_w158))) (zq1 (zq2 (zq2 (zq2 xi_w158)))))) (xi_c (xi_c (zq1 (zq2 (zq2 (zq2 (zq2 xi_w158))))) (zq1 (zq2 (zq2 (zq2 (zq2 (zq2 xi_w158))))))) (xi_c (zq1 (zq2 (zq2 (zq2 (zq2 (zq2 (zq2 xi_w158))))))) (zq1 (zq2 (zq2 (zq2 (zq2 (zq2 (zq2 (zq2 xi_w158))))))))))
noncomputable def zi_159_0 : ZIs := [(0, ev_483), (1, ev_574), (3, ev_501), (5, ev_230), (6, ev_157), (7, ev_416), (10, ev_13), (11, ev_287), (14, ev_501), (16, ev_895), (19, ev_316), (20, ev_154), (21, ev_484), (22, ev_180), (23, ev_194), (24, ev_501)]
noncomputable def zi_159_1 : ZIs := [(26, ev_501), (28, ev_228), (29, ev_485), (30, ev_179), (31, ev_574), (33, ev_645), (36, ev_260)]
set_option maxRecDepth 100000 in
theorem xi_w159 : zall cX7_closeBars [zi_159_0, zi_159_1] := zall_w _ _ (by decide +kernel)
noncomputable def xi_159 (pc : Nat) : XIs := cond (Nat.blt pc 26) (zx zi_159_0) (zx zi_159_1)
theorem xi_ok159 (pc : Nat) : xi_ok cX7_closeBars (xi_159 pc) = true := xi_c (zq1 xi_w159) (zq1 (zq2 xi_w159))
noncomputable def zi_160_0 : ZIs := [(0, ev_228), (1, ev_197), (2, ev_7), (3, ev_22), (4, ev_177), (5, ev_442), (7, ev_192), (8, ev_884), (10, ev_896), (13, ev_10), (14, ev_28), (16, ev_155), (18, ev_874), (20, ev_315), (23, ev_13), (24, ev_362)]
noncomputable def zi_160_1 : ZIs := [(27, ev_155), (29, ev_316), (30, ev_154), (31, ev_228), (32, ev_197), (33, ev_177), (34, ev_180), (35, ev_194), (36, ev_320), (39, ev_711), (42, ev_897), (45, ev_192), (46, ev_284), (49, ev_333), (52, ev_13), (53, ev_362)]
noncomputable def zi_160_2 : ZIs := [(56, ev_192), (57, ev_422), (59, ev_16), (60, ev_316), (61, ev_154), (62, ev_228), (63, ev_197), (64, ev_177), (65, ev_180), (66, ev_194), (67, ev_898), (70, ev_192), (71, ev_899), (73, ev_900), (76, ev_13), (77, ev_287)]
noncomputable def zi_160_3 : ZIs := [(80, ev_197), (81, ev_316), (82, ev_154), (83, ev_247), (85, ev_180), (86, ev_194), (87, ev_901), (90, ev_13), (91, ev_465), (94, ev_198), (95, ev_316), (96, ev_154), (97, ev_228), (98, ev_197), (99, ev_177), (100, ev_180)]
noncomputable def zi_160_4 : ZIs := [(101, ev_194), (102, ev_198), (103, ev_807), (106, ev_13), (107, ev_1), (108, ev_261), (111, ev_247), (113, ev_180), (114, ev_253), (117, ev_902), (120, ev_13), (121, ev_287), (124, ev_13), (125, ev_341), (128, ev_198), (129, ev_18)]
noncomputable def zi_160_5 : ZIs := [(130, ev_316), (131, ev_154), (132, ev_247), (134, ev_180), (135, ev_194), (136, ev_260)]
set_option maxRecDepth 100000 in
theorem xi_w160 : zall cX7_layPlace [zi_160_0, zi_160_1, zi_160_2, zi_160_3, zi_160_4, zi_160_5] := zall_w _ _ (by decide +kernel)
noncomputable def xi_160 (pc : Nat) : XIs := cond (Nat.blt pc 80) (cond (Nat.blt pc 27) (zx zi_160_0) (cond (Nat.blt pc 56) (zx zi_160_1) (zx zi_160_2))) (cond (Nat.blt pc 101) (zx zi_160_3) (cond (Nat.blt pc 130) (zx zi_160_4) (zx zi_160_5)))
theorem xi_ok160 (pc : Nat) : xi_ok cX7_layPlace (xi_160 pc) = true := xi_c (xi_c (zq1 xi_w160) (xi_c (zq1 (zq2 xi_w160)) (zq1 (zq2 (zq2 xi_w160))))) (xi_c (zq1 (zq2 (zq2 (zq2 xi_w160)))) (xi_c (zq1 (zq2 (zq2 (zq2 (zq2 xi_w160))))) (zq1 (zq2 (zq2 (zq2 (zq2 (zq2 xi_w160))))))))
noncomputable def zi_161_0 : ZIs := [(0, ev_192), (1, ev_405), (3, ev_903), (6, ev_192), (7, ev_398), (9, ev_727), (12, ev_13), (13, ev_287), (16, ev_198), (17, ev_316), (18, ev_154), (19, ev_228), (20, ev_197), (21, ev_177), (22, ev_180), (23, ev_194)]
noncomputable def zi_161_1 : ZIs := [(24, ev_192), (25, ev_405), (27, ev_903), (30, ev_192), (31, ev_19), (33, ev_727), (36, ev_13), (37, ev_287), (40, ev_197), (41, ev_316), (42, ev_154), (43, ev_228), (44, ev_198), (45, ev_177), (46, ev_180), (47, ev_194)]
noncomputable def zi_161_2 : ZIs := [(48, ev_260)]
set_option maxRecDepth 100000 in
theorem xi_w161 : zall cX7_layRepeat [zi_161_0, zi_161_1, zi_161_2] := zall_w _ _ (by decide +kernel)
noncomputable def xi_161 (pc : Nat) : XIs := cond (Nat.blt pc 24) (zx zi_161_0) (cond (Nat.blt pc 48) (zx zi_161_1) (zx zi_161_2))
theorem xi_ok161 (pc : Nat) : xi_ok cX7_layRepeat (xi_161 pc) = true := xi_c (zq1 xi_w161) (xi_c (zq1 (zq2 xi_w161)) (zq1 (zq2 (zq2 xi_w161))))
noncomputable def zi_162_0 : ZIs := [(0, ev_10), (1, ev_294), (2, ev_197), (3, ev_192), (4, ev_904), (7, ev_13), (8, ev_287), (11, ev_197), (12, ev_316), (13, ev_154), (14, ev_228), (15, ev_197), (16, ev_177), (17, ev_180), (18, ev_194), (19, ev_304)]
noncomputable def zi_162_1 : ZIs := [(22, ev_758), (25, ev_10), (26, ev_294), (27, ev_197), (28, ev_192), (29, ev_905), (32, ev_10), (33, ev_295), (34, ev_198), (35, ev_192), (36, ev_906), (39, ev_13), (40, ev_287), (43, ev_198), (44, ev_154), (45, ev_197)]
noncomputable def zi_162_2 : ZIs := [(46, ev_907), (47, ev_228), (48, ev_179), (49, ev_230), (50, ev_157), (51, ev_393), (54, ev_13), (55, ev_287), (58, ev_198), (59, ev_316), (60, ev_154), (61, ev_13), (62, ev_287), (65, ev_197), (66, ev_154), (67, ev_180)]
noncomputable def zi_162_3 : ZIs := [(68, ev_194), (69, ev_300), (72, ev_583), (75, ev_304), (78, ev_908), (81, ev_13), (82, ev_280), (85, ev_517), (86, ev_10), (87, ev_11), (89, ev_12), (91, ev_874), (93, ev_622), (96, ev_489), (97, ev_13), (98, ev_362)]
noncomputable def zi_162_4 : ZIs := [(101, ev_12), (103, ev_154), (104, ev_180), (105, ev_517), (106, ev_348), (109, ev_758), (112, ev_10), (113, ev_11), (115, ev_12), (117, ev_192), (118, ev_909), (121, ev_13), (122, ev_287), (125, ev_12), (127, ev_316), (128, ev_154)]
noncomputable def zi_162_5 : ZIs := [(129, ev_489), (130, ev_179), (131, ev_194), (132, ev_348), (135, ev_758), (138, ev_230), (139, ev_442), (141, ev_13), (142, ev_261), (145, ev_58), (147, ev_460), (149, ev_230), (150, ev_157), (151, ev_767), (154, ev_247), (156, ev_13)]
noncomputable def zi_162_6 : ZIs := [(157, ev_287), (160, ev_460), (162, ev_895), (165, ev_154), (166, ev_180), (167, ev_442), (169, ev_460), (171, ev_460), (173, ev_228), (174, ev_485), (175, ev_179), (176, ev_58), (178, ev_610), (181, ev_13), (182, ev_247), (184, ev_253)]
noncomputable def zi_162_7 : ZIs := [(187, ev_260)]
set_option maxRecDepth 100000 in
theorem xi_w162 : zall cX7_close [zi_162_0, zi_162_1, zi_162_2, zi_162_3, zi_162_4, zi_162_5, zi_162_6, zi_162_7] := zall_w _ _ (by decide +kernel)
noncomputable def xi_162 (pc : Nat) : XIs := cond (Nat.blt pc 101) (cond (Nat.blt pc 46) (cond (Nat.blt pc 22) (zx zi_162_0) (zx zi_162_1)) (cond (Nat.blt pc 68) (zx zi_162_2) (zx zi_162_3))) (cond (Nat.blt pc 157) (cond (Nat.blt pc 129) (zx zi_162_4) (zx zi_162_5)) (cond (Nat.blt pc 187) (zx zi_162_6) (zx zi_162_7)))
theorem xi_ok162 (pc : Nat) : xi_ok cX7_close (xi_162 pc) = true := xi_c (xi_c (xi_c (zq1 xi_w162) (zq1 (zq2 xi_w162))) (xi_c (zq1 (zq2 (zq2 xi_w162))) (zq1 (zq2 (zq2 (zq2 xi_w162)))))) (xi_c (xi_c (zq1 (zq2 (zq2 (zq2 (zq2 xi_w162))))) (zq1 (zq2 (zq2 (zq2 (zq2 (zq2 xi_w162))))))) (xi_c (zq1 (zq2 (zq2 (zq2 (zq2 (zq2 (zq2 xi_w162))))))) (zq1 (zq2 (zq2 (zq2 (zq2 (zq2 (zq2 (zq2 xi_w162))))))))))
noncomputable def zi_163_0 : ZIs := [(0, ev_21), (1, ev_910), (4, ev_13), (5, ev_434), (8, ev_230), (9, ev_887), (12, ev_13), (13, ev_751), (16, ev_230), (17, ev_887), (20, ev_13), (21, ev_434), (24, ev_197), (25, ev_13), (26, ev_261), (29, ev_194)]
noncomputable def zi_163_1 : ZIs := [(30, ev_13), (31, ev_751), (34, ev_197), (35, ev_13), (36, ev_261), (39, ev_194), (40, ev_10), (41, ev_11), (43, ev_12), (45, ev_911), (48, ev_912), (51, ev_13), (52, ev_751), (55, ev_198), (56, ev_154), (57, ev_13)]
noncomputable def zi_163_2 : ZIs := [(58, ev_280), (61, ev_179), (62, ev_230), (63, ev_157), (64, ev_687), (67, ev_12), (69, ev_152), (70, ev_13), (71, ev_21), (72, ev_424), (75, ev_378), (78, ev_252), (79, ev_152), (80, ev_348), (83, ev_752), (86, ev_252)]
noncomputable def zi_163_3 : ZIs := [(87, ev_152)]
set_option maxRecDepth 100000 in
theorem xi_w163 : zall cX7_leastFit [zi_163_0, zi_163_1, zi_163_2, zi_163_3] := zall_w _ _ (by decide +kernel)
noncomputable def xi_163 (pc : Nat) : XIs := cond (Nat.blt pc 58) (cond (Nat.blt pc 30) (zx zi_163_0) (zx zi_163_1)) (cond (Nat.blt pc 87) (zx zi_163_2) (zx zi_163_3))
theorem xi_ok163 (pc : Nat) : xi_ok cX7_leastFit (xi_163 pc) = true := xi_c (xi_c (zq1 xi_w163) (zq1 (zq2 xi_w163))) (xi_c (zq1 (zq2 (zq2 xi_w163))) (zq1 (zq2 (zq2 (zq2 xi_w163)))))
noncomputable def zi_164_0 : ZIs := [(0, ev_10), (1, ev_294), (2, ev_13), (3, ev_430), (6, ev_230), (7, ev_887), (10, ev_10), (11, ev_295), (12, ev_198), (13, ev_21), (14, ev_793), (17, ev_913), (20, ev_21), (21, ev_795), (24, ev_198), (25, ev_18)]
noncomputable def zi_164_1 : ZIs := [(26, ev_11), (28, ev_12), (30, ev_21), (31, ev_795), (34, ev_198), (35, ev_7), (36, ev_22), (37, ev_18), (38, ev_914), (41, ev_13), (42, ev_434), (45, ev_198), (46, ev_154), (47, ev_230), (48, ev_157), (49, ev_915)]
noncomputable def zi_164_2 : ZIs := [(52, ev_21), (53, ev_916), (56, ev_12), (58, ev_18), (59, ev_25), (61, ev_21), (62, ev_917), (65, ev_150), (67, ev_18), (68, ev_28), (70, ev_13), (71, ev_13), (72, ev_434), (75, ev_198), (76, ev_154), (77, ev_13)]
noncomputable def zi_164_3 : ZIs := [(78, ev_362), (81, ev_21), (82, ev_918), (85, ev_150), (87, ev_18), (88, ev_154), (89, ev_179), (90, ev_919), (93, ev_13), (94, ev_751), (97, ev_155), (99, ev_154), (100, ev_920), (103, ev_520), (104, ev_179), (105, ev_921)]
noncomputable def zi_164_4 : ZIs := [(107, ev_13), (108, ev_430), (111, ev_155), (113, ev_316), (114, ev_154), (115, ev_922), (117, ev_180), (118, ev_194), (119, ev_13), (120, ev_751), (123, ev_155), (125, ev_316), (126, ev_154), (127, ev_922), (129, ev_180), (130, ev_194)]
noncomputable def zi_164_5 : ZIs := [(131, ev_197), (132, ev_922), (134, ev_230), (135, ev_157), (136, ev_227), (139, ev_7), (140, ev_229), (143, ev_10), (144, ev_278), (145, ev_294), (146, ev_348), (149, ev_606), (152, ev_300), (155, ev_923), (158, ev_13), (159, ev_430)]
noncomputable def zi_164_6 : ZIs := [(162, ev_10), (163, ev_13), (164, ev_434), (167, ev_10), (168, ev_176), (170, ev_363), (173, ev_197), (174, ev_152)]
set_option maxRecDepth 100000 in
theorem xi_w164 : zall cX7_step [zi_164_0, zi_164_1, zi_164_2, zi_164_3, zi_164_4, zi_164_5, zi_164_6] := zall_w _ _ (by decide +kernel)
noncomputable def xi_164 (pc : Nat) : XIs := cond (Nat.blt pc 78) (cond (Nat.blt pc 26) (zx zi_164_0) (cond (Nat.blt pc 52) (zx zi_164_1) (zx zi_164_2))) (cond (Nat.blt pc 131) (cond (Nat.blt pc 107) (zx zi_164_3) (zx zi_164_4)) (cond (Nat.blt pc 162) (zx zi_164_5) (zx zi_164_6)))
theorem xi_ok164 (pc : Nat) : xi_ok cX7_step (xi_164 pc) = true := xi_c (xi_c (zq1 xi_w164) (xi_c (zq1 (zq2 xi_w164)) (zq1 (zq2 (zq2 xi_w164))))) (xi_c (xi_c (zq1 (zq2 (zq2 (zq2 xi_w164)))) (zq1 (zq2 (zq2 (zq2 (zq2 xi_w164)))))) (xi_c (zq1 (zq2 (zq2 (zq2 (zq2 (zq2 xi_w164)))))) (zq1 (zq2 (zq2 (zq2 (zq2 (zq2 (zq2 xi_w164)))))))))
noncomputable def zi_165_0 : ZIs := [(0, ev_230), (1, ev_924), (2, ev_483), (3, ev_574), (5, ev_501), (7, ev_230), (8, ev_157), (9, ev_767), (12, ev_484), (13, ev_13), (14, ev_287), (17, ev_501), (19, ev_895), (22, ev_7), (23, ev_22), (24, ev_154)]
noncomputable def zi_165_1 : ZIs := [(25, ev_180), (26, ev_924), (27, ev_501), (29, ev_501), (31, ev_228), (32, ev_485), (33, ev_179), (34, ev_574), (36, ev_610), (39, ev_484), (40, ev_481)]
set_option maxRecDepth 100000 in
theorem xi_w165 : zall cX7_behind [zi_165_0, zi_165_1] := zall_w _ _ (by decide +kernel)
noncomputable def xi_165 (pc : Nat) : XIs := cond (Nat.blt pc 25) (zx zi_165_0) (zx zi_165_1)
theorem xi_ok165 (pc : Nat) : xi_ok cX7_behind (xi_165 pc) = true := xi_c (zq1 xi_w165) (zq1 (zq2 xi_w165))
noncomputable def zi_166_0 : ZIs := [(0, ev_13), (1, ev_251), (4, ev_13), (5, ev_803), (8, ev_925), (10, ev_253), (13, ev_13), (14, ev_252), (15, ev_254), (18, ev_13), (19, ev_252), (20, ev_368), (23, ev_13), (24, ev_926), (27, ev_925), (29, ev_257)]
noncomputable def zi_166_1 : ZIs := [(32, ev_260)]
set_option maxRecDepth 100000 in
theorem xi_w166 : zall cX8_init [zi_166_0, zi_166_1] := zall_w _ _ (by decide +kernel)
noncomputable def xi_166 (pc : Nat) : XIs := cond (Nat.blt pc 32) (zx zi_166_0) (zx zi_166_1)
theorem xi_ok166 (pc : Nat) : xi_ok cX8_init (xi_166 pc) = true := xi_c (zq1 xi_w166) (zq1 (zq2 xi_w166))
noncomputable def zi_167_0 : ZIs := [(0, ev_13), (1, ev_10), (2, ev_258), (5, ev_13), (6, ev_252), (7, ev_254), (10, ev_13), (11, ev_252), (12, ev_368), (15, ev_260)]
set_option maxRecDepth 100000 in
theorem xi_w167 : zall cX8_begin [zi_167_0] := zall_w _ _ (by decide +kernel)
noncomputable def xi_167 (pc : Nat) : XIs := zx zi_167_0
theorem xi_ok167 (pc : Nat) : xi_ok cX8_begin (xi_167 pc) = true := zq1 xi_w167
noncomputable def zi_168_0 : ZIs := [(0, ev_13), (1, ev_192), (2, ev_254), (5, ev_13), (6, ev_197), (7, ev_368), (10, ev_10), (11, ev_152)]
set_option maxRecDepth 100000 in
theorem xi_w168 : zall cX8_accuse [zi_168_0] := zall_w _ _ (by decide +kernel)
noncomputable def xi_168 (pc : Nat) : XIs := zx zi_168_0
theorem xi_ok168 (pc : Nat) : xi_ok cX8_accuse (xi_168 pc) = true := zq1 xi_w168
noncomputable def zi_169_0 : ZIs := [(0, ev_13), (1, ev_283), (4, ev_32), (5, ev_927), (8, ev_13), (9, ev_7), (10, ev_13), (11, ev_262), (14, ev_928), (17, ev_152), (18, ev_13), (19, ev_13), (20, ev_283), (23, ev_33), (24, ev_818), (27, ev_197)]
noncomputable def zi_169_1 : ZIs := [(28, ev_229), (31, ev_192), (32, ev_13), (33, ev_262), (36, ev_928), (39, ev_152)]
set_option maxRecDepth 100000 in
theorem xi_w169 : zall cX8_refuse [zi_169_0, zi_169_1] := zall_w _ _ (by decide +kernel)
noncomputable def xi_169 (pc : Nat) : XIs := cond (Nat.blt pc 28) (zx zi_169_0) (zx zi_169_1)
theorem xi_ok169 (pc : Nat) : xi_ok cX8_refuse (xi_169 pc) = true := xi_c (zq1 xi_w169) (zq1 (zq2 xi_w169))
noncomputable def zi_170_0 : ZIs := [(0, ev_13), (1, ev_283), (4, ev_31), (5, ev_727), (8, ev_13), (9, ev_751), (12, ev_192), (13, ev_818), (16, ev_7), (17, ev_229), (20, ev_10), (21, ev_152)]
set_option maxRecDepth 100000 in
theorem xi_w170 : zall cX8_isAt [zi_170_0] := zall_w _ _ (by decide +kernel)
noncomputable def xi_170 (pc : Nat) : XIs := zx zi_170_0
theorem xi_ok170 (pc : Nat) : xi_ok cX8_isAt (xi_170 pc) = true := zq1 xi_w170
noncomputable def zi_171_0 : ZIs := [(0, ev_13), (1, ev_341), (4, ev_13), (5, ev_705), (8, ev_929), (11, ev_13), (12, ev_261), (15, ev_13), (16, ev_341), (19, ev_881), (20, ev_176), (22, ev_538), (25, ev_13), (26, ev_1), (27, ev_341), (30, ev_7)]
noncomputable def zi_171_1 : ZIs := [(31, ev_22), (32, ev_258), (35, ev_293), (38, ev_13), (39, ev_13), (40, ev_341), (43, ev_530), (46, ev_13), (47, ev_10), (48, ev_259), (51, ev_13), (52, ev_341), (55, ev_13), (56, ev_705), (59, ev_271), (62, ev_260)]
noncomputable def zi_171_2 : ZIs := [(63, ev_13), (64, ev_261), (67, ev_13), (68, ev_341), (71, ev_881), (72, ev_295), (73, ev_197), (74, ev_634), (77, ev_198), (78, ev_400), (80, ev_818), (83, ev_7), (84, ev_229), (87, ev_10), (88, ev_11), (90, ev_13)]
noncomputable def zi_171_3 : ZIs := [(91, ev_12), (93, ev_649), (96, ev_13), (97, ev_341), (100, ev_7), (101, ev_22), (102, ev_212), (105, ev_13), (106, ev_341), (109, ev_930), (112, ev_931), (115, ev_13), (116, ev_12), (118, ev_192), (119, ev_215), (122, ev_260)]
noncomputable def zi_171_4 : ZIs := [(123, ev_13), (124, ev_1), (125, ev_341), (128, ev_7), (129, ev_22), (130, ev_258), (133, ev_198), (134, ev_422), (136, ev_932), (139, ev_198), (140, ev_885), (142, ev_933), (145, ev_13), (146, ev_7), (147, ev_259), (150, ev_13)]
noncomputable def zi_171_5 : ZIs := [(151, ev_198), (152, ev_422), (154, ev_16), (155, ev_704), (158, ev_260), (159, ev_13), (160, ev_198), (161, ev_197), (162, ev_934), (165, ev_227), (168, ev_31), (169, ev_229), (172, ev_32), (173, ev_259), (176, ev_13), (177, ev_198)]
noncomputable def zi_171_6 : ZIs := [(178, ev_704), (181, ev_260)]
set_option maxRecDepth 100000 in
theorem xi_w171 : zall cX8_next [zi_171_0, zi_171_1, zi_171_2, zi_171_3, zi_171_4, zi_171_5, zi_171_6] := zall_w _ _ (by decide +kernel)
noncomputable def xi_171 (pc : Nat) : XIs := cond (Nat.blt pc 91) (cond (Nat.blt pc 31) (zx zi_171_0) (cond (Nat.blt pc 63) (zx zi_171_1) (zx zi_171_2))) (cond (Nat.blt pc 151) (cond (Nat.blt pc 123) (zx zi_171_3) (zx zi_171_4)) (cond (Nat.blt pc 178) (zx zi_171_5) (zx zi_171_6)))
theorem xi_ok171 (pc : Nat) : xi_ok cX8_next (xi_171 pc) = true := xi_c (xi_c (zq1 xi_w171) (xi_c (zq1 (zq2 xi_w171)) (zq1 (zq2 (zq2 xi_w171))))) (xi_c (xi_c (zq1 (zq2 (zq2 (zq2 xi_w171)))) (zq1 (zq2 (zq2 (zq2 (zq2 xi_w171)))))) (xi_c (zq1 (zq2 (zq2 (zq2 (zq2 (zq2 xi_w171)))))) (zq1 (zq2 (zq2 (zq2 (zq2 (zq2 (zq2 xi_w171)))))))))
noncomputable def zi_172_0 : ZIs := [(0, ev_192), (1, ev_13), (2, ev_705), (5, ev_863), (8, ev_13), (9, ev_261), (12, ev_192), (13, ev_881), (14, ev_935), (16, ev_936), (19, ev_13), (20, ev_261), (23, ev_192), (24, ev_881), (25, ev_937), (27, ev_886)]
noncomputable def zi_172_1 : ZIs := [(30, ev_7), (31, ev_229), (34, ev_10), (35, ev_152)]
set_option maxRecDepth 100000 in
theorem xi_w172 : zall cX8_isDigit [zi_172_0, zi_172_1] := zall_w _ _ (by decide +kernel)
noncomputable def xi_172 (pc : Nat) : XIs := cond (Nat.blt pc 30) (zx zi_172_0) (zx zi_172_1)
theorem xi_ok172 (pc : Nat) : xi_ok cX8_isDigit (xi_172 pc) = true := xi_c (zq1 xi_w172) (zq1 (zq2 xi_w172))
noncomputable def zi_173_0 : ZIs := [(0, ev_10), (1, ev_295), (2, ev_10), (3, ev_11), (5, ev_13), (6, ev_192), (7, ev_649), (10, ev_13), (11, ev_341), (14, ev_7), (15, ev_22), (16, ev_212), (19, ev_13), (20, ev_341), (23, ev_258), (26, ev_13)]
noncomputable def zi_173_1 : ZIs := [(27, ev_341), (30, ev_13), (31, ev_705), (34, ev_938), (37, ev_13), (38, ev_13), (39, ev_341), (42, ev_930), (45, ev_939), (48, ev_300), (51, ev_198), (52, ev_197), (53, ev_940), (56, ev_12), (58, ev_413), (60, ev_355)]
noncomputable def zi_173_2 : ZIs := [(61, ev_13), (62, ev_261), (65, ev_13), (66, ev_341), (69, ev_881), (70, ev_935), (72, ev_16), (73, ev_22), (74, ev_11), (76, ev_13), (77, ev_1), (78, ev_341), (81, ev_7), (82, ev_22), (83, ev_258), (86, ev_619)]
noncomputable def zi_173_3 : ZIs := [(89, ev_13), (90, ev_192), (91, ev_347), (94, ev_12), (96, ev_310), (97, ev_638), (100, ev_12), (102, ev_704), (105, ev_13), (106, ev_198), (107, ev_197), (108, ev_941), (111, ev_33), (112, ev_229), (115, ev_30), (116, ev_259)]
noncomputable def zi_173_4 : ZIs := [(119, ev_260)]
set_option maxRecDepth 100000 in
theorem xi_w173 : zall cX8_readNumber [zi_173_0, zi_173_1, zi_173_2, zi_173_3, zi_173_4] := zall_w _ _ (by decide +kernel)
noncomputable def xi_173 (pc : Nat) : XIs := cond (Nat.blt pc 61) (cond (Nat.blt pc 27) (zx zi_173_0) (zx zi_173_1)) (cond (Nat.blt pc 89) (zx zi_173_2) (cond (Nat.blt pc 119) (zx zi_173_3) (zx zi_173_4)))
theorem xi_ok173 (pc : Nat) : xi_ok cX8_readNumber (xi_173 pc) = true := xi_c (xi_c (zq1 xi_w173) (zq1 (zq2 xi_w173))) (xi_c (zq1 (zq2 (zq2 xi_w173))) (xi_c (zq1 (zq2 (zq2 (zq2 xi_w173)))) (zq1 (zq2 (zq2 (zq2 (zq2 xi_w173)))))))
noncomputable def zi_174_0 : ZIs := [(0, ev_482), (1, ev_379), (3, ev_281), (6, ev_192), (7, ev_292), (10, ev_942), (12, ev_482), (13, ev_878), (16, ev_831), (19, ev_7), (20, ev_229), (23, ev_10), (24, ev_152)]
set_option maxRecDepth 100000 in
theorem xi_w174 : zall cX8_isSign [zi_174_0] := zall_w _ _ (by decide +kernel)
noncomputable def xi_174 (pc : Nat) : XIs := zx zi_174_0
theorem xi_ok174 (pc : Nat) : xi_ok cX8_isSign (xi_174 pc) = true := zq1 xi_w174
noncomputable def zi_175_0 : ZIs := [(0, ev_13), (1, ev_10), (2, ev_668), (5, ev_10), (6, ev_294), (7, ev_197), (8, ev_21), (9, ev_672), (12, ev_943), (15, ev_13), (16, ev_944), (18, ev_945), (21, ev_13), (22, ev_21), (23, ev_289), (26, ev_197)]
noncomputable def zi_175_1 : ZIs := [(27, ev_18), (28, ev_231), (31, ev_304), (34, ev_360), (37, ev_10), (38, ev_294), (39, ev_197), (40, ev_21), (41, ev_551), (44, ev_946), (47, ev_21), (48, ev_947), (51, ev_197), (52, ev_18), (53, ev_252), (54, ev_948)]
noncomputable def zi_175_2 : ZIs := [(57, ev_13), (58, ev_422), (60, ev_945), (63, ev_13), (64, ev_21), (65, ev_947), (68, ev_197), (69, ev_18), (70, ev_403), (73, ev_13), (74, ev_21), (75, ev_789), (78, ev_197), (79, ev_18), (80, ev_403), (83, ev_13)]
noncomputable def zi_175_3 : ZIs := [(84, ev_21), (85, ev_790), (88, ev_197), (89, ev_18), (90, ev_403), (93, ev_13), (94, ev_21), (95, ev_791), (98, ev_197), (99, ev_18), (100, ev_403), (103, ev_13), (104, ev_21), (105, ev_729), (108, ev_197), (109, ev_18)]
noncomputable def zi_175_4 : ZIs := [(110, ev_231), (113, ev_304), (116, ev_350), (119, ev_13), (120, ev_671), (123, ev_152)]
set_option maxRecDepth 100000 in
theorem xi_w175 : zall cX8_write [zi_175_0, zi_175_1, zi_175_2, zi_175_3, zi_175_4] := zall_w _ _ (by decide +kernel)
noncomputable def xi_175 (pc : Nat) : XIs := cond (Nat.blt pc 57) (cond (Nat.blt pc 27) (zx zi_175_0) (zx zi_175_1)) (cond (Nat.blt pc 84) (zx zi_175_2) (cond (Nat.blt pc 110) (zx zi_175_3) (zx zi_175_4)))
theorem xi_ok175 (pc : Nat) : xi_ok cX8_write (xi_175 pc) = true := xi_c (xi_c (zq1 xi_w175) (zq1 (zq2 xi_w175))) (xi_c (zq1 (zq2 (zq2 xi_w175))) (xi_c (zq1 (zq2 (zq2 (zq2 xi_w175)))) (zq1 (zq2 (zq2 (zq2 (zq2 xi_w175)))))))
noncomputable def zi_176_0 : ZIs := [(0, ev_13), (1, ev_176), (3, ev_945), (6, ev_13), (7, ev_422), (9, ev_192), (10, ev_22), (11, ev_423), (12, ev_945), (15, ev_13), (16, ev_379), (18, ev_945), (21, ev_260)]
set_option maxRecDepth 100000 in
theorem xi_w176 : zall cX8_endCommand [zi_176_0] := zall_w _ _ (by decide +kernel)
noncomputable def xi_176 (pc : Nat) : XIs := zx zi_176_0
theorem xi_ok176 (pc : Nat) : xi_ok cX8_endCommand (xi_176 pc) = true := zq1 xi_w176
noncomputable def zi_177_0 : ZIs := [(0, ev_13), (1, ev_671), (4, ev_13), (5, ev_362), (8, ev_14), (9, ev_346), (12, ev_13), (13, ev_362), (16, ev_13), (17, ev_671), (20, ev_192), (21, ev_949), (22, ev_13), (23, ev_1), (24, ev_671), (27, ev_7)]
noncomputable def zi_177_1 : ZIs := [(28, ev_22), (29, ev_668), (32, ev_260)]
set_option maxRecDepth 100000 in
theorem xi_w177 : zall cX8_put [zi_177_0, zi_177_1] := zall_w _ _ (by decide +kernel)
noncomputable def xi_177 (pc : Nat) : XIs := cond (Nat.blt pc 28) (zx zi_177_0) (zx zi_177_1)
theorem xi_ok177 (pc : Nat) : xi_ok cX8_put (xi_177 pc) = true := xi_c (zq1 xi_w177) (zq1 (zq2 xi_w177))
noncomputable def zi_178_0 : ZIs := [(0, ev_13), (1, ev_176), (3, ev_945), (6, ev_192), (7, ev_950), (10, ev_13), (11, ev_400), (13, ev_945), (16, ev_192), (17, ev_951), (20, ev_294), (21, ev_7), (22, ev_295), (23, ev_10), (24, ev_11), (26, ev_12)]
noncomputable def zi_178_1 : ZIs := [(28, ev_468), (30, ev_315), (33, ev_197), (34, ev_198), (35, ev_582), (36, ev_413), (38, ev_601), (41, ev_198), (42, ev_413), (44, ev_355), (45, ev_295), (46, ev_348), (49, ev_711), (52, ev_198), (53, ev_952), (56, ev_13)]
noncomputable def zi_178_2 : ZIs := [(57, ev_935), (59, ev_197), (60, ev_198), (61, ev_582), (62, ev_413), (64, ev_508), (65, ev_22), (66, ev_423), (67, ev_945), (70, ev_198), (71, ev_413), (73, ev_582), (74, ev_295), (75, ev_711), (78, ev_260)]
set_option maxRecDepth 100000 in
theorem xi_w178 : zall cX8_putNumber [zi_178_0, zi_178_1, zi_178_2] := zall_w _ _ (by decide +kernel)
noncomputable def xi_178 (pc : Nat) : XIs := cond (Nat.blt pc 28) (zx zi_178_0) (cond (Nat.blt pc 57) (zx zi_178_1) (zx zi_178_2))
theorem xi_ok178 (pc : Nat) : xi_ok cX8_putNumber (xi_178 pc) = true := xi_c (zq1 xi_w178) (xi_c (zq1 (zq2 xi_w178)) (zq1 (zq2 (zq2 xi_w178))))
noncomputable def zi_179_0 : ZIs := [(0, ev_13), (1, ev_251), (4, ev_13), (5, ev_529), (8, ev_255), (10, ev_253), (13, ev_13), (14, ev_529), (17, ev_255), (19, ev_254), (22, ev_13), (23, ev_529), (26, ev_8), (28, ev_256), (31, ev_13), (32, ev_176)]
noncomputable def zi_179_1 : ZIs := [(34, ev_8), (36, ev_257), (39, ev_13), (40, ev_176), (42, ev_255), (44, ev_258), (47, ev_13), (48, ev_176), (50, ev_255), (52, ev_259), (55, ev_13), (56, ev_176), (58, ev_255), (60, ev_530), (63, ev_13), (64, ev_176)]
noncomputable def zi_179_2 : ZIs := [(66, ev_255), (68, ev_531), (71, ev_13), (72, ev_252), (73, ev_532), (76, ev_13), (77, ev_528), (80, ev_8), (82, ev_953), (85, ev_260)]
set_option maxRecDepth 100000 in
theorem xi_w179 : zall cX9_init [zi_179_0, zi_179_1, zi_179_2] := zall_w _ _ (by decide +kernel)
noncomputable def xi_179 (pc : Nat) : XIs := cond (Nat.blt pc 34) (zx zi_179_0) (cond (Nat.blt pc 66) (zx zi_179_1) (zx zi_179_2))
theorem xi_ok179 (pc : Nat) : xi_ok cX9_init (xi_179 pc) = true := xi_c (zq1 xi_w179) (xi_c (zq1 (zq2 xi_w179)) (zq1 (zq2 (zq2 xi_w179))))
noncomputable def zi_180_0 : ZIs := [(0, ev_13), (1, ev_21), (2, ev_930), (5, ev_230), (6, ev_924), (7, ev_21), (8, ev_701), (11, ev_25), (13, ev_197), (14, ev_28), (16, ev_10), (17, ev_275), (19, ev_276), (21, ev_176), (23, ev_588), (26, ev_13)]
noncomputable def zi_180_1 : ZIs := [(27, ev_150), (29, ev_155), (31, ev_377), (34, ev_326), (37, ev_954), (40, ev_481), (41, ev_10), (42, ev_313), (44, ev_314), (46, ev_150), (48, ev_622), (51, ev_484), (52, ev_13), (53, ev_362), (56, ev_314), (58, ev_154)]
noncomputable def zi_180_2 : ZIs := [(59, ev_457), (60, ev_924), (61, ev_318), (64, ev_758), (67, ev_13), (68, ev_150), (70, ev_155), (72, ev_777), (75, ev_313), (77, ev_314), (79, ev_378), (82, ev_484), (83, ev_481), (84, ev_13), (85, ev_150), (87, ev_314)]
noncomputable def zi_180_3 : ZIs := [(89, ev_220), (92, ev_327), (94, ev_13), (95, ev_221), (98, ev_13), (99, ev_262), (102, ev_155), (104, ev_18), (105, ev_28), (107, ev_329), (109, ev_25), (111, ev_955), (114, ev_956), (117, ev_484), (118, ev_481)]
set_option maxRecDepth 100000 in
theorem xi_w180 : zall cX9_leastRooted [zi_180_0, zi_180_1, zi_180_2, zi_180_3] := zall_w _ _ (by decide +kernel)
noncomputable def xi_180 (pc : Nat) : XIs := cond (Nat.blt pc 59) (cond (Nat.blt pc 27) (zx zi_180_0) (zx zi_180_1)) (cond (Nat.blt pc 89) (zx zi_180_2) (zx zi_180_3))
theorem xi_ok180 (pc : Nat) : xi_ok cX9_leastRooted (xi_180 pc) = true := xi_c (xi_c (zq1 xi_w180) (zq1 (zq2 xi_w180))) (xi_c (zq1 (zq2 (zq2 xi_w180))) (zq1 (zq2 (zq2 (zq2 xi_w180)))))
noncomputable def zi_181_0 : ZIs := [(0, ev_13), (1, ev_10), (2, ev_957), (5, ev_10), (6, ev_294), (7, ev_197), (8, ev_21), (9, ev_958), (12, ev_449), (15, ev_21), (16, ev_197), (17, ev_959), (20, ev_353), (23, ev_13), (24, ev_261), (27, ev_13)]
noncomputable def zi_181_1 : ZIs := [(28, ev_960), (31, ev_21), (32, ev_307), (35, ev_197), (36, ev_18), (37, ev_299), (38, ev_13), (39, ev_280), (42, ev_13), (43, ev_960), (46, ev_21), (47, ev_961), (50, ev_197), (51, ev_18), (52, ev_299), (53, ev_13)]
noncomputable def zi_181_2 : ZIs := [(54, ev_287), (57, ev_13), (58, ev_960), (61, ev_21), (62, ev_962), (65, ev_197), (66, ev_18), (67, ev_156), (68, ev_194), (69, ev_13), (70, ev_1), (71, ev_960), (74, ev_7), (75, ev_22), (76, ev_957), (79, ev_304)]
noncomputable def zi_181_3 : ZIs := [(82, ev_844), (85, ev_260)]
set_option maxRecDepth 100000 in
theorem xi_w181 : zall cX9_copyArcs [zi_181_0, zi_181_1, zi_181_2, zi_181_3] := zall_w _ _ (by decide +kernel)
noncomputable def xi_181 (pc : Nat) : XIs := cond (Nat.blt pc 54) (cond (Nat.blt pc 28) (zx zi_181_0) (zx zi_181_1)) (cond (Nat.blt pc 82) (zx zi_181_2) (zx zi_181_3))
theorem xi_ok181 (pc : Nat) : xi_ok cX9_copyArcs (xi_181 pc) = true := xi_c (xi_c (zq1 xi_w181) (zq1 (zq2 xi_w181))) (xi_c (zq1 (zq2 (zq2 xi_w181))) (zq1 (zq2 (zq2 (zq2 xi_w181)))))
noncomputable def zi_182_0 : ZIs := [(0, ev_13), (1, ev_362), (4, ev_963), (7, ev_964), (10, ev_10), (11, ev_295), (12, ev_198), (13, ev_13), (14, ev_960), (17, ev_965), (20, ev_13), (21, ev_261), (24, ev_198), (25, ev_18), (26, ev_13), (27, ev_280)]
noncomputable def zi_182_1 : ZIs := [(30, ev_198), (31, ev_18), (32, ev_966), (35, ev_13), (36, ev_287), (39, ev_198), (40, ev_154), (41, ev_13), (42, ev_362), (45, ev_13), (46, ev_280), (49, ev_198), (50, ev_18), (51, ev_154), (52, ev_157), (53, ev_630)]
noncomputable def zi_182_2 : ZIs := [(56, ev_13), (57, ev_362), (60, ev_13), (61, ev_280), (64, ev_198), (65, ev_18), (66, ev_13), (67, ev_287), (70, ev_198), (71, ev_154), (72, ev_194), (73, ev_13), (74, ev_341), (77, ev_13), (78, ev_280), (81, ev_198)]
noncomputable def zi_182_3 : ZIs := [(82, ev_18), (83, ev_13), (84, ev_261), (87, ev_198), (88, ev_18), (89, ev_299), (90, ev_300), (93, ev_441), (96, ev_13), (97, ev_362), (100, ev_197), (101, ev_230), (102, ev_194), (103, ev_10), (104, ev_295), (105, ev_198)]
noncomputable def zi_182_4 : ZIs := [(106, ev_192), (107, ev_302), (110, ev_13), (111, ev_362), (114, ev_198), (115, ev_154), (116, ev_963), (119, ev_157), (120, ev_378), (123, ev_10), (124, ev_152), (125, ev_300), (128, ev_711), (131, ev_7), (132, ev_152)]
set_option maxRecDepth 100000 in
theorem xi_w182 : zall cX9_takeCheapest [zi_182_0, zi_182_1, zi_182_2, zi_182_3, zi_182_4] := zall_w _ _ (by decide +kernel)
noncomputable def xi_182 (pc : Nat) : XIs := cond (Nat.blt pc 56) (cond (Nat.blt pc 30) (zx zi_182_0) (zx zi_182_1)) (cond (Nat.blt pc 82) (zx zi_182_2) (cond (Nat.blt pc 106) (zx zi_182_3) (zx zi_182_4)))
theorem xi_ok182 (pc : Nat) : xi_ok cX9_takeCheapest (xi_182 pc) = true := xi_c (xi_c (zq1 xi_w182) (zq1 (zq2 xi_w182))) (xi_c (zq1 (zq2 (zq2 xi_w182))) (xi_c (zq1 (zq2 (zq2 (zq2 xi_w182)))) (zq1 (zq2 (zq2 (zq2 (zq2 xi_w182)))))))
noncomputable def zi_183_0 : ZIs := [(0, ev_10), (1, ev_295), (2, ev_13), (3, ev_262), (6, ev_252), (7, ev_967), (10, ev_13), (11, ev_283), (14, ev_252), (15, ev_967), (18, ev_10), (19, ev_11), (21, ev_12), (23, ev_192), (24, ev_968), (27, ev_12)]
noncomputable def zi_183_1 : ZIs := [(29, ev_25), (31, ev_10), (32, ev_28), (34, ev_155), (36, ev_192), (37, ev_969), (40, ev_150), (42, ev_197), (43, ev_970), (46, ev_13), (47, ev_283), (50, ev_150), (52, ev_18), (53, ev_252), (54, ev_971), (57, ev_13)]
noncomputable def zi_183_2 : ZIs := [(58, ev_283), (61, ev_150), (63, ev_12), (65, ev_299), (66, ev_13), (67, ev_341), (70, ev_150), (72, ev_18), (73, ev_25), (75, ev_320), (78, ev_972), (81, ev_150), (83, ev_197), (84, ev_973), (87, ev_13), (88, ev_283)]
noncomputable def zi_183_3 : ZIs := [(91, ev_150), (93, ev_18), (94, ev_12), (96, ev_974), (99, ev_13), (100, ev_262), (103, ev_150), (105, ev_18), (106, ev_252), (107, ev_975), (110, ev_10), (111, ev_28), (113, ev_155), (115, ev_192), (116, ev_737), (119, ev_13)]
noncomputable def zi_183_4 : ZIs := [(120, ev_262), (123, ev_150), (125, ev_18), (126, ev_252), (127, ev_976), (130, ev_13), (131, ev_262), (134, ev_150), (136, ev_198), (137, ev_299), (138, ev_13), (139, ev_341), (142, ev_150), (144, ev_18), (145, ev_25), (147, ev_320)]
noncomputable def zi_183_5 : ZIs := [(150, ev_301), (153, ev_300), (156, ev_348), (159, ev_977), (162, ev_198), (163, ev_152)]
set_option maxRecDepth 100000 in
theorem xi_w183 : zall cX9_nameRings [zi_183_0, zi_183_1, zi_183_2, zi_183_3, zi_183_4, zi_183_5] := zall_w _ _ (by decide +kernel)
noncomputable def xi_183 (pc : Nat) : XIs := cond (Nat.blt pc 91) (cond (Nat.blt pc 29) (zx zi_183_0) (cond (Nat.blt pc 58) (zx zi_183_1) (zx zi_183_2))) (cond (Nat.blt pc 120) (zx zi_183_3) (cond (Nat.blt pc 150) (zx zi_183_4) (zx zi_183_5)))
theorem xi_ok183 (pc : Nat) : xi_ok cX9_nameRings (xi_183 pc) = true := xi_c (xi_c (zq1 xi_w183) (xi_c (zq1 (zq2 xi_w183)) (zq1 (zq2 (zq2 xi_w183))))) (xi_c (zq1 (zq2 (zq2 (zq2 xi_w183)))) (xi_c (zq1 (zq2 (zq2 (zq2 (zq2 xi_w183))))) (zq1 (zq2 (zq2 (zq2 (zq2 (zq2 xi_w183))))))))
noncomputable def zi_184_0 : ZIs := [(0, ev_197), (1, ev_295), (2, ev_10), (3, ev_11), (5, ev_12), (7, ev_192), (8, ev_585), (11, ev_13), (12, ev_262), (15, ev_12), (17, ev_18), (18, ev_252), (19, ev_798), (22, ev_13), (23, ev_262), (26, ev_12)]
noncomputable def zi_184_1 : ZIs := [(28, ev_198), (29, ev_299), (30, ev_300), (33, ev_348), (36, ev_610), (39, ev_198), (40, ev_152)]
set_option maxRecDepth 100000 in
theorem xi_w184 : zall cX9_nameOthers [zi_184_0, zi_184_1] := zall_w _ _ (by decide +kernel)
noncomputable def xi_184 (pc : Nat) : XIs := cond (Nat.blt pc 28) (zx zi_184_0) (zx zi_184_1)
theorem xi_ok184 (pc : Nat) : xi_ok cX9_nameOthers (xi_184 pc) = true := xi_c (zq1 xi_w184) (zq1 (zq2 xi_w184))
noncomputable def zi_185_0 : ZIs := [(0, ev_10), (1, ev_685), (2, ev_192), (3, ev_13), (4, ev_960), (7, ev_505), (10, ev_13), (11, ev_280), (14, ev_192), (15, ev_18), (16, ev_294), (17, ev_13), (18, ev_261), (21, ev_192), (22, ev_18), (23, ev_295)]
noncomputable def zi_185_1 : ZIs := [(24, ev_198), (25, ev_197), (26, ev_978), (29, ev_13), (30, ev_287), (33, ev_192), (34, ev_316), (35, ev_154), (36, ev_13), (37, ev_362), (40, ev_197), (41, ev_154), (42, ev_485), (43, ev_194), (44, ev_13), (45, ev_261)]
noncomputable def zi_185_2 : ZIs := [(48, ev_192), (49, ev_13), (50, ev_262), (53, ev_198), (54, ev_18), (55, ev_299), (56, ev_13), (57, ev_280), (60, ev_192), (61, ev_13), (62, ev_262), (65, ev_197), (66, ev_18), (67, ev_299), (68, ev_688), (71, ev_510)]
noncomputable def zi_185_3 : ZIs := [(74, ev_260)]
set_option maxRecDepth 100000 in
theorem xi_w185 : zall cX9_shrinkRings [zi_185_0, zi_185_1, zi_185_2, zi_185_3] := zall_w _ _ (by decide +kernel)
noncomputable def xi_185 (pc : Nat) : XIs := cond (Nat.blt pc 48) (cond (Nat.blt pc 24) (zx zi_185_0) (zx zi_185_1)) (cond (Nat.blt pc 74) (zx zi_185_2) (zx zi_185_3))
theorem xi_ok185 (pc : Nat) : xi_ok cX9_shrinkRings (xi_185 pc) = true := xi_c (xi_c (zq1 xi_w185) (zq1 (zq2 xi_w185))) (xi_c (zq1 (zq2 (zq2 xi_w185))) (zq1 (zq2 (zq2 (zq2 xi_w185)))))
noncomputable def zi_186_0 : ZIs := [(0, ev_21), (1, ev_197), (2, ev_959), (5, ev_378), (8, ev_10), (9, ev_152), (10, ev_13), (11, ev_599), (14, ev_10), (15, ev_967), (18, ev_10), (19, ev_295), (20, ev_198), (21, ev_21), (22, ev_958), (25, ev_979)]
noncomputable def zi_186_1 : ZIs := [(28, ev_21), (29, ev_198), (30, ev_959), (33, ev_980), (36, ev_21), (37, ev_198), (38, ev_197), (39, ev_981), (42, ev_982), (45, ev_13), (46, ev_599), (49, ev_21), (50, ev_307), (53, ev_198), (54, ev_18), (55, ev_316)]
noncomputable def zi_186_2 : ZIs := [(56, ev_18), (57, ev_7), (58, ev_21), (59, ev_961), (62, ev_198), (63, ev_18), (64, ev_277), (65, ev_278), (66, ev_299), (67, ev_13), (68, ev_599), (71, ev_21), (72, ev_961), (75, ev_198), (76, ev_18), (77, ev_316)]
noncomputable def zi_186_3 : ZIs := [(78, ev_18), (79, ev_7), (80, ev_21), (81, ev_307), (84, ev_198), (85, ev_18), (86, ev_277), (87, ev_278), (88, ev_299), (89, ev_300), (92, ev_983), (95, ev_13), (96, ev_599), (99, ev_7), (100, ev_21), (101, ev_307)]
noncomputable def zi_186_4 : ZIs := [(104, ev_197), (105, ev_18), (106, ev_277), (107, ev_252), (108, ev_984), (111, ev_21), (112, ev_961), (115, ev_197), (116, ev_18), (117, ev_303), (118, ev_7), (119, ev_20), (120, ev_326), (123, ev_7), (124, ev_229), (127, ev_10)]
noncomputable def zi_186_5 : ZIs := [(128, ev_152)]
set_option maxRecDepth 100000 in
theorem xi_w186 : zall cX9_isSpanning [zi_186_0, zi_186_1, zi_186_2, zi_186_3, zi_186_4, zi_186_5] := zall_w _ _ (by decide +kernel)
noncomputable def xi_186 (pc : Nat) : XIs := cond (Nat.blt pc 78) (cond (Nat.blt pc 28) (zx zi_186_0) (cond (Nat.blt pc 56) (zx zi_186_1) (zx zi_186_2))) (cond (Nat.blt pc 104) (zx zi_186_3) (cond (Nat.blt pc 128) (zx zi_186_4) (zx zi_186_5)))
theorem xi_ok186 (pc : Nat) : xi_ok cX9_isSpanning (xi_186 pc) = true := xi_c (xi_c (zq1 xi_w186) (xi_c (zq1 (zq2 xi_w186)) (zq1 (zq2 (zq2 xi_w186))))) (xi_c (zq1 (zq2 (zq2 (zq2 xi_w186)))) (xi_c (zq1 (zq2 (zq2 (zq2 (zq2 xi_w186))))) (zq1 (zq2 (zq2 (zq2 (zq2 (zq2 xi_w186))))))))
noncomputable def zi_187_0 : ZIs := [(0, ev_13), (1, ev_962), (4, ev_192), (5, ev_18), (6, ev_13), (7, ev_962), (10, ev_197), (11, ev_18), (12, ev_932), (15, ev_13), (16, ev_962), (19, ev_192), (20, ev_18), (21, ev_13), (22, ev_962), (25, ev_197)]
noncomputable def zi_187_1 : ZIs := [(26, ev_18), (27, ev_690), (30, ev_192), (31, ev_197), (32, ev_656), (35, ev_7), (36, ev_229), (39, ev_10), (40, ev_152)]
set_option maxRecDepth 100000 in
theorem xi_w187 : zall cX9_isBefore [zi_187_0, zi_187_1] := zall_w _ _ (by decide +kernel)
noncomputable def xi_187 (pc : Nat) : XIs := cond (Nat.blt pc 26) (zx zi_187_0) (zx zi_187_1)
theorem xi_ok187 (pc : Nat) : xi_ok cX9_isBefore (xi_187 pc) = true := xi_c (zq1 xi_w187) (zq1 (zq2 xi_w187))
noncomputable def zi_188_0 : ZIs := [(0, ev_13), (1, ev_586), (4, ev_21), (5, ev_864), (8, ev_985), (11, ev_13), (12, ev_21), (13, ev_864), (16, ev_532), (19, ev_13), (20, ev_21), (21, ev_701), (24, ev_326), (27, ev_10), (28, ev_986), (31, ev_13)]
noncomputable def zi_188_1 : ZIs := [(32, ev_21), (33, ev_240), (36, ev_987), (39, ev_13), (40, ev_916), (43, ev_152)]
set_option maxRecDepth 100000 in
theorem xi_w188 : zall cX9_countSpanning [zi_188_0, zi_188_1] := zall_w _ _ (by decide +kernel)
noncomputable def xi_188 (pc : Nat) : XIs := cond (Nat.blt pc 32) (zx zi_188_0) (zx zi_188_1)
theorem xi_ok188 (pc : Nat) : xi_ok cX9_countSpanning (xi_188 pc) = true := xi_c (zq1 xi_w188) (zq1 (zq2 xi_w188))
noncomputable def zi_189_0 : ZIs := [(0, ev_13), (1, ev_705), (4, ev_230), (5, ev_964), (8, ev_10), (9, ev_294), (10, ev_197), (11, ev_21), (12, ev_958), (15, ev_988), (18, ev_21), (19, ev_197), (20, ev_959), (23, ev_915), (26, ev_13), (27, ev_705)]
noncomputable def zi_189_1 : ZIs := [(30, ev_21), (31, ev_307), (34, ev_197), (35, ev_18), (36, ev_176), (38, ev_355), (39, ev_21), (40, ev_307), (43, ev_197), (44, ev_18), (45, ev_22), (46, ev_316), (47, ev_154), (48, ev_228), (49, ev_457), (50, ev_194)]
noncomputable def zi_189_2 : ZIs := [(51, ev_13), (52, ev_705), (55, ev_21), (56, ev_961), (59, ev_197), (60, ev_18), (61, ev_176), (63, ev_355), (64, ev_21), (65, ev_961), (68, ev_197), (69, ev_18), (70, ev_22), (71, ev_316), (72, ev_154), (73, ev_228)]
noncomputable def zi_189_3 : ZIs := [(74, ev_457), (75, ev_194), (76, ev_13), (77, ev_705), (80, ev_21), (81, ev_307), (84, ev_197), (85, ev_18), (86, ev_176), (88, ev_355), (89, ev_21), (90, ev_961), (93, ev_197), (94, ev_18), (95, ev_22), (96, ev_316)]
noncomputable def zi_189_4 : ZIs := [(97, ev_154), (98, ev_228), (99, ev_485), (100, ev_194), (101, ev_13), (102, ev_705), (105, ev_21), (106, ev_961), (109, ev_197), (110, ev_18), (111, ev_176), (113, ev_355), (114, ev_21), (115, ev_307), (118, ev_197), (119, ev_18)]
noncomputable def zi_189_5 : ZIs := [(120, ev_22), (121, ev_316), (122, ev_154), (123, ev_228), (124, ev_485), (125, ev_194), (126, ev_304), (129, ev_989), (132, ev_10), (133, ev_294), (134, ev_197), (135, ev_13), (136, ev_705), (139, ev_14), (140, ev_990), (143, ev_13)]
noncomputable def zi_189_6 : ZIs := [(144, ev_705), (147, ev_197), (148, ev_13), (149, ev_705), (152, ev_197), (153, ev_154), (154, ev_573), (157, ev_736), (160, ev_194), (161, ev_304), (164, ev_645), (167, ev_21), (168, ev_701), (171, ev_7), (172, ev_16), (173, ev_294)]
noncomputable def zi_189_7 : ZIs := [(174, ev_228), (175, ev_924), (176, ev_10), (177, ev_25), (179, ev_150), (181, ev_197), (182, ev_863), (185, ev_484), (186, ev_230), (187, ev_157), (188, ev_769), (191, ev_484), (192, ev_13), (193, ev_150), (195, ev_197), (196, ev_245)]
noncomputable def zi_189_8 : ZIs := [(199, ev_492), (200, ev_573), (203, ev_527), (204, ev_924), (205, ev_343), (208, ev_853), (211, ev_484), (212, ev_991), (213, ev_152)]
set_option maxRecDepth 100000 in
theorem xi_w189 : zall cX9_countTrees [zi_189_0, zi_189_1, zi_189_2, zi_189_3, zi_189_4, zi_189_5, zi_189_6, zi_189_7, zi_189_8] := zall_w _ _ (by decide +kernel)
noncomputable def xi_189 (pc : Nat) : XIs := cond (Nat.blt pc 97) (cond (Nat.blt pc 51) (cond (Nat.blt pc 30) (zx zi_189_0) (zx zi_189_1)) (cond (Nat.blt pc 74) (zx zi_189_2) (zx zi_189_3))) (cond (Nat.blt pc 144) (cond (Nat.blt pc 120) (zx zi_189_4) (zx zi_189_5)) (cond (Nat.blt pc 174) (zx zi_189_6) (cond (Nat.blt pc 199) (zx zi_189_7) (zx zi_189_8))))
theorem xi_ok189 (pc : Nat) : xi_ok cX9_countTrees (xi_189 pc) = true := xi_c (xi_c (xi_c (zq1 xi_w189) (zq1 (zq2 xi_w189))) (xi_c (zq1 (zq2 (zq2 xi_w189))) (zq1 (zq2 (zq2 (zq2 xi_w189)))))) (xi_c (xi_c (zq1 (zq2 (zq2 (zq2 (zq2 xi_w189))))) (zq1 (zq2 (zq2 (zq2 (zq2 (zq2 xi_w189))))))) (xi_c (zq1 (zq2 (zq2 (zq2 (zq2 (zq2 (zq2 xi_w189))))))) (xi_c (zq1 (zq2 (zq2 (zq2 (zq2 (zq2 (zq2 (zq2 xi_w189)))))))) (zq1 (zq2 (zq2 (zq2 (zq2 (zq2 (zq2 (zq2 (zq2 xi_w189))))))))))))
noncomputable def zi_190_0 : ZIs := [(0, ev_192), (1, ev_295), (2, ev_198), (3, ev_197), (4, ev_943), (7, ev_13), (8, ev_705), (11, ev_198), (12, ev_176), (14, ev_355), (15, ev_192), (16, ev_22), (17, ev_154), (18, ev_230), (19, ev_157), (20, ev_992)]
noncomputable def zi_190_1 : ZIs := [(23, ev_300), (26, ev_305), (29, ev_198), (30, ev_197), (31, ev_993), (34, ev_230), (35, ev_481), (36, ev_198), (37, ev_192), (38, ev_903), (41, ev_13), (42, ev_198), (43, ev_192), (44, ev_994), (47, ev_13), (48, ev_705)]
noncomputable def zi_190_2 : ZIs := [(51, ev_192), (52, ev_176), (54, ev_355), (55, ev_192), (56, ev_22), (57, ev_154), (58, ev_442), (60, ev_247), (62, ev_995), (65, ev_996), (68, ev_58), (70, ev_192), (71, ev_7), (72, ev_22), (73, ev_313), (75, ev_314)]
noncomputable def zi_190_3 : ZIs := [(77, ev_197), (78, ev_997), (81, ev_573), (84, ev_13), (85, ev_705), (88, ev_314), (90, ev_176), (92, ev_355), (93, ev_192), (94, ev_22), (95, ev_154), (96, ev_485), (97, ev_460), (99, ev_492), (100, ev_573), (103, ev_527)]
noncomputable def zi_190_4 : ZIs := [(104, ev_998), (106, ev_192), (107, ev_451), (109, ev_453), (111, ev_197), (112, ev_816), (115, ev_999), (117, ev_230), (118, ev_157), (119, ev_1000), (122, ev_13), (123, ev_705), (126, ev_314), (128, ev_176), (130, ev_355), (131, ev_453)]
noncomputable def zi_190_5 : ZIs := [(133, ev_22), (134, ev_13), (135, ev_705), (138, ev_314), (140, ev_176), (142, ev_355), (143, ev_453), (145, ev_22), (146, ev_154), (147, ev_999), (149, ev_13), (150, ev_705), (153, ev_192), (154, ev_176), (156, ev_355), (157, ev_453)]
noncomputable def zi_190_6 : ZIs := [(159, ev_22), (160, ev_154), (161, ev_492), (162, ev_457), (163, ev_573), (166, ev_527), (167, ev_194), (168, ev_1001), (171, ev_279), (174, ev_318), (177, ev_650), (180, ev_198), (181, ev_192), (182, ev_540), (185, ev_247), (187, ev_195)]
noncomputable def zi_190_7 : ZIs := [(190, ev_573), (193, ev_247), (195, ev_485), (196, ev_481)]
set_option maxRecDepth 100000 in
theorem xi_w190 : zall cX9_pivot [zi_190_0, zi_190_1, zi_190_2, zi_190_3, zi_190_4, zi_190_5, zi_190_6, zi_190_7] := zall_w _ _ (by decide +kernel)
noncomputable def xi_190 (pc : Nat) : XIs := cond (Nat.blt pc 104) (cond (Nat.blt pc 51) (cond (Nat.blt pc 23) (zx zi_190_0) (zx zi_190_1)) (cond (Nat.blt pc 77) (zx zi_190_2) (zx zi_190_3))) (cond (Nat.blt pc 159) (cond (Nat.blt pc 133) (zx zi_190_4) (zx zi_190_5)) (cond (Nat.blt pc 190) (zx zi_190_6) (zx zi_190_7)))
theorem xi_ok190 (pc : Nat) : xi_ok cX9_pivot (xi_190 pc) = true := xi_c (xi_c (xi_c (zq1 xi_w190) (zq1 (zq2 xi_w190))) (xi_c (zq1 (zq2 (zq2 xi_w190))) (zq1 (zq2 (zq2 (zq2 xi_w190)))))) (xi_c (xi_c (zq1 (zq2 (zq2 (zq2 (zq2 xi_w190))))) (zq1 (zq2 (zq2 (zq2 (zq2 (zq2 xi_w190))))))) (xi_c (zq1 (zq2 (zq2 (zq2 (zq2 (zq2 (zq2 xi_w190))))))) (zq1 (zq2 (zq2 (zq2 (zq2 (zq2 (zq2 (zq2 xi_w190))))))))))
noncomputable def zi_191_0 : ZIs := [(0, ev_10), (1, ev_295), (2, ev_198), (3, ev_176), (5, ev_724), (8, ev_13), (9, ev_705), (12, ev_192), (13, ev_176), (15, ev_355), (16, ev_198), (17, ev_22), (18, ev_154), (19, ev_442), (21, ev_13), (22, ev_705)]
noncomputable def zi_191_1 : ZIs := [(25, ev_192), (26, ev_176), (28, ev_355), (29, ev_198), (30, ev_22), (31, ev_13), (32, ev_705), (35, ev_197), (36, ev_176), (38, ev_355), (39, ev_198), (40, ev_22), (41, ev_154), (42, ev_194), (43, ev_13), (44, ev_705)]
noncomputable def zi_191_2 : ZIs := [(47, ev_197), (48, ev_176), (50, ev_355), (51, ev_198), (52, ev_22), (53, ev_247), (55, ev_194), (56, ev_300), (59, ev_1002), (62, ev_260)]
set_option maxRecDepth 100000 in
theorem xi_w191 : zall cX9_swapRows [zi_191_0, zi_191_1, zi_191_2] := zall_w _ _ (by decide +kernel)
noncomputable def xi_191 (pc : Nat) : XIs := cond (Nat.blt pc 25) (zx zi_191_0) (cond (Nat.blt pc 47) (zx zi_191_1) (zx zi_191_2))
theorem xi_ok191 (pc : Nat) : xi_ok cX9_swapRows (xi_191 pc) = true := xi_c (zq1 xi_w191) (xi_c (zq1 (zq2 xi_w191)) (zq1 (zq2 (zq2 xi_w191))))
noncomputable def zi_192_0 : ZIs := [(0, ev_228), (1, ev_442), (3, ev_487), (4, ev_58), (6, ev_489), (7, ev_445), (9, ev_462), (11, ev_230), (12, ev_157), (13, ev_1003), (16, ev_462), (18, ev_228), (19, ev_179), (20, ev_230), (21, ev_157), (22, ev_1004)]
noncomputable def zi_192_1 : ZIs := [(25, ev_247), (27, ev_460), (29, ev_492), (30, ev_573), (33, ev_527), (34, ev_442), (36, ev_460), (38, ev_460), (40, ev_492), (41, ev_573), (44, ev_527), (45, ev_58), (47, ev_462), (49, ev_7), (50, ev_907), (51, ev_445)]
noncomputable def zi_192_2 : ZIs := [(53, ev_972), (56, ev_247), (58, ev_481)]
set_option maxRecDepth 100000 in
theorem xi_w192 : zall cX9_power [zi_192_0, zi_192_1, zi_192_2] := zall_w _ _ (by decide +kernel)
noncomputable def xi_192 (pc : Nat) : XIs := cond (Nat.blt pc 25) (zx zi_192_0) (cond (Nat.blt pc 53) (zx zi_192_1) (zx zi_192_2))
theorem xi_ok192 (pc : Nat) : xi_ok cX9_power (xi_192 pc) = true := xi_c (zq1 xi_w192) (xi_c (zq1 (zq2 xi_w192)) (zq1 (zq2 (zq2 xi_w192))))
noncomputable def zi_193_0 : ZIs := [(0, ev_13), (1, ev_251), (4, ev_13), (5, ev_252), (6, ev_253), (9, ev_13), (10, ev_176), (12, ev_8), (14, ev_254), (17, ev_13), (18, ev_176), (20, ev_255), (22, ev_368), (25, ev_13), (26, ev_176), (28, ev_255)]
noncomputable def zi_193_1 : ZIs := [(30, ev_1005), (33, ev_13), (34, ev_176), (36, ev_8), (38, ev_1006), (41, ev_13), (42, ev_176), (44, ev_255), (46, ev_370), (49, ev_13), (50, ev_252), (51, ev_371), (54, ev_13), (55, ev_1007), (58, ev_8), (60, ev_372)]
noncomputable def zi_193_2 : ZIs := [(63, ev_260)]
set_option maxRecDepth 100000 in
theorem xi_w193 : zall cX10_init [zi_193_0, zi_193_1, zi_193_2] := zall_w _ _ (by decide +kernel)
noncomputable def xi_193 (pc : Nat) : XIs := cond (Nat.blt pc 30) (zx zi_193_0) (cond (Nat.blt pc 63) (zx zi_193_1) (zx zi_193_2))
theorem xi_ok193 (pc : Nat) : xi_ok cX10_init (xi_193 pc) = true := xi_c (zq1 xi_w193) (xi_c (zq1 (zq2 xi_w193)) (zq1 (zq2 (zq2 xi_w193))))
