def xi_0_32 : XIs := [(997, .invokevirtual 195, 3), (1000, .if_icmp .eq 1968, 3), (1005, .aload_n 1, 1), (1006, .invokevirtual 196, 3), (1009, .aload_n 2, 1), (1010, .invokevirtual 199, 3), (1013, .if_icmp .eq 1955, 3), (1018, .aload_n 1, 1), (1019, .aload_n 0, 1)]
set_option maxRecDepth 100000 in
theorem xi_ok0_32 : xi_ok code xi_0_32 = true := by decide +kernel
def xi_0_33 : XIs := [(1020, .iload 4, 2), (1022, .iconst 1, 1), (1023, .iadd, 1), (1024, .iaload, 1), (1025, .aload_n 3, 1), (1026, .invokestatic 200, 3), (1029, .istore 5, 2), (1031, .aload_n 2, 1), (1032, .aload_n 0, 1)]
set_option maxRecDepth 100000 in
theorem xi_ok0_33 : xi_ok code xi_0_33 = true := by decide +kernel
def xi_0_34 : XIs := [(1033, .iload 4, 2), (1035, .iconst 1, 1), (1036, .iadd, 1), (1037, .iaload, 1), (1038, .invokevirtual 202, 3), (1041, .istore 6, 2), (1043, .aload_n 2, 1), (1044, .invokevirtual 151, 3), (1047, .iload 5, 2)]
set_option maxRecDepth 100000 in
theorem xi_ok0_34 : xi_ok code xi_0_34 = true := by decide +kernel
def xi_0_35 : XIs := [(1049, .if_icmp .eq 5, 3), (1054, .iload 5, 2), (1056, .ifCond .ne 15, 3), (1059, .aload_n 3, 1), (1060, .iconst 0, 1), (1061, .laload, 1), (1062, .iload 6, 2), (1064, .i2l, 1), (1065, .lcmp, 1)]
set_option maxRecDepth 100000 in
theorem xi_ok0_35 : xi_ok code xi_0_35 = true := by decide +kernel
def xi_0_36 : XIs := [(1066, .ifCond .eq 5, 3), (1071, .goto 1897, 3), (1074, .aload_n 1, 1), (1075, .invokevirtual 203, 3), (1078, .aload_n 2, 1), (1079, .invokevirtual 206, 3), (1082, .if_icmp .eq 1886, 3), (1087, .aload_n 1, 1), (1088, .aload_n 0, 1)]
set_option maxRecDepth 100000 in
theorem xi_ok0_36 : xi_ok code xi_0_36 = true := by decide +kernel
def xi_0_37 : XIs := [(1089, .iload 4, 2), (1091, .iconst 1, 1), (1092, .iadd, 1), (1093, .iaload, 1), (1094, .aload_n 3, 1), (1095, .invokestatic 207, 3), (1098, .istore 5, 2), (1100, .aload_n 2, 1), (1101, .aload_n 0, 1)]
set_option maxRecDepth 100000 in
theorem xi_ok0_37 : xi_ok code xi_0_37 = true := by decide +kernel
def xi_0_38 : XIs := [(1102, .iload 4, 2), (1104, .iconst 1, 1), (1105, .iadd, 1), (1106, .iaload, 1), (1107, .invokevirtual 209, 3), (1110, .istore 6, 2), (1112, .aload_n 2, 1), (1113, .invokevirtual 151, 3)]
set_option maxRecDepth 100000 in
theorem xi_ok0_38 : xi_ok code xi_0_38 = true := by decide +kernel
def xi_0_39 : XIs := [(1116, .iload 5, 2), (1118, .if_icmp .eq 5, 3), (1123, .iload 5, 2), (1125, .ifCond .ne 15, 3), (1140, .goto 1828, 3), (1143, .aload_n 1, 1), (1144, .aload_n 0, 1), (1145, .iload 4, 2)]
set_option maxRecDepth 100000 in
theorem xi_ok0_39 : xi_ok code xi_0_39 = true := by decide +kernel
def xi_0_40 : XIs := [(1147, .iconst 1, 1), (1148, .iadd, 1), (1149, .iaload, 1), (1150, .aload_n 0, 1), (1151, .iload 4, 2), (1153, .iconst 2, 1), (1154, .iadd, 1), (1155, .iaload, 1)]
set_option maxRecDepth 100000 in
theorem xi_ok0_40 : xi_ok code xi_0_40 = true := by decide +kernel
def xi_0_41 : XIs := [(1156, .aload_n 3, 1), (1157, .invokestatic 210, 3), (1160, .istore 5, 2), (1162, .aload_n 2, 1), (1163, .aload_n 0, 1), (1164, .iload 4, 2), (1166, .iconst 1, 1), (1167, .iadd, 1)]
set_option maxRecDepth 100000 in
theorem xi_ok0_41 : xi_ok code xi_0_41 = true := by decide +kernel
def xi_0_42 : XIs := [(1168, .iaload, 1), (1169, .aload_n 0, 1), (1170, .iload 4, 2), (1172, .iconst 2, 1), (1173, .iadd, 1), (1174, .iaload, 1), (1175, .invokevirtual 212, 3), (1178, .lstore 6, 2)]
set_option maxRecDepth 100000 in
theorem xi_ok0_42 : xi_ok code xi_0_42 = true := by decide +kernel
def xi_0_43 : XIs := [(1180, .aload_n 2, 1), (1181, .invokevirtual 151, 3), (1184, .iload 5, 2), (1186, .if_icmp .eq 5, 3), (1191, .iload 5, 2), (1193, .ifCond .ne 14, 3), (1207, .goto 1761, 3), (1210, .aload_n 1, 1)]
set_option maxRecDepth 100000 in
theorem xi_ok0_43 : xi_ok code xi_0_43 = true := by decide +kernel
def xi_0_44 : XIs := [(1211, .aload_n 0, 1), (1212, .iload 4, 2), (1214, .iconst 1, 1), (1215, .iadd, 1), (1216, .iaload, 1), (1217, .aload_n 0, 1), (1218, .iload 4, 2), (1220, .iconst 2, 1)]
set_option maxRecDepth 100000 in
theorem xi_ok0_44 : xi_ok code xi_0_44 = true := by decide +kernel
def xi_0_45 : XIs := [(1221, .iadd, 1), (1222, .iaload, 1), (1223, .aload_n 0, 1), (1224, .iload 4, 2), (1226, .iconst 3, 1), (1227, .iadd, 1), (1228, .iaload, 1), (1229, .aload_n 3, 1)]
set_option maxRecDepth 100000 in
theorem xi_ok0_45 : xi_ok code xi_0_45 = true := by decide +kernel
def xi_0_46 : XIs := [(1230, .invokestatic 213, 3), (1233, .istore 5, 2), (1235, .aload_n 2, 1), (1236, .aload_n 0, 1), (1237, .iload 4, 2), (1239, .iconst 1, 1), (1240, .iadd, 1), (1241, .iaload, 1)]
set_option maxRecDepth 100000 in
theorem xi_ok0_46 : xi_ok code xi_0_46 = true := by decide +kernel
def xi_0_47 : XIs := [(1242, .aload_n 0, 1), (1243, .iload 4, 2), (1245, .iconst 2, 1), (1246, .iadd, 1), (1247, .iaload, 1), (1248, .aload_n 0, 1), (1249, .iload 4, 2), (1251, .iconst 3, 1)]
set_option maxRecDepth 100000 in
theorem xi_ok0_47 : xi_ok code xi_0_47 = true := by decide +kernel
def xi_0_48 : XIs := [(1252, .iadd, 1), (1253, .iaload, 1), (1254, .invokevirtual 215, 3), (1257, .istore 6, 2), (1259, .aload_n 2, 1), (1260, .invokevirtual 151, 3), (1263, .iload 5, 2), (1265, .if_icmp .eq 5, 3)]
set_option maxRecDepth 100000 in
theorem xi_ok0_48 : xi_ok code xi_0_48 = true := by decide +kernel
def xi_0_49 : XIs := [(1270, .iload 5, 2), (1272, .ifCond .ne 15, 3), (1287, .goto 1681, 3), (1290, .aload_n 1, 1), (1291, .aload_n 0, 1), (1292, .iload 4, 2), (1294, .iconst 1, 1)]
set_option maxRecDepth 100000 in
theorem xi_ok0_49 : xi_ok code xi_0_49 = true := by decide +kernel
def xi_0_50 : XIs := [(1295, .iadd, 1), (1296, .iaload, 1), (1297, .aload_n 0, 1), (1298, .iload 4, 2), (1300, .iconst 2, 1), (1301, .iadd, 1), (1302, .iaload, 1)]
set_option maxRecDepth 100000 in
theorem xi_ok0_50 : xi_ok code xi_0_50 = true := by decide +kernel
def xi_0_51 : XIs := [(1303, .aload_n 3, 1), (1304, .invokestatic 216, 3), (1307, .istore 5, 2), (1309, .aload_n 2, 1), (1310, .aload_n 0, 1), (1311, .iload 4, 2), (1313, .iconst 1, 1)]
set_option maxRecDepth 100000 in
theorem xi_ok0_51 : xi_ok code xi_0_51 = true := by decide +kernel
def xi_0_52 : XIs := [(1314, .iadd, 1), (1315, .iaload, 1), (1316, .aload_n 0, 1), (1317, .iload 4, 2), (1319, .iconst 2, 1), (1320, .iadd, 1), (1321, .iaload, 1)]
set_option maxRecDepth 100000 in
theorem xi_ok0_52 : xi_ok code xi_0_52 = true := by decide +kernel
def xi_0_53 : XIs := [(1322, .invokevirtual 218, 3), (1325, .istore 6, 2), (1327, .aload_n 2, 1), (1328, .invokevirtual 151, 3), (1331, .iload 5, 2), (1333, .if_icmp .eq 5, 3), (1338, .iload 5, 2)]
set_option maxRecDepth 100000 in
theorem xi_ok0_53 : xi_ok code xi_0_53 = true := by decide +kernel
def xi_0_54 : XIs := [(1340, .ifCond .ne 15, 3), (1355, .goto 1613, 3), (1358, .aload_n 1, 1), (1359, .aload_n 0, 1), (1360, .iload 4, 2), (1362, .iconst 1, 1), (1363, .iadd, 1)]
set_option maxRecDepth 100000 in
theorem xi_ok0_54 : xi_ok code xi_0_54 = true := by decide +kernel
def xi_0_55 : XIs := [(1364, .iaload, 1), (1365, .aload_n 0, 1), (1366, .iload 4, 2), (1368, .iconst 2, 1), (1369, .iadd, 1), (1370, .iaload, 1), (1371, .aload_n 3, 1)]
set_option maxRecDepth 100000 in
theorem xi_ok0_55 : xi_ok code xi_0_55 = true := by decide +kernel
def xi_0_56 : XIs := [(1372, .invokestatic 219, 3), (1375, .istore 5, 2), (1377, .aload_n 2, 1), (1378, .aload_n 0, 1), (1379, .iload 4, 2), (1381, .iconst 1, 1), (1382, .iadd, 1)]
set_option maxRecDepth 100000 in
theorem xi_ok0_56 : xi_ok code xi_0_56 = true := by decide +kernel
def xi_0_57 : XIs := [(1383, .iaload, 1), (1384, .aload_n 0, 1), (1385, .iload 4, 2), (1387, .iconst 2, 1), (1388, .iadd, 1), (1389, .iaload, 1), (1390, .invokevirtual 221, 3)]
set_option maxRecDepth 100000 in
theorem xi_ok0_57 : xi_ok code xi_0_57 = true := by decide +kernel
def xi_0_58 : XIs := [(1393, .istore 6, 2), (1395, .aload_n 2, 1), (1396, .invokevirtual 151, 3), (1399, .iload 5, 2), (1401, .if_icmp .eq 5, 3), (1406, .iload 5, 2), (1408, .ifCond .ne 15, 3)]
set_option maxRecDepth 100000 in
theorem xi_ok0_58 : xi_ok code xi_0_58 = true := by decide +kernel
