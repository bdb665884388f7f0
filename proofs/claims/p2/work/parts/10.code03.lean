def xi_0_59 : XIs := [(1230, .iaload, 1), (1231, .aload_n 3, 1), (1232, .invokestatic 244, 3), (1235, .istore 5, 2), (1237, .aload_n 2, 1), (1238, .aload_n 0, 1), (1239, .iload 4, 2), (1241, .iconst 1, 1)]
set_option maxRecDepth 100000 in
theorem xi_ok0_59 : xi_ok code xi_0_59 = true := by decide +kernel
def xi_0_60 : XIs := [(1242, .iadd, 1), (1243, .iaload, 1), (1244, .invokevirtual 246, 3), (1247, .istore 6, 2), (1249, .goto 635, 3), (1252, .aload_n 1, 1), (1253, .aload_n 0, 1), (1254, .iload 4, 2)]
set_option maxRecDepth 100000 in
theorem xi_ok0_60 : xi_ok code xi_0_60 = true := by decide +kernel
def xi_0_61 : XIs := [(1256, .iconst 1, 1), (1257, .iadd, 1), (1258, .iaload, 1), (1259, .aload_n 0, 1), (1260, .iload 4, 2), (1262, .iconst 2, 1), (1263, .iadd, 1), (1264, .iaload, 1)]
set_option maxRecDepth 100000 in
theorem xi_ok0_61 : xi_ok code xi_0_61 = true := by decide +kernel
def xi_0_62 : XIs := [(1265, .aload_n 3, 1), (1266, .invokestatic 247, 3), (1269, .istore 5, 2), (1271, .aload_n 2, 1), (1272, .aload_n 0, 1), (1273, .iload 4, 2), (1275, .iconst 1, 1)]
set_option maxRecDepth 100000 in
theorem xi_ok0_62 : xi_ok code xi_0_62 = true := by decide +kernel
def xi_0_63 : XIs := [(1276, .iadd, 1), (1277, .iaload, 1), (1278, .aload_n 0, 1), (1279, .iload 4, 2), (1281, .iconst 2, 1), (1282, .iadd, 1), (1283, .iaload, 1)]
set_option maxRecDepth 100000 in
theorem xi_ok0_63 : xi_ok code xi_0_63 = true := by decide +kernel
def xi_0_64 : XIs := [(1284, .invokevirtual 249, 3), (1287, .lstore 6, 2), (1289, .goto 595, 3), (1292, .aload_n 1, 1), (1293, .aload_n 0, 1), (1294, .iload 4, 2), (1296, .iconst 1, 1)]
set_option maxRecDepth 100000 in
theorem xi_ok0_64 : xi_ok code xi_0_64 = true := by decide +kernel
def xi_0_65 : XIs := [(1297, .iadd, 1), (1298, .iaload, 1), (1299, .aload_n 0, 1), (1300, .iload 4, 2), (1302, .iconst 2, 1), (1303, .iadd, 1), (1304, .iaload, 1)]
set_option maxRecDepth 100000 in
theorem xi_ok0_65 : xi_ok code xi_0_65 = true := by decide +kernel
def xi_0_66 : XIs := [(1305, .aload_n 0, 1), (1306, .iload 4, 2), (1308, .iconst 3, 1), (1309, .iadd, 1), (1310, .iaload, 1), (1311, .aload_n 3, 1), (1312, .invokestatic 250, 3)]
set_option maxRecDepth 100000 in
theorem xi_ok0_66 : xi_ok code xi_0_66 = true := by decide +kernel
def xi_0_67 : XIs := [(1315, .istore 5, 2), (1317, .aload_n 2, 1), (1318, .aload_n 0, 1), (1319, .iload 4, 2), (1321, .iconst 1, 1), (1322, .iadd, 1), (1323, .iaload, 1)]
set_option maxRecDepth 100000 in
theorem xi_ok0_67 : xi_ok code xi_0_67 = true := by decide +kernel
def xi_0_68 : XIs := [(1324, .aload_n 0, 1), (1325, .iload 4, 2), (1327, .iconst 2, 1), (1328, .iadd, 1), (1329, .iaload, 1), (1330, .aload_n 0, 1), (1331, .iload 4, 2)]
set_option maxRecDepth 100000 in
theorem xi_ok0_68 : xi_ok code xi_0_68 = true := by decide +kernel
def xi_0_69 : XIs := [(1333, .iconst 3, 1), (1334, .iadd, 1), (1335, .iaload, 1), (1336, .invokevirtual 252, 3), (1339, .istore 6, 2), (1341, .goto 543, 3), (1344, .aload_n 1, 1)]
set_option maxRecDepth 100000 in
theorem xi_ok0_69 : xi_ok code xi_0_69 = true := by decide +kernel
def xi_0_70 : XIs := [(1345, .aload_n 0, 1), (1346, .iload 4, 2), (1348, .iconst 1, 1), (1349, .iadd, 1), (1350, .iaload, 1), (1351, .aload_n 0, 1), (1352, .iload 4, 2)]
set_option maxRecDepth 100000 in
theorem xi_ok0_70 : xi_ok code xi_0_70 = true := by decide +kernel
def xi_0_71 : XIs := [(1354, .iconst 2, 1), (1355, .iadd, 1), (1356, .iaload, 1), (1357, .aload_n 0, 1), (1358, .iload 4, 2), (1360, .iconst 3, 1), (1361, .iadd, 1)]
set_option maxRecDepth 100000 in
theorem xi_ok0_71 : xi_ok code xi_0_71 = true := by decide +kernel
def xi_0_72 : XIs := [(1362, .iaload, 1), (1363, .aload_n 3, 1), (1364, .invokestatic 253, 3), (1367, .istore 5, 2), (1369, .aload_n 2, 1), (1370, .aload_n 0, 1), (1371, .iload 4, 2)]
set_option maxRecDepth 100000 in
theorem xi_ok0_72 : xi_ok code xi_0_72 = true := by decide +kernel
def xi_0_73 : XIs := [(1373, .iconst 1, 1), (1374, .iadd, 1), (1375, .iaload, 1), (1376, .aload_n 0, 1), (1377, .iload 4, 2), (1379, .iconst 2, 1), (1380, .iadd, 1)]
set_option maxRecDepth 100000 in
theorem xi_ok0_73 : xi_ok code xi_0_73 = true := by decide +kernel
def xi_0_74 : XIs := [(1381, .iaload, 1), (1382, .aload_n 0, 1), (1383, .iload 4, 2), (1385, .iconst 3, 1), (1386, .iadd, 1), (1387, .iaload, 1), (1388, .invokevirtual 255, 3)]
set_option maxRecDepth 100000 in
theorem xi_ok0_74 : xi_ok code xi_0_74 = true := by decide +kernel
def xi_0_75 : XIs := [(1391, .lstore 6, 2), (1393, .goto 491, 3), (1396, .aload_n 1, 1), (1397, .aload_n 0, 1), (1398, .iload 4, 2), (1400, .iconst 1, 1), (1401, .iadd, 1)]
set_option maxRecDepth 100000 in
theorem xi_ok0_75 : xi_ok code xi_0_75 = true := by decide +kernel
def xi_0_76 : XIs := [(1402, .iaload, 1), (1403, .aload_n 3, 1), (1404, .invokestatic 256, 3), (1407, .istore 5, 2), (1409, .aload_n 2, 1), (1410, .aload_n 0, 1), (1411, .iload 4, 2)]
set_option maxRecDepth 100000 in
theorem xi_ok0_76 : xi_ok code xi_0_76 = true := by decide +kernel
def xi_0_77 : XIs := [(1413, .iconst 1, 1), (1414, .iadd, 1), (1415, .iaload, 1), (1416, .invokevirtual 258, 3), (1419, .lstore 6, 2), (1421, .goto 463, 3), (1424, .aload_n 1, 1)]
set_option maxRecDepth 100000 in
theorem xi_ok0_77 : xi_ok code xi_0_77 = true := by decide +kernel
def xi_0_78 : XIs := [(1425, .aload_n 0, 1), (1426, .iload 4, 2), (1428, .iconst 1, 1), (1429, .iadd, 1), (1430, .iaload, 1), (1431, .aload_n 3, 1), (1432, .invokestatic 259, 3)]
set_option maxRecDepth 100000 in
theorem xi_ok0_78 : xi_ok code xi_0_78 = true := by decide +kernel
def xi_0_79 : XIs := [(1435, .istore 5, 2), (1437, .aload_n 2, 1), (1438, .aload_n 0, 1), (1439, .iload 4, 2), (1441, .iconst 1, 1), (1442, .iadd, 1), (1443, .iaload, 1)]
set_option maxRecDepth 100000 in
theorem xi_ok0_79 : xi_ok code xi_0_79 = true := by decide +kernel
def xi_0_80 : XIs := [(1444, .invokevirtual 261, 3), (1447, .lstore 6, 2), (1449, .goto 435, 3), (1452, .aload_n 1, 1), (1453, .aload_n 0, 1), (1454, .iload 4, 2), (1456, .iconst 1, 1)]
set_option maxRecDepth 100000 in
theorem xi_ok0_80 : xi_ok code xi_0_80 = true := by decide +kernel
def xi_0_81 : XIs := [(1457, .iadd, 1), (1458, .iaload, 1), (1459, .aload_n 3, 1), (1460, .invokestatic 262, 3), (1463, .istore 5, 2), (1465, .aload_n 2, 1), (1466, .aload_n 0, 1)]
set_option maxRecDepth 100000 in
theorem xi_ok0_81 : xi_ok code xi_0_81 = true := by decide +kernel
def xi_0_82 : XIs := [(1467, .iload 4, 2), (1469, .iconst 1, 1), (1470, .iadd, 1), (1471, .iaload, 1), (1472, .invokevirtual 264, 3), (1475, .istore 6, 2), (1477, .goto 407, 3)]
set_option maxRecDepth 100000 in
theorem xi_ok0_82 : xi_ok code xi_0_82 = true := by decide +kernel
def xi_0_83 : XIs := [(1480, .aload_n 1, 1), (1481, .invokevirtual 265, 3), (1484, .pop, 1), (1485, .aload_n 2, 1), (1486, .invokevirtual 268, 3), (1489, .pop, 1)]
set_option maxRecDepth 100000 in
theorem xi_ok0_83 : xi_ok code xi_0_83 = true := by decide +kernel
def xi_0_84 : XIs := [(1490, .goto 394, 3), (1493, .aload_n 1, 1), (1494, .aload_n 0, 1), (1495, .iload 4, 2), (1497, .iconst 1, 1), (1498, .iadd, 1)]
set_option maxRecDepth 100000 in
theorem xi_ok0_84 : xi_ok code xi_0_84 = true := by decide +kernel
