def xi_0_60 : XIs := [(1241, .istore 5, 2), (1243, .aload_n 2, 1), (1244, .aload_n 0, 1), (1245, .iload 4, 2), (1247, .iconst 1, 1), (1248, .iadd, 1), (1249, .iaload, 1), (1250, .aload_n 0, 1)]
set_option maxRecDepth 100000 in
theorem xi_ok0_60 : xi_ok code xi_0_60 = true := by decide +kernel
def xi_0_61 : XIs := [(1251, .iload 4, 2), (1253, .iconst 2, 1), (1254, .iadd, 1), (1255, .iaload, 1), (1256, .invokevirtual 246, 3), (1259, .lstore 6, 2), (1261, .goto 595, 3), (1264, .aload_n 1, 1)]
set_option maxRecDepth 100000 in
theorem xi_ok0_61 : xi_ok code xi_0_61 = true := by decide +kernel
def xi_0_62 : XIs := [(1265, .aload_n 0, 1), (1266, .iload 4, 2), (1268, .iconst 1, 1), (1269, .iadd, 1), (1270, .iaload, 1), (1271, .aload_n 0, 1), (1272, .iload 4, 2)]
set_option maxRecDepth 100000 in
theorem xi_ok0_62 : xi_ok code xi_0_62 = true := by decide +kernel
def xi_0_63 : XIs := [(1274, .iconst 2, 1), (1275, .iadd, 1), (1276, .iaload, 1), (1277, .aload_n 0, 1), (1278, .iload 4, 2), (1280, .iconst 3, 1), (1281, .iadd, 1)]
set_option maxRecDepth 100000 in
theorem xi_ok0_63 : xi_ok code xi_0_63 = true := by decide +kernel
def xi_0_64 : XIs := [(1282, .iaload, 1), (1283, .aload_n 3, 1), (1284, .invokestatic 247, 3), (1287, .istore 5, 2), (1289, .aload_n 2, 1), (1290, .aload_n 0, 1), (1291, .iload 4, 2)]
set_option maxRecDepth 100000 in
theorem xi_ok0_64 : xi_ok code xi_0_64 = true := by decide +kernel
def xi_0_65 : XIs := [(1293, .iconst 1, 1), (1294, .iadd, 1), (1295, .iaload, 1), (1296, .aload_n 0, 1), (1297, .iload 4, 2), (1299, .iconst 2, 1), (1300, .iadd, 1)]
set_option maxRecDepth 100000 in
theorem xi_ok0_65 : xi_ok code xi_0_65 = true := by decide +kernel
def xi_0_66 : XIs := [(1301, .iaload, 1), (1302, .aload_n 0, 1), (1303, .iload 4, 2), (1305, .iconst 3, 1), (1306, .iadd, 1), (1307, .iaload, 1), (1308, .invokevirtual 249, 3)]
set_option maxRecDepth 100000 in
theorem xi_ok0_66 : xi_ok code xi_0_66 = true := by decide +kernel
def xi_0_67 : XIs := [(1311, .istore 6, 2), (1313, .goto 543, 3), (1316, .aload_n 1, 1), (1317, .aload_n 0, 1), (1318, .iload 4, 2), (1320, .iconst 1, 1), (1321, .iadd, 1)]
set_option maxRecDepth 100000 in
theorem xi_ok0_67 : xi_ok code xi_0_67 = true := by decide +kernel
def xi_0_68 : XIs := [(1322, .iaload, 1), (1323, .aload_n 0, 1), (1324, .iload 4, 2), (1326, .iconst 2, 1), (1327, .iadd, 1), (1328, .iaload, 1), (1329, .aload_n 0, 1)]
set_option maxRecDepth 100000 in
theorem xi_ok0_68 : xi_ok code xi_0_68 = true := by decide +kernel
def xi_0_69 : XIs := [(1330, .iload 4, 2), (1332, .iconst 3, 1), (1333, .iadd, 1), (1334, .iaload, 1), (1335, .aload_n 3, 1), (1336, .invokestatic 250, 3), (1339, .istore 5, 2)]
set_option maxRecDepth 100000 in
theorem xi_ok0_69 : xi_ok code xi_0_69 = true := by decide +kernel
def xi_0_70 : XIs := [(1341, .aload_n 2, 1), (1342, .aload_n 0, 1), (1343, .iload 4, 2), (1345, .iconst 1, 1), (1346, .iadd, 1), (1347, .iaload, 1), (1348, .aload_n 0, 1)]
set_option maxRecDepth 100000 in
theorem xi_ok0_70 : xi_ok code xi_0_70 = true := by decide +kernel
def xi_0_71 : XIs := [(1349, .iload 4, 2), (1351, .iconst 2, 1), (1352, .iadd, 1), (1353, .iaload, 1), (1354, .aload_n 0, 1), (1355, .iload 4, 2), (1357, .iconst 3, 1)]
set_option maxRecDepth 100000 in
theorem xi_ok0_71 : xi_ok code xi_0_71 = true := by decide +kernel
def xi_0_72 : XIs := [(1358, .iadd, 1), (1359, .iaload, 1), (1360, .invokevirtual 252, 3), (1363, .lstore 6, 2), (1365, .goto 491, 3), (1368, .aload_n 1, 1), (1369, .aload_n 0, 1)]
set_option maxRecDepth 100000 in
theorem xi_ok0_72 : xi_ok code xi_0_72 = true := by decide +kernel
def xi_0_73 : XIs := [(1370, .iload 4, 2), (1372, .iconst 1, 1), (1373, .iadd, 1), (1374, .iaload, 1), (1375, .aload_n 3, 1), (1376, .invokestatic 253, 3), (1379, .istore 5, 2)]
set_option maxRecDepth 100000 in
theorem xi_ok0_73 : xi_ok code xi_0_73 = true := by decide +kernel
def xi_0_74 : XIs := [(1381, .aload_n 2, 1), (1382, .aload_n 0, 1), (1383, .iload 4, 2), (1385, .iconst 1, 1), (1386, .iadd, 1), (1387, .iaload, 1), (1388, .invokevirtual 255, 3)]
set_option maxRecDepth 100000 in
theorem xi_ok0_74 : xi_ok code xi_0_74 = true := by decide +kernel
def xi_0_75 : XIs := [(1391, .lstore 6, 2), (1393, .goto 463, 3), (1396, .aload_n 1, 1), (1397, .aload_n 0, 1), (1398, .iload 4, 2), (1400, .iconst 1, 1), (1401, .iadd, 1)]
set_option maxRecDepth 100000 in
theorem xi_ok0_75 : xi_ok code xi_0_75 = true := by decide +kernel
def xi_0_76 : XIs := [(1402, .iaload, 1), (1403, .aload_n 3, 1), (1404, .invokestatic 256, 3), (1407, .istore 5, 2), (1409, .aload_n 2, 1), (1410, .aload_n 0, 1), (1411, .iload 4, 2)]
set_option maxRecDepth 100000 in
theorem xi_ok0_76 : xi_ok code xi_0_76 = true := by decide +kernel
def xi_0_77 : XIs := [(1413, .iconst 1, 1), (1414, .iadd, 1), (1415, .iaload, 1), (1416, .invokevirtual 258, 3), (1419, .lstore 6, 2), (1421, .goto 435, 3), (1424, .aload_n 1, 1)]
set_option maxRecDepth 100000 in
theorem xi_ok0_77 : xi_ok code xi_0_77 = true := by decide +kernel
def xi_0_78 : XIs := [(1425, .aload_n 0, 1), (1426, .iload 4, 2), (1428, .iconst 1, 1), (1429, .iadd, 1), (1430, .iaload, 1), (1431, .aload_n 3, 1), (1432, .invokestatic 259, 3)]
set_option maxRecDepth 100000 in
theorem xi_ok0_78 : xi_ok code xi_0_78 = true := by decide +kernel
def xi_0_79 : XIs := [(1435, .istore 5, 2), (1437, .aload_n 2, 1), (1438, .aload_n 0, 1), (1439, .iload 4, 2), (1441, .iconst 1, 1), (1442, .iadd, 1), (1443, .iaload, 1)]
set_option maxRecDepth 100000 in
theorem xi_ok0_79 : xi_ok code xi_0_79 = true := by decide +kernel
def xi_0_80 : XIs := [(1444, .invokevirtual 261, 3), (1447, .istore 6, 2), (1449, .goto 407, 3), (1452, .aload_n 1, 1), (1453, .invokevirtual 262, 3), (1456, .pop, 1), (1457, .aload_n 2, 1)]
set_option maxRecDepth 100000 in
theorem xi_ok0_80 : xi_ok code xi_0_80 = true := by decide +kernel
def xi_0_81 : XIs := [(1458, .invokevirtual 265, 3), (1461, .pop, 1), (1462, .goto 394, 3), (1465, .aload_n 1, 1), (1466, .aload_n 0, 1), (1467, .iload 4, 2), (1469, .iconst 1, 1)]
set_option maxRecDepth 100000 in
theorem xi_ok0_81 : xi_ok code xi_0_81 = true := by decide +kernel
def xi_0_82 : XIs := [(1470, .iadd, 1), (1471, .iaload, 1), (1472, .aload_n 0, 1), (1473, .iload 4, 2), (1475, .iconst 2, 1), (1476, .iadd, 1), (1477, .iaload, 1)]
set_option maxRecDepth 100000 in
theorem xi_ok0_82 : xi_ok code xi_0_82 = true := by decide +kernel
def xi_0_83 : XIs := [(1478, .aload_n 3, 1), (1479, .invokestatic 266, 3), (1482, .istore 5, 2), (1484, .aload_n 2, 1), (1485, .aload_n 0, 1), (1486, .iload 4, 2)]
set_option maxRecDepth 100000 in
theorem xi_ok0_83 : xi_ok code xi_0_83 = true := by decide +kernel
def xi_0_84 : XIs := [(1488, .iconst 1, 1), (1489, .iadd, 1), (1490, .iaload, 1), (1491, .aload_n 0, 1), (1492, .iload 4, 2), (1494, .iconst 2, 1)]
set_option maxRecDepth 100000 in
theorem xi_ok0_84 : xi_ok code xi_0_84 = true := by decide +kernel
def xi_0_85 : XIs := [(1495, .iadd, 1), (1496, .iaload, 1), (1497, .invokevirtual 268, 3), (1500, .lstore 6, 2), (1502, .goto 354, 3), (1505, .aload_n 1, 1)]
set_option maxRecDepth 100000 in
theorem xi_ok0_85 : xi_ok code xi_0_85 = true := by decide +kernel
