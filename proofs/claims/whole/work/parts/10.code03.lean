def xi_0_59 : XIs := [(1263, .iload 5, 2), (1265, .if_icmp .eq 5, 3), (1268, .iconst 0, 1), (1269, .ireturn, 1), (1270, .iload 5, 2), (1272, .ifCond .ne 15, 3), (1275, .aload_n 3, 1)]
set_option maxRecDepth 100000 in
theorem xi_ok0_59 : xi_ok code xi_0_59 = true := by decide +kernel
def xi_0_60 : XIs := [(1276, .iconst 0, 1), (1277, .laload, 1), (1278, .iload 6, 2), (1280, .i2l, 1), (1281, .lcmp, 1), (1282, .ifCond .eq 5, 3), (1285, .iconst 0, 1)]
set_option maxRecDepth 100000 in
theorem xi_ok0_60 : xi_ok code xi_0_60 = true := by decide +kernel
def xi_0_61 : XIs := [(1286, .ireturn, 1), (1287, .goto 1681, 3), (1290, .aload_n 1, 1), (1291, .aload_n 0, 1), (1292, .iload 4, 2), (1294, .iconst 1, 1), (1295, .iadd, 1)]
set_option maxRecDepth 100000 in
theorem xi_ok0_61 : xi_ok code xi_0_61 = true := by decide +kernel
def xi_0_62 : XIs := [(1296, .iaload, 1), (1297, .aload_n 0, 1), (1298, .iload 4, 2), (1300, .iconst 2, 1), (1301, .iadd, 1), (1302, .iaload, 1), (1303, .aload_n 3, 1)]
set_option maxRecDepth 100000 in
theorem xi_ok0_62 : xi_ok code xi_0_62 = true := by decide +kernel
def xi_0_63 : XIs := [(1304, .invokestatic 216, 3), (1307, .istore 5, 2), (1309, .aload_n 2, 1), (1310, .aload_n 0, 1), (1311, .iload 4, 2), (1313, .iconst 1, 1), (1314, .iadd, 1)]
set_option maxRecDepth 100000 in
theorem xi_ok0_63 : xi_ok code xi_0_63 = true := by decide +kernel
def xi_0_64 : XIs := [(1315, .iaload, 1), (1316, .aload_n 0, 1), (1317, .iload 4, 2), (1319, .iconst 2, 1), (1320, .iadd, 1), (1321, .iaload, 1), (1322, .invokevirtual 218, 3)]
set_option maxRecDepth 100000 in
theorem xi_ok0_64 : xi_ok code xi_0_64 = true := by decide +kernel
def xi_0_65 : XIs := [(1325, .istore 6, 2), (1327, .aload_n 2, 1), (1328, .invokevirtual 151, 3), (1331, .iload 5, 2), (1333, .if_icmp .eq 5, 3), (1336, .iconst 0, 1), (1337, .ireturn, 1)]
set_option maxRecDepth 100000 in
theorem xi_ok0_65 : xi_ok code xi_0_65 = true := by decide +kernel
def xi_0_66 : XIs := [(1338, .iload 5, 2), (1340, .ifCond .ne 15, 3), (1343, .aload_n 3, 1), (1344, .iconst 0, 1), (1345, .laload, 1), (1346, .iload 6, 2), (1348, .i2l, 1)]
set_option maxRecDepth 100000 in
theorem xi_ok0_66 : xi_ok code xi_0_66 = true := by decide +kernel
def xi_0_67 : XIs := [(1349, .lcmp, 1), (1350, .ifCond .eq 5, 3), (1353, .iconst 0, 1), (1354, .ireturn, 1), (1355, .goto 1613, 3), (1358, .aload_n 1, 1), (1359, .aload_n 0, 1)]
set_option maxRecDepth 100000 in
theorem xi_ok0_67 : xi_ok code xi_0_67 = true := by decide +kernel
def xi_0_68 : XIs := [(1360, .iload 4, 2), (1362, .iconst 1, 1), (1363, .iadd, 1), (1364, .iaload, 1), (1365, .aload_n 0, 1), (1366, .iload 4, 2), (1368, .iconst 2, 1)]
set_option maxRecDepth 100000 in
theorem xi_ok0_68 : xi_ok code xi_0_68 = true := by decide +kernel
def xi_0_69 : XIs := [(1369, .iadd, 1), (1370, .iaload, 1), (1371, .aload_n 3, 1), (1372, .invokestatic 219, 3), (1375, .istore 5, 2), (1377, .aload_n 2, 1), (1378, .aload_n 0, 1)]
set_option maxRecDepth 100000 in
theorem xi_ok0_69 : xi_ok code xi_0_69 = true := by decide +kernel
def xi_0_70 : XIs := [(1379, .iload 4, 2), (1381, .iconst 1, 1), (1382, .iadd, 1), (1383, .iaload, 1), (1384, .aload_n 0, 1), (1385, .iload 4, 2), (1387, .iconst 2, 1)]
set_option maxRecDepth 100000 in
theorem xi_ok0_70 : xi_ok code xi_0_70 = true := by decide +kernel
def xi_0_71 : XIs := [(1388, .iadd, 1), (1389, .iaload, 1), (1390, .invokevirtual 221, 3), (1393, .istore 6, 2), (1395, .aload_n 2, 1), (1396, .invokevirtual 151, 3), (1399, .iload 5, 2)]
set_option maxRecDepth 100000 in
theorem xi_ok0_71 : xi_ok code xi_0_71 = true := by decide +kernel
def xi_0_72 : XIs := [(1401, .if_icmp .eq 5, 3), (1404, .iconst 0, 1), (1405, .ireturn, 1), (1406, .iload 5, 2), (1408, .ifCond .ne 15, 3), (1411, .aload_n 3, 1), (1412, .iconst 0, 1)]
set_option maxRecDepth 100000 in
theorem xi_ok0_72 : xi_ok code xi_0_72 = true := by decide +kernel
def xi_0_73 : XIs := [(1413, .laload, 1), (1414, .iload 6, 2), (1416, .i2l, 1), (1417, .lcmp, 1), (1418, .ifCond .eq 5, 3), (1421, .iconst 0, 1), (1422, .ireturn, 1)]
set_option maxRecDepth 100000 in
theorem xi_ok0_73 : xi_ok code xi_0_73 = true := by decide +kernel
def xi_0_74 : XIs := [(1423, .goto 1545, 3), (1426, .aload_n 1, 1), (1427, .aload_n 0, 1), (1428, .iload 4, 2), (1430, .iconst 1, 1), (1431, .iadd, 1), (1432, .iaload, 1)]
set_option maxRecDepth 100000 in
theorem xi_ok0_74 : xi_ok code xi_0_74 = true := by decide +kernel
def xi_0_75 : XIs := [(1433, .aload_n 0, 1), (1434, .iload 4, 2), (1436, .iconst 2, 1), (1437, .iadd, 1), (1438, .iaload, 1), (1439, .aload_n 0, 1), (1440, .iload 4, 2)]
set_option maxRecDepth 100000 in
theorem xi_ok0_75 : xi_ok code xi_0_75 = true := by decide +kernel
def xi_0_76 : XIs := [(1442, .iconst 3, 1), (1443, .iadd, 1), (1444, .iaload, 1), (1445, .aload_n 0, 1), (1446, .iload 4, 2), (1448, .iconst 4, 1), (1449, .iadd, 1)]
set_option maxRecDepth 100000 in
theorem xi_ok0_76 : xi_ok code xi_0_76 = true := by decide +kernel
def xi_0_77 : XIs := [(1450, .iaload, 1), (1451, .aload_n 3, 1), (1452, .invokestatic 222, 3), (1455, .istore 5, 2), (1457, .aload_n 2, 1), (1458, .aload_n 0, 1), (1459, .iload 4, 2)]
set_option maxRecDepth 100000 in
theorem xi_ok0_77 : xi_ok code xi_0_77 = true := by decide +kernel
def xi_0_78 : XIs := [(1461, .iconst 1, 1), (1462, .iadd, 1), (1463, .iaload, 1), (1464, .aload_n 0, 1), (1465, .iload 4, 2), (1467, .iconst 2, 1), (1468, .iadd, 1)]
set_option maxRecDepth 100000 in
theorem xi_ok0_78 : xi_ok code xi_0_78 = true := by decide +kernel
def xi_0_79 : XIs := [(1469, .iaload, 1), (1470, .aload_n 0, 1), (1471, .iload 4, 2), (1473, .iconst 3, 1), (1474, .iadd, 1), (1475, .iaload, 1), (1476, .aload_n 0, 1)]
set_option maxRecDepth 100000 in
theorem xi_ok0_79 : xi_ok code xi_0_79 = true := by decide +kernel
def xi_0_80 : XIs := [(1477, .iload 4, 2), (1479, .iconst 4, 1), (1480, .iadd, 1), (1481, .iaload, 1), (1482, .invokevirtual 225, 3), (1485, .istore 6, 2)]
set_option maxRecDepth 100000 in
theorem xi_ok0_80 : xi_ok code xi_0_80 = true := by decide +kernel
def xi_0_81 : XIs := [(1487, .aload_n 2, 1), (1488, .invokevirtual 151, 3), (1491, .iload 5, 2), (1493, .if_icmp .eq 5, 3), (1496, .iconst 0, 1), (1497, .ireturn, 1)]
set_option maxRecDepth 100000 in
theorem xi_ok0_81 : xi_ok code xi_0_81 = true := by decide +kernel
def xi_0_82 : XIs := [(1498, .iload 5, 2), (1500, .ifCond .ne 15, 3), (1503, .aload_n 3, 1), (1504, .iconst 0, 1), (1505, .laload, 1), (1506, .iload 6, 2)]
set_option maxRecDepth 100000 in
theorem xi_ok0_82 : xi_ok code xi_0_82 = true := by decide +kernel
def xi_0_83 : XIs := [(1508, .i2l, 1), (1509, .lcmp, 1), (1510, .ifCond .eq 5, 3), (1513, .iconst 0, 1), (1514, .ireturn, 1), (1515, .goto 1453, 3)]
set_option maxRecDepth 100000 in
theorem xi_ok0_83 : xi_ok code xi_0_83 = true := by decide +kernel
def xi_0_84 : XIs := [(1518, .aload_n 1, 1), (1519, .aload_n 0, 1), (1520, .iload 4, 2), (1522, .iconst 1, 1), (1523, .iadd, 1), (1524, .iaload, 1)]
set_option maxRecDepth 100000 in
theorem xi_ok0_84 : xi_ok code xi_0_84 = true := by decide +kernel
