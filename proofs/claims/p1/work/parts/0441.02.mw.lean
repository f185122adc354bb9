set_option maxRecDepth 100000 in
theorem mwk_100 : am_mwb am_m100 (1118, 3, 1116, 1117) = true := by decide +kernel
set_option maxRecDepth 100000 in
theorem mwk_101 : am_mwb am_m101 (1122, 8, 1121, 10031) = true := by decide +kernel
set_option maxRecDepth 100000 in
theorem mwk_102 : am_mwb am_m102 (1126, 8, 1125, 10032) = true := by decide +kernel
set_option maxRecDepth 100000 in
theorem mwk_103 : am_mwb am_m103 (1129, 0, 1128, 0) = true := by decide +kernel
set_option maxRecDepth 100000 in
theorem mwk_104 : am_mwb am_m104 (1133, 1, 1131, 1132) = true := by decide +kernel
set_option maxRecDepth 100000 in
theorem mwk_105 : am_mwb am_m105 (1139, 4, 1137, 1138) = true := by decide +kernel
set_option maxRecDepth 100000 in
theorem mwk_106 : am_mwb am_m106 (1144, 0, 1143, 0) = true := by decide +kernel
set_option maxRecDepth 100000 in
theorem mwk_107 : am_mwb am_m107 (1148, 1, 1146, 1147) = true := by decide +kernel
set_option maxRecDepth 100000 in
theorem mwk_108 : am_mwb am_m108 (1152, 1, 1151, 10033) = true := by decide +kernel
set_option maxRecDepth 100000 in
theorem mwk_109 : am_mwb am_m109 (1157, 4, 1155, 1156) = true := by decide +kernel
set_option maxRecDepth 100000 in
theorem mwk_110 : am_mwb am_m110 (1160, 0, 1159, 0) = true := by decide +kernel
set_option maxRecDepth 100000 in
theorem mwk_111 : am_mwb am_m111 (1164, 1, 1162, 1163) = true := by decide +kernel
set_option maxRecDepth 100000 in
theorem mwk_112 : am_mwb am_m112 (1168, 4, 1166, 1167) = true := by decide +kernel
set_option maxRecDepth 100000 in
theorem mwk_113 : am_mwb am_m113 (1171, 0, 1170, 0) = true := by decide +kernel
set_option maxRecDepth 100000 in
theorem mwk_114 : am_mwb am_m114 (1175, 1, 1173, 1174) = true := by decide +kernel
set_option maxRecDepth 100000 in
theorem mwk_115 : am_mwb am_m115 (1179, 5, 1177, 1178) = true := by decide +kernel
set_option maxRecDepth 100000 in
theorem mwk_116 : am_mwb am_m116 (1184, 5, 1182, 1183) = true := by decide +kernel
set_option maxRecDepth 100000 in
theorem mwk_117 : am_mwb am_m117 (1190, 5, 1189, 10034) = true := by decide +kernel
set_option maxRecDepth 100000 in
theorem mwk_118 : am_mwb am_m118 (1194, 5, 1193, 10035) = true := by decide +kernel
set_option maxRecDepth 100000 in
theorem mwk_119 : am_mwb am_m119 (1199, 5, 1198, 10036) = true := by decide +kernel
set_option maxRecDepth 100000 in
theorem mwk_120 : am_mwb am_m120 (1204, 5, 1203, 10037) = true := by decide +kernel
set_option maxRecDepth 100000 in
theorem mwk_121 : am_mwb am_m121 (1208, 5, 1207, 10038) = true := by decide +kernel
set_option maxRecDepth 100000 in
theorem mwk_122 : am_mwb am_m122 (1212, 5, 1210, 1211) = true := by decide +kernel
set_option maxRecDepth 100000 in
theorem mwk_123 : am_mwb am_m123 (1216, 5, 1215, 10039) = true := by decide +kernel
set_option maxRecDepth 100000 in
theorem mwk_124 : am_mwb am_m124 (1222, 5, 1221, 10040) = true := by decide +kernel
set_option maxRecDepth 100000 in
theorem mwk_125 : am_mwb am_m125 (1225, 21, 1224, 0) = true := by decide +kernel
set_option maxRecDepth 100000 in
theorem mwk_126 : am_mwb am_m126 (1229, 5, 1228, 10041) = true := by decide +kernel
set_option maxRecDepth 100000 in
theorem mwk_127 : am_mwb am_m127 (1233, 5, 1232, 10042) = true := by decide +kernel
set_option maxRecDepth 100000 in
theorem mwk_128 : am_mwb am_m128 (1237, 1, 1236, 10043) = true := by decide +kernel
set_option maxRecDepth 100000 in
theorem mwk_129 : am_mwb am_m129 (1240, 0, 1239, 0) = true := by decide +kernel
set_option maxRecDepth 100000 in
theorem mwk_130 : am_mwb am_m130 (1244, 1, 1242, 1243) = true := by decide +kernel
set_option maxRecDepth 100000 in
theorem mwk_131 : am_mwb am_m131 (1247, 0, 1246, 0) = true := by decide +kernel
set_option maxRecDepth 100000 in
theorem mwk_132 : am_mwb am_m132 (1251, 1, 1249, 1250) = true := by decide +kernel
set_option maxRecDepth 100000 in
theorem mwk_133 : am_mwb am_m133 (1255, 4, 1253, 1254) = true := by decide +kernel
set_option maxRecDepth 100000 in
theorem mwk_134 : am_mwb am_m134 (1261, 4, 1260, 0) = true := by decide +kernel
set_option maxRecDepth 100000 in
theorem mwk_135 : am_mwb am_m135 (1264, 21, 1263, 0) = true := by decide +kernel
set_option maxRecDepth 100000 in
theorem mwk_136 : am_mwb am_m136 (1268, 21, 1267, 0) = true := by decide +kernel
set_option maxRecDepth 100000 in
theorem mwk_137 : am_mwb am_m137 (1271, 0, 1270, 0) = true := by decide +kernel
set_option maxRecDepth 100000 in
theorem mwk_138 : am_mwb am_m138 (1275, 1, 1273, 1274) = true := by decide +kernel
set_option maxRecDepth 100000 in
theorem mwk_139 : am_mwb am_m139 (1279, 1, 1278, 10044) = true := by decide +kernel
set_option maxRecDepth 100000 in
theorem mwk_140 : am_mwb am_m140 (1284, 4, 1282, 1283) = true := by decide +kernel
set_option maxRecDepth 100000 in
theorem mwk_141 : am_mwb am_m141 (1289, 4, 1287, 1288) = true := by decide +kernel
set_option maxRecDepth 100000 in
theorem mwk_142 : am_mwb am_m142 (1294, 4, 1292, 1293) = true := by decide +kernel
set_option maxRecDepth 100000 in
theorem mwk_143 : am_mwb am_m143 (1298, 4, 1296, 1297) = true := by decide +kernel
set_option maxRecDepth 100000 in
theorem mwk_144 : am_mwb am_m144 (1302, 4, 1300, 1301) = true := by decide +kernel
set_option maxRecDepth 100000 in
theorem mwk_145 : am_mwb am_m145 (1305, 0, 1304, 0) = true := by decide +kernel
set_option maxRecDepth 100000 in
theorem mwk_146 : am_mwb am_m146 (1309, 1, 1307, 1308) = true := by decide +kernel
set_option maxRecDepth 100000 in
theorem mwk_147 : am_mwb am_m147 (1312, 0, 1311, 0) = true := by decide +kernel
set_option maxRecDepth 100000 in
theorem mwk_148 : am_mwb am_m148 (1316, 1, 1314, 1315) = true := by decide +kernel
set_option maxRecDepth 100000 in
theorem mwk_149 : am_mwb am_m149 (1320, 0, 1319, 0) = true := by decide +kernel
set_option maxRecDepth 100000 in
theorem mwk_150 : am_mwb am_m150 (1324, 1, 1322, 1323) = true := by decide +kernel
set_option maxRecDepth 100000 in
theorem mwk_151 : am_mwb am_m151 (1327, 28, 1326, 0) = true := by decide +kernel
set_option maxRecDepth 100000 in
theorem mwk_152 : am_mwb am_m152 (1330, 29, 1329, 0) = true := by decide +kernel
set_option maxRecDepth 100000 in
theorem mwk_153 : am_mwb am_m153 (1333, 0, 1332, 0) = true := by decide +kernel
set_option maxRecDepth 100000 in
theorem mwk_154 : am_mwb am_m154 (1337, 1, 1335, 1336) = true := by decide +kernel
set_option maxRecDepth 100000 in
theorem mwk_155 : am_mwb am_m155 (1346, 4, 1344, 1345) = true := by decide +kernel
set_option maxRecDepth 100000 in
theorem mwk_156 : am_mwb am_m156 (1349, 0, 1348, 0) = true := by decide +kernel
set_option maxRecDepth 100000 in
theorem mwk_157 : am_mwb am_m157 (1353, 1, 1351, 1352) = true := by decide +kernel
set_option maxRecDepth 100000 in
theorem mwk_158 : am_mwb am_m158 (1357, 1, 1356, 10045) = true := by decide +kernel
set_option maxRecDepth 100000 in
theorem mwk_159 : am_mwb am_m159 (1362, 9, 1360, 1361) = true := by decide +kernel
set_option maxRecDepth 100000 in
theorem mwk_160 : am_mwb am_m160 (1368, 9, 1367, 10046) = true := by decide +kernel
set_option maxRecDepth 100000 in
theorem mwk_161 : am_mwb am_m161 (1372, 9, 1371, 10047) = true := by decide +kernel
set_option maxRecDepth 100000 in
theorem mwk_162 : am_mwb am_m162 (1376, 9, 1374, 1375) = true := by decide +kernel
set_option maxRecDepth 100000 in
theorem mwk_163 : am_mwb am_m163 (1380, 9, 1378, 1379) = true := by decide +kernel
set_option maxRecDepth 100000 in
theorem mwk_164 : am_mwb am_m164 (1385, 9, 1384, 10048) = true := by decide +kernel
set_option maxRecDepth 100000 in
theorem mwk_165 : am_mwb am_m165 (1391, 9, 1390, 10049) = true := by decide +kernel
set_option maxRecDepth 100000 in
theorem mwk_166 : am_mwb am_m166 (1395, 3, 1393, 1394) = true := by decide +kernel
set_option maxRecDepth 100000 in
theorem mwk_167 : am_mwb am_m167 (1403, 9, 1402, 10050) = true := by decide +kernel
set_option maxRecDepth 100000 in
theorem mwk_168 : am_mwb am_m168 (1409, 9, 1408, 10051) = true := by decide +kernel
set_option maxRecDepth 100000 in
theorem mwk_169 : am_mwb am_m169 (1413, 9, 1412, 10052) = true := by decide +kernel
set_option maxRecDepth 100000 in
theorem mwk_170 : am_mwb am_m170 (1417, 10, 1415, 1416) = true := by decide +kernel
set_option maxRecDepth 100000 in
theorem mwk_171 : am_mwb am_m171 (1422, 9, 1421, 10053) = true := by decide +kernel
set_option maxRecDepth 100000 in
theorem mwk_172 : am_mwb am_m172 (1426, 9, 1425, 10054) = true := by decide +kernel
set_option maxRecDepth 100000 in
theorem mwk_173 : am_mwb am_m173 (1430, 9, 1429, 10055) = true := by decide +kernel
set_option maxRecDepth 100000 in
theorem mwk_174 : am_mwb am_m174 (1433, 9, 1432, 0) = true := by decide +kernel
set_option maxRecDepth 100000 in
theorem mwk_175 : am_mwb am_m175 (1437, 9, 1436, 10056) = true := by decide +kernel
set_option maxRecDepth 100000 in
theorem mwk_176 : am_mwb am_m176 (1441, 9, 1440, 10057) = true := by decide +kernel
set_option maxRecDepth 100000 in
theorem mwk_177 : am_mwb am_m177 (1445, 9, 1444, 10058) = true := by decide +kernel
set_option maxRecDepth 100000 in
theorem mwk_178 : am_mwb am_m178 (1449, 9, 1448, 10059) = true := by decide +kernel
set_option maxRecDepth 100000 in
theorem mwk_179 : am_mwb am_m179 (1453, 9, 1452, 10060) = true := by decide +kernel
set_option maxRecDepth 100000 in
theorem mwk_180 : am_mwb am_m180 (1457, 9, 1456, 10061) = true := by decide +kernel
set_option maxRecDepth 100000 in
theorem mwk_181 : am_mwb am_m181 (1461, 9, 1460, 10062) = true := by decide +kernel
set_option maxRecDepth 100000 in
theorem mwk_182 : am_mwb am_m182 (1465, 9, 1464, 10063) = true := by decide +kernel
set_option maxRecDepth 100000 in
theorem mwk_183 : am_mwb am_m183 (1469, 9, 1468, 10064) = true := by decide +kernel
set_option maxRecDepth 100000 in
theorem mwk_184 : am_mwb am_m184 (1473, 9, 1472, 10065) = true := by decide +kernel
set_option maxRecDepth 100000 in
theorem mwk_185 : am_mwb am_m185 (1476, 0, 1475, 0) = true := by decide +kernel
set_option maxRecDepth 100000 in
theorem mwk_186 : am_mwb am_m186 (1480, 1, 1478, 1479) = true := by decide +kernel
set_option maxRecDepth 100000 in
theorem mwk_187 : am_mwb am_m187 (1484, 9, 1482, 1483) = true := by decide +kernel
set_option maxRecDepth 100000 in
theorem mwk_188 : am_mwb am_m188 (1488, 0, 1487, 0) = true := by decide +kernel
set_option maxRecDepth 100000 in
theorem mwk_189 : am_mwb am_m189 (1492, 1, 1490, 1491) = true := by decide +kernel
set_option maxRecDepth 100000 in
theorem mwk_190 : am_mwb am_m190 (1496, 1, 1495, 10066) = true := by decide +kernel
set_option maxRecDepth 100000 in
theorem mwk_191 : am_mwb am_m191 (1500, 9, 1498, 1499) = true := by decide +kernel
set_option maxRecDepth 100000 in
theorem mwk_192 : am_mwb am_m192 (1504, 7, 1502, 1503) = true := by decide +kernel
set_option maxRecDepth 100000 in
theorem mwk_193 : am_mwb am_m193 (1508, 7, 1507, 10067) = true := by decide +kernel
set_option maxRecDepth 100000 in
theorem mwk_194 : am_mwb am_m194 (1515, 7, 1513, 1514) = true := by decide +kernel
set_option maxRecDepth 100000 in
theorem mwk_195 : am_mwb am_m195 (1521, 0, 1520, 0) = true := by decide +kernel
set_option maxRecDepth 100000 in
theorem mwk_196 : am_mwb am_m196 (1525, 1, 1523, 1524) = true := by decide +kernel
set_option maxRecDepth 100000 in
theorem mwk_197 : am_mwb am_m197 (1528, 0, 1527, 0) = true := by decide +kernel
set_option maxRecDepth 100000 in
theorem mwk_198 : am_mwb am_m198 (1532, 1, 1530, 1531) = true := by decide +kernel
set_option maxRecDepth 100000 in
theorem mwk_199 : am_mwb am_m199 (1536, 0, 1535, 0) = true := by decide +kernel
