set_option maxRecDepth 100000 in
theorem mwk_200 : am_mwb am_m200 (1540, 1, 1538, 1539) = true := by decide +kernel
set_option maxRecDepth 100000 in
theorem mwk_201 : am_mwb am_m201 (1544, 1, 1543, 10068) = true := by decide +kernel
set_option maxRecDepth 100000 in
theorem mwk_202 : am_mwb am_m202 (1550, 1, 1549, 10069) = true := by decide +kernel
set_option maxRecDepth 100000 in
theorem mwk_203 : am_mwb am_m203 (1554, 1, 1553, 10070) = true := by decide +kernel
set_option maxRecDepth 100000 in
theorem mwk_204 : am_mwb am_m204 (1561, 1, 1560, 10071) = true := by decide +kernel
set_option maxRecDepth 100000 in
theorem mwk_205 : am_mwb am_m205 (1566, 12, 1564, 1565) = true := by decide +kernel
set_option maxRecDepth 100000 in
theorem mwk_206 : am_mwb am_m206 (1572, 12, 1571, 10072) = true := by decide +kernel
set_option maxRecDepth 100000 in
theorem mwk_207 : am_mwb am_m207 (1579, 12, 1578, 10073) = true := by decide +kernel
set_option maxRecDepth 100000 in
theorem mwk_208 : am_mwb am_m208 (1584, 12, 1583, 10074) = true := by decide +kernel
set_option maxRecDepth 100000 in
theorem mwk_209 : am_mwb am_m209 (1588, 12, 1587, 10075) = true := by decide +kernel
set_option maxRecDepth 100000 in
theorem mwk_210 : am_mwb am_m210 (1592, 0, 1591, 0) = true := by decide +kernel
set_option maxRecDepth 100000 in
theorem mwk_211 : am_mwb am_m211 (1596, 1, 1594, 1595) = true := by decide +kernel
set_option maxRecDepth 100000 in
theorem mwk_212 : am_mwb am_m212 (1599, 0, 1598, 0) = true := by decide +kernel
set_option maxRecDepth 100000 in
theorem mwk_213 : am_mwb am_m213 (1603, 1, 1601, 1602) = true := by decide +kernel
set_option maxRecDepth 100000 in
theorem mwk_214 : am_mwb am_m214 (1607, 1, 1606, 10076) = true := by decide +kernel
set_option maxRecDepth 100000 in
theorem mwk_215 : am_mwb am_m215 (1611, 0, 1610, 0) = true := by decide +kernel
set_option maxRecDepth 100000 in
theorem mwk_216 : am_mwb am_m216 (1615, 1, 1613, 1614) = true := by decide +kernel
set_option maxRecDepth 100000 in
theorem mwk_217 : am_mwb am_m217 (1622, 1, 1621, 10077) = true := by decide +kernel
set_option maxRecDepth 100000 in
theorem mwk_218 : am_mwb am_m218 (1626, 6, 1624, 1625) = true := by decide +kernel
set_option maxRecDepth 100000 in
theorem mwk_219 : am_mwb am_m219 (1630, 4, 1628, 1629) = true := by decide +kernel
set_option maxRecDepth 100000 in
theorem mwk_220 : am_mwb am_m220 (1637, 6, 1635, 1636) = true := by decide +kernel
set_option maxRecDepth 100000 in
theorem mwk_221 : am_mwb am_m221 (1641, 6, 1640, 10078) = true := by decide +kernel
set_option maxRecDepth 100000 in
theorem mwk_222 : am_mwb am_m222 (1645, 6, 1643, 1644) = true := by decide +kernel
set_option maxRecDepth 100000 in
theorem mwk_223 : am_mwb am_m223 (1649, 6, 1648, 10079) = true := by decide +kernel
set_option maxRecDepth 100000 in
theorem mwk_224 : am_mwb am_m224 (1654, 6, 1653, 10080) = true := by decide +kernel
set_option maxRecDepth 100000 in
theorem mwk_225 : am_mwb am_m225 (1658, 6, 1657, 10081) = true := by decide +kernel
set_option maxRecDepth 100000 in
theorem mwk_226 : am_mwb am_m226 (1663, 6, 1662, 10082) = true := by decide +kernel
set_option maxRecDepth 100000 in
theorem mwk_227 : am_mwb am_m227 (1667, 6, 1666, 10083) = true := by decide +kernel
set_option maxRecDepth 100000 in
theorem mwk_228 : am_mwb am_m228 (1671, 6, 1670, 10084) = true := by decide +kernel
set_option maxRecDepth 100000 in
theorem mwk_229 : am_mwb am_m229 (1675, 6, 1673, 1674) = true := by decide +kernel
set_option maxRecDepth 100000 in
theorem mwk_230 : am_mwb am_m230 (1681, 6, 1679, 1680) = true := by decide +kernel
set_option maxRecDepth 100000 in
theorem mwk_231 : am_mwb am_m231 (1684, 0, 1683, 0) = true := by decide +kernel
set_option maxRecDepth 100000 in
theorem mwk_232 : am_mwb am_m232 (1688, 1, 1686, 1687) = true := by decide +kernel
set_option maxRecDepth 100000 in
theorem mwk_233 : am_mwb am_m233 (1692, 6, 1690, 1691) = true := by decide +kernel
set_option maxRecDepth 100000 in
theorem mwk_234 : am_mwb am_m234 (1695, 0, 1694, 0) = true := by decide +kernel
set_option maxRecDepth 100000 in
theorem mwk_235 : am_mwb am_m235 (1699, 1, 1697, 1698) = true := by decide +kernel
set_option maxRecDepth 100000 in
theorem mwk_236 : am_mwb am_m236 (1702, 0, 1701, 0) = true := by decide +kernel
set_option maxRecDepth 100000 in
theorem mwk_237 : am_mwb am_m237 (1706, 1, 1704, 1705) = true := by decide +kernel
set_option maxRecDepth 100000 in
theorem mwk_238 : am_mwb am_m238 (1710, 0, 1709, 0) = true := by decide +kernel
set_option maxRecDepth 100000 in
theorem mwk_239 : am_mwb am_m239 (1714, 1, 1712, 1713) = true := by decide +kernel
set_option maxRecDepth 100000 in
theorem mwk_240 : am_mwb am_m240 (1719, 6, 1717, 1718) = true := by decide +kernel
set_option maxRecDepth 100000 in
theorem mwk_241 : am_mwb am_m241 (1723, 6, 1722, 10085) = true := by decide +kernel
set_option maxRecDepth 100000 in
theorem mwk_242 : am_mwb am_m242 (1726, 29, 1725, 0) = true := by decide +kernel
set_option maxRecDepth 100000 in
theorem mwk_243 : am_mwb am_m243 (1732, 6, 1731, 0) = true := by decide +kernel
set_option maxRecDepth 100000 in
theorem mwk_244 : am_mwb am_m244 (1736, 0, 1735, 0) = true := by decide +kernel
set_option maxRecDepth 100000 in
theorem mwk_245 : am_mwb am_m245 (1740, 1, 1738, 1739) = true := by decide +kernel
set_option maxRecDepth 100000 in
theorem mwk_246 : am_mwb am_m246 (1744, 4, 1742, 1743) = true := by decide +kernel
set_option maxRecDepth 100000 in
theorem mwk_247 : am_mwb am_m247 (1747, 0, 1746, 0) = true := by decide +kernel
set_option maxRecDepth 100000 in
theorem mwk_248 : am_mwb am_m248 (1751, 1, 1749, 1750) = true := by decide +kernel
set_option maxRecDepth 100000 in
theorem mwk_249 : am_mwb am_m249 (1755, 21, 1754, 0) = true := by decide +kernel
set_option maxRecDepth 100000 in
theorem mwk_250 : am_mwb am_m250 (1759, 0, 1758, 0) = true := by decide +kernel
set_option maxRecDepth 100000 in
theorem mwk_251 : am_mwb am_m251 (1763, 1, 1761, 1762) = true := by decide +kernel
set_option maxRecDepth 100000 in
theorem mwk_252 : am_mwb am_m252 (1767, 1, 1766, 10086) = true := by decide +kernel
set_option maxRecDepth 100000 in
theorem mwk_253 : am_mwb am_m253 (1771, 1, 1770, 10087) = true := by decide +kernel
set_option maxRecDepth 100000 in
theorem mwk_254 : am_mwb am_m254 (1774, 0, 1773, 0) = true := by decide +kernel
set_option maxRecDepth 100000 in
theorem mwk_255 : am_mwb am_m255 (1778, 1, 1776, 1777) = true := by decide +kernel
set_option maxRecDepth 100000 in
theorem mwk_256 : am_mwb am_m256 (1781, 0, 1780, 0) = true := by decide +kernel
set_option maxRecDepth 100000 in
theorem mwk_257 : am_mwb am_m257 (1785, 1, 1783, 1784) = true := by decide +kernel
set_option maxRecDepth 100000 in
theorem mwk_258 : am_mwb am_m258 (1789, 0, 1788, 0) = true := by decide +kernel
set_option maxRecDepth 100000 in
theorem mwk_259 : am_mwb am_m259 (1793, 1, 1791, 1792) = true := by decide +kernel
set_option maxRecDepth 100000 in
theorem mwk_260 : am_mwb am_m260 (1797, 0, 1796, 0) = true := by decide +kernel
set_option maxRecDepth 100000 in
theorem mwk_261 : am_mwb am_m261 (1801, 1, 1799, 1800) = true := by decide +kernel
set_option maxRecDepth 100000 in
theorem mwk_262 : am_mwb am_m262 (1805, 8, 1803, 1804) = true := by decide +kernel
set_option maxRecDepth 100000 in
theorem mwk_263 : am_mwb am_m263 (1810, 8, 1809, 10088) = true := by decide +kernel
set_option maxRecDepth 100000 in
theorem mwk_264 : am_mwb am_m264 (1814, 8, 1813, 10089) = true := by decide +kernel
set_option maxRecDepth 100000 in
theorem mwk_265 : am_mwb am_m265 (1818, 8, 1817, 10090) = true := by decide +kernel
set_option maxRecDepth 100000 in
theorem mwk_266 : am_mwb am_m266 (1825, 8, 1824, 10091) = true := by decide +kernel
set_option maxRecDepth 100000 in
theorem mwk_267 : am_mwb am_m267 (1830, 0, 1829, 0) = true := by decide +kernel
set_option maxRecDepth 100000 in
theorem mwk_268 : am_mwb am_m268 (1834, 1, 1832, 1833) = true := by decide +kernel
set_option maxRecDepth 100000 in
theorem mwk_269 : am_mwb am_m269 (1839, 11, 1837, 1838) = true := by decide +kernel
set_option maxRecDepth 100000 in
theorem mwk_270 : am_mwb am_m270 (1843, 11, 1842, 10092) = true := by decide +kernel
set_option maxRecDepth 100000 in
theorem mwk_271 : am_mwb am_m271 (1848, 11, 1847, 10093) = true := by decide +kernel
set_option maxRecDepth 100000 in
theorem mwk_272 : am_mwb am_m272 (1854, 11, 1853, 10094) = true := by decide +kernel
set_option maxRecDepth 100000 in
theorem mwk_273 : am_mwb am_m273 (1858, 11, 1857, 10095) = true := by decide +kernel
set_option maxRecDepth 100000 in
theorem mwk_274 : am_mwb am_m274 (1862, 11, 1861, 10096) = true := by decide +kernel
set_option maxRecDepth 100000 in
theorem mwk_275 : am_mwb am_m275 (1866, 11, 1865, 10097) = true := by decide +kernel
set_option maxRecDepth 100000 in
theorem mwk_276 : am_mwb am_m276 (1870, 11, 1869, 10098) = true := by decide +kernel
set_option maxRecDepth 100000 in
theorem mwk_277 : am_mwb am_m277 (1874, 11, 1873, 10099) = true := by decide +kernel
set_option maxRecDepth 100000 in
theorem mwk_278 : am_mwb am_m278 (1878, 11, 1877, 10100) = true := by decide +kernel
set_option maxRecDepth 100000 in
theorem mwk_279 : am_mwb am_m279 (1882, 10, 1880, 1881) = true := by decide +kernel
set_option maxRecDepth 100000 in
theorem mwk_280 : am_mwb am_m280 (1887, 11, 1886, 10101) = true := by decide +kernel
set_option maxRecDepth 100000 in
theorem mwk_281 : am_mwb am_m281 (1891, 11, 1890, 10102) = true := by decide +kernel
set_option maxRecDepth 100000 in
theorem mwk_282 : am_mwb am_m282 (1895, 11, 1894, 10103) = true := by decide +kernel
set_option maxRecDepth 100000 in
theorem mwk_283 : am_mwb am_m283 (1902, 0, 1901, 0) = true := by decide +kernel
set_option maxRecDepth 100000 in
theorem mwk_284 : am_mwb am_m284 (1906, 1, 1904, 1905) = true := by decide +kernel
set_option maxRecDepth 100000 in
theorem mwk_285 : am_mwb am_m285 (1910, 11, 1908, 1909) = true := by decide +kernel
set_option maxRecDepth 100000 in
theorem mwk_286 : am_mwb am_m286 (1913, 0, 1912, 0) = true := by decide +kernel
set_option maxRecDepth 100000 in
theorem mwk_287 : am_mwb am_m287 (1917, 1, 1915, 1916) = true := by decide +kernel
set_option maxRecDepth 100000 in
theorem mwk_288 : am_mwb am_m288 (1921, 12, 1919, 1920) = true := by decide +kernel
set_option maxRecDepth 100000 in
theorem mwk_289 : am_mwb am_m289 (1926, 12, 1925, 10104) = true := by decide +kernel
set_option maxRecDepth 100000 in
theorem mwk_290 : am_mwb am_m290 (1930, 12, 1928, 1929) = true := by decide +kernel
set_option maxRecDepth 100000 in
theorem mwk_291 : am_mwb am_m291 (1933, 12, 1932, 0) = true := by decide +kernel
set_option maxRecDepth 100000 in
theorem mwk_292 : am_mwb am_m292 (1936, 12, 1935, 0) = true := by decide +kernel
set_option maxRecDepth 100000 in
theorem mwk_293 : am_mwb am_m293 (1940, 12, 1938, 1939) = true := by decide +kernel
set_option maxRecDepth 100000 in
theorem mwk_294 : am_mwb am_m294 (1945, 12, 1944, 10105) = true := by decide +kernel
set_option maxRecDepth 100000 in
theorem mwk_295 : am_mwb am_m295 (1950, 12, 1949, 0) = true := by decide +kernel
set_option maxRecDepth 100000 in
theorem mwk_296 : am_mwb am_m296 (1958, 1, 1957, 10106) = true := by decide +kernel
set_option maxRecDepth 100000 in
theorem mwk_297 : am_mwb am_m297 (1962, 4, 1960, 1961) = true := by decide +kernel
set_option maxRecDepth 100000 in
theorem mwk_298 : am_mwb am_m298 (1966, 1, 1965, 10107) = true := by decide +kernel
set_option maxRecDepth 100000 in
theorem mwk_299 : am_mwb am_m299 (1969, 0, 1968, 0) = true := by decide +kernel
