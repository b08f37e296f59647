/-! words by their places -/
def ax_ck (o : Nat) (ps : List Nat) : Bool := (List.range (ax_lk.getD o []).length).all (fun i => match (ax_lk.getD o [])[i]? with
  | some t => decide (t.1 = 9) || decide (t.1 = 2) || (decide (lw_tbl[ps.getD i 0]? = some (ax_wd o t)) && goodWord (ax_wd o t))
  | none => true)
theorem ax_ck_use {o : Nat} {ps : List Nat} (h : ax_ck o ps = true) {t : Nat × Nat × Nat × Int} (ht : t ∈ ax_lk.getD o []) (h9 : t.1 ≠ 9) (h2 : t.1 ≠ 2) : ax_wd o t ∈ ax_tb := by
  obtain ⟨i, hi⟩ := List.getElem?_of_mem ht
  have h1 := List.all_eq_true.mp h i (List.mem_range.mpr (List.getElem?_eq_some_iff.mp hi).1)
  rw [hi] at h1
  dsimp only at h1
  rw [decide_eq_false h9, decide_eq_false h2, Bool.false_or, Bool.false_or, Bool.and_eq_true] at h1
  exact List.mem_filter.mpr ⟨List.mem_of_getElem? (of_decide_eq_true h1.1), h1.2⟩
def bq : List UInt8 → List UInt8 → Bool
  | [], [] => true
  | x :: a, y :: b => Nat.beq x.toNat y.toNat && bq a b
  | _, _ => false
theorem bq_eq : ∀ {a b : List UInt8}, bq a b = true → a = b
  | [], [], _ => rfl
  | x :: a, y :: b, h => by
    unfold bq at h
    rw [Bool.and_eq_true] at h
    rw [UInt8.toNat_inj.mp (Nat.eq_of_beq_eq_true h.1), bq_eq h.2]
  | [], _ :: _, h => by cases h
  | _ :: _, [], h => by cases h
def cq (c d : Cond) : Bool := match c, d with
  | .code y b m r, .code y' b' m' r' => decide (y = y') && bq b.data.toList b'.data.toList && decide (m = m') && decide (r = r')
  | c, d => decide (c = d)
theorem cq_eq {c d : Cond} (h : cq c d = true) : c = d := by
  unfold cq at h
  split at h
  · rename_i y b m r y' b' m' r'
    simp only [Bool.and_eq_true, decide_eq_true_eq] at h
    obtain ⟨⟨⟨h1, h2⟩, h3⟩, h4⟩ := h
    have h5 : b = b' := by
      obtain ⟨⟨l⟩⟩ := b
      obtain ⟨⟨l'⟩⟩ := b'
      have := bq_eq h2
      dsimp only at this
      rw [this]
    rw [h1, h5, h3, h4]
  · exact of_decide_eq_true h
def ax_cw (ws : List Cond) (ps : List Nat) : Bool := (List.range ws.length).all (fun i => match ws[i]? with
  | some w => (match lw_tbl[ps.getD i 0]? with | some w' => cq w' w | none => false) && goodWord w
  | none => true)
theorem ax_cw_use {ws : List Cond} {ps : List Nat} (h : ax_cw ws ps = true) {w : Cond} (hw : w ∈ ws) : w ∈ ax_tb := by
  obtain ⟨i, hi⟩ := List.getElem?_of_mem hw
  have h1 := List.all_eq_true.mp h i (List.mem_range.mpr (List.getElem?_eq_some_iff.mp hi).1)
  rw [hi] at h1
  dsimp only at h1
  rw [Bool.and_eq_true] at h1
  obtain ⟨h2, h3⟩ := h1
  split at h2
  · rename_i w' hw'
    rw [cq_eq h2] at hw'
    exact List.mem_filter.mpr ⟨List.mem_of_getElem? hw', h3⟩
  · cases h2
theorem ax_ck0 : ax_ck 0 [546, 549, 553, 547, 554, 318, 491, 1148, 1149, 1150, 551, 1151, 1155] = true := by decide +kernel
theorem ax_ck1 : ax_ck 1 [477, 479, 481, 484, 478, 486, 488, 490, 496, 497, 498, 499, 998, 999, 1003, 494, 1011, 1053, 308, 439, 343, 335, 339, 944, 320, 350, 1007, 1015, 433, 1018, 1044, 359, 363, 368, 1022, 1048, 1052, 1057, 375, 437, 357, 1060, 380, 1136, 371] = true := by decide +kernel
theorem ax_ck2 : ax_ck 2 [256, 257, 260, 258, 259, 261, 833, 890, 842, 851, 852, 837, 889, 841, 846, 853, 857, 858, 863, 864, 885, 196, 850, 868, 872, 192, 876, 202, 877, 878, 879, 883, 884] = true := by decide +kernel
theorem ax_ck3 : ax_ck 3 [458, 459, 461, 462, 1235, 463, 1236, 1265] = true := by decide +kernel
theorem ax_ck4 : ax_ck 4 [293, 325, 328, 331, 334, 338, 342, 346, 349, 353, 358, 362, 294, 295, 366, 369, 296, 304, 307, 313, 319, 240, 300, 372, 376, 381, 777, 798] = true := by decide +kernel
theorem ax_ck5 : ax_ck 5 [277, 280, 278, 279, 681, 682, 190, 694, 905, 194, 751, 698, 699, 755, 757, 758, 780, 811, 816, 367, 824, 825, 829, 370, 241, 891, 892, 893, 897, 901, 766, 204, 773, 199, 788, 790, 807, 762, 306, 326, 784, 789, 794, 802, 803, 311, 336, 340, 344, 201, 815, 317, 330, 348, 324, 333, 820, 821, 822, 360, 823, 364, 351, 355, 374, 379, 382] = true := by decide +kernel
theorem ax_ck6 : ax_ck 6 [528, 529, 533, 531, 1095, 315, 1099, 1104, 1108, 321, 435, 354, 1103, 373, 489, 377] = true := by decide +kernel
theorem ax_ck7 : ax_ck 7 [237, 238, 243, 239, 1026, 1029, 1032, 1039, 1042, 1043, 1035, 1036, 1037, 1038] = true := by decide +kernel
theorem ax_ck8 : ax_ck 8 [430, 434, 438, 442, 431, 314, 347, 971, 974, 968, 323, 492, 378, 1172, 312, 1314, 1328, 184, 189] = true := by decide +kernel
theorem ax_ck9 : ax_ck 9 [570, 574, 575, 576, 571, 578, 186, 183, 1193, 572, 309, 440, 1204, 482, 1205, 1206, 579, 581, 1222, 1226] = true := by decide +kernel
theorem ax_ck10 : ax_ck 10 [181, 182, 208, 188, 191, 198, 206, 686, 195, 690, 703, 713, 772, 770, 862, 203, 771, 205, 200] = true := by decide +kernel
theorem ax_ck11 : ax_ck 11 [173, 176, 178, 598, 232, 234, 609, 251, 253, 599, 272, 274, 600, 288, 290, 601, 602, 425, 427, 603, 453, 455, 604, 472, 474, 605, 523, 525, 606, 541, 543, 607, 565, 567, 608, 610, 611, 613, 614, 615, 187, 657, 661, 669, 677, 906, 464, 573, 207, 209, 305, 310, 316, 322, 432, 918, 922, 930, 327, 933, 329, 332, 940, 480, 337, 341, 345, 441, 436, 956, 352, 356, 361, 365, 964, 981, 443, 985, 990, 483, 485, 487, 493, 495, 1083, 1091, 532, 530, 994, 1117, 1123, 1131, 1132, 1144, 552, 550, 1164, 1168, 1173, 1181, 1189, 1200, 1210, 577, 1218, 580, 582, 1231, 1249, 383, 1177, 1261, 1274, 1287, 1296, 1310, 612, 1325, 185, 1331, 1253, 1254, 1255, 1256, 1278, 242, 1279, 1280, 1281, 1282, 197, 1283, 1284, 1285, 1286, 193, 1295, 1291, 1300, 1303] = true := by decide +kernel
theorem ax_ck12 : ax_ck 12 [1344, 1345, 1353, 1354, 1355, 1356, 1357, 1358, 1359, 1360, 1361, 1362, 1363, 1364, 1365, 1366, 1367, 1368, 1369, 1370, 1371, 1372, 1373, 1374, 1375, 1376, 1377, 1378, 1379, 1380, 1381, 1382, 1383, 1384, 1385, 1387, 1388, 1389, 1390, 1391, 1392, 1393, 1394, 1395, 1399, 1400, 1405, 1406, 1407, 1408, 1409, 1410, 1411, 1413, 1414, 1415, 1416, 1417, 1418, 1419, 1420, 1422, 1423, 1424, 1426, 1429, 1430, 1431, 1432, 1433, 1434, 1435, 1436, 1437, 1438, 1439, 1440, 1441, 1442, 1443, 1444, 1445, 1446, 1447, 1448, 1449, 1450, 1451, 1452, 1453, 1454, 1456, 1460, 1464, 1346, 1350, 1351, 1347, 1348, 1723, 1743, 1349, 1739, 1735, 1731, 1852, 1792, 1795, 1762, 1386, 1766, 1767, 1398, 1846, 1847, 1758, 1768, 1750, 1754, 1772, 1780, 1784, 1788, 1455, 1457, 1458, 1459, 1810, 1826, 1396, 1397, 1746, 1776, 1798, 1802, 1806, 1848, 1727, 1352, 1899, 1427, 1421, 1915, 1919, 1923, 1989, 1461, 2036, 2040, 2044, 1931, 1911, 1952, 2060, 2064, 2020, 1401, 2028, 1402, 2032, 2056, 1972, 1948, 2012, 2016, 1412, 2024, 2068, 2008, 2097, 2004, 2093, 2176, 1927, 1935, 1943, 1960, 1968, 1980, 1984, 1985, 1996, 2080, 2105, 2117, 2120, 1404, 1403, 2133, 2128, 2129, 2145, 2148, 2152, 2141, 2164, 2168, 2172, 2180, 2188, 1425, 2200, 2196, 2208, 1428, 2220, 2221, 2225, 2249, 2250, 2251, 2252, 2245, 1822, 1876, 1864, 1838, 1842, 1834, 1814, 1856, 1860, 1872, 1879, 1883, 1830, 1868, 1818, 1887, 1891, 1895, 2051, 2052, 2048, 2053, 2266, 1462, 2261, 1463, 2257, 2262, 2270, 1465, 2282, 2278, 2286, 2301, 2297] = true := by decide +kernel
theorem ax_ck13 : ax_ck 13 [168, 170, 1339, 1341, 653, 1711, 665, 1715, 673, 1719, 910, 1903, 914, 1907, 926, 1939, 936, 1944, 948, 1956, 952, 1964, 960, 1976, 977, 1992, 986, 2000, 1063, 2072, 1067, 2076, 1071, 2081, 1075, 2085, 1079, 2089, 1087, 2101, 1109, 2109, 1113, 2113, 1127, 2124, 1140, 2137, 1156, 2156, 1160, 2160, 1185, 2184, 1196, 2192, 1214, 2204, 1227, 2216, 1237, 2229, 1241, 2233, 1245, 2241, 1257, 2212, 1266, 2237, 1270, 2253, 1306, 2274, 1317, 2289, 1321, 2293, 1335, 2305] = true := by decide +kernel
theorem ax_ck14 : ax_ck 14 [2309, 707, 717, 721, 711, 2310, 727, 729] = true := by decide +kernel
theorem ax_ck15 : ax_ck 15 [724] = true := by decide +kernel
theorem ax_ck16 : ax_ck 16 [] = true := by decide +kernel
theorem ax_ck17 : ax_ck 17 [1120, 1121, 1122] = true := by decide +kernel
theorem ax_ck18 : ax_ck 18 [] = true := by decide +kernel
theorem ax_cks : ∀ (o : Nat) (t : Nat × Nat × Nat × Int), t ∈ ax_lk.getD o [] → t.1 ≠ 9 → t.1 ≠ 2 → ax_wd o t ∈ ax_tb := by
  intro o t ht h9 h2
  match o, ht with
  | 0, ht => exact ax_ck_use ax_ck0 ht h9 h2
  | 1, ht => exact ax_ck_use ax_ck1 ht h9 h2
  | 2, ht => exact ax_ck_use ax_ck2 ht h9 h2
  | 3, ht => exact ax_ck_use ax_ck3 ht h9 h2
  | 4, ht => exact ax_ck_use ax_ck4 ht h9 h2
  | 5, ht => exact ax_ck_use ax_ck5 ht h9 h2
  | 6, ht => exact ax_ck_use ax_ck6 ht h9 h2
  | 7, ht => exact ax_ck_use ax_ck7 ht h9 h2
  | 8, ht => exact ax_ck_use ax_ck8 ht h9 h2
  | 9, ht => exact ax_ck_use ax_ck9 ht h9 h2
  | 10, ht => exact ax_ck_use ax_ck10 ht h9 h2
  | 11, ht => exact ax_ck_use ax_ck11 ht h9 h2
  | 12, ht => exact ax_ck_use ax_ck12 ht h9 h2
  | 13, ht => exact ax_ck_use ax_ck13 ht h9 h2
  | 14, ht => exact ax_ck_use ax_ck14 ht h9 h2
  | 15, ht => exact ax_ck_use ax_ck15 ht h9 h2
  | 16, ht => exact ax_ck_use ax_ck16 ht h9 h2
  | 17, ht => exact ax_ck_use ax_ck17 ht h9 h2
  | 18, ht => exact ax_ck_use ax_ck18 ht h9 h2
  | o + 19, ht =>
    rw [List.getD_eq_getElem?_getD, List.getElem?_eq_none (show ax_lk.length ≤ o + 19 by show 19 ≤ o + 19; omega)] at ht
    cases ht
theorem ax_cm0 : (List.range 20).all (fun i => ax_cw (ax_mw (0 + i)) (([[545, 158, 544], [1147, 158, 1145, 1146], [1154, 158, 1153, 37], [476, 156, 475], [997, 156, 995, 996], [943, 156, 941, 942], [947, 156, 946, 21], [1002, 156, 1001, 24], [1010, 156, 1009, 26], [1006, 156, 1005, 25], [1014, 156, 1013, 27], [1021, 156, 1020, 28], [1047, 156, 1046, 29], [1051, 156, 1050, 30], [1056, 156, 1055, 31], [1059, 156, 1058], [1086, 156, 1084, 1085], [1135, 156, 1133, 1134], [1139, 156, 1138, 36], [255, 151, 254]] : List (List Nat)).getD i [])) = true := by decide +kernel
theorem ax_cm1 : (List.range 20).all (fun i => ax_cw (ax_mw (20 + i)) (([[828, 151, 826, 827], [832, 151, 830, 831], [836, 151, 835, 11], [840, 151, 839, 12], [888, 151, 887, 17], [867, 151, 865, 866], [871, 151, 870, 14], [875, 151, 874, 15], [882, 151, 881, 16], [849, 151, 848, 13], [457, 155, 456], [1234, 155, 1232, 1233], [1264, 155, 1262, 1263], [292, 153, 291], [299, 153, 297, 298], [779, 153, 778], [776, 153, 774, 775], [797, 153, 795, 796], [801, 153, 799, 800], [959, 153, 957, 958]] : List (List Nat)).getD i [])) = true := by decide +kernel
theorem ax_cm2 : (List.range 20).all (fun i => ax_cw (ax_mw (40 + i)) (([[276, 152, 275], [680, 152, 678, 679], [697, 152, 696, 3], [765, 152, 764, 5], [787, 152, 786, 7], [806, 152, 805, 8], [761, 152, 760, 4], [783, 152, 782, 6], [814, 152, 813, 9], [819, 152, 818, 10], [896, 152, 895, 18], [900, 152, 899, 19], [904, 152, 903, 20], [527, 157, 526], [1094, 157, 1092, 1093], [1098, 157, 1097, 32], [1107, 157, 1106, 34], [1102, 157, 1101, 33], [236, 150, 235], [303, 150, 301, 302]] : List (List Nat)).getD i [])) = true := by decide +kernel
theorem ax_cm3 : (List.range 20).all (fun i => ax_cw (ax_mw (60 + i)) (([[1025, 150, 1023, 1024], [1028, 150, 1027], [1031, 150, 1030], [1034, 150, 1033], [429, 154, 428], [909, 154, 907, 908], [970, 154, 969], [921, 154, 919, 920], [925, 154, 923, 924], [967, 154, 965, 966], [1180, 154, 1178, 1179], [1171, 154, 1169, 1170], [1184, 154, 1182, 1183], [1330, 154, 1329], [1316, 154, 1315], [1313, 154, 1311, 1312], [1327, 154, 1326], [1334, 154, 1332, 1333], [569, 159, 568], [1192, 159, 1190, 1191]] : List (List Nat)).getD i [])) = true := by decide +kernel
theorem ax_cm4 : (List.range 20).all (fun i => ax_cw (ax_mw (80 + i)) (([[1195, 159, 1194], [1203, 159, 1201, 1202], [1209, 159, 1208, 40], [1213, 159, 1211, 1212], [1221, 159, 1219, 1220], [1225, 159, 1224, 41], [180, 149, 179], [664, 149, 662, 663], [685, 149, 683, 684], [754, 149, 752, 753], [689, 149, 687, 688], [693, 149, 692, 2], [702, 149, 700, 701], [845, 149, 843, 844], [856, 149, 854, 855], [793, 149, 791, 792], [861, 149, 859, 860], [810, 149, 808, 809], [769, 149, 767, 768], [172, 148, 171]] : List (List Nat)).getD i [])) = true := by decide +kernel
theorem ax_cm5 : (List.range 20).all (fun i => ax_cw (ax_mw (100 + i)) (([[656, 148, 654, 655], [668, 148, 666, 667], [676, 148, 674, 675], [913, 148, 911, 912], [917, 148, 915, 916], [929, 148, 927, 928], [939, 148, 937, 938], [951, 148, 949, 950], [955, 148, 953, 954], [963, 148, 961, 962], [980, 148, 978, 979], [989, 148, 987, 988], [1066, 148, 1064, 1065], [1070, 148, 1068, 1069], [1074, 148, 1072, 1073], [1078, 148, 1076, 1077], [1082, 148, 1080, 1081], [1090, 148, 1088, 1089], [1112, 148, 1110, 1111], [1116, 148, 1114, 1115]] : List (List Nat)).getD i [])) = true := by decide +kernel
theorem ax_cm6 : (List.range 20).all (fun i => ax_cw (ax_mw (120 + i)) (([[1130, 148, 1128, 1129], [1143, 148, 1141, 1142], [1159, 148, 1157, 1158], [1163, 148, 1161, 1162], [1188, 148, 1186, 1187], [1199, 148, 1197, 1198], [1217, 148, 1215, 1216], [1230, 148, 1228, 1229], [1240, 148, 1238, 1239], [1244, 148, 1242, 1243], [1248, 148, 1246, 1247], [1260, 148, 1258, 1259], [1269, 148, 1267, 1268], [1273, 148, 1271, 1272], [1309, 148, 1307, 1308], [1320, 148, 1318, 1319], [1324, 148, 1322, 1323], [1338, 148, 1336, 1337], [660, 148, 659, 0], [672, 148, 671, 1]] : List (List Nat)).getD i [])) = true := by decide +kernel
theorem ax_cm7 : (List.range 20).all (fun i => ax_cw (ax_mw (140 + i)) (([[932, 148, 931], [984, 148, 983, 22], [935, 148, 934], [993, 148, 992, 23], [1126, 148, 1125, 35], [1167, 148, 1166, 38], [1176, 148, 1175, 39], [1252, 148, 1251, 42], [1277, 148, 1276, 43], [1294, 148, 1293, 45], [1290, 148, 1289, 44], [1299, 148, 1298, 46], [1343, 160, 1342], [1797, 160, 1796], [1714, 160, 1712, 1713], [1718, 160, 1716, 1717], [1734, 160, 1733, 49], [1745, 160, 1744], [1794, 160, 1793], [1726, 160, 1725, 47]] : List (List Nat)).getD i [])) = true := by decide +kernel
theorem ax_cm8 : (List.range 20).all (fun i => ax_cw (ax_mw (160 + i)) (([[1742, 160, 1741, 51], [1738, 160, 1737, 50], [1787, 160, 1786, 61], [1855, 160, 1854, 76], [1851, 160, 1850, 75], [1791, 160, 1790, 62], [1765, 160, 1764, 56], [1761, 160, 1760, 55], [1845, 160, 1844, 74], [1753, 160, 1752, 53], [1771, 160, 1770, 57], [1757, 160, 1756, 54], [1783, 160, 1782, 60], [1775, 160, 1774, 58], [1749, 160, 1748, 52], [1779, 160, 1778, 59], [1801, 160, 1800, 63], [1805, 160, 1804, 64], [1809, 160, 1808, 65], [1730, 160, 1729, 48]] : List (List Nat)).getD i [])) = true := by decide +kernel
theorem ax_cm9 : (List.range 20).all (fun i => ax_cw (ax_mw (180 + i)) (([[1722, 160, 1720, 1721], [1902, 160, 1901, 87], [1906, 160, 1904, 1905], [1914, 160, 1913, 88], [1918, 160, 1917, 89], [1922, 160, 1921, 90], [1926, 160, 1925, 91], [1963, 160, 1962, 97], [1971, 160, 1970, 98], [1983, 160, 1982, 100], [2015, 160, 2014, 105], [1975, 160, 1974, 99], [1934, 160, 1933, 93], [1991, 160, 1990], [1988, 160, 1987, 101], [1938, 160, 1937, 94], [2035, 160, 2034, 110], [1955, 160, 1954, 96], [1951, 160, 1950, 95], [2063, 160, 2062, 115]] : List (List Nat)).getD i [])) = true := by decide +kernel
theorem ax_cm10 : (List.range 20).all (fun i => ax_cw (ax_mw (200 + i)) (([[2067, 160, 2066, 116], [2059, 160, 2058, 114], [2023, 160, 2022, 107], [2031, 160, 2030, 109], [2027, 160, 2026, 108], [2019, 160, 2018, 106], [2071, 160, 2070, 117], [2011, 160, 2010, 104], [2007, 160, 2006, 103], [2100, 160, 2099, 119], [2096, 160, 2095, 118], [2179, 160, 2178, 130], [2175, 160, 2174, 129], [2171, 160, 2170, 128], [2183, 160, 2182, 131], [2167, 160, 2166, 127], [1930, 160, 1929, 92], [1910, 160, 1908, 1909], [1942, 160, 1940, 1941], [1947, 160, 1945, 1946]] : List (List Nat)).getD i [])) = true := by decide +kernel
theorem ax_cm11 : (List.range 20).all (fun i => ax_cw (ax_mw (220 + i)) (([[1959, 160, 1957, 1958], [1967, 160, 1965, 1966], [1979, 160, 1977, 1978], [1999, 160, 1998, 102], [1995, 160, 1993, 1994], [2003, 160, 2001, 2002], [2075, 160, 2073, 2074], [2079, 160, 2077, 2078], [2084, 160, 2082, 2083], [2088, 160, 2086, 2087], [2092, 160, 2090, 2091], [2108, 160, 2107, 120], [2104, 160, 2102, 2103], [2112, 160, 2110, 2111], [2119, 160, 2118], [2123, 160, 2122, 121], [2116, 160, 2114, 2115], [2136, 160, 2135, 123], [2132, 160, 2131, 122], [2127, 160, 2125, 2126]] : List (List Nat)).getD i [])) = true := by decide +kernel
theorem ax_cm12 : (List.range 20).all (fun i => ax_cw (ax_mw (240 + i)) (([[2147, 160, 2146], [2151, 160, 2150, 125], [2144, 160, 2143, 124], [2155, 160, 2154, 126], [2140, 160, 2138, 2139], [2159, 160, 2157, 2158], [2163, 160, 2161, 2162], [2191, 160, 2190, 132], [2187, 160, 2185, 2186], [2203, 160, 2202, 134], [2199, 160, 2198, 133], [2195, 160, 2193, 2194], [2211, 160, 2210, 135], [2207, 160, 2205, 2206], [2228, 160, 2227, 137], [2215, 160, 2213, 2214], [2224, 160, 2223, 136], [2219, 160, 2217, 2218], [2232, 160, 2230, 2231], [2236, 160, 2234, 2235]] : List (List Nat)).getD i [])) = true := by decide +kernel
theorem ax_cm13 : (List.range 20).all (fun i => ax_cw (ax_mw (260 + i)) (([[2240, 160, 2238, 2239], [2248, 160, 2247, 138], [2244, 160, 2242, 2243], [1825, 160, 1824, 69], [1817, 160, 1816, 67], [1886, 160, 1885, 83], [1867, 160, 1866, 79], [1878, 160, 1877], [1875, 160, 1874, 81], [1882, 160, 1881, 82], [1841, 160, 1840, 73], [1837, 160, 1836, 72], [1859, 160, 1858, 77], [1863, 160, 1862, 78], [1833, 160, 1832, 71], [1871, 160, 1870, 80], [1829, 160, 1828, 70], [1821, 160, 1820, 68], [1898, 160, 1897, 86], [1890, 160, 1889, 84]] : List (List Nat)).getD i [])) = true := by decide +kernel
theorem ax_cm14 : (List.range 20).all (fun i => ax_cw (ax_mw (280 + i)) (([[1813, 160, 1812, 66], [1894, 160, 1893, 85], [2050, 160, 2049], [2055, 160, 2054], [2039, 160, 2038, 111], [2047, 160, 2046, 113], [2043, 160, 2042, 112], [2269, 160, 2268, 141], [2265, 160, 2264, 140], [2260, 160, 2259, 139], [2273, 160, 2272, 142], [2256, 160, 2254, 2255], [2288, 160, 2287], [2285, 160, 2284, 144], [2281, 160, 2280, 143], [2277, 160, 2275, 2276], [2292, 160, 2290, 2291], [2304, 160, 2303, 146], [2300, 160, 2299, 145], [2296, 160, 2294, 2295]] : List (List Nat)).getD i [])) = true := by decide +kernel
theorem ax_cm15 : (List.range 15).all (fun i => ax_cw (ax_mw (300 + i)) (([[2308, 160, 2306, 2307], [1119, 167, 1118], [1041, 165, 1040], [1062, 165, 1061], [976, 165, 975], [1302, 165, 1301], [973, 165, 972], [1305, 165, 1304], [706, 161, 704, 705], [716, 161, 714, 715], [710, 161, 708, 709], [720, 161, 718, 719], [726, 161, 725], [723, 162, 722], [731, 163, 730]] : List (List Nat)).getD i [])) = true := by decide +kernel
theorem ax_cms : ∀ j : Nat, j < 316 → j ≠ ax_law → ∀ w ∈ ax_mw j, w ∈ ax_tb := by
  intro j hj hjl w hw
  have hjl : j ≠ 315 := hjl
  by_cases h0 : j < 20
  · have h : ax_cw (ax_mw (0 + (j - 0))) _ = true := List.all_eq_true.mp ax_cm0 (j - 0) (List.mem_range.mpr (by omega))
    rw [show 0 + (j - 0) = j by omega] at h
    exact ax_cw_use h hw
  by_cases h1 : j < 40
  · have h : ax_cw (ax_mw (20 + (j - 20))) _ = true := List.all_eq_true.mp ax_cm1 (j - 20) (List.mem_range.mpr (by omega))
    rw [show 20 + (j - 20) = j by omega] at h
    exact ax_cw_use h hw
  by_cases h2 : j < 60
  · have h : ax_cw (ax_mw (40 + (j - 40))) _ = true := List.all_eq_true.mp ax_cm2 (j - 40) (List.mem_range.mpr (by omega))
    rw [show 40 + (j - 40) = j by omega] at h
    exact ax_cw_use h hw
  by_cases h3 : j < 80
  · have h : ax_cw (ax_mw (60 + (j - 60))) _ = true := List.all_eq_true.mp ax_cm3 (j - 60) (List.mem_range.mpr (by omega))
    rw [show 60 + (j - 60) = j by omega] at h
    exact ax_cw_use h hw
  by_cases h4 : j < 100
  · have h : ax_cw (ax_mw (80 + (j - 80))) _ = true := List.all_eq_true.mp ax_cm4 (j - 80) (List.mem_range.mpr (by omega))
    rw [show 80 + (j - 80) = j by omega] at h
    exact ax_cw_use h hw
  by_cases h5 : j < 120
  · have h : ax_cw (ax_mw (100 + (j - 100))) _ = true := List.all_eq_true.mp ax_cm5 (j - 100) (List.mem_range.mpr (by omega))
    rw [show 100 + (j - 100) = j by omega] at h
    exact ax_cw_use h hw
  by_cases h6 : j < 140
  · have h : ax_cw (ax_mw (120 + (j - 120))) _ = true := List.all_eq_true.mp ax_cm6 (j - 120) (List.mem_range.mpr (by omega))
    rw [show 120 + (j - 120) = j by omega] at h
    exact ax_cw_use h hw
  by_cases h7 : j < 160
  · have h : ax_cw (ax_mw (140 + (j - 140))) _ = true := List.all_eq_true.mp ax_cm7 (j - 140) (List.mem_range.mpr (by omega))
    rw [show 140 + (j - 140) = j by omega] at h
    exact ax_cw_use h hw
  by_cases h8 : j < 180
  · have h : ax_cw (ax_mw (160 + (j - 160))) _ = true := List.all_eq_true.mp ax_cm8 (j - 160) (List.mem_range.mpr (by omega))
    rw [show 160 + (j - 160) = j by omega] at h
    exact ax_cw_use h hw
  by_cases h9 : j < 200
  · have h : ax_cw (ax_mw (180 + (j - 180))) _ = true := List.all_eq_true.mp ax_cm9 (j - 180) (List.mem_range.mpr (by omega))
    rw [show 180 + (j - 180) = j by omega] at h
    exact ax_cw_use h hw
  by_cases h10 : j < 220
  · have h : ax_cw (ax_mw (200 + (j - 200))) _ = true := List.all_eq_true.mp ax_cm10 (j - 200) (List.mem_range.mpr (by omega))
    rw [show 200 + (j - 200) = j by omega] at h
    exact ax_cw_use h hw
  by_cases h11 : j < 240
  · have h : ax_cw (ax_mw (220 + (j - 220))) _ = true := List.all_eq_true.mp ax_cm11 (j - 220) (List.mem_range.mpr (by omega))
    rw [show 220 + (j - 220) = j by omega] at h
    exact ax_cw_use h hw
  by_cases h12 : j < 260
  · have h : ax_cw (ax_mw (240 + (j - 240))) _ = true := List.all_eq_true.mp ax_cm12 (j - 240) (List.mem_range.mpr (by omega))
    rw [show 240 + (j - 240) = j by omega] at h
    exact ax_cw_use h hw
  by_cases h13 : j < 280
  · have h : ax_cw (ax_mw (260 + (j - 260))) _ = true := List.all_eq_true.mp ax_cm13 (j - 260) (List.mem_range.mpr (by omega))
    rw [show 260 + (j - 260) = j by omega] at h
    exact ax_cw_use h hw
  by_cases h14 : j < 300
  · have h : ax_cw (ax_mw (280 + (j - 280))) _ = true := List.all_eq_true.mp ax_cm14 (j - 280) (List.mem_range.mpr (by omega))
    rw [show 280 + (j - 280) = j by omega] at h
    exact ax_cw_use h hw
  by_cases h15 : j < 315
  · have h : ax_cw (ax_mw (300 + (j - 300))) _ = true := List.all_eq_true.mp ax_cm15 (j - 300) (List.mem_range.mpr (by omega))
    rw [show 300 + (j - 300) = j by omega] at h
    exact ax_cw_use h hw
  omega
theorem ax_mps : ∀ j : Nat, j < 316 → ax_mp j = true := by
  have h : (List.range 316).all ax_mp = true := by decide +kernel
  exact fun j hj => List.all_eq_true.mp h j (List.mem_range.mpr hj)
theorem ax_cjw : ax_cw ax_jw [231, 564, 1709, 1710, 1017, 1016, 166, 174, 175] = true := by decide +kernel
theorem ax_cu0 : ax_cw (u_ws (ax_cl 0).1 (ax_cl 0).2.1 (ax_cl 0).2.2) [555, 557, 559, 561] = true := by decide +kernel
theorem ax_cv0 : ax_cw [Cond.instantiable (ax_cl 0).1 (ax_cl 0).2.2, Cond.initialized (ax_cl 0).1] [542, 158] = true := by decide +kernel
theorem ax_cq0 : ∀ k, k < 4 → parseFieldDescriptor ((ax_cl 0).2.1 k).2.2.1 = some (ax_fT 0 k) ∧ ax_tk (ax_fT 0 k) = ax_fty 0 k ∧ ((ax_cl 0).2.1 k).1 = ax_cn 0 := by decide +kernel
theorem ax_cc0 : ax_cok 0 := ⟨by decide +kernel, by decide +kernel, fun _ hw => ax_cw_use ax_cu0 hw, ax_cw_use ax_cv0 List.mem_cons_self, ax_cw_use ax_cv0 (List.mem_cons_of_mem _ List.mem_cons_self), ax_cq0, nmX0⟩
theorem ax_cu1 : ax_cw (u_ws (ax_cl 1).1 (ax_cl 1).2.1 (ax_cl 1).2.2) [500, 502, 504, 506, 508, 510, 512, 514, 516, 518, 520] = true := by decide +kernel
theorem ax_cv1 : ax_cw [Cond.instantiable (ax_cl 1).1 (ax_cl 1).2.2, Cond.initialized (ax_cl 1).1] [473, 156] = true := by decide +kernel
theorem ax_cq1 : ∀ k, k < 11 → parseFieldDescriptor ((ax_cl 1).2.1 k).2.2.1 = some (ax_fT 1 k) ∧ ax_tk (ax_fT 1 k) = ax_fty 1 k ∧ ((ax_cl 1).2.1 k).1 = ax_cn 1 := by decide +kernel
theorem ax_cc1 : ax_cok 1 := ⟨by decide +kernel, by decide +kernel, fun _ hw => ax_cw_use ax_cu1 hw, ax_cw_use ax_cv1 List.mem_cons_self, ax_cw_use ax_cv1 (List.mem_cons_of_mem _ List.mem_cons_self), ax_cq1, nmX1⟩
theorem ax_cu2 : ax_cw (u_ws (ax_cl 2).1 (ax_cl 2).2.1 (ax_cl 2).2.2) [262, 264, 266, 268] = true := by decide +kernel
theorem ax_cv2 : ax_cw [Cond.instantiable (ax_cl 2).1 (ax_cl 2).2.2, Cond.initialized (ax_cl 2).1] [252, 151] = true := by decide +kernel
theorem ax_cq2 : ∀ k, k < 4 → parseFieldDescriptor ((ax_cl 2).2.1 k).2.2.1 = some (ax_fT 2 k) ∧ ax_tk (ax_fT 2 k) = ax_fty 2 k ∧ ((ax_cl 2).2.1 k).1 = ax_cn 2 := by decide +kernel
theorem ax_cc2 : ax_cok 2 := ⟨by decide +kernel, by decide +kernel, fun _ hw => ax_cw_use ax_cu2 hw, ax_cw_use ax_cv2 List.mem_cons_self, ax_cw_use ax_cv2 (List.mem_cons_of_mem _ List.mem_cons_self), ax_cq2, nmX2⟩
theorem ax_cu3 : ax_cw (u_ws (ax_cl 3).1 (ax_cl 3).2.1 (ax_cl 3).2.2) [465, 467, 469] = true := by decide +kernel
theorem ax_cv3 : ax_cw [Cond.instantiable (ax_cl 3).1 (ax_cl 3).2.2, Cond.initialized (ax_cl 3).1] [454, 155] = true := by decide +kernel
theorem ax_cq3 : ∀ k, k < 3 → parseFieldDescriptor ((ax_cl 3).2.1 k).2.2.1 = some (ax_fT 3 k) ∧ ax_tk (ax_fT 3 k) = ax_fty 3 k ∧ ((ax_cl 3).2.1 k).1 = ax_cn 3 := by decide +kernel
theorem ax_cc3 : ax_cok 3 := ⟨by decide +kernel, by decide +kernel, fun _ hw => ax_cw_use ax_cu3 hw, ax_cw_use ax_cv3 List.mem_cons_self, ax_cw_use ax_cv3 (List.mem_cons_of_mem _ List.mem_cons_self), ax_cq3, nmX3⟩
theorem ax_cu4 : ax_cw (u_ws (ax_cl 4).1 (ax_cl 4).2.1 (ax_cl 4).2.2) [384, 386, 388, 390, 392, 394, 396, 398, 400, 402, 404, 406, 408, 410, 412, 414, 416, 418, 420, 422] = true := by decide +kernel
theorem ax_cv4 : ax_cw [Cond.instantiable (ax_cl 4).1 (ax_cl 4).2.2, Cond.initialized (ax_cl 4).1] [289, 153] = true := by decide +kernel
theorem ax_cq4 : ∀ k, k < 20 → parseFieldDescriptor ((ax_cl 4).2.1 k).2.2.1 = some (ax_fT 4 k) ∧ ax_tk (ax_fT 4 k) = ax_fty 4 k ∧ ((ax_cl 4).2.1 k).1 = ax_cn 4 := by decide +kernel
theorem ax_cc4 : ax_cok 4 := ⟨by decide +kernel, by decide +kernel, fun _ hw => ax_cw_use ax_cu4 hw, ax_cw_use ax_cv4 List.mem_cons_self, ax_cw_use ax_cv4 (List.mem_cons_of_mem _ List.mem_cons_self), ax_cq4, nmX4⟩
theorem ax_cu5 : ax_cw (u_ws (ax_cl 5).1 (ax_cl 5).2.1 (ax_cl 5).2.2) [281, 283, 285] = true := by decide +kernel
theorem ax_cv5 : ax_cw [Cond.instantiable (ax_cl 5).1 (ax_cl 5).2.2, Cond.initialized (ax_cl 5).1] [273, 152] = true := by decide +kernel
theorem ax_cq5 : ∀ k, k < 3 → parseFieldDescriptor ((ax_cl 5).2.1 k).2.2.1 = some (ax_fT 5 k) ∧ ax_tk (ax_fT 5 k) = ax_fty 5 k ∧ ((ax_cl 5).2.1 k).1 = ax_cn 5 := by decide +kernel
theorem ax_cc5 : ax_cok 5 := ⟨by decide +kernel, by decide +kernel, fun _ hw => ax_cw_use ax_cu5 hw, ax_cw_use ax_cv5 List.mem_cons_self, ax_cw_use ax_cv5 (List.mem_cons_of_mem _ List.mem_cons_self), ax_cq5, nmX5⟩
theorem ax_cu6 : ax_cw (u_ws (ax_cl 6).1 (ax_cl 6).2.1 (ax_cl 6).2.2) [534, 536, 538] = true := by decide +kernel
theorem ax_cv6 : ax_cw [Cond.instantiable (ax_cl 6).1 (ax_cl 6).2.2, Cond.initialized (ax_cl 6).1] [524, 157] = true := by decide +kernel
theorem ax_cq6 : ∀ k, k < 3 → parseFieldDescriptor ((ax_cl 6).2.1 k).2.2.1 = some (ax_fT 6 k) ∧ ax_tk (ax_fT 6 k) = ax_fty 6 k ∧ ((ax_cl 6).2.1 k).1 = ax_cn 6 := by decide +kernel
theorem ax_cc6 : ax_cok 6 := ⟨by decide +kernel, by decide +kernel, fun _ hw => ax_cw_use ax_cu6 hw, ax_cw_use ax_cv6 List.mem_cons_self, ax_cw_use ax_cv6 (List.mem_cons_of_mem _ List.mem_cons_self), ax_cq6, nmX6⟩
theorem ax_cu7 : ax_cw (u_ws (ax_cl 7).1 (ax_cl 7).2.1 (ax_cl 7).2.2) [244, 246, 248] = true := by decide +kernel
theorem ax_cv7 : ax_cw [Cond.instantiable (ax_cl 7).1 (ax_cl 7).2.2, Cond.initialized (ax_cl 7).1] [233, 150] = true := by decide +kernel
theorem ax_cq7 : ∀ k, k < 3 → parseFieldDescriptor ((ax_cl 7).2.1 k).2.2.1 = some (ax_fT 7 k) ∧ ax_tk (ax_fT 7 k) = ax_fty 7 k ∧ ((ax_cl 7).2.1 k).1 = ax_cn 7 := by decide +kernel
theorem ax_cc7 : ax_cok 7 := ⟨by decide +kernel, by decide +kernel, fun _ hw => ax_cw_use ax_cu7 hw, ax_cw_use ax_cv7 List.mem_cons_self, ax_cw_use ax_cv7 (List.mem_cons_of_mem _ List.mem_cons_self), ax_cq7, nmX7⟩
theorem ax_cu8 : ax_cw (u_ws (ax_cl 8).1 (ax_cl 8).2.1 (ax_cl 8).2.2) [444, 446, 448, 450] = true := by decide +kernel
theorem ax_cv8 : ax_cw [Cond.instantiable (ax_cl 8).1 (ax_cl 8).2.2, Cond.initialized (ax_cl 8).1] [426, 154] = true := by decide +kernel
theorem ax_cq8 : ∀ k, k < 4 → parseFieldDescriptor ((ax_cl 8).2.1 k).2.2.1 = some (ax_fT 8 k) ∧ ax_tk (ax_fT 8 k) = ax_fty 8 k ∧ ((ax_cl 8).2.1 k).1 = ax_cn 8 := by decide +kernel
theorem ax_cc8 : ax_cok 8 := ⟨by decide +kernel, by decide +kernel, fun _ hw => ax_cw_use ax_cu8 hw, ax_cw_use ax_cv8 List.mem_cons_self, ax_cw_use ax_cv8 (List.mem_cons_of_mem _ List.mem_cons_self), ax_cq8, nmX8⟩
theorem ax_cu9 : ax_cw (u_ws (ax_cl 9).1 (ax_cl 9).2.1 (ax_cl 9).2.2) [583, 585, 587, 589, 591, 593, 595] = true := by decide +kernel
theorem ax_cv9 : ax_cw [Cond.instantiable (ax_cl 9).1 (ax_cl 9).2.2, Cond.initialized (ax_cl 9).1] [566, 159] = true := by decide +kernel
theorem ax_cq9 : ∀ k, k < 7 → parseFieldDescriptor ((ax_cl 9).2.1 k).2.2.1 = some (ax_fT 9 k) ∧ ax_tk (ax_fT 9 k) = ax_fty 9 k ∧ ((ax_cl 9).2.1 k).1 = ax_cn 9 := by decide +kernel
theorem ax_cc9 : ax_cok 9 := ⟨by decide +kernel, by decide +kernel, fun _ hw => ax_cw_use ax_cu9 hw, ax_cw_use ax_cv9 List.mem_cons_self, ax_cw_use ax_cv9 (List.mem_cons_of_mem _ List.mem_cons_self), ax_cq9, nmX9⟩
theorem ax_cu10 : ax_cw (u_ws (ax_cl 10).1 (ax_cl 10).2.1 (ax_cl 10).2.2) [210, 212, 214, 216, 218, 220, 222, 224, 226, 228] = true := by decide +kernel
theorem ax_cv10 : ax_cw [Cond.instantiable (ax_cl 10).1 (ax_cl 10).2.2, Cond.initialized (ax_cl 10).1] [177, 149] = true := by decide +kernel
theorem ax_cq10 : ∀ k, k < 10 → parseFieldDescriptor ((ax_cl 10).2.1 k).2.2.1 = some (ax_fT 10 k) ∧ ax_tk (ax_fT 10 k) = ax_fty 10 k ∧ ((ax_cl 10).2.1 k).1 = ax_cn 10 := by decide +kernel
theorem ax_cc10 : ax_cok 10 := ⟨by decide +kernel, by decide +kernel, fun _ hw => ax_cw_use ax_cu10 hw, ax_cw_use ax_cv10 List.mem_cons_self, ax_cw_use ax_cv10 (List.mem_cons_of_mem _ List.mem_cons_self), ax_cq10, nmX10⟩
theorem ax_cu11 : ax_cw (u_ws (ax_cl 11).1 (ax_cl 11).2.1 (ax_cl 11).2.2) [616, 618, 620, 622, 624, 626, 628, 630, 632, 634, 636, 638, 640, 642, 644, 646, 648, 650] = true := by decide +kernel
theorem ax_cv11 : ax_cw [Cond.instantiable (ax_cl 11).1 (ax_cl 11).2.2, Cond.initialized (ax_cl 11).1] [169, 148] = true := by decide +kernel
theorem ax_cq11 : ∀ k, k < 18 → parseFieldDescriptor ((ax_cl 11).2.1 k).2.2.1 = some (ax_fT 11 k) ∧ ax_tk (ax_fT 11 k) = ax_fty 11 k ∧ ((ax_cl 11).2.1 k).1 = ax_cn 11 := by decide +kernel
theorem ax_cc11 : ax_cok 11 := ⟨by decide +kernel, by decide +kernel, fun _ hw => ax_cw_use ax_cu11 hw, ax_cw_use ax_cv11 List.mem_cons_self, ax_cw_use ax_cv11 (List.mem_cons_of_mem _ List.mem_cons_self), ax_cq11, nmX11⟩
theorem ax_cu12 : ax_cw (u_ws (ax_cl 12).1 (ax_cl 12).2.1 (ax_cl 12).2.2) [1466, 1468, 1470, 1472, 1474, 1476, 1478, 1480, 1482, 1484, 1486, 1488, 1490, 1492, 1494, 1496, 1498, 1500, 1502, 1504, 1506, 1508, 1510, 1512, 1514, 1516, 1518, 1520, 1522, 1524, 1526, 1528, 1530, 1532, 1534, 1536, 1538, 1540, 1542, 1544, 1546, 1548, 1550, 1552, 1554, 1556, 1558, 1560, 1562, 1564, 1566, 1568, 1570, 1572, 1574, 1576, 1578, 1580, 1582, 1584, 1586, 1588, 1590, 1592, 1594, 1596, 1598, 1600, 1602, 1604, 1606, 1608, 1610, 1612, 1614, 1616, 1618, 1620, 1622, 1624, 1626, 1628, 1630, 1632, 1634, 1636, 1638, 1640, 1642, 1644, 1646, 1648, 1650, 1652, 1654, 1656, 1658, 1660, 1662, 1664, 1666, 1668, 1670, 1672, 1674, 1676, 1678, 1680, 1682, 1684, 1686, 1688, 1690, 1692, 1694, 1696, 1698, 1700, 1702, 1704, 1706] = true := by decide +kernel
theorem ax_cv12 : ax_cw [Cond.instantiable (ax_cl 12).1 (ax_cl 12).2.2, Cond.initialized (ax_cl 12).1] [1340, 160] = true := by decide +kernel
theorem ax_cq12 : ∀ k, k < 121 → parseFieldDescriptor ((ax_cl 12).2.1 k).2.2.1 = some (ax_fT 12 k) ∧ ax_tk (ax_fT 12 k) = ax_fty 12 k ∧ ((ax_cl 12).2.1 k).1 = ax_cn 12 := by decide +kernel
theorem ax_cc12 : ax_cok 12 := ⟨by decide +kernel, by decide +kernel, fun _ hw => ax_cw_use ax_cu12 hw, ax_cw_use ax_cv12 List.mem_cons_self, ax_cw_use ax_cv12 (List.mem_cons_of_mem _ List.mem_cons_self), ax_cq12, nmX12⟩
theorem ax_coks : ∀ c : Nat, c < 13 → ax_cok c := by
  intro c hc
  match c, hc with
  | 0, _ => exact ax_cc0
  | 1, _ => exact ax_cc1
  | 2, _ => exact ax_cc2
  | 3, _ => exact ax_cc3
  | 4, _ => exact ax_cc4
  | 5, _ => exact ax_cc5
  | 6, _ => exact ax_cc6
  | 7, _ => exact ax_cc7
  | 8, _ => exact ax_cc8
  | 9, _ => exact ax_cc9
  | 10, _ => exact ax_cc10
  | 11, _ => exact ax_cc11
  | 12, _ => exact ax_cc12
