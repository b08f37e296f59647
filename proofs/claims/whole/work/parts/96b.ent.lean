def R_law : String := "FireDrillLaw"
def lw_P (b : Addr) (xs : List Int32) (args : Array Value) (s : State) : Prop := args = #[.ref b] ∧ s.IntsAt b xs ∧ xs.length ≤ 3072 ∧ (Jvm.Cond.and given_1 narrow_1).before args s = true
def lw_Q (_ : Array Value) (s : State) (o : Outcome) (t : State) : Prop := o = .returned (some (.int 1)) ∧ Framed s o t [] 600000 7302249
def lw_Z (below : List Frame) (a : Array Value) (s : State) : State → Prop := fun t => ∃ o, t.status = .running ∧ Ended t below o ∧ lw_Q a s o t
theorem lw_ret {p : Program} {l : Launch} {e : Jvm.Env} {s : State} {m : MethodId} {below : List Frame} {meth : Method} {c : Jvm.ClassFile.Code} {b : Nat} (hx : p.tables.exec = Jvm.exec) (hb : c.code = code) (hr : meth.sig.returnType = ret) (hlocks : meth.locks = false) {pc : Nat} {H : Heap} {ls : Array Slot} (hdg : decode code pc = .ok (.ireturn, 1)) : W p l e room_1 s m #[Value.ref b] below meth c H [] 600000 7302249 (lw_Z below #[Value.ref b] s) (F0 m pc ls [.int 1]) := by
  intro T hT X
  obtain ⟨fs, hret, hrun, hended, hW, hframe⟩ := X.leave (v := some (.int 1)) (hlocks := hlocks) (fun h => by rw [hr] at h; cases h)
  have hmeth' : T.vm.method? m = some meth := X.method'
  refine ⟨T.setFrames fs, ?_, .returned (some (.int 1)), hrun, hended, rfl, ⟨_, rfl⟩, hW, hframe⟩
  jvm_step X.here [X.here.top, hx, hb, hdg, hmeth', hr, ret, narrow_b1]
  (try refine ⟨rfl, ?_⟩); (try refine ⟨rfl, ?_⟩)
  first | (intro acts; rw [hret _ acts rfl rfl rfl]) | rw [hret _ _ rfl rfl rfl]
  exact Steps.refl _
def lw_At (p : Program) (s : State) (m : MethodId) (meth : Method) (c : Jvm.ClassFile.Code) (b L : Nat) (xs : Nat → Int32) : Prop :=
  p.tables.exec = Jvm.exec ∧ c.code = code ∧ meth.sig.returnType = ret ∧ c.maxLocals = 4 ∧ s.vm.findClass R_law = some m.cls ∧ (∀ w ∈ lw_tbl, w.before #[Value.ref b] s = true) ∧ va_X b L xs s s.heap ∧ b < s.heap.size ∧ meth.locks = false ∧ (Jvm.Cond.and given_1 narrow_1).before #[Value.ref b] s = true
def ax_sk (o : Nat) (ps : List Nat) : Bool := (List.range (ax_lk.getD o []).length).all (fun i => match (ax_lk.getD o [])[i]? with
  | some t => (!(decide (t.1 = 9)) || decide (lw_tbl[ps.getD i 0]? = some (ax_wd o t))) && (!(decide (t.1 = 2)) || (decide (lw_tbl[ps.getD i 0]? = some (ax_wd o t)) && ax_isS t.2.2.2 && decide (ax_st.getD (ax_sx t.2.2.2) ("", 0) = (ax_cn o, t.2.1))))
  | none => true)
theorem ax_sk_use {o : Nat} {ps : List Nat} (h : ax_sk o ps = true) {t : Nat × Nat × Nat × Int} (ht : t ∈ ax_lk.getD o []) : (t.1 = 9 → ax_wd o t ∈ lw_tbl) ∧ (t.1 = 2 → ax_wd o t ∈ lw_tbl ∧ ax_isS t.2.2.2 = true ∧ ax_st.getD (ax_sx t.2.2.2) ("", 0) = (ax_cn o, t.2.1)) := by
  obtain ⟨i, hi⟩ := List.getElem?_of_mem ht
  have h1 := List.all_eq_true.mp h i (List.mem_range.mpr (List.getElem?_eq_some_iff.mp hi).1)
  rw [hi] at h1
  dsimp only at h1
  rw [Bool.and_eq_true] at h1
  refine ⟨fun q => ?_, fun q => ?_⟩
  · have h2 := h1.1
    rw [decide_eq_true q, Bool.not_true, Bool.false_or] at h2
    exact List.mem_of_getElem? (of_decide_eq_true h2)
  · have h2 := h1.2
    rw [decide_eq_true q, Bool.not_true, Bool.false_or, Bool.and_eq_true, Bool.and_eq_true] at h2
    exact ⟨List.mem_of_getElem? (of_decide_eq_true h2.1.1), h2.1.2, of_decide_eq_true h2.2⟩
theorem ax_sk0 : ax_sk 0 [546, 549, 553, 547, 554, 318, 491, 1148, 1149, 1150, 551, 1151, 1155] = true := by decide +kernel
theorem ax_sk1 : ax_sk 1 [477, 479, 481, 484, 478, 486, 488, 490, 496, 497, 498, 499, 998, 999, 1003, 494, 1011, 1053, 308, 439, 343, 335, 339, 944, 320, 350, 1007, 1015, 433, 1018, 1044, 359, 363, 368, 1022, 1048, 1052, 1057, 375, 437, 357, 1060, 380, 1136, 371] = true := by decide +kernel
theorem ax_sk2 : ax_sk 2 [256, 257, 260, 258, 259, 261, 833, 890, 842, 851, 852, 837, 889, 841, 846, 853, 857, 858, 863, 864, 885, 196, 850, 868, 872, 192, 876, 202, 877, 878, 879, 883, 884] = true := by decide +kernel
theorem ax_sk3 : ax_sk 3 [458, 459, 461, 462, 1235, 463, 1236, 1265] = true := by decide +kernel
theorem ax_sk4 : ax_sk 4 [293, 325, 328, 331, 334, 338, 342, 346, 349, 353, 358, 362, 294, 295, 366, 369, 296, 304, 307, 313, 319, 240, 300, 372, 376, 381, 777, 798] = true := by decide +kernel
theorem ax_sk5 : ax_sk 5 [277, 280, 278, 279, 681, 682, 190, 694, 905, 194, 751, 698, 699, 755, 757, 758, 780, 811, 816, 367, 824, 825, 829, 370, 241, 891, 892, 893, 897, 901, 766, 204, 773, 199, 788, 790, 807, 762, 306, 326, 784, 789, 794, 802, 803, 311, 336, 340, 344, 201, 815, 317, 330, 348, 324, 333, 820, 821, 822, 360, 823, 364, 351, 355, 374, 379, 382] = true := by decide +kernel
theorem ax_sk6 : ax_sk 6 [528, 529, 533, 531, 1095, 315, 1099, 1104, 1108, 321, 435, 354, 1103, 373, 489, 377] = true := by decide +kernel
theorem ax_sk7 : ax_sk 7 [237, 238, 243, 239, 1026, 1029, 1032, 1039, 1042, 1043, 1035, 1036, 1037, 1038] = true := by decide +kernel
theorem ax_sk8 : ax_sk 8 [430, 434, 438, 442, 431, 314, 347, 971, 974, 968, 323, 492, 378, 1172, 312, 1314, 1328, 184, 189] = true := by decide +kernel
theorem ax_sk9 : ax_sk 9 [570, 574, 575, 576, 571, 578, 186, 183, 1193, 572, 309, 440, 1204, 482, 1205, 1206, 579, 581, 1222, 1226] = true := by decide +kernel
theorem ax_sk10 : ax_sk 10 [181, 182, 208, 188, 191, 198, 206, 686, 195, 690, 703, 713, 772, 770, 862, 203, 771, 205, 200] = true := by decide +kernel
theorem ax_sk11 : ax_sk 11 [173, 176, 178, 598, 232, 234, 609, 251, 253, 599, 272, 274, 600, 288, 290, 601, 602, 425, 427, 603, 453, 455, 604, 472, 474, 605, 523, 525, 606, 541, 543, 607, 565, 567, 608, 610, 611, 613, 614, 615, 187, 657, 661, 669, 677, 906, 464, 573, 207, 209, 305, 310, 316, 322, 432, 918, 922, 930, 327, 933, 329, 332, 940, 480, 337, 341, 345, 441, 436, 956, 352, 356, 361, 365, 964, 981, 443, 985, 990, 483, 485, 487, 493, 495, 1083, 1091, 532, 530, 994, 1117, 1123, 1131, 1132, 1144, 552, 550, 1164, 1168, 1173, 1181, 1189, 1200, 1210, 577, 1218, 580, 582, 1231, 1249, 383, 1177, 1261, 1274, 1287, 1296, 1310, 612, 1325, 185, 1331, 1253, 1254, 1255, 1256, 1278, 242, 1279, 1280, 1281, 1282, 197, 1283, 1284, 1285, 1286, 193, 1295, 1291, 1300, 1303] = true := by decide +kernel
theorem ax_sk12 : ax_sk 12 [1344, 1345, 1353, 1354, 1355, 1356, 1357, 1358, 1359, 1360, 1361, 1362, 1363, 1364, 1365, 1366, 1367, 1368, 1369, 1370, 1371, 1372, 1373, 1374, 1375, 1376, 1377, 1378, 1379, 1380, 1381, 1382, 1383, 1384, 1385, 1387, 1388, 1389, 1390, 1391, 1392, 1393, 1394, 1395, 1399, 1400, 1405, 1406, 1407, 1408, 1409, 1410, 1411, 1413, 1414, 1415, 1416, 1417, 1418, 1419, 1420, 1422, 1423, 1424, 1426, 1429, 1430, 1431, 1432, 1433, 1434, 1435, 1436, 1437, 1438, 1439, 1440, 1441, 1442, 1443, 1444, 1445, 1446, 1447, 1448, 1449, 1450, 1451, 1452, 1453, 1454, 1456, 1460, 1464, 1346, 1350, 1351, 1347, 1348, 1723, 1743, 1349, 1739, 1735, 1731, 1852, 1792, 1795, 1762, 1386, 1766, 1767, 1398, 1846, 1847, 1758, 1768, 1750, 1754, 1772, 1780, 1784, 1788, 1455, 1457, 1458, 1459, 1810, 1826, 1396, 1397, 1746, 1776, 1798, 1802, 1806, 1848, 1727, 1352, 1899, 1427, 1421, 1915, 1919, 1923, 1989, 1461, 2036, 2040, 2044, 1931, 1911, 1952, 2060, 2064, 2020, 1401, 2028, 1402, 2032, 2056, 1972, 1948, 2012, 2016, 1412, 2024, 2068, 2008, 2097, 2004, 2093, 2176, 1927, 1935, 1943, 1960, 1968, 1980, 1984, 1985, 1996, 2080, 2105, 2117, 2120, 1404, 1403, 2133, 2128, 2129, 2145, 2148, 2152, 2141, 2164, 2168, 2172, 2180, 2188, 1425, 2200, 2196, 2208, 1428, 2220, 2221, 2225, 2249, 2250, 2251, 2252, 2245, 1822, 1876, 1864, 1838, 1842, 1834, 1814, 1856, 1860, 1872, 1879, 1883, 1830, 1868, 1818, 1887, 1891, 1895, 2051, 2052, 2048, 2053, 2266, 1462, 2261, 1463, 2257, 2262, 2270, 1465, 2282, 2278, 2286, 2301, 2297] = true := by decide +kernel
theorem ax_sk13 : ax_sk 13 [168, 170, 1339, 1341, 653, 1711, 665, 1715, 673, 1719, 910, 1903, 914, 1907, 926, 1939, 936, 1944, 948, 1956, 952, 1964, 960, 1976, 977, 1992, 986, 2000, 1063, 2072, 1067, 2076, 1071, 2081, 1075, 2085, 1079, 2089, 1087, 2101, 1109, 2109, 1113, 2113, 1127, 2124, 1140, 2137, 1156, 2156, 1160, 2160, 1185, 2184, 1196, 2192, 1214, 2204, 1227, 2216, 1237, 2229, 1241, 2233, 1245, 2241, 1257, 2212, 1266, 2237, 1270, 2253, 1306, 2274, 1317, 2289, 1321, 2293, 1335, 2305] = true := by decide +kernel
theorem ax_sk14 : ax_sk 14 [2309, 707, 717, 721, 711, 2310, 727, 729] = true := by decide +kernel
theorem ax_sk15 : ax_sk 15 [724] = true := by decide +kernel
theorem ax_sk16 : ax_sk 16 [] = true := by decide +kernel
theorem ax_sk17 : ax_sk 17 [1120, 1121, 1122] = true := by decide +kernel
theorem ax_sk18 : ax_sk 18 [] = true := by decide +kernel
theorem ax_sks : ∀ (o : Nat) (t : Nat × Nat × Nat × Int), t ∈ ax_lk.getD o [] → (t.1 = 9 → ax_wd o t ∈ lw_tbl) ∧ (t.1 = 2 → ax_wd o t ∈ lw_tbl ∧ ax_isS t.2.2.2 = true ∧ ax_st.getD (ax_sx t.2.2.2) ("", 0) = (ax_cn o, t.2.1)) := by
  intro o t ht
  match o, ht with
  | 0, ht => exact ax_sk_use ax_sk0 ht
  | 1, ht => exact ax_sk_use ax_sk1 ht
  | 2, ht => exact ax_sk_use ax_sk2 ht
  | 3, ht => exact ax_sk_use ax_sk3 ht
  | 4, ht => exact ax_sk_use ax_sk4 ht
  | 5, ht => exact ax_sk_use ax_sk5 ht
  | 6, ht => exact ax_sk_use ax_sk6 ht
  | 7, ht => exact ax_sk_use ax_sk7 ht
  | 8, ht => exact ax_sk_use ax_sk8 ht
  | 9, ht => exact ax_sk_use ax_sk9 ht
  | 10, ht => exact ax_sk_use ax_sk10 ht
  | 11, ht => exact ax_sk_use ax_sk11 ht
  | 12, ht => exact ax_sk_use ax_sk12 ht
  | 13, ht => exact ax_sk_use ax_sk13 ht
  | 14, ht => exact ax_sk_use ax_sk14 ht
  | 15, ht => exact ax_sk_use ax_sk15 ht
  | 16, ht => exact ax_sk_use ax_sk16 ht
  | 17, ht => exact ax_sk_use ax_sk17 ht
  | 18, ht => exact ax_sk_use ax_sk18 ht
  | o + 19, ht =>
    rw [List.getD_eq_getElem?_getD, List.getElem?_eq_none (show ax_lk.length ≤ o + 19 by show 19 ≤ o + 19; omega)] at ht
    cases ht
theorem ax_arrC {s : State} {args : Array Value} {ty : FieldType} (ho : ∀ C, ty ≠ .object C) (h : (Cond.arrayClass ty).before args s = true) : ∃ c : ClassId, ArrOfT s c ty ∧ va_RA s c ty := by
  obtain ⟨c, k, comp, h1, h2, h3⟩ := Cond.arrayClass_spec h
  refine ⟨c, fun n z => ⟨fun q hq => (by cases hq), k, h2, comp, h3⟩, ?_⟩
  cases ty with
  | object C => exact absurd rfl (ho C)
  | _ => exact h1
theorem ax_arrO {s : State} {args : Array Value} {ty : FieldType} (h : (Cond.arrayOver (.array ty)).before args s = true) : ∃ c : ClassId, ArrOfT s c (.array ty) ∧ va_RA s c (.array ty) := by
  unfold Cond.before Cond.holds at h
  simp only [Cond.value, beq_iff_eq] at h
  obtain ⟨comp, hcomp, h⟩ := Option.bind_eq_some_iff.mp h
  obtain ⟨k, hk, h⟩ := Option.bind_eq_some_iff.mp h
  obtain ⟨kc, hkc, h⟩ := Option.map_eq_some_iff.mp h
  split at h
  · rename_i c2 ty2 hkind
    rw [Bool.and_eq_true] at h
    have e := of_decide_eq_true h.1
    rw [e] at hkind
    exact ⟨k, fun n z => ⟨fun q hq => (by cases hq), kc, hkc, c2, hkind⟩, (of_decide_eq_true h.2 : s.vm.findClass ("[" ++ (FieldType.array ty).toString) = some k)⟩
  · cases h
theorem ax_getD_map (xs : List Int) (j : Nat) : (xs.map Int32.ofInt).getD j 0 = Int32.ofInt (xs.getD j 0) := by
  rw [List.getD_eq_getElem?_getD, List.getElem?_map, List.getD_eq_getElem?_getD]
  cases xs[j]? <;> rfl
set_option maxHeartbeats 4000000 in
theorem ax_start {s : State} {b L : Nat} {xs : Nat → Int32} (hts : ∀ w ∈ lw_tbl, w.before #[Value.ref b] s = true) (hX : va_X b L xs s s.heap) (hbl : b < s.heap.size) (hgv : (Jvm.Cond.and given_1 narrow_1).before #[Value.ref b] s = true) : ∃ (D : va_G) (Y : Nat → ClassId) (cad : Int → Value), (∀ x, cad x = .null ∨ ∃ q, cad x = .ref q) ∧ cad (-2) = .ref b ∧ ax_Ks D Y cad s.heap.size L (fun k => (xs k).toInt) s := by
  have hg := flat_of_before _ hgv
  have hA : ∀ a : Nat, a < s.heap.size → ¬ (fun q => s.heap.size ≤ q) a := fun a h => Nat.not_le.mpr h
  have hK := ax_OKs
  have htb : ∀ w ∈ ax_tb, w.before #[Value.ref b] s = true := fun w hw => hts w (List.mem_filter.mp hw).1
  have hcl : ∀ k : Nat, ∃ q : ClassId × (Nat → Nat), k < 13 → u_Kn s (ax_cl k).1 (ax_cl k).2.1 (ax_cl k).2.2 q.1 q.2 := by
    intro k
    by_cases hk : k < 13
    · obtain ⟨-, -, c3, c4, -⟩ := hK.1 k hk
      obtain ⟨cC, iS, h⟩ := u_known (C := (ax_cl k).1) (T := (ax_cl k).2.1) (N := (ax_cl k).2.2) (n := (ax_cl k).2.2) htb c3 (htb _ c4)
      exact ⟨(cC, iS), fun _ => h⟩
    · exact ⟨(0, fun _ => 0), fun h => absurd h hk⟩
  obtain ⟨dd, hdd⟩ := Classical.axiomOfChoice hcl
  have hjw := hK.2.1
  have v12 := fun w hw => hts w (ax_v12 w hw)
  obtain ⟨y0, hy0⟩ := ax_arrC (ty := .int) (fun C q => (by cases q)) (htb _ (hjw (.arrayClass .int) (by decide)))
  obtain ⟨y1, hy1⟩ := ax_arrC (ty := .long) (fun C q => (by cases q)) (htb _ (hjw (.arrayClass .long) (by decide)))
  obtain ⟨y2, hy2⟩ := ax_arrC (ty := .char) (fun C q => (by cases q)) (htb _ (hjw (.arrayClass .char) (by decide)))
  obtain ⟨y3, hy3⟩ := ax_arrC (ty := .boolean) (fun C q => (by cases q)) (htb _ (hjw (.arrayClass .boolean) (by decide)))
  have ov1 := v12 (.arrayOver (.array .int)) (by decide)
  have ov2 := v12 (.arrayOver (.array .long)) (by decide)
  obtain ⟨y4, hy4⟩ := ax_arrO ov1
  obtain ⟨y5, hy5⟩ := ax_arrO ov2
  obtain ⟨adK, adV, hS, hev⟩ := vk_Sof (N := 21) (tm := ax_tm) (len := ax_tx.map (fun q => q.2.length)) (byt := ax_tx.map (fun q => q.2.map Int32.ofInt)) (A := fun q => s.heap.size ≤ q) (by decide +kernel) (fun i hi => hg _ (ax_v1 i hi)) (fun i hi => hg _ (ax_v2 i hi)) (fun i hi => hg _ (ax_v3 i hi)) (fun i hi => by
      have h := hg _ (ax_v4 i hi)
      rw [show (ax_tx.map (fun q => q.2.length)).getD i 0 = (ax_bt i).length by
        rw [List.getD_eq_getElem?_getD, List.getElem?_map]
        unfold ax_bt
        rw [List.getD_eq_getElem?_getD]
        cases ax_tx[i]? <;> rfl]
      exact h) (fun i hi j hj => by
      have e1 : (ax_tx.map (fun q => q.2.length)).getD i 0 = (ax_bt i).length := by
        rw [List.getD_eq_getElem?_getD, List.getElem?_map]
        unfold ax_bt
        rw [List.getD_eq_getElem?_getD]
        cases ax_tx[i]? <;> rfl
      rw [e1] at hj
      have h := hg _ (ax_v5 i hi j hj)
      rw [show ((ax_tx.map (fun q => q.2.map Int32.ofInt)).getD i []).getD j 0 = Int32.ofInt ((ax_bt i).getD j 0) by
        rw [show (ax_tx.map (fun q => q.2.map Int32.ofInt)).getD i [] = (ax_bt i).map Int32.ofInt by
          rw [List.getD_eq_getElem?_getD, List.getElem?_map]
          unfold ax_bt
          rw [List.getD_eq_getElem?_getD]
          cases ax_tx[i]? <;> rfl]
        exact ax_getD_map _ j]
      exact h) (fun i j hi hj hij => by
      rcases ax_v6 i hi j hj hij with h | h
      · exact Or.inl (hg _ h)
      · exact Or.inr (hg _ h)) hA
  have z1 := va_Zof (A := fun q => s.heap.size ≤ q) (v12 (.laysStatic "java/lang/String" "COMPACT_STRINGS" "Z") (by decide)) (v12 (.initialized "java/lang/String") (by decide)) (va_eqi (hg _ ax_v7)) hA
  have z2 := va_Zqof (A := fun q => s.heap.size ≤ q) (v12 (.laysStatic "jdk/internal/util/Preconditions" "SIOOBE_FORMATTER" "Ljava/util/function/BiFunction;") (by decide)) (v12 (.initialized "jdk/internal/util/Preconditions") (by decide)) (hg _ ax_v8) hA
  obtain ⟨tM, hM1, hM2⟩ := va_Tof (f := fun j => .int (Int32.ofInt (ax_mo.getD j 0))) (N := 9) (A := fun q => s.heap.size ≤ q) (by decide) (hg _ ax_v9) (va_eqt (hg _ ax_v10)) (fun j hj => va_eqt (hg _ (ax_v11 j hj))) hA
  have z3 := va_Zref (A := fun q => s.heap.size ≤ q) (v12 (.laysStatic "FireDrill$HouseReader" "MOST_OF" "[I") (by decide)) (v12 (.initialized "FireDrill$HouseReader") (by decide)) hM1 hA
  obtain ⟨vF, hvF, z2⟩ : ∃ vF : Value, (vF = .null ∨ ∃ q, vF = .ref q) ∧ va_Z "jdk/internal/util/Preconditions" "SIOOBE_FORMATTER" "Ljava/util/function/BiFunction;" vF (fun q => s.heap.size ≤ q) s s.heap := by
    rcases z2 with h | ⟨t, h⟩
    · exact ⟨.null, Or.inl rfl, h⟩
    · exact ⟨.ref t, Or.inr ⟨t, rfl⟩, h⟩
  have hcS : ∀ k : Nat, k < 21 → (if (-10 - 2 * (k : Int)) = -2 then Value.ref b else if (-10 - 2 * (k : Int)) = -3 then .ref tM else if (-10 - 2 * (k : Int)) = -4 then vF else if ax_isS (-10 - 2 * (k : Int)) = true then .ref (adK (ax_sx (-10 - 2 * (k : Int)))) else if ax_isB (-10 - 2 * (k : Int)) = true then .ref (adV (ax_sx (-10 - 2 * (k : Int) + 1))) else .null) = .ref (adK k) := fun k hk => by
    obtain ⟨a1, a2, -⟩ := ax_v13 k hk
    rw [if_neg (by omega), if_neg (by omega), if_neg (by omega), if_pos a1, a2]
  have hcB : ∀ k : Nat, k < 21 → (if (-11 - 2 * (k : Int)) = -2 then Value.ref b else if (-11 - 2 * (k : Int)) = -3 then .ref tM else if (-11 - 2 * (k : Int)) = -4 then vF else if ax_isS (-11 - 2 * (k : Int)) = true then .ref (adK (ax_sx (-11 - 2 * (k : Int)))) else if ax_isB (-11 - 2 * (k : Int)) = true then .ref (adV (ax_sx (-11 - 2 * (k : Int) + 1))) else .null) = .ref (adV k) := fun k hk => by
    obtain ⟨-, -, a3, a4, a5⟩ := ax_v13 k hk
    rw [if_neg (by omega), if_neg (by omega), if_neg (by omega), if_neg (by rw [a5]; decide), if_pos a3, a4]
  refine ⟨(fun k => (dd k).1, fun k => (dd k).2), fun t => match t with | 0 => y0 | 1 => y1 | 2 => y2 | 3 => y3 | 4 => y4 | _ => y5, fun x => if x = -2 then Value.ref b else if x = -3 then .ref tM else if x = -4 then vF else if ax_isS x = true then .ref (adK (ax_sx x)) else if ax_isB x = true then .ref (adV (ax_sx (x + 1))) else .null, fun x => ?_, rfl, Nat.le_refl _, ⟨fun k q hq => ?_, fun k q hq => ?_⟩, ⟨b, rfl, hbl, ?_⟩, ⟨tM, rfl, z3, hM2⟩, z2, z1, fun k hk => ?_, fun o idx z hin => ?_, fun o idx z hin => va_Nw.of rfl (hts _ ((ax_sks o _ hin).1 rfl)), ov1, ov2⟩
  · dsimp only
    split
    · exact Or.inr ⟨_, rfl⟩
    · split
      · exact Or.inr ⟨_, rfl⟩
      · split
        · exact hvF
        · split
          · exact Or.inr ⟨_, rfl⟩
          · split
            · exact Or.inr ⟨_, rfl⟩
            · exact Or.inl rfl
  · have hk : k < 13 := (List.getElem?_eq_some_iff.mp hq).1
    rw [ax_vwcl hk] at hq
    cases hq
    exact hdd k hk
  · match k, hq with
    | 0, hq => cases hq; exact hy0
    | 1, hq => cases hq; exact hy1
    | 2, hq => cases hq; exact hy2
    | 3, hq => cases hq; exact hy3
    | 4, hq => cases hq; exact hy4
    | 5, hq => cases hq; exact hy5
    | k + 6, hq => cases hq
  · obtain ⟨scr, h1, h2, h3, h4, h5⟩ := hX
    refine ⟨scr, h1, h2, h3, h4, fun j hj => ?_⟩
    dsimp only
    rw [Int32.ofInt_toInt]
    exact h5 j hj
  · obtain ⟨g1, g2, g3, g4⟩ := hS.1 k hk
    refine ⟨adK k, adV k, hcS k hk, hcB k hk, g1, g2, g3, ?_⟩
    have e1 : (ax_tx.map (fun q => q.2.length)).getD k 0 = (ax_bt k).length := by
      rw [List.getD_eq_getElem?_getD, List.getElem?_map]
      unfold ax_bt
      rw [List.getD_eq_getElem?_getD]
      cases ax_tx[k]? <;> rfl
    have e2 : (ax_tx.map (fun q => q.2.map Int32.ofInt)).getD k [] = (ax_bt k).map Int32.ofInt := by
      rw [List.getD_eq_getElem?_getD, List.getElem?_map]
      unfold ax_bt
      rw [List.getD_eq_getElem?_getD]
      cases ax_tx[k]? <;> rfl
    have e3 : (fun j => Value.int (((ax_tx.map (fun q => q.2.map Int32.ofInt)).getD k []).getD j 0)) = fun j => Value.int (Int32.ofInt ((ax_bt k).getD j 0)) := by
      funext j
      rw [e2, ax_getD_map]
    rw [e1, e3] at g4
    exact g4
  · obtain ⟨w1, w2, w3⟩ := (ax_sks o _ hin).2 rfl
    obtain ⟨n, n1, n2, n3⟩ := ax_sx_of w2
    have w1 : Cond.stringRef (ax_cn o) idx (ax_tx.getD (ax_sx z) ("", [])).1 ∈ lw_tbl := w1
    have n2 : z = -10 - 2 * (n : Int) := n2
    have n3 : ax_sx z = n := n3
    have w3 : ax_st.getD (ax_sx z) ("", 0) = (ax_cn o, idx) := w3
    refine ⟨adK n, ?_, vk_R.of (hts _ w1) ?_⟩
    · have := hcS n n1
      rw [← n2] at this
      exact this
    · have h := hev n n1
      unfold ax_tm at h
      rw [← n3, w3] at h
      rw [n3] at h
      exact h
