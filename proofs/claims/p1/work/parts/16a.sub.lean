/-! THE LAW'S ROWS, CASE BY CASE -/
section NSB
theorem ni_lookE (l : List (Nat × ni_S)) (pc : Nat) : ni_look l pc = ni_s0 ∨ ∃ r ∈ l, r.1 = pc ∧ ni_look l pc = r.2 := by
  induction l with
  | nil => exact Or.inl rfl
  | cons r t ih =>
    show cond (Nat.beq r.1 pc) r.2 (ni_look t pc) = ni_s0 ∨ ∃ r' ∈ r :: t, r'.1 = pc ∧ cond (Nat.beq r.1 pc) r.2 (ni_look t pc) = r'.2
    cases hb : Nat.beq r.1 pc with
    | true => exact Or.inr ⟨r, List.mem_cons_self, Nat.eq_of_beq_eq_true hb, rfl⟩
    | false =>
      rcases ih with h | ⟨r', h1, h2, h3⟩
      · exact Or.inl h
      · exact Or.inr ⟨r', List.mem_cons_of_mem _ h1, h2, h3⟩
def ni_asc (m : Nat) (l : List Nat) : Bool := match l with
  | [] => true
  | a :: t => Nat.ble m a && ni_asc (a + 1) t
theorem ni_ascG : ∀ (l : List Nat) (m : Nat), ni_asc m l = true → ∀ x ∈ l, m ≤ x := by
  intro l
  induction l with
  | nil => intro m _ x h; cases h
  | cons a t ih =>
    intro m h x hx
    simp only [ni_asc, Bool.and_eq_true] at h
    have h1 := Nat.le_of_ble_eq_true h.1
    rcases List.mem_cons.mp hx with rfl | hx
    · exact h1
    · have := ih (a + 1) h.2 x hx
      omega
theorem ni_lookM : ∀ (l : List (Nat × ni_S)) (m : Nat), ni_asc m (l.map Prod.fst) = true → ∀ r ∈ l, ni_look l r.1 = r.2 := by
  intro l
  induction l with
  | nil => intro m _ r h; cases h
  | cons r0 t ih =>
    intro m ha r hr
    simp only [List.map_cons, ni_asc, Bool.and_eq_true] at ha
    show cond (Nat.beq r0.1 r.1) r0.2 (ni_look t r.1) = r.2
    rcases List.mem_cons.mp hr with rfl | h
    · rw [Nat.beq_refl]
      rfl
    · have h3 := ni_ascG _ _ ha.2 r.1 (List.mem_map.mpr ⟨r, h, rfl⟩)
      have h4 : Nat.beq r0.1 r.1 = false := by
        cases hb : Nat.beq r0.1 r.1 with
        | false => rfl
        | true => have := Nat.eq_of_beq_eq_true hb; omega
      rw [h4]
      exact ih _ ha.2 r h
theorem ni_subL {L F : List (Nat × ni_S)} (hF : ni_asc 0 (F.map Prod.fst) = true) (h : ∀ r ∈ L, r ∈ F) (pc : Nat) : ni_look L pc = ni_s0 ∨ ni_look L pc = ni_look F pc := by
  rcases ni_lookE L pc with h0 | ⟨r, h1, h2, h3⟩
  · exact Or.inl h0
  · refine Or.inr ?_
    rw [h3, ← h2]
    exact (ni_lookM F 0 hF r (h r h1)).symm
/-- the program with other rows for the law -/
def ni_prQ (L : List (Nat × ni_S)) (y pc : Nat) : ni_S := ni_look ((ni_prL0.set 85 L).getD y []) pc
theorem ni_Q0 {xs : List Int32} {L : List (Nat × ni_S)} (hs : ∀ pc, ni_look L pc = ni_s0 ∨ ni_look L pc = ni_look (ni_pr85 xs) pc) (y pc : Nat) : ni_prQ L y pc = ni_s0 ∨ ni_prQ L y pc = ni_prog xs y pc := by
  by_cases h : y = 85
  · subst h
    exact hs pc
  · refine Or.inr ?_
    unfold ni_prQ ni_prog ni_prL0
    rw [ni_prLs xs, List.getD_eq_getElem?_getD, List.getD_eq_getElem?_getD, List.getElem?_set_ne (fun z => h z.symm), List.getElem?_set_ne (fun z => h z.symm), List.getElem?_set_ne (fun z => h z.symm)]
theorem ni_exQ {xs : List Int32} {L : List (Nat × ni_S)} (hs : ∀ pc, ni_look L pc = ni_s0 ∨ ni_look L pc = ni_look (ni_pr85 xs) pc) {O : ni_F} : ∀ (n d y pc : Nat) (ls st : List Value) (M : ni_H) (o : ni_O), ni_exO O (ni_prQ L) n d y pc ls st M = some o → ni_exO O (ni_prog xs) n d y pc ls st M = some o := by
  intro n
  induction n with
  | zero => intro d y pc ls st M o h; cases h
  | succ n ih =>
    intro d y pc ls st M o h
    show ni_prog xs y pc (ni_clO O (ni_exO O (ni_prog xs) n) d) (ni_exO O (ni_prog xs) n d y) ls st M = some o
    have h : ni_prQ L y pc (ni_clO O (ni_exO O (ni_prQ L) n) d) (ni_exO O (ni_prQ L) n d y) ls st M = some o := h
    rcases ni_Q0 hs y pc with h0 | h0
    · rw [h0] at h
      cases h
    · rw [h0] at h
      refine ni_up y pc _ _ _ _ (fun y' as M' o1 h1 => ?_) (fun q ls' st' M' o1 h1 => ih d y q ls' st' M' o1 h1) ls st M o h
      unfold ni_clO at h1 ⊢
      split at h1
      next o2 h2 => exact h1
      next h2 =>
        skip
        unfold ni_cl at h1 ⊢
        split at h1
        · cases h1
        next d1 =>
          split at h1
          next he =>
            rw [if_pos he]
            exact ih d1 y' 0 _ [] M' o1 h1
          next => cases h1
variable (xs : List Int32)
theorem ni_pc85_0 : (ni_pr85_0 xs).map Prod.fst = [0, 3, 4, 7, 8, 11, 12, 15, 16, 17, 19, 20, 21, 23, 25, 26] := rfl
theorem ni_pc85_1 : (ni_pr85_1 xs).map Prod.fst = [28, 30, 31, 32, 34, 35, 38, 39, 41, 42, 44, 45] := rfl
theorem ni_pc85_2 : (ni_pr85_2 xs).map Prod.fst = [260, 261, 262, 265, 267, 268, 271, 273, 274, 277, 279, 284, 286, 289, 290, 291, 292, 294, 295, 296, 301] := rfl
theorem ni_pc85_3 : (ni_pr85_3 xs).map Prod.fst = [304, 305, 306, 308, 309, 310, 311, 312, 314, 315, 316, 317, 318, 320, 321, 322, 323, 324, 326, 327, 328, 329, 330, 332, 333, 334, 335, 336, 339, 341, 342, 343, 345, 346, 347, 348, 349, 351, 352, 353, 354, 355, 357, 358, 359, 360, 361, 363, 364, 365, 366, 367, 369, 370, 371, 372, 375, 377, 378, 381, 383, 388, 390, 405] := rfl
theorem ni_pc85_4 : (ni_pr85_4 xs).map Prod.fst = [408, 409, 410, 412, 413, 414, 415, 416, 418, 419, 420, 421, 422, 425, 427, 428, 429, 431, 432, 433, 434, 435, 437, 438, 439, 440, 443, 445, 446, 449, 451, 456, 458, 473] := rfl
theorem ni_pc85_5 : (ni_pr85_5 xs).map Prod.fst = [476, 477, 478, 480, 481, 482, 483, 484, 486, 487, 488, 489, 492, 493, 496, 497, 498, 501, 503, 504, 505, 507, 508, 509, 510, 511, 513, 514, 515, 516, 519, 520, 523, 524, 527, 529, 530, 533, 535, 540, 542, 564] := rfl
theorem ni_pc85_6 : (ni_pr85_6 xs).map Prod.fst = [567, 568, 569, 571, 572, 573, 574, 575, 577, 578, 579, 580, 581, 583, 584, 585, 586, 587, 590, 592, 593, 594, 596, 597, 598, 599, 600, 602, 603, 604, 605, 606, 608, 609, 610, 611, 614, 616, 617, 620, 622, 627, 629, 644] := rfl
theorem ni_pc85_7 : (ni_pr85_7 xs).map Prod.fst = [647, 648, 649, 651, 652, 653, 654, 655, 658, 660, 661, 662, 664, 665, 666, 667, 670, 672, 673, 676, 678, 683, 685, 700] := rfl
theorem ni_pc85_8 : (ni_pr85_8 xs).map Prod.fst = [703, 704, 705, 707, 708, 709, 710, 711, 713, 714, 715, 716, 717, 719, 720, 721, 722, 723, 725, 726, 727, 728, 729, 732, 734, 735, 736, 738, 739, 740, 741, 742, 744, 745, 746, 747, 748, 750, 751, 752, 753, 754, 756, 757, 758, 759, 762, 764, 765, 768, 770, 775, 777, 792] := rfl
theorem ni_pc85_9 : (ni_pr85_9 xs).map Prod.fst = [795, 796, 797, 799, 800, 801, 802, 803, 806, 808, 809, 810, 812, 813, 814, 815, 818, 820, 821, 824, 826, 831, 833, 848] := rfl
theorem ni_pc85_10 : (ni_pr85_10 xs).map Prod.fst = [851, 852, 853, 855, 856, 857, 858, 859, 861, 862, 863, 864, 867, 868, 871, 872, 873, 875, 876, 877, 878, 879, 881, 882, 883, 884, 885, 887, 888, 889, 890, 893, 894, 897, 898, 899, 902, 904, 905, 906, 908, 909, 910, 911, 912, 914, 915, 916, 917, 920, 921, 924, 925, 926, 928, 929, 930, 931, 932, 934, 935, 936, 937, 938, 940, 941, 942, 943, 946, 947, 950, 951, 954, 956, 957, 960, 962, 967, 969, 984] := rfl
theorem ni_pc85_11 : (ni_pr85_11 xs).map Prod.fst = [987, 988, 989, 991, 992, 993, 994, 995, 997, 998, 999, 1000, 1003, 1004, 1007, 1008, 1009, 1011, 1012, 1013, 1014, 1015, 1017, 1018, 1019, 1020, 1021, 1024, 1026, 1027, 1028, 1030, 1031, 1032, 1033, 1034, 1036, 1037, 1038, 1039, 1042, 1043, 1046, 1047, 1048, 1050, 1051, 1052, 1053, 1054, 1056, 1057, 1058, 1059, 1062, 1064, 1065, 1068, 1070, 1075, 1077, 1092] := rfl
theorem ni_pc85_12 : (ni_pr85_12 xs).map Prod.fst = [1095, 1096, 1097, 1099, 1100, 1101, 1102, 1103, 1105, 1106, 1107, 1108, 1109, 1111, 1112, 1113, 1114, 1115, 1117, 1118, 1119, 1120, 1121, 1124, 1126, 1127, 1128, 1130, 1131, 1132, 1133, 1134, 1136, 1137, 1138, 1139, 1140, 1142, 1143, 1144, 1145, 1146, 1148, 1149, 1150, 1151, 1154, 1156, 1157, 1160, 1162, 1167, 1169, 1184] := rfl
theorem ni_pc85_13 : (ni_pr85_13 xs).map Prod.fst = [1187, 1188, 1189, 1191, 1192, 1193, 1194, 1195, 1197, 1198, 1199, 1200, 1201, 1203, 1204, 1205, 1206, 1207, 1209, 1210, 1211, 1212, 1213, 1216, 1218, 1219, 1220, 1222, 1223, 1224, 1225, 1226, 1228, 1229, 1230, 1231, 1232, 1234, 1235, 1236, 1237, 1238, 1240, 1241, 1242, 1243, 1246, 1248, 1249, 1252, 1254, 1259, 1261, 1276] := rfl
theorem ni_pc85_14 : (ni_pr85_14 xs).map Prod.fst = [1279, 1280, 1281, 1283, 1284, 1285, 1286, 1287, 1289, 1290, 1291, 1292, 1293, 1295, 1296, 1297, 1298, 1299, 1302, 1304, 1305, 1306, 1308, 1309, 1310, 1311, 1312, 1314, 1315, 1316, 1317, 1318, 1320, 1321, 1322, 1323, 1326, 1328, 1329, 1332, 1334, 1339, 1341, 1356] := rfl
theorem ni_pc85_15 : (ni_pr85_15 xs).map Prod.fst = [1359, 1360, 1361, 1363, 1364, 1365, 1366, 1367, 1370, 1372, 1373, 1374, 1376, 1377, 1378, 1379, 1382, 1384, 1385, 1388, 1390, 1395, 1397, 1400, 1401, 1402, 1403, 1405, 1406, 1407, 1412] := rfl
theorem ni_pc85_16 : (ni_pr85_16 xs).map Prod.fst = [1415, 1416, 1419, 1420, 1423] := rfl
theorem ni_pc85_17 : (ni_pr85_17 xs).map Prod.fst = [1428, 1429, 1432, 1433, 1436] := rfl
theorem ni_pc85_18 : (ni_pr85_18 xs).map Prod.fst = [1441, 1442, 1445, 1446, 1449] := rfl
theorem ni_pc85_19 : (ni_pr85_19 xs).map Prod.fst = [1454, 1455, 1458, 1459, 1462] := rfl
theorem ni_pc85_20 : (ni_pr85_20 xs).map Prod.fst = [1467, 1468, 1471, 1472, 1475] := rfl
theorem ni_pc85_21 : (ni_pr85_21 xs).map Prod.fst = [1480, 1481, 1484, 1485, 1488] := rfl
theorem ni_pc85_22 : (ni_pr85_22 xs).map Prod.fst = [1493, 1494, 1495, 1497, 1498, 1499, 1500, 1501, 1504, 1506, 1507, 1508, 1510, 1511, 1512, 1513, 1516, 1518, 1519, 1522, 1524, 1529, 1531, 1553] := rfl
theorem ni_pc85_23 : (ni_pr85_23 xs).map Prod.fst = [1556, 1557, 1558, 1560, 1561, 1562, 1563, 1564, 1566, 1567, 1568, 1569, 1570, 1573, 1575, 1576, 1577, 1579, 1580, 1581, 1582, 1583, 1585, 1586, 1587, 1588, 1591, 1593, 1594, 1597, 1599, 1604, 1606, 1621] := rfl
theorem ni_pc85_24 : (ni_pr85_24 xs).map Prod.fst = [1624, 1625, 1628, 1629, 1632] := rfl
theorem ni_pc85_25 : (ni_pr85_25 xs).map Prod.fst = [1637, 1638, 1641, 1642, 1645] := rfl
theorem ni_pc85_26 : (ni_pr85_26 xs).map Prod.fst = [1650, 1651, 1652, 1654, 1655, 1656, 1657, 1658, 1660, 1661, 1662, 1663, 1664, 1667, 1669, 1670, 1671, 1673, 1674, 1675, 1676, 1677, 1679, 1680, 1681, 1682, 1685, 1687, 1688, 1691, 1693, 1698, 1700, 1715] := rfl
theorem ni_pc85_27 : (ni_pr85_27 xs).map Prod.fst = [1718, 1719, 1720, 1722, 1723, 1724, 1725, 1726, 1728, 1729, 1730, 1731, 1732, 1735, 1737, 1738, 1739, 1741, 1742, 1743, 1744, 1745, 1747, 1748, 1749, 1750, 1753, 1755, 1756, 1759, 1761, 1766, 1768, 1783] := rfl
theorem ni_pc85_28 : (ni_pr85_28 xs).map Prod.fst = [1786, 1787, 1788, 1790, 1791, 1792, 1793, 1794, 1797, 1799, 1800, 1801, 1803, 1804, 1805, 1806, 1809, 1811, 1812, 1815, 1817, 1822, 1824, 1839] := rfl
theorem ni_pc85_29 : (ni_pr85_29 xs).map Prod.fst = [1842, 1843, 1844, 1846, 1847, 1848, 1849, 1850, 1853, 1855, 1856, 1857, 1859, 1860, 1861, 1862, 1865, 1867, 1868, 1871, 1873, 1878, 1880, 1895] := rfl
theorem ni_pc85_30 : (ni_pr85_30 xs).map Prod.fst = [1898, 1899, 1900, 1902, 1903, 1904, 1905, 1906, 1909, 1911, 1912, 1913, 1915, 1916, 1917, 1918, 1921, 1923, 1924, 1927, 1929, 1934, 1936, 1951] := rfl
theorem ni_pc85_31 : (ni_pr85_31 xs).map Prod.fst = [1954, 1955, 1956, 1958, 1959, 1960, 1961, 1962, 1964, 1965, 1966, 1967, 1968, 1971, 1973, 1974, 1975, 1977, 1978, 1979, 1980, 1981, 1983, 1984, 1985, 1986, 1989, 1991, 1992, 1995, 1997, 2002, 2004, 2019] := rfl
theorem ni_pc85_32 : (ni_pr85_32 xs).map Prod.fst = [2022, 2023, 2024, 2026, 2027, 2028, 2029, 2030, 2032, 2033, 2034, 2035, 2036, 2039, 2041, 2042, 2043, 2045, 2046, 2047, 2048, 2049, 2051, 2052, 2053, 2054, 2057, 2059, 2060, 2063, 2065, 2070, 2072, 2087] := rfl
theorem ni_pc85_33 : (ni_pr85_33 xs).map Prod.fst = [2090, 2091, 2092, 2094, 2095, 2096, 2097, 2098, 2100, 2101, 2102, 2103, 2104, 2107, 2109, 2110, 2111, 2113, 2114, 2115, 2116, 2117, 2119, 2120, 2121, 2122, 2125, 2127, 2128, 2131, 2133, 2138, 2140, 2155] := rfl
theorem ni_pc85_34 : (ni_pr85_34 xs).map Prod.fst = [2158, 2159, 2160, 2162, 2163, 2164, 2165, 2166, 2168, 2169, 2170, 2171, 2172, 2175, 2177, 2178, 2179, 2181, 2182, 2183, 2184, 2185, 2187, 2188, 2189, 2190, 2193, 2195, 2196, 2199, 2201, 2206, 2208, 2223] := rfl
theorem ni_pc85_35 : (ni_pr85_35 xs).map Prod.fst = [2226, 2227, 2228, 2230, 2231, 2232, 2233, 2234, 2237, 2239, 2240, 2241, 2243, 2244, 2245, 2246, 2249, 2251, 2252, 2255, 2257, 2262, 2264, 2279] := rfl
theorem ni_pc85_36 : (ni_pr85_36 xs).map Prod.fst = [2282, 2283, 2284, 2286, 2287, 2288, 2289, 2290, 2292, 2293, 2294, 2295, 2298, 2299, 2302, 2303, 2304, 2307, 2309, 2310, 2311, 2313, 2314, 2315, 2316, 2317, 2319, 2320, 2321, 2322, 2325, 2326, 2329, 2330, 2333, 2335, 2336, 2339, 2341, 2346, 2348, 2363] := rfl
theorem ni_pc85_37 : (ni_pr85_37 xs).map Prod.fst = [2366, 2367, 2368, 2370, 2371, 2372, 2373, 2374, 2376, 2377, 2378, 2379, 2382, 2383, 2386, 2387, 2388, 2390, 2391, 2392, 2393, 2394, 2397, 2399, 2400, 2401, 2403, 2404, 2405, 2406, 2407, 2409, 2410, 2411, 2412, 2415, 2416, 2419, 2420, 2421, 2423, 2424, 2425, 2426, 2429, 2431, 2432, 2435, 2437, 2442, 2444, 2459] := rfl
theorem ni_pc85_38 : (ni_pr85_38 xs).map Prod.fst = [2462, 2463, 2464, 2466, 2467, 2468, 2469, 2470, 2472, 2473, 2474, 2475, 2478, 2479, 2482, 2483, 2484, 2487, 2489, 2490, 2491, 2493, 2494, 2495, 2496, 2497, 2499, 2500, 2501, 2502, 2505, 2506, 2509, 2510, 2513, 2515, 2516, 2519, 2521, 2526, 2528, 2543] := rfl
theorem ni_pc85_39 : (ni_pr85_39 xs).map Prod.fst = [2546, 2547, 2548, 2550, 2551, 2552, 2553, 2554, 2556, 2557, 2558, 2559, 2562, 2563, 2566, 2567, 2568, 2570, 2571, 2572, 2573, 2574, 2577, 2579, 2580, 2581, 2583, 2584, 2585, 2586, 2587, 2589, 2590, 2591, 2592, 2595, 2596, 2599, 2600, 2601, 2603, 2604, 2605, 2606, 2609, 2611, 2612, 2615, 2617, 2622, 2624, 2639] := rfl
theorem ni_pc85_40 : (ni_pr85_40 xs).map Prod.fst = [2642, 2643, 2644, 2646, 2647, 2648, 2649, 2650, 2653, 2655, 2656, 2657, 2659, 2660, 2661, 2662, 2665, 2667, 2668, 2671, 2673, 2678, 2680, 2695] := rfl
theorem ni_pc85_41 : (ni_pr85_41 xs).map Prod.fst = [2698, 2699, 2700, 2702, 2703, 2704, 2705, 2706, 2709, 2711, 2712, 2713, 2715, 2716, 2717, 2718, 2721, 2723, 2724, 2727, 2729, 2734, 2736, 2751] := rfl
theorem ni_pc85_42 : (ni_pr85_42 xs).map Prod.fst = [2754, 2755, 2756, 2758, 2759, 2760, 2761, 2762, 2765, 2767, 2768, 2769, 2771, 2772, 2773, 2774, 2777, 2779, 2780, 2783, 2785, 2790, 2792, 2807] := rfl
theorem ni_pc85_43 : (ni_pr85_43 xs).map Prod.fst = [2810, 2811, 2812, 2814, 2815, 2816, 2817, 2818, 2821, 2823, 2824, 2825, 2827, 2828, 2829, 2830, 2833, 2835, 2836, 2839, 2841, 2846, 2848, 2863] := rfl
theorem ni_pc85_44 : (ni_pr85_44 xs).map Prod.fst = [2866, 2867, 2868, 2870, 2871, 2872, 2873, 2874, 2877, 2879, 2880, 2881, 2883, 2884, 2885, 2886, 2889, 2891, 2892, 2895, 2897, 2902, 2904, 2919] := rfl
theorem ni_pc85_45 : (ni_pr85_45 xs).map Prod.fst = [2922, 2923, 2924, 2926, 2927, 2928, 2929, 2930, 2932, 2933, 2934, 2935, 2936, 2939, 2941, 2942, 2943, 2945, 2946, 2947, 2948, 2949, 2951, 2952, 2953, 2954, 2957, 2959, 2960, 2963, 2965, 2970, 2972, 2987] := rfl
theorem ni_pc85_46 : (ni_pr85_46 xs).map Prod.fst = [2990, 2991, 2992, 2994, 2995, 2996, 2997, 2998, 3001, 3003, 3004, 3005, 3007, 3008, 3009, 3010, 3013, 3015, 3016, 3019, 3021, 3026, 3028, 3043] := rfl
theorem ni_pc85_47 : (ni_pr85_47 xs).map Prod.fst = [3046, 3047, 3048, 3050, 3051, 3052, 3053, 3055, 3058, 3060, 3061, 3062, 3064, 3065, 3066, 3067, 3070, 3072, 3073, 3076, 3078, 3083, 3085, 3120] := rfl
theorem ni_pc85_48 : (ni_pr85_48 xs).map Prod.fst = [3123, 3124, 3125, 3127, 3128, 3129, 3130, 3131, 3134, 3136, 3137, 3138, 3140, 3141, 3142, 3143, 3146, 3148, 3149, 3152, 3154, 3159, 3161, 3176] := rfl
theorem ni_pc85_49 : (ni_pr85_49 xs).map Prod.fst = [3179, 3180, 3181, 3183, 3184, 3185, 3186, 3187, 3189, 3190, 3191, 3192, 3193, 3196, 3198, 3199, 3200, 3202, 3203, 3204, 3205, 3206, 3208, 3209, 3210, 3211, 3214, 3216, 3217, 3220, 3222, 3227, 3229, 3244] := rfl
theorem ni_pc85_50 : (ni_pr85_50 xs).map Prod.fst = [3247, 3248, 3249, 3251, 3252, 3253, 3254, 3255, 3258, 3260, 3261, 3262, 3264, 3265, 3266, 3267, 3270, 3272, 3273, 3276, 3278, 3283, 3285, 3288, 3289, 3290, 3291, 3293, 3294, 3295, 3300] := rfl
theorem ni_pc85_51 : (ni_pr85_51 xs).map Prod.fst = [3303, 3304, 3307, 3308, 3311, 3312] := rfl
theorem ni_pc85_52 : (ni_pr85_52 xs).map Prod.fst = [3317, 3320, 3323, 3324] := rfl
set_option maxRecDepth 100000 in
theorem ni_asc85 : ni_asc 0 ((ni_pr85 xs).map Prod.fst) = true := by
  unfold ni_pr85
  simp only [List.map_append, ni_pc85_0, ni_pc85_1, ni_pc85_2, ni_pc85_3, ni_pc85_4, ni_pc85_5, ni_pc85_6, ni_pc85_7, ni_pc85_8, ni_pc85_9, ni_pc85_10, ni_pc85_11, ni_pc85_12, ni_pc85_13, ni_pc85_14, ni_pc85_15, ni_pc85_16, ni_pc85_17, ni_pc85_18, ni_pc85_19, ni_pc85_20, ni_pc85_21, ni_pc85_22, ni_pc85_23, ni_pc85_24, ni_pc85_25, ni_pc85_26, ni_pc85_27, ni_pc85_28, ni_pc85_29, ni_pc85_30, ni_pc85_31, ni_pc85_32, ni_pc85_33, ni_pc85_34, ni_pc85_35, ni_pc85_36, ni_pc85_37, ni_pc85_38, ni_pc85_39, ni_pc85_40, ni_pc85_41, ni_pc85_42, ni_pc85_43, ni_pc85_44, ni_pc85_45, ni_pc85_46, ni_pc85_47, ni_pc85_48, ni_pc85_49, ni_pc85_50, ni_pc85_51, ni_pc85_52]
  decide +kernel
theorem ni_me85_0 : ∀ r ∈ ni_pr85_0 xs, r ∈ ni_pr85 xs := fun r h => by unfold ni_pr85; exact List.mem_append_left _ h
theorem ni_me85_1 : ∀ r ∈ ni_pr85_1 xs, r ∈ ni_pr85 xs := fun r h => by unfold ni_pr85; exact List.mem_append_right _ (List.mem_append_left _ h)
theorem ni_me85_2 : ∀ r ∈ ni_pr85_2 xs, r ∈ ni_pr85 xs := fun r h => by unfold ni_pr85; exact List.mem_append_right _ (List.mem_append_right _ (List.mem_append_left _ h))
theorem ni_me85_3 : ∀ r ∈ ni_pr85_3 xs, r ∈ ni_pr85 xs := fun r h => by unfold ni_pr85; exact List.mem_append_right _ (List.mem_append_right _ (List.mem_append_right _ (List.mem_append_left _ h)))
theorem ni_me85_4 : ∀ r ∈ ni_pr85_4 xs, r ∈ ni_pr85 xs := fun r h => by unfold ni_pr85; exact List.mem_append_right _ (List.mem_append_right _ (List.mem_append_right _ (List.mem_append_right _ (List.mem_append_left _ h))))
theorem ni_me85_5 : ∀ r ∈ ni_pr85_5 xs, r ∈ ni_pr85 xs := fun r h => by unfold ni_pr85; exact List.mem_append_right _ (List.mem_append_right _ (List.mem_append_right _ (List.mem_append_right _ (List.mem_append_right _ (List.mem_append_left _ h)))))
theorem ni_me85_6 : ∀ r ∈ ni_pr85_6 xs, r ∈ ni_pr85 xs := fun r h => by unfold ni_pr85; exact List.mem_append_right _ (List.mem_append_right _ (List.mem_append_right _ (List.mem_append_right _ (List.mem_append_right _ (List.mem_append_right _ (List.mem_append_left _ h))))))
theorem ni_me85_7 : ∀ r ∈ ni_pr85_7 xs, r ∈ ni_pr85 xs := fun r h => by unfold ni_pr85; exact List.mem_append_right _ (List.mem_append_right _ (List.mem_append_right _ (List.mem_append_right _ (List.mem_append_right _ (List.mem_append_right _ (List.mem_append_right _ (List.mem_append_left _ h)))))))
theorem ni_me85_8 : ∀ r ∈ ni_pr85_8 xs, r ∈ ni_pr85 xs := fun r h => by unfold ni_pr85; exact List.mem_append_right _ (List.mem_append_right _ (List.mem_append_right _ (List.mem_append_right _ (List.mem_append_right _ (List.mem_append_right _ (List.mem_append_right _ (List.mem_append_right _ (List.mem_append_left _ h))))))))
theorem ni_me85_9 : ∀ r ∈ ni_pr85_9 xs, r ∈ ni_pr85 xs := fun r h => by unfold ni_pr85; exact List.mem_append_right _ (List.mem_append_right _ (List.mem_append_right _ (List.mem_append_right _ (List.mem_append_right _ (List.mem_append_right _ (List.mem_append_right _ (List.mem_append_right _ (List.mem_append_right _ (List.mem_append_left _ h)))))))))
theorem ni_me85_10 : ∀ r ∈ ni_pr85_10 xs, r ∈ ni_pr85 xs := fun r h => by unfold ni_pr85; exact List.mem_append_right _ (List.mem_append_right _ (List.mem_append_right _ (List.mem_append_right _ (List.mem_append_right _ (List.mem_append_right _ (List.mem_append_right _ (List.mem_append_right _ (List.mem_append_right _ (List.mem_append_right _ (List.mem_append_left _ h))))))))))
theorem ni_me85_11 : ∀ r ∈ ni_pr85_11 xs, r ∈ ni_pr85 xs := fun r h => by unfold ni_pr85; exact List.mem_append_right _ (List.mem_append_right _ (List.mem_append_right _ (List.mem_append_right _ (List.mem_append_right _ (List.mem_append_right _ (List.mem_append_right _ (List.mem_append_right _ (List.mem_append_right _ (List.mem_append_right _ (List.mem_append_right _ (List.mem_append_left _ h)))))))))))
theorem ni_me85_12 : ∀ r ∈ ni_pr85_12 xs, r ∈ ni_pr85 xs := fun r h => by unfold ni_pr85; exact List.mem_append_right _ (List.mem_append_right _ (List.mem_append_right _ (List.mem_append_right _ (List.mem_append_right _ (List.mem_append_right _ (List.mem_append_right _ (List.mem_append_right _ (List.mem_append_right _ (List.mem_append_right _ (List.mem_append_right _ (List.mem_append_right _ (List.mem_append_left _ h))))))))))))
theorem ni_me85_13 : ∀ r ∈ ni_pr85_13 xs, r ∈ ni_pr85 xs := fun r h => by unfold ni_pr85; exact List.mem_append_right _ (List.mem_append_right _ (List.mem_append_right _ (List.mem_append_right _ (List.mem_append_right _ (List.mem_append_right _ (List.mem_append_right _ (List.mem_append_right _ (List.mem_append_right _ (List.mem_append_right _ (List.mem_append_right _ (List.mem_append_right _ (List.mem_append_right _ (List.mem_append_left _ h)))))))))))))
theorem ni_me85_14 : ∀ r ∈ ni_pr85_14 xs, r ∈ ni_pr85 xs := fun r h => by unfold ni_pr85; exact List.mem_append_right _ (List.mem_append_right _ (List.mem_append_right _ (List.mem_append_right _ (List.mem_append_right _ (List.mem_append_right _ (List.mem_append_right _ (List.mem_append_right _ (List.mem_append_right _ (List.mem_append_right _ (List.mem_append_right _ (List.mem_append_right _ (List.mem_append_right _ (List.mem_append_right _ (List.mem_append_left _ h))))))))))))))
theorem ni_me85_15 : ∀ r ∈ ni_pr85_15 xs, r ∈ ni_pr85 xs := fun r h => by unfold ni_pr85; exact List.mem_append_right _ (List.mem_append_right _ (List.mem_append_right _ (List.mem_append_right _ (List.mem_append_right _ (List.mem_append_right _ (List.mem_append_right _ (List.mem_append_right _ (List.mem_append_right _ (List.mem_append_right _ (List.mem_append_right _ (List.mem_append_right _ (List.mem_append_right _ (List.mem_append_right _ (List.mem_append_right _ (List.mem_append_left _ h)))))))))))))))
theorem ni_me85_16 : ∀ r ∈ ni_pr85_16 xs, r ∈ ni_pr85 xs := fun r h => by unfold ni_pr85; exact List.mem_append_right _ (List.mem_append_right _ (List.mem_append_right _ (List.mem_append_right _ (List.mem_append_right _ (List.mem_append_right _ (List.mem_append_right _ (List.mem_append_right _ (List.mem_append_right _ (List.mem_append_right _ (List.mem_append_right _ (List.mem_append_right _ (List.mem_append_right _ (List.mem_append_right _ (List.mem_append_right _ (List.mem_append_right _ (List.mem_append_left _ h))))))))))))))))
theorem ni_me85_17 : ∀ r ∈ ni_pr85_17 xs, r ∈ ni_pr85 xs := fun r h => by unfold ni_pr85; exact List.mem_append_right _ (List.mem_append_right _ (List.mem_append_right _ (List.mem_append_right _ (List.mem_append_right _ (List.mem_append_right _ (List.mem_append_right _ (List.mem_append_right _ (List.mem_append_right _ (List.mem_append_right _ (List.mem_append_right _ (List.mem_append_right _ (List.mem_append_right _ (List.mem_append_right _ (List.mem_append_right _ (List.mem_append_right _ (List.mem_append_right _ (List.mem_append_left _ h)))))))))))))))))
theorem ni_me85_18 : ∀ r ∈ ni_pr85_18 xs, r ∈ ni_pr85 xs := fun r h => by unfold ni_pr85; exact List.mem_append_right _ (List.mem_append_right _ (List.mem_append_right _ (List.mem_append_right _ (List.mem_append_right _ (List.mem_append_right _ (List.mem_append_right _ (List.mem_append_right _ (List.mem_append_right _ (List.mem_append_right _ (List.mem_append_right _ (List.mem_append_right _ (List.mem_append_right _ (List.mem_append_right _ (List.mem_append_right _ (List.mem_append_right _ (List.mem_append_right _ (List.mem_append_right _ (List.mem_append_left _ h))))))))))))))))))
theorem ni_me85_19 : ∀ r ∈ ni_pr85_19 xs, r ∈ ni_pr85 xs := fun r h => by unfold ni_pr85; exact List.mem_append_right _ (List.mem_append_right _ (List.mem_append_right _ (List.mem_append_right _ (List.mem_append_right _ (List.mem_append_right _ (List.mem_append_right _ (List.mem_append_right _ (List.mem_append_right _ (List.mem_append_right _ (List.mem_append_right _ (List.mem_append_right _ (List.mem_append_right _ (List.mem_append_right _ (List.mem_append_right _ (List.mem_append_right _ (List.mem_append_right _ (List.mem_append_right _ (List.mem_append_right _ (List.mem_append_left _ h)))))))))))))))))))
theorem ni_me85_20 : ∀ r ∈ ni_pr85_20 xs, r ∈ ni_pr85 xs := fun r h => by unfold ni_pr85; exact List.mem_append_right _ (List.mem_append_right _ (List.mem_append_right _ (List.mem_append_right _ (List.mem_append_right _ (List.mem_append_right _ (List.mem_append_right _ (List.mem_append_right _ (List.mem_append_right _ (List.mem_append_right _ (List.mem_append_right _ (List.mem_append_right _ (List.mem_append_right _ (List.mem_append_right _ (List.mem_append_right _ (List.mem_append_right _ (List.mem_append_right _ (List.mem_append_right _ (List.mem_append_right _ (List.mem_append_right _ (List.mem_append_left _ h))))))))))))))))))))
theorem ni_me85_21 : ∀ r ∈ ni_pr85_21 xs, r ∈ ni_pr85 xs := fun r h => by unfold ni_pr85; exact List.mem_append_right _ (List.mem_append_right _ (List.mem_append_right _ (List.mem_append_right _ (List.mem_append_right _ (List.mem_append_right _ (List.mem_append_right _ (List.mem_append_right _ (List.mem_append_right _ (List.mem_append_right _ (List.mem_append_right _ (List.mem_append_right _ (List.mem_append_right _ (List.mem_append_right _ (List.mem_append_right _ (List.mem_append_right _ (List.mem_append_right _ (List.mem_append_right _ (List.mem_append_right _ (List.mem_append_right _ (List.mem_append_right _ (List.mem_append_left _ h)))))))))))))))))))))
theorem ni_me85_22 : ∀ r ∈ ni_pr85_22 xs, r ∈ ni_pr85 xs := fun r h => by unfold ni_pr85; exact List.mem_append_right _ (List.mem_append_right _ (List.mem_append_right _ (List.mem_append_right _ (List.mem_append_right _ (List.mem_append_right _ (List.mem_append_right _ (List.mem_append_right _ (List.mem_append_right _ (List.mem_append_right _ (List.mem_append_right _ (List.mem_append_right _ (List.mem_append_right _ (List.mem_append_right _ (List.mem_append_right _ (List.mem_append_right _ (List.mem_append_right _ (List.mem_append_right _ (List.mem_append_right _ (List.mem_append_right _ (List.mem_append_right _ (List.mem_append_right _ (List.mem_append_left _ h))))))))))))))))))))))
theorem ni_me85_23 : ∀ r ∈ ni_pr85_23 xs, r ∈ ni_pr85 xs := fun r h => by unfold ni_pr85; exact List.mem_append_right _ (List.mem_append_right _ (List.mem_append_right _ (List.mem_append_right _ (List.mem_append_right _ (List.mem_append_right _ (List.mem_append_right _ (List.mem_append_right _ (List.mem_append_right _ (List.mem_append_right _ (List.mem_append_right _ (List.mem_append_right _ (List.mem_append_right _ (List.mem_append_right _ (List.mem_append_right _ (List.mem_append_right _ (List.mem_append_right _ (List.mem_append_right _ (List.mem_append_right _ (List.mem_append_right _ (List.mem_append_right _ (List.mem_append_right _ (List.mem_append_right _ (List.mem_append_left _ h)))))))))))))))))))))))
theorem ni_me85_24 : ∀ r ∈ ni_pr85_24 xs, r ∈ ni_pr85 xs := fun r h => by unfold ni_pr85; exact List.mem_append_right _ (List.mem_append_right _ (List.mem_append_right _ (List.mem_append_right _ (List.mem_append_right _ (List.mem_append_right _ (List.mem_append_right _ (List.mem_append_right _ (List.mem_append_right _ (List.mem_append_right _ (List.mem_append_right _ (List.mem_append_right _ (List.mem_append_right _ (List.mem_append_right _ (List.mem_append_right _ (List.mem_append_right _ (List.mem_append_right _ (List.mem_append_right _ (List.mem_append_right _ (List.mem_append_right _ (List.mem_append_right _ (List.mem_append_right _ (List.mem_append_right _ (List.mem_append_right _ (List.mem_append_left _ h))))))))))))))))))))))))
theorem ni_me85_25 : ∀ r ∈ ni_pr85_25 xs, r ∈ ni_pr85 xs := fun r h => by unfold ni_pr85; exact List.mem_append_right _ (List.mem_append_right _ (List.mem_append_right _ (List.mem_append_right _ (List.mem_append_right _ (List.mem_append_right _ (List.mem_append_right _ (List.mem_append_right _ (List.mem_append_right _ (List.mem_append_right _ (List.mem_append_right _ (List.mem_append_right _ (List.mem_append_right _ (List.mem_append_right _ (List.mem_append_right _ (List.mem_append_right _ (List.mem_append_right _ (List.mem_append_right _ (List.mem_append_right _ (List.mem_append_right _ (List.mem_append_right _ (List.mem_append_right _ (List.mem_append_right _ (List.mem_append_right _ (List.mem_append_right _ (List.mem_append_left _ h)))))))))))))))))))))))))
theorem ni_me85_26 : ∀ r ∈ ni_pr85_26 xs, r ∈ ni_pr85 xs := fun r h => by unfold ni_pr85; exact List.mem_append_right _ (List.mem_append_right _ (List.mem_append_right _ (List.mem_append_right _ (List.mem_append_right _ (List.mem_append_right _ (List.mem_append_right _ (List.mem_append_right _ (List.mem_append_right _ (List.mem_append_right _ (List.mem_append_right _ (List.mem_append_right _ (List.mem_append_right _ (List.mem_append_right _ (List.mem_append_right _ (List.mem_append_right _ (List.mem_append_right _ (List.mem_append_right _ (List.mem_append_right _ (List.mem_append_right _ (List.mem_append_right _ (List.mem_append_right _ (List.mem_append_right _ (List.mem_append_right _ (List.mem_append_right _ (List.mem_append_right _ (List.mem_append_left _ h))))))))))))))))))))))))))
theorem ni_me85_27 : ∀ r ∈ ni_pr85_27 xs, r ∈ ni_pr85 xs := fun r h => by unfold ni_pr85; exact List.mem_append_right _ (List.mem_append_right _ (List.mem_append_right _ (List.mem_append_right _ (List.mem_append_right _ (List.mem_append_right _ (List.mem_append_right _ (List.mem_append_right _ (List.mem_append_right _ (List.mem_append_right _ (List.mem_append_right _ (List.mem_append_right _ (List.mem_append_right _ (List.mem_append_right _ (List.mem_append_right _ (List.mem_append_right _ (List.mem_append_right _ (List.mem_append_right _ (List.mem_append_right _ (List.mem_append_right _ (List.mem_append_right _ (List.mem_append_right _ (List.mem_append_right _ (List.mem_append_right _ (List.mem_append_right _ (List.mem_append_right _ (List.mem_append_right _ (List.mem_append_left _ h)))))))))))))))))))))))))))
theorem ni_me85_28 : ∀ r ∈ ni_pr85_28 xs, r ∈ ni_pr85 xs := fun r h => by unfold ni_pr85; exact List.mem_append_right _ (List.mem_append_right _ (List.mem_append_right _ (List.mem_append_right _ (List.mem_append_right _ (List.mem_append_right _ (List.mem_append_right _ (List.mem_append_right _ (List.mem_append_right _ (List.mem_append_right _ (List.mem_append_right _ (List.mem_append_right _ (List.mem_append_right _ (List.mem_append_right _ (List.mem_append_right _ (List.mem_append_right _ (List.mem_append_right _ (List.mem_append_right _ (List.mem_append_right _ (List.mem_append_right _ (List.mem_append_right _ (List.mem_append_right _ (List.mem_append_right _ (List.mem_append_right _ (List.mem_append_right _ (List.mem_append_right _ (List.mem_append_right _ (List.mem_append_right _ (List.mem_append_left _ h))))))))))))))))))))))))))))
theorem ni_me85_29 : ∀ r ∈ ni_pr85_29 xs, r ∈ ni_pr85 xs := fun r h => by unfold ni_pr85; exact List.mem_append_right _ (List.mem_append_right _ (List.mem_append_right _ (List.mem_append_right _ (List.mem_append_right _ (List.mem_append_right _ (List.mem_append_right _ (List.mem_append_right _ (List.mem_append_right _ (List.mem_append_right _ (List.mem_append_right _ (List.mem_append_right _ (List.mem_append_right _ (List.mem_append_right _ (List.mem_append_right _ (List.mem_append_right _ (List.mem_append_right _ (List.mem_append_right _ (List.mem_append_right _ (List.mem_append_right _ (List.mem_append_right _ (List.mem_append_right _ (List.mem_append_right _ (List.mem_append_right _ (List.mem_append_right _ (List.mem_append_right _ (List.mem_append_right _ (List.mem_append_right _ (List.mem_append_right _ (List.mem_append_left _ h)))))))))))))))))))))))))))))
theorem ni_me85_30 : ∀ r ∈ ni_pr85_30 xs, r ∈ ni_pr85 xs := fun r h => by unfold ni_pr85; exact List.mem_append_right _ (List.mem_append_right _ (List.mem_append_right _ (List.mem_append_right _ (List.mem_append_right _ (List.mem_append_right _ (List.mem_append_right _ (List.mem_append_right _ (List.mem_append_right _ (List.mem_append_right _ (List.mem_append_right _ (List.mem_append_right _ (List.mem_append_right _ (List.mem_append_right _ (List.mem_append_right _ (List.mem_append_right _ (List.mem_append_right _ (List.mem_append_right _ (List.mem_append_right _ (List.mem_append_right _ (List.mem_append_right _ (List.mem_append_right _ (List.mem_append_right _ (List.mem_append_right _ (List.mem_append_right _ (List.mem_append_right _ (List.mem_append_right _ (List.mem_append_right _ (List.mem_append_right _ (List.mem_append_right _ (List.mem_append_left _ h))))))))))))))))))))))))))))))
theorem ni_me85_31 : ∀ r ∈ ni_pr85_31 xs, r ∈ ni_pr85 xs := fun r h => by unfold ni_pr85; exact List.mem_append_right _ (List.mem_append_right _ (List.mem_append_right _ (List.mem_append_right _ (List.mem_append_right _ (List.mem_append_right _ (List.mem_append_right _ (List.mem_append_right _ (List.mem_append_right _ (List.mem_append_right _ (List.mem_append_right _ (List.mem_append_right _ (List.mem_append_right _ (List.mem_append_right _ (List.mem_append_right _ (List.mem_append_right _ (List.mem_append_right _ (List.mem_append_right _ (List.mem_append_right _ (List.mem_append_right _ (List.mem_append_right _ (List.mem_append_right _ (List.mem_append_right _ (List.mem_append_right _ (List.mem_append_right _ (List.mem_append_right _ (List.mem_append_right _ (List.mem_append_right _ (List.mem_append_right _ (List.mem_append_right _ (List.mem_append_right _ (List.mem_append_left _ h)))))))))))))))))))))))))))))))
theorem ni_me85_32 : ∀ r ∈ ni_pr85_32 xs, r ∈ ni_pr85 xs := fun r h => by unfold ni_pr85; exact List.mem_append_right _ (List.mem_append_right _ (List.mem_append_right _ (List.mem_append_right _ (List.mem_append_right _ (List.mem_append_right _ (List.mem_append_right _ (List.mem_append_right _ (List.mem_append_right _ (List.mem_append_right _ (List.mem_append_right _ (List.mem_append_right _ (List.mem_append_right _ (List.mem_append_right _ (List.mem_append_right _ (List.mem_append_right _ (List.mem_append_right _ (List.mem_append_right _ (List.mem_append_right _ (List.mem_append_right _ (List.mem_append_right _ (List.mem_append_right _ (List.mem_append_right _ (List.mem_append_right _ (List.mem_append_right _ (List.mem_append_right _ (List.mem_append_right _ (List.mem_append_right _ (List.mem_append_right _ (List.mem_append_right _ (List.mem_append_right _ (List.mem_append_right _ (List.mem_append_left _ h))))))))))))))))))))))))))))))))
theorem ni_me85_33 : ∀ r ∈ ni_pr85_33 xs, r ∈ ni_pr85 xs := fun r h => by unfold ni_pr85; exact List.mem_append_right _ (List.mem_append_right _ (List.mem_append_right _ (List.mem_append_right _ (List.mem_append_right _ (List.mem_append_right _ (List.mem_append_right _ (List.mem_append_right _ (List.mem_append_right _ (List.mem_append_right _ (List.mem_append_right _ (List.mem_append_right _ (List.mem_append_right _ (List.mem_append_right _ (List.mem_append_right _ (List.mem_append_right _ (List.mem_append_right _ (List.mem_append_right _ (List.mem_append_right _ (List.mem_append_right _ (List.mem_append_right _ (List.mem_append_right _ (List.mem_append_right _ (List.mem_append_right _ (List.mem_append_right _ (List.mem_append_right _ (List.mem_append_right _ (List.mem_append_right _ (List.mem_append_right _ (List.mem_append_right _ (List.mem_append_right _ (List.mem_append_right _ (List.mem_append_right _ (List.mem_append_left _ h)))))))))))))))))))))))))))))))))
theorem ni_me85_34 : ∀ r ∈ ni_pr85_34 xs, r ∈ ni_pr85 xs := fun r h => by unfold ni_pr85; exact List.mem_append_right _ (List.mem_append_right _ (List.mem_append_right _ (List.mem_append_right _ (List.mem_append_right _ (List.mem_append_right _ (List.mem_append_right _ (List.mem_append_right _ (List.mem_append_right _ (List.mem_append_right _ (List.mem_append_right _ (List.mem_append_right _ (List.mem_append_right _ (List.mem_append_right _ (List.mem_append_right _ (List.mem_append_right _ (List.mem_append_right _ (List.mem_append_right _ (List.mem_append_right _ (List.mem_append_right _ (List.mem_append_right _ (List.mem_append_right _ (List.mem_append_right _ (List.mem_append_right _ (List.mem_append_right _ (List.mem_append_right _ (List.mem_append_right _ (List.mem_append_right _ (List.mem_append_right _ (List.mem_append_right _ (List.mem_append_right _ (List.mem_append_right _ (List.mem_append_right _ (List.mem_append_right _ (List.mem_append_left _ h))))))))))))))))))))))))))))))))))
theorem ni_me85_35 : ∀ r ∈ ni_pr85_35 xs, r ∈ ni_pr85 xs := fun r h => by unfold ni_pr85; exact List.mem_append_right _ (List.mem_append_right _ (List.mem_append_right _ (List.mem_append_right _ (List.mem_append_right _ (List.mem_append_right _ (List.mem_append_right _ (List.mem_append_right _ (List.mem_append_right _ (List.mem_append_right _ (List.mem_append_right _ (List.mem_append_right _ (List.mem_append_right _ (List.mem_append_right _ (List.mem_append_right _ (List.mem_append_right _ (List.mem_append_right _ (List.mem_append_right _ (List.mem_append_right _ (List.mem_append_right _ (List.mem_append_right _ (List.mem_append_right _ (List.mem_append_right _ (List.mem_append_right _ (List.mem_append_right _ (List.mem_append_right _ (List.mem_append_right _ (List.mem_append_right _ (List.mem_append_right _ (List.mem_append_right _ (List.mem_append_right _ (List.mem_append_right _ (List.mem_append_right _ (List.mem_append_right _ (List.mem_append_right _ (List.mem_append_left _ h)))))))))))))))))))))))))))))))))))
theorem ni_me85_36 : ∀ r ∈ ni_pr85_36 xs, r ∈ ni_pr85 xs := fun r h => by unfold ni_pr85; exact List.mem_append_right _ (List.mem_append_right _ (List.mem_append_right _ (List.mem_append_right _ (List.mem_append_right _ (List.mem_append_right _ (List.mem_append_right _ (List.mem_append_right _ (List.mem_append_right _ (List.mem_append_right _ (List.mem_append_right _ (List.mem_append_right _ (List.mem_append_right _ (List.mem_append_right _ (List.mem_append_right _ (List.mem_append_right _ (List.mem_append_right _ (List.mem_append_right _ (List.mem_append_right _ (List.mem_append_right _ (List.mem_append_right _ (List.mem_append_right _ (List.mem_append_right _ (List.mem_append_right _ (List.mem_append_right _ (List.mem_append_right _ (List.mem_append_right _ (List.mem_append_right _ (List.mem_append_right _ (List.mem_append_right _ (List.mem_append_right _ (List.mem_append_right _ (List.mem_append_right _ (List.mem_append_right _ (List.mem_append_right _ (List.mem_append_right _ (List.mem_append_left _ h))))))))))))))))))))))))))))))))))))
theorem ni_me85_37 : ∀ r ∈ ni_pr85_37 xs, r ∈ ni_pr85 xs := fun r h => by unfold ni_pr85; exact List.mem_append_right _ (List.mem_append_right _ (List.mem_append_right _ (List.mem_append_right _ (List.mem_append_right _ (List.mem_append_right _ (List.mem_append_right _ (List.mem_append_right _ (List.mem_append_right _ (List.mem_append_right _ (List.mem_append_right _ (List.mem_append_right _ (List.mem_append_right _ (List.mem_append_right _ (List.mem_append_right _ (List.mem_append_right _ (List.mem_append_right _ (List.mem_append_right _ (List.mem_append_right _ (List.mem_append_right _ (List.mem_append_right _ (List.mem_append_right _ (List.mem_append_right _ (List.mem_append_right _ (List.mem_append_right _ (List.mem_append_right _ (List.mem_append_right _ (List.mem_append_right _ (List.mem_append_right _ (List.mem_append_right _ (List.mem_append_right _ (List.mem_append_right _ (List.mem_append_right _ (List.mem_append_right _ (List.mem_append_right _ (List.mem_append_right _ (List.mem_append_right _ (List.mem_append_left _ h)))))))))))))))))))))))))))))))))))))
theorem ni_me85_38 : ∀ r ∈ ni_pr85_38 xs, r ∈ ni_pr85 xs := fun r h => by unfold ni_pr85; exact List.mem_append_right _ (List.mem_append_right _ (List.mem_append_right _ (List.mem_append_right _ (List.mem_append_right _ (List.mem_append_right _ (List.mem_append_right _ (List.mem_append_right _ (List.mem_append_right _ (List.mem_append_right _ (List.mem_append_right _ (List.mem_append_right _ (List.mem_append_right _ (List.mem_append_right _ (List.mem_append_right _ (List.mem_append_right _ (List.mem_append_right _ (List.mem_append_right _ (List.mem_append_right _ (List.mem_append_right _ (List.mem_append_right _ (List.mem_append_right _ (List.mem_append_right _ (List.mem_append_right _ (List.mem_append_right _ (List.mem_append_right _ (List.mem_append_right _ (List.mem_append_right _ (List.mem_append_right _ (List.mem_append_right _ (List.mem_append_right _ (List.mem_append_right _ (List.mem_append_right _ (List.mem_append_right _ (List.mem_append_right _ (List.mem_append_right _ (List.mem_append_right _ (List.mem_append_right _ (List.mem_append_left _ h))))))))))))))))))))))))))))))))))))))
theorem ni_me85_39 : ∀ r ∈ ni_pr85_39 xs, r ∈ ni_pr85 xs := fun r h => by unfold ni_pr85; exact List.mem_append_right _ (List.mem_append_right _ (List.mem_append_right _ (List.mem_append_right _ (List.mem_append_right _ (List.mem_append_right _ (List.mem_append_right _ (List.mem_append_right _ (List.mem_append_right _ (List.mem_append_right _ (List.mem_append_right _ (List.mem_append_right _ (List.mem_append_right _ (List.mem_append_right _ (List.mem_append_right _ (List.mem_append_right _ (List.mem_append_right _ (List.mem_append_right _ (List.mem_append_right _ (List.mem_append_right _ (List.mem_append_right _ (List.mem_append_right _ (List.mem_append_right _ (List.mem_append_right _ (List.mem_append_right _ (List.mem_append_right _ (List.mem_append_right _ (List.mem_append_right _ (List.mem_append_right _ (List.mem_append_right _ (List.mem_append_right _ (List.mem_append_right _ (List.mem_append_right _ (List.mem_append_right _ (List.mem_append_right _ (List.mem_append_right _ (List.mem_append_right _ (List.mem_append_right _ (List.mem_append_right _ (List.mem_append_left _ h)))))))))))))))))))))))))))))))))))))))
theorem ni_me85_40 : ∀ r ∈ ni_pr85_40 xs, r ∈ ni_pr85 xs := fun r h => by unfold ni_pr85; exact List.mem_append_right _ (List.mem_append_right _ (List.mem_append_right _ (List.mem_append_right _ (List.mem_append_right _ (List.mem_append_right _ (List.mem_append_right _ (List.mem_append_right _ (List.mem_append_right _ (List.mem_append_right _ (List.mem_append_right _ (List.mem_append_right _ (List.mem_append_right _ (List.mem_append_right _ (List.mem_append_right _ (List.mem_append_right _ (List.mem_append_right _ (List.mem_append_right _ (List.mem_append_right _ (List.mem_append_right _ (List.mem_append_right _ (List.mem_append_right _ (List.mem_append_right _ (List.mem_append_right _ (List.mem_append_right _ (List.mem_append_right _ (List.mem_append_right _ (List.mem_append_right _ (List.mem_append_right _ (List.mem_append_right _ (List.mem_append_right _ (List.mem_append_right _ (List.mem_append_right _ (List.mem_append_right _ (List.mem_append_right _ (List.mem_append_right _ (List.mem_append_right _ (List.mem_append_right _ (List.mem_append_right _ (List.mem_append_right _ (List.mem_append_left _ h))))))))))))))))))))))))))))))))))))))))
theorem ni_me85_41 : ∀ r ∈ ni_pr85_41 xs, r ∈ ni_pr85 xs := fun r h => by unfold ni_pr85; exact List.mem_append_right _ (List.mem_append_right _ (List.mem_append_right _ (List.mem_append_right _ (List.mem_append_right _ (List.mem_append_right _ (List.mem_append_right _ (List.mem_append_right _ (List.mem_append_right _ (List.mem_append_right _ (List.mem_append_right _ (List.mem_append_right _ (List.mem_append_right _ (List.mem_append_right _ (List.mem_append_right _ (List.mem_append_right _ (List.mem_append_right _ (List.mem_append_right _ (List.mem_append_right _ (List.mem_append_right _ (List.mem_append_right _ (List.mem_append_right _ (List.mem_append_right _ (List.mem_append_right _ (List.mem_append_right _ (List.mem_append_right _ (List.mem_append_right _ (List.mem_append_right _ (List.mem_append_right _ (List.mem_append_right _ (List.mem_append_right _ (List.mem_append_right _ (List.mem_append_right _ (List.mem_append_right _ (List.mem_append_right _ (List.mem_append_right _ (List.mem_append_right _ (List.mem_append_right _ (List.mem_append_right _ (List.mem_append_right _ (List.mem_append_right _ (List.mem_append_left _ h)))))))))))))))))))))))))))))))))))))))))
theorem ni_me85_42 : ∀ r ∈ ni_pr85_42 xs, r ∈ ni_pr85 xs := fun r h => by unfold ni_pr85; exact List.mem_append_right _ (List.mem_append_right _ (List.mem_append_right _ (List.mem_append_right _ (List.mem_append_right _ (List.mem_append_right _ (List.mem_append_right _ (List.mem_append_right _ (List.mem_append_right _ (List.mem_append_right _ (List.mem_append_right _ (List.mem_append_right _ (List.mem_append_right _ (List.mem_append_right _ (List.mem_append_right _ (List.mem_append_right _ (List.mem_append_right _ (List.mem_append_right _ (List.mem_append_right _ (List.mem_append_right _ (List.mem_append_right _ (List.mem_append_right _ (List.mem_append_right _ (List.mem_append_right _ (List.mem_append_right _ (List.mem_append_right _ (List.mem_append_right _ (List.mem_append_right _ (List.mem_append_right _ (List.mem_append_right _ (List.mem_append_right _ (List.mem_append_right _ (List.mem_append_right _ (List.mem_append_right _ (List.mem_append_right _ (List.mem_append_right _ (List.mem_append_right _ (List.mem_append_right _ (List.mem_append_right _ (List.mem_append_right _ (List.mem_append_right _ (List.mem_append_right _ (List.mem_append_left _ h))))))))))))))))))))))))))))))))))))))))))
theorem ni_me85_43 : ∀ r ∈ ni_pr85_43 xs, r ∈ ni_pr85 xs := fun r h => by unfold ni_pr85; exact List.mem_append_right _ (List.mem_append_right _ (List.mem_append_right _ (List.mem_append_right _ (List.mem_append_right _ (List.mem_append_right _ (List.mem_append_right _ (List.mem_append_right _ (List.mem_append_right _ (List.mem_append_right _ (List.mem_append_right _ (List.mem_append_right _ (List.mem_append_right _ (List.mem_append_right _ (List.mem_append_right _ (List.mem_append_right _ (List.mem_append_right _ (List.mem_append_right _ (List.mem_append_right _ (List.mem_append_right _ (List.mem_append_right _ (List.mem_append_right _ (List.mem_append_right _ (List.mem_append_right _ (List.mem_append_right _ (List.mem_append_right _ (List.mem_append_right _ (List.mem_append_right _ (List.mem_append_right _ (List.mem_append_right _ (List.mem_append_right _ (List.mem_append_right _ (List.mem_append_right _ (List.mem_append_right _ (List.mem_append_right _ (List.mem_append_right _ (List.mem_append_right _ (List.mem_append_right _ (List.mem_append_right _ (List.mem_append_right _ (List.mem_append_right _ (List.mem_append_right _ (List.mem_append_right _ (List.mem_append_left _ h)))))))))))))))))))))))))))))))))))))))))))
theorem ni_me85_44 : ∀ r ∈ ni_pr85_44 xs, r ∈ ni_pr85 xs := fun r h => by unfold ni_pr85; exact List.mem_append_right _ (List.mem_append_right _ (List.mem_append_right _ (List.mem_append_right _ (List.mem_append_right _ (List.mem_append_right _ (List.mem_append_right _ (List.mem_append_right _ (List.mem_append_right _ (List.mem_append_right _ (List.mem_append_right _ (List.mem_append_right _ (List.mem_append_right _ (List.mem_append_right _ (List.mem_append_right _ (List.mem_append_right _ (List.mem_append_right _ (List.mem_append_right _ (List.mem_append_right _ (List.mem_append_right _ (List.mem_append_right _ (List.mem_append_right _ (List.mem_append_right _ (List.mem_append_right _ (List.mem_append_right _ (List.mem_append_right _ (List.mem_append_right _ (List.mem_append_right _ (List.mem_append_right _ (List.mem_append_right _ (List.mem_append_right _ (List.mem_append_right _ (List.mem_append_right _ (List.mem_append_right _ (List.mem_append_right _ (List.mem_append_right _ (List.mem_append_right _ (List.mem_append_right _ (List.mem_append_right _ (List.mem_append_right _ (List.mem_append_right _ (List.mem_append_right _ (List.mem_append_right _ (List.mem_append_right _ (List.mem_append_left _ h))))))))))))))))))))))))))))))))))))))))))))
theorem ni_me85_45 : ∀ r ∈ ni_pr85_45 xs, r ∈ ni_pr85 xs := fun r h => by unfold ni_pr85; exact List.mem_append_right _ (List.mem_append_right _ (List.mem_append_right _ (List.mem_append_right _ (List.mem_append_right _ (List.mem_append_right _ (List.mem_append_right _ (List.mem_append_right _ (List.mem_append_right _ (List.mem_append_right _ (List.mem_append_right _ (List.mem_append_right _ (List.mem_append_right _ (List.mem_append_right _ (List.mem_append_right _ (List.mem_append_right _ (List.mem_append_right _ (List.mem_append_right _ (List.mem_append_right _ (List.mem_append_right _ (List.mem_append_right _ (List.mem_append_right _ (List.mem_append_right _ (List.mem_append_right _ (List.mem_append_right _ (List.mem_append_right _ (List.mem_append_right _ (List.mem_append_right _ (List.mem_append_right _ (List.mem_append_right _ (List.mem_append_right _ (List.mem_append_right _ (List.mem_append_right _ (List.mem_append_right _ (List.mem_append_right _ (List.mem_append_right _ (List.mem_append_right _ (List.mem_append_right _ (List.mem_append_right _ (List.mem_append_right _ (List.mem_append_right _ (List.mem_append_right _ (List.mem_append_right _ (List.mem_append_right _ (List.mem_append_right _ (List.mem_append_left _ h)))))))))))))))))))))))))))))))))))))))))))))
theorem ni_me85_46 : ∀ r ∈ ni_pr85_46 xs, r ∈ ni_pr85 xs := fun r h => by unfold ni_pr85; exact List.mem_append_right _ (List.mem_append_right _ (List.mem_append_right _ (List.mem_append_right _ (List.mem_append_right _ (List.mem_append_right _ (List.mem_append_right _ (List.mem_append_right _ (List.mem_append_right _ (List.mem_append_right _ (List.mem_append_right _ (List.mem_append_right _ (List.mem_append_right _ (List.mem_append_right _ (List.mem_append_right _ (List.mem_append_right _ (List.mem_append_right _ (List.mem_append_right _ (List.mem_append_right _ (List.mem_append_right _ (List.mem_append_right _ (List.mem_append_right _ (List.mem_append_right _ (List.mem_append_right _ (List.mem_append_right _ (List.mem_append_right _ (List.mem_append_right _ (List.mem_append_right _ (List.mem_append_right _ (List.mem_append_right _ (List.mem_append_right _ (List.mem_append_right _ (List.mem_append_right _ (List.mem_append_right _ (List.mem_append_right _ (List.mem_append_right _ (List.mem_append_right _ (List.mem_append_right _ (List.mem_append_right _ (List.mem_append_right _ (List.mem_append_right _ (List.mem_append_right _ (List.mem_append_right _ (List.mem_append_right _ (List.mem_append_right _ (List.mem_append_right _ (List.mem_append_left _ h))))))))))))))))))))))))))))))))))))))))))))))
theorem ni_me85_47 : ∀ r ∈ ni_pr85_47 xs, r ∈ ni_pr85 xs := fun r h => by unfold ni_pr85; exact List.mem_append_right _ (List.mem_append_right _ (List.mem_append_right _ (List.mem_append_right _ (List.mem_append_right _ (List.mem_append_right _ (List.mem_append_right _ (List.mem_append_right _ (List.mem_append_right _ (List.mem_append_right _ (List.mem_append_right _ (List.mem_append_right _ (List.mem_append_right _ (List.mem_append_right _ (List.mem_append_right _ (List.mem_append_right _ (List.mem_append_right _ (List.mem_append_right _ (List.mem_append_right _ (List.mem_append_right _ (List.mem_append_right _ (List.mem_append_right _ (List.mem_append_right _ (List.mem_append_right _ (List.mem_append_right _ (List.mem_append_right _ (List.mem_append_right _ (List.mem_append_right _ (List.mem_append_right _ (List.mem_append_right _ (List.mem_append_right _ (List.mem_append_right _ (List.mem_append_right _ (List.mem_append_right _ (List.mem_append_right _ (List.mem_append_right _ (List.mem_append_right _ (List.mem_append_right _ (List.mem_append_right _ (List.mem_append_right _ (List.mem_append_right _ (List.mem_append_right _ (List.mem_append_right _ (List.mem_append_right _ (List.mem_append_right _ (List.mem_append_right _ (List.mem_append_right _ (List.mem_append_left _ h)))))))))))))))))))))))))))))))))))))))))))))))
theorem ni_me85_48 : ∀ r ∈ ni_pr85_48 xs, r ∈ ni_pr85 xs := fun r h => by unfold ni_pr85; exact List.mem_append_right _ (List.mem_append_right _ (List.mem_append_right _ (List.mem_append_right _ (List.mem_append_right _ (List.mem_append_right _ (List.mem_append_right _ (List.mem_append_right _ (List.mem_append_right _ (List.mem_append_right _ (List.mem_append_right _ (List.mem_append_right _ (List.mem_append_right _ (List.mem_append_right _ (List.mem_append_right _ (List.mem_append_right _ (List.mem_append_right _ (List.mem_append_right _ (List.mem_append_right _ (List.mem_append_right _ (List.mem_append_right _ (List.mem_append_right _ (List.mem_append_right _ (List.mem_append_right _ (List.mem_append_right _ (List.mem_append_right _ (List.mem_append_right _ (List.mem_append_right _ (List.mem_append_right _ (List.mem_append_right _ (List.mem_append_right _ (List.mem_append_right _ (List.mem_append_right _ (List.mem_append_right _ (List.mem_append_right _ (List.mem_append_right _ (List.mem_append_right _ (List.mem_append_right _ (List.mem_append_right _ (List.mem_append_right _ (List.mem_append_right _ (List.mem_append_right _ (List.mem_append_right _ (List.mem_append_right _ (List.mem_append_right _ (List.mem_append_right _ (List.mem_append_right _ (List.mem_append_right _ (List.mem_append_left _ h))))))))))))))))))))))))))))))))))))))))))))))))
theorem ni_me85_49 : ∀ r ∈ ni_pr85_49 xs, r ∈ ni_pr85 xs := fun r h => by unfold ni_pr85; exact List.mem_append_right _ (List.mem_append_right _ (List.mem_append_right _ (List.mem_append_right _ (List.mem_append_right _ (List.mem_append_right _ (List.mem_append_right _ (List.mem_append_right _ (List.mem_append_right _ (List.mem_append_right _ (List.mem_append_right _ (List.mem_append_right _ (List.mem_append_right _ (List.mem_append_right _ (List.mem_append_right _ (List.mem_append_right _ (List.mem_append_right _ (List.mem_append_right _ (List.mem_append_right _ (List.mem_append_right _ (List.mem_append_right _ (List.mem_append_right _ (List.mem_append_right _ (List.mem_append_right _ (List.mem_append_right _ (List.mem_append_right _ (List.mem_append_right _ (List.mem_append_right _ (List.mem_append_right _ (List.mem_append_right _ (List.mem_append_right _ (List.mem_append_right _ (List.mem_append_right _ (List.mem_append_right _ (List.mem_append_right _ (List.mem_append_right _ (List.mem_append_right _ (List.mem_append_right _ (List.mem_append_right _ (List.mem_append_right _ (List.mem_append_right _ (List.mem_append_right _ (List.mem_append_right _ (List.mem_append_right _ (List.mem_append_right _ (List.mem_append_right _ (List.mem_append_right _ (List.mem_append_right _ (List.mem_append_right _ (List.mem_append_left _ h)))))))))))))))))))))))))))))))))))))))))))))))))
theorem ni_me85_50 : ∀ r ∈ ni_pr85_50 xs, r ∈ ni_pr85 xs := fun r h => by unfold ni_pr85; exact List.mem_append_right _ (List.mem_append_right _ (List.mem_append_right _ (List.mem_append_right _ (List.mem_append_right _ (List.mem_append_right _ (List.mem_append_right _ (List.mem_append_right _ (List.mem_append_right _ (List.mem_append_right _ (List.mem_append_right _ (List.mem_append_right _ (List.mem_append_right _ (List.mem_append_right _ (List.mem_append_right _ (List.mem_append_right _ (List.mem_append_right _ (List.mem_append_right _ (List.mem_append_right _ (List.mem_append_right _ (List.mem_append_right _ (List.mem_append_right _ (List.mem_append_right _ (List.mem_append_right _ (List.mem_append_right _ (List.mem_append_right _ (List.mem_append_right _ (List.mem_append_right _ (List.mem_append_right _ (List.mem_append_right _ (List.mem_append_right _ (List.mem_append_right _ (List.mem_append_right _ (List.mem_append_right _ (List.mem_append_right _ (List.mem_append_right _ (List.mem_append_right _ (List.mem_append_right _ (List.mem_append_right _ (List.mem_append_right _ (List.mem_append_right _ (List.mem_append_right _ (List.mem_append_right _ (List.mem_append_right _ (List.mem_append_right _ (List.mem_append_right _ (List.mem_append_right _ (List.mem_append_right _ (List.mem_append_right _ (List.mem_append_right _ (List.mem_append_left _ h))))))))))))))))))))))))))))))))))))))))))))))))))
theorem ni_me85_51 : ∀ r ∈ ni_pr85_51 xs, r ∈ ni_pr85 xs := fun r h => by unfold ni_pr85; exact List.mem_append_right _ (List.mem_append_right _ (List.mem_append_right _ (List.mem_append_right _ (List.mem_append_right _ (List.mem_append_right _ (List.mem_append_right _ (List.mem_append_right _ (List.mem_append_right _ (List.mem_append_right _ (List.mem_append_right _ (List.mem_append_right _ (List.mem_append_right _ (List.mem_append_right _ (List.mem_append_right _ (List.mem_append_right _ (List.mem_append_right _ (List.mem_append_right _ (List.mem_append_right _ (List.mem_append_right _ (List.mem_append_right _ (List.mem_append_right _ (List.mem_append_right _ (List.mem_append_right _ (List.mem_append_right _ (List.mem_append_right _ (List.mem_append_right _ (List.mem_append_right _ (List.mem_append_right _ (List.mem_append_right _ (List.mem_append_right _ (List.mem_append_right _ (List.mem_append_right _ (List.mem_append_right _ (List.mem_append_right _ (List.mem_append_right _ (List.mem_append_right _ (List.mem_append_right _ (List.mem_append_right _ (List.mem_append_right _ (List.mem_append_right _ (List.mem_append_right _ (List.mem_append_right _ (List.mem_append_right _ (List.mem_append_right _ (List.mem_append_right _ (List.mem_append_right _ (List.mem_append_right _ (List.mem_append_right _ (List.mem_append_right _ (List.mem_append_right _ (List.mem_append_left _ h)))))))))))))))))))))))))))))))))))))))))))))))))))
theorem ni_me85_52 : ∀ r ∈ ni_pr85_52 xs, r ∈ ni_pr85 xs := fun r h => by unfold ni_pr85; exact List.mem_append_right _ (List.mem_append_right _ (List.mem_append_right _ (List.mem_append_right _ (List.mem_append_right _ (List.mem_append_right _ (List.mem_append_right _ (List.mem_append_right _ (List.mem_append_right _ (List.mem_append_right _ (List.mem_append_right _ (List.mem_append_right _ (List.mem_append_right _ (List.mem_append_right _ (List.mem_append_right _ (List.mem_append_right _ (List.mem_append_right _ (List.mem_append_right _ (List.mem_append_right _ (List.mem_append_right _ (List.mem_append_right _ (List.mem_append_right _ (List.mem_append_right _ (List.mem_append_right _ (List.mem_append_right _ (List.mem_append_right _ (List.mem_append_right _ (List.mem_append_right _ (List.mem_append_right _ (List.mem_append_right _ (List.mem_append_right _ (List.mem_append_right _ (List.mem_append_right _ (List.mem_append_right _ (List.mem_append_right _ (List.mem_append_right _ (List.mem_append_right _ (List.mem_append_right _ (List.mem_append_right _ (List.mem_append_right _ (List.mem_append_right _ (List.mem_append_right _ (List.mem_append_right _ (List.mem_append_right _ (List.mem_append_right _ (List.mem_append_right _ (List.mem_append_right _ (List.mem_append_right _ (List.mem_append_right _ (List.mem_append_right _ (List.mem_append_right _ (List.mem_append_right _ (h))))))))))))))))))))))))))))))))))))))))))))))))))))
/-- the rows of one case, with the loop's head and tail -/
def ni_L0 : List (Nat × ni_S) := ni_pr85_1 xs ++ (ni_pr85_2 xs ++ ni_pr85_52 xs)
theorem ni_Ls0 (pc : Nat) : ni_look (ni_L0 xs) pc = ni_s0 ∨ ni_look (ni_L0 xs) pc = ni_look (ni_pr85 xs) pc := ni_subL (ni_asc85 xs) (fun r h => by
  unfold ni_L0 at h
  rcases List.mem_append.mp h with h | h
  · exact ni_me85_1 xs r h
  · rcases List.mem_append.mp h with h | h
    · exact ni_me85_2 xs r h
    · exact ni_me85_52 xs r h) pc
def ni_L1 : List (Nat × ni_S) := ni_pr85_1 xs ++ (ni_pr85_3 xs ++ ni_pr85_52 xs)
theorem ni_Ls1 (pc : Nat) : ni_look (ni_L1 xs) pc = ni_s0 ∨ ni_look (ni_L1 xs) pc = ni_look (ni_pr85 xs) pc := ni_subL (ni_asc85 xs) (fun r h => by
  unfold ni_L1 at h
  rcases List.mem_append.mp h with h | h
  · exact ni_me85_1 xs r h
  · rcases List.mem_append.mp h with h | h
    · exact ni_me85_3 xs r h
    · exact ni_me85_52 xs r h) pc
def ni_L2 : List (Nat × ni_S) := ni_pr85_1 xs ++ (ni_pr85_4 xs ++ ni_pr85_52 xs)
theorem ni_Ls2 (pc : Nat) : ni_look (ni_L2 xs) pc = ni_s0 ∨ ni_look (ni_L2 xs) pc = ni_look (ni_pr85 xs) pc := ni_subL (ni_asc85 xs) (fun r h => by
  unfold ni_L2 at h
  rcases List.mem_append.mp h with h | h
  · exact ni_me85_1 xs r h
  · rcases List.mem_append.mp h with h | h
    · exact ni_me85_4 xs r h
    · exact ni_me85_52 xs r h) pc
def ni_L3 : List (Nat × ni_S) := ni_pr85_1 xs ++ (ni_pr85_5 xs ++ ni_pr85_52 xs)
theorem ni_Ls3 (pc : Nat) : ni_look (ni_L3 xs) pc = ni_s0 ∨ ni_look (ni_L3 xs) pc = ni_look (ni_pr85 xs) pc := ni_subL (ni_asc85 xs) (fun r h => by
  unfold ni_L3 at h
  rcases List.mem_append.mp h with h | h
  · exact ni_me85_1 xs r h
  · rcases List.mem_append.mp h with h | h
    · exact ni_me85_5 xs r h
    · exact ni_me85_52 xs r h) pc
def ni_L4 : List (Nat × ni_S) := ni_pr85_1 xs ++ (ni_pr85_6 xs ++ ni_pr85_52 xs)
theorem ni_Ls4 (pc : Nat) : ni_look (ni_L4 xs) pc = ni_s0 ∨ ni_look (ni_L4 xs) pc = ni_look (ni_pr85 xs) pc := ni_subL (ni_asc85 xs) (fun r h => by
  unfold ni_L4 at h
  rcases List.mem_append.mp h with h | h
  · exact ni_me85_1 xs r h
  · rcases List.mem_append.mp h with h | h
    · exact ni_me85_6 xs r h
    · exact ni_me85_52 xs r h) pc
def ni_L5 : List (Nat × ni_S) := ni_pr85_1 xs ++ (ni_pr85_7 xs ++ ni_pr85_52 xs)
theorem ni_Ls5 (pc : Nat) : ni_look (ni_L5 xs) pc = ni_s0 ∨ ni_look (ni_L5 xs) pc = ni_look (ni_pr85 xs) pc := ni_subL (ni_asc85 xs) (fun r h => by
  unfold ni_L5 at h
  rcases List.mem_append.mp h with h | h
  · exact ni_me85_1 xs r h
  · rcases List.mem_append.mp h with h | h
    · exact ni_me85_7 xs r h
    · exact ni_me85_52 xs r h) pc
def ni_L6 : List (Nat × ni_S) := ni_pr85_1 xs ++ (ni_pr85_8 xs ++ ni_pr85_52 xs)
theorem ni_Ls6 (pc : Nat) : ni_look (ni_L6 xs) pc = ni_s0 ∨ ni_look (ni_L6 xs) pc = ni_look (ni_pr85 xs) pc := ni_subL (ni_asc85 xs) (fun r h => by
  unfold ni_L6 at h
  rcases List.mem_append.mp h with h | h
  · exact ni_me85_1 xs r h
  · rcases List.mem_append.mp h with h | h
    · exact ni_me85_8 xs r h
    · exact ni_me85_52 xs r h) pc
def ni_L7 : List (Nat × ni_S) := ni_pr85_1 xs ++ (ni_pr85_9 xs ++ ni_pr85_52 xs)
theorem ni_Ls7 (pc : Nat) : ni_look (ni_L7 xs) pc = ni_s0 ∨ ni_look (ni_L7 xs) pc = ni_look (ni_pr85 xs) pc := ni_subL (ni_asc85 xs) (fun r h => by
  unfold ni_L7 at h
  rcases List.mem_append.mp h with h | h
  · exact ni_me85_1 xs r h
  · rcases List.mem_append.mp h with h | h
    · exact ni_me85_9 xs r h
    · exact ni_me85_52 xs r h) pc
def ni_L8 : List (Nat × ni_S) := ni_pr85_1 xs ++ (ni_pr85_10 xs ++ ni_pr85_52 xs)
theorem ni_Ls8 (pc : Nat) : ni_look (ni_L8 xs) pc = ni_s0 ∨ ni_look (ni_L8 xs) pc = ni_look (ni_pr85 xs) pc := ni_subL (ni_asc85 xs) (fun r h => by
  unfold ni_L8 at h
  rcases List.mem_append.mp h with h | h
  · exact ni_me85_1 xs r h
  · rcases List.mem_append.mp h with h | h
    · exact ni_me85_10 xs r h
    · exact ni_me85_52 xs r h) pc
def ni_L9 : List (Nat × ni_S) := ni_pr85_1 xs ++ (ni_pr85_11 xs ++ ni_pr85_52 xs)
theorem ni_Ls9 (pc : Nat) : ni_look (ni_L9 xs) pc = ni_s0 ∨ ni_look (ni_L9 xs) pc = ni_look (ni_pr85 xs) pc := ni_subL (ni_asc85 xs) (fun r h => by
  unfold ni_L9 at h
  rcases List.mem_append.mp h with h | h
  · exact ni_me85_1 xs r h
  · rcases List.mem_append.mp h with h | h
    · exact ni_me85_11 xs r h
    · exact ni_me85_52 xs r h) pc
def ni_L10 : List (Nat × ni_S) := ni_pr85_1 xs ++ (ni_pr85_12 xs ++ ni_pr85_52 xs)
theorem ni_Ls10 (pc : Nat) : ni_look (ni_L10 xs) pc = ni_s0 ∨ ni_look (ni_L10 xs) pc = ni_look (ni_pr85 xs) pc := ni_subL (ni_asc85 xs) (fun r h => by
  unfold ni_L10 at h
  rcases List.mem_append.mp h with h | h
  · exact ni_me85_1 xs r h
  · rcases List.mem_append.mp h with h | h
    · exact ni_me85_12 xs r h
    · exact ni_me85_52 xs r h) pc
def ni_L11 : List (Nat × ni_S) := ni_pr85_1 xs ++ (ni_pr85_13 xs ++ ni_pr85_52 xs)
theorem ni_Ls11 (pc : Nat) : ni_look (ni_L11 xs) pc = ni_s0 ∨ ni_look (ni_L11 xs) pc = ni_look (ni_pr85 xs) pc := ni_subL (ni_asc85 xs) (fun r h => by
  unfold ni_L11 at h
  rcases List.mem_append.mp h with h | h
  · exact ni_me85_1 xs r h
  · rcases List.mem_append.mp h with h | h
    · exact ni_me85_13 xs r h
    · exact ni_me85_52 xs r h) pc
def ni_L12 : List (Nat × ni_S) := ni_pr85_1 xs ++ (ni_pr85_14 xs ++ ni_pr85_52 xs)
theorem ni_Ls12 (pc : Nat) : ni_look (ni_L12 xs) pc = ni_s0 ∨ ni_look (ni_L12 xs) pc = ni_look (ni_pr85 xs) pc := ni_subL (ni_asc85 xs) (fun r h => by
  unfold ni_L12 at h
  rcases List.mem_append.mp h with h | h
  · exact ni_me85_1 xs r h
  · rcases List.mem_append.mp h with h | h
    · exact ni_me85_14 xs r h
    · exact ni_me85_52 xs r h) pc
def ni_L13 : List (Nat × ni_S) := ni_pr85_1 xs ++ (ni_pr85_15 xs ++ ni_pr85_52 xs)
theorem ni_Ls13 (pc : Nat) : ni_look (ni_L13 xs) pc = ni_s0 ∨ ni_look (ni_L13 xs) pc = ni_look (ni_pr85 xs) pc := ni_subL (ni_asc85 xs) (fun r h => by
  unfold ni_L13 at h
  rcases List.mem_append.mp h with h | h
  · exact ni_me85_1 xs r h
  · rcases List.mem_append.mp h with h | h
    · exact ni_me85_15 xs r h
    · exact ni_me85_52 xs r h) pc
def ni_L14 : List (Nat × ni_S) := ni_pr85_1 xs ++ (ni_pr85_16 xs ++ ni_pr85_52 xs)
theorem ni_Ls14 (pc : Nat) : ni_look (ni_L14 xs) pc = ni_s0 ∨ ni_look (ni_L14 xs) pc = ni_look (ni_pr85 xs) pc := ni_subL (ni_asc85 xs) (fun r h => by
  unfold ni_L14 at h
  rcases List.mem_append.mp h with h | h
  · exact ni_me85_1 xs r h
  · rcases List.mem_append.mp h with h | h
    · exact ni_me85_16 xs r h
    · exact ni_me85_52 xs r h) pc
def ni_L15 : List (Nat × ni_S) := ni_pr85_1 xs ++ (ni_pr85_17 xs ++ ni_pr85_52 xs)
theorem ni_Ls15 (pc : Nat) : ni_look (ni_L15 xs) pc = ni_s0 ∨ ni_look (ni_L15 xs) pc = ni_look (ni_pr85 xs) pc := ni_subL (ni_asc85 xs) (fun r h => by
  unfold ni_L15 at h
  rcases List.mem_append.mp h with h | h
  · exact ni_me85_1 xs r h
  · rcases List.mem_append.mp h with h | h
    · exact ni_me85_17 xs r h
    · exact ni_me85_52 xs r h) pc
def ni_L16 : List (Nat × ni_S) := ni_pr85_1 xs ++ (ni_pr85_18 xs ++ ni_pr85_52 xs)
theorem ni_Ls16 (pc : Nat) : ni_look (ni_L16 xs) pc = ni_s0 ∨ ni_look (ni_L16 xs) pc = ni_look (ni_pr85 xs) pc := ni_subL (ni_asc85 xs) (fun r h => by
  unfold ni_L16 at h
  rcases List.mem_append.mp h with h | h
  · exact ni_me85_1 xs r h
  · rcases List.mem_append.mp h with h | h
    · exact ni_me85_18 xs r h
    · exact ni_me85_52 xs r h) pc
def ni_L17 : List (Nat × ni_S) := ni_pr85_1 xs ++ (ni_pr85_19 xs ++ ni_pr85_52 xs)
theorem ni_Ls17 (pc : Nat) : ni_look (ni_L17 xs) pc = ni_s0 ∨ ni_look (ni_L17 xs) pc = ni_look (ni_pr85 xs) pc := ni_subL (ni_asc85 xs) (fun r h => by
  unfold ni_L17 at h
  rcases List.mem_append.mp h with h | h
  · exact ni_me85_1 xs r h
  · rcases List.mem_append.mp h with h | h
    · exact ni_me85_19 xs r h
    · exact ni_me85_52 xs r h) pc
def ni_L18 : List (Nat × ni_S) := ni_pr85_1 xs ++ (ni_pr85_20 xs ++ ni_pr85_52 xs)
theorem ni_Ls18 (pc : Nat) : ni_look (ni_L18 xs) pc = ni_s0 ∨ ni_look (ni_L18 xs) pc = ni_look (ni_pr85 xs) pc := ni_subL (ni_asc85 xs) (fun r h => by
  unfold ni_L18 at h
  rcases List.mem_append.mp h with h | h
  · exact ni_me85_1 xs r h
  · rcases List.mem_append.mp h with h | h
    · exact ni_me85_20 xs r h
    · exact ni_me85_52 xs r h) pc
def ni_L19 : List (Nat × ni_S) := ni_pr85_1 xs ++ (ni_pr85_21 xs ++ ni_pr85_52 xs)
theorem ni_Ls19 (pc : Nat) : ni_look (ni_L19 xs) pc = ni_s0 ∨ ni_look (ni_L19 xs) pc = ni_look (ni_pr85 xs) pc := ni_subL (ni_asc85 xs) (fun r h => by
  unfold ni_L19 at h
  rcases List.mem_append.mp h with h | h
  · exact ni_me85_1 xs r h
  · rcases List.mem_append.mp h with h | h
    · exact ni_me85_21 xs r h
    · exact ni_me85_52 xs r h) pc
def ni_L20 : List (Nat × ni_S) := ni_pr85_1 xs ++ (ni_pr85_22 xs ++ ni_pr85_52 xs)
theorem ni_Ls20 (pc : Nat) : ni_look (ni_L20 xs) pc = ni_s0 ∨ ni_look (ni_L20 xs) pc = ni_look (ni_pr85 xs) pc := ni_subL (ni_asc85 xs) (fun r h => by
  unfold ni_L20 at h
  rcases List.mem_append.mp h with h | h
  · exact ni_me85_1 xs r h
  · rcases List.mem_append.mp h with h | h
    · exact ni_me85_22 xs r h
    · exact ni_me85_52 xs r h) pc
def ni_L21 : List (Nat × ni_S) := ni_pr85_1 xs ++ (ni_pr85_23 xs ++ ni_pr85_52 xs)
theorem ni_Ls21 (pc : Nat) : ni_look (ni_L21 xs) pc = ni_s0 ∨ ni_look (ni_L21 xs) pc = ni_look (ni_pr85 xs) pc := ni_subL (ni_asc85 xs) (fun r h => by
  unfold ni_L21 at h
  rcases List.mem_append.mp h with h | h
  · exact ni_me85_1 xs r h
  · rcases List.mem_append.mp h with h | h
    · exact ni_me85_23 xs r h
    · exact ni_me85_52 xs r h) pc
def ni_L22 : List (Nat × ni_S) := ni_pr85_1 xs ++ (ni_pr85_24 xs ++ ni_pr85_52 xs)
theorem ni_Ls22 (pc : Nat) : ni_look (ni_L22 xs) pc = ni_s0 ∨ ni_look (ni_L22 xs) pc = ni_look (ni_pr85 xs) pc := ni_subL (ni_asc85 xs) (fun r h => by
  unfold ni_L22 at h
  rcases List.mem_append.mp h with h | h
  · exact ni_me85_1 xs r h
  · rcases List.mem_append.mp h with h | h
    · exact ni_me85_24 xs r h
    · exact ni_me85_52 xs r h) pc
def ni_L23 : List (Nat × ni_S) := ni_pr85_1 xs ++ (ni_pr85_25 xs ++ ni_pr85_52 xs)
theorem ni_Ls23 (pc : Nat) : ni_look (ni_L23 xs) pc = ni_s0 ∨ ni_look (ni_L23 xs) pc = ni_look (ni_pr85 xs) pc := ni_subL (ni_asc85 xs) (fun r h => by
  unfold ni_L23 at h
  rcases List.mem_append.mp h with h | h
  · exact ni_me85_1 xs r h
  · rcases List.mem_append.mp h with h | h
    · exact ni_me85_25 xs r h
    · exact ni_me85_52 xs r h) pc
def ni_L24 : List (Nat × ni_S) := ni_pr85_1 xs ++ (ni_pr85_26 xs ++ ni_pr85_52 xs)
theorem ni_Ls24 (pc : Nat) : ni_look (ni_L24 xs) pc = ni_s0 ∨ ni_look (ni_L24 xs) pc = ni_look (ni_pr85 xs) pc := ni_subL (ni_asc85 xs) (fun r h => by
  unfold ni_L24 at h
  rcases List.mem_append.mp h with h | h
  · exact ni_me85_1 xs r h
  · rcases List.mem_append.mp h with h | h
    · exact ni_me85_26 xs r h
    · exact ni_me85_52 xs r h) pc
def ni_L25 : List (Nat × ni_S) := ni_pr85_1 xs ++ (ni_pr85_27 xs ++ ni_pr85_52 xs)
theorem ni_Ls25 (pc : Nat) : ni_look (ni_L25 xs) pc = ni_s0 ∨ ni_look (ni_L25 xs) pc = ni_look (ni_pr85 xs) pc := ni_subL (ni_asc85 xs) (fun r h => by
  unfold ni_L25 at h
  rcases List.mem_append.mp h with h | h
  · exact ni_me85_1 xs r h
  · rcases List.mem_append.mp h with h | h
    · exact ni_me85_27 xs r h
    · exact ni_me85_52 xs r h) pc
def ni_L26 : List (Nat × ni_S) := ni_pr85_1 xs ++ (ni_pr85_28 xs ++ ni_pr85_52 xs)
theorem ni_Ls26 (pc : Nat) : ni_look (ni_L26 xs) pc = ni_s0 ∨ ni_look (ni_L26 xs) pc = ni_look (ni_pr85 xs) pc := ni_subL (ni_asc85 xs) (fun r h => by
  unfold ni_L26 at h
  rcases List.mem_append.mp h with h | h
  · exact ni_me85_1 xs r h
  · rcases List.mem_append.mp h with h | h
    · exact ni_me85_28 xs r h
    · exact ni_me85_52 xs r h) pc
def ni_L27 : List (Nat × ni_S) := ni_pr85_1 xs ++ (ni_pr85_29 xs ++ ni_pr85_52 xs)
theorem ni_Ls27 (pc : Nat) : ni_look (ni_L27 xs) pc = ni_s0 ∨ ni_look (ni_L27 xs) pc = ni_look (ni_pr85 xs) pc := ni_subL (ni_asc85 xs) (fun r h => by
  unfold ni_L27 at h
  rcases List.mem_append.mp h with h | h
  · exact ni_me85_1 xs r h
  · rcases List.mem_append.mp h with h | h
    · exact ni_me85_29 xs r h
    · exact ni_me85_52 xs r h) pc
def ni_L28 : List (Nat × ni_S) := ni_pr85_1 xs ++ (ni_pr85_30 xs ++ ni_pr85_52 xs)
theorem ni_Ls28 (pc : Nat) : ni_look (ni_L28 xs) pc = ni_s0 ∨ ni_look (ni_L28 xs) pc = ni_look (ni_pr85 xs) pc := ni_subL (ni_asc85 xs) (fun r h => by
  unfold ni_L28 at h
  rcases List.mem_append.mp h with h | h
  · exact ni_me85_1 xs r h
  · rcases List.mem_append.mp h with h | h
    · exact ni_me85_30 xs r h
    · exact ni_me85_52 xs r h) pc
def ni_L29 : List (Nat × ni_S) := ni_pr85_1 xs ++ (ni_pr85_31 xs ++ ni_pr85_52 xs)
theorem ni_Ls29 (pc : Nat) : ni_look (ni_L29 xs) pc = ni_s0 ∨ ni_look (ni_L29 xs) pc = ni_look (ni_pr85 xs) pc := ni_subL (ni_asc85 xs) (fun r h => by
  unfold ni_L29 at h
  rcases List.mem_append.mp h with h | h
  · exact ni_me85_1 xs r h
  · rcases List.mem_append.mp h with h | h
    · exact ni_me85_31 xs r h
    · exact ni_me85_52 xs r h) pc
def ni_L30 : List (Nat × ni_S) := ni_pr85_1 xs ++ (ni_pr85_32 xs ++ ni_pr85_52 xs)
theorem ni_Ls30 (pc : Nat) : ni_look (ni_L30 xs) pc = ni_s0 ∨ ni_look (ni_L30 xs) pc = ni_look (ni_pr85 xs) pc := ni_subL (ni_asc85 xs) (fun r h => by
  unfold ni_L30 at h
  rcases List.mem_append.mp h with h | h
  · exact ni_me85_1 xs r h
  · rcases List.mem_append.mp h with h | h
    · exact ni_me85_32 xs r h
    · exact ni_me85_52 xs r h) pc
def ni_L31 : List (Nat × ni_S) := ni_pr85_1 xs ++ (ni_pr85_33 xs ++ ni_pr85_52 xs)
theorem ni_Ls31 (pc : Nat) : ni_look (ni_L31 xs) pc = ni_s0 ∨ ni_look (ni_L31 xs) pc = ni_look (ni_pr85 xs) pc := ni_subL (ni_asc85 xs) (fun r h => by
  unfold ni_L31 at h
  rcases List.mem_append.mp h with h | h
  · exact ni_me85_1 xs r h
  · rcases List.mem_append.mp h with h | h
    · exact ni_me85_33 xs r h
    · exact ni_me85_52 xs r h) pc
def ni_L32 : List (Nat × ni_S) := ni_pr85_1 xs ++ (ni_pr85_34 xs ++ ni_pr85_52 xs)
theorem ni_Ls32 (pc : Nat) : ni_look (ni_L32 xs) pc = ni_s0 ∨ ni_look (ni_L32 xs) pc = ni_look (ni_pr85 xs) pc := ni_subL (ni_asc85 xs) (fun r h => by
  unfold ni_L32 at h
  rcases List.mem_append.mp h with h | h
  · exact ni_me85_1 xs r h
  · rcases List.mem_append.mp h with h | h
    · exact ni_me85_34 xs r h
    · exact ni_me85_52 xs r h) pc
def ni_L33 : List (Nat × ni_S) := ni_pr85_1 xs ++ (ni_pr85_35 xs ++ ni_pr85_52 xs)
theorem ni_Ls33 (pc : Nat) : ni_look (ni_L33 xs) pc = ni_s0 ∨ ni_look (ni_L33 xs) pc = ni_look (ni_pr85 xs) pc := ni_subL (ni_asc85 xs) (fun r h => by
  unfold ni_L33 at h
  rcases List.mem_append.mp h with h | h
  · exact ni_me85_1 xs r h
  · rcases List.mem_append.mp h with h | h
    · exact ni_me85_35 xs r h
    · exact ni_me85_52 xs r h) pc
def ni_L34 : List (Nat × ni_S) := ni_pr85_1 xs ++ (ni_pr85_36 xs ++ ni_pr85_52 xs)
theorem ni_Ls34 (pc : Nat) : ni_look (ni_L34 xs) pc = ni_s0 ∨ ni_look (ni_L34 xs) pc = ni_look (ni_pr85 xs) pc := ni_subL (ni_asc85 xs) (fun r h => by
  unfold ni_L34 at h
  rcases List.mem_append.mp h with h | h
  · exact ni_me85_1 xs r h
  · rcases List.mem_append.mp h with h | h
    · exact ni_me85_36 xs r h
    · exact ni_me85_52 xs r h) pc
def ni_L35 : List (Nat × ni_S) := ni_pr85_1 xs ++ (ni_pr85_37 xs ++ ni_pr85_52 xs)
theorem ni_Ls35 (pc : Nat) : ni_look (ni_L35 xs) pc = ni_s0 ∨ ni_look (ni_L35 xs) pc = ni_look (ni_pr85 xs) pc := ni_subL (ni_asc85 xs) (fun r h => by
  unfold ni_L35 at h
  rcases List.mem_append.mp h with h | h
  · exact ni_me85_1 xs r h
  · rcases List.mem_append.mp h with h | h
    · exact ni_me85_37 xs r h
    · exact ni_me85_52 xs r h) pc
def ni_L36 : List (Nat × ni_S) := ni_pr85_1 xs ++ (ni_pr85_38 xs ++ ni_pr85_52 xs)
theorem ni_Ls36 (pc : Nat) : ni_look (ni_L36 xs) pc = ni_s0 ∨ ni_look (ni_L36 xs) pc = ni_look (ni_pr85 xs) pc := ni_subL (ni_asc85 xs) (fun r h => by
  unfold ni_L36 at h
  rcases List.mem_append.mp h with h | h
  · exact ni_me85_1 xs r h
  · rcases List.mem_append.mp h with h | h
    · exact ni_me85_38 xs r h
    · exact ni_me85_52 xs r h) pc
def ni_L37 : List (Nat × ni_S) := ni_pr85_1 xs ++ (ni_pr85_39 xs ++ ni_pr85_52 xs)
theorem ni_Ls37 (pc : Nat) : ni_look (ni_L37 xs) pc = ni_s0 ∨ ni_look (ni_L37 xs) pc = ni_look (ni_pr85 xs) pc := ni_subL (ni_asc85 xs) (fun r h => by
  unfold ni_L37 at h
  rcases List.mem_append.mp h with h | h
  · exact ni_me85_1 xs r h
  · rcases List.mem_append.mp h with h | h
    · exact ni_me85_39 xs r h
    · exact ni_me85_52 xs r h) pc
def ni_L38 : List (Nat × ni_S) := ni_pr85_1 xs ++ (ni_pr85_40 xs ++ ni_pr85_52 xs)
theorem ni_Ls38 (pc : Nat) : ni_look (ni_L38 xs) pc = ni_s0 ∨ ni_look (ni_L38 xs) pc = ni_look (ni_pr85 xs) pc := ni_subL (ni_asc85 xs) (fun r h => by
  unfold ni_L38 at h
  rcases List.mem_append.mp h with h | h
  · exact ni_me85_1 xs r h
  · rcases List.mem_append.mp h with h | h
    · exact ni_me85_40 xs r h
    · exact ni_me85_52 xs r h) pc
def ni_L39 : List (Nat × ni_S) := ni_pr85_1 xs ++ (ni_pr85_41 xs ++ ni_pr85_52 xs)
theorem ni_Ls39 (pc : Nat) : ni_look (ni_L39 xs) pc = ni_s0 ∨ ni_look (ni_L39 xs) pc = ni_look (ni_pr85 xs) pc := ni_subL (ni_asc85 xs) (fun r h => by
  unfold ni_L39 at h
  rcases List.mem_append.mp h with h | h
  · exact ni_me85_1 xs r h
  · rcases List.mem_append.mp h with h | h
    · exact ni_me85_41 xs r h
    · exact ni_me85_52 xs r h) pc
def ni_L40 : List (Nat × ni_S) := ni_pr85_1 xs ++ (ni_pr85_42 xs ++ ni_pr85_52 xs)
theorem ni_Ls40 (pc : Nat) : ni_look (ni_L40 xs) pc = ni_s0 ∨ ni_look (ni_L40 xs) pc = ni_look (ni_pr85 xs) pc := ni_subL (ni_asc85 xs) (fun r h => by
  unfold ni_L40 at h
  rcases List.mem_append.mp h with h | h
  · exact ni_me85_1 xs r h
  · rcases List.mem_append.mp h with h | h
    · exact ni_me85_42 xs r h
    · exact ni_me85_52 xs r h) pc
def ni_L41 : List (Nat × ni_S) := ni_pr85_1 xs ++ (ni_pr85_43 xs ++ ni_pr85_52 xs)
theorem ni_Ls41 (pc : Nat) : ni_look (ni_L41 xs) pc = ni_s0 ∨ ni_look (ni_L41 xs) pc = ni_look (ni_pr85 xs) pc := ni_subL (ni_asc85 xs) (fun r h => by
  unfold ni_L41 at h
  rcases List.mem_append.mp h with h | h
  · exact ni_me85_1 xs r h
  · rcases List.mem_append.mp h with h | h
    · exact ni_me85_43 xs r h
    · exact ni_me85_52 xs r h) pc
def ni_L42 : List (Nat × ni_S) := ni_pr85_1 xs ++ (ni_pr85_44 xs ++ ni_pr85_52 xs)
theorem ni_Ls42 (pc : Nat) : ni_look (ni_L42 xs) pc = ni_s0 ∨ ni_look (ni_L42 xs) pc = ni_look (ni_pr85 xs) pc := ni_subL (ni_asc85 xs) (fun r h => by
  unfold ni_L42 at h
  rcases List.mem_append.mp h with h | h
  · exact ni_me85_1 xs r h
  · rcases List.mem_append.mp h with h | h
    · exact ni_me85_44 xs r h
    · exact ni_me85_52 xs r h) pc
def ni_L43 : List (Nat × ni_S) := ni_pr85_1 xs ++ (ni_pr85_45 xs ++ ni_pr85_52 xs)
theorem ni_Ls43 (pc : Nat) : ni_look (ni_L43 xs) pc = ni_s0 ∨ ni_look (ni_L43 xs) pc = ni_look (ni_pr85 xs) pc := ni_subL (ni_asc85 xs) (fun r h => by
  unfold ni_L43 at h
  rcases List.mem_append.mp h with h | h
  · exact ni_me85_1 xs r h
  · rcases List.mem_append.mp h with h | h
    · exact ni_me85_45 xs r h
    · exact ni_me85_52 xs r h) pc
def ni_L44 : List (Nat × ni_S) := ni_pr85_1 xs ++ (ni_pr85_46 xs ++ ni_pr85_52 xs)
theorem ni_Ls44 (pc : Nat) : ni_look (ni_L44 xs) pc = ni_s0 ∨ ni_look (ni_L44 xs) pc = ni_look (ni_pr85 xs) pc := ni_subL (ni_asc85 xs) (fun r h => by
  unfold ni_L44 at h
  rcases List.mem_append.mp h with h | h
  · exact ni_me85_1 xs r h
  · rcases List.mem_append.mp h with h | h
    · exact ni_me85_46 xs r h
    · exact ni_me85_52 xs r h) pc
def ni_L45 : List (Nat × ni_S) := ni_pr85_1 xs ++ (ni_pr85_47 xs ++ ni_pr85_52 xs)
theorem ni_Ls45 (pc : Nat) : ni_look (ni_L45 xs) pc = ni_s0 ∨ ni_look (ni_L45 xs) pc = ni_look (ni_pr85 xs) pc := ni_subL (ni_asc85 xs) (fun r h => by
  unfold ni_L45 at h
  rcases List.mem_append.mp h with h | h
  · exact ni_me85_1 xs r h
  · rcases List.mem_append.mp h with h | h
    · exact ni_me85_47 xs r h
    · exact ni_me85_52 xs r h) pc
def ni_L46 : List (Nat × ni_S) := ni_pr85_1 xs ++ (ni_pr85_48 xs ++ ni_pr85_52 xs)
theorem ni_Ls46 (pc : Nat) : ni_look (ni_L46 xs) pc = ni_s0 ∨ ni_look (ni_L46 xs) pc = ni_look (ni_pr85 xs) pc := ni_subL (ni_asc85 xs) (fun r h => by
  unfold ni_L46 at h
  rcases List.mem_append.mp h with h | h
  · exact ni_me85_1 xs r h
  · rcases List.mem_append.mp h with h | h
    · exact ni_me85_48 xs r h
    · exact ni_me85_52 xs r h) pc
def ni_L47 : List (Nat × ni_S) := ni_pr85_1 xs ++ (ni_pr85_49 xs ++ ni_pr85_52 xs)
theorem ni_Ls47 (pc : Nat) : ni_look (ni_L47 xs) pc = ni_s0 ∨ ni_look (ni_L47 xs) pc = ni_look (ni_pr85 xs) pc := ni_subL (ni_asc85 xs) (fun r h => by
  unfold ni_L47 at h
  rcases List.mem_append.mp h with h | h
  · exact ni_me85_1 xs r h
  · rcases List.mem_append.mp h with h | h
    · exact ni_me85_49 xs r h
    · exact ni_me85_52 xs r h) pc
def ni_L48 : List (Nat × ni_S) := ni_pr85_1 xs ++ (ni_pr85_50 xs ++ ni_pr85_52 xs)
theorem ni_Ls48 (pc : Nat) : ni_look (ni_L48 xs) pc = ni_s0 ∨ ni_look (ni_L48 xs) pc = ni_look (ni_pr85 xs) pc := ni_subL (ni_asc85 xs) (fun r h => by
  unfold ni_L48 at h
  rcases List.mem_append.mp h with h | h
  · exact ni_me85_1 xs r h
  · rcases List.mem_append.mp h with h | h
    · exact ni_me85_50 xs r h
    · exact ni_me85_52 xs r h) pc
def ni_L49 : List (Nat × ni_S) := ni_pr85_1 xs ++ (ni_pr85_51 xs ++ ni_pr85_52 xs)
theorem ni_Ls49 (pc : Nat) : ni_look (ni_L49 xs) pc = ni_s0 ∨ ni_look (ni_L49 xs) pc = ni_look (ni_pr85 xs) pc := ni_subL (ni_asc85 xs) (fun r h => by
  unfold ni_L49 at h
  rcases List.mem_append.mp h with h | h
  · exact ni_me85_1 xs r h
  · rcases List.mem_append.mp h with h | h
    · exact ni_me85_51 xs r h
    · exact ni_me85_52 xs r h) pc
end NSB
