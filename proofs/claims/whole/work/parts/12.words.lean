/-! The words of calls and of methods, by their places; natives. -/
theorem mInL {i : Nat} {w : Cond} (h : (lw_tbl[i]? == some w) = true) : w ∈ lw_tbl := List.mem_of_getElem? (eq_of_beq h)
abbrev mGetC : MethodName := ⟨"java/lang/Object", "getClass", "()Ljava/lang/Class;"⟩
def mNat (j : Nat) : MethodName := if j = 1000 then arraycopyName else if j = 1001 then mGetC else if j = 1003 then Lib.Math.max.name else if j = 1004 then Lib.Math.min.name else Lib.objectInit
def mMok (q : ((Nat × Nat) × Nat) × (Nat × Nat × Nat × Nat)) : Bool := match mOwn[q.1.1.1]? with
  | none => false
  | some own => if 1000 ≤ q.1.2 then q.2.1 == 0 && lw_tbl[q.2.2.1]? == some (Cond.methodLink own q.1.1.2 (mNat q.1.2)) else (match mTab[q.1.2]? with
    | none => false
    | some M => (match q.2.1 with
        | 0 => lw_tbl[q.2.2.1]? == some (Cond.methodLink own q.1.1.2 M.1)
        | _ => lw_tbl[q.2.2.1]? == some (Cond.methodLinkNest own q.1.1.2 M.1 "ChipCard")) &&
      (lw_tbl[q.2.2.2.1]? == some (if mRc q.1.2 = 99 then Cond.static M.1 else Cond.instanceMethod M.1)) &&
      (mRc q.1.2 == 98 || mRc q.1.2 == 99 || (lw_tbl[q.2.2.2.2]? == some (Cond.selects M.1.cls M.1 M.1) && (vwCl[mRc q.1.2]?).map (fun z => z.1) == some M.1.cls)) &&
      ((parseMethodDescriptor M.1.desc).map (fun d => d.parameters.length) == some (if mRc q.1.2 = 99 then mAr q.1.2 else mAr q.1.2 - 1)) && (mRc q.1.2 == 99 || decide (1 ≤ mAr q.1.2)) &&
      (mRc q.1.2 != 98 || (M.1.name == "<init>" && decide (M.2.2.2.1 = none) && M.2.2.2.2.2.isEmpty)) && (mRc q.1.2 == 99 || M.2.2.2.2.2.isEmpty))
def mTIx : List (Nat × Nat × Nat × Nat) := [(0, 242, 0, 0), (0, 243, 244, 0), (0, 874, 773, 774), (0, 875, 877, 11), (0, 1175, 0, 0), (0, 915, 871, 872), (0, 914, 0, 0), (0, 929, 895, 896), (0, 930, 660, 661), (0, 931, 933, 17), (0, 935, 859, 860), (0, 410, 0, 0), (0, 411, 412, 413), (0, 789, 660, 661), (0, 790, 791, 792), (0, 794, 796, 5), (0, 802, 804, 6), (0, 806, 808, 7), (0, 810, 812, 8), (0, 837, 838, 839), (0, 841, 842, 843), (0, 845, 847, 9), (0, 853, 0, 0), (0, 854, 856, 10), (0, 866, 867, 868), (0, 870, 871, 872), (0, 883, 885, 12), (0, 887, 888, 0), (0, 890, 892, 13), (0, 894, 895, 896), (0, 898, 900, 14), (0, 906, 908, 15), (0, 916, 918, 16), (0, 924, 0, 0), (0, 925, 926, 927), (0, 814, 382, 383), (0, 936, 773, 774), (0, 910, 911, 912), (0, 798, 799, 800), (0, 815, 816, 817), (0, 819, 820, 821), (0, 828, 378, 379), (0, 858, 859, 860), (0, 849, 850, 851), (0, 210, 0, 0), (0, 213, 214, 0), (0, 239, 240, 0), (0, 291, 292, 293), (0, 419, 420, 421), (0, 423, 424, 425), (0, 415, 416, 417), (0, 1409, 799, 800), (0, 1454, 1455, 1456), (0, 472, 0, 0), (0, 473, 244, 0), (0, 718, 719, 720), (0, 1036, 378, 379), (0, 1037, 382, 383), (0, 1038, 1002, 1003), (0, 1040, 1042, 24), (0, 1044, 1046, 25), (0, 1051, 1053, 26), (0, 1056, 1058, 27), (0, 1060, 1062, 28), (0, 1064, 1066, 29), (0, 1068, 1070, 30), (0, 1077, 1078, 1079), (0, 1048, 660, 661), (0, 1049, 820, 821), (0, 1050, 990, 991), (0, 1074, 1075, 0), (0, 462, 0, 0), (0, 464, 214, 0), (0, 468, 156, 0), (0, 469, 470, 0), (0, 522, 244, 0), (0, 688, 420, 421), (0, 689, 424, 425), (0, 701, 685, 686), (0, 1490, 292, 293), (1, 734, 735, 0), (0, 1081, 382, 383), (0, 1082, 820, 821), (0, 172, 0, 0), (0, 174, 156, 0), (0, 770, 754, 755), (0, 771, 660, 661), (0, 772, 773, 774), (0, 776, 777, 778), (0, 158, 0, 0), (0, 780, 773, 774), (0, 381, 382, 383), (0, 377, 378, 379), (1, 823, 824, 0), (0, 960, 660, 661), (0, 1484, 156, 0), (0, 1485, 990, 991), (0, 369, 0, 0), (0, 371, 156, 0), (0, 373, 374, 375), (0, 941, 942, 0), (0, 944, 867, 868), (0, 945, 838, 839), (0, 946, 948, 18), (0, 951, 660, 661), (0, 952, 954, 19), (0, 969, 971, 21), (0, 956, 957, 958), (0, 961, 963, 20), (0, 973, 754, 755), (0, 974, 777, 778), (0, 543, 0, 0), (0, 545, 156, 0), (0, 749, 750, 751), (0, 753, 754, 755), (0, 988, 746, 747), (0, 989, 990, 991), (0, 1020, 685, 686), (0, 1195, 998, 999), (0, 1001, 1002, 1003), (0, 1007, 1009, 22), (0, 1012, 1014, 23), (0, 1016, 1017, 1018), (0, 1031, 1032, 1033), (0, 1282, 1028, 1029), (0, 1283, 660, 661), (1, 1284, 824, 0), (1, 1184, 735, 0), (0, 1011, 773, 774), (0, 591, 0, 0), (0, 1100, 660, 661), (0, 1101, 1103, 32), (0, 1115, 1116, 1117), (0, 1144, 1137, 1138), (0, 1105, 773, 774), (0, 1125, 1126, 0), (0, 1106, 1107, 1108), (1, 1110, 824, 0), (0, 1111, 1113, 33), (0, 585, 0, 0), (1, 588, 589, 0), (0, 983, 867, 868), (0, 984, 985, 986), (0, 993, 994, 995), (0, 997, 998, 999), (0, 1026, 838, 839), (0, 1027, 1028, 1029), (0, 1083, 660, 661), (1, 1084, 824, 0), (0, 1085, 382, 383), (0, 1086, 820, 821), (0, 1087, 990, 991), (0, 1092, 1094, 31), (0, 1140, 1141, 1142), (0, 1146, 1147, 1148), (0, 1150, 1151, 0), (0, 1153, 1155, 35), (0, 1162, 1164, 37), (0, 1157, 1159, 36), (0, 1185, 1186, 1187), (0, 1189, 1017, 1018), (0, 1190, 750, 751), (0, 1191, 1192, 1193), (0, 1200, 1202, 40), (0, 1204, 773, 774), (0, 1207, 1209, 41), (0, 1217, 1219, 43), (0, 1227, 1229, 44), (0, 1241, 1243, 45), (0, 1096, 1097, 1098), (0, 1121, 1122, 1123), (0, 1128, 1129, 1130), (0, 1132, 1134, 34), (0, 1136, 1137, 1138), (0, 1145, 1002, 1003), (0, 1166, 1168, 38), (0, 1176, 1178, 39), (0, 1170, 1116, 1117), (0, 1171, 1172, 1173), (0, 1180, 1181, 1182), (0, 1205, 1107, 1108), (0, 1161, 719, 720), (0, 1213, 1215, 42), (0, 1223, 1224, 1225), (0, 1233, 1234, 1235), (0, 1237, 1238, 1239), (0, 1247, 1248, 0), (0, 1250, 1252, 46), (0, 1267, 1269, 48), (0, 1254, 1255, 0), (0, 1257, 1259, 47), (0, 1261, 685, 686), (0, 1262, 791, 792), (0, 1263, 1264, 1265), (0, 1271, 1273, 49), (0, 1275, 871, 872), (0, 150, 0, 0), (0, 155, 156, 0), (1, 169, 170, 0), (0, 207, 208, 0), (0, 366, 367, 0), (0, 407, 408, 0), (0, 459, 460, 0), (0, 540, 541, 0), (0, 582, 583, 0), (0, 659, 660, 661), (0, 663, 374, 375), (0, 668, 669, 670), (0, 676, 416, 417), (0, 1404, 1405, 1406), (0, 1426, 1427, 0), (0, 1430, 1431, 1432), (0, 1450, 1451, 1452), (0, 677, 678, 0), (0, 761, 763, 3), (0, 1466, 1455, 1456), (0, 1468, 871, 872), (0, 690, 691, 0), (0, 1293, 1294, 1295), (0, 1479, 1480, 1481), (0, 1486, 1487, 1488), (0, 710, 711, 712), (0, 1499, 1500, 1501), (0, 1504, 719, 720), (0, 1297, 994, 995), (0, 1507, 1508, 1509), (0, 684, 685, 686), (0, 697, 698, 699), (0, 702, 703, 704), (0, 714, 715, 716), (0, 726, 727, 728), (0, 730, 731, 732), (0, 741, 742, 743), (0, 745, 746, 747), (0, 765, 754, 755), (0, 766, 767, 768), (0, 781, 783, 4), (0, 1278, 1279, 1280), (0, 1527, 773, 774), (0, 1289, 1290, 1291), (0, 1298, 1299, 1300), (0, 1302, 1303, 1304), (0, 1306, 1307, 1308), (0, 1310, 1311, 1312), (0, 1318, 735, 0), (0, 1319, 1234, 1235), (0, 1324, 859, 860), (0, 785, 786, 787), (0, 833, 834, 835), (0, 862, 863, 864), (0, 879, 880, 881), (0, 902, 903, 904), (0, 920, 921, 922), (0, 937, 938, 939), (0, 965, 966, 967), (0, 975, 976, 977), (0, 979, 980, 981), (0, 1022, 1023, 1024), (0, 1088, 1089, 1090), (0, 1196, 1197, 1198), (0, 1556, 1557, 0), (0, 1564, 0, 0), (0, 1565, 1567, 51), (0, 1761, 1763, 53), (0, 1765, 1767, 54), (0, 1771, 1773, 55), (0, 1786, 1788, 56), (0, 1790, 1792, 57), (0, 1803, 1805, 58), (0, 1807, 1809, 59), (0, 1823, 1825, 60), (0, 1569, 1571, 52), (0, 1845, 1847, 61), (0, 1849, 1851, 62), (0, 1927, 1929, 81), (0, 1939, 1941, 84), (0, 1943, 1945, 85), (0, 1959, 1961, 89), (0, 1963, 1965, 90), (0, 1971, 1973, 92), (0, 1991, 1993, 97), (0, 1995, 1997, 98), (0, 1999, 2001, 99), (0, 2015, 2017, 103), (0, 2019, 2021, 104), (0, 2046, 2048, 110), (0, 1878, 1880, 69), (0, 1853, 1855, 63), (0, 1857, 1859, 64), (0, 1861, 1863, 65), (0, 1865, 1867, 66), (0, 1873, 1875, 68), (0, 1869, 1871, 67), (0, 1935, 1937, 83), (0, 1931, 1933, 82), (0, 1947, 1949, 86), (0, 1951, 1953, 87), (0, 1955, 1957, 88), (0, 1967, 1969, 91), (0, 1975, 1977, 93), (0, 1979, 1981, 94), (0, 1983, 1985, 95), (0, 1987, 1989, 96), (0, 2030, 2032, 106), (0, 1894, 1896, 73), (0, 2007, 2009, 101), (0, 2011, 2013, 102), (0, 1890, 1892, 72), (0, 1886, 1888, 71), (0, 1898, 1900, 74), (0, 1902, 1904, 75), (0, 1906, 1908, 76), (0, 1910, 1912, 77), (0, 1914, 1916, 78), (0, 1922, 1924, 80), (0, 1918, 1920, 79), (0, 1882, 1884, 70), (0, 2003, 2005, 100), (0, 2023, 2024, 0), (0, 2026, 2028, 105), (0, 2034, 2036, 107), (0, 2042, 2044, 109), (0, 2038, 2040, 108), (0, 2051, 2053, 111), (0, 2055, 2057, 112), (0, 2059, 2061, 113), (0, 2063, 2065, 114), (0, 222, 0, 0), (0, 219, 220, 0), (0, 216, 217, 0), (0, 317, 318, 0), (0, 303, 305, 2), (0, 307, 308, 0), (0, 354, 0, 0), (0, 427, 428, 0), (0, 433, 434, 435), (0, 299, 301, 1), (0, 295, 297, 0), (0, 320, 0, 0), (0, 351, 0, 0), (0, 342, 343, 0), (0, 348, 0, 0), (0, 430, 431, 0), (0, 310, 0, 0), (0, 314, 315, 0), (0, 1331, 1332, 1333), (0, 1461, 1462, 1463), (0, 1472, 1473, 1474), (0, 1494, 1495, 1496), (0, 1514, 1515, 1516), (0, 1523, 1524, 1525), (0, 147, 148, 0), (0, 1561, 1562, 0), (0, 655, 656, 657), (0, 1548, 1549, 1550), (0, 664, 665, 666), (0, 1552, 1553, 1554), (0, 1325, 1326, 0), (0, 1757, 1758, 1759), (0, 1544, 1545, 1546), (0, 672, 673, 674), (0, 1777, 1778, 1779), (0, 1458, 1459, 0), (0, 1782, 1783, 1784), (0, 1469, 1470, 0), (0, 1794, 1795, 1796), (0, 1491, 1492, 0), (0, 1799, 1800, 1801), (0, 1511, 1512, 0), (0, 1811, 1812, 1813), (0, 680, 681, 682), (0, 1815, 1816, 1817), (0, 693, 694, 695), (0, 1819, 1820, 1821), (0, 706, 707, 708), (0, 1827, 1828, 1829), (0, 722, 723, 724), (0, 1831, 1832, 1833), (0, 737, 738, 739), (0, 1837, 1838, 1839), (0, 757, 758, 759), (0, 1841, 1842, 1843), (0, 1519, 1520, 0), (0, 2067, 2068, 2069), (0, 1285, 1286, 1287), (0, 2071, 2072, 2073), (0, 1314, 1315, 1316), (0, 2075, 2076, 2077), (0, 1320, 1321, 1322), (0, 2079, 2080, 2081)]
theorem mT_ok_0 : (((mTTab.zip mTIx).drop 0).take 60).all mMok = true := by decide +kernel
theorem mT_ok_1 : (((mTTab.zip mTIx).drop 60).take 60).all mMok = true := by decide +kernel
theorem mT_ok_2 : (((mTTab.zip mTIx).drop 120).take 60).all mMok = true := by decide +kernel
theorem mT_ok_3 : (((mTTab.zip mTIx).drop 180).take 60).all mMok = true := by decide +kernel
theorem mT_ok_4 : (((mTTab.zip mTIx).drop 240).take 60).all mMok = true := by decide +kernel
theorem mT_ok_5 : (((mTTab.zip mTIx).drop 300).take 60).all mMok = true := by decide +kernel
theorem mT_ok_6 : (((mTTab.zip mTIx).drop 360).take 60).all mMok = true := by decide +kernel
theorem mT_ok : (mTTab.zip mTIx).all mMok = true := by
  have h : ∀ (l : List (((Nat × Nat) × Nat) × (Nat × Nat × Nat × Nat))) (k : Nat), (l.take k).all mMok = true → (l.drop k).all mMok = true → l.all mMok = true := by
    intro l k h1 h2
    rw [← List.take_append_drop k l, List.all_append, h1, h2]
    rfl
  refine h _ 60 (by have := mT_ok_0; rw [List.drop_zero] at this; exact this) ?_
  refine h _ 60 mT_ok_1 ?_
  rw [List.drop_drop]
  refine h _ 60 mT_ok_2 ?_
  rw [List.drop_drop]
  refine h _ 60 mT_ok_3 ?_
  rw [List.drop_drop]
  refine h _ 60 mT_ok_4 ?_
  rw [List.drop_drop]
  refine h _ 60 mT_ok_5 ?_
  rw [List.drop_drop]
  exact (by have z := mT_ok_6; rw [List.take_of_length_le (by decide +kernel)] at z; exact z)
/-- a method's own code word -/
def mCw (M : mM) : Cond := if M.2.2.2.2.2.isEmpty = true then Cond.code M.1 M.2.1 M.2.2.1 M.2.2.2.1 else Cond.codeWith M.1 M.2.1 M.2.2.1 M.2.2.2.1 M.2.2.2.2.2
def mCdOk (q : mM × Nat) : Bool := lw_tbl[q.2]? == some (Cond.initialized q.1.1.cls) && q.1.1.cls != "java/lang/invoke/MethodHandle" && q.1.1.cls != "java/lang/invoke/VarHandle" && plainName q.1.1.cls
def mCdIx : List Nat := [123, 123, 123, 123, 123, 123, 123, 123, 123, 123, 123, 129, 129, 129, 129, 129, 129, 129, 129, 129, 129, 129, 129, 129, 129, 129, 129, 129, 129, 129, 129, 129, 129, 119, 119, 119, 119, 119, 119, 119, 119, 119, 119, 133, 133, 133, 133, 133, 133, 133, 133, 133, 133, 133, 133, 133, 133, 133, 133, 133, 133, 133, 132, 132, 132, 132, 132, 132, 132, 132, 132, 132, 132, 118, 118, 118, 118, 118, 117, 117, 117, 117, 117, 117, 117, 117, 117, 117, 117, 117, 117, 117, 117, 128, 128, 128, 128, 128, 128, 128, 128, 128, 128, 134, 134, 134, 134, 134, 134, 134, 134, 134, 134, 134, 134, 134, 134, 134, 136, 136, 136, 136, 136, 136, 136, 136, 136, 136, 135, 135, 135, 135, 135, 135, 135, 135, 135, 135, 135, 135, 135, 135, 135, 135, 135, 135, 135, 135, 135, 135, 135, 135, 135, 116, 116, 116, 116, 116, 116, 116, 116, 116, 116, 116, 116, 116, 116, 116, 116, 116, 116, 116, 116, 116, 116, 116, 116, 116, 137, 137, 137, 137, 137, 137, 137, 137, 137, 137, 137, 137, 137, 137, 137, 137, 137, 137, 137, 137, 137, 137, 137, 137, 137, 137, 137, 137, 137, 137, 137, 137, 137, 137, 137, 137, 137, 137, 137, 137, 137, 137, 137, 137, 137, 137, 137, 137, 137, 137, 137, 137, 137, 137, 137, 137, 137, 137, 137, 137, 137, 137, 137, 137, 137, 137, 137, 137, 137, 137, 137, 137, 137, 137, 137, 137, 137, 137, 137, 137, 137, 137, 137, 137, 137, 137, 120, 121, 122, 122, 122, 122, 122, 122, 122, 122, 124, 124, 124, 130, 125, 125, 131, 115, 115, 115, 115, 115, 115, 115]
theorem mCd_ok : (mTab.zip mCdIx).all mCdOk = true := by decide +kernel
theorem mCh_1 {w : Cond} (h : w ∈ tables_1_1) : w ∈ lw_tbl := List.mem_append_right _ (List.mem_append_left _ h)
theorem mCh_2 {w : Cond} (h : w ∈ tables_1_2) : w ∈ lw_tbl := List.mem_append_right _ (List.mem_append_right _ (List.mem_append_left _ h))
theorem mCh_3 {w : Cond} (h : w ∈ tables_1_3) : w ∈ lw_tbl := List.mem_append_right _ (List.mem_append_right _ (List.mem_append_right _ (List.mem_append_left _ h)))
theorem mCh_4 {w : Cond} (h : w ∈ tables_1_4) : w ∈ lw_tbl := List.mem_append_right _ (List.mem_append_right _ (List.mem_append_right _ (List.mem_append_right _ (List.mem_append_left _ h))))
theorem mCh_5 {w : Cond} (h : w ∈ tables_1_5) : w ∈ lw_tbl := List.mem_append_right _ (List.mem_append_right _ (List.mem_append_right _ (List.mem_append_right _ (List.mem_append_right _ (List.mem_append_left _ h)))))
theorem mCh_6 {w : Cond} (h : w ∈ tables_1_6) : w ∈ lw_tbl := List.mem_append_right _ (List.mem_append_right _ (List.mem_append_right _ (List.mem_append_right _ (List.mem_append_right _ (List.mem_append_right _ (List.mem_append_left _ h))))))
theorem mCh_7 {w : Cond} (h : w ∈ tables_1_7) : w ∈ lw_tbl := List.mem_append_right _ (List.mem_append_right _ (List.mem_append_right _ (List.mem_append_right _ (List.mem_append_right _ (List.mem_append_right _ (List.mem_append_right _ (List.mem_append_left _ h)))))))
theorem mCh_8 {w : Cond} (h : w ∈ tables_1_8) : w ∈ lw_tbl := List.mem_append_right _ (List.mem_append_right _ (List.mem_append_right _ (List.mem_append_right _ (List.mem_append_right _ (List.mem_append_right _ (List.mem_append_right _ (List.mem_append_right _ (List.mem_append_left _ h))))))))
theorem mCh_9 {w : Cond} (h : w ∈ tables_1_9) : w ∈ lw_tbl := List.mem_append_right _ (List.mem_append_right _ (List.mem_append_right _ (List.mem_append_right _ (List.mem_append_right _ (List.mem_append_right _ (List.mem_append_right _ (List.mem_append_right _ (List.mem_append_right _ (h)))))))))
def mCwIn (M : mM) : Prop := M.1 = yL_law ∨ mCw M ∈ lw_tbl
theorem mCw_0 : mCwIn (yX0_init, cX0_init, 8, none, 0, []) := Or.inr (mCh_1 (List.mem_of_getElem? (i := 126) rfl))
theorem mCw_1 : mCwIn (yX0_total, cX0_total, 1, (some .int), 0, []) := Or.inr (mCh_6 (List.mem_of_getElem? (i := 142) rfl))
theorem mCw_2 : mCwIn (yX0_hasRecords, cX0_hasRecords, 1, (some .boolean), 0, []) := Or.inr (mCh_3 (List.mem_of_getElem? (i := 223) rfl))
theorem mCw_3 : mCwIn (yX0_get, cX0_get, 2, (some .int), 0, []) := Or.inr (mCh_4 (List.mem_of_getElem? (i := 26) rfl))
theorem mCw_4 : mCwIn (yX0_put, cX0_put, 6, none, 0, []) := Or.inr (mCh_4 (List.mem_of_getElem? (i := 38) rfl))
theorem mCw_5 : mCwIn (yX0_replace, cX0_replace, 4, none, 0, []) := Or.inr (mCh_5 (List.mem_of_getElem? (i := 99) rfl))
theorem mCw_6 : mCwIn (yX0_placeOf, cX0_placeOf, 2, (some .int), 0, []) := Or.inr (mCh_4 (List.mem_of_getElem? (i := 62) rfl))
theorem mCw_7 : mCwIn (yX0_push, cX0_push, 3, none, 0, []) := Or.inr (mCh_4 (List.mem_of_getElem? (i := 78) rfl))
theorem mCw_8 : mCwIn (yX0_recordHas, cX0_recordHas, 6, (some .boolean), 0, []) := Or.inr (mCh_4 (List.mem_of_getElem? (i := 93) rfl))
theorem mCw_9 : mCwIn (yX0_isAt, cX0_isAt, 4, (some .boolean), 0, []) := Or.inr (mCh_4 (List.mem_of_getElem? (i := 99) rfl))
theorem mCw_10 : mCwIn (yX0_set, cX0_set, 3, none, 0, []) := Or.inr (mCh_4 (List.mem_of_getElem? (i := 43) rfl))
theorem mCw_11 : mCwIn (yX1_init, cX1_init, 4, none, 1, []) := Or.inr (mCh_2 (List.mem_of_getElem? (i := 54) rfl))
theorem mCw_12 : mCwIn (yX1_restart, cX1_restart, 1, none, 1, []) := Or.inr (mCh_3 (List.mem_of_getElem? (i := 149) rfl))
theorem mCw_13 : mCwIn (yX1_fileNumber, cX1_fileNumber, 1, (some .int), 1, []) := Or.inr (mCh_5 (List.mem_of_getElem? (i := 226) rfl))
theorem mCw_14 : mCwIn (yX1_directoryNumber, cX1_directoryNumber, 1, (some .int), 1, []) := Or.inr (mCh_5 (List.mem_of_getElem? (i := 230) rfl))
theorem mCw_15 : mCwIn (yX1_select, cX1_select, 5, (some .int), 1, []) := Or.inr (mCh_3 (List.mem_of_getElem? (i := 193) rfl))
theorem mCw_16 : mCwIn (yX1_readBytes, cX1_readBytes, 5, (some .int), 1, []) := Or.inr (mCh_4 (List.mem_of_getElem? (i := 1) rfl))
theorem mCw_17 : mCwIn (yX1_writeBytes, cX1_writeBytes, 4, (some .int), 1, []) := Or.inr (mCh_4 (List.mem_of_getElem? (i := 30) rfl))
theorem mCw_18 : mCwIn (yX1_readRecord, cX1_readRecord, 5, (some .int), 1, []) := Or.inr (mCh_4 (List.mem_of_getElem? (i := 47) rfl))
theorem mCw_19 : mCwIn (yX1_writeRecord, cX1_writeRecord, 4, (some .int), 1, []) := Or.inr (mCh_4 (List.mem_of_getElem? (i := 70) rfl))
theorem mCw_20 : mCwIn (yX1_search, cX1_search, 5, (some .int), 1, []) := Or.inr (mCh_4 (List.mem_of_getElem? (i := 88) rfl))
theorem mCw_21 : mCwIn (yX1_writeToRing, cX1_writeToRing, 3, (some .int), 1, []) := Or.inr (mCh_4 (List.mem_of_getElem? (i := 74) rfl))
theorem mCw_22 : mCwIn (yX1_writeToRecords, cX1_writeToRecords, 4, (some .int), 1, []) := Or.inr (mCh_4 (List.mem_of_getElem? (i := 84) rfl))
theorem mCw_23 : mCwIn (yX1_findNear, cX1_findNear, 3, (some (.object "ChipCard$CardFile")), 1, []) := Or.inr (mCh_3 (List.mem_of_getElem? (i := 202) rfl))
theorem mCw_24 : mCwIn (yX1_findByPath, cX1_findByPath, 4, (some (.object "ChipCard$CardFile")), 1, []) := Or.inr (mCh_3 (List.mem_of_getElem? (i := 210) rfl))
theorem mCw_25 : mCwIn (yX1_takeInHand, cX1_takeInHand, 3, none, 1, []) := Or.inr (mCh_3 (List.mem_of_getElem? (i := 214) rfl))
theorem mCw_26 : mCwIn (yX1_tell, cX1_tell, 4, none, 1, []) := Or.inr (mCh_3 (List.mem_of_getElem? (i := 218) rfl))
theorem mCw_27 : mCwIn (yX1_tellBytes, cX1_tellBytes, 5, none, 1, []) := Or.inr (mCh_4 (List.mem_of_getElem? (i := 22) rfl))
theorem mCw_28 : mCwIn (yX1_askBytes, cX1_askBytes, 4, (some .int), 1, []) := Or.inr (mCh_4 (List.mem_of_getElem? (i := 13) rfl))
theorem mCw_29 : mCwIn (yX1_askRecords, cX1_askRecords, 3, (some .int), 1, []) := Or.inr (mCh_4 (List.mem_of_getElem? (i := 51) rfl))
theorem mCw_30 : mCwIn (yX1_namesRecord, cX1_namesRecord, 1, (some .boolean), 1, []) := Or.inr (mCh_4 (List.mem_of_getElem? (i := 54) rfl))
theorem mCw_31 : mCwIn (yX1_choose, cX1_choose, 5, (some .int), 1, []) := Or.inr (mCh_4 (List.mem_of_getElem? (i := 58) rfl))
theorem mCw_32 : mCwIn (yX1_keepRecord, cX1_keepRecord, 3, none, 1, []) := Or.inr (mCh_4 (List.mem_of_getElem? (i := 66) rfl))
theorem mCw_33 : mCwIn (yX2_init, cX2_init, 1, none, 2, []) := Or.inr (mCh_1 (List.mem_of_getElem? (i := 94) rfl))
theorem mCw_34 : mCwIn (yX2_isShape, cX2_isShape, 3, (some .boolean), 2, []) := Or.inr (mCh_6 (List.mem_of_getElem? (i := 113) rfl))
theorem mCw_35 : mCwIn (yX2_size, cX2_size, 1, (some .int), 2, []) := Or.inr (mCh_5 (List.mem_of_getElem? (i := 217) rfl))
theorem mCw_36 : mCwIn (yX2_get, cX2_get, 2, (some (.object "ChipCard$CardFile")), 2, []) := Or.inr (mCh_2 (List.mem_of_getElem? (i := 63) rfl))
theorem mCw_37 : mCwIn (yX2_root, cX2_root, 1, (some (.object "ChipCard$CardFile")), 2, []) := Or.inr (mCh_2 (List.mem_of_getElem? (i := 59) rfl))
theorem mCw_38 : mCwIn (yX2_isFreeId, cX2_isFreeId, 4, (some .boolean), 2, []) := Or.inr (mCh_6 (List.mem_of_getElem? (i := 92) rfl))
theorem mCw_39 : mCwIn (yX2_hasRoom, cX2_hasRoom, 2, (some .boolean), 2, []) := Or.inr (mCh_6 (List.mem_of_getElem? (i := 118) rfl))
theorem mCw_40 : mCwIn (yX2_make, cX2_make, 7, (some .int), 2, []) := Or.inr (mCh_6 (List.mem_of_getElem? (i := 138) rfl))
theorem mCw_41 : mCwIn (yX2_childOf, cX2_childOf, 5, (some (.object "ChipCard$CardFile")), 2, []) := Or.inr (mCh_3 (List.mem_of_getElem? (i := 206) rfl))
theorem mCw_42 : mCwIn (yX2_firstOfBytes, cX2_firstOfBytes, 4, (some (.object "ChipCard$CardFile")), 2, []) := Or.inr (mCh_5 (List.mem_of_getElem? (i := 191) rfl))
theorem mCw_43 : mCwIn (yX3_init, cX3_init, 6, none, 3, []) := Or.inr (mCh_2 (List.mem_of_getElem? (i := 116) rfl))
theorem mCw_44 : mCwIn (yX3_type, cX3_type, 1, (some .int), 3, []) := Or.inr (mCh_4 (List.mem_of_getElem? (i := 169) rfl))
theorem mCw_45 : mCwIn (yX3_takesItems, cX3_takesItems, 1, (some .boolean), 3, []) := Or.inr (mCh_6 (List.mem_of_getElem? (i := 187) rfl))
theorem mCw_46 : mCwIn (yX3_items, cX3_items, 1, (some .int), 3, []) := Or.inr (mCh_4 (List.mem_of_getElem? (i := 161) rfl))
theorem mCw_47 : mCwIn (yX3_placeOf, cX3_placeOf, 3, (some .int), 3, []) := Or.inr (mCh_3 (List.mem_of_getElem? (i := 126) rfl))
theorem mCw_48 : mCwIn (yX3_addItem, cX3_addItem, 4, none, 3, []) := Or.inr (mCh_6 (List.mem_of_getElem? (i := 195) rfl))
theorem mCw_49 : mCwIn (yX3_wayBy, cX3_wayBy, 2, (some .int), 3, []) := Or.inr (mCh_4 (List.mem_of_getElem? (i := 184) rfl))
theorem mCw_50 : mCwIn (yX3_leadBy, cX3_leadBy, 3, (some .boolean), 3, []) := Or.inr (mCh_3 (List.mem_of_getElem? (i := 110) rfl))
theorem mCw_51 : mCwIn (yX3_wayByItem, cX3_wayByItem, 2, (some .int), 3, []) := Or.inr (mCh_5 (List.mem_of_getElem? (i := 113) rfl))
theorem mCw_52 : mCwIn (yX3_leadByItem, cX3_leadByItem, 4, (some .boolean), 3, []) := Or.inr (mCh_3 (List.mem_of_getElem? (i := 122) rfl))
theorem mCw_53 : mCwIn (yX3_write, cX3_write, 4, none, 3, []) := Or.inr (mCh_4 (List.mem_of_getElem? (i := 199) rfl))
theorem mCw_54 : mCwIn (yX3_device, cX3_device, 1, (some .int), 3, []) := Or.inr (mCh_4 (List.mem_of_getElem? (i := 208) rfl))
theorem mCw_55 : mCwIn (yX3_writeShown, cX3_writeShown, 2, none, 3, []) := Or.inr (mCh_4 (List.mem_of_getElem? (i := 212) rfl))
theorem mCw_56 : mCwIn (yX3_writeRange, cX3_writeRange, 2, none, 3, []) := Or.inr (mCh_4 (List.mem_of_getElem? (i := 219) rfl))
theorem mCw_57 : mCwIn (yX3_writeTitle, cX3_writeTitle, 3, none, 3, []) := Or.inr (mCh_4 (List.mem_of_getElem? (i := 224) rfl))
theorem mCw_58 : mCwIn (yX3_writeMessage, cX3_writeMessage, 2, none, 3, []) := Or.inr (mCh_4 (List.mem_of_getElem? (i := 232) rfl))
theorem mCw_59 : mCwIn (yX3_writeTimer, cX3_writeTimer, 2, none, 3, []) := Or.inr (mCh_4 (List.mem_of_getElem? (i := 236) rfl))
theorem mCw_60 : mCwIn (yX3_writeItems, cX3_writeItems, 4, none, 3, []) := Or.inr (mCh_4 (List.mem_of_getElem? (i := 228) rfl))
theorem mCw_61 : mCwIn (yX3_swapped, cX3_swapped, 1, (some .int), 3, []) := Or.inr (mCh_5 (List.mem_of_getElem? (i := 1) rfl))
theorem mCw_62 : mCwIn (yX4_init, cX4_init, 1, none, 4, []) := Or.inr (mCh_2 (List.mem_of_getElem? (i := 106) rfl))
theorem mCw_63 : mCwIn (yX4_size, cX4_size, 1, (some .int), 4, []) := Or.inr (mCh_5 (List.mem_of_getElem? (i := 221) rfl))
theorem mCw_64 : mCwIn (yX4_get, cX4_get, 2, (some (.object "ChipCard$Node")), 4, []) := Or.inr (mCh_3 (List.mem_of_getElem? (i := 92) rfl))
theorem mCw_65 : mCwIn (yX4_nodeOrMenu, cX4_nodeOrMenu, 2, (some (.object "ChipCard$Node")), 4, []) := Or.inr (mCh_3 (List.mem_of_getElem? (i := 118) rfl))
theorem mCw_66 : mCwIn (yX4_isNodeOrNone, cX4_isNodeOrNone, 2, (some .boolean), 4, []) := Or.inr (mCh_3 (List.mem_of_getElem? (i := 105) rfl))
theorem mCw_67 : mCwIn (yX4_make, cX4_make, 5, (some .int), 4, []) := Or.inr (mCh_6 (List.mem_of_getElem? (i := 174) rfl))
theorem mCw_68 : mCwIn (yX4_wayByEvent, cX4_wayByEvent, 2, (some .int), 4, []) := Or.inr (mCh_5 (List.mem_of_getElem? (i := 151) rfl))
theorem mCw_69 : mCwIn (yX4_leadByEvent, cX4_leadByEvent, 3, (some .boolean), 4, []) := Or.inr (mCh_3 (List.mem_of_getElem? (i := 134) rfl))
theorem mCw_70 : mCwIn (yX4_wayByTimer, cX4_wayByTimer, 2, (some .int), 4, []) := Or.inr (mCh_5 (List.mem_of_getElem? (i := 165) rfl))
theorem mCw_71 : mCwIn (yX4_leadByTimer, cX4_leadByTimer, 3, (some .boolean), 4, []) := Or.inr (mCh_3 (List.mem_of_getElem? (i := 138) rfl))
theorem mCw_72 : mCwIn (yX4_writeEvents, cX4_writeEvents, 4, none, 4, []) := Or.inr (mCh_5 (List.mem_of_getElem? (i := 5) rfl))
theorem mCw_73 : mCwIn (yX5_init, cX5_init, 1, none, 5, []) := Or.inr (mCh_1 (List.mem_of_getElem? (i := 56) rfl))
theorem mCw_74 : mCwIn (yX5_read, cX5_read, 4, (some .boolean), 5, []) := Or.inr (mCh_3 (List.mem_of_getElem? (i := 174) rfl))
theorem mCw_75 : mCwIn (yX5_hasData, cX5_hasData, 1, (some .boolean), 5, []) := Or.inr (mCh_4 (List.mem_of_getElem? (i := 34) rfl))
theorem mCw_76 : mCwIn (yX5_wantsBytes, cX5_wantsBytes, 1, (some .boolean), 5, []) := Or.inr (mCh_4 (List.mem_of_getElem? (i := 5) rfl))
theorem mCw_77 : mCwIn (yX5_place, cX5_place, 1, (some .int), 5, []) := Or.inr (mCh_4 (List.mem_of_getElem? (i := 9) rfl))
theorem mCw_78 : mCwIn (yX6_init, cX6_init, 2, none, 6, []) := Or.inr (mCh_1 (List.mem_of_getElem? (i := 42) rfl))
theorem mCw_79 : mCwIn (yX6_length, cX6_length, 1, (some .int), 6, []) := Or.inr (mCh_3 (List.mem_of_getElem? (i := 67) rfl))
theorem mCw_80 : mCwIn (yX6_get, cX6_get, 2, (some .int), 6, []) := Or.inr (mCh_3 (List.mem_of_getElem? (i := 180) rfl))
theorem mCw_81 : mCwIn (yX6_getPair, cX6_getPair, 2, (some .int), 6, []) := Or.inr (mCh_3 (List.mem_of_getElem? (i := 198) rfl))
theorem mCw_82 : mCwIn (yX6_lengthAt, cX6_lengthAt, 4, (some .int), 6, []) := Or.inr (mCh_5 (List.mem_of_getElem? (i := 34) rfl))
theorem mCw_83 : mCwIn (yX6_clear, cX6_clear, 1, none, 6, []) := Or.inr (mCh_3 (List.mem_of_getElem? (i := 161) rfl))
theorem mCw_84 : mCwIn (yX6_cut, cX6_cut, 2, (some .boolean), 6, []) := Or.inr (mCh_3 (List.mem_of_getElem? (i := 76) rfl))
theorem mCw_85 : mCwIn (yX6_add, cX6_add, 2, none, 6, []) := Or.inr (mCh_2 (List.mem_of_getElem? (i := 29) rfl))
theorem mCw_86 : mCwIn (yX6_addPair, cX6_addPair, 2, none, 6, []) := Or.inr (mCh_2 (List.mem_of_getElem? (i := 25) rfl))
theorem mCw_87 : mCwIn (yX6_addFour, cX6_addFour, 2, none, 6, []) := Or.inr (mCh_2 (List.mem_of_getElem? (i := 21) rfl))
theorem mCw_88 : mCwIn (yX6_addLength, cX6_addLength, 2, none, 6, []) := Or.inr (mCh_3 (List.mem_of_getElem? (i := 227) rfl))
theorem mCw_89 : mCwIn (yX6_addPart, cX6_addPart, 5, none, 6, []) := Or.inr (mCh_3 (List.mem_of_getElem? (i := 184) rfl))
theorem mCw_90 : mCwIn (yX6_addAll, cX6_addAll, 3, none, 6, []) := Or.inr (mCh_4 (List.mem_of_getElem? (i := 157) rfl))
theorem mCw_91 : mCwIn (yX6_startsWith, cX6_startsWith, 3, (some .boolean), 6, []) := Or.inr (mCh_4 (List.mem_of_getElem? (i := 124) rfl))
theorem mCw_92 : mCwIn (yX6_copy, cX6_copy, 2, (some (.object "ChipCard$Row")), 6, []) := Or.inr (mCh_6 (List.mem_of_getElem? (i := 167) rfl))
theorem mCw_93 : mCwIn (yX7_init, cX7_init, 1, none, 7, []) := Or.inr (mCh_2 (List.mem_of_getElem? (i := 13) rfl))
theorem mCw_94 : mCwIn (yX7_verify, cX7_verify, 2, (some .int), 7, []) := Or.inr (mCh_4 (List.mem_of_getElem? (i := 105) rfl))
theorem mCw_95 : mCwIn (yX7_change, cX7_change, 3, (some .int), 7, []) := Or.inr (mCh_4 (List.mem_of_getElem? (i := 133) rfl))
theorem mCw_96 : mCwIn (yX7_unblock, cX7_unblock, 2, (some .int), 7, []) := Or.inr (mCh_4 (List.mem_of_getElem? (i := 143) rfl))
theorem mCw_97 : mCwIn (yX7_allow, cX7_allow, 2, (some .boolean), 7, []) := Or.inr (mCh_4 (List.mem_of_getElem? (i := 17) rfl))
theorem mCw_98 : mCwIn (yX7_namesPin, cX7_namesPin, 1, (some .boolean), 7, []) := Or.inr (mCh_4 (List.mem_of_getElem? (i := 108) rfl))
theorem mCw_99 : mCwIn (yX7_pinState, cX7_pinState, 1, (some .int), 7, []) := Or.inr (mCh_4 (List.mem_of_getElem? (i := 114) rfl))
theorem mCw_100 : mCwIn (yX7_tryPin, cX7_tryPin, 2, (some .int), 7, []) := Or.inr (mCh_4 (List.mem_of_getElem? (i := 120) rfl))
theorem mCw_101 : mCwIn (yX7_takeNewPin, cX7_takeNewPin, 2, none, 7, []) := Or.inr (mCh_4 (List.mem_of_getElem? (i := 137) rfl))
theorem mCw_102 : mCwIn (yX7_acceptPin, cX7_acceptPin, 1, none, 7, []) := Or.inr (mCh_4 (List.mem_of_getElem? (i := 129) rfl))
theorem mCw_103 : mCwIn (yX8_init, cX8_init, 2, none, 8, []) := Or.inr (mCh_2 (List.mem_of_getElem? (i := 187) rfl))
theorem mCw_104 : mCwIn (yX8_restart, cX8_restart, 2, none, 8, []) := Or.inr (mCh_3 (List.mem_of_getElem? (i := 153) rfl))
theorem mCw_105 : mCwIn (yX8_open, cX8_open, 2, none, 8, []) := Or.inr (mCh_4 (List.mem_of_getElem? (i := 152) rfl))
theorem mCw_106 : mCwIn (yX8_start, cX8_start, 2, none, 8, []) := Or.inr (mCh_5 (List.mem_of_getElem? (i := 119) rfl))
theorem mCw_107 : mCwIn (yX8_startNode, cX8_startNode, 4, none, 8, []) := Or.inr (mCh_4 (List.mem_of_getElem? (i := 165) rfl))
theorem mCw_108 : mCwIn (yX8_repeat, cX8_repeat, 1, (some .boolean), 8, []) := Or.inr (mCh_5 (List.mem_of_getElem? (i := 74) rfl))
theorem mCw_109 : mCwIn (yX8_finish, cX8_finish, 1, none, 8, []) := Or.inr (mCh_3 (List.mem_of_getElem? (i := 157) rfl))
theorem mCw_110 : mCwIn (yX8_nodeNumber, cX8_nodeNumber, 1, (some .int), 8, []) := Or.inr (mCh_5 (List.mem_of_getElem? (i := 234) rfl))
theorem mCw_111 : mCwIn (yX8_commandNumber, cX8_commandNumber, 1, (some .int), 8, []) := Or.inr (mCh_5 (List.mem_of_getElem? (i := 238) rfl))
theorem mCw_112 : mCwIn (yX8_pendingBody, cX8_pendingBody, 1, (some (.object "ChipCard$Row")), 8, []) := Or.inr (mCh_4 (List.mem_of_getElem? (i := 195) rfl))
theorem mCw_113 : mCwIn (yX8_pendingSize, cX8_pendingSize, 2, (some .int), 8, []) := Or.inr (mCh_5 (List.mem_of_getElem? (i := 206) rfl))
theorem mCw_114 : mCwIn (yX8_runs, cX8_runs, 2, (some .boolean), 8, []) := Or.inr (mCh_5 (List.mem_of_getElem? (i := 161) rfl))
theorem mCw_115 : mCwIn (yX8_run, cX8_run, 3, none, 8, []) := Or.inr (mCh_5 (List.mem_of_getElem? (i := 108) rfl))
theorem mCw_116 : mCwIn (yX8_pend, cX8_pend, 1, none, 8, []) := Or.inr (mCh_4 (List.mem_of_getElem? (i := 180) rfl))
theorem mCw_117 : mCwIn (yX8_profileHas, cX8_profileHas, 3, (some .boolean), 8, []) := Or.inr (mCh_4 (List.mem_of_getElem? (i := 175) rfl))
theorem mCw_118 : mCwIn (yX9_init, cX9_init, 1, none, 9, []) := Or.inr (mCh_2 (List.mem_of_getElem? (i := 235) rfl))
theorem mCw_119 : mCwIn (yX9_read, cX9_read, 5, (some .boolean), 9, []) := Or.inr (mCh_5 (List.mem_of_getElem? (i := 24) rfl))
theorem mCw_120 : mCwIn (yX9_has, cX9_has, 2, (some .boolean), 9, []) := Or.inr (mCh_5 (List.mem_of_getElem? (i := 56) rfl))
theorem mCw_121 : mCwIn (yX9_startOf, cX9_startOf, 2, (some .int), 9, []) := Or.inr (mCh_5 (List.mem_of_getElem? (i := 43) rfl))
theorem mCw_122 : mCwIn (yX9_lengthOf, cX9_lengthOf, 2, (some .int), 9, []) := Or.inr (mCh_5 (List.mem_of_getElem? (i := 64) rfl))
theorem mCw_123 : mCwIn (yX9_valueOf, cX9_valueOf, 3, (some .int), 9, []) := Or.inr (mCh_5 (List.mem_of_getElem? (i := 68) rfl))
theorem mCw_124 : mCwIn (yX9_askMore, cX9_askMore, 3, (some .boolean), 9, []) := Or.inr (mCh_5 (List.mem_of_getElem? (i := 49) rfl))
theorem mCw_125 : mCwIn (yX9_readOne, cX9_readOne, 7, (some .int), 9, []) := Or.inr (mCh_5 (List.mem_of_getElem? (i := 29) rfl))
theorem mCw_126 : mCwIn (yX9_note, cX9_note, 4, none, 9, []) := Or.inr (mCh_5 (List.mem_of_getElem? (i := 39) rfl))
theorem mCw_127 : mCwIn (yX9_isIn, cX9_isIn, 3, (some .boolean), 9, []) := Or.inr (mCh_5 (List.mem_of_getElem? (i := 52) rfl))
theorem mCw_128 : mCwIn (yX10_init, cX10_init, 5, none, 10, []) := Or.inr (mCh_2 (List.mem_of_getElem? (i := 229) rfl))
theorem mCw_129 : mCwIn (yX10_terminalProfile, cX10_terminalProfile, 2, (some .int), 10, []) := Or.inr (mCh_4 (List.mem_of_getElem? (i := 147) rfl))
theorem mCw_130 : mCwIn (yX10_fetch, cX10_fetch, 4, (some .int), 10, []) := Or.inr (mCh_4 (List.mem_of_getElem? (i := 190) rfl))
theorem mCw_131 : mCwIn (yX10_terminalResponse, cX10_terminalResponse, 8, (some .int), 10, []) := Or.inr (mCh_5 (List.mem_of_getElem? (i := 16) rfl))
theorem mCw_132 : mCwIn (yX10_envelope, cX10_envelope, 2, (some .int), 10, []) := Or.inr (mCh_5 (List.mem_of_getElem? (i := 124) rfl))
theorem mCw_133 : mCwIn (yX10_askResponse, cX10_askResponse, 3, (some .int), 10, []) := Or.inr (mCh_5 (List.mem_of_getElem? (i := 20) rfl))
theorem mCw_134 : mCwIn (yX10_isAbout, cX10_isAbout, 2, (some .boolean), 10, []) := Or.inr (mCh_5 (List.mem_of_getElem? (i := 60) rfl))
theorem mCw_135 : mCwIn (yX10_outcomeOf, cX10_outcomeOf, 1, (some .int), 10, []) := Or.inr (mCh_5 (List.mem_of_getElem? (i := 77) rfl))
theorem mCw_136 : mCwIn (yX10_askOk, cX10_askOk, 2, (some .int), 10, []) := Or.inr (mCh_5 (List.mem_of_getElem? (i := 81) rfl))
theorem mCw_137 : mCwIn (yX10_takeOk, cX10_takeOk, 3, none, 10, []) := Or.inr (mCh_5 (List.mem_of_getElem? (i := 90) rfl))
theorem mCw_138 : mCwIn (yX10_keepBytes, cX10_keepBytes, 5, none, 10, []) := Or.inr (mCh_5 (List.mem_of_getElem? (i := 94) rfl))
theorem mCw_139 : mCwIn (yX10_takeTimer, cX10_takeTimer, 2, none, 10, []) := Or.inr (mCh_5 (List.mem_of_getElem? (i := 104) rfl))
theorem mCw_140 : mCwIn (yX10_readEnvelope, cX10_readEnvelope, 5, (some .boolean), 10, []) := Or.inr (mCh_5 (List.mem_of_getElem? (i := 128) rfl))
theorem mCw_141 : mCwIn (yX10_askTags, cX10_askTags, 3, (some .int), 10, []) := Or.inr (mCh_5 (List.mem_of_getElem? (i := 141) rfl))
theorem mCw_142 : mCwIn (yX10_itemOf, cX10_itemOf, 2, (some .int), 10, []) := Or.inr (mCh_5 (List.mem_of_getElem? (i := 85) rfl))
theorem mCw_143 : mCwIn (yX10_menuSelection, cX10_menuSelection, 3, (some .int), 10, []) := Or.inr (mCh_5 (List.mem_of_getElem? (i := 135) rfl))
theorem mCw_144 : mCwIn (yX10_event, cX10_event, 2, (some .int), 10, []) := Or.inr (mCh_5 (List.mem_of_getElem? (i := 145) rfl))
theorem mCw_145 : mCwIn (yX10_timerExpiration, cX10_timerExpiration, 3, (some .int), 10, []) := Or.inr (mCh_5 (List.mem_of_getElem? (i := 155) rfl))
theorem mCw_146 : mCwIn (yX10_message, cX10_message, 6, (some .int), 10, []) := Or.inr (mCh_5 (List.mem_of_getElem? (i := 169) rfl))
theorem mCw_147 : mCwIn (yX10_ordersOf, cX10_ordersOf, 8, (some .int), 10, []) := Or.inr (mCh_5 (List.mem_of_getElem? (i := 174) rfl))
theorem mCw_148 : mCwIn (yX10_askOrders, cX10_askOrders, 8, (some .int), 10, []) := Or.inr (mCh_5 (List.mem_of_getElem? (i := 178) rfl))
theorem mCw_149 : mCwIn (yX10_nextOrder, cX10_nextOrder, 2, (some .int), 10, []) := Or.inr (mCh_5 (List.mem_of_getElem? (i := 181) rfl))
theorem mCw_150 : mCwIn (yX10_askOrder, cX10_askOrder, 5, (some .int), 10, []) := Or.inr (mCh_5 (List.mem_of_getElem? (i := 185) rfl))
theorem mCw_151 : mCwIn (yX10_obeyOrders, cX10_obeyOrders, 7, (some .int), 10, []) := Or.inr (mCh_5 (List.mem_of_getElem? (i := 195) rfl))
theorem mCw_152 : mCwIn (yX10_obeyWriteOrder, cX10_obeyWriteOrder, 4, none, 10, []) := Or.inr (mCh_5 (List.mem_of_getElem? (i := 199) rfl))
theorem mCw_153 : mCwIn (yX11_init, cX11_init, 1, none, 11, []) := Or.inr (mCh_1 (List.mem_of_getElem? (i := 34) rfl))
theorem mCw_154 : mCwIn (yX11_feed, cX11_feed, 6, (some .int), 11, []) := Or.inr (mCh_3 (List.mem_of_getElem? (i := 63) rfl))
theorem mCw_155 : mCwIn (yX11_end, cX11_end, 2, (some .boolean), 11, []) := Or.inr (mCh_3 (List.mem_of_getElem? (i := 72) rfl))
theorem mCw_156 : mCwIn (yX11_file, cX11_file, 7, (some .int), 11, []) := Or.inr (mCh_6 (List.mem_of_getElem? (i := 19) rfl))
theorem mCw_157 : mCwIn (yX11_rights, cX11_rights, 5, (some .boolean), 11, []) := Or.inr (mCh_3 (List.mem_of_getElem? (i := 80) rfl))
theorem mCw_158 : mCwIn (yX11_fill, cX11_fill, 5, (some .int), 11, []) := Or.inr (mCh_6 (List.mem_of_getElem? (i := 149) rfl))
theorem mCw_159 : mCwIn (yX11_node, cX11_node, 4, (some .int), 11, []) := Or.inr (mCh_6 (List.mem_of_getElem? (i := 160) rfl))
theorem mCw_160 : mCwIn (yX11_item, cX11_item, 5, (some .int), 11, []) := Or.inr (mCh_6 (List.mem_of_getElem? (i := 182) rfl))
theorem mCw_161 : mCwIn (yX11_title, cX11_title, 2, (some .int), 11, []) := Or.inr (mCh_6 (List.mem_of_getElem? (i := 202) rfl))
theorem mCw_162 : mCwIn (yX11_with, cX11_with, 6, (some .boolean), 11, []) := Or.inr (mCh_3 (List.mem_of_getElem? (i := 88) rfl))
theorem mCw_163 : mCwIn (yX11_goes, cX11_goes, 5, (some .boolean), 11, []) := Or.inr (mCh_3 (List.mem_of_getElem? (i := 101) rfl))
theorem mCw_164 : mCwIn (yX11_pick, cX11_pick, 5, (some .boolean), 11, []) := Or.inr (mCh_3 (List.mem_of_getElem? (i := 114) rfl))
theorem mCw_165 : mCwIn (yX11_by, cX11_by, 4, (some .boolean), 11, []) := Or.inr (mCh_3 (List.mem_of_getElem? (i := 130) rfl))
theorem mCw_166 : mCwIn (yX11_reset, cX11_reset, 1, none, 11, []) := Or.inr (mCh_3 (List.mem_of_getElem? (i := 145) rfl))
theorem mCw_167 : mCwIn (yX11_command, cX11_command, 3, (some .int), 11, []) := Or.inr (mCh_3 (List.mem_of_getElem? (i := 165) rfl))
theorem mCw_168 : mCwIn (yX11_out, cX11_out, 3, (some .int), 11, []) := Or.inr (mCh_6 (List.mem_of_getElem? (i := 211) rfl))
theorem mCw_169 : mCwIn (yX11_count, cX11_count, 2, (some .int), 11, []) := Or.inr (mCh_5 (List.mem_of_getElem? (i := 213) rfl))
theorem mCw_170 : mCwIn (yX11_timer, cX11_timer, 2, (some .int), 11, []) := Or.inr (mCh_6 (List.mem_of_getElem? (i := 2) rfl))
theorem mCw_171 : mCwIn (yX11_byteOf, cX11_byteOf, 4, (some .int), 11, []) := Or.inr (mCh_6 (List.mem_of_getElem? (i := 8) rfl))
theorem mCw_172 : mCwIn (yX11_takeTape, cX11_takeTape, 2, (some (.object "ChipCard$Row")), 11, []) := Or.inr (mCh_3 (List.mem_of_getElem? (i := 169) rfl))
theorem mCw_173 : mCwIn (yX11_carryOut, cX11_carryOut, 1, (some .int), 11, []) := Or.inr (mCh_3 (List.mem_of_getElem? (i := 189) rfl))
theorem mCw_174 : mCwIn (yX11_isByte, cX11_isByte, 1, (some .boolean), 11, []) := Or.inr (mCh_3 (List.mem_of_getElem? (i := 97) rfl))
theorem mCw_175 : mCwIn (yX11_isRight, cX11_isRight, 1, (some .boolean), 11, []) := Or.inr (mCh_3 (List.mem_of_getElem? (i := 84) rfl))
theorem mCw_176 : mCwIn (yX11_isTimer, cX11_isTimer, 1, (some .boolean), 11, []) := Or.inr (mCh_3 (List.mem_of_getElem? (i := 141) rfl))
theorem mCw_177 : mCwIn (yX11_lengthBytes, cX11_lengthBytes, 1, (some .int), 11, []) := Or.inr (mCh_3 (List.mem_of_getElem? (i := 230) rfl))
theorem mCw_178 : mCwIn (yX12_thrown, cX12_thrown, 1, (some .int), 12, []) := Or.inr (mCh_6 (List.mem_of_getElem? (i := 232) rfl))
theorem mCw_179 : mCwIn (yX12_in, cX12_in, 6, (some .boolean), 12, []) := Or.inr (mCh_7 (List.mem_of_getElem? (i := 3) rfl))
theorem mCw_180 : mCwIn (yX12_refuse, cX12_refuse, 2, (some .int), 12, []) := Or.inr (mCh_7 (List.mem_of_getElem? (i := 213) rfl))
theorem mCw_181 : mCwIn (yX12_feed, cX12_feed, 8, (some .int), 12, []) := Or.inr (mCh_6 (List.mem_of_getElem? (i := 236) rfl))
theorem mCw_182 : mCwIn (yX12_end, cX12_end, 2, (some .boolean), 12, []) := Or.inr (mCh_7 (List.mem_of_getElem? (i := 0) rfl))
theorem mCw_183 : mCwIn (yX12_read, cX12_read, 2, (some .int), 12, []) := Or.inr (mCh_7 (List.mem_of_getElem? (i := 234) rfl))
theorem mCw_184 : mCwIn (yX12_init, cX12_init, 2, none, 12, []) := Or.inr (mCh_7 (List.mem_of_getElem? (i := 8) rfl))
theorem mCw_185 : mCwIn (yX12_isFile, cX12_isFile, 2, (some .boolean), 12, []) := Or.inr (mCh_7 (List.mem_of_getElem? (i := 209) rfl))
theorem mCw_186 : mCwIn (yX12_isNode, cX12_isNode, 2, (some .boolean), 12, []) := Or.inr (mCh_8 (List.mem_of_getElem? (i := 11) rfl))
theorem mCw_187 : mCwIn (yX12_all, cX12_all, 2, (some .int), 12, []) := Or.inr (mCh_7 (List.mem_of_getElem? (i := 238) rfl))
theorem mCw_188 : mCwIn (yX12_inside, cX12_inside, 4, (some .int), 12, []) := Or.inr (mCh_7 (List.mem_of_getElem? (i := 219) rfl))
theorem mCw_189 : mCwIn (yX12_file, cX12_file, 9, (some .int), 12, []) := Or.inr (mCh_7 (List.mem_of_getElem? (i := 205) rfl))
theorem mCw_190 : mCwIn (yX12_rights, cX12_rights, 4, (some .boolean), 12, []) := Or.inr (mCh_7 (List.mem_of_getElem? (i := 225) rfl))
theorem mCw_191 : mCwIn (yX12_fill, cX12_fill, 5, (some .int), 12, []) := Or.inr (mCh_7 (List.mem_of_getElem? (i := 230) rfl))
theorem mCw_192 : mCwIn (yX12_node, cX12_node, 6, (some .int), 12, []) := Or.inr (mCh_8 (List.mem_of_getElem? (i := 2) rfl))
theorem mCw_193 : mCwIn (yX12_itemOf, cX12_itemOf, 4, (some .int), 12, []) := Or.inr (mCh_8 (List.mem_of_getElem? (i := 15) rfl))
theorem mCw_194 : mCwIn (yX12_item, cX12_item, 7, (some .int), 12, []) := Or.inr (mCh_8 (List.mem_of_getElem? (i := 7) rfl))
theorem mCw_195 : mCwIn (yX12_title, cX12_title, 3, (some .int), 12, []) := Or.inr (mCh_8 (List.mem_of_getElem? (i := 19) rfl))
theorem mCw_196 : mCwIn (yX12_with, cX12_with, 5, (some .boolean), 12, []) := Or.inr (mCh_8 (List.mem_of_getElem? (i := 23) rfl))
theorem mCw_197 : mCwIn (yX12_isTo, cX12_isTo, 2, (some .boolean), 12, []) := Or.inr (mCh_8 (List.mem_of_getElem? (i := 31) rfl))
theorem mCw_198 : mCwIn (yX12_goes, cX12_goes, 4, (some .boolean), 12, []) := Or.inr (mCh_8 (List.mem_of_getElem? (i := 27) rfl))
theorem mCw_199 : mCwIn (yX12_pick, cX12_pick, 5, (some .boolean), 12, []) := Or.inr (mCh_8 (List.mem_of_getElem? (i := 35) rfl))
theorem mCw_200 : mCwIn (yX12_by, cX12_by, 4, (some .boolean), 12, []) := Or.inr (mCh_8 (List.mem_of_getElem? (i := 39) rfl))
theorem mCw_201 : mCwIn (yX12_off, cX12_off, 1, none, 12, []) := Or.inr (mCh_7 (List.mem_of_getElem? (i := 13) rfl))
theorem mCw_202 : mCwIn (yX12_idle, cX12_idle, 2, none, 12, []) := Or.inr (mCh_7 (List.mem_of_getElem? (i := 17) rfl))
theorem mCw_203 : mCwIn (yX12_reset, cX12_reset, 1, none, 12, []) := Or.inr (mCh_8 (List.mem_of_getElem? (i := 45) rfl))
theorem mCw_204 : mCwIn (yX12_put, cX12_put, 2, none, 12, []) := Or.inr (mCh_8 (List.mem_of_getElem? (i := 77) rfl))
theorem mCw_205 : mCwIn (yX12_command, cX12_command, 3, (some .int), 12, []) := Or.inr (mCh_8 (List.mem_of_getElem? (i := 49) rfl))
theorem mCw_206 : mCwIn (yX12_status, cX12_status, 3, (some .int), 12, []) := Or.inr (mCh_8 (List.mem_of_getElem? (i := 53) rfl))
theorem mCw_207 : mCwIn (yX12_given, cX12_given, 2, (some .int), 12, []) := Or.inr (mCh_8 (List.mem_of_getElem? (i := 61) rfl))
theorem mCw_208 : mCwIn (yX12_done, cX12_done, 1, (some .int), 12, []) := Or.inr (mCh_8 (List.mem_of_getElem? (i := 81) rfl))
theorem mCw_209 : mCwIn (yX12_select, cX12_select, 2, (some .int), 12, []) := Or.inr (mCh_8 (List.mem_of_getElem? (i := 57) rfl))
theorem mCw_210 : mCwIn (yX12_near, cX12_near, 4, (some .int), 12, []) := Or.inr (mCh_8 (List.mem_of_getElem? (i := 65) rfl))
theorem mCw_211 : mCwIn (yX12_path, cX12_path, 3, (some .int), 12, []) := Or.inr (mCh_8 (List.mem_of_getElem? (i := 69) rfl))
theorem mCw_212 : mCwIn (yX12_describe, cX12_describe, 2, none, 12, []) := Or.inr (mCh_8 (List.mem_of_getElem? (i := 73) rfl))
theorem mCw_213 : mCwIn (yX12_may, cX12_may, 2, (some .boolean), 12, []) := Or.inr (mCh_8 (List.mem_of_getElem? (i := 143) rfl))
theorem mCw_214 : mCwIn (yX12_wrong, cX12_wrong, 4, (some .int), 12, []) := Or.inr (mCh_8 (List.mem_of_getElem? (i := 139) rfl))
theorem mCw_215 : mCwIn (yX12_readBytes, cX12_readBytes, 5, (some .int), 12, []) := Or.inr (mCh_8 (List.mem_of_getElem? (i := 135) rfl))
theorem mCw_216 : mCwIn (yX12_writeBytes, cX12_writeBytes, 4, (some .int), 12, []) := Or.inr (mCh_8 (List.mem_of_getElem? (i := 147) rfl))
theorem mCw_217 : mCwIn (yX12_which, cX12_which, 4, (some .int), 12, []) := Or.inr (mCh_8 (List.mem_of_getElem? (i := 159) rfl))
theorem mCw_218 : mCwIn (yX12_isWay, cX12_isWay, 1, (some .boolean), 12, []) := Or.inr (mCh_8 (List.mem_of_getElem? (i := 155) rfl))
theorem mCw_219 : mCwIn (yX12_at, cX12_at, 2, (some .int), 12, []) := Or.inr (mCh_8 (List.mem_of_getElem? (i := 163) rfl))
theorem mCw_220 : mCwIn (yX12_readRecord, cX12_readRecord, 4, (some .int), 12, []) := Or.inr (mCh_8 (List.mem_of_getElem? (i := 151) rfl))
theorem mCw_221 : mCwIn (yX12_writeRecord, cX12_writeRecord, 5, (some .int), 12, []) := Or.inr (mCh_8 (List.mem_of_getElem? (i := 167) rfl))
theorem mCw_222 : mCwIn (yX12_hasData, cX12_hasData, 4, (some .boolean), 12, []) := Or.inr (mCh_8 (List.mem_of_getElem? (i := 175) rfl))
theorem mCw_223 : mCwIn (yX12_search, cX12_search, 3, (some .int), 12, []) := Or.inr (mCh_8 (List.mem_of_getElem? (i := 171) rfl))
theorem mCw_224 : mCwIn (yX12_isCode, cX12_isCode, 4, (some .boolean), 12, []) := Or.inr (mCh_8 (List.mem_of_getElem? (i := 191) rfl))
theorem mCw_225 : mCwIn (yX12_badWay, cX12_badWay, 1, (some .int), 12, []) := Or.inr (mCh_8 (List.mem_of_getElem? (i := 183) rfl))
theorem mCw_226 : mCwIn (yX12_verify, cX12_verify, 1, (some .int), 12, []) := Or.inr (mCh_8 (List.mem_of_getElem? (i := 179) rfl))
theorem mCw_227 : mCwIn (yX12_change, cX12_change, 1, (some .int), 12, []) := Or.inr (mCh_8 (List.mem_of_getElem? (i := 199) rfl))
theorem mCw_228 : mCwIn (yX12_byPin, cX12_byPin, 2, (some .int), 12, []) := Or.inr (mCh_8 (List.mem_of_getElem? (i := 187) rfl))
theorem mCw_229 : mCwIn (yX12_taken, cX12_taken, 3, (some .int), 12, []) := Or.inr (mCh_8 (List.mem_of_getElem? (i := 195) rfl))
theorem mCw_230 : mCwIn (yX12_unblock, cX12_unblock, 1, (some .int), 12, []) := Or.inr (mCh_8 (List.mem_of_getElem? (i := 203) rfl))
theorem mCw_231 : mCwIn (yX12_lengthAt, cX12_lengthAt, 3, (some .int), 12, []) := Or.inr (mCh_8 (List.mem_of_getElem? (i := 238) rfl))
theorem mCw_232 : mCwIn (yX12_list, cX12_list, 11, (some .boolean), 12, []) := Or.inr (mCh_8 (List.mem_of_getElem? (i := 234) rfl))
theorem mCw_233 : mCwIn (yX12_bit, cX12_bit, 1, (some .long), 12, []) := Or.inr (mCh_8 (List.mem_of_getElem? (i := 230) rfl))
theorem mCw_234 : mCwIn (yX12_type, cX12_type, 2, (some .int), 12, []) := Or.inr (mCh_8 (List.mem_of_getElem? (i := 102) rfl))
theorem mCw_235 : mCwIn (yX12_hasType, cX12_hasType, 2, (some .boolean), 12, []) := Or.inr (mCh_8 (List.mem_of_getElem? (i := 215) rfl))
theorem mCw_236 : mCwIn (yX12_next, cX12_next, 1, none, 12, []) := Or.inr (mCh_8 (List.mem_of_getElem? (i := 219) rfl))
theorem mCw_237 : mCwIn (yX12_start, cX12_start, 4, none, 12, []) := Or.inr (mCh_8 (List.mem_of_getElem? (i := 211) rfl))
theorem mCw_238 : mCwIn (yX12_add, cX12_add, 2, none, 12, []) := Or.inr (mCh_8 (List.mem_of_getElem? (i := 98) rfl))
theorem mCw_239 : mCwIn (yX12_addTag, cX12_addTag, 3, none, 12, []) := Or.inr (mCh_8 (List.mem_of_getElem? (i := 94) rfl))
theorem mCw_240 : mCwIn (yX12_addText, cX12_addText, 3, none, 12, []) := Or.inr (mCh_8 (List.mem_of_getElem? (i := 110) rfl))
theorem mCw_241 : mCwIn (yX12_addItems, cX12_addItems, 4, none, 12, []) := Or.inr (mCh_8 (List.mem_of_getElem? (i := 114) rfl))
theorem mCw_242 : mCwIn (yX12_decimals, cX12_decimals, 2, none, 12, []) := Or.inr (mCh_8 (List.mem_of_getElem? (i := 126) rfl))
theorem mCw_243 : mCwIn (yX12_qualifierOf, cX12_qualifierOf, 2, (some .int), 12, []) := Or.inr (mCh_8 (List.mem_of_getElem? (i := 106) rfl))
theorem mCw_244 : mCwIn (yX12_body, cX12_body, 4, none, 12, []) := Or.inr (mCh_8 (List.mem_of_getElem? (i := 90) rfl))
theorem mCw_245 : mCwIn (yX12_message, cX12_message, 2, none, 12, []) := Or.inr (mCh_8 (List.mem_of_getElem? (i := 118) rfl))
theorem mCw_246 : mCwIn (yX12_timer1, cX12_timer1, 2, none, 12, []) := Or.inr (mCh_8 (List.mem_of_getElem? (i := 122) rfl))
theorem mCw_247 : mCwIn (yX12_events, cX12_events, 3, none, 12, []) := Or.inr (mCh_8 (List.mem_of_getElem? (i := 130) rfl))
theorem mCw_248 : mCwIn (yX12_length, cX12_length, 1, (some .int), 12, []) := Or.inr (mCh_8 (List.mem_of_getElem? (i := 86) rfl))
theorem mCw_249 : mCwIn (yX12_profile, cX12_profile, 2, (some .int), 12, []) := Or.inr (mCh_8 (List.mem_of_getElem? (i := 207) rfl))
theorem mCw_250 : mCwIn (yX12_fetch, cX12_fetch, 3, (some .int), 12, []) := Or.inr (mCh_8 (List.mem_of_getElem? (i := 223) rfl))
theorem mCw_251 : mCwIn (yX12_response, cX12_response, 3, (some .int), 12, []) := Or.inr (mCh_8 (List.mem_of_getElem? (i := 227) rfl))
theorem mCw_252 : mCwIn (yX12_over, cX12_over, 2, (some .int), 12, []) := Or.inr (mCh_9 (List.mem_of_getElem? (i := 10) rfl))
theorem mCw_253 : mCwIn (yX12_fine, cX12_fine, 3, (some .int), 12, []) := Or.inr (mCh_9 (List.mem_of_getElem? (i := 2) rfl))
theorem mCw_254 : mCwIn (yX12_keep, cX12_keep, 5, none, 12, []) := Or.inr (mCh_9 (List.mem_of_getElem? (i := 6) rfl))
theorem mCw_255 : mCwIn (yX12_envelope, cX12_envelope, 13, (some .int), 12, []) := Or.inr (mCh_9 (List.mem_of_getElem? (i := 14) rfl))
theorem mCw_256 : mCwIn (yX12_orders1, cX12_orders1, 4, (some .int), 12, []) := Or.inr (mCh_9 (List.mem_of_getElem? (i := 23) rfl))
theorem mCw_257 : mCwIn (yX12_orders, cX12_orders, 9, (some .int), 12, []) := Or.inr (mCh_9 (List.mem_of_getElem? (i := 19) rfl))
theorem mCw_258 : mCwIn (yX12_filed, cX12_filed, 3, (some .int), 12, []) := Or.inr (mCh_9 (List.mem_of_getElem? (i := 31) rfl))
theorem mCw_259 : mCwIn (yX12_order, cX12_order, 5, (some .int), 12, []) := Or.inr (mCh_9 (List.mem_of_getElem? (i := 27) rfl))
theorem mCw_260 : mCwIn (yX12_out, cX12_out, 2, (some .int), 12, []) := Or.inr (mCh_9 (List.mem_of_getElem? (i := 35) rfl))
theorem mCw_261 : mCwIn (yX12_count, cX12_count, 2, (some .int), 12, []) := Or.inr (mCh_9 (List.mem_of_getElem? (i := 39) rfl))
theorem mCw_262 : mCwIn (yX12_timer, cX12_timer, 2, (some .int), 12, []) := Or.inr (mCh_9 (List.mem_of_getElem? (i := 43) rfl))
theorem mCw_263 : mCwIn (yX12_byteOf, cX12_byteOf, 3, (some .int), 12, []) := Or.inr (mCh_9 (List.mem_of_getElem? (i := 47) rfl))
theorem mCw_264 : mCwIn (yJxa1e45_init_da8c8, cJxa1e45_init_da8c8, 1, none, 13, []) := Or.inr (mCh_1 (List.mem_of_getElem? (i := 106) rfl))
theorem mCw_265 : mCwIn (yJxc12de_init_da8c8, cJxc12de_init_da8c8, 1, none, 14, []) := Or.inr (mCh_1 (List.mem_of_getElem? (i := 103) rfl))
theorem mCw_266 : mCwIn (yJx4a65c_init_da8c8, cJx4a65c_init_da8c8, 1, none, 15, []) := Or.inr (mCh_1 (List.mem_of_getElem? (i := 100) rfl))
theorem mCw_267 : mCwIn (yJx4a65c_grow_92f84, cJx4a65c_grow_92f84, 4, (some (.array (.object "java/lang/Object"))), 15, []) := Or.inr (mCh_1 (List.mem_of_getElem? (i := 191) rfl))
theorem mCw_268 : mCwIn (yJx4a65c_grow_d5877, cJx4a65c_grow_d5877, 1, (some (.array (.object "java/lang/Object"))), 15, []) := Or.inr (mCh_1 (List.mem_of_getElem? (i := 187) rfl))
theorem mCw_269 : mCwIn (yJx4a65c_size_8abf5, cJx4a65c_size_8abf5, 1, (some .int), 15, []) := Or.inr (mCh_2 (List.mem_of_getElem? (i := 67) rfl))
theorem mCw_270 : mCwIn (yJx4a65c_elementData_915e3, cJx4a65c_elementData_915e3, 2, (some (.object "java/lang/Object")), 15, []) := Or.inr (mCh_2 (List.mem_of_getElem? (i := 81) rfl))
theorem mCw_271 : mCwIn (yJx4a65c_get_915e3, cJx4a65c_get_915e3, 2, (some (.object "java/lang/Object")), 15, []) := Or.inr (mCh_2 (List.mem_of_getElem? (i := 71) rfl))
theorem mCw_272 : mCwIn (yJx4a65c_add_72be8, cJx4a65c_add_72be8, 4, none, 15, []) := Or.inr (mCh_1 (List.mem_of_getElem? (i := 183) rfl))
theorem mCw_273 : mCwIn (yJx4a65c_add_9ea2d, cJx4a65c_add_9ea2d, 2, (some .boolean), 15, []) := Or.inr (mCh_1 (List.mem_of_getElem? (i := 179) rfl))
theorem mCw_274 : mCwIn (yJ7_fill_53178, cJ7_fill_53178, 4, none, 16, []) := Or.inr (mCh_1 (List.mem_of_getElem? (i := 130) rfl))
theorem mCw_275 : mCwIn (yJ7_copyOf_1904c, cJ7_copyOf_1904c, 2, (some (.array (.object "java/lang/Object"))), 16, []) := Or.inr (mCh_1 (List.mem_of_getElem? (i := 204) rfl))
theorem mCw_276 : mCwIn (yJ7_copyOf_6403c, cJ7_copyOf_6403c, 4, (some (.array (.object "java/lang/Object"))), 16, []) := Or.inr (mCh_1 (List.mem_of_getElem? (i := 229) rfl))
theorem mCw_277 : mCwIn (yJ15_checkIndex_7cf53, cJ15_checkIndex_7cf53, 2, (some .int), 17, []) := Or.inr (mCh_2 (List.mem_of_getElem? (i := 74) rfl))
theorem mCw_278 : mCwIn (yJ8_newLength_cabcc, cJ8_newLength_cabcc, 4, (some .int), 18, []) := Or.inr (mCh_1 (List.mem_of_getElem? (i := 194) rfl))
theorem mCw_279 : mCwIn (yJ8_hugeLength_7cf53, cJ8_hugeLength_7cf53, 3, (some .int), 18, []) := Or.inr (mCh_1 (List.mem_of_getElem? (i := 201) rfl))
theorem mCw_280 : mCwIn (yJ3_checkIndex_8e157, cJ3_checkIndex_8e157, 3, (some .int), 19, []) := Or.inr (mCh_2 (List.mem_of_getElem? (i := 77) rfl))
theorem mCw_281 : mCwIn (yL_file, cL_file, 8, (some .int), 20, [(0, 16, 19, 13), (0, 16, 23, 15), (0, 16, 27, 17)]) := Or.inr (mCh_6 (List.mem_of_getElem? (i := 12) rfl))
theorem mCw_282 : mCwIn (yL_fill, cL_fill, 5, (some .int), 20, [(0, 10, 13, 13), (0, 10, 17, 15)]) := Or.inr (mCh_6 (List.mem_of_getElem? (i := 145) rfl))
theorem mCw_283 : mCwIn (yL_node, cL_node, 5, (some .int), 20, [(0, 10, 13, 15), (0, 10, 17, 17)]) := Or.inr (mCh_6 (List.mem_of_getElem? (i := 156) rfl))
theorem mCw_284 : mCwIn (yL_item, cL_item, 5, (some .int), 20, [(0, 10, 13, 13), (0, 10, 17, 15), (0, 10, 21, 17)]) := Or.inr (mCh_6 (List.mem_of_getElem? (i := 178) rfl))
theorem mCw_285 : mCwIn (yL_title, cL_title, 3, (some .int), 20, [(0, 8, 11, 15)]) := Or.inr (mCh_6 (List.mem_of_getElem? (i := 198) rfl))
theorem mCw_286 : mCwIn (yL_out, cL_out, 4, (some .int), 20, [(0, 9, 12, 37)]) := Or.inr (mCh_6 (List.mem_of_getElem? (i := 206) rfl))
theorem mCw_287 : mCwIn (yL_law, cL_law, 7, (some .boolean), 20, []) := Or.inl rfl
theorem mCwA_1 : ∀ M ∈ mTab_1, mCwIn M := List.forall_mem_cons.mpr ⟨mCw_0, List.forall_mem_cons.mpr ⟨mCw_1, List.forall_mem_cons.mpr ⟨mCw_2, List.forall_mem_cons.mpr ⟨mCw_3, List.forall_mem_cons.mpr ⟨mCw_4, List.forall_mem_cons.mpr ⟨mCw_5, List.forall_mem_cons.mpr ⟨mCw_6, List.forall_mem_cons.mpr ⟨mCw_7, List.forall_mem_cons.mpr ⟨mCw_8, List.forall_mem_cons.mpr ⟨mCw_9, List.forall_mem_cons.mpr ⟨mCw_10, List.forall_mem_cons.mpr ⟨mCw_11, List.forall_mem_cons.mpr ⟨mCw_12, List.forall_mem_cons.mpr ⟨mCw_13, List.forall_mem_cons.mpr ⟨mCw_14, List.forall_mem_cons.mpr ⟨mCw_15, List.forall_mem_cons.mpr ⟨mCw_16, List.forall_mem_cons.mpr ⟨mCw_17, List.forall_mem_cons.mpr ⟨mCw_18, List.forall_mem_cons.mpr ⟨mCw_19, List.forall_mem_cons.mpr ⟨mCw_20, List.forall_mem_cons.mpr ⟨mCw_21, List.forall_mem_cons.mpr ⟨mCw_22, List.forall_mem_cons.mpr ⟨mCw_23, List.forall_mem_cons.mpr ⟨mCw_24, List.forall_mem_cons.mpr ⟨mCw_25, List.forall_mem_cons.mpr ⟨mCw_26, List.forall_mem_cons.mpr ⟨mCw_27, List.forall_mem_cons.mpr ⟨mCw_28, List.forall_mem_cons.mpr ⟨mCw_29, (fun _ h => absurd h List.not_mem_nil)⟩⟩⟩⟩⟩⟩⟩⟩⟩⟩⟩⟩⟩⟩⟩⟩⟩⟩⟩⟩⟩⟩⟩⟩⟩⟩⟩⟩⟩⟩
theorem mCwA_2 : ∀ M ∈ mTab_2, mCwIn M := List.forall_mem_cons.mpr ⟨mCw_30, List.forall_mem_cons.mpr ⟨mCw_31, List.forall_mem_cons.mpr ⟨mCw_32, List.forall_mem_cons.mpr ⟨mCw_33, List.forall_mem_cons.mpr ⟨mCw_34, List.forall_mem_cons.mpr ⟨mCw_35, List.forall_mem_cons.mpr ⟨mCw_36, List.forall_mem_cons.mpr ⟨mCw_37, List.forall_mem_cons.mpr ⟨mCw_38, List.forall_mem_cons.mpr ⟨mCw_39, List.forall_mem_cons.mpr ⟨mCw_40, List.forall_mem_cons.mpr ⟨mCw_41, List.forall_mem_cons.mpr ⟨mCw_42, List.forall_mem_cons.mpr ⟨mCw_43, List.forall_mem_cons.mpr ⟨mCw_44, List.forall_mem_cons.mpr ⟨mCw_45, List.forall_mem_cons.mpr ⟨mCw_46, List.forall_mem_cons.mpr ⟨mCw_47, List.forall_mem_cons.mpr ⟨mCw_48, List.forall_mem_cons.mpr ⟨mCw_49, List.forall_mem_cons.mpr ⟨mCw_50, List.forall_mem_cons.mpr ⟨mCw_51, List.forall_mem_cons.mpr ⟨mCw_52, List.forall_mem_cons.mpr ⟨mCw_53, List.forall_mem_cons.mpr ⟨mCw_54, List.forall_mem_cons.mpr ⟨mCw_55, List.forall_mem_cons.mpr ⟨mCw_56, List.forall_mem_cons.mpr ⟨mCw_57, List.forall_mem_cons.mpr ⟨mCw_58, List.forall_mem_cons.mpr ⟨mCw_59, (fun _ h => absurd h List.not_mem_nil)⟩⟩⟩⟩⟩⟩⟩⟩⟩⟩⟩⟩⟩⟩⟩⟩⟩⟩⟩⟩⟩⟩⟩⟩⟩⟩⟩⟩⟩⟩
theorem mCwA_3 : ∀ M ∈ mTab_3, mCwIn M := List.forall_mem_cons.mpr ⟨mCw_60, List.forall_mem_cons.mpr ⟨mCw_61, List.forall_mem_cons.mpr ⟨mCw_62, List.forall_mem_cons.mpr ⟨mCw_63, List.forall_mem_cons.mpr ⟨mCw_64, List.forall_mem_cons.mpr ⟨mCw_65, List.forall_mem_cons.mpr ⟨mCw_66, List.forall_mem_cons.mpr ⟨mCw_67, List.forall_mem_cons.mpr ⟨mCw_68, List.forall_mem_cons.mpr ⟨mCw_69, List.forall_mem_cons.mpr ⟨mCw_70, List.forall_mem_cons.mpr ⟨mCw_71, List.forall_mem_cons.mpr ⟨mCw_72, List.forall_mem_cons.mpr ⟨mCw_73, List.forall_mem_cons.mpr ⟨mCw_74, List.forall_mem_cons.mpr ⟨mCw_75, List.forall_mem_cons.mpr ⟨mCw_76, List.forall_mem_cons.mpr ⟨mCw_77, List.forall_mem_cons.mpr ⟨mCw_78, List.forall_mem_cons.mpr ⟨mCw_79, List.forall_mem_cons.mpr ⟨mCw_80, List.forall_mem_cons.mpr ⟨mCw_81, List.forall_mem_cons.mpr ⟨mCw_82, List.forall_mem_cons.mpr ⟨mCw_83, List.forall_mem_cons.mpr ⟨mCw_84, List.forall_mem_cons.mpr ⟨mCw_85, List.forall_mem_cons.mpr ⟨mCw_86, List.forall_mem_cons.mpr ⟨mCw_87, List.forall_mem_cons.mpr ⟨mCw_88, List.forall_mem_cons.mpr ⟨mCw_89, (fun _ h => absurd h List.not_mem_nil)⟩⟩⟩⟩⟩⟩⟩⟩⟩⟩⟩⟩⟩⟩⟩⟩⟩⟩⟩⟩⟩⟩⟩⟩⟩⟩⟩⟩⟩⟩
theorem mCwA_4 : ∀ M ∈ mTab_4, mCwIn M := List.forall_mem_cons.mpr ⟨mCw_90, List.forall_mem_cons.mpr ⟨mCw_91, List.forall_mem_cons.mpr ⟨mCw_92, List.forall_mem_cons.mpr ⟨mCw_93, List.forall_mem_cons.mpr ⟨mCw_94, List.forall_mem_cons.mpr ⟨mCw_95, List.forall_mem_cons.mpr ⟨mCw_96, List.forall_mem_cons.mpr ⟨mCw_97, List.forall_mem_cons.mpr ⟨mCw_98, List.forall_mem_cons.mpr ⟨mCw_99, List.forall_mem_cons.mpr ⟨mCw_100, List.forall_mem_cons.mpr ⟨mCw_101, List.forall_mem_cons.mpr ⟨mCw_102, List.forall_mem_cons.mpr ⟨mCw_103, List.forall_mem_cons.mpr ⟨mCw_104, List.forall_mem_cons.mpr ⟨mCw_105, List.forall_mem_cons.mpr ⟨mCw_106, List.forall_mem_cons.mpr ⟨mCw_107, List.forall_mem_cons.mpr ⟨mCw_108, List.forall_mem_cons.mpr ⟨mCw_109, List.forall_mem_cons.mpr ⟨mCw_110, List.forall_mem_cons.mpr ⟨mCw_111, List.forall_mem_cons.mpr ⟨mCw_112, List.forall_mem_cons.mpr ⟨mCw_113, List.forall_mem_cons.mpr ⟨mCw_114, List.forall_mem_cons.mpr ⟨mCw_115, List.forall_mem_cons.mpr ⟨mCw_116, List.forall_mem_cons.mpr ⟨mCw_117, List.forall_mem_cons.mpr ⟨mCw_118, List.forall_mem_cons.mpr ⟨mCw_119, (fun _ h => absurd h List.not_mem_nil)⟩⟩⟩⟩⟩⟩⟩⟩⟩⟩⟩⟩⟩⟩⟩⟩⟩⟩⟩⟩⟩⟩⟩⟩⟩⟩⟩⟩⟩⟩
theorem mCwA_5 : ∀ M ∈ mTab_5, mCwIn M := List.forall_mem_cons.mpr ⟨mCw_120, List.forall_mem_cons.mpr ⟨mCw_121, List.forall_mem_cons.mpr ⟨mCw_122, List.forall_mem_cons.mpr ⟨mCw_123, List.forall_mem_cons.mpr ⟨mCw_124, List.forall_mem_cons.mpr ⟨mCw_125, List.forall_mem_cons.mpr ⟨mCw_126, List.forall_mem_cons.mpr ⟨mCw_127, List.forall_mem_cons.mpr ⟨mCw_128, List.forall_mem_cons.mpr ⟨mCw_129, List.forall_mem_cons.mpr ⟨mCw_130, List.forall_mem_cons.mpr ⟨mCw_131, List.forall_mem_cons.mpr ⟨mCw_132, List.forall_mem_cons.mpr ⟨mCw_133, List.forall_mem_cons.mpr ⟨mCw_134, List.forall_mem_cons.mpr ⟨mCw_135, List.forall_mem_cons.mpr ⟨mCw_136, List.forall_mem_cons.mpr ⟨mCw_137, List.forall_mem_cons.mpr ⟨mCw_138, List.forall_mem_cons.mpr ⟨mCw_139, List.forall_mem_cons.mpr ⟨mCw_140, List.forall_mem_cons.mpr ⟨mCw_141, List.forall_mem_cons.mpr ⟨mCw_142, List.forall_mem_cons.mpr ⟨mCw_143, List.forall_mem_cons.mpr ⟨mCw_144, List.forall_mem_cons.mpr ⟨mCw_145, List.forall_mem_cons.mpr ⟨mCw_146, List.forall_mem_cons.mpr ⟨mCw_147, List.forall_mem_cons.mpr ⟨mCw_148, List.forall_mem_cons.mpr ⟨mCw_149, (fun _ h => absurd h List.not_mem_nil)⟩⟩⟩⟩⟩⟩⟩⟩⟩⟩⟩⟩⟩⟩⟩⟩⟩⟩⟩⟩⟩⟩⟩⟩⟩⟩⟩⟩⟩⟩
theorem mCwA_6 : ∀ M ∈ mTab_6, mCwIn M := List.forall_mem_cons.mpr ⟨mCw_150, List.forall_mem_cons.mpr ⟨mCw_151, List.forall_mem_cons.mpr ⟨mCw_152, List.forall_mem_cons.mpr ⟨mCw_153, List.forall_mem_cons.mpr ⟨mCw_154, List.forall_mem_cons.mpr ⟨mCw_155, List.forall_mem_cons.mpr ⟨mCw_156, List.forall_mem_cons.mpr ⟨mCw_157, List.forall_mem_cons.mpr ⟨mCw_158, List.forall_mem_cons.mpr ⟨mCw_159, List.forall_mem_cons.mpr ⟨mCw_160, List.forall_mem_cons.mpr ⟨mCw_161, List.forall_mem_cons.mpr ⟨mCw_162, List.forall_mem_cons.mpr ⟨mCw_163, List.forall_mem_cons.mpr ⟨mCw_164, List.forall_mem_cons.mpr ⟨mCw_165, List.forall_mem_cons.mpr ⟨mCw_166, List.forall_mem_cons.mpr ⟨mCw_167, List.forall_mem_cons.mpr ⟨mCw_168, List.forall_mem_cons.mpr ⟨mCw_169, List.forall_mem_cons.mpr ⟨mCw_170, List.forall_mem_cons.mpr ⟨mCw_171, List.forall_mem_cons.mpr ⟨mCw_172, List.forall_mem_cons.mpr ⟨mCw_173, List.forall_mem_cons.mpr ⟨mCw_174, List.forall_mem_cons.mpr ⟨mCw_175, List.forall_mem_cons.mpr ⟨mCw_176, List.forall_mem_cons.mpr ⟨mCw_177, List.forall_mem_cons.mpr ⟨mCw_178, List.forall_mem_cons.mpr ⟨mCw_179, (fun _ h => absurd h List.not_mem_nil)⟩⟩⟩⟩⟩⟩⟩⟩⟩⟩⟩⟩⟩⟩⟩⟩⟩⟩⟩⟩⟩⟩⟩⟩⟩⟩⟩⟩⟩⟩
theorem mCwA_7 : ∀ M ∈ mTab_7, mCwIn M := List.forall_mem_cons.mpr ⟨mCw_180, List.forall_mem_cons.mpr ⟨mCw_181, List.forall_mem_cons.mpr ⟨mCw_182, List.forall_mem_cons.mpr ⟨mCw_183, List.forall_mem_cons.mpr ⟨mCw_184, List.forall_mem_cons.mpr ⟨mCw_185, List.forall_mem_cons.mpr ⟨mCw_186, List.forall_mem_cons.mpr ⟨mCw_187, List.forall_mem_cons.mpr ⟨mCw_188, List.forall_mem_cons.mpr ⟨mCw_189, List.forall_mem_cons.mpr ⟨mCw_190, List.forall_mem_cons.mpr ⟨mCw_191, List.forall_mem_cons.mpr ⟨mCw_192, List.forall_mem_cons.mpr ⟨mCw_193, List.forall_mem_cons.mpr ⟨mCw_194, List.forall_mem_cons.mpr ⟨mCw_195, List.forall_mem_cons.mpr ⟨mCw_196, List.forall_mem_cons.mpr ⟨mCw_197, List.forall_mem_cons.mpr ⟨mCw_198, List.forall_mem_cons.mpr ⟨mCw_199, List.forall_mem_cons.mpr ⟨mCw_200, List.forall_mem_cons.mpr ⟨mCw_201, List.forall_mem_cons.mpr ⟨mCw_202, List.forall_mem_cons.mpr ⟨mCw_203, List.forall_mem_cons.mpr ⟨mCw_204, List.forall_mem_cons.mpr ⟨mCw_205, List.forall_mem_cons.mpr ⟨mCw_206, List.forall_mem_cons.mpr ⟨mCw_207, List.forall_mem_cons.mpr ⟨mCw_208, List.forall_mem_cons.mpr ⟨mCw_209, (fun _ h => absurd h List.not_mem_nil)⟩⟩⟩⟩⟩⟩⟩⟩⟩⟩⟩⟩⟩⟩⟩⟩⟩⟩⟩⟩⟩⟩⟩⟩⟩⟩⟩⟩⟩⟩
theorem mCwA_8 : ∀ M ∈ mTab_8, mCwIn M := List.forall_mem_cons.mpr ⟨mCw_210, List.forall_mem_cons.mpr ⟨mCw_211, List.forall_mem_cons.mpr ⟨mCw_212, List.forall_mem_cons.mpr ⟨mCw_213, List.forall_mem_cons.mpr ⟨mCw_214, List.forall_mem_cons.mpr ⟨mCw_215, List.forall_mem_cons.mpr ⟨mCw_216, List.forall_mem_cons.mpr ⟨mCw_217, List.forall_mem_cons.mpr ⟨mCw_218, List.forall_mem_cons.mpr ⟨mCw_219, List.forall_mem_cons.mpr ⟨mCw_220, List.forall_mem_cons.mpr ⟨mCw_221, List.forall_mem_cons.mpr ⟨mCw_222, List.forall_mem_cons.mpr ⟨mCw_223, List.forall_mem_cons.mpr ⟨mCw_224, List.forall_mem_cons.mpr ⟨mCw_225, List.forall_mem_cons.mpr ⟨mCw_226, List.forall_mem_cons.mpr ⟨mCw_227, List.forall_mem_cons.mpr ⟨mCw_228, List.forall_mem_cons.mpr ⟨mCw_229, List.forall_mem_cons.mpr ⟨mCw_230, List.forall_mem_cons.mpr ⟨mCw_231, List.forall_mem_cons.mpr ⟨mCw_232, List.forall_mem_cons.mpr ⟨mCw_233, List.forall_mem_cons.mpr ⟨mCw_234, List.forall_mem_cons.mpr ⟨mCw_235, List.forall_mem_cons.mpr ⟨mCw_236, List.forall_mem_cons.mpr ⟨mCw_237, List.forall_mem_cons.mpr ⟨mCw_238, List.forall_mem_cons.mpr ⟨mCw_239, (fun _ h => absurd h List.not_mem_nil)⟩⟩⟩⟩⟩⟩⟩⟩⟩⟩⟩⟩⟩⟩⟩⟩⟩⟩⟩⟩⟩⟩⟩⟩⟩⟩⟩⟩⟩⟩
theorem mCwA_9 : ∀ M ∈ mTab_9, mCwIn M := List.forall_mem_cons.mpr ⟨mCw_240, List.forall_mem_cons.mpr ⟨mCw_241, List.forall_mem_cons.mpr ⟨mCw_242, List.forall_mem_cons.mpr ⟨mCw_243, List.forall_mem_cons.mpr ⟨mCw_244, List.forall_mem_cons.mpr ⟨mCw_245, List.forall_mem_cons.mpr ⟨mCw_246, List.forall_mem_cons.mpr ⟨mCw_247, List.forall_mem_cons.mpr ⟨mCw_248, List.forall_mem_cons.mpr ⟨mCw_249, List.forall_mem_cons.mpr ⟨mCw_250, List.forall_mem_cons.mpr ⟨mCw_251, List.forall_mem_cons.mpr ⟨mCw_252, List.forall_mem_cons.mpr ⟨mCw_253, List.forall_mem_cons.mpr ⟨mCw_254, List.forall_mem_cons.mpr ⟨mCw_255, List.forall_mem_cons.mpr ⟨mCw_256, List.forall_mem_cons.mpr ⟨mCw_257, List.forall_mem_cons.mpr ⟨mCw_258, List.forall_mem_cons.mpr ⟨mCw_259, List.forall_mem_cons.mpr ⟨mCw_260, List.forall_mem_cons.mpr ⟨mCw_261, List.forall_mem_cons.mpr ⟨mCw_262, List.forall_mem_cons.mpr ⟨mCw_263, List.forall_mem_cons.mpr ⟨mCw_264, List.forall_mem_cons.mpr ⟨mCw_265, List.forall_mem_cons.mpr ⟨mCw_266, List.forall_mem_cons.mpr ⟨mCw_267, List.forall_mem_cons.mpr ⟨mCw_268, List.forall_mem_cons.mpr ⟨mCw_269, (fun _ h => absurd h List.not_mem_nil)⟩⟩⟩⟩⟩⟩⟩⟩⟩⟩⟩⟩⟩⟩⟩⟩⟩⟩⟩⟩⟩⟩⟩⟩⟩⟩⟩⟩⟩⟩
theorem mCwA_10 : ∀ M ∈ mTab_10, mCwIn M := List.forall_mem_cons.mpr ⟨mCw_270, List.forall_mem_cons.mpr ⟨mCw_271, List.forall_mem_cons.mpr ⟨mCw_272, List.forall_mem_cons.mpr ⟨mCw_273, List.forall_mem_cons.mpr ⟨mCw_274, List.forall_mem_cons.mpr ⟨mCw_275, List.forall_mem_cons.mpr ⟨mCw_276, List.forall_mem_cons.mpr ⟨mCw_277, List.forall_mem_cons.mpr ⟨mCw_278, List.forall_mem_cons.mpr ⟨mCw_279, List.forall_mem_cons.mpr ⟨mCw_280, List.forall_mem_cons.mpr ⟨mCw_281, List.forall_mem_cons.mpr ⟨mCw_282, List.forall_mem_cons.mpr ⟨mCw_283, List.forall_mem_cons.mpr ⟨mCw_284, List.forall_mem_cons.mpr ⟨mCw_285, List.forall_mem_cons.mpr ⟨mCw_286, List.forall_mem_cons.mpr ⟨mCw_287, (fun _ h => absurd h List.not_mem_nil)⟩⟩⟩⟩⟩⟩⟩⟩⟩⟩⟩⟩⟩⟩⟩⟩⟩⟩
theorem mCwA : ∀ M ∈ mTab, mCwIn M := by
  intro M h
  unfold mTab at h
  simp only [List.mem_append] at h
  rcases h with h | h | h | h | h | h | h | h | h | h
  · exact mCwA_1 M h
  · exact mCwA_2 M h
  · exact mCwA_3 M h
  · exact mCwA_4 M h
  · exact mCwA_5 M h
  · exact mCwA_6 M h
  · exact mCwA_7 M h
  · exact mCwA_8 M h
  · exact mCwA_9 M h
  · exact mCwA_10 M h
theorem mCd_spec {mj : Nat} {M : mM} (h : mTab[mj]? = some M) (hl : M.1 ≠ yL_law) : mCw M ∈ lw_tbl ∧ Cond.initialized M.1.cls ∈ lw_tbl ∧ (M.1.cls ≠ "java/lang/invoke/MethodHandle" ∧ M.1.cls ≠ "java/lang/invoke/VarHandle") ∧ plainName M.1.cls = true := by
  obtain ⟨r, hr⟩ := zip_all (by decide +kernel) mCd_ok (List.mem_of_getElem? h)
  unfold mCdOk at hr
  simp only [Bool.and_eq_true, bne_iff_ne, ne_eq] at hr
  exact ⟨(mCwA M (List.mem_of_getElem? h)).resolve_left hl, mInL hr.1.1.1, ⟨hr.1.1.2, hr.1.2⟩, hr.2⟩
theorem mT_law : (mTTab.all (fun q => q.2 != 287)) = true := by decide +kernel
theorem mTab_law : (mTab.zipIdx.all (fun q => q.1.1 != yL_law || q.2 == 287)) = true := by decide +kernel
theorem mT_spec {c9 x mj : Nat} {own : String} (h : mT c9 x = some mj) (ho : mOwn[c9]? = some own) :
    (1000 ≤ mj → Cond.methodLink own x (mNat mj) ∈ lw_tbl) ∧ (mj < 1000 → ∃ M, mTab[mj]? = some M ∧ M.1 ≠ yL_law ∧ (Cond.methodLink own x M.1 ∈ lw_tbl ∨ Cond.methodLinkNest own x M.1 "ChipCard" ∈ lw_tbl) ∧
      (mRc mj = 99 → Cond.static M.1 ∈ lw_tbl) ∧ (mRc mj ≠ 99 → Cond.instanceMethod M.1 ∈ lw_tbl ∧ 1 ≤ mAr mj ∧ M.2.2.2.2.2 = []) ∧ (mRc mj ≠ 99 → mRc mj ≠ 98 → Cond.selects M.1.cls M.1 M.1 ∈ lw_tbl ∧ ∃ q, vwCl[mRc mj]? = some q ∧ q.1 = M.1.cls) ∧
      (∀ sig, parseMethodDescriptor M.1.desc = some sig → (if mRc mj = 99 then mAr mj else mAr mj - 1) = sig.parameters.length) ∧ (mRc mj = 98 → M.1.name = "<init>" ∧ M.2.2.2.1 = none)) := by
  have hmem := lookup_mem h
  obtain ⟨r, hr⟩ := zip_all (by decide +kernel) mT_ok hmem
  unfold mMok at hr
  dsimp only at hr
  rw [ho] at hr
  dsimp only at hr
  refine ⟨fun hj => ?_, fun hj => ?_⟩
  · rw [if_pos hj, Bool.and_eq_true] at hr
    exact mInL hr.2
  · rw [if_neg (by omega)] at hr
    cases hM : mTab[mj]? with
    | none => rw [hM] at hr; cases hr
    | some M =>
      rw [hM] at hr
      dsimp only at hr
      simp only [Bool.and_eq_true] at hr
      obtain ⟨⟨⟨⟨⟨⟨h1, h2⟩, h3⟩, h4⟩, h5⟩, h6⟩, h7⟩ := hr
      refine ⟨M, rfl, ?_, ?_, ?_, ?_, ?_, ?_, ?_⟩
      · intro hl
        have hne := List.all_eq_true.mp mT_law _ hmem
        have hz := List.all_eq_true.mp mTab_law (M, mj) (List.mem_zipIdx_iff_getElem?.mpr hM)
        simp only [Bool.or_eq_true, bne_iff_ne, beq_iff_eq, ne_eq] at hne hz
        rcases hz with hz | hz
        · exact hz hl
        · exact hne hz
      · split at h1
        · exact Or.inl (mInL h1)
        · exact Or.inr (mInL h1)
      · intro h9
        rw [if_pos h9] at h2
        exact mInL h2
      · intro h9
        rw [if_neg h9] at h2
        refine ⟨mInL h2, ?_, ?_⟩
        · rcases Bool.or_eq_true _ _ ▸ h5 with z | z
          · exact absurd (eq_of_beq z) h9
          · exact of_decide_eq_true z
        · rcases Bool.or_eq_true _ _ ▸ h7 with z | z
          · exact absurd (eq_of_beq z) h9
          · exact List.isEmpty_iff.mp z
      · intro h9 h8
        rcases Bool.or_eq_true _ _ ▸ h3 with z | z
        · rcases Bool.or_eq_true _ _ ▸ z with z | z
          · exact absurd (eq_of_beq z) h8
          · exact absurd (eq_of_beq z) h9
        · rw [Bool.and_eq_true] at z
          refine ⟨mInL z.1, ?_⟩
          have z2 := eq_of_beq z.2
          obtain ⟨q, hq, hq2⟩ := Option.map_eq_some_iff.mp z2
          exact ⟨q, hq, hq2⟩
      · intro sig hs
        have z := eq_of_beq h4
        rw [hs] at z
        exact (Option.some.inj z).symm
      · intro h8
        rcases Bool.or_eq_true _ _ ▸ h6 with z | z
        · simp only [bne_iff_ne, ne_eq] at z
          exact absurd h8 z
        · simp only [Bool.and_eq_true, beq_iff_eq, decide_eq_true_eq] at z
          exact ⟨z.1.1, z.1.2⟩
