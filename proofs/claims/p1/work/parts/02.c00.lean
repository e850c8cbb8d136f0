theorem mem_pl {big : List Cond} (ws : List Cond) (ps : List Nat) (hp : ws = ps.filterMap (fun i => big[i]?)) : ∀ w ∈ ws, w ∈ big := by
  intro w hw
  rw [hp] at hw
  obtain ⟨i, -, hi⟩ := List.mem_filterMap.mp hw
  exact List.mem_of_getElem? hi
set_option maxRecDepth 20000 in
theorem wsLp_r1 : ∀ w ∈ wsL_law0_r1, w ∈ lw_tbl := mem_pl _ [153, 154, 129, 1480, 1481, 145, 503, 155, 156, 157, 158, 159, 160, 205, 670, 161, 162, 130, 673, 674, 347, 348, 134, 672] (by decide +kernel)
set_option maxRecDepth 20000 in
theorem wsLp_r2 : ∀ w ∈ wsL_law0_r2, w ∈ lw_tbl := mem_pl _ [467, 468, 140, 675, 676, 504, 505, 141, 677, 678, 679, 566, 567, 142, 681, 600, 601, 143, 682, 619, 620, 144, 683, 163] (by decide +kernel)
set_option maxRecDepth 20000 in
theorem wsLp_r3 : ∀ w ∈ wsL_law0_r3, w ∈ lw_tbl := mem_pl _ [164, 165, 166, 167, 168, 131, 285, 207, 208, 132, 290, 253, 309, 255, 133, 271, 275, 169, 170, 171, 172, 206, 178, 180] (by decide +kernel)
set_option maxRecDepth 20000 in
theorem wsLp_r4 : ∀ w ∈ wsL_law0_r4, w ∈ lw_tbl := mem_pl _ [182, 184, 186, 188, 209, 210, 211, 212, 220, 222, 223, 227, 230, 233, 256, 257, 258, 259, 260, 349, 350, 351, 352, 443] (by decide +kernel)
set_option maxRecDepth 20000 in
theorem wsLp_r5 : ∀ w ∈ wsL_law0_r5, w ∈ lw_tbl := mem_pl _ [353, 354, 135, 431, 432, 441, 355, 356, 357, 358, 406, 407, 360, 361, 362, 136, 363, 2245, 364, 365, 366, 367, 368, 2244] (by decide +kernel)
set_option maxRecDepth 20000 in
theorem wsLp_r6 : ∀ w ∈ wsL_law0_r6, w ∈ lw_tbl := mem_pl _ [370, 371, 137, 372, 373, 374, 375, 376, 378, 379, 138, 380, 381, 382, 139, 383, 384, 385, 386, 387, 388, 389, 390, 391] (by decide +kernel)
set_option maxRecDepth 20000 in
theorem wsLp_r7 : ∀ w ∈ wsL_law0_r7, w ∈ lw_tbl := mem_pl _ [392, 393, 394, 396, 398, 400, 401, 402, 403, 404, 405, 469, 470, 471, 472, 473, 475, 476, 477, 478, 479, 480, 482, 483] (by decide +kernel)
set_option maxRecDepth 20000 in
theorem wsLp_r8 : ∀ w ∈ wsL_law0_r8, w ∈ lw_tbl := mem_pl _ [506, 507, 508, 509, 525, 529, 532, 535, 538, 540, 568, 569, 570, 571, 574, 576, 578, 580, 582, 599, 583, 602, 603, 604] (by decide +kernel)
set_option maxRecDepth 20000 in
theorem wsLp_r9 : ∀ w ∈ wsL_law0_r9, w ∈ lw_tbl := mem_pl _ [605, 608, 610, 621, 622, 623, 624, 625, 626, 627, 628, 629, 630, 634, 635, 636, 637, 1482, 1483, 1484, 1485, 1501, 1504, 1506] (by decide +kernel)
set_option maxRecDepth 20000 in
theorem wsLp_r10 : ∀ w ∈ wsL_law0_r10, w ∈ lw_tbl := mem_pl _ [1526, 1527, 1528, 1529, 1530, 1531, 1532, 1533, 1534, 1535, 1536, 1537, 1538, 1539, 1540, 1541, 1542, 1543, 1545, 1546, 1553, 1554, 1556, 1557] (by decide +kernel)
set_option maxRecDepth 20000 in
theorem wsLp_r11 : ∀ w ∈ wsL_law0_r11, w ∈ lw_tbl := mem_pl _ [1558, 1559, 1560, 1561, 1562, 1563, 1564, 1567, 1569, 1571, 1572, 1573, 1574, 1576, 1577, 1578, 1580, 1582, 1486, 1488, 55, 1489, 1519, 1520] (by decide +kernel)
set_option maxRecDepth 20000 in
theorem wsLp_r12 : ∀ w ∈ wsL_law0_r12, w ∈ lw_tbl := mem_pl _ [1521, 1522, 1523, 1524, 1550, 1525, 1490, 1492, 56, 1493, 1513, 1514, 1515, 1516, 1517, 1518, 1494, 1495, 1496, 1497, 1499, 57, 1500, 1565] (by decide +kernel)
set_option maxRecDepth 20000 in
theorem wsLp_r13 : ∀ w ∈ wsL_law0_r13, w ∈ lw_tbl := mem_pl _ [1566, 1575, 1579, 1581, 713, 714, 715, 716, 671, 717, 719, 0, 720, 1767, 1768, 1769, 1770, 1503, 1502, 721, 722, 723, 724, 314] (by decide +kernel)
set_option maxRecDepth 20000 in
theorem wsLp_r14 : ∀ w ∈ wsL_law0_r14, w ∈ lw_tbl := mem_pl _ [725, 726, 727, 728, 439, 437, 438, 410, 313, 729, 730, 731, 732, 278, 281, 174, 295, 297, 300, 304, 307, 312, 315, 733] (by decide +kernel)
set_option maxRecDepth 20000 in
theorem wsLp_r15 : ∀ w ∈ wsL_law0_r15, w ∈ lw_tbl := mem_pl _ [734, 735, 736, 213, 216, 737, 738, 739, 740, 261, 262, 741, 742, 743, 744, 745, 746, 146, 747, 408, 409, 748, 749, 750] (by decide +kernel)
set_option maxRecDepth 20000 in
theorem wsLp_r16 : ∀ w ∈ wsL_law0_r16, w ∈ lw_tbl := mem_pl _ [751, 412, 414, 411, 752, 754, 1, 755, 756, 758, 2, 759, 760, 762, 3, 763, 764, 765, 766, 767, 769, 4, 770, 771] (by decide +kernel)
set_option maxRecDepth 20000 in
theorem wsLp_r17 : ∀ w ∈ wsL_law0_r17, w ∈ lw_tbl := mem_pl _ [772, 774, 5, 775, 776, 777, 778, 779, 781, 6, 782, 783, 785, 7, 786, 787, 789, 8, 790, 274, 276, 791, 793, 9] (by decide +kernel)
set_option maxRecDepth 20000 in
theorem wsLp_r18 : ∀ w ∈ wsL_law0_r18, w ∈ lw_tbl := mem_pl _ [794, 795, 797, 10, 798, 413, 799, 801, 11, 802, 803, 805, 12, 806, 415, 807, 809, 13, 810, 811, 813, 14, 814, 280] (by decide +kernel)
set_option maxRecDepth 20000 in
theorem wsLp_r19 : ∀ w ∈ wsL_law0_r19, w ∈ lw_tbl := mem_pl _ [283, 815, 817, 15, 818, 289, 176, 819, 820, 821, 822, 173, 823, 824, 825, 826, 827, 829, 16, 830, 294, 214, 831, 832] (by decide +kernel)
set_option maxRecDepth 20000 in
theorem wsLp_r20 : ∀ w ∈ wsL_law0_r20, w ∈ lw_tbl := mem_pl _ [833, 834, 835, 836, 837, 838, 839, 840, 841, 842, 843, 844, 845, 846, 847, 849, 17, 850, 296, 298, 301, 851, 853, 18] (by decide +kernel)
set_option maxRecDepth 20000 in
theorem wsLp_r21 : ∀ w ∈ wsL_law0_r21, w ∈ lw_tbl := mem_pl _ [854, 305, 855, 857, 19, 858, 859, 308, 860, 862, 20, 863, 433, 434, 435, 436, 864, 866, 21, 867, 311, 263, 868, 870] (by decide +kernel)
set_option maxRecDepth 20000 in
theorem wsLp_r22 : ∀ w ∈ wsL_law0_r22, w ∈ lw_tbl := mem_pl _ [22, 871, 872, 873, 874, 875, 876, 877, 878, 879, 881, 23, 882, 883, 885, 24, 886, 887, 889, 25, 890, 891, 893, 26] (by decide +kernel)
set_option maxRecDepth 20000 in
theorem wsLp_r23 : ∀ w ∈ wsL_law0_r23, w ∈ lw_tbl := mem_pl _ [894, 316, 895, 897, 27, 898, 899, 901, 28, 902, 903, 905, 29, 906, 907, 909, 30, 910, 573, 575, 607, 680, 911, 912] (by decide +kernel)
set_option maxRecDepth 20000 in
theorem wsLp_r24 : ∀ w ∈ wsL_law0_r24, w ∈ lw_tbl := mem_pl _ [913, 914, 286, 183, 915, 917, 916, 147, 187, 292, 217, 224, 918, 919, 920, 921, 279, 942, 943, 944, 945, 946, 947, 948] (by decide +kernel)
set_option maxRecDepth 20000 in
theorem wsLp_r25 : ∀ w ∈ wsL_law0_r25, w ∈ lw_tbl := mem_pl _ [949, 950, 273, 922, 923, 924, 925, 310, 926, 927, 928, 929, 939, 941, 940, 930, 931, 932, 933, 934, 935, 936, 937, 938] (by decide +kernel)
set_option maxRecDepth 20000 in
theorem wsLp_r26 : ∀ w ∈ wsL_law0_r26, w ∈ lw_tbl := mem_pl _ [951, 952, 953, 954, 510, 303, 514, 306, 517, 519, 522, 287, 181, 1771, 1772, 1773, 1774, 1507, 1505, 1508, 1509, 1775, 1777, 58] (by decide +kernel)
set_option maxRecDepth 20000 in
theorem wsLp_r27 : ∀ w ∈ wsL_law0_r27, w ∈ lw_tbl := mem_pl _ [1778, 1511, 1510, 1795, 1779, 1781, 59, 1782, 1783, 1785, 60, 1786, 1787, 1789, 61, 1790, 1791, 1793, 62, 1794, 1796, 1798, 63, 1799] (by decide +kernel)
set_option maxRecDepth 20000 in
theorem wsLp_r28 : ∀ w ∈ wsL_law0_r28, w ∈ lw_tbl := mem_pl _ [1800, 1802, 64, 1803, 1804, 1806, 65, 1807, 1808, 1810, 66, 1811, 1512, 1812, 1814, 67, 1815, 1816, 1817, 1818, 1819, 1821, 68, 1822] (by decide +kernel)
set_option maxRecDepth 20000 in
theorem wsLp_r29 : ∀ w ∈ wsL_law0_r29, w ∈ lw_tbl := mem_pl _ [1544, 1823, 1824, 1825, 1826, 1828, 69, 1829, 1830, 1832, 70, 1833, 1834, 1836, 71, 1837, 1838, 1840, 72, 1841, 1842, 1844, 73, 1845] (by decide +kernel)
set_option maxRecDepth 20000 in
theorem wsLp_r30 : ∀ w ∈ wsL_law0_r30, w ∈ lw_tbl := mem_pl _ [1547, 1548, 1549, 1551, 1552, 1846, 1848, 74, 1849, 1850, 1852, 75, 1853, 1854, 1856, 76, 1857, 1858, 1860, 77, 1861, 1862, 1864, 78] (by decide +kernel)
set_option maxRecDepth 20000 in
theorem wsLp_r31 : ∀ w ∈ wsL_law0_r31, w ∈ lw_tbl := mem_pl _ [1865, 1866, 1868, 79, 1869, 1870, 1872, 80, 1873, 1874, 1876, 81, 1877, 1878, 1880, 82, 1881, 1882, 1883, 1884, 1885, 1887, 83, 1888] (by decide +kernel)
set_option maxRecDepth 20000 in
theorem wsLp_r32 : ∀ w ∈ wsL_law0_r32, w ∈ lw_tbl := mem_pl _ [955, 956, 957, 958, 440, 442, 1889, 1890, 1891, 1892, 959, 960, 961, 962, 288, 175, 179, 1893, 1894, 1895, 1896, 1394, 1395, 128] (by decide +kernel)
set_option maxRecDepth 20000 in
theorem wsLp_r33 : ∀ w ∈ wsL_law0_r33, w ∈ lw_tbl := mem_pl _ [1396, 1397, 1398, 1399, 1400, 1401, 1402, 1403, 151, 1465, 152, 527, 530, 533, 536, 185, 539, 980, 982, 32, 983, 1143, 1145, 45] (by decide +kernel)
set_option maxRecDepth 20000 in
theorem wsLp_r34 : ∀ w ∈ wsL_law0_r34, w ∈ lw_tbl := mem_pl _ [1146, 512, 975, 1147, 1005, 1006, 1007, 1008, 1009, 1010, 1897, 1898, 1899, 1900, 1901, 1903, 84, 1904, 1905, 1907, 85, 1908, 1909, 1911] (by decide +kernel)
set_option maxRecDepth 20000 in
theorem wsLp_r35 : ∀ w ∈ wsL_law0_r35, w ∈ lw_tbl := mem_pl _ [86, 1912, 1913, 1915, 87, 1916, 1917, 1919, 88, 1920, 1555, 1921, 1923, 89, 1924, 1925, 1927, 90, 1928, 1929, 1931, 91, 1932, 1933] (by decide +kernel)
set_option maxRecDepth 20000 in
theorem wsLp_r36 : ∀ w ∈ wsL_law0_r36, w ∈ lw_tbl := mem_pl _ [1934, 1935, 1937, 92, 1938, 1939, 1940, 1941, 1942, 1944, 93, 1945, 1763, 1764, 1765, 1766, 963, 964, 965, 966, 293, 225, 228, 231] (by decide +kernel)
set_option maxRecDepth 20000 in
theorem wsLp_r37 : ∀ w ∈ wsL_law0_r37, w ∈ lw_tbl := mem_pl _ [234, 541, 967, 969, 31, 970, 219, 1946, 1947, 1948, 1949, 1950, 1952, 94, 1953, 971, 972, 973, 974, 282, 272, 1954, 1955, 1956] (by decide +kernel)
set_option maxRecDepth 20000 in
theorem wsLp_r38 : ∀ w ∈ wsL_law0_r38, w ∈ lw_tbl := mem_pl _ [1957, 976, 977, 978, 979, 984, 986, 33, 987, 988, 989, 990, 991, 992, 993, 994, 995, 1019, 1020, 1021, 1022, 996, 998, 34] (by decide +kernel)
set_option maxRecDepth 20000 in
theorem wsLp_r39 : ∀ w ∈ wsL_law0_r39, w ∈ lw_tbl := mem_pl _ [999, 284, 1000, 1002, 35, 1003, 229, 235, 1004, 1011, 1012, 1013, 1014, 1015, 1016, 1017, 1018, 1958, 1959, 1960, 1961, 1962, 1964, 95] (by decide +kernel)
set_option maxRecDepth 20000 in
theorem wsLp_r40 : ∀ w ∈ wsL_law0_r40, w ∈ lw_tbl := mem_pl _ [1965, 1966, 1968, 96, 1969, 1970, 1972, 97, 1973, 1974, 1976, 98, 1977, 1978, 1980, 99, 1981, 1023, 1024, 1025, 1026, 1028, 1027, 1029] (by decide +kernel)
set_option maxRecDepth 20000 in
theorem wsLp_r41 : ∀ w ∈ wsL_law0_r41, w ∈ lw_tbl := mem_pl _ [1030, 1031, 1032, 1033, 1034, 1035, 1036, 1982, 1983, 1984, 1985, 1986, 1037, 1038, 1039, 1040, 1041, 1042, 1043, 1044, 1045, 1046, 1047, 1048] (by decide +kernel)
set_option maxRecDepth 20000 in
theorem wsLp_r42 : ∀ w ∈ wsL_law0_r42, w ∈ lw_tbl := mem_pl _ [1049, 1050, 1051, 1052, 1053, 1054, 1055, 1056, 1057, 606, 1058, 1987, 1988, 1989, 1990, 1991, 1993, 100, 1994, 1995, 1997, 101, 1998, 1059] (by decide +kernel)
set_option maxRecDepth 20000 in
theorem wsLp_r43 : ∀ w ∈ wsL_law0_r43, w ∈ lw_tbl := mem_pl _ [1060, 1061, 1062, 515, 1063, 1065, 36, 1066, 1999, 2000, 2001, 2002, 1067, 1068, 1069, 1070, 1071, 1073, 37, 1074, 1075, 1076, 1077, 1078] (by decide +kernel)
set_option maxRecDepth 20000 in
theorem wsLp_r44 : ∀ w ∈ wsL_law0_r44, w ∈ lw_tbl := mem_pl _ [1079, 1080, 1081, 1082, 542, 523, 531, 520, 534, 1083, 1084, 1085, 1086, 177, 528, 1087, 1088, 1089, 1091, 38, 1092, 516, 232, 1093] (by decide +kernel)
set_option maxRecDepth 20000 in
theorem wsLp_r45 : ∀ w ∈ wsL_law0_r45, w ∈ lw_tbl := mem_pl _ [1095, 39, 1096, 1097, 1099, 40, 1100, 1101, 1103, 41, 1104, 1105, 1106, 1107, 1108, 1109, 1110, 1111, 1112, 1114, 42, 1115, 1116, 1118] (by decide +kernel)
set_option maxRecDepth 20000 in
theorem wsLp_r46 : ∀ w ∈ wsL_law0_r46, w ∈ lw_tbl := mem_pl _ [43, 1119, 537, 1120, 1121, 1122, 1123, 1124, 1125, 1126, 1127, 1128, 1129, 2003, 2004, 2005, 2006, 2007, 2009, 102, 2010, 2011, 2013, 103] (by decide +kernel)
set_option maxRecDepth 20000 in
theorem wsLp_r47 : ∀ w ∈ wsL_law0_r47, w ∈ lw_tbl := mem_pl _ [2014, 1570, 2015, 2017, 104, 2018, 2019, 2021, 105, 2022, 1568, 2023, 2025, 106, 2026, 2027, 2029, 107, 2030, 2031, 2032, 2033, 2034, 2035] (by decide +kernel)
set_option maxRecDepth 20000 in
theorem wsLp_r48 : ∀ w ∈ wsL_law0_r48, w ∈ lw_tbl := mem_pl _ [2037, 108, 2038, 2039, 2041, 109, 2042, 1130, 1131, 1132, 1133, 481, 1134, 1136, 44, 1137, 1138, 2043, 2044, 2045, 2046, 2047, 2049, 110] (by decide +kernel)
set_option maxRecDepth 20000 in
theorem wsLp_r49 : ∀ w ∈ wsL_law0_r49, w ∈ lw_tbl := mem_pl _ [2050, 1139, 1140, 1141, 1142, 2051, 2052, 2053, 2054, 1148, 1149, 1150, 1151, 1152, 1154, 46, 1155, 1156, 1157, 1158, 1159, 1160, 1161, 1162] (by decide +kernel)
set_option maxRecDepth 20000 in
theorem wsLp_r50 : ∀ w ∈ wsL_law0_r50, w ∈ lw_tbl := mem_pl _ [1163, 2055, 2056, 2057, 2058, 2059, 2061, 111, 2062, 2063, 2065, 112, 2066, 1164, 1165, 1166, 1167, 2067, 2068, 2069, 2070, 1168, 1169, 1170] (by decide +kernel)
set_option maxRecDepth 20000 in
theorem wsLp_r51 : ∀ w ∈ wsL_law0_r51, w ∈ lw_tbl := mem_pl _ [1171, 633, 1172, 1173, 1174, 1175, 474, 291, 511, 218, 1176, 1177, 1179, 47, 1180, 526, 1183, 1184, 1185, 1186, 1188, 48, 1189, 1190] (by decide +kernel)
set_option maxRecDepth 20000 in
theorem wsLp_r52 : ∀ w ∈ wsL_law0_r52, w ∈ lw_tbl := mem_pl _ [1192, 49, 1193, 632, 1194, 1196, 50, 1197, 2071, 2072, 2073, 2074, 2075, 2077, 113, 2078, 2079, 2081, 114, 2082, 2083, 2084, 2085, 2086] (by decide +kernel)
set_option maxRecDepth 20000 in
theorem wsLp_r53 : ∀ w ∈ wsL_law0_r53, w ∈ lw_tbl := mem_pl _ [2088, 115, 2089, 2090, 2092, 116, 2093, 1198, 1199, 1200, 1201, 631, 2094, 2095, 2096, 2097, 1202, 1203, 1204, 1205, 215, 1206, 1207, 1208] (by decide +kernel)
set_option maxRecDepth 20000 in
theorem wsLp_r54 : ∀ w ∈ wsL_law0_r54, w ∈ lw_tbl := mem_pl _ [1209, 1210, 1211, 1212, 1213, 2098, 2099, 2100, 2101, 2102, 2104, 117, 2105, 1214, 1215, 1216, 1217, 642, 1218, 1219, 1220, 1221, 226, 1223] (by decide +kernel)
set_option maxRecDepth 20000 in
theorem wsLp_r55 : ∀ w ∈ wsL_law0_r55, w ∈ lw_tbl := mem_pl _ [641, 1222, 1224, 1226, 51, 1227, 639, 2114, 2115, 2116, 2117, 2118, 2120, 118, 2121, 2122, 2124, 119, 2125, 1228, 1229, 1230, 1231, 640] (by decide +kernel)
set_option maxRecDepth 20000 in
theorem wsLp_r56 : ∀ w ∈ wsL_law0_r56, w ∈ lw_tbl := mem_pl _ [638, 2126, 2127, 2128, 2129, 1232, 1233, 1234, 1235, 1236, 1237, 1238, 1239, 1240, 513, 2130, 2131, 2132, 2133, 1241, 1242, 1243, 1244, 189] (by decide +kernel)
set_option maxRecDepth 20000 in
theorem wsLp_r57 : ∀ w ∈ wsL_law0_r57, w ∈ lw_tbl := mem_pl _ [2134, 2135, 2136, 2137, 1245, 1246, 1247, 1248, 521, 524, 1249, 1251, 52, 1252, 1253, 1254, 1255, 1256, 1257, 1258, 1259, 1260, 1261, 1262] (by decide +kernel)
set_option maxRecDepth 20000 in
theorem wsLp_r58 : ∀ w ∈ wsL_law0_r58, w ∈ lw_tbl := mem_pl _ [1263, 1264, 1265, 1266, 1267, 2138, 2139, 2140, 2141, 2142, 2144, 120, 2145, 2146, 2148, 121, 2149, 2150, 2152, 122, 2153, 2154, 2156, 123] (by decide +kernel)
set_option maxRecDepth 20000 in
theorem wsLp_r59 : ∀ w ∈ wsL_law0_r59, w ∈ lw_tbl := mem_pl _ [2157, 1268, 1269, 1270, 1271, 2158, 2159, 2160, 2161, 1272, 1273, 1274, 1275, 299, 302, 1276, 1277, 1278, 1279, 2162, 2163, 2164, 2165, 1280] (by decide +kernel)
set_option maxRecDepth 20000 in
theorem wsLp_r60 : ∀ w ∈ wsL_law0_r60, w ∈ lw_tbl := mem_pl _ [1281, 1282, 1283, 1284, 1285, 1286, 1287, 1288, 2106, 2107, 2108, 2109, 1289, 1290, 1291, 1292, 1293, 2110, 2111, 2112, 2113, 1294, 1295, 1296] (by decide +kernel)
set_option maxRecDepth 20000 in
theorem wsLp_r61 : ∀ w ∈ wsL_law0_r61, w ∈ lw_tbl := mem_pl _ [1297, 1298, 1299, 1300, 1301, 2166, 2167, 2168, 2169, 2170, 2172, 124, 2173, 1302, 1303, 1304, 1305, 1306, 1307, 1308, 1309, 572, 2174, 2175] (by decide +kernel)
set_option maxRecDepth 20000 in
theorem wsLp_r62 : ∀ w ∈ wsL_law0_r62, w ∈ lw_tbl := mem_pl _ [2176, 2177, 2178, 2180, 125, 2181, 1310, 1311, 1312, 1313, 1314, 1315, 1316, 1317, 2182, 2183, 2184, 2185, 1318, 1319, 1320, 1321, 2186, 2187] (by decide +kernel)
set_option maxRecDepth 20000 in
theorem wsLp_r63 : ∀ w ∈ wsL_law0_r63, w ∈ lw_tbl := mem_pl _ [2188, 2189, 1322, 1323, 1324, 1325, 577, 579, 581, 221, 1326, 1327, 1328, 1329, 1330, 1331, 1332, 1333, 1334, 1335, 1336, 1337, 1338, 1339] (by decide +kernel)
set_option maxRecDepth 20000 in
theorem wsLp_r64 : ∀ w ∈ wsL_law0_r64, w ∈ lw_tbl := mem_pl _ [2190, 2191, 2192, 2193, 2194, 2196, 126, 2197, 2198, 2200, 127, 2201, 1340, 1341, 1342, 1343, 518, 2202, 2203, 2204, 2205, 1344, 1345, 1346] (by decide +kernel)
set_option maxRecDepth 20000 in
theorem wsLp_r65 : ∀ w ∈ wsL_law0_r65, w ∈ lw_tbl := mem_pl _ [1347, 1348, 1349, 1350, 1351, 1352, 1354, 53, 1355, 1356, 1357, 1358, 1359, 1360, 1361, 1362, 1363, 1364, 1365, 1366, 1367, 1368, 1369, 1370] (by decide +kernel)
set_option maxRecDepth 20000 in
theorem wsLp_r66 : ∀ w ∈ wsL_law0_r66, w ∈ lw_tbl := mem_pl _ [1371, 1372, 1373, 1374, 1375, 1376, 2206, 2207, 2208, 2209, 1377, 1378, 1379, 1380, 609, 611, 2210, 2211, 2212, 2213, 1381, 1382, 1383, 1384] (by decide +kernel)
set_option maxRecDepth 20000 in
theorem wsLp_r67 : ∀ w ∈ wsL_law0_r67, w ∈ lw_tbl := mem_pl _ [1385, 2214, 2215, 2216, 2217, 1583, 1584, 1585, 1586, 1587, 1386, 1387, 1388, 1389, 2218, 2219, 2220, 2221, 1390, 1391, 1392, 1393, 277, 317] (by decide +kernel)
set_option maxRecDepth 20000 in
theorem wsLp_r68 : ∀ w ∈ wsL_law0_r68, w ∈ lw_tbl := mem_pl _ [2222, 2223, 2224, 2225] (by decide +kernel)
set_option maxRecDepth 20000 in
theorem wsLc_wsX00 : ∀ w ∈ wsX00, w ∈ lw_tbl := mem_pl _ [643, 645, 647, 649, 651, 653, 655, 657, 659, 661, 663, 665, 667] (by decide +kernel)
set_option maxRecDepth 20000 in
theorem wsLc_wsX10 : ∀ w ∈ wsX10, w ∈ lw_tbl := mem_pl _ [190, 192, 194, 196, 198, 200, 202] (by decide +kernel)
set_option maxRecDepth 20000 in
theorem wsLc_wsX100 : ∀ w ∈ wsX100, w ∈ lw_tbl := mem_pl _ [236, 238, 240, 242, 244, 246, 248, 250] (by decide +kernel)
set_option maxRecDepth 20000 in
theorem wsLc_wsX110 : ∀ w ∈ wsX110, w ∈ lw_tbl := mem_pl _ [684, 686, 688, 690, 692, 694, 696, 698, 700, 702, 704, 706, 708, 710] (by decide +kernel)
set_option maxRecDepth 20000 in
theorem wsLc_wsX120 : ∀ w ∈ wsX120, w ∈ lw_tbl := mem_pl _ [1588, 1590, 1592, 1594, 1596, 1598, 1600, 1602, 1604, 1606, 1608, 1610, 1612, 1614, 1616, 1618, 1620, 1622, 1624, 1626, 1628, 1630, 1632, 1634, 1636, 1638, 1640, 1642, 1644, 1646, 1648, 1650, 1652, 1654, 1656, 1658, 1660, 1662, 1664, 1666, 1668, 1670, 1672, 1674, 1676, 1678, 1680, 1682, 1684, 1686, 1688, 1690, 1692, 1694, 1696, 1698, 1700, 1702, 1704, 1706, 1708, 1710, 1712, 1714, 1716, 1718, 1720, 1722, 1724, 1726, 1728, 1730, 1732, 1734, 1736, 1738, 1740, 1742, 1744, 1746, 1748, 1750, 1752, 1754, 1756, 1758, 1760] (by decide +kernel)
set_option maxRecDepth 20000 in
theorem wsLc_wsX20 : ∀ w ∈ wsX20, w ∈ lw_tbl := mem_pl _ [264, 266, 268] (by decide +kernel)
set_option maxRecDepth 20000 in
theorem wsLc_wsX30 : ∀ w ∈ wsX30, w ∈ lw_tbl := mem_pl _ [584, 586, 588, 590, 592, 594, 596] (by decide +kernel)
set_option maxRecDepth 20000 in
theorem wsLc_wsX40 : ∀ w ∈ wsX40, w ∈ lw_tbl := mem_pl _ [543, 545, 547, 549, 551, 553, 555, 557, 559, 561, 563] (by decide +kernel)
set_option maxRecDepth 20000 in
theorem wsLc_wsX50 : ∀ w ∈ wsX50, w ∈ lw_tbl := mem_pl _ [444, 446, 448, 450, 452, 454, 456, 458, 460, 462, 464] (by decide +kernel)
set_option maxRecDepth 20000 in
theorem wsLc_wsX60 : ∀ w ∈ wsX60, w ∈ lw_tbl := mem_pl _ [484, 486, 488, 490, 492, 494, 496, 498, 500] (by decide +kernel)
set_option maxRecDepth 20000 in
theorem wsLc_wsX70 : ∀ w ∈ wsX70, w ∈ lw_tbl := mem_pl _ [416, 418, 420, 422, 424, 426, 428] (by decide +kernel)
set_option maxRecDepth 20000 in
theorem wsLc_wsX80 : ∀ w ∈ wsX80, w ∈ lw_tbl := mem_pl _ [318, 320, 322, 324, 326, 328, 330, 332, 334, 336, 338, 340, 342, 344] (by decide +kernel)
set_option maxRecDepth 20000 in
theorem wsLc_wsX90 : ∀ w ∈ wsX90, w ∈ lw_tbl := mem_pl _ [612, 614, 616] (by decide +kernel)
theorem wsL_law_in0 : ∀ w ∈ wsL_law0, w ∈ lw_tbl := fun w h => (List.mem_append.mp h).elim (fun h => (List.mem_append.mp h).elim (fun h => (List.mem_append.mp h).elim (fun h => (List.mem_append.mp h).elim (fun h => (List.mem_append.mp h).elim (fun h => (List.mem_append.mp h).elim (fun h => (List.mem_append.mp h).elim (fun h => (List.mem_append.mp h).elim (fun h => (List.mem_append.mp h).elim (fun h => (List.mem_append.mp h).elim (fun h => (List.mem_append.mp h).elim (fun h => (List.mem_append.mp h).elim (fun h => (List.mem_append.mp h).elim (fun h => (List.mem_append.mp h).elim (fun h => (List.mem_append.mp h).elim (fun h => wsLp_r1 w h) (fun h => (List.mem_append.mp h).elim (fun h => wsLp_r2 w h) (fun h => (List.mem_append.mp h).elim (fun h => wsLp_r3 w h) (fun h => (List.mem_append.mp h).elim (fun h => wsLp_r4 w h) (fun h => (List.mem_append.mp h).elim (fun h => wsLp_r5 w h) (fun h => (List.mem_append.mp h).elim (fun h => wsLp_r6 w h) (fun h => (List.mem_append.mp h).elim (fun h => wsLp_r7 w h) (fun h => (List.mem_append.mp h).elim (fun h => wsLp_r8 w h) (fun h => (List.mem_append.mp h).elim (fun h => wsLp_r9 w h) (fun h => (List.mem_append.mp h).elim (fun h => wsLp_r10 w h) (fun h => (List.mem_append.mp h).elim (fun h => wsLp_r11 w h) (fun h => (List.mem_append.mp h).elim (fun h => wsLp_r12 w h) (fun h => (List.mem_append.mp h).elim (fun h => wsLp_r13 w h) (fun h => (List.mem_append.mp h).elim (fun h => wsLp_r14 w h) (fun h => (List.mem_append.mp h).elim (fun h => wsLp_r15 w h) (fun h => (List.mem_append.mp h).elim (fun h => wsLp_r16 w h) (fun h => (List.mem_append.mp h).elim (fun h => wsLp_r17 w h) (fun h => (List.mem_append.mp h).elim (fun h => wsLp_r18 w h) (fun h => (List.mem_append.mp h).elim (fun h => wsLp_r19 w h) (fun h => (List.mem_append.mp h).elim (fun h => wsLp_r20 w h) (fun h => (List.mem_append.mp h).elim (fun h => wsLp_r21 w h) (fun h => (List.mem_append.mp h).elim (fun h => wsLp_r22 w h) (fun h => (List.mem_append.mp h).elim (fun h => wsLp_r23 w h) (fun h => (List.mem_append.mp h).elim (fun h => wsLp_r24 w h) (fun h => (List.mem_append.mp h).elim (fun h => wsLp_r25 w h) (fun h => (List.mem_append.mp h).elim (fun h => wsLp_r26 w h) (fun h => (List.mem_append.mp h).elim (fun h => wsLp_r27 w h) (fun h => (List.mem_append.mp h).elim (fun h => wsLp_r28 w h) (fun h => (List.mem_append.mp h).elim (fun h => wsLp_r29 w h) (fun h => (List.mem_append.mp h).elim (fun h => wsLp_r30 w h) (fun h => (List.mem_append.mp h).elim (fun h => wsLp_r31 w h) (fun h => (List.mem_append.mp h).elim (fun h => wsLp_r32 w h) (fun h => (List.mem_append.mp h).elim (fun h => wsLp_r33 w h) (fun h => (List.mem_append.mp h).elim (fun h => wsLp_r34 w h) (fun h => (List.mem_append.mp h).elim (fun h => wsLp_r35 w h) (fun h => (List.mem_append.mp h).elim (fun h => wsLp_r36 w h) (fun h => (List.mem_append.mp h).elim (fun h => wsLp_r37 w h) (fun h => (List.mem_append.mp h).elim (fun h => wsLp_r38 w h) (fun h => (List.mem_append.mp h).elim (fun h => wsLp_r39 w h) (fun h => (List.mem_append.mp h).elim (fun h => wsLp_r40 w h) (fun h => (List.mem_append.mp h).elim (fun h => wsLp_r41 w h) (fun h => (List.mem_append.mp h).elim (fun h => wsLp_r42 w h) (fun h => (List.mem_append.mp h).elim (fun h => wsLp_r43 w h) (fun h => (List.mem_append.mp h).elim (fun h => wsLp_r44 w h) (fun h => (List.mem_append.mp h).elim (fun h => wsLp_r45 w h) (fun h => (List.mem_append.mp h).elim (fun h => wsLp_r46 w h) (fun h => (List.mem_append.mp h).elim (fun h => wsLp_r47 w h) (fun h => (List.mem_append.mp h).elim (fun h => wsLp_r48 w h) (fun h => (List.mem_append.mp h).elim (fun h => wsLp_r49 w h) (fun h => (List.mem_append.mp h).elim (fun h => wsLp_r50 w h) (fun h => (List.mem_append.mp h).elim (fun h => wsLp_r51 w h) (fun h => (List.mem_append.mp h).elim (fun h => wsLp_r52 w h) (fun h => (List.mem_append.mp h).elim (fun h => wsLp_r53 w h) (fun h => (List.mem_append.mp h).elim (fun h => wsLp_r54 w h) (fun h => (List.mem_append.mp h).elim (fun h => wsLp_r55 w h) (fun h => (List.mem_append.mp h).elim (fun h => wsLp_r56 w h) (fun h => (List.mem_append.mp h).elim (fun h => wsLp_r57 w h) (fun h => (List.mem_append.mp h).elim (fun h => wsLp_r58 w h) (fun h => (List.mem_append.mp h).elim (fun h => wsLp_r59 w h) (fun h => (List.mem_append.mp h).elim (fun h => wsLp_r60 w h) (fun h => (List.mem_append.mp h).elim (fun h => wsLp_r61 w h) (fun h => (List.mem_append.mp h).elim (fun h => wsLp_r62 w h) (fun h => (List.mem_append.mp h).elim (fun h => wsLp_r63 w h) (fun h => (List.mem_append.mp h).elim (fun h => wsLp_r64 w h) (fun h => (List.mem_append.mp h).elim (fun h => wsLp_r65 w h) (fun h => (List.mem_append.mp h).elim (fun h => wsLp_r66 w h) (fun h => (List.mem_append.mp h).elim (fun h => wsLp_r67 w h) (fun h => wsLp_r68 w h)))))))))))))))))))))))))))))))))))))))))))))))))))))))))))))))))))) (fun h => wsLc_wsX110 w h)) (fun h => wsLc_wsX120 w h)) (fun h => wsLc_wsX80 w h)) (fun h => wsLc_wsX50 w h)) (fun h => wsLc_wsX60 w h)) (fun h => wsLc_wsX40 w h)) (fun h => wsLc_wsX30 w h)) (fun h => wsLc_wsX90 w h)) (fun h => wsLc_wsX00 w h)) (fun h => wsLc_wsX10 w h)) (fun h => wsLc_wsX100 w h)) (fun h => wsLc_wsX20 w h)) (fun h => wsLc_wsX70 w h)) (fun h => absurd h List.not_mem_nil)
theorem wsL_law_x0 : ∀ w ∈ (vx_at0 RX11 121 "java/lang/IndexOutOfBoundsException" ["java/lang/RuntimeException", "java/lang/Exception"]).filter goodWord, w ∈ lw_tbl := by decide +kernel
theorem wsL_law_x1 : ∀ w ∈ (vx_at0 RX11 146 "java/util/NoSuchElementException" ["java/lang/RuntimeException", "java/lang/Exception"]).filter goodWord, w ∈ lw_tbl := by decide +kernel
theorem wsL_law_in : ∀ w ∈ wsL_law, w ∈ lw_tbl := fun w h => (List.mem_append.mp h).elim (fun h => (List.mem_append.mp h).elim (fun h => wsL_law_in0 w h) (fun h => wsL_law_x0 w h)) (fun h => wsL_law_x1 w h)
theorem inlX0 : ∀ w ∈ wsX00, w ∈ wsL_law := fun _ h => List.mem_append_left _ (List.mem_append_left _ (List.mem_append_left _ (List.mem_append_left _ (List.mem_append_left _ (List.mem_append_left _ (List.mem_append_left _ (List.mem_append_right _ h)))))))
theorem inX0 : ∀ w ∈ wsX00, w ∈ lw_tbl := fun w h => wsL_law_in w (inlX0 w h)
theorem inlX1 : ∀ w ∈ wsX10, w ∈ wsL_law := fun _ h => List.mem_append_left _ (List.mem_append_left _ (List.mem_append_left _ (List.mem_append_left _ (List.mem_append_left _ (List.mem_append_left _ (List.mem_append_right _ h))))))
theorem inX1 : ∀ w ∈ wsX10, w ∈ lw_tbl := fun w h => wsL_law_in w (inlX1 w h)
theorem inlX2 : ∀ w ∈ wsX20, w ∈ wsL_law := fun _ h => List.mem_append_left _ (List.mem_append_left _ (List.mem_append_left _ (List.mem_append_left _ (List.mem_append_right _ h))))
theorem inX2 : ∀ w ∈ wsX20, w ∈ lw_tbl := fun w h => wsL_law_in w (inlX2 w h)
theorem inlX3 : ∀ w ∈ wsX30, w ∈ wsL_law := fun _ h => List.mem_append_left _ (List.mem_append_left _ (List.mem_append_left _ (List.mem_append_left _ (List.mem_append_left _ (List.mem_append_left _ (List.mem_append_left _ (List.mem_append_left _ (List.mem_append_left _ (List.mem_append_right _ h)))))))))
theorem inX3 : ∀ w ∈ wsX30, w ∈ lw_tbl := fun w h => wsL_law_in w (inlX3 w h)
theorem inlX4 : ∀ w ∈ wsX40, w ∈ wsL_law := fun _ h => List.mem_append_left _ (List.mem_append_left _ (List.mem_append_left _ (List.mem_append_left _ (List.mem_append_left _ (List.mem_append_left _ (List.mem_append_left _ (List.mem_append_left _ (List.mem_append_left _ (List.mem_append_left _ (List.mem_append_right _ h))))))))))
theorem inX4 : ∀ w ∈ wsX40, w ∈ lw_tbl := fun w h => wsL_law_in w (inlX4 w h)
theorem inlX5 : ∀ w ∈ wsX50, w ∈ wsL_law := fun _ h => List.mem_append_left _ (List.mem_append_left _ (List.mem_append_left _ (List.mem_append_left _ (List.mem_append_left _ (List.mem_append_left _ (List.mem_append_left _ (List.mem_append_left _ (List.mem_append_left _ (List.mem_append_left _ (List.mem_append_left _ (List.mem_append_left _ (List.mem_append_right _ h))))))))))))
theorem inX5 : ∀ w ∈ wsX50, w ∈ lw_tbl := fun w h => wsL_law_in w (inlX5 w h)
theorem inlX6 : ∀ w ∈ wsX60, w ∈ wsL_law := fun _ h => List.mem_append_left _ (List.mem_append_left _ (List.mem_append_left _ (List.mem_append_left _ (List.mem_append_left _ (List.mem_append_left _ (List.mem_append_left _ (List.mem_append_left _ (List.mem_append_left _ (List.mem_append_left _ (List.mem_append_left _ (List.mem_append_right _ h)))))))))))
theorem inX6 : ∀ w ∈ wsX60, w ∈ lw_tbl := fun w h => wsL_law_in w (inlX6 w h)
theorem inlX7 : ∀ w ∈ wsX70, w ∈ wsL_law := fun _ h => List.mem_append_left _ (List.mem_append_left _ (List.mem_append_left _ (List.mem_append_right _ h)))
theorem inX7 : ∀ w ∈ wsX70, w ∈ lw_tbl := fun w h => wsL_law_in w (inlX7 w h)
theorem inlX8 : ∀ w ∈ wsX80, w ∈ wsL_law := fun _ h => List.mem_append_left _ (List.mem_append_left _ (List.mem_append_left _ (List.mem_append_left _ (List.mem_append_left _ (List.mem_append_left _ (List.mem_append_left _ (List.mem_append_left _ (List.mem_append_left _ (List.mem_append_left _ (List.mem_append_left _ (List.mem_append_left _ (List.mem_append_left _ (List.mem_append_right _ h)))))))))))))
theorem inX8 : ∀ w ∈ wsX80, w ∈ lw_tbl := fun w h => wsL_law_in w (inlX8 w h)
theorem inlX9 : ∀ w ∈ wsX90, w ∈ wsL_law := fun _ h => List.mem_append_left _ (List.mem_append_left _ (List.mem_append_left _ (List.mem_append_left _ (List.mem_append_left _ (List.mem_append_left _ (List.mem_append_left _ (List.mem_append_left _ (List.mem_append_right _ h))))))))
theorem inX9 : ∀ w ∈ wsX90, w ∈ lw_tbl := fun w h => wsL_law_in w (inlX9 w h)
theorem inlX10 : ∀ w ∈ wsX100, w ∈ wsL_law := fun _ h => List.mem_append_left _ (List.mem_append_left _ (List.mem_append_left _ (List.mem_append_left _ (List.mem_append_left _ (List.mem_append_right _ h)))))
theorem inX10 : ∀ w ∈ wsX100, w ∈ lw_tbl := fun w h => wsL_law_in w (inlX10 w h)
theorem inlX11 : ∀ w ∈ wsX110, w ∈ wsL_law := fun _ h => List.mem_append_left _ (List.mem_append_left _ (List.mem_append_left _ (List.mem_append_left _ (List.mem_append_left _ (List.mem_append_left _ (List.mem_append_left _ (List.mem_append_left _ (List.mem_append_left _ (List.mem_append_left _ (List.mem_append_left _ (List.mem_append_left _ (List.mem_append_left _ (List.mem_append_left _ (List.mem_append_left _ (List.mem_append_right _ h)))))))))))))))
theorem inX11 : ∀ w ∈ wsX110, w ∈ lw_tbl := fun w h => wsL_law_in w (inlX11 w h)
theorem inlX12 : ∀ w ∈ wsX120, w ∈ wsL_law := fun _ h => List.mem_append_left _ (List.mem_append_left _ (List.mem_append_left _ (List.mem_append_left _ (List.mem_append_left _ (List.mem_append_left _ (List.mem_append_left _ (List.mem_append_left _ (List.mem_append_left _ (List.mem_append_left _ (List.mem_append_left _ (List.mem_append_left _ (List.mem_append_left _ (List.mem_append_left _ (List.mem_append_right _ h))))))))))))))
theorem inX12 : ∀ w ∈ wsX120, w ∈ lw_tbl := fun w h => wsL_law_in w (inlX12 w h)
theorem inJx145de : ∀ w ∈ wsJx145de0, w ∈ lw_tbl := by decide +kernel
theorem inJx9f9b0 : ∀ w ∈ wsJx9f9b00, w ∈ lw_tbl := by decide +kernel
theorem inJxb160c : ∀ w ∈ wsJxb160c0, w ∈ lw_tbl := by decide +kernel
theorem inJ9 : ∀ w ∈ wsJ90, w ∈ lw_tbl := by decide +kernel
theorem inJ0 : ∀ w ∈ wsJ00, w ∈ lw_tbl := by decide +kernel
theorem inJ1 : ∀ w ∈ wsJ10, w ∈ lw_tbl := by decide +kernel
theorem inJ2 : ∀ w ∈ wsJ20, w ∈ lw_tbl := by decide +kernel
theorem inJ10 : ∀ w ∈ wsJ100, w ∈ lw_tbl := by decide +kernel
theorem inJxfd54e : ∀ w ∈ wsJxfd54e0, w ∈ lw_tbl := by decide +kernel
theorem inJx3cf43 : ∀ w ∈ wsJx3cf430, w ∈ lw_tbl := by decide +kernel
theorem inJ3 : ∀ w ∈ wsJ30, w ∈ lw_tbl := by decide +kernel
theorem dX0_init_0 : decode cX0_init 0 = .ok (.aload_n 0, 1) := by decide +kernel
theorem dX0_init_1 : decode cX0_init 1 = .ok (.invokespecial 3, 3) := by decide +kernel
theorem dX0_init_4 : decode cX0_init 4 = .ok (.aload_n 0, 1) := by decide +kernel
theorem dX0_init_5 : decode cX0_init 5 = .ok (.bipush 10, 2) := by decide +kernel
theorem dX0_init_7 : decode cX0_init 7 = .ok (.newarray .int, 2) := by decide +kernel
theorem dX0_init_9 : decode cX0_init 9 = .ok (.putfield 9, 3) := by decide +kernel
theorem dX0_init_12 : decode cX0_init 12 = .ok (.aload_n 0, 1) := by decide +kernel
theorem dX0_init_13 : decode cX0_init 13 = .ok (.sipush 280, 3) := by decide +kernel
theorem dX0_init_16 : decode cX0_init 16 = .ok (.newarray .int, 2) := by decide +kernel
theorem dX0_init_18 : decode cX0_init 18 = .ok (.putfield 15, 3) := by decide +kernel
theorem dX0_init_21 : decode cX0_init 21 = .ok (.aload_n 0, 1) := by decide +kernel
theorem dX0_init_22 : decode cX0_init 22 = .ok (.sipush 280, 3) := by decide +kernel
theorem dX0_init_25 : decode cX0_init 25 = .ok (.newarray .int, 2) := by decide +kernel
theorem dX0_init_27 : decode cX0_init 27 = .ok (.putfield 18, 3) := by decide +kernel
theorem dX0_init_30 : decode cX0_init 30 = .ok (.aload_n 0, 1) := by decide +kernel
theorem dX0_init_31 : decode cX0_init 31 = .ok (.bipush 25, 2) := by decide +kernel
theorem dX0_init_33 : decode cX0_init 33 = .ok (.newarray .int, 2) := by decide +kernel
theorem dX0_init_35 : decode cX0_init 35 = .ok (.putfield 21, 3) := by decide +kernel
theorem dX0_init_38 : decode cX0_init 38 = .ok (.aload_n 0, 1) := by decide +kernel
theorem dX0_init_39 : decode cX0_init 39 = .ok (.bipush 25, 2) := by decide +kernel
theorem dX0_init_41 : decode cX0_init 41 = .ok (.newarray .int, 2) := by decide +kernel
theorem dX0_init_43 : decode cX0_init 43 = .ok (.putfield 24, 3) := by decide +kernel
theorem dX0_init_46 : decode cX0_init 46 = .ok (.aload_n 0, 1) := by decide +kernel
theorem dX0_init_47 : decode cX0_init 47 = .ok (.bipush 25, 2) := by decide +kernel
theorem dX0_init_49 : decode cX0_init 49 = .ok (.newarray .int, 2) := by decide +kernel
theorem dX0_init_51 : decode cX0_init 51 = .ok (.putfield 27, 3) := by decide +kernel
theorem dX0_init_54 : decode cX0_init 54 = .ok (.aload_n 0, 1) := by decide +kernel
theorem dX0_init_55 : decode cX0_init 55 = .ok (.bipush 29, 2) := by decide +kernel
theorem dX0_init_57 : decode cX0_init 57 = .ok (.newarray .int, 2) := by decide +kernel
theorem dX0_init_59 : decode cX0_init 59 = .ok (.putfield 30, 3) := by decide +kernel
theorem dX0_init_62 : decode cX0_init 62 = .ok (.aload_n 0, 1) := by decide +kernel
theorem dX0_init_63 : decode cX0_init 63 = .ok (.bipush 28, 2) := by decide +kernel
theorem dX0_init_65 : decode cX0_init 65 = .ok (.newarray .int, 2) := by decide +kernel
theorem dX0_init_67 : decode cX0_init 67 = .ok (.putfield 33, 3) := by decide +kernel
theorem dX0_init_70 : decode cX0_init 70 = .ok (.aload_n 0, 1) := by decide +kernel
theorem dX0_init_71 : decode cX0_init 71 = .ok (.bipush 28, 2) := by decide +kernel
theorem dX0_init_73 : decode cX0_init 73 = .ok (.newarray .boolean, 2) := by decide +kernel
theorem dX0_init_75 : decode cX0_init 75 = .ok (.putfield 36, 3) := by decide +kernel
theorem dX0_init_78 : decode cX0_init 78 = .ok (.aload_n 0, 1) := by decide +kernel
theorem dX0_init_79 : decode cX0_init 79 = .ok (.bipush 28, 2) := by decide +kernel
theorem dX0_init_81 : decode cX0_init 81 = .ok (.newarray .int, 2) := by decide +kernel
theorem dX0_init_83 : decode cX0_init 83 = .ok (.putfield 40, 3) := by decide +kernel
theorem dX0_init_86 : decode cX0_init 86 = .ok (.return_, 1) := by decide +kernel
set_option maxRecDepth 20000 in
theorem ggX0_playGame_X10_firstFrom : GoodIn wsX0_playGame wsX10_firstFrom := goodIn_r _ [9, 10, 11, 159, 160, 161, 162, 163, 164, 165, 166] (by decide +kernel) (by decide +kernel)
set_option maxRecDepth 20000 in
theorem gX0_playGame_X10_firstFrom : GoodIn wsX0_playGame (wsV RX0 61 RX10 yX10_firstFrom wsX10_firstFrom) := goodIn_app (goodIn_of _ (by decide +kernel)) ggX0_playGame_X10_firstFrom
set_option maxRecDepth 20000 in
theorem ggX0_playGame_X0_weighWays : GoodIn wsX0_playGame wsX0_weighWays := goodIn_r _ [16, 1, 17, 18, 2, 4, 19, 20, 21, 22, 23, 24, 25, 26, 27, 28, 29, 30, 31, 32, 33, 34, 35, 36, 37, 38, 39, 40, 41, 42, 43, 44, 45, 46, 47, 48, 49, 50, 51, 52, 53, 54, 55, 56, 57, 58, 59, 60, 61, 62, 63, 64, 65, 66, 67, 68, 69, 70, 71, 72, 73, 74, 75, 76, 77, 78, 79, 80, 81, 82, 83, 84, 85, 86, 87, 88, 89, 90, 91, 92, 93, 94, 95, 96, 97, 98, 99, 100, 101, 102, 103, 104, 105, 106, 107, 108, 125, 126, 127, 128, 129, 130, 131, 132, 133, 148, 149, 150, 151, 152, 153, 154, 155, 156, 157, 158, 167, 168, 169, 170, 171, 172, 173, 174, 175, 176, 177, 178, 179, 134, 135, 136, 137, 138, 139, 140, 141, 142, 143, 144, 145, 146, 147, 159, 160, 161, 162, 163, 164, 165, 166, 180, 181, 182] (by decide +kernel) (by decide +kernel)
set_option maxRecDepth 20000 in
theorem gX0_playGame_X0_weighWays : GoodIn wsX0_playGame (wsV RX0 67 RX0 yX0_weighWays wsX0_weighWays) := goodIn_app (goodIn_of _ (by decide +kernel)) ggX0_playGame_X0_weighWays
set_option maxRecDepth 20000 in
theorem ggX0_playGame_X0_sharePair : GoodIn wsX0_playGame wsX0_sharePair := goodIn_r _ [112, 19, 20, 113, 114, 167, 168, 169, 170, 171, 172, 173, 174, 175, 176, 177, 178, 179] (by decide +kernel) (by decide +kernel)
set_option maxRecDepth 20000 in
theorem gX0_playGame_X0_sharePair : GoodIn wsX0_playGame (wsV RX0 74 RX0 yX0_sharePair wsX0_sharePair) := goodIn_app (goodIn_of _ (by decide +kernel)) ggX0_playGame_X0_sharePair
set_option maxRecDepth 20000 in
theorem ggX0_playGame_X0_findRests : GoodIn wsX0_playGame wsX0_findRests := goodIn_r _ [118, 119, 120, 121, 122, 123, 15, 124, 18, 113, 114, 167, 168, 169, 170, 171, 172, 173, 174, 175, 176, 177, 178, 179] (by decide +kernel) (by decide +kernel)
set_option maxRecDepth 20000 in
theorem gX0_playGame_X0_findRests : GoodIn wsX0_playGame (wsV RX0 78 RX0 yX0_findRests wsX0_findRests) := goodIn_app (goodIn_of _ (by decide +kernel)) ggX0_playGame_X0_findRests
theorem dX0_playGame_0 : decode cX0_playGame 0 = .ok (.aload_n 1, 1) := by decide +kernel
theorem dX0_playGame_1 : decode cX0_playGame 1 = .ok (.getfield 43, 3) := by decide +kernel
theorem dX0_playGame_4 : decode cX0_playGame 4 = .ok (.getfield 49, 3) := by decide +kernel
theorem dX0_playGame_7 : decode cX0_playGame 7 = .ok (.aload_n 2, 1) := by decide +kernel
theorem dX0_playGame_8 : decode cX0_playGame 8 = .ok (.getfield 55, 3) := by decide +kernel
theorem dX0_playGame_11 : decode cX0_playGame 11 = .ok (.invokevirtual 61, 3) := by decide +kernel
theorem dX0_playGame_14 : decode cX0_playGame 14 = .ok (.istore 5, 2) := by decide +kernel
theorem dX0_playGame_16 : decode cX0_playGame 16 = .ok (.aload_n 0, 1) := by decide +kernel
theorem dX0_playGame_17 : decode cX0_playGame 17 = .ok (.aload_n 1, 1) := by decide +kernel
theorem dX0_playGame_18 : decode cX0_playGame 18 = .ok (.aload_n 2, 1) := by decide +kernel
theorem dX0_playGame_19 : decode cX0_playGame 19 = .ok (.iload_n 3, 1) := by decide +kernel
theorem dX0_playGame_20 : decode cX0_playGame 20 = .ok (.iconst 0, 1) := by decide +kernel
theorem dX0_playGame_21 : decode cX0_playGame 21 = .ok (.iload 5, 2) := by decide +kernel
theorem dX0_playGame_23 : decode cX0_playGame 23 = .ok (.invokevirtual 67, 3) := by decide +kernel
theorem dX0_playGame_26 : decode cX0_playGame 26 = .ok (.aload_n 0, 1) := by decide +kernel
theorem dX0_playGame_27 : decode cX0_playGame 27 = .ok (.aload_n 1, 1) := by decide +kernel
theorem dX0_playGame_28 : decode cX0_playGame 28 = .ok (.aload_n 2, 1) := by decide +kernel
theorem dX0_playGame_29 : decode cX0_playGame 29 = .ok (.iload 4, 2) := by decide +kernel
theorem dX0_playGame_31 : decode cX0_playGame 31 = .ok (.iconst 5, 1) := by decide +kernel
theorem dX0_playGame_32 : decode cX0_playGame 32 = .ok (.iload 5, 2) := by decide +kernel
theorem dX0_playGame_34 : decode cX0_playGame 34 = .ok (.invokevirtual 67, 3) := by decide +kernel
theorem dX0_playGame_37 : decode cX0_playGame 37 = .ok (.iconst 0, 1) := by decide +kernel
theorem dX0_playGame_38 : decode cX0_playGame 38 = .ok (.istore 6, 2) := by decide +kernel
theorem dX0_playGame_40 : decode cX0_playGame 40 = .ok (.iload 6, 2) := by decide +kernel
theorem dX0_playGame_42 : decode cX0_playGame 42 = .ok (.iconst 5, 1) := by decide +kernel
theorem dX0_playGame_43 : decode cX0_playGame 43 = .ok (.if_icmp .ge 55, 3) := by decide +kernel
theorem dX0_playGame_46 : decode cX0_playGame 46 = .ok (.iconst 0, 1) := by decide +kernel
theorem dX0_playGame_47 : decode cX0_playGame 47 = .ok (.istore 7, 2) := by decide +kernel
theorem dX0_playGame_49 : decode cX0_playGame 49 = .ok (.iload 7, 2) := by decide +kernel
theorem dX0_playGame_51 : decode cX0_playGame 51 = .ok (.iconst 5, 1) := by decide +kernel
theorem dX0_playGame_52 : decode cX0_playGame 52 = .ok (.if_icmp .ge 40, 3) := by decide +kernel
theorem dX0_playGame_55 : decode cX0_playGame 55 = .ok (.aload_n 0, 1) := by decide +kernel
theorem dX0_playGame_56 : decode cX0_playGame 56 = .ok (.iload 6, 2) := by decide +kernel
theorem dX0_playGame_58 : decode cX0_playGame 58 = .ok (.iload 7, 2) := by decide +kernel
theorem dX0_playGame_60 : decode cX0_playGame 60 = .ok (.iload 5, 2) := by decide +kernel
theorem dX0_playGame_62 : decode cX0_playGame 62 = .ok (.aload_n 1, 1) := by decide +kernel
theorem dX0_playGame_63 : decode cX0_playGame 63 = .ok (.getfield 43, 3) := by decide +kernel
theorem dX0_playGame_66 : decode cX0_playGame 66 = .ok (.getfield 49, 3) := by decide +kernel
theorem dX0_playGame_69 : decode cX0_playGame 69 = .ok (.getfield 71, 3) := by decide +kernel
theorem dX0_playGame_72 : decode cX0_playGame 72 = .ok (.iload_n 3, 1) := by decide +kernel
theorem dX0_playGame_73 : decode cX0_playGame 73 = .ok (.iload 4, 2) := by decide +kernel
theorem dX0_playGame_75 : decode cX0_playGame 75 = .ok (.if_icmp .ge 7, 3) := by decide +kernel
theorem dX0_playGame_78 : decode cX0_playGame 78 = .ok (.iconst 1, 1) := by decide +kernel
theorem dX0_playGame_79 : decode cX0_playGame 79 = .ok (.goto 4, 3) := by decide +kernel
theorem dX0_playGame_82 : decode cX0_playGame 82 = .ok (.iconst 0, 1) := by decide +kernel
theorem dX0_playGame_83 : decode cX0_playGame 83 = .ok (.invokevirtual 74, 3) := by decide +kernel
theorem dX0_playGame_86 : decode cX0_playGame 86 = .ok (.iinc 7 1, 3) := by decide +kernel
theorem dX0_playGame_89 : decode cX0_playGame 89 = .ok (.goto (-40), 3) := by decide +kernel
theorem dX0_playGame_92 : decode cX0_playGame 92 = .ok (.iinc 6 1, 3) := by decide +kernel
theorem dX0_playGame_95 : decode cX0_playGame 95 = .ok (.goto (-55), 3) := by decide +kernel
theorem dX0_playGame_98 : decode cX0_playGame 98 = .ok (.aload_n 0, 1) := by decide +kernel
theorem dX0_playGame_99 : decode cX0_playGame 99 = .ok (.invokevirtual 78, 3) := by decide +kernel
theorem dX0_playGame_102 : decode cX0_playGame 102 = .ok (.return_, 1) := by decide +kernel
set_option maxRecDepth 20000 in
theorem ggX0_weighWays_X8_cellBeside : GoodIn wsX0_weighWays wsX8_cellBeside := goodIn_r _ [12, 13, 14, 15, 16, 17, 11, 18, 19, 20, 21, 22, 129, 130, 131, 132, 133, 134, 135, 136, 137, 138, 139, 140, 141, 142] (by decide +kernel) (by decide +kernel)
set_option maxRecDepth 20000 in
theorem gX0_weighWays_X8_cellBeside : GoodIn wsX0_weighWays (wsV RX0 87 RX8 yX8_cellBeside wsX8_cellBeside) := goodIn_app (goodIn_of _ (by decide +kernel)) ggX0_weighWays_X8_cellBeside
set_option maxRecDepth 20000 in
theorem ggX0_weighWays_X6_farOf : GoodIn wsX0_weighWays wsX6_farOf := goodIn_r _ [27, 28, 29, 30, 31, 32, 11, 33, 13, 34, 35, 36, 37, 38, 96, 97, 98, 99, 100, 101, 102, 103, 104, 129, 130, 131, 132, 133, 134, 135, 136, 137, 138, 139, 140, 141, 142] (by decide +kernel) (by decide +kernel)
set_option maxRecDepth 20000 in
theorem gX0_weighWays_X6_farOf : GoodIn wsX0_weighWays (wsV RX0 91 RX6 yX6_farOf wsX6_farOf) := goodIn_app (goodIn_of _ (by decide +kernel)) ggX0_weighWays_X6_farOf
set_option maxRecDepth 20000 in
theorem ggX0_weighWays_X6_worthAt : GoodIn wsX0_weighWays wsX6_worthAt := goodIn_r _ [42, 28, 43, 44, 45, 46, 47, 26, 48, 49, 50, 51, 52, 53, 54, 36, 55, 56, 57, 58, 59, 60, 61, 62, 63, 64, 65, 66, 29, 67, 68, 69, 70, 71, 72, 73, 74, 30, 31, 32, 11, 33, 13, 34, 35, 37, 38, 75, 20, 21, 22, 76, 77, 78, 79, 80, 81, 82, 83, 84, 85, 86, 87, 88, 89, 90, 91, 92, 93, 94, 95, 24, 25, 27, 96, 97, 98, 99, 100, 101, 102, 103, 104, 129, 130, 131, 132, 133, 134, 135, 136, 137, 138, 139, 140, 141, 142, 143, 144, 145, 146, 147, 148, 149, 150, 151, 152, 153] (by decide +kernel) (by decide +kernel)
set_option maxRecDepth 20000 in
theorem gX0_weighWays_X6_worthAt : GoodIn wsX0_weighWays (wsV RX0 94 RX6 yX6_worthAt wsX6_worthAt) := goodIn_app (goodIn_of _ (by decide +kernel)) ggX0_weighWays_X6_worthAt
theorem dX0_weighWays_0 : decode cX0_weighWays 0 = .ok (.iconst 0, 1) := by decide +kernel
theorem dX0_weighWays_1 : decode cX0_weighWays 1 = .ok (.istore 6, 2) := by decide +kernel
theorem dX0_weighWays_3 : decode cX0_weighWays 3 = .ok (.iload 6, 2) := by decide +kernel
theorem dX0_weighWays_5 : decode cX0_weighWays 5 = .ok (.iconst 5, 1) := by decide +kernel
theorem dX0_weighWays_6 : decode cX0_weighWays 6 = .ok (.if_icmp .ge 117, 3) := by decide +kernel
theorem dX0_weighWays_9 : decode cX0_weighWays 9 = .ok (.aload_n 1, 1) := by decide +kernel
theorem dX0_weighWays_10 : decode cX0_weighWays 10 = .ok (.getfield 43, 3) := by decide +kernel
theorem dX0_weighWays_13 : decode cX0_weighWays 13 = .ok (.aload_n 2, 1) := by decide +kernel
theorem dX0_weighWays_14 : decode cX0_weighWays 14 = .ok (.getfield 81, 3) := by decide +kernel
theorem dX0_weighWays_17 : decode cX0_weighWays 17 = .ok (.iload_n 3, 1) := by decide +kernel
theorem dX0_weighWays_18 : decode cX0_weighWays 18 = .ok (.iaload, 1) := by decide +kernel
theorem dX0_weighWays_19 : decode cX0_weighWays 19 = .ok (.getstatic 84, 3) := by decide +kernel
theorem dX0_weighWays_22 : decode cX0_weighWays 22 = .ok (.iload 6, 2) := by decide +kernel
theorem dX0_weighWays_24 : decode cX0_weighWays 24 = .ok (.iaload, 1) := by decide +kernel
theorem dX0_weighWays_25 : decode cX0_weighWays 25 = .ok (.invokevirtual 87, 3) := by decide +kernel
theorem dX0_weighWays_28 : decode cX0_weighWays 28 = .ok (.istore 7, 2) := by decide +kernel
theorem dX0_weighWays_30 : decode cX0_weighWays 30 = .ok (.aload_n 0, 1) := by decide +kernel
theorem dX0_weighWays_31 : decode cX0_weighWays 31 = .ok (.getfield 9, 3) := by decide +kernel
theorem dX0_weighWays_34 : decode cX0_weighWays 34 = .ok (.iload 4, 2) := by decide +kernel
theorem dX0_weighWays_36 : decode cX0_weighWays 36 = .ok (.iload 6, 2) := by decide +kernel
theorem dX0_weighWays_38 : decode cX0_weighWays 38 = .ok (.iadd, 1) := by decide +kernel
theorem dX0_weighWays_39 : decode cX0_weighWays 39 = .ok (.iload 7, 2) := by decide +kernel
theorem dX0_weighWays_41 : decode cX0_weighWays 41 = .ok (.iastore, 1) := by decide +kernel
theorem dX0_weighWays_42 : decode cX0_weighWays 42 = .ok (.iload 5, 2) := by decide +kernel
theorem dX0_weighWays_44 : decode cX0_weighWays 44 = .ok (.istore 8, 2) := by decide +kernel
theorem dX0_weighWays_46 : decode cX0_weighWays 46 = .ok (.iload 7, 2) := by decide +kernel
theorem dX0_weighWays_48 : decode cX0_weighWays 48 = .ok (.iconst (-1), 1) := by decide +kernel
theorem dX0_weighWays_49 : decode cX0_weighWays 49 = .ok (.if_icmp .eq 68, 3) := by decide +kernel
theorem dX0_weighWays_52 : decode cX0_weighWays 52 = .ok (.iload 8, 2) := by decide +kernel
theorem dX0_weighWays_54 : decode cX0_weighWays 54 = .ok (.aload_n 1, 1) := by decide +kernel
theorem dX0_weighWays_55 : decode cX0_weighWays 55 = .ok (.getfield 43, 3) := by decide +kernel
theorem dX0_weighWays_58 : decode cX0_weighWays 58 = .ok (.getfield 49, 3) := by decide +kernel
theorem dX0_weighWays_61 : decode cX0_weighWays 61 = .ok (.getfield 71, 3) := by decide +kernel
theorem dX0_weighWays_64 : decode cX0_weighWays 64 = .ok (.if_icmp .ge 53, 3) := by decide +kernel
theorem dX0_weighWays_67 : decode cX0_weighWays 67 = .ok (.iload 4, 2) := by decide +kernel
theorem dX0_weighWays_69 : decode cX0_weighWays 69 = .ok (.iload 6, 2) := by decide +kernel
theorem dX0_weighWays_71 : decode cX0_weighWays 71 = .ok (.iadd, 1) := by decide +kernel
theorem dX0_weighWays_72 : decode cX0_weighWays 72 = .ok (.bipush 28, 2) := by decide +kernel
theorem dX0_weighWays_74 : decode cX0_weighWays 74 = .ok (.imul, 1) := by decide +kernel
theorem dX0_weighWays_75 : decode cX0_weighWays 75 = .ok (.iload 8, 2) := by decide +kernel
theorem dX0_weighWays_77 : decode cX0_weighWays 77 = .ok (.iadd, 1) := by decide +kernel
theorem dX0_weighWays_78 : decode cX0_weighWays 78 = .ok (.istore 9, 2) := by decide +kernel
theorem dX0_weighWays_80 : decode cX0_weighWays 80 = .ok (.aload_n 0, 1) := by decide +kernel
theorem dX0_weighWays_81 : decode cX0_weighWays 81 = .ok (.getfield 15, 3) := by decide +kernel
theorem dX0_weighWays_84 : decode cX0_weighWays 84 = .ok (.iload 9, 2) := by decide +kernel
theorem dX0_weighWays_86 : decode cX0_weighWays 86 = .ok (.aload_n 1, 1) := by decide +kernel
theorem dX0_weighWays_87 : decode cX0_weighWays 87 = .ok (.iload 7, 2) := by decide +kernel
theorem dX0_weighWays_89 : decode cX0_weighWays 89 = .ok (.iload 8, 2) := by decide +kernel
theorem dX0_weighWays_91 : decode cX0_weighWays 91 = .ok (.invokevirtual 91, 3) := by decide +kernel
theorem dX0_weighWays_94 : decode cX0_weighWays 94 = .ok (.iastore, 1) := by decide +kernel
theorem dX0_weighWays_95 : decode cX0_weighWays 95 = .ok (.aload_n 0, 1) := by decide +kernel
theorem dX0_weighWays_96 : decode cX0_weighWays 96 = .ok (.getfield 18, 3) := by decide +kernel
theorem dX0_weighWays_99 : decode cX0_weighWays 99 = .ok (.iload 9, 2) := by decide +kernel
theorem dX0_weighWays_101 : decode cX0_weighWays 101 = .ok (.aload_n 1, 1) := by decide +kernel
theorem dX0_weighWays_102 : decode cX0_weighWays 102 = .ok (.iload_n 3, 1) := by decide +kernel
theorem dX0_weighWays_103 : decode cX0_weighWays 103 = .ok (.iload 8, 2) := by decide +kernel
theorem dX0_weighWays_105 : decode cX0_weighWays 105 = .ok (.iload 7, 2) := by decide +kernel
theorem dX0_weighWays_107 : decode cX0_weighWays 107 = .ok (.invokevirtual 94, 3) := by decide +kernel
theorem dX0_weighWays_110 : decode cX0_weighWays 110 = .ok (.iastore, 1) := by decide +kernel
theorem dX0_weighWays_111 : decode cX0_weighWays 111 = .ok (.iinc 8 1, 3) := by decide +kernel
theorem dX0_weighWays_114 : decode cX0_weighWays 114 = .ok (.goto (-68), 3) := by decide +kernel
theorem dX0_weighWays_117 : decode cX0_weighWays 117 = .ok (.iinc 6 1, 3) := by decide +kernel
theorem dX0_weighWays_120 : decode cX0_weighWays 120 = .ok (.goto (-117), 3) := by decide +kernel
theorem dX0_weighWays_123 : decode cX0_weighWays 123 = .ok (.return_, 1) := by decide +kernel
theorem dX0_sharePair_0 : decode cX0_sharePair 0 = .ok (.iconst 0, 1) := by decide +kernel
theorem dX0_sharePair_1 : decode cX0_sharePair 1 = .ok (.istore 6, 2) := by decide +kernel
theorem dX0_sharePair_3 : decode cX0_sharePair 3 = .ok (.iconst 0, 1) := by decide +kernel
theorem dX0_sharePair_4 : decode cX0_sharePair 4 = .ok (.istore 7, 2) := by decide +kernel
theorem dX0_sharePair_6 : decode cX0_sharePair 6 = .ok (.iload_n 3, 1) := by decide +kernel
theorem dX0_sharePair_7 : decode cX0_sharePair 7 = .ok (.istore 8, 2) := by decide +kernel
theorem dX0_sharePair_9 : decode cX0_sharePair 9 = .ok (.iload 8, 2) := by decide +kernel
theorem dX0_sharePair_11 : decode cX0_sharePair 11 = .ok (.iload 4, 2) := by decide +kernel
theorem dX0_sharePair_13 : decode cX0_sharePair 13 = .ok (.if_icmp .ge 95, 3) := by decide +kernel
theorem dX0_sharePair_16 : decode cX0_sharePair 16 = .ok (.iload_n 1, 1) := by decide +kernel
theorem dX0_sharePair_17 : decode cX0_sharePair 17 = .ok (.bipush 28, 2) := by decide +kernel
theorem dX0_sharePair_19 : decode cX0_sharePair 19 = .ok (.imul, 1) := by decide +kernel
theorem dX0_sharePair_20 : decode cX0_sharePair 20 = .ok (.iload 8, 2) := by decide +kernel
theorem dX0_sharePair_22 : decode cX0_sharePair 22 = .ok (.iadd, 1) := by decide +kernel
theorem dX0_sharePair_23 : decode cX0_sharePair 23 = .ok (.istore 9, 2) := by decide +kernel
theorem dX0_sharePair_25 : decode cX0_sharePair 25 = .ok (.iconst 5, 1) := by decide +kernel
theorem dX0_sharePair_26 : decode cX0_sharePair 26 = .ok (.iload_n 2, 1) := by decide +kernel
theorem dX0_sharePair_27 : decode cX0_sharePair 27 = .ok (.iadd, 1) := by decide +kernel
theorem dX0_sharePair_28 : decode cX0_sharePair 28 = .ok (.bipush 28, 2) := by decide +kernel
theorem dX0_sharePair_30 : decode cX0_sharePair 30 = .ok (.imul, 1) := by decide +kernel
theorem dX0_sharePair_31 : decode cX0_sharePair 31 = .ok (.iload 8, 2) := by decide +kernel
theorem dX0_sharePair_33 : decode cX0_sharePair 33 = .ok (.iadd, 1) := by decide +kernel
theorem dX0_sharePair_34 : decode cX0_sharePair 34 = .ok (.istore 10, 2) := by decide +kernel
theorem dX0_sharePair_36 : decode cX0_sharePair 36 = .ok (.aload_n 0, 1) := by decide +kernel
theorem dX0_sharePair_37 : decode cX0_sharePair 37 = .ok (.getfield 15, 3) := by decide +kernel
theorem dX0_sharePair_40 : decode cX0_sharePair 40 = .ok (.iload 9, 2) := by decide +kernel
theorem dX0_sharePair_42 : decode cX0_sharePair 42 = .ok (.iaload, 1) := by decide +kernel
theorem dX0_sharePair_43 : decode cX0_sharePair 43 = .ok (.aload_n 0, 1) := by decide +kernel
theorem dX0_sharePair_44 : decode cX0_sharePair 44 = .ok (.getfield 15, 3) := by decide +kernel
theorem dX0_sharePair_47 : decode cX0_sharePair 47 = .ok (.iload 10, 2) := by decide +kernel
theorem dX0_sharePair_49 : decode cX0_sharePair 49 = .ok (.iaload, 1) := by decide +kernel
theorem dX0_sharePair_50 : decode cX0_sharePair 50 = .ok (.if_icmp .lt 25, 3) := by decide +kernel
theorem dX0_sharePair_53 : decode cX0_sharePair 53 = .ok (.aload_n 0, 1) := by decide +kernel
theorem dX0_sharePair_54 : decode cX0_sharePair 54 = .ok (.getfield 15, 3) := by decide +kernel
theorem dX0_sharePair_57 : decode cX0_sharePair 57 = .ok (.iload 9, 2) := by decide +kernel
theorem dX0_sharePair_59 : decode cX0_sharePair 59 = .ok (.iaload, 1) := by decide +kernel
theorem dX0_sharePair_60 : decode cX0_sharePair 60 = .ok (.aload_n 0, 1) := by decide +kernel
theorem dX0_sharePair_61 : decode cX0_sharePair 61 = .ok (.getfield 15, 3) := by decide +kernel
theorem dX0_sharePair_64 : decode cX0_sharePair 64 = .ok (.iload 10, 2) := by decide +kernel
theorem dX0_sharePair_66 : decode cX0_sharePair 66 = .ok (.iaload, 1) := by decide +kernel
theorem dX0_sharePair_67 : decode cX0_sharePair 67 = .ok (.if_icmp .ne 23, 3) := by decide +kernel
theorem dX0_sharePair_70 : decode cX0_sharePair 70 = .ok (.iload 5, 2) := by decide +kernel
theorem dX0_sharePair_72 : decode cX0_sharePair 72 = .ok (.ifCond .eq 18, 3) := by decide +kernel
theorem dX0_sharePair_75 : decode cX0_sharePair 75 = .ok (.iload 6, 2) := by decide +kernel
theorem dX0_sharePair_77 : decode cX0_sharePair 77 = .ok (.aload_n 0, 1) := by decide +kernel
theorem dX0_sharePair_78 : decode cX0_sharePair 78 = .ok (.getfield 18, 3) := by decide +kernel
theorem dX0_sharePair_81 : decode cX0_sharePair 81 = .ok (.iload 9, 2) := by decide +kernel
theorem dX0_sharePair_83 : decode cX0_sharePair 83 = .ok (.iaload, 1) := by decide +kernel
theorem dX0_sharePair_84 : decode cX0_sharePair 84 = .ok (.iadd, 1) := by decide +kernel
theorem dX0_sharePair_85 : decode cX0_sharePair 85 = .ok (.istore 6, 2) := by decide +kernel
theorem dX0_sharePair_87 : decode cX0_sharePair 87 = .ok (.goto 15, 3) := by decide +kernel
theorem dX0_sharePair_90 : decode cX0_sharePair 90 = .ok (.iload 7, 2) := by decide +kernel
theorem dX0_sharePair_92 : decode cX0_sharePair 92 = .ok (.aload_n 0, 1) := by decide +kernel
theorem dX0_sharePair_93 : decode cX0_sharePair 93 = .ok (.getfield 18, 3) := by decide +kernel
theorem dX0_sharePair_96 : decode cX0_sharePair 96 = .ok (.iload 10, 2) := by decide +kernel
theorem dX0_sharePair_98 : decode cX0_sharePair 98 = .ok (.iaload, 1) := by decide +kernel
theorem dX0_sharePair_99 : decode cX0_sharePair 99 = .ok (.iadd, 1) := by decide +kernel
theorem dX0_sharePair_100 : decode cX0_sharePair 100 = .ok (.istore 7, 2) := by decide +kernel
theorem dX0_sharePair_102 : decode cX0_sharePair 102 = .ok (.iinc 8 1, 3) := by decide +kernel
theorem dX0_sharePair_105 : decode cX0_sharePair 105 = .ok (.goto (-96), 3) := by decide +kernel
theorem dX0_sharePair_108 : decode cX0_sharePair 108 = .ok (.aload_n 0, 1) := by decide +kernel
theorem dX0_sharePair_109 : decode cX0_sharePair 109 = .ok (.getfield 21, 3) := by decide +kernel
theorem dX0_sharePair_112 : decode cX0_sharePair 112 = .ok (.iload_n 1, 1) := by decide +kernel
theorem dX0_sharePair_113 : decode cX0_sharePair 113 = .ok (.iconst 5, 1) := by decide +kernel
theorem dX0_sharePair_114 : decode cX0_sharePair 114 = .ok (.imul, 1) := by decide +kernel
theorem dX0_sharePair_115 : decode cX0_sharePair 115 = .ok (.iload_n 2, 1) := by decide +kernel
theorem dX0_sharePair_116 : decode cX0_sharePair 116 = .ok (.iadd, 1) := by decide +kernel
theorem dX0_sharePair_117 : decode cX0_sharePair 117 = .ok (.iload 6, 2) := by decide +kernel
theorem dX0_sharePair_119 : decode cX0_sharePair 119 = .ok (.iastore, 1) := by decide +kernel
theorem dX0_sharePair_120 : decode cX0_sharePair 120 = .ok (.aload_n 0, 1) := by decide +kernel
theorem dX0_sharePair_121 : decode cX0_sharePair 121 = .ok (.getfield 24, 3) := by decide +kernel
theorem dX0_sharePair_124 : decode cX0_sharePair 124 = .ok (.iload_n 1, 1) := by decide +kernel
theorem dX0_sharePair_125 : decode cX0_sharePair 125 = .ok (.iconst 5, 1) := by decide +kernel
theorem dX0_sharePair_126 : decode cX0_sharePair 126 = .ok (.imul, 1) := by decide +kernel
theorem dX0_sharePair_127 : decode cX0_sharePair 127 = .ok (.iload_n 2, 1) := by decide +kernel
theorem dX0_sharePair_128 : decode cX0_sharePair 128 = .ok (.iadd, 1) := by decide +kernel
theorem dX0_sharePair_129 : decode cX0_sharePair 129 = .ok (.iload 7, 2) := by decide +kernel
theorem dX0_sharePair_131 : decode cX0_sharePair 131 = .ok (.iastore, 1) := by decide +kernel
theorem dX0_sharePair_132 : decode cX0_sharePair 132 = .ok (.return_, 1) := by decide +kernel
set_option maxRecDepth 20000 in
theorem ggX0_findRests_X0_isRest : GoodIn wsX0_findRests wsX0_isRest := goodIn_r _ [7, 8, 9, 10, 11, 12, 13, 14, 15, 16, 17, 18, 19, 20, 21, 22, 23] (by decide +kernel) (by decide +kernel)
set_option maxRecDepth 20000 in
theorem gX0_findRests_X0_isRest : GoodIn wsX0_findRests (wsV RX0 101 RX0 yX0_isRest wsX0_isRest) := goodIn_app (goodIn_of _ (by decide +kernel)) ggX0_findRests_X0_isRest
theorem dX0_findRests_0 : decode cX0_findRests 0 = .ok (.aload_n 0, 1) := by decide +kernel
theorem dX0_findRests_1 : decode cX0_findRests 1 = .ok (.iconst 0, 1) := by decide +kernel
theorem dX0_findRests_2 : decode cX0_findRests 2 = .ok (.putfield 98, 3) := by decide +kernel
theorem dX0_findRests_5 : decode cX0_findRests 5 = .ok (.iconst 0, 1) := by decide +kernel
theorem dX0_findRests_6 : decode cX0_findRests 6 = .ok (.istore_n 1, 1) := by decide +kernel
theorem dX0_findRests_7 : decode cX0_findRests 7 = .ok (.iload_n 1, 1) := by decide +kernel
theorem dX0_findRests_8 : decode cX0_findRests 8 = .ok (.iconst 5, 1) := by decide +kernel
theorem dX0_findRests_9 : decode cX0_findRests 9 = .ok (.if_icmp .ge 64, 3) := by decide +kernel
theorem dX0_findRests_12 : decode cX0_findRests 12 = .ok (.iconst 0, 1) := by decide +kernel
theorem dX0_findRests_13 : decode cX0_findRests 13 = .ok (.istore_n 2, 1) := by decide +kernel
theorem dX0_findRests_14 : decode cX0_findRests 14 = .ok (.iload_n 2, 1) := by decide +kernel
theorem dX0_findRests_15 : decode cX0_findRests 15 = .ok (.iconst 5, 1) := by decide +kernel
theorem dX0_findRests_16 : decode cX0_findRests 16 = .ok (.if_icmp .ge 51, 3) := by decide +kernel
theorem dX0_findRests_19 : decode cX0_findRests 19 = .ok (.aload_n 0, 1) := by decide +kernel
theorem dX0_findRests_20 : decode cX0_findRests 20 = .ok (.iload_n 1, 1) := by decide +kernel
theorem dX0_findRests_21 : decode cX0_findRests 21 = .ok (.iload_n 2, 1) := by decide +kernel
theorem dX0_findRests_22 : decode cX0_findRests 22 = .ok (.invokevirtual 101, 3) := by decide +kernel
theorem dX0_findRests_25 : decode cX0_findRests 25 = .ok (.ifCond .eq 36, 3) := by decide +kernel
theorem dX0_findRests_28 : decode cX0_findRests 28 = .ok (.aload_n 0, 1) := by decide +kernel
theorem dX0_findRests_29 : decode cX0_findRests 29 = .ok (.getfield 27, 3) := by decide +kernel
theorem dX0_findRests_32 : decode cX0_findRests 32 = .ok (.aload_n 0, 1) := by decide +kernel
theorem dX0_findRests_33 : decode cX0_findRests 33 = .ok (.getfield 98, 3) := by decide +kernel
theorem dX0_findRests_36 : decode cX0_findRests 36 = .ok (.bipush 10, 2) := by decide +kernel
theorem dX0_findRests_38 : decode cX0_findRests 38 = .ok (.getstatic 84, 3) := by decide +kernel
theorem dX0_findRests_41 : decode cX0_findRests 41 = .ok (.iload_n 1, 1) := by decide +kernel
theorem dX0_findRests_42 : decode cX0_findRests 42 = .ok (.iaload, 1) := by decide +kernel
theorem dX0_findRests_43 : decode cX0_findRests 43 = .ok (.imul, 1) := by decide +kernel
theorem dX0_findRests_44 : decode cX0_findRests 44 = .ok (.getstatic 84, 3) := by decide +kernel
theorem dX0_findRests_47 : decode cX0_findRests 47 = .ok (.iload_n 2, 1) := by decide +kernel
theorem dX0_findRests_48 : decode cX0_findRests 48 = .ok (.iaload, 1) := by decide +kernel
theorem dX0_findRests_49 : decode cX0_findRests 49 = .ok (.iadd, 1) := by decide +kernel
theorem dX0_findRests_50 : decode cX0_findRests 50 = .ok (.iastore, 1) := by decide +kernel
theorem dX0_findRests_51 : decode cX0_findRests 51 = .ok (.aload_n 0, 1) := by decide +kernel
theorem dX0_findRests_52 : decode cX0_findRests 52 = .ok (.dup, 1) := by decide +kernel
theorem dX0_findRests_53 : decode cX0_findRests 53 = .ok (.getfield 98, 3) := by decide +kernel
theorem dX0_findRests_56 : decode cX0_findRests 56 = .ok (.iconst 1, 1) := by decide +kernel
theorem dX0_findRests_57 : decode cX0_findRests 57 = .ok (.iadd, 1) := by decide +kernel
theorem dX0_findRests_58 : decode cX0_findRests 58 = .ok (.putfield 98, 3) := by decide +kernel
theorem dX0_findRests_61 : decode cX0_findRests 61 = .ok (.iinc 2 1, 3) := by decide +kernel
theorem dX0_findRests_64 : decode cX0_findRests 64 = .ok (.goto (-50), 3) := by decide +kernel
theorem dX0_findRests_67 : decode cX0_findRests 67 = .ok (.iinc 1 1, 3) := by decide +kernel
theorem dX0_findRests_70 : decode cX0_findRests 70 = .ok (.goto (-63), 3) := by decide +kernel
theorem dX0_findRests_73 : decode cX0_findRests 73 = .ok (.return_, 1) := by decide +kernel
theorem dX0_isRest_0 : decode cX0_isRest 0 = .ok (.aload_n 0, 1) := by decide +kernel
theorem dX0_isRest_1 : decode cX0_isRest 1 = .ok (.getfield 9, 3) := by decide +kernel
theorem dX0_isRest_4 : decode cX0_isRest 4 = .ok (.iload_n 1, 1) := by decide +kernel
theorem dX0_isRest_5 : decode cX0_isRest 5 = .ok (.iaload, 1) := by decide +kernel
theorem dX0_isRest_6 : decode cX0_isRest 6 = .ok (.iconst (-1), 1) := by decide +kernel
theorem dX0_isRest_7 : decode cX0_isRest 7 = .ok (.if_icmp .eq 15, 3) := by decide +kernel
theorem dX0_isRest_10 : decode cX0_isRest 10 = .ok (.aload_n 0, 1) := by decide +kernel
theorem dX0_isRest_11 : decode cX0_isRest 11 = .ok (.getfield 9, 3) := by decide +kernel
theorem dX0_isRest_14 : decode cX0_isRest 14 = .ok (.iconst 5, 1) := by decide +kernel
theorem dX0_isRest_15 : decode cX0_isRest 15 = .ok (.iload_n 2, 1) := by decide +kernel
theorem dX0_isRest_16 : decode cX0_isRest 16 = .ok (.iadd, 1) := by decide +kernel
theorem dX0_isRest_17 : decode cX0_isRest 17 = .ok (.iaload, 1) := by decide +kernel
theorem dX0_isRest_18 : decode cX0_isRest 18 = .ok (.iconst (-1), 1) := by decide +kernel
theorem dX0_isRest_19 : decode cX0_isRest 19 = .ok (.if_icmp .ne 5, 3) := by decide +kernel
theorem dX0_isRest_22 : decode cX0_isRest 22 = .ok (.iconst 0, 1) := by decide +kernel
theorem dX0_isRest_23 : decode cX0_isRest 23 = .ok (.ireturn, 1) := by decide +kernel
theorem dX0_isRest_24 : decode cX0_isRest 24 = .ok (.iconst 0, 1) := by decide +kernel
theorem dX0_isRest_25 : decode cX0_isRest 25 = .ok (.istore_n 3, 1) := by decide +kernel
theorem dX0_isRest_26 : decode cX0_isRest 26 = .ok (.iload_n 3, 1) := by decide +kernel
theorem dX0_isRest_27 : decode cX0_isRest 27 = .ok (.iconst 5, 1) := by decide +kernel
theorem dX0_isRest_28 : decode cX0_isRest 28 = .ok (.if_icmp .ge 81, 3) := by decide +kernel
theorem dX0_isRest_31 : decode cX0_isRest 31 = .ok (.aload_n 0, 1) := by decide +kernel
theorem dX0_isRest_32 : decode cX0_isRest 32 = .ok (.getfield 9, 3) := by decide +kernel
theorem dX0_isRest_35 : decode cX0_isRest 35 = .ok (.iload_n 3, 1) := by decide +kernel
theorem dX0_isRest_36 : decode cX0_isRest 36 = .ok (.iaload, 1) := by decide +kernel
theorem dX0_isRest_37 : decode cX0_isRest 37 = .ok (.iconst (-1), 1) := by decide +kernel
theorem dX0_isRest_38 : decode cX0_isRest 38 = .ok (.if_icmp .eq 28, 3) := by decide +kernel
theorem dX0_isRest_41 : decode cX0_isRest 41 = .ok (.aload_n 0, 1) := by decide +kernel
theorem dX0_isRest_42 : decode cX0_isRest 42 = .ok (.getfield 21, 3) := by decide +kernel
theorem dX0_isRest_45 : decode cX0_isRest 45 = .ok (.iload_n 3, 1) := by decide +kernel
theorem dX0_isRest_46 : decode cX0_isRest 46 = .ok (.iconst 5, 1) := by decide +kernel
theorem dX0_isRest_47 : decode cX0_isRest 47 = .ok (.imul, 1) := by decide +kernel
theorem dX0_isRest_48 : decode cX0_isRest 48 = .ok (.iload_n 2, 1) := by decide +kernel
theorem dX0_isRest_49 : decode cX0_isRest 49 = .ok (.iadd, 1) := by decide +kernel
theorem dX0_isRest_50 : decode cX0_isRest 50 = .ok (.iaload, 1) := by decide +kernel
theorem dX0_isRest_51 : decode cX0_isRest 51 = .ok (.aload_n 0, 1) := by decide +kernel
theorem dX0_isRest_52 : decode cX0_isRest 52 = .ok (.getfield 21, 3) := by decide +kernel
theorem dX0_isRest_55 : decode cX0_isRest 55 = .ok (.iload_n 1, 1) := by decide +kernel
theorem dX0_isRest_56 : decode cX0_isRest 56 = .ok (.iconst 5, 1) := by decide +kernel
theorem dX0_isRest_57 : decode cX0_isRest 57 = .ok (.imul, 1) := by decide +kernel
theorem dX0_isRest_58 : decode cX0_isRest 58 = .ok (.iload_n 2, 1) := by decide +kernel
theorem dX0_isRest_59 : decode cX0_isRest 59 = .ok (.iadd, 1) := by decide +kernel
theorem dX0_isRest_60 : decode cX0_isRest 60 = .ok (.iaload, 1) := by decide +kernel
theorem dX0_isRest_61 : decode cX0_isRest 61 = .ok (.if_icmp .le 5, 3) := by decide +kernel
theorem dX0_isRest_64 : decode cX0_isRest 64 = .ok (.iconst 0, 1) := by decide +kernel
theorem dX0_isRest_65 : decode cX0_isRest 65 = .ok (.ireturn, 1) := by decide +kernel
theorem dX0_isRest_66 : decode cX0_isRest 66 = .ok (.aload_n 0, 1) := by decide +kernel
theorem dX0_isRest_67 : decode cX0_isRest 67 = .ok (.getfield 9, 3) := by decide +kernel
theorem dX0_isRest_70 : decode cX0_isRest 70 = .ok (.iconst 5, 1) := by decide +kernel
theorem dX0_isRest_71 : decode cX0_isRest 71 = .ok (.iload_n 3, 1) := by decide +kernel
theorem dX0_isRest_72 : decode cX0_isRest 72 = .ok (.iadd, 1) := by decide +kernel
theorem dX0_isRest_73 : decode cX0_isRest 73 = .ok (.iaload, 1) := by decide +kernel
theorem dX0_isRest_74 : decode cX0_isRest 74 = .ok (.iconst (-1), 1) := by decide +kernel
theorem dX0_isRest_75 : decode cX0_isRest 75 = .ok (.if_icmp .eq 28, 3) := by decide +kernel
theorem dX0_isRest_78 : decode cX0_isRest 78 = .ok (.aload_n 0, 1) := by decide +kernel
theorem dX0_isRest_79 : decode cX0_isRest 79 = .ok (.getfield 24, 3) := by decide +kernel
theorem dX0_isRest_82 : decode cX0_isRest 82 = .ok (.iload_n 1, 1) := by decide +kernel
theorem dX0_isRest_83 : decode cX0_isRest 83 = .ok (.iconst 5, 1) := by decide +kernel
theorem dX0_isRest_84 : decode cX0_isRest 84 = .ok (.imul, 1) := by decide +kernel
theorem dX0_isRest_85 : decode cX0_isRest 85 = .ok (.iload_n 3, 1) := by decide +kernel
theorem dX0_isRest_86 : decode cX0_isRest 86 = .ok (.iadd, 1) := by decide +kernel
theorem dX0_isRest_87 : decode cX0_isRest 87 = .ok (.iaload, 1) := by decide +kernel
theorem dX0_isRest_88 : decode cX0_isRest 88 = .ok (.aload_n 0, 1) := by decide +kernel
theorem dX0_isRest_89 : decode cX0_isRest 89 = .ok (.getfield 24, 3) := by decide +kernel
theorem dX0_isRest_92 : decode cX0_isRest 92 = .ok (.iload_n 1, 1) := by decide +kernel
theorem dX0_isRest_93 : decode cX0_isRest 93 = .ok (.iconst 5, 1) := by decide +kernel
theorem dX0_isRest_94 : decode cX0_isRest 94 = .ok (.imul, 1) := by decide +kernel
theorem dX0_isRest_95 : decode cX0_isRest 95 = .ok (.iload_n 2, 1) := by decide +kernel
theorem dX0_isRest_96 : decode cX0_isRest 96 = .ok (.iadd, 1) := by decide +kernel
theorem dX0_isRest_97 : decode cX0_isRest 97 = .ok (.iaload, 1) := by decide +kernel
theorem dX0_isRest_98 : decode cX0_isRest 98 = .ok (.if_icmp .le 5, 3) := by decide +kernel
theorem dX0_isRest_101 : decode cX0_isRest 101 = .ok (.iconst 0, 1) := by decide +kernel
theorem dX0_isRest_102 : decode cX0_isRest 102 = .ok (.ireturn, 1) := by decide +kernel
theorem dX0_isRest_103 : decode cX0_isRest 103 = .ok (.iinc 3 1, 3) := by decide +kernel
theorem dX0_isRest_106 : decode cX0_isRest 106 = .ok (.goto (-80), 3) := by decide +kernel
theorem dX0_isRest_109 : decode cX0_isRest 109 = .ok (.iconst 1, 1) := by decide +kernel
theorem dX0_isRest_110 : decode cX0_isRest 110 = .ok (.ireturn, 1) := by decide +kernel
set_option maxRecDepth 20000 in
theorem ggX0_makePlan_X10_firstFrom : GoodIn wsX0_makePlan wsX10_firstFrom := goodIn_r _ [19, 20, 21, 155, 156, 157, 158, 159, 160, 161, 162] (by decide +kernel) (by decide +kernel)
set_option maxRecDepth 20000 in
theorem gX0_makePlan_X10_firstFrom : GoodIn wsX0_makePlan (wsV RX0 61 RX10 yX10_firstFrom wsX10_firstFrom) := goodIn_app (goodIn_of _ (by decide +kernel)) ggX0_makePlan_X10_firstFrom
set_option maxRecDepth 20000 in
theorem ggX0_makePlan_X6_awayFor : GoodIn wsX0_makePlan wsX6_awayFor := goodIn_r _ [26, 27, 28, 29, 30, 31, 32, 33, 34, 12, 35, 36, 37, 38, 39, 40, 41, 25, 42, 43, 44, 45, 46, 47, 48, 49, 50, 51, 52, 53, 54, 55, 56, 57, 58, 59, 60, 61, 62, 63, 64, 65, 66, 108, 109, 110, 111, 112, 113, 114, 115, 116, 117, 118, 119, 120, 121, 122, 123, 124, 125, 126, 127, 128, 129, 130, 155, 156, 157, 158, 159, 160, 161, 162, 163, 164, 165] (by decide +kernel) (by decide +kernel)
set_option maxRecDepth 20000 in
theorem gX0_makePlan_X6_awayFor : GoodIn wsX0_makePlan (wsV RX0 107 RX6 yX6_awayFor wsX6_awayFor) := goodIn_app (goodIn_of _ (by decide +kernel)) ggX0_makePlan_X6_awayFor
set_option maxRecDepth 20000 in
theorem ggX0_makePlan_X6_worthAt : GoodIn wsX0_makePlan wsX6_worthAt := goodIn_r _ [70, 27, 44, 45, 71, 72, 73, 25, 74, 28, 29, 30, 31, 75, 11, 12, 13, 76, 33, 34, 35, 36, 37, 38, 77, 78, 79, 80, 81, 82, 39, 40, 41, 42, 43, 46, 47, 83, 84, 85, 86, 87, 88, 89, 90, 91, 92, 93, 94, 95, 96, 48, 49, 50, 51, 52, 53, 54, 55, 56, 57, 58, 59, 60, 61, 62, 63, 64, 65, 66, 97, 98, 99, 100, 108, 109, 110, 111, 112, 113, 114, 115, 116, 117, 118, 119, 120, 121, 122, 123, 124, 125, 126, 127, 128, 129, 130, 155, 156, 157, 158, 159, 160, 161, 162, 163, 164, 165] (by decide +kernel) (by decide +kernel)
set_option maxRecDepth 20000 in
theorem gX0_makePlan_X6_worthAt : GoodIn wsX0_makePlan (wsV RX0 94 RX6 yX6_worthAt wsX6_worthAt) := goodIn_app (goodIn_of _ (by decide +kernel)) ggX0_makePlan_X6_worthAt
set_option maxRecDepth 20000 in
theorem ggX0_makePlan_X0_listPlan : GoodIn wsX0_makePlan wsX0_listPlan := goodIn_r _ [105, 106, 9, 107, 6, 142, 143, 144, 145, 146, 147, 148, 149, 150, 151, 152, 153, 154] (by decide +kernel) (by decide +kernel)
set_option maxRecDepth 20000 in
theorem gX0_makePlan_X0_listPlan : GoodIn wsX0_makePlan (wsV RX0 118 RX0 yX0_listPlan wsX0_listPlan) := goodIn_app (goodIn_of _ (by decide +kernel)) ggX0_makePlan_X0_listPlan
theorem dX0_makePlan_0 : decode cX0_makePlan 0 = .ok (.aload_n 1, 1) := by decide +kernel
theorem dX0_makePlan_1 : decode cX0_makePlan 1 = .ok (.getfield 43, 3) := by decide +kernel
theorem dX0_makePlan_4 : decode cX0_makePlan 4 = .ok (.getfield 49, 3) := by decide +kernel
theorem dX0_makePlan_7 : decode cX0_makePlan 7 = .ok (.astore 4, 2) := by decide +kernel
theorem dX0_makePlan_9 : decode cX0_makePlan 9 = .ok (.aload 4, 2) := by decide +kernel
theorem dX0_makePlan_11 : decode cX0_makePlan 11 = .ok (.aload_n 2, 1) := by decide +kernel
theorem dX0_makePlan_12 : decode cX0_makePlan 12 = .ok (.getfield 55, 3) := by decide +kernel
theorem dX0_makePlan_15 : decode cX0_makePlan 15 = .ok (.invokevirtual 61, 3) := by decide +kernel
theorem dX0_makePlan_18 : decode cX0_makePlan 18 = .ok (.istore 5, 2) := by decide +kernel
theorem dX0_makePlan_20 : decode cX0_makePlan 20 = .ok (.aload_n 0, 1) := by decide +kernel
theorem dX0_makePlan_21 : decode cX0_makePlan 21 = .ok (.getfield 30, 3) := by decide +kernel
theorem dX0_makePlan_24 : decode cX0_makePlan 24 = .ok (.aload 4, 2) := by decide +kernel
theorem dX0_makePlan_26 : decode cX0_makePlan 26 = .ok (.getfield 71, 3) := by decide +kernel
theorem dX0_makePlan_29 : decode cX0_makePlan 29 = .ok (.iconst 0, 1) := by decide +kernel
theorem dX0_makePlan_30 : decode cX0_makePlan 30 = .ok (.iastore, 1) := by decide +kernel
theorem dX0_makePlan_31 : decode cX0_makePlan 31 = .ok (.aload 4, 2) := by decide +kernel
theorem dX0_makePlan_33 : decode cX0_makePlan 33 = .ok (.getfield 71, 3) := by decide +kernel
theorem dX0_makePlan_36 : decode cX0_makePlan 36 = .ok (.iconst 1, 1) := by decide +kernel
theorem dX0_makePlan_37 : decode cX0_makePlan 37 = .ok (.isub, 1) := by decide +kernel
theorem dX0_makePlan_38 : decode cX0_makePlan 38 = .ok (.istore 6, 2) := by decide +kernel
theorem dX0_makePlan_40 : decode cX0_makePlan 40 = .ok (.iload 6, 2) := by decide +kernel
theorem dX0_makePlan_42 : decode cX0_makePlan 42 = .ok (.iload 5, 2) := by decide +kernel
theorem dX0_makePlan_44 : decode cX0_makePlan 44 = .ok (.if_icmp .lt 112, 3) := by decide +kernel
theorem dX0_makePlan_47 : decode cX0_makePlan 47 = .ok (.aload_n 0, 1) := by decide +kernel
theorem dX0_makePlan_48 : decode cX0_makePlan 48 = .ok (.getfield 33, 3) := by decide +kernel
theorem dX0_makePlan_51 : decode cX0_makePlan 51 = .ok (.iload 6, 2) := by decide +kernel
theorem dX0_makePlan_53 : decode cX0_makePlan 53 = .ok (.aload 4, 2) := by decide +kernel
theorem dX0_makePlan_55 : decode cX0_makePlan 55 = .ok (.aload 4, 2) := by decide +kernel
theorem dX0_makePlan_57 : decode cX0_makePlan 57 = .ok (.getfield 105, 3) := by decide +kernel
theorem dX0_makePlan_60 : decode cX0_makePlan 60 = .ok (.iload 6, 2) := by decide +kernel
theorem dX0_makePlan_62 : decode cX0_makePlan 62 = .ok (.iaload, 1) := by decide +kernel
theorem dX0_makePlan_63 : decode cX0_makePlan 63 = .ok (.aload_n 1, 1) := by decide +kernel
theorem dX0_makePlan_64 : decode cX0_makePlan 64 = .ok (.iload_n 3, 1) := by decide +kernel
theorem dX0_makePlan_65 : decode cX0_makePlan 65 = .ok (.iload 6, 2) := by decide +kernel
theorem dX0_makePlan_67 : decode cX0_makePlan 67 = .ok (.invokevirtual 107, 3) := by decide +kernel
theorem dX0_makePlan_70 : decode cX0_makePlan 70 = .ok (.iadd, 1) := by decide +kernel
theorem dX0_makePlan_71 : decode cX0_makePlan 71 = .ok (.invokevirtual 61, 3) := by decide +kernel
theorem dX0_makePlan_74 : decode cX0_makePlan 74 = .ok (.iastore, 1) := by decide +kernel
theorem dX0_makePlan_75 : decode cX0_makePlan 75 = .ok (.aload_n 1, 1) := by decide +kernel
theorem dX0_makePlan_76 : decode cX0_makePlan 76 = .ok (.iload_n 3, 1) := by decide +kernel
theorem dX0_makePlan_77 : decode cX0_makePlan 77 = .ok (.iload 6, 2) := by decide +kernel
theorem dX0_makePlan_79 : decode cX0_makePlan 79 = .ok (.aload_n 2, 1) := by decide +kernel
theorem dX0_makePlan_80 : decode cX0_makePlan 80 = .ok (.getfield 81, 3) := by decide +kernel
theorem dX0_makePlan_83 : decode cX0_makePlan 83 = .ok (.iload_n 3, 1) := by decide +kernel
theorem dX0_makePlan_84 : decode cX0_makePlan 84 = .ok (.iaload, 1) := by decide +kernel
theorem dX0_makePlan_85 : decode cX0_makePlan 85 = .ok (.invokevirtual 94, 3) := by decide +kernel
theorem dX0_makePlan_88 : decode cX0_makePlan 88 = .ok (.aload_n 0, 1) := by decide +kernel
theorem dX0_makePlan_89 : decode cX0_makePlan 89 = .ok (.getfield 30, 3) := by decide +kernel
theorem dX0_makePlan_92 : decode cX0_makePlan 92 = .ok (.aload_n 0, 1) := by decide +kernel
theorem dX0_makePlan_93 : decode cX0_makePlan 93 = .ok (.getfield 33, 3) := by decide +kernel
theorem dX0_makePlan_96 : decode cX0_makePlan 96 = .ok (.iload 6, 2) := by decide +kernel
theorem dX0_makePlan_98 : decode cX0_makePlan 98 = .ok (.iaload, 1) := by decide +kernel
theorem dX0_makePlan_99 : decode cX0_makePlan 99 = .ok (.iaload, 1) := by decide +kernel
theorem dX0_makePlan_100 : decode cX0_makePlan 100 = .ok (.iadd, 1) := by decide +kernel
theorem dX0_makePlan_101 : decode cX0_makePlan 101 = .ok (.istore 7, 2) := by decide +kernel
theorem dX0_makePlan_103 : decode cX0_makePlan 103 = .ok (.aload_n 0, 1) := by decide +kernel
theorem dX0_makePlan_104 : decode cX0_makePlan 104 = .ok (.getfield 36, 3) := by decide +kernel
theorem dX0_makePlan_107 : decode cX0_makePlan 107 = .ok (.iload 6, 2) := by decide +kernel
theorem dX0_makePlan_109 : decode cX0_makePlan 109 = .ok (.iload 7, 2) := by decide +kernel
theorem dX0_makePlan_111 : decode cX0_makePlan 111 = .ok (.aload_n 0, 1) := by decide +kernel
theorem dX0_makePlan_112 : decode cX0_makePlan 112 = .ok (.getfield 30, 3) := by decide +kernel
theorem dX0_makePlan_115 : decode cX0_makePlan 115 = .ok (.iload 6, 2) := by decide +kernel
theorem dX0_makePlan_117 : decode cX0_makePlan 117 = .ok (.iconst 1, 1) := by decide +kernel
theorem dX0_makePlan_118 : decode cX0_makePlan 118 = .ok (.iadd, 1) := by decide +kernel
theorem dX0_makePlan_119 : decode cX0_makePlan 119 = .ok (.iaload, 1) := by decide +kernel
theorem dX0_makePlan_120 : decode cX0_makePlan 120 = .ok (.if_icmp .lt 7, 3) := by decide +kernel
theorem dX0_makePlan_123 : decode cX0_makePlan 123 = .ok (.iconst 1, 1) := by decide +kernel
theorem dX0_makePlan_124 : decode cX0_makePlan 124 = .ok (.goto 4, 3) := by decide +kernel
theorem dX0_makePlan_127 : decode cX0_makePlan 127 = .ok (.iconst 0, 1) := by decide +kernel
theorem dX0_makePlan_128 : decode cX0_makePlan 128 = .ok (.bastore, 1) := by decide +kernel
theorem dX0_makePlan_129 : decode cX0_makePlan 129 = .ok (.aload_n 0, 1) := by decide +kernel
theorem dX0_makePlan_130 : decode cX0_makePlan 130 = .ok (.getfield 30, 3) := by decide +kernel
theorem dX0_makePlan_133 : decode cX0_makePlan 133 = .ok (.iload 6, 2) := by decide +kernel
theorem dX0_makePlan_135 : decode cX0_makePlan 135 = .ok (.iload 7, 2) := by decide +kernel
theorem dX0_makePlan_137 : decode cX0_makePlan 137 = .ok (.aload_n 0, 1) := by decide +kernel
theorem dX0_makePlan_138 : decode cX0_makePlan 138 = .ok (.getfield 30, 3) := by decide +kernel
theorem dX0_makePlan_141 : decode cX0_makePlan 141 = .ok (.iload 6, 2) := by decide +kernel
theorem dX0_makePlan_143 : decode cX0_makePlan 143 = .ok (.iconst 1, 1) := by decide +kernel
theorem dX0_makePlan_144 : decode cX0_makePlan 144 = .ok (.iadd, 1) := by decide +kernel
theorem dX0_makePlan_145 : decode cX0_makePlan 145 = .ok (.iaload, 1) := by decide +kernel
theorem dX0_makePlan_146 : decode cX0_makePlan 146 = .ok (.invokestatic 110, 3) := by decide +kernel
theorem dX0_makePlan_149 : decode cX0_makePlan 149 = .ok (.iastore, 1) := by decide +kernel
theorem dX0_makePlan_150 : decode cX0_makePlan 150 = .ok (.iinc 6 (-1), 3) := by decide +kernel
theorem dX0_makePlan_153 : decode cX0_makePlan 153 = .ok (.goto (-113), 3) := by decide +kernel
theorem dX0_makePlan_156 : decode cX0_makePlan 156 = .ok (.aload_n 0, 1) := by decide +kernel
theorem dX0_makePlan_157 : decode cX0_makePlan 157 = .ok (.aload_n 0, 1) := by decide +kernel
theorem dX0_makePlan_158 : decode cX0_makePlan 158 = .ok (.getfield 30, 3) := by decide +kernel
theorem dX0_makePlan_161 : decode cX0_makePlan 161 = .ok (.iload 5, 2) := by decide +kernel
theorem dX0_makePlan_163 : decode cX0_makePlan 163 = .ok (.iaload, 1) := by decide +kernel
theorem dX0_makePlan_164 : decode cX0_makePlan 164 = .ok (.putfield 115, 3) := by decide +kernel
theorem dX0_makePlan_167 : decode cX0_makePlan 167 = .ok (.aload_n 0, 1) := by decide +kernel
theorem dX0_makePlan_168 : decode cX0_makePlan 168 = .ok (.iload 5, 2) := by decide +kernel
theorem dX0_makePlan_170 : decode cX0_makePlan 170 = .ok (.aload 4, 2) := by decide +kernel
theorem dX0_makePlan_172 : decode cX0_makePlan 172 = .ok (.getfield 71, 3) := by decide +kernel
theorem dX0_makePlan_175 : decode cX0_makePlan 175 = .ok (.invokevirtual 118, 3) := by decide +kernel
theorem dX0_makePlan_178 : decode cX0_makePlan 178 = .ok (.return_, 1) := by decide +kernel
theorem dX0_listPlan_0 : decode cX0_listPlan 0 = .ok (.aload_n 0, 1) := by decide +kernel
theorem dX0_listPlan_1 : decode cX0_listPlan 1 = .ok (.iconst 0, 1) := by decide +kernel
theorem dX0_listPlan_2 : decode cX0_listPlan 2 = .ok (.putfield 122, 3) := by decide +kernel
theorem dX0_listPlan_5 : decode cX0_listPlan 5 = .ok (.iload_n 1, 1) := by decide +kernel
theorem dX0_listPlan_6 : decode cX0_listPlan 6 = .ok (.istore_n 3, 1) := by decide +kernel
theorem dX0_listPlan_7 : decode cX0_listPlan 7 = .ok (.iload_n 1, 1) := by decide +kernel
theorem dX0_listPlan_8 : decode cX0_listPlan 8 = .ok (.istore 4, 2) := by decide +kernel
theorem dX0_listPlan_10 : decode cX0_listPlan 10 = .ok (.iload 4, 2) := by decide +kernel
theorem dX0_listPlan_12 : decode cX0_listPlan 12 = .ok (.iload_n 2, 1) := by decide +kernel
theorem dX0_listPlan_13 : decode cX0_listPlan 13 = .ok (.if_icmp .ge 54, 3) := by decide +kernel
theorem dX0_listPlan_16 : decode cX0_listPlan 16 = .ok (.iload 4, 2) := by decide +kernel
theorem dX0_listPlan_18 : decode cX0_listPlan 18 = .ok (.iload_n 3, 1) := by decide +kernel
theorem dX0_listPlan_19 : decode cX0_listPlan 19 = .ok (.if_icmp .lt 42, 3) := by decide +kernel
theorem dX0_listPlan_22 : decode cX0_listPlan 22 = .ok (.aload_n 0, 1) := by decide +kernel
theorem dX0_listPlan_23 : decode cX0_listPlan 23 = .ok (.getfield 36, 3) := by decide +kernel
theorem dX0_listPlan_26 : decode cX0_listPlan 26 = .ok (.iload 4, 2) := by decide +kernel
theorem dX0_listPlan_28 : decode cX0_listPlan 28 = .ok (.baload, 1) := by decide +kernel
theorem dX0_listPlan_29 : decode cX0_listPlan 29 = .ok (.ifCond .eq 32, 3) := by decide +kernel
theorem dX0_listPlan_32 : decode cX0_listPlan 32 = .ok (.aload_n 0, 1) := by decide +kernel
theorem dX0_listPlan_33 : decode cX0_listPlan 33 = .ok (.getfield 40, 3) := by decide +kernel
theorem dX0_listPlan_36 : decode cX0_listPlan 36 = .ok (.aload_n 0, 1) := by decide +kernel
theorem dX0_listPlan_37 : decode cX0_listPlan 37 = .ok (.getfield 122, 3) := by decide +kernel
theorem dX0_listPlan_40 : decode cX0_listPlan 40 = .ok (.iload 4, 2) := by decide +kernel
theorem dX0_listPlan_42 : decode cX0_listPlan 42 = .ok (.iastore, 1) := by decide +kernel
theorem dX0_listPlan_43 : decode cX0_listPlan 43 = .ok (.aload_n 0, 1) := by decide +kernel
theorem dX0_listPlan_44 : decode cX0_listPlan 44 = .ok (.dup, 1) := by decide +kernel
theorem dX0_listPlan_45 : decode cX0_listPlan 45 = .ok (.getfield 122, 3) := by decide +kernel
theorem dX0_listPlan_48 : decode cX0_listPlan 48 = .ok (.iconst 1, 1) := by decide +kernel
theorem dX0_listPlan_49 : decode cX0_listPlan 49 = .ok (.iadd, 1) := by decide +kernel
theorem dX0_listPlan_50 : decode cX0_listPlan 50 = .ok (.putfield 122, 3) := by decide +kernel
theorem dX0_listPlan_53 : decode cX0_listPlan 53 = .ok (.aload_n 0, 1) := by decide +kernel
theorem dX0_listPlan_54 : decode cX0_listPlan 54 = .ok (.getfield 33, 3) := by decide +kernel
theorem dX0_listPlan_57 : decode cX0_listPlan 57 = .ok (.iload 4, 2) := by decide +kernel
theorem dX0_listPlan_59 : decode cX0_listPlan 59 = .ok (.iaload, 1) := by decide +kernel
theorem dX0_listPlan_60 : decode cX0_listPlan 60 = .ok (.istore_n 3, 1) := by decide +kernel
theorem dX0_listPlan_61 : decode cX0_listPlan 61 = .ok (.iinc 4 1, 3) := by decide +kernel
theorem dX0_listPlan_64 : decode cX0_listPlan 64 = .ok (.goto (-54), 3) := by decide +kernel
theorem dX0_listPlan_67 : decode cX0_listPlan 67 = .ok (.return_, 1) := by decide +kernel
theorem dX1_init_0 : decode cX1_init 0 = .ok (.aload_n 0, 1) := by decide +kernel
theorem dX1_init_1 : decode cX1_init 1 = .ok (.invokespecial 3, 3) := by decide +kernel
theorem dX1_init_4 : decode cX1_init 4 = .ok (.aload_n 0, 1) := by decide +kernel
theorem dX1_init_5 : decode cX1_init 5 = .ok (.iconst 5, 1) := by decide +kernel
theorem dX1_init_6 : decode cX1_init 6 = .ok (.newarray .int, 2) := by decide +kernel
theorem dX1_init_8 : decode cX1_init 8 = .ok (.putfield 9, 3) := by decide +kernel
theorem dX1_init_11 : decode cX1_init 11 = .ok (.aload_n 0, 1) := by decide +kernel
theorem dX1_init_12 : decode cX1_init 12 = .ok (.iconst 5, 1) := by decide +kernel
theorem dX1_init_13 : decode cX1_init 13 = .ok (.newarray .int, 2) := by decide +kernel
theorem dX1_init_15 : decode cX1_init 15 = .ok (.putfield 15, 3) := by decide +kernel
theorem dX1_init_18 : decode cX1_init 18 = .ok (.aload_n 0, 1) := by decide +kernel
theorem dX1_init_19 : decode cX1_init 19 = .ok (.iconst 5, 1) := by decide +kernel
theorem dX1_init_20 : decode cX1_init 20 = .ok (.newarray .int, 2) := by decide +kernel
theorem dX1_init_22 : decode cX1_init 22 = .ok (.putfield 18, 3) := by decide +kernel
theorem dX1_init_25 : decode cX1_init 25 = .ok (.aload_n 0, 1) := by decide +kernel
theorem dX1_init_26 : decode cX1_init 26 = .ok (.iconst 5, 1) := by decide +kernel
theorem dX1_init_27 : decode cX1_init 27 = .ok (.newarray .int, 2) := by decide +kernel
theorem dX1_init_29 : decode cX1_init 29 = .ok (.putfield 21, 3) := by decide +kernel
theorem dX1_init_32 : decode cX1_init 32 = .ok (.aload_n 0, 1) := by decide +kernel
theorem dX1_init_33 : decode cX1_init 33 = .ok (.iconst 5, 1) := by decide +kernel
theorem dX1_init_34 : decode cX1_init 34 = .ok (.newarray .int, 2) := by decide +kernel
theorem dX1_init_36 : decode cX1_init 36 = .ok (.putfield 24, 3) := by decide +kernel
theorem dX1_init_39 : decode cX1_init 39 = .ok (.aload_n 0, 1) := by decide +kernel
theorem dX1_init_40 : decode cX1_init 40 = .ok (.iconst 5, 1) := by decide +kernel
theorem dX1_init_41 : decode cX1_init 41 = .ok (.newarray .int, 2) := by decide +kernel
theorem dX1_init_43 : decode cX1_init 43 = .ok (.putfield 27, 3) := by decide +kernel
theorem dX1_init_46 : decode cX1_init 46 = .ok (.return_, 1) := by decide +kernel
theorem dX1_hasName_0 : decode cX1_hasName 0 = .ok (.iconst 0, 1) := by decide +kernel
theorem dX1_hasName_1 : decode cX1_hasName 1 = .ok (.istore_n 2, 1) := by decide +kernel
theorem dX1_hasName_2 : decode cX1_hasName 2 = .ok (.iload_n 2, 1) := by decide +kernel
theorem dX1_hasName_3 : decode cX1_hasName 3 = .ok (.aload_n 0, 1) := by decide +kernel
theorem dX1_hasName_4 : decode cX1_hasName 4 = .ok (.getfield 30, 3) := by decide +kernel
theorem dX1_hasName_7 : decode cX1_hasName 7 = .ok (.if_icmp .ge 21, 3) := by decide +kernel
theorem dX1_hasName_10 : decode cX1_hasName 10 = .ok (.aload_n 0, 1) := by decide +kernel
theorem dX1_hasName_11 : decode cX1_hasName 11 = .ok (.getfield 9, 3) := by decide +kernel
theorem dX1_hasName_14 : decode cX1_hasName 14 = .ok (.iload_n 2, 1) := by decide +kernel
theorem dX1_hasName_15 : decode cX1_hasName 15 = .ok (.iaload, 1) := by decide +kernel
theorem dX1_hasName_16 : decode cX1_hasName 16 = .ok (.iload_n 1, 1) := by decide +kernel
theorem dX1_hasName_17 : decode cX1_hasName 17 = .ok (.if_icmp .ne 5, 3) := by decide +kernel
theorem dX1_hasName_20 : decode cX1_hasName 20 = .ok (.iconst 1, 1) := by decide +kernel
theorem dX1_hasName_21 : decode cX1_hasName 21 = .ok (.ireturn, 1) := by decide +kernel
theorem dX1_hasName_22 : decode cX1_hasName 22 = .ok (.iinc 2 1, 3) := by decide +kernel
theorem dX1_hasName_25 : decode cX1_hasName 25 = .ok (.goto (-23), 3) := by decide +kernel
theorem dX1_hasName_28 : decode cX1_hasName 28 = .ok (.iconst 0, 1) := by decide +kernel
theorem dX1_hasName_29 : decode cX1_hasName 29 = .ok (.ireturn, 1) := by decide +kernel
theorem dX1_add_0 : decode cX1_add 0 = .ok (.aload_n 0, 1) := by decide +kernel
theorem dX1_add_1 : decode cX1_add 1 = .ok (.getfield 30, 3) := by decide +kernel
theorem dX1_add_4 : decode cX1_add 4 = .ok (.iconst 5, 1) := by decide +kernel
theorem dX1_add_5 : decode cX1_add 5 = .ok (.if_icmp .lt 4, 3) := by decide +kernel
theorem dX1_add_8 : decode cX1_add 8 = .ok (.return_, 1) := by decide +kernel
theorem dX1_add_9 : decode cX1_add 9 = .ok (.aload_n 0, 1) := by decide +kernel
theorem dX1_add_10 : decode cX1_add 10 = .ok (.getfield 9, 3) := by decide +kernel
theorem dX1_add_13 : decode cX1_add 13 = .ok (.aload_n 0, 1) := by decide +kernel
theorem dX1_add_14 : decode cX1_add 14 = .ok (.getfield 30, 3) := by decide +kernel
theorem dX1_add_17 : decode cX1_add 17 = .ok (.iload_n 1, 1) := by decide +kernel
theorem dX1_add_18 : decode cX1_add 18 = .ok (.iastore, 1) := by decide +kernel
theorem dX1_add_19 : decode cX1_add 19 = .ok (.aload_n 0, 1) := by decide +kernel
theorem dX1_add_20 : decode cX1_add 20 = .ok (.getfield 15, 3) := by decide +kernel
theorem dX1_add_23 : decode cX1_add 23 = .ok (.aload_n 0, 1) := by decide +kernel
theorem dX1_add_24 : decode cX1_add 24 = .ok (.getfield 30, 3) := by decide +kernel
theorem dX1_add_27 : decode cX1_add 27 = .ok (.iload_n 2, 1) := by decide +kernel
theorem dX1_add_28 : decode cX1_add 28 = .ok (.iastore, 1) := by decide +kernel
theorem dX1_add_29 : decode cX1_add 29 = .ok (.aload_n 0, 1) := by decide +kernel
theorem dX1_add_30 : decode cX1_add 30 = .ok (.getfield 18, 3) := by decide +kernel
theorem dX1_add_33 : decode cX1_add 33 = .ok (.aload_n 0, 1) := by decide +kernel
theorem dX1_add_34 : decode cX1_add 34 = .ok (.getfield 30, 3) := by decide +kernel
theorem dX1_add_37 : decode cX1_add 37 = .ok (.iload_n 3, 1) := by decide +kernel
theorem dX1_add_38 : decode cX1_add 38 = .ok (.iastore, 1) := by decide +kernel
theorem dX1_add_39 : decode cX1_add 39 = .ok (.aload_n 0, 1) := by decide +kernel
theorem dX1_add_40 : decode cX1_add 40 = .ok (.getfield 21, 3) := by decide +kernel
theorem dX1_add_43 : decode cX1_add 43 = .ok (.aload_n 0, 1) := by decide +kernel
theorem dX1_add_44 : decode cX1_add 44 = .ok (.getfield 30, 3) := by decide +kernel
theorem dX1_add_47 : decode cX1_add 47 = .ok (.iload 4, 2) := by decide +kernel
theorem dX1_add_49 : decode cX1_add 49 = .ok (.iastore, 1) := by decide +kernel
theorem dX1_add_50 : decode cX1_add 50 = .ok (.aload_n 0, 1) := by decide +kernel
theorem dX1_add_51 : decode cX1_add 51 = .ok (.getfield 24, 3) := by decide +kernel
theorem dX1_add_54 : decode cX1_add 54 = .ok (.aload_n 0, 1) := by decide +kernel
theorem dX1_add_55 : decode cX1_add 55 = .ok (.getfield 30, 3) := by decide +kernel
theorem dX1_add_58 : decode cX1_add 58 = .ok (.iload 5, 2) := by decide +kernel
theorem dX1_add_60 : decode cX1_add 60 = .ok (.iastore, 1) := by decide +kernel
theorem dX1_add_61 : decode cX1_add 61 = .ok (.aload_n 0, 1) := by decide +kernel
theorem dX1_add_62 : decode cX1_add 62 = .ok (.getfield 27, 3) := by decide +kernel
theorem dX1_add_65 : decode cX1_add 65 = .ok (.aload_n 0, 1) := by decide +kernel
theorem dX1_add_66 : decode cX1_add 66 = .ok (.getfield 30, 3) := by decide +kernel
theorem dX1_add_69 : decode cX1_add 69 = .ok (.iload 6, 2) := by decide +kernel
theorem dX1_add_71 : decode cX1_add 71 = .ok (.iastore, 1) := by decide +kernel
theorem dX1_add_72 : decode cX1_add 72 = .ok (.aload_n 0, 1) := by decide +kernel
theorem dX1_add_73 : decode cX1_add 73 = .ok (.dup, 1) := by decide +kernel
theorem dX1_add_74 : decode cX1_add 74 = .ok (.getfield 30, 3) := by decide +kernel
theorem dX1_add_77 : decode cX1_add 77 = .ok (.iconst 1, 1) := by decide +kernel
theorem dX1_add_78 : decode cX1_add 78 = .ok (.iadd, 1) := by decide +kernel
theorem dX1_add_79 : decode cX1_add 79 = .ok (.putfield 30, 3) := by decide +kernel
theorem dX1_add_82 : decode cX1_add 82 = .ok (.return_, 1) := by decide +kernel
theorem dX2_init_0 : decode cX2_init 0 = .ok (.aload_n 0, 1) := by decide +kernel
theorem dX2_init_1 : decode cX2_init 1 = .ok (.invokespecial 3, 3) := by decide +kernel
theorem dX2_init_4 : decode cX2_init 4 = .ok (.aload_n 0, 1) := by decide +kernel
theorem dX2_init_5 : decode cX2_init 5 = .ok (.bipush 64, 2) := by decide +kernel
theorem dX2_init_7 : decode cX2_init 7 = .ok (.newarray .int, 2) := by decide +kernel
theorem dX2_init_9 : decode cX2_init 9 = .ok (.putfield 9, 3) := by decide +kernel
theorem dX2_init_12 : decode cX2_init 12 = .ok (.return_, 1) := by decide +kernel
theorem dX2_forget_0 : decode cX2_forget 0 = .ok (.aload_n 0, 1) := by decide +kernel
theorem dX2_forget_1 : decode cX2_forget 1 = .ok (.iconst 0, 1) := by decide +kernel
theorem dX2_forget_2 : decode cX2_forget 2 = .ok (.putfield 15, 3) := by decide +kernel
theorem dX2_forget_5 : decode cX2_forget 5 = .ok (.aload_n 0, 1) := by decide +kernel
theorem dX2_forget_6 : decode cX2_forget 6 = .ok (.iconst 0, 1) := by decide +kernel
theorem dX2_forget_7 : decode cX2_forget 7 = .ok (.putfield 19, 3) := by decide +kernel
theorem dX2_forget_10 : decode cX2_forget 10 = .ok (.return_, 1) := by decide +kernel
theorem dX2_add_0 : decode cX2_add 0 = .ok (.aload_n 0, 1) := by decide +kernel
theorem dX2_add_1 : decode cX2_add 1 = .ok (.getfield 15, 3) := by decide +kernel
theorem dX2_add_4 : decode cX2_add 4 = .ok (.aload_n 0, 1) := by decide +kernel
theorem dX2_add_5 : decode cX2_add 5 = .ok (.getfield 9, 3) := by decide +kernel
theorem dX2_add_8 : decode cX2_add 8 = .ok (.arraylength, 1) := by decide +kernel
theorem dX2_add_9 : decode cX2_add 9 = .ok (.if_icmp .ge 23, 3) := by decide +kernel
theorem dX2_add_12 : decode cX2_add 12 = .ok (.aload_n 0, 1) := by decide +kernel
theorem dX2_add_13 : decode cX2_add 13 = .ok (.getfield 9, 3) := by decide +kernel
theorem dX2_add_16 : decode cX2_add 16 = .ok (.aload_n 0, 1) := by decide +kernel
theorem dX2_add_17 : decode cX2_add 17 = .ok (.getfield 15, 3) := by decide +kernel
theorem dX2_add_20 : decode cX2_add 20 = .ok (.iload_n 1, 1) := by decide +kernel
theorem dX2_add_21 : decode cX2_add 21 = .ok (.iastore, 1) := by decide +kernel
theorem dX2_add_22 : decode cX2_add 22 = .ok (.aload_n 0, 1) := by decide +kernel
theorem dX2_add_23 : decode cX2_add 23 = .ok (.dup, 1) := by decide +kernel
theorem dX2_add_24 : decode cX2_add 24 = .ok (.getfield 15, 3) := by decide +kernel
theorem dX2_add_27 : decode cX2_add 27 = .ok (.iconst 1, 1) := by decide +kernel
theorem dX2_add_28 : decode cX2_add 28 = .ok (.iadd, 1) := by decide +kernel
theorem dX2_add_29 : decode cX2_add 29 = .ok (.putfield 15, 3) := by decide +kernel
theorem dX2_add_32 : decode cX2_add 32 = .ok (.return_, 1) := by decide +kernel
set_option maxRecDepth 20000 in
theorem ggX2_valueFor_X2_join : GoodIn wsX2_valueFor wsX2_join := goodIn_r _ [9, 5, 10, 11, 8, 12, 13, 14, 15, 3] (by decide +kernel) (by decide +kernel)
set_option maxRecDepth 20000 in
theorem gX2_valueFor_X2_join : GoodIn wsX2_valueFor (va_wsS RX2 23 yX2_join wsX2_join) := goodIn_app (goodIn_of _ (by decide +kernel)) ggX2_valueFor_X2_join
theorem dX2_valueFor_0 : decode cX2_valueFor 0 = .ok (.iconst 0, 1) := by decide +kernel
theorem dX2_valueFor_1 : decode cX2_valueFor 1 = .ok (.istore_n 3, 1) := by decide +kernel
theorem dX2_valueFor_2 : decode cX2_valueFor 2 = .ok (.iconst 0, 1) := by decide +kernel
theorem dX2_valueFor_3 : decode cX2_valueFor 3 = .ok (.istore 4, 2) := by decide +kernel
theorem dX2_valueFor_5 : decode cX2_valueFor 5 = .ok (.iload 4, 2) := by decide +kernel
theorem dX2_valueFor_7 : decode cX2_valueFor 7 = .ok (.aload_n 0, 1) := by decide +kernel
theorem dX2_valueFor_8 : decode cX2_valueFor 8 = .ok (.getfield 15, 3) := by decide +kernel
theorem dX2_valueFor_11 : decode cX2_valueFor 11 = .ok (.if_icmp .ge 166, 3) := by decide +kernel
theorem dX2_valueFor_14 : decode cX2_valueFor 14 = .ok (.iload_n 3, 1) := by decide +kernel
theorem dX2_valueFor_15 : decode cX2_valueFor 15 = .ok (.aload_n 2, 1) := by decide +kernel
theorem dX2_valueFor_16 : decode cX2_valueFor 16 = .ok (.arraylength, 1) := by decide +kernel
theorem dX2_valueFor_17 : decode cX2_valueFor 17 = .ok (.if_icmp .ge 160, 3) := by decide +kernel
theorem dX2_valueFor_20 : decode cX2_valueFor 20 = .ok (.aload_n 0, 1) := by decide +kernel
theorem dX2_valueFor_21 : decode cX2_valueFor 21 = .ok (.getfield 9, 3) := by decide +kernel
theorem dX2_valueFor_24 : decode cX2_valueFor 24 = .ok (.iload 4, 2) := by decide +kernel
theorem dX2_valueFor_26 : decode cX2_valueFor 26 = .ok (.iaload, 1) := by decide +kernel
theorem dX2_valueFor_27 : decode cX2_valueFor 27 = .ok (.sipush 10000, 3) := by decide +kernel
theorem dX2_valueFor_30 : decode cX2_valueFor 30 = .ok (.isub, 1) := by decide +kernel
theorem dX2_valueFor_31 : decode cX2_valueFor 31 = .ok (.istore 5, 2) := by decide +kernel
theorem dX2_valueFor_33 : decode cX2_valueFor 33 = .ok (.iload 5, 2) := by decide +kernel
theorem dX2_valueFor_35 : decode cX2_valueFor 35 = .ok (.ifCond .ge 20, 3) := by decide +kernel
theorem dX2_valueFor_38 : decode cX2_valueFor 38 = .ok (.aload_n 2, 1) := by decide +kernel
theorem dX2_valueFor_39 : decode cX2_valueFor 39 = .ok (.iload_n 3, 1) := by decide +kernel
theorem dX2_valueFor_40 : decode cX2_valueFor 40 = .ok (.aload_n 0, 1) := by decide +kernel
theorem dX2_valueFor_41 : decode cX2_valueFor 41 = .ok (.getfield 9, 3) := by decide +kernel
theorem dX2_valueFor_44 : decode cX2_valueFor 44 = .ok (.iload 4, 2) := by decide +kernel
theorem dX2_valueFor_46 : decode cX2_valueFor 46 = .ok (.iaload, 1) := by decide +kernel
theorem dX2_valueFor_47 : decode cX2_valueFor 47 = .ok (.i2l, 1) := by decide +kernel
theorem dX2_valueFor_48 : decode cX2_valueFor 48 = .ok (.lastore, 1) := by decide +kernel
theorem dX2_valueFor_49 : decode cX2_valueFor 49 = .ok (.iinc 3 1, 3) := by decide +kernel
theorem dX2_valueFor_52 : decode cX2_valueFor 52 = .ok (.goto 119, 3) := by decide +kernel
theorem dX2_valueFor_55 : decode cX2_valueFor 55 = .ok (.iload 5, 2) := by decide +kernel
theorem dX2_valueFor_57 : decode cX2_valueFor 57 = .ok (.bipush 18, 2) := by decide +kernel
theorem dX2_valueFor_59 : decode cX2_valueFor 59 = .ok (.if_icmp .lt 26, 3) := by decide +kernel
theorem dX2_valueFor_62 : decode cX2_valueFor 62 = .ok (.iload 5, 2) := by decide +kernel
theorem dX2_valueFor_64 : decode cX2_valueFor 64 = .ok (.bipush 24, 2) := by decide +kernel
theorem dX2_valueFor_66 : decode cX2_valueFor 66 = .ok (.if_icmp .ge 19, 3) := by decide +kernel
theorem dX2_valueFor_69 : decode cX2_valueFor 69 = .ok (.aload_n 2, 1) := by decide +kernel
theorem dX2_valueFor_70 : decode cX2_valueFor 70 = .ok (.iload_n 3, 1) := by decide +kernel
theorem dX2_valueFor_71 : decode cX2_valueFor 71 = .ok (.aload_n 1, 1) := by decide +kernel
theorem dX2_valueFor_72 : decode cX2_valueFor 72 = .ok (.iload 5, 2) := by decide +kernel
theorem dX2_valueFor_74 : decode cX2_valueFor 74 = .ok (.bipush 18, 2) := by decide +kernel
theorem dX2_valueFor_76 : decode cX2_valueFor 76 = .ok (.isub, 1) := by decide +kernel
theorem dX2_valueFor_77 : decode cX2_valueFor 77 = .ok (.laload, 1) := by decide +kernel
theorem dX2_valueFor_78 : decode cX2_valueFor 78 = .ok (.lastore, 1) := by decide +kernel
theorem dX2_valueFor_79 : decode cX2_valueFor 79 = .ok (.iinc 3 1, 3) := by decide +kernel
theorem dX2_valueFor_82 : decode cX2_valueFor 82 = .ok (.goto 89, 3) := by decide +kernel
theorem dX2_valueFor_85 : decode cX2_valueFor 85 = .ok (.iload 5, 2) := by decide +kernel
theorem dX2_valueFor_87 : decode cX2_valueFor 87 = .ok (.bipush 15, 2) := by decide +kernel
theorem dX2_valueFor_89 : decode cX2_valueFor 89 = .ok (.if_icmp .ne 30, 3) := by decide +kernel
theorem dX2_valueFor_92 : decode cX2_valueFor 92 = .ok (.iload_n 3, 1) := by decide +kernel
theorem dX2_valueFor_93 : decode cX2_valueFor 93 = .ok (.ifCond .le 26, 3) := by decide +kernel
theorem dX2_valueFor_96 : decode cX2_valueFor 96 = .ok (.aload_n 2, 1) := by decide +kernel
theorem dX2_valueFor_97 : decode cX2_valueFor 97 = .ok (.iload_n 3, 1) := by decide +kernel
theorem dX2_valueFor_98 : decode cX2_valueFor 98 = .ok (.iconst 1, 1) := by decide +kernel
theorem dX2_valueFor_99 : decode cX2_valueFor 99 = .ok (.isub, 1) := by decide +kernel
theorem dX2_valueFor_100 : decode cX2_valueFor 100 = .ok (.aload_n 2, 1) := by decide +kernel
theorem dX2_valueFor_101 : decode cX2_valueFor 101 = .ok (.iload_n 3, 1) := by decide +kernel
theorem dX2_valueFor_102 : decode cX2_valueFor 102 = .ok (.iconst 1, 1) := by decide +kernel
theorem dX2_valueFor_103 : decode cX2_valueFor 103 = .ok (.isub, 1) := by decide +kernel
theorem dX2_valueFor_104 : decode cX2_valueFor 104 = .ok (.laload, 1) := by decide +kernel
theorem dX2_valueFor_105 : decode cX2_valueFor 105 = .ok (.lconst 0, 1) := by decide +kernel
theorem dX2_valueFor_106 : decode cX2_valueFor 106 = .ok (.lcmp, 1) := by decide +kernel
theorem dX2_valueFor_107 : decode cX2_valueFor 107 = .ok (.ifCond .ne 7, 3) := by decide +kernel
theorem dX2_valueFor_110 : decode cX2_valueFor 110 = .ok (.lconst 1, 1) := by decide +kernel
theorem dX2_valueFor_111 : decode cX2_valueFor 111 = .ok (.goto 4, 3) := by decide +kernel
theorem dX2_valueFor_114 : decode cX2_valueFor 114 = .ok (.lconst 0, 1) := by decide +kernel
theorem dX2_valueFor_115 : decode cX2_valueFor 115 = .ok (.lastore, 1) := by decide +kernel
theorem dX2_valueFor_116 : decode cX2_valueFor 116 = .ok (.goto 55, 3) := by decide +kernel
theorem dX2_valueFor_119 : decode cX2_valueFor 119 = .ok (.iload_n 3, 1) := by decide +kernel
theorem dX2_valueFor_120 : decode cX2_valueFor 120 = .ok (.iconst 1, 1) := by decide +kernel
theorem dX2_valueFor_121 : decode cX2_valueFor 121 = .ok (.if_icmp .le 50, 3) := by decide +kernel
theorem dX2_valueFor_124 : decode cX2_valueFor 124 = .ok (.iinc 3 (-1), 3) := by decide +kernel
theorem dX2_valueFor_127 : decode cX2_valueFor 127 = .ok (.iload 5, 2) := by decide +kernel
theorem dX2_valueFor_129 : decode cX2_valueFor 129 = .ok (.aload_n 2, 1) := by decide +kernel
theorem dX2_valueFor_130 : decode cX2_valueFor 130 = .ok (.iload_n 3, 1) := by decide +kernel
theorem dX2_valueFor_131 : decode cX2_valueFor 131 = .ok (.iconst 1, 1) := by decide +kernel
theorem dX2_valueFor_132 : decode cX2_valueFor 132 = .ok (.isub, 1) := by decide +kernel
theorem dX2_valueFor_133 : decode cX2_valueFor 133 = .ok (.laload, 1) := by decide +kernel
theorem dX2_valueFor_134 : decode cX2_valueFor 134 = .ok (.aload_n 2, 1) := by decide +kernel
theorem dX2_valueFor_135 : decode cX2_valueFor 135 = .ok (.iload_n 3, 1) := by decide +kernel
theorem dX2_valueFor_136 : decode cX2_valueFor 136 = .ok (.laload, 1) := by decide +kernel
theorem dX2_valueFor_137 : decode cX2_valueFor 137 = .ok (.invokestatic 23, 3) := by decide +kernel
theorem dX2_valueFor_140 : decode cX2_valueFor 140 = .ok (.lstore 6, 2) := by decide +kernel
theorem dX2_valueFor_142 : decode cX2_valueFor 142 = .ok (.lload 6, 2) := by decide +kernel
theorem dX2_valueFor_144 : decode cX2_valueFor 144 = .ok (.ldc2_w 27, 3) := by decide +kernel
theorem dX2_valueFor_147 : decode cX2_valueFor 147 = .ok (.lcmp, 1) := by decide +kernel
theorem dX2_valueFor_148 : decode cX2_valueFor 148 = .ok (.ifCond .gt 12, 3) := by decide +kernel
theorem dX2_valueFor_151 : decode cX2_valueFor 151 = .ok (.lload 6, 2) := by decide +kernel
theorem dX2_valueFor_153 : decode cX2_valueFor 153 = .ok (.ldc2_w 29, 3) := by decide +kernel
theorem dX2_valueFor_156 : decode cX2_valueFor 156 = .ok (.lcmp, 1) := by decide +kernel
theorem dX2_valueFor_157 : decode cX2_valueFor 157 = .ok (.ifCond .ge 7, 3) := by decide +kernel
theorem dX2_valueFor_160 : decode cX2_valueFor 160 = .ok (.ldc2_w 31, 3) := by decide +kernel
theorem dX2_valueFor_163 : decode cX2_valueFor 163 = .ok (.lreturn, 1) := by decide +kernel
theorem dX2_valueFor_164 : decode cX2_valueFor 164 = .ok (.aload_n 2, 1) := by decide +kernel
theorem dX2_valueFor_165 : decode cX2_valueFor 165 = .ok (.iload_n 3, 1) := by decide +kernel
theorem dX2_valueFor_166 : decode cX2_valueFor 166 = .ok (.iconst 1, 1) := by decide +kernel
theorem dX2_valueFor_167 : decode cX2_valueFor 167 = .ok (.isub, 1) := by decide +kernel
theorem dX2_valueFor_168 : decode cX2_valueFor 168 = .ok (.lload 6, 2) := by decide +kernel
theorem dX2_valueFor_170 : decode cX2_valueFor 170 = .ok (.lastore, 1) := by decide +kernel
theorem dX2_valueFor_171 : decode cX2_valueFor 171 = .ok (.iinc 4 1, 3) := by decide +kernel
theorem dX2_valueFor_174 : decode cX2_valueFor 174 = .ok (.goto (-169), 3) := by decide +kernel
theorem dX2_valueFor_177 : decode cX2_valueFor 177 = .ok (.iload_n 3, 1) := by decide +kernel
theorem dX2_valueFor_178 : decode cX2_valueFor 178 = .ok (.iconst 1, 1) := by decide +kernel
theorem dX2_valueFor_179 : decode cX2_valueFor 179 = .ok (.if_icmp .ne 9, 3) := by decide +kernel
theorem dX2_valueFor_182 : decode cX2_valueFor 182 = .ok (.aload_n 2, 1) := by decide +kernel
theorem dX2_valueFor_183 : decode cX2_valueFor 183 = .ok (.iconst 0, 1) := by decide +kernel
theorem dX2_valueFor_184 : decode cX2_valueFor 184 = .ok (.laload, 1) := by decide +kernel
theorem dX2_valueFor_185 : decode cX2_valueFor 185 = .ok (.goto 6, 3) := by decide +kernel
theorem dX2_valueFor_188 : decode cX2_valueFor 188 = .ok (.ldc2_w 31, 3) := by decide +kernel
theorem dX2_valueFor_191 : decode cX2_valueFor 191 = .ok (.lreturn, 1) := by decide +kernel
set_option maxRecDepth 20000 in
theorem ggX2_join_X2_oneIf : GoodIn wsX2_join wsX2_oneIf := goodIn_r _ [5] (by decide +kernel) (by decide +kernel)
set_option maxRecDepth 20000 in
theorem gX2_join_X2_oneIf : GoodIn wsX2_join (va_wsS RX2 33 yX2_oneIf wsX2_oneIf) := goodIn_app (goodIn_of _ (by decide +kernel)) ggX2_join_X2_oneIf
set_option maxRecDepth 20000 in
theorem ggX2_join_X2_product : GoodIn wsX2_join wsX2_product := goodIn_r _ [8, 9, 1] (by decide +kernel) (by decide +kernel)
set_option maxRecDepth 20000 in
theorem gX2_join_X2_product : GoodIn wsX2_join (va_wsS RX2 37 yX2_product wsX2_product) := goodIn_app (goodIn_of _ (by decide +kernel)) ggX2_join_X2_product
theorem dX2_join_0 : decode cX2_join 0 = .ok (.iload_n 0, 1) := by decide +kernel
theorem dX2_join_1 : decode cX2_join 1 = .ok (.tableswitch 257 16 35 #[116, 95, 257, 257, 257, 257, 257, 257, 257, 257, 137, 152, 167, 182, 197, 212, 227, 231, 235, 241], 95) := by decide +kernel
theorem dX2_join_96 : decode cX2_join 96 = .ok (.lload_n 1, 1) := by decide +kernel
theorem dX2_join_97 : decode cX2_join 97 = .ok (.lconst 0, 1) := by decide +kernel
theorem dX2_join_98 : decode cX2_join 98 = .ok (.lcmp, 1) := by decide +kernel
theorem dX2_join_99 : decode cX2_join 99 = .ok (.ifCond .ne 9, 3) := by decide +kernel
theorem dX2_join_102 : decode cX2_join 102 = .ok (.lload_n 3, 1) := by decide +kernel
theorem dX2_join_103 : decode cX2_join 103 = .ok (.lconst 0, 1) := by decide +kernel
theorem dX2_join_104 : decode cX2_join 104 = .ok (.lcmp, 1) := by decide +kernel
theorem dX2_join_105 : decode cX2_join 105 = .ok (.ifCond .eq 7, 3) := by decide +kernel
theorem dX2_join_108 : decode cX2_join 108 = .ok (.iconst 1, 1) := by decide +kernel
theorem dX2_join_109 : decode cX2_join 109 = .ok (.goto 4, 3) := by decide +kernel
theorem dX2_join_112 : decode cX2_join 112 = .ok (.iconst 0, 1) := by decide +kernel
theorem dX2_join_113 : decode cX2_join 113 = .ok (.invokestatic 33, 3) := by decide +kernel
theorem dX2_join_116 : decode cX2_join 116 = .ok (.lreturn, 1) := by decide +kernel
theorem dX2_join_117 : decode cX2_join 117 = .ok (.lload_n 1, 1) := by decide +kernel
theorem dX2_join_118 : decode cX2_join 118 = .ok (.lconst 0, 1) := by decide +kernel
theorem dX2_join_119 : decode cX2_join 119 = .ok (.lcmp, 1) := by decide +kernel
theorem dX2_join_120 : decode cX2_join 120 = .ok (.ifCond .eq 13, 3) := by decide +kernel
theorem dX2_join_123 : decode cX2_join 123 = .ok (.lload_n 3, 1) := by decide +kernel
theorem dX2_join_124 : decode cX2_join 124 = .ok (.lconst 0, 1) := by decide +kernel
theorem dX2_join_125 : decode cX2_join 125 = .ok (.lcmp, 1) := by decide +kernel
theorem dX2_join_126 : decode cX2_join 126 = .ok (.ifCond .eq 7, 3) := by decide +kernel
theorem dX2_join_129 : decode cX2_join 129 = .ok (.iconst 1, 1) := by decide +kernel
theorem dX2_join_130 : decode cX2_join 130 = .ok (.goto 4, 3) := by decide +kernel
theorem dX2_join_133 : decode cX2_join 133 = .ok (.iconst 0, 1) := by decide +kernel
theorem dX2_join_134 : decode cX2_join 134 = .ok (.invokestatic 33, 3) := by decide +kernel
theorem dX2_join_137 : decode cX2_join 137 = .ok (.lreturn, 1) := by decide +kernel
theorem dX2_join_138 : decode cX2_join 138 = .ok (.lload_n 1, 1) := by decide +kernel
theorem dX2_join_139 : decode cX2_join 139 = .ok (.lload_n 3, 1) := by decide +kernel
theorem dX2_join_140 : decode cX2_join 140 = .ok (.lcmp, 1) := by decide +kernel
theorem dX2_join_141 : decode cX2_join 141 = .ok (.ifCond .ge 7, 3) := by decide +kernel
theorem dX2_join_144 : decode cX2_join 144 = .ok (.iconst 1, 1) := by decide +kernel
theorem dX2_join_145 : decode cX2_join 145 = .ok (.goto 4, 3) := by decide +kernel
theorem dX2_join_148 : decode cX2_join 148 = .ok (.iconst 0, 1) := by decide +kernel
theorem dX2_join_149 : decode cX2_join 149 = .ok (.invokestatic 33, 3) := by decide +kernel
theorem dX2_join_152 : decode cX2_join 152 = .ok (.lreturn, 1) := by decide +kernel
theorem dX2_join_153 : decode cX2_join 153 = .ok (.lload_n 1, 1) := by decide +kernel
theorem dX2_join_154 : decode cX2_join 154 = .ok (.lload_n 3, 1) := by decide +kernel
theorem dX2_join_155 : decode cX2_join 155 = .ok (.lcmp, 1) := by decide +kernel
theorem dX2_join_156 : decode cX2_join 156 = .ok (.ifCond .gt 7, 3) := by decide +kernel
theorem dX2_join_159 : decode cX2_join 159 = .ok (.iconst 1, 1) := by decide +kernel
theorem dX2_join_160 : decode cX2_join 160 = .ok (.goto 4, 3) := by decide +kernel
theorem dX2_join_163 : decode cX2_join 163 = .ok (.iconst 0, 1) := by decide +kernel
theorem dX2_join_164 : decode cX2_join 164 = .ok (.invokestatic 33, 3) := by decide +kernel
theorem dX2_join_167 : decode cX2_join 167 = .ok (.lreturn, 1) := by decide +kernel
theorem dX2_join_168 : decode cX2_join 168 = .ok (.lload_n 1, 1) := by decide +kernel
theorem dX2_join_169 : decode cX2_join 169 = .ok (.lload_n 3, 1) := by decide +kernel
theorem dX2_join_170 : decode cX2_join 170 = .ok (.lcmp, 1) := by decide +kernel
theorem dX2_join_171 : decode cX2_join 171 = .ok (.ifCond .ne 7, 3) := by decide +kernel
theorem dX2_join_174 : decode cX2_join 174 = .ok (.iconst 1, 1) := by decide +kernel
theorem dX2_join_175 : decode cX2_join 175 = .ok (.goto 4, 3) := by decide +kernel
theorem dX2_join_178 : decode cX2_join 178 = .ok (.iconst 0, 1) := by decide +kernel
theorem dX2_join_179 : decode cX2_join 179 = .ok (.invokestatic 33, 3) := by decide +kernel
theorem dX2_join_182 : decode cX2_join 182 = .ok (.lreturn, 1) := by decide +kernel
theorem dX2_join_183 : decode cX2_join 183 = .ok (.lload_n 1, 1) := by decide +kernel
theorem dX2_join_184 : decode cX2_join 184 = .ok (.lload_n 3, 1) := by decide +kernel
theorem dX2_join_185 : decode cX2_join 185 = .ok (.lcmp, 1) := by decide +kernel
theorem dX2_join_186 : decode cX2_join 186 = .ok (.ifCond .eq 7, 3) := by decide +kernel
theorem dX2_join_189 : decode cX2_join 189 = .ok (.iconst 1, 1) := by decide +kernel
theorem dX2_join_190 : decode cX2_join 190 = .ok (.goto 4, 3) := by decide +kernel
theorem dX2_join_193 : decode cX2_join 193 = .ok (.iconst 0, 1) := by decide +kernel
theorem dX2_join_194 : decode cX2_join 194 = .ok (.invokestatic 33, 3) := by decide +kernel
theorem dX2_join_197 : decode cX2_join 197 = .ok (.lreturn, 1) := by decide +kernel
theorem dX2_join_198 : decode cX2_join 198 = .ok (.lload_n 1, 1) := by decide +kernel
theorem dX2_join_199 : decode cX2_join 199 = .ok (.lload_n 3, 1) := by decide +kernel
theorem dX2_join_200 : decode cX2_join 200 = .ok (.lcmp, 1) := by decide +kernel
theorem dX2_join_201 : decode cX2_join 201 = .ok (.ifCond .lt 7, 3) := by decide +kernel
theorem dX2_join_204 : decode cX2_join 204 = .ok (.iconst 1, 1) := by decide +kernel
theorem dX2_join_205 : decode cX2_join 205 = .ok (.goto 4, 3) := by decide +kernel
theorem dX2_join_208 : decode cX2_join 208 = .ok (.iconst 0, 1) := by decide +kernel
theorem dX2_join_209 : decode cX2_join 209 = .ok (.invokestatic 33, 3) := by decide +kernel
theorem dX2_join_212 : decode cX2_join 212 = .ok (.lreturn, 1) := by decide +kernel
theorem dX2_join_213 : decode cX2_join 213 = .ok (.lload_n 1, 1) := by decide +kernel
theorem dX2_join_214 : decode cX2_join 214 = .ok (.lload_n 3, 1) := by decide +kernel
theorem dX2_join_215 : decode cX2_join 215 = .ok (.lcmp, 1) := by decide +kernel
theorem dX2_join_216 : decode cX2_join 216 = .ok (.ifCond .le 7, 3) := by decide +kernel
theorem dX2_join_219 : decode cX2_join 219 = .ok (.iconst 1, 1) := by decide +kernel
theorem dX2_join_220 : decode cX2_join 220 = .ok (.goto 4, 3) := by decide +kernel
theorem dX2_join_223 : decode cX2_join 223 = .ok (.iconst 0, 1) := by decide +kernel
theorem dX2_join_224 : decode cX2_join 224 = .ok (.invokestatic 33, 3) := by decide +kernel
theorem dX2_join_227 : decode cX2_join 227 = .ok (.lreturn, 1) := by decide +kernel
theorem dX2_join_228 : decode cX2_join 228 = .ok (.lload_n 1, 1) := by decide +kernel
theorem dX2_join_229 : decode cX2_join 229 = .ok (.lload_n 3, 1) := by decide +kernel
theorem dX2_join_230 : decode cX2_join 230 = .ok (.ladd, 1) := by decide +kernel
theorem dX2_join_231 : decode cX2_join 231 = .ok (.lreturn, 1) := by decide +kernel
theorem dX2_join_232 : decode cX2_join 232 = .ok (.lload_n 1, 1) := by decide +kernel
theorem dX2_join_233 : decode cX2_join 233 = .ok (.lload_n 3, 1) := by decide +kernel
theorem dX2_join_234 : decode cX2_join 234 = .ok (.lsub, 1) := by decide +kernel
theorem dX2_join_235 : decode cX2_join 235 = .ok (.lreturn, 1) := by decide +kernel
theorem dX2_join_236 : decode cX2_join 236 = .ok (.lload_n 1, 1) := by decide +kernel
theorem dX2_join_237 : decode cX2_join 237 = .ok (.lload_n 3, 1) := by decide +kernel
theorem dX2_join_238 : decode cX2_join 238 = .ok (.invokestatic 37, 3) := by decide +kernel
theorem dX2_join_241 : decode cX2_join 241 = .ok (.lreturn, 1) := by decide +kernel
theorem dX2_join_242 : decode cX2_join 242 = .ok (.lload_n 3, 1) := by decide +kernel
theorem dX2_join_243 : decode cX2_join 243 = .ok (.lconst 0, 1) := by decide +kernel
theorem dX2_join_244 : decode cX2_join 244 = .ok (.lcmp, 1) := by decide +kernel
theorem dX2_join_245 : decode cX2_join 245 = .ok (.ifCond .ne 9, 3) := by decide +kernel
theorem dX2_join_248 : decode cX2_join 248 = .ok (.ldc2_w 31, 3) := by decide +kernel
theorem dX2_join_251 : decode cX2_join 251 = .ok (.goto 6, 3) := by decide +kernel
theorem dX2_join_254 : decode cX2_join 254 = .ok (.lload_n 1, 1) := by decide +kernel
theorem dX2_join_255 : decode cX2_join 255 = .ok (.lload_n 3, 1) := by decide +kernel
theorem dX2_join_256 : decode cX2_join 256 = .ok (.ldiv, 1) := by decide +kernel
theorem dX2_join_257 : decode cX2_join 257 = .ok (.lreturn, 1) := by decide +kernel
theorem dX2_join_258 : decode cX2_join 258 = .ok (.ldc2_w 31, 3) := by decide +kernel
theorem dX2_join_261 : decode cX2_join 261 = .ok (.lreturn, 1) := by decide +kernel
theorem dX2_oneIf_0 : decode cX2_oneIf 0 = .ok (.iload_n 0, 1) := by decide +kernel
theorem dX2_oneIf_1 : decode cX2_oneIf 1 = .ok (.ifCond .eq 7, 3) := by decide +kernel
theorem dX2_oneIf_4 : decode cX2_oneIf 4 = .ok (.lconst 1, 1) := by decide +kernel
theorem dX2_oneIf_5 : decode cX2_oneIf 5 = .ok (.goto 4, 3) := by decide +kernel
theorem dX2_oneIf_8 : decode cX2_oneIf 8 = .ok (.lconst 0, 1) := by decide +kernel
theorem dX2_oneIf_9 : decode cX2_oneIf 9 = .ok (.lreturn, 1) := by decide +kernel
theorem dX2_product_0 : decode cX2_product 0 = .ok (.lload_n 0, 1) := by decide +kernel
theorem dX2_product_1 : decode cX2_product 1 = .ok (.lconst 0, 1) := by decide +kernel
theorem dX2_product_2 : decode cX2_product 2 = .ok (.lcmp, 1) := by decide +kernel
theorem dX2_product_3 : decode cX2_product 3 = .ok (.ifCond .ge 8, 3) := by decide +kernel
theorem dX2_product_6 : decode cX2_product 6 = .ok (.lload_n 0, 1) := by decide +kernel
theorem dX2_product_7 : decode cX2_product 7 = .ok (.lneg, 1) := by decide +kernel
theorem dX2_product_8 : decode cX2_product 8 = .ok (.goto 4, 3) := by decide +kernel
theorem dX2_product_11 : decode cX2_product 11 = .ok (.lload_n 0, 1) := by decide +kernel
theorem dX2_product_12 : decode cX2_product 12 = .ok (.lstore 4, 2) := by decide +kernel
theorem dX2_product_14 : decode cX2_product 14 = .ok (.lload_n 2, 1) := by decide +kernel
theorem dX2_product_15 : decode cX2_product 15 = .ok (.lconst 0, 1) := by decide +kernel
theorem dX2_product_16 : decode cX2_product 16 = .ok (.lcmp, 1) := by decide +kernel
theorem dX2_product_17 : decode cX2_product 17 = .ok (.ifCond .ge 8, 3) := by decide +kernel
theorem dX2_product_20 : decode cX2_product 20 = .ok (.lload_n 2, 1) := by decide +kernel
theorem dX2_product_21 : decode cX2_product 21 = .ok (.lneg, 1) := by decide +kernel
theorem dX2_product_22 : decode cX2_product 22 = .ok (.goto 4, 3) := by decide +kernel
theorem dX2_product_25 : decode cX2_product 25 = .ok (.lload_n 2, 1) := by decide +kernel
theorem dX2_product_26 : decode cX2_product 26 = .ok (.lstore 6, 2) := by decide +kernel
theorem dX2_product_28 : decode cX2_product 28 = .ok (.lload 6, 2) := by decide +kernel
theorem dX2_product_30 : decode cX2_product 30 = .ok (.lconst 0, 1) := by decide +kernel
theorem dX2_product_31 : decode cX2_product 31 = .ok (.lcmp, 1) := by decide +kernel
theorem dX2_product_32 : decode cX2_product 32 = .ok (.ifCond .le 19, 3) := by decide +kernel
theorem dX2_product_35 : decode cX2_product 35 = .ok (.lload 4, 2) := by decide +kernel
theorem dX2_product_37 : decode cX2_product 37 = .ok (.ldc2_w 27, 3) := by decide +kernel
theorem dX2_product_40 : decode cX2_product 40 = .ok (.lload 6, 2) := by decide +kernel
theorem dX2_product_42 : decode cX2_product 42 = .ok (.ldiv, 1) := by decide +kernel
theorem dX2_product_43 : decode cX2_product 43 = .ok (.lcmp, 1) := by decide +kernel
theorem dX2_product_44 : decode cX2_product 44 = .ok (.ifCond .le 7, 3) := by decide +kernel
theorem dX2_product_47 : decode cX2_product 47 = .ok (.ldc2_w 31, 3) := by decide +kernel
theorem dX2_product_50 : decode cX2_product 50 = .ok (.lreturn, 1) := by decide +kernel
theorem dX2_product_51 : decode cX2_product 51 = .ok (.lload_n 0, 1) := by decide +kernel
theorem dX2_product_52 : decode cX2_product 52 = .ok (.lload_n 2, 1) := by decide +kernel
theorem dX2_product_53 : decode cX2_product 53 = .ok (.lmul, 1) := by decide +kernel
theorem dX2_product_54 : decode cX2_product 54 = .ok (.lreturn, 1) := by decide +kernel
theorem dX3_init_0 : decode cX3_init 0 = .ok (.aload_n 0, 1) := by decide +kernel
theorem dX3_init_1 : decode cX3_init 1 = .ok (.invokespecial 3, 3) := by decide +kernel
theorem dX3_init_4 : decode cX3_init 4 = .ok (.aload_n 0, 1) := by decide +kernel
theorem dX3_init_5 : decode cX3_init 5 = .ok (.iconst (-1), 1) := by decide +kernel
theorem dX3_init_6 : decode cX3_init 6 = .ok (.putfield 9, 3) := by decide +kernel
theorem dX3_init_9 : decode cX3_init 9 = .ok (.aload_n 0, 1) := by decide +kernel
theorem dX3_init_10 : decode cX3_init 10 = .ok (.bipush 24, 2) := by decide +kernel
theorem dX3_init_12 : decode cX3_init 12 = .ok (.newarray .int, 2) := by decide +kernel
theorem dX3_init_14 : decode cX3_init 14 = .ok (.putfield 15, 3) := by decide +kernel
theorem dX3_init_17 : decode cX3_init 17 = .ok (.aload_n 0, 1) := by decide +kernel
theorem dX3_init_18 : decode cX3_init 18 = .ok (.bipush 24, 2) := by decide +kernel
theorem dX3_init_20 : decode cX3_init 20 = .ok (.newarray .int, 2) := by decide +kernel
theorem dX3_init_22 : decode cX3_init 22 = .ok (.putfield 19, 3) := by decide +kernel
theorem dX3_init_25 : decode cX3_init 25 = .ok (.aload_n 0, 1) := by decide +kernel
theorem dX3_init_26 : decode cX3_init 26 = .ok (.bipush 24, 2) := by decide +kernel
theorem dX3_init_28 : decode cX3_init 28 = .ok (.newarray .int, 2) := by decide +kernel
theorem dX3_init_30 : decode cX3_init 30 = .ok (.putfield 22, 3) := by decide +kernel
theorem dX3_init_33 : decode cX3_init 33 = .ok (.aload_n 0, 1) := by decide +kernel
theorem dX3_init_34 : decode cX3_init 34 = .ok (.bipush 24, 2) := by decide +kernel
theorem dX3_init_36 : decode cX3_init 36 = .ok (.newarray .int, 2) := by decide +kernel
theorem dX3_init_38 : decode cX3_init 38 = .ok (.putfield 25, 3) := by decide +kernel
theorem dX3_init_41 : decode cX3_init 41 = .ok (.aload_n 0, 1) := by decide +kernel
theorem dX3_init_42 : decode cX3_init 42 = .ok (.bipush 24, 2) := by decide +kernel
theorem dX3_init_44 : decode cX3_init 44 = .ok (.newarray .boolean, 2) := by decide +kernel
theorem dX3_init_46 : decode cX3_init 46 = .ok (.putfield 28, 3) := by decide +kernel
theorem dX3_init_49 : decode cX3_init 49 = .ok (.return_, 1) := by decide +kernel
theorem dX3_addSeat_0 : decode cX3_addSeat 0 = .ok (.aload_n 0, 1) := by decide +kernel
theorem dX3_addSeat_1 : decode cX3_addSeat 1 = .ok (.getfield 32, 3) := by decide +kernel
theorem dX3_addSeat_4 : decode cX3_addSeat 4 = .ok (.bipush 24, 2) := by decide +kernel
theorem dX3_addSeat_6 : decode cX3_addSeat 6 = .ok (.if_icmp .lt 5, 3) := by decide +kernel
theorem dX3_addSeat_9 : decode cX3_addSeat 9 = .ok (.iconst (-1), 1) := by decide +kernel
theorem dX3_addSeat_10 : decode cX3_addSeat 10 = .ok (.ireturn, 1) := by decide +kernel
theorem dX3_addSeat_11 : decode cX3_addSeat 11 = .ok (.aload_n 0, 1) := by decide +kernel
theorem dX3_addSeat_12 : decode cX3_addSeat 12 = .ok (.getfield 15, 3) := by decide +kernel
theorem dX3_addSeat_15 : decode cX3_addSeat 15 = .ok (.aload_n 0, 1) := by decide +kernel
theorem dX3_addSeat_16 : decode cX3_addSeat 16 = .ok (.getfield 32, 3) := by decide +kernel
theorem dX3_addSeat_19 : decode cX3_addSeat 19 = .ok (.iload_n 1, 1) := by decide +kernel
theorem dX3_addSeat_20 : decode cX3_addSeat 20 = .ok (.iastore, 1) := by decide +kernel
theorem dX3_addSeat_21 : decode cX3_addSeat 21 = .ok (.aload_n 0, 1) := by decide +kernel
theorem dX3_addSeat_22 : decode cX3_addSeat 22 = .ok (.getfield 19, 3) := by decide +kernel
theorem dX3_addSeat_25 : decode cX3_addSeat 25 = .ok (.aload_n 0, 1) := by decide +kernel
theorem dX3_addSeat_26 : decode cX3_addSeat 26 = .ok (.getfield 32, 3) := by decide +kernel
theorem dX3_addSeat_29 : decode cX3_addSeat 29 = .ok (.iload_n 2, 1) := by decide +kernel
theorem dX3_addSeat_30 : decode cX3_addSeat 30 = .ok (.iastore, 1) := by decide +kernel
theorem dX3_addSeat_31 : decode cX3_addSeat 31 = .ok (.aload_n 0, 1) := by decide +kernel
theorem dX3_addSeat_32 : decode cX3_addSeat 32 = .ok (.getfield 22, 3) := by decide +kernel
theorem dX3_addSeat_35 : decode cX3_addSeat 35 = .ok (.aload_n 0, 1) := by decide +kernel
theorem dX3_addSeat_36 : decode cX3_addSeat 36 = .ok (.getfield 32, 3) := by decide +kernel
theorem dX3_addSeat_39 : decode cX3_addSeat 39 = .ok (.iload_n 3, 1) := by decide +kernel
theorem dX3_addSeat_40 : decode cX3_addSeat 40 = .ok (.iastore, 1) := by decide +kernel
theorem dX3_addSeat_41 : decode cX3_addSeat 41 = .ok (.aload_n 0, 1) := by decide +kernel
theorem dX3_addSeat_42 : decode cX3_addSeat 42 = .ok (.getfield 25, 3) := by decide +kernel
theorem dX3_addSeat_45 : decode cX3_addSeat 45 = .ok (.aload_n 0, 1) := by decide +kernel
theorem dX3_addSeat_46 : decode cX3_addSeat 46 = .ok (.getfield 32, 3) := by decide +kernel
theorem dX3_addSeat_49 : decode cX3_addSeat 49 = .ok (.iconst (-1), 1) := by decide +kernel
theorem dX3_addSeat_50 : decode cX3_addSeat 50 = .ok (.iastore, 1) := by decide +kernel
theorem dX3_addSeat_51 : decode cX3_addSeat 51 = .ok (.aload_n 0, 1) := by decide +kernel
theorem dX3_addSeat_52 : decode cX3_addSeat 52 = .ok (.dup, 1) := by decide +kernel
theorem dX3_addSeat_53 : decode cX3_addSeat 53 = .ok (.getfield 32, 3) := by decide +kernel
theorem dX3_addSeat_56 : decode cX3_addSeat 56 = .ok (.iconst 1, 1) := by decide +kernel
theorem dX3_addSeat_57 : decode cX3_addSeat 57 = .ok (.iadd, 1) := by decide +kernel
theorem dX3_addSeat_58 : decode cX3_addSeat 58 = .ok (.putfield 32, 3) := by decide +kernel
theorem dX3_addSeat_61 : decode cX3_addSeat 61 = .ok (.aload_n 0, 1) := by decide +kernel
theorem dX3_addSeat_62 : decode cX3_addSeat 62 = .ok (.getfield 32, 3) := by decide +kernel
theorem dX3_addSeat_65 : decode cX3_addSeat 65 = .ok (.iconst 1, 1) := by decide +kernel
theorem dX3_addSeat_66 : decode cX3_addSeat 66 = .ok (.isub, 1) := by decide +kernel
theorem dX3_addSeat_67 : decode cX3_addSeat 67 = .ok (.ireturn, 1) := by decide +kernel
theorem dX3_addStrike_0 : decode cX3_addStrike 0 = .ok (.aload_n 0, 1) := by decide +kernel
theorem dX3_addStrike_1 : decode cX3_addStrike 1 = .ok (.getfield 32, 3) := by decide +kernel
theorem dX3_addStrike_4 : decode cX3_addStrike 4 = .ok (.bipush 24, 2) := by decide +kernel
theorem dX3_addStrike_6 : decode cX3_addStrike 6 = .ok (.if_icmp .lt 5, 3) := by decide +kernel
theorem dX3_addStrike_9 : decode cX3_addStrike 9 = .ok (.iconst (-1), 1) := by decide +kernel
theorem dX3_addStrike_10 : decode cX3_addStrike 10 = .ok (.ireturn, 1) := by decide +kernel
theorem dX3_addStrike_11 : decode cX3_addStrike 11 = .ok (.aload_n 0, 1) := by decide +kernel
theorem dX3_addStrike_12 : decode cX3_addStrike 12 = .ok (.getfield 19, 3) := by decide +kernel
theorem dX3_addStrike_15 : decode cX3_addStrike 15 = .ok (.aload_n 0, 1) := by decide +kernel
theorem dX3_addStrike_16 : decode cX3_addStrike 16 = .ok (.getfield 32, 3) := by decide +kernel
theorem dX3_addStrike_19 : decode cX3_addStrike 19 = .ok (.iconst (-1), 1) := by decide +kernel
theorem dX3_addStrike_20 : decode cX3_addStrike 20 = .ok (.iastore, 1) := by decide +kernel
theorem dX3_addStrike_21 : decode cX3_addStrike 21 = .ok (.aload_n 0, 1) := by decide +kernel
theorem dX3_addStrike_22 : decode cX3_addStrike 22 = .ok (.getfield 25, 3) := by decide +kernel
theorem dX3_addStrike_25 : decode cX3_addStrike 25 = .ok (.aload_n 0, 1) := by decide +kernel
theorem dX3_addStrike_26 : decode cX3_addStrike 26 = .ok (.getfield 32, 3) := by decide +kernel
theorem dX3_addStrike_29 : decode cX3_addStrike 29 = .ok (.iload_n 1, 1) := by decide +kernel
theorem dX3_addStrike_30 : decode cX3_addStrike 30 = .ok (.iastore, 1) := by decide +kernel
theorem dX3_addStrike_31 : decode cX3_addStrike 31 = .ok (.aload_n 0, 1) := by decide +kernel
theorem dX3_addStrike_32 : decode cX3_addStrike 32 = .ok (.dup, 1) := by decide +kernel
theorem dX3_addStrike_33 : decode cX3_addStrike 33 = .ok (.getfield 32, 3) := by decide +kernel
theorem dX3_addStrike_36 : decode cX3_addStrike 36 = .ok (.iconst 1, 1) := by decide +kernel
theorem dX3_addStrike_37 : decode cX3_addStrike 37 = .ok (.iadd, 1) := by decide +kernel
theorem dX3_addStrike_38 : decode cX3_addStrike 38 = .ok (.putfield 32, 3) := by decide +kernel
theorem dX3_addStrike_41 : decode cX3_addStrike 41 = .ok (.aload_n 0, 1) := by decide +kernel
theorem dX3_addStrike_42 : decode cX3_addStrike 42 = .ok (.getfield 32, 3) := by decide +kernel
theorem dX3_addStrike_45 : decode cX3_addStrike 45 = .ok (.iconst 1, 1) := by decide +kernel
theorem dX3_addStrike_46 : decode cX3_addStrike 46 = .ok (.isub, 1) := by decide +kernel
theorem dX3_addStrike_47 : decode cX3_addStrike 47 = .ok (.ireturn, 1) := by decide +kernel
theorem dX3_howManyKnown_0 : decode cX3_howManyKnown 0 = .ok (.aload_n 0, 1) := by decide +kernel
theorem dX3_howManyKnown_1 : decode cX3_howManyKnown 1 = .ok (.getfield 9, 3) := by decide +kernel
theorem dX3_howManyKnown_4 : decode cX3_howManyKnown 4 = .ok (.iconst (-1), 1) := by decide +kernel
theorem dX3_howManyKnown_5 : decode cX3_howManyKnown 5 = .ok (.if_icmp .ne 10, 3) := by decide +kernel
theorem dX3_howManyKnown_8 : decode cX3_howManyKnown 8 = .ok (.aload_n 0, 1) := by decide +kernel
theorem dX3_howManyKnown_9 : decode cX3_howManyKnown 9 = .ok (.getfield 32, 3) := by decide +kernel
theorem dX3_howManyKnown_12 : decode cX3_howManyKnown 12 = .ok (.goto 7, 3) := by decide +kernel
theorem dX3_howManyKnown_15 : decode cX3_howManyKnown 15 = .ok (.aload_n 0, 1) := by decide +kernel
theorem dX3_howManyKnown_16 : decode cX3_howManyKnown 16 = .ok (.getfield 9, 3) := by decide +kernel
theorem dX3_howManyKnown_19 : decode cX3_howManyKnown 19 = .ok (.ireturn, 1) := by decide +kernel
set_option maxRecDepth 20000 in
theorem ggX3_findStruck_X3_howManyKnown : GoodIn wsX3_findStruck wsX3_howManyKnown := goodIn_r _ [7, 8, 9, 10, 11, 12, 13, 14, 15, 16] (by decide +kernel) (by decide +kernel)
set_option maxRecDepth 20000 in
theorem gX3_findStruck_X3_howManyKnown : GoodIn wsX3_findStruck (wsV RX3 35 RX3 yX3_howManyKnown wsX3_howManyKnown) := goodIn_app (goodIn_of _ (by decide +kernel)) ggX3_findStruck_X3_howManyKnown
theorem dX3_findStruck_0 : decode cX3_findStruck 0 = .ok (.aload_n 0, 1) := by decide +kernel
theorem dX3_findStruck_1 : decode cX3_findStruck 1 = .ok (.invokevirtual 35, 3) := by decide +kernel
theorem dX3_findStruck_4 : decode cX3_findStruck 4 = .ok (.istore_n 1, 1) := by decide +kernel
theorem dX3_findStruck_5 : decode cX3_findStruck 5 = .ok (.iconst 0, 1) := by decide +kernel
theorem dX3_findStruck_6 : decode cX3_findStruck 6 = .ok (.istore_n 2, 1) := by decide +kernel
theorem dX3_findStruck_7 : decode cX3_findStruck 7 = .ok (.iload_n 2, 1) := by decide +kernel
theorem dX3_findStruck_8 : decode cX3_findStruck 8 = .ok (.iload_n 1, 1) := by decide +kernel
theorem dX3_findStruck_9 : decode cX3_findStruck 9 = .ok (.if_icmp .ge 16, 3) := by decide +kernel
theorem dX3_findStruck_12 : decode cX3_findStruck 12 = .ok (.aload_n 0, 1) := by decide +kernel
theorem dX3_findStruck_13 : decode cX3_findStruck 13 = .ok (.getfield 28, 3) := by decide +kernel
theorem dX3_findStruck_16 : decode cX3_findStruck 16 = .ok (.iload_n 2, 1) := by decide +kernel
theorem dX3_findStruck_17 : decode cX3_findStruck 17 = .ok (.iconst 0, 1) := by decide +kernel
theorem dX3_findStruck_18 : decode cX3_findStruck 18 = .ok (.bastore, 1) := by decide +kernel
theorem dX3_findStruck_19 : decode cX3_findStruck 19 = .ok (.iinc 2 1, 3) := by decide +kernel
theorem dX3_findStruck_22 : decode cX3_findStruck 22 = .ok (.goto (-15), 3) := by decide +kernel
theorem dX3_findStruck_25 : decode cX3_findStruck 25 = .ok (.iload_n 1, 1) := by decide +kernel
theorem dX3_findStruck_26 : decode cX3_findStruck 26 = .ok (.iconst 1, 1) := by decide +kernel
theorem dX3_findStruck_27 : decode cX3_findStruck 27 = .ok (.isub, 1) := by decide +kernel
theorem dX3_findStruck_28 : decode cX3_findStruck 28 = .ok (.istore_n 2, 1) := by decide +kernel
theorem dX3_findStruck_29 : decode cX3_findStruck 29 = .ok (.iload_n 2, 1) := by decide +kernel
theorem dX3_findStruck_30 : decode cX3_findStruck 30 = .ok (.ifCond .lt 40, 3) := by decide +kernel
theorem dX3_findStruck_33 : decode cX3_findStruck 33 = .ok (.aload_n 0, 1) := by decide +kernel
theorem dX3_findStruck_34 : decode cX3_findStruck 34 = .ok (.getfield 28, 3) := by decide +kernel
theorem dX3_findStruck_37 : decode cX3_findStruck 37 = .ok (.iload_n 2, 1) := by decide +kernel
theorem dX3_findStruck_38 : decode cX3_findStruck 38 = .ok (.baload, 1) := by decide +kernel
theorem dX3_findStruck_39 : decode cX3_findStruck 39 = .ok (.ifCond .ne 25, 3) := by decide +kernel
theorem dX3_findStruck_42 : decode cX3_findStruck 42 = .ok (.aload_n 0, 1) := by decide +kernel
theorem dX3_findStruck_43 : decode cX3_findStruck 43 = .ok (.getfield 25, 3) := by decide +kernel
theorem dX3_findStruck_46 : decode cX3_findStruck 46 = .ok (.iload_n 2, 1) := by decide +kernel
theorem dX3_findStruck_47 : decode cX3_findStruck 47 = .ok (.iaload, 1) := by decide +kernel
theorem dX3_findStruck_48 : decode cX3_findStruck 48 = .ok (.iconst (-1), 1) := by decide +kernel
theorem dX3_findStruck_49 : decode cX3_findStruck 49 = .ok (.if_icmp .eq 15, 3) := by decide +kernel
theorem dX3_findStruck_52 : decode cX3_findStruck 52 = .ok (.aload_n 0, 1) := by decide +kernel
theorem dX3_findStruck_53 : decode cX3_findStruck 53 = .ok (.getfield 28, 3) := by decide +kernel
theorem dX3_findStruck_56 : decode cX3_findStruck 56 = .ok (.aload_n 0, 1) := by decide +kernel
theorem dX3_findStruck_57 : decode cX3_findStruck 57 = .ok (.getfield 25, 3) := by decide +kernel
theorem dX3_findStruck_60 : decode cX3_findStruck 60 = .ok (.iload_n 2, 1) := by decide +kernel
theorem dX3_findStruck_61 : decode cX3_findStruck 61 = .ok (.iaload, 1) := by decide +kernel
theorem dX3_findStruck_62 : decode cX3_findStruck 62 = .ok (.iconst 1, 1) := by decide +kernel
theorem dX3_findStruck_63 : decode cX3_findStruck 63 = .ok (.bastore, 1) := by decide +kernel
theorem dX3_findStruck_64 : decode cX3_findStruck 64 = .ok (.iinc 2 (-1), 3) := by decide +kernel
theorem dX3_findStruck_67 : decode cX3_findStruck 67 = .ok (.goto (-38), 3) := by decide +kernel
theorem dX3_findStruck_70 : decode cX3_findStruck 70 = .ok (.return_, 1) := by decide +kernel
theorem dX3_isKnownSeat_0 : decode cX3_isKnownSeat 0 = .ok (.aload_n 0, 1) := by decide +kernel
theorem dX3_isKnownSeat_1 : decode cX3_isKnownSeat 1 = .ok (.getfield 28, 3) := by decide +kernel
theorem dX3_isKnownSeat_4 : decode cX3_isKnownSeat 4 = .ok (.iload_n 1, 1) := by decide +kernel
theorem dX3_isKnownSeat_5 : decode cX3_isKnownSeat 5 = .ok (.baload, 1) := by decide +kernel
theorem dX3_isKnownSeat_6 : decode cX3_isKnownSeat 6 = .ok (.ifCond .ne 17, 3) := by decide +kernel
theorem dX3_isKnownSeat_9 : decode cX3_isKnownSeat 9 = .ok (.aload_n 0, 1) := by decide +kernel
theorem dX3_isKnownSeat_10 : decode cX3_isKnownSeat 10 = .ok (.getfield 25, 3) := by decide +kernel
theorem dX3_isKnownSeat_13 : decode cX3_isKnownSeat 13 = .ok (.iload_n 1, 1) := by decide +kernel
theorem dX3_isKnownSeat_14 : decode cX3_isKnownSeat 14 = .ok (.iaload, 1) := by decide +kernel
theorem dX3_isKnownSeat_15 : decode cX3_isKnownSeat 15 = .ok (.iconst (-1), 1) := by decide +kernel
theorem dX3_isKnownSeat_16 : decode cX3_isKnownSeat 16 = .ok (.if_icmp .ne 7, 3) := by decide +kernel
theorem dX3_isKnownSeat_19 : decode cX3_isKnownSeat 19 = .ok (.iconst 1, 1) := by decide +kernel
theorem dX3_isKnownSeat_20 : decode cX3_isKnownSeat 20 = .ok (.goto 4, 3) := by decide +kernel
theorem dX3_isKnownSeat_23 : decode cX3_isKnownSeat 23 = .ok (.iconst 0, 1) := by decide +kernel
theorem dX3_isKnownSeat_24 : decode cX3_isKnownSeat 24 = .ok (.ireturn, 1) := by decide +kernel
theorem dX4_init_0 : decode cX4_init 0 = .ok (.aload_n 0, 1) := by decide +kernel
theorem dX4_init_1 : decode cX4_init 1 = .ok (.invokespecial 3, 3) := by decide +kernel
theorem dX4_init_4 : decode cX4_init 4 = .ok (.aload_n 0, 1) := by decide +kernel
theorem dX4_init_5 : decode cX4_init 5 = .ok (.iconst 5, 1) := by decide +kernel
theorem dX4_init_6 : decode cX4_init 6 = .ok (.newarray .int, 2) := by decide +kernel
theorem dX4_init_8 : decode cX4_init 8 = .ok (.putfield 9, 3) := by decide +kernel
theorem dX4_init_11 : decode cX4_init 11 = .ok (.aload_n 0, 1) := by decide +kernel
theorem dX4_init_12 : decode cX4_init 12 = .ok (.iconst 5, 1) := by decide +kernel
theorem dX4_init_13 : decode cX4_init 13 = .ok (.newarray .int, 2) := by decide +kernel
theorem dX4_init_15 : decode cX4_init 15 = .ok (.putfield 15, 3) := by decide +kernel
theorem dX4_init_18 : decode cX4_init 18 = .ok (.aload_n 0, 1) := by decide +kernel
theorem dX4_init_19 : decode cX4_init 19 = .ok (.iconst 5, 1) := by decide +kernel
theorem dX4_init_20 : decode cX4_init 20 = .ok (.newarray .int, 2) := by decide +kernel
theorem dX4_init_22 : decode cX4_init 22 = .ok (.putfield 18, 3) := by decide +kernel
theorem dX4_init_25 : decode cX4_init 25 = .ok (.aload_n 0, 1) := by decide +kernel
theorem dX4_init_26 : decode cX4_init 26 = .ok (.iconst 5, 1) := by decide +kernel
theorem dX4_init_27 : decode cX4_init 27 = .ok (.newarray .int, 2) := by decide +kernel
theorem dX4_init_29 : decode cX4_init 29 = .ok (.putfield 21, 3) := by decide +kernel
theorem dX4_init_32 : decode cX4_init 32 = .ok (.aload_n 0, 1) := by decide +kernel
theorem dX4_init_33 : decode cX4_init 33 = .ok (.iconst 5, 1) := by decide +kernel
theorem dX4_init_34 : decode cX4_init 34 = .ok (.newarray .int, 2) := by decide +kernel
theorem dX4_init_36 : decode cX4_init 36 = .ok (.putfield 24, 3) := by decide +kernel
theorem dX4_init_39 : decode cX4_init 39 = .ok (.aload_n 0, 1) := by decide +kernel
theorem dX4_init_40 : decode cX4_init 40 = .ok (.bipush 28, 2) := by decide +kernel
theorem dX4_init_42 : decode cX4_init 42 = .ok (.newarray .int, 2) := by decide +kernel
theorem dX4_init_44 : decode cX4_init 44 = .ok (.putfield 27, 3) := by decide +kernel
theorem dX4_init_47 : decode cX4_init 47 = .ok (.return_, 1) := by decide +kernel
theorem dX4_begin_0 : decode cX4_begin 0 = .ok (.aload_n 0, 1) := by decide +kernel
theorem dX4_begin_1 : decode cX4_begin 1 = .ok (.iconst 0, 1) := by decide +kernel
theorem dX4_begin_2 : decode cX4_begin 2 = .ok (.putfield 30, 3) := by decide +kernel
theorem dX4_begin_5 : decode cX4_begin 5 = .ok (.aload_n 0, 1) := by decide +kernel
theorem dX4_begin_6 : decode cX4_begin 6 = .ok (.aload_n 1, 1) := by decide +kernel
theorem dX4_begin_7 : decode cX4_begin 7 = .ok (.getfield 34, 3) := by decide +kernel
theorem dX4_begin_10 : decode cX4_begin 10 = .ok (.putfield 39, 3) := by decide +kernel
theorem dX4_begin_13 : decode cX4_begin 13 = .ok (.aload_n 0, 1) := by decide +kernel
theorem dX4_begin_14 : decode cX4_begin 14 = .ok (.aload_n 1, 1) := by decide +kernel
theorem dX4_begin_15 : decode cX4_begin 15 = .ok (.getfield 40, 3) := by decide +kernel
theorem dX4_begin_18 : decode cX4_begin 18 = .ok (.putfield 43, 3) := by decide +kernel
theorem dX4_begin_21 : decode cX4_begin 21 = .ok (.aload_n 0, 1) := by decide +kernel
theorem dX4_begin_22 : decode cX4_begin 22 = .ok (.iconst 0, 1) := by decide +kernel
theorem dX4_begin_23 : decode cX4_begin 23 = .ok (.putfield 46, 3) := by decide +kernel
theorem dX4_begin_26 : decode cX4_begin 26 = .ok (.aload_n 0, 1) := by decide +kernel
theorem dX4_begin_27 : decode cX4_begin 27 = .ok (.iconst 0, 1) := by decide +kernel
theorem dX4_begin_28 : decode cX4_begin 28 = .ok (.putfield 49, 3) := by decide +kernel
theorem dX4_begin_31 : decode cX4_begin 31 = .ok (.iconst 0, 1) := by decide +kernel
theorem dX4_begin_32 : decode cX4_begin 32 = .ok (.istore_n 2, 1) := by decide +kernel
theorem dX4_begin_33 : decode cX4_begin 33 = .ok (.iload_n 2, 1) := by decide +kernel
theorem dX4_begin_34 : decode cX4_begin 34 = .ok (.iconst 5, 1) := by decide +kernel
theorem dX4_begin_35 : decode cX4_begin 35 = .ok (.if_icmp .ge 52, 3) := by decide +kernel
theorem dX4_begin_38 : decode cX4_begin 38 = .ok (.aload_n 0, 1) := by decide +kernel
theorem dX4_begin_39 : decode cX4_begin 39 = .ok (.getfield 9, 3) := by decide +kernel
theorem dX4_begin_42 : decode cX4_begin 42 = .ok (.iload_n 2, 1) := by decide +kernel
theorem dX4_begin_43 : decode cX4_begin 43 = .ok (.aload_n 1, 1) := by decide +kernel
theorem dX4_begin_44 : decode cX4_begin 44 = .ok (.getfield 52, 3) := by decide +kernel
theorem dX4_begin_47 : decode cX4_begin 47 = .ok (.getfield 56, 3) := by decide +kernel
theorem dX4_begin_50 : decode cX4_begin 50 = .ok (.iload_n 2, 1) := by decide +kernel
theorem dX4_begin_51 : decode cX4_begin 51 = .ok (.iaload, 1) := by decide +kernel
theorem dX4_begin_52 : decode cX4_begin 52 = .ok (.iastore, 1) := by decide +kernel
theorem dX4_begin_53 : decode cX4_begin 53 = .ok (.aload_n 0, 1) := by decide +kernel
theorem dX4_begin_54 : decode cX4_begin 54 = .ok (.getfield 15, 3) := by decide +kernel
theorem dX4_begin_57 : decode cX4_begin 57 = .ok (.iload_n 2, 1) := by decide +kernel
theorem dX4_begin_58 : decode cX4_begin 58 = .ok (.iconst 0, 1) := by decide +kernel
theorem dX4_begin_59 : decode cX4_begin 59 = .ok (.iastore, 1) := by decide +kernel
theorem dX4_begin_60 : decode cX4_begin 60 = .ok (.aload_n 0, 1) := by decide +kernel
theorem dX4_begin_61 : decode cX4_begin 61 = .ok (.getfield 18, 3) := by decide +kernel
theorem dX4_begin_64 : decode cX4_begin 64 = .ok (.iload_n 2, 1) := by decide +kernel
theorem dX4_begin_65 : decode cX4_begin 65 = .ok (.iconst 0, 1) := by decide +kernel
theorem dX4_begin_66 : decode cX4_begin 66 = .ok (.iastore, 1) := by decide +kernel
theorem dX4_begin_67 : decode cX4_begin 67 = .ok (.aload_n 0, 1) := by decide +kernel
theorem dX4_begin_68 : decode cX4_begin 68 = .ok (.getfield 21, 3) := by decide +kernel
theorem dX4_begin_71 : decode cX4_begin 71 = .ok (.iload_n 2, 1) := by decide +kernel
theorem dX4_begin_72 : decode cX4_begin 72 = .ok (.iconst 0, 1) := by decide +kernel
theorem dX4_begin_73 : decode cX4_begin 73 = .ok (.iastore, 1) := by decide +kernel
theorem dX4_begin_74 : decode cX4_begin 74 = .ok (.aload_n 0, 1) := by decide +kernel
theorem dX4_begin_75 : decode cX4_begin 75 = .ok (.getfield 24, 3) := by decide +kernel
theorem dX4_begin_78 : decode cX4_begin 78 = .ok (.iload_n 2, 1) := by decide +kernel
theorem dX4_begin_79 : decode cX4_begin 79 = .ok (.iconst 0, 1) := by decide +kernel
theorem dX4_begin_80 : decode cX4_begin 80 = .ok (.iastore, 1) := by decide +kernel
theorem dX4_begin_81 : decode cX4_begin 81 = .ok (.iinc 2 1, 3) := by decide +kernel
theorem dX4_begin_84 : decode cX4_begin 84 = .ok (.goto (-51), 3) := by decide +kernel
theorem dX4_begin_87 : decode cX4_begin 87 = .ok (.iconst 0, 1) := by decide +kernel
theorem dX4_begin_88 : decode cX4_begin 88 = .ok (.istore_n 2, 1) := by decide +kernel
theorem dX4_begin_89 : decode cX4_begin 89 = .ok (.iload_n 2, 1) := by decide +kernel
theorem dX4_begin_90 : decode cX4_begin 90 = .ok (.bipush 28, 2) := by decide +kernel
theorem dX4_begin_92 : decode cX4_begin 92 = .ok (.if_icmp .ge 17, 3) := by decide +kernel
theorem dX4_begin_95 : decode cX4_begin 95 = .ok (.aload_n 0, 1) := by decide +kernel
theorem dX4_begin_96 : decode cX4_begin 96 = .ok (.getfield 27, 3) := by decide +kernel
theorem dX4_begin_99 : decode cX4_begin 99 = .ok (.iload_n 2, 1) := by decide +kernel
theorem dX4_begin_100 : decode cX4_begin 100 = .ok (.bipush (-2), 2) := by decide +kernel
theorem dX4_begin_102 : decode cX4_begin 102 = .ok (.iastore, 1) := by decide +kernel
theorem dX4_begin_103 : decode cX4_begin 103 = .ok (.iinc 2 1, 3) := by decide +kernel
theorem dX4_begin_106 : decode cX4_begin 106 = .ok (.goto (-17), 3) := by decide +kernel
theorem dX4_begin_109 : decode cX4_begin 109 = .ok (.return_, 1) := by decide +kernel
theorem dX4_takeAll_0 : decode cX4_takeAll 0 = .ok (.aload_n 0, 1) := by decide +kernel
theorem dX4_takeAll_1 : decode cX4_takeAll 1 = .ok (.aload_n 1, 1) := by decide +kernel
theorem dX4_takeAll_2 : decode cX4_takeAll 2 = .ok (.getfield 30, 3) := by decide +kernel
theorem dX4_takeAll_5 : decode cX4_takeAll 5 = .ok (.putfield 30, 3) := by decide +kernel
theorem dX4_takeAll_8 : decode cX4_takeAll 8 = .ok (.aload_n 0, 1) := by decide +kernel
theorem dX4_takeAll_9 : decode cX4_takeAll 9 = .ok (.aload_n 1, 1) := by decide +kernel
theorem dX4_takeAll_10 : decode cX4_takeAll 10 = .ok (.getfield 39, 3) := by decide +kernel
theorem dX4_takeAll_13 : decode cX4_takeAll 13 = .ok (.putfield 39, 3) := by decide +kernel
theorem dX4_takeAll_16 : decode cX4_takeAll 16 = .ok (.aload_n 0, 1) := by decide +kernel
theorem dX4_takeAll_17 : decode cX4_takeAll 17 = .ok (.aload_n 1, 1) := by decide +kernel
theorem dX4_takeAll_18 : decode cX4_takeAll 18 = .ok (.getfield 43, 3) := by decide +kernel
theorem dX4_takeAll_21 : decode cX4_takeAll 21 = .ok (.putfield 43, 3) := by decide +kernel
theorem dX4_takeAll_24 : decode cX4_takeAll 24 = .ok (.aload_n 0, 1) := by decide +kernel
theorem dX4_takeAll_25 : decode cX4_takeAll 25 = .ok (.aload_n 1, 1) := by decide +kernel
theorem dX4_takeAll_26 : decode cX4_takeAll 26 = .ok (.getfield 46, 3) := by decide +kernel
theorem dX4_takeAll_29 : decode cX4_takeAll 29 = .ok (.putfield 46, 3) := by decide +kernel
theorem dX4_takeAll_32 : decode cX4_takeAll 32 = .ok (.aload_n 0, 1) := by decide +kernel
theorem dX4_takeAll_33 : decode cX4_takeAll 33 = .ok (.aload_n 1, 1) := by decide +kernel
theorem dX4_takeAll_34 : decode cX4_takeAll 34 = .ok (.getfield 49, 3) := by decide +kernel
theorem dX4_takeAll_37 : decode cX4_takeAll 37 = .ok (.putfield 49, 3) := by decide +kernel
theorem dX4_takeAll_40 : decode cX4_takeAll 40 = .ok (.aload_n 1, 1) := by decide +kernel
theorem dX4_takeAll_41 : decode cX4_takeAll 41 = .ok (.getfield 9, 3) := by decide +kernel
theorem dX4_takeAll_44 : decode cX4_takeAll 44 = .ok (.iconst 0, 1) := by decide +kernel
theorem dX4_takeAll_45 : decode cX4_takeAll 45 = .ok (.aload_n 0, 1) := by decide +kernel
theorem dX4_takeAll_46 : decode cX4_takeAll 46 = .ok (.getfield 9, 3) := by decide +kernel
theorem dX4_takeAll_49 : decode cX4_takeAll 49 = .ok (.iconst 0, 1) := by decide +kernel
theorem dX4_takeAll_50 : decode cX4_takeAll 50 = .ok (.iconst 5, 1) := by decide +kernel
theorem dX4_takeAll_51 : decode cX4_takeAll 51 = .ok (.invokestatic 59, 3) := by decide +kernel
theorem dX4_takeAll_54 : decode cX4_takeAll 54 = .ok (.aload_n 1, 1) := by decide +kernel
theorem dX4_takeAll_55 : decode cX4_takeAll 55 = .ok (.getfield 15, 3) := by decide +kernel
theorem dX4_takeAll_58 : decode cX4_takeAll 58 = .ok (.iconst 0, 1) := by decide +kernel
theorem dX4_takeAll_59 : decode cX4_takeAll 59 = .ok (.aload_n 0, 1) := by decide +kernel
theorem dX4_takeAll_60 : decode cX4_takeAll 60 = .ok (.getfield 15, 3) := by decide +kernel
theorem dX4_takeAll_63 : decode cX4_takeAll 63 = .ok (.iconst 0, 1) := by decide +kernel
theorem dX4_takeAll_64 : decode cX4_takeAll 64 = .ok (.iconst 5, 1) := by decide +kernel
theorem dX4_takeAll_65 : decode cX4_takeAll 65 = .ok (.invokestatic 59, 3) := by decide +kernel
theorem dX4_takeAll_68 : decode cX4_takeAll 68 = .ok (.aload_n 1, 1) := by decide +kernel
theorem dX4_takeAll_69 : decode cX4_takeAll 69 = .ok (.getfield 18, 3) := by decide +kernel
theorem dX4_takeAll_72 : decode cX4_takeAll 72 = .ok (.iconst 0, 1) := by decide +kernel
theorem dX4_takeAll_73 : decode cX4_takeAll 73 = .ok (.aload_n 0, 1) := by decide +kernel
theorem dX4_takeAll_74 : decode cX4_takeAll 74 = .ok (.getfield 18, 3) := by decide +kernel
theorem dX4_takeAll_77 : decode cX4_takeAll 77 = .ok (.iconst 0, 1) := by decide +kernel
theorem dX4_takeAll_78 : decode cX4_takeAll 78 = .ok (.iconst 5, 1) := by decide +kernel
theorem dX4_takeAll_79 : decode cX4_takeAll 79 = .ok (.invokestatic 59, 3) := by decide +kernel
theorem dX4_takeAll_82 : decode cX4_takeAll 82 = .ok (.aload_n 1, 1) := by decide +kernel
theorem dX4_takeAll_83 : decode cX4_takeAll 83 = .ok (.getfield 21, 3) := by decide +kernel
theorem dX4_takeAll_86 : decode cX4_takeAll 86 = .ok (.iconst 0, 1) := by decide +kernel
theorem dX4_takeAll_87 : decode cX4_takeAll 87 = .ok (.aload_n 0, 1) := by decide +kernel
theorem dX4_takeAll_88 : decode cX4_takeAll 88 = .ok (.getfield 21, 3) := by decide +kernel
theorem dX4_takeAll_91 : decode cX4_takeAll 91 = .ok (.iconst 0, 1) := by decide +kernel
theorem dX4_takeAll_92 : decode cX4_takeAll 92 = .ok (.iconst 5, 1) := by decide +kernel
theorem dX4_takeAll_93 : decode cX4_takeAll 93 = .ok (.invokestatic 59, 3) := by decide +kernel
theorem dX4_takeAll_96 : decode cX4_takeAll 96 = .ok (.aload_n 1, 1) := by decide +kernel
theorem dX4_takeAll_97 : decode cX4_takeAll 97 = .ok (.getfield 24, 3) := by decide +kernel
theorem dX4_takeAll_100 : decode cX4_takeAll 100 = .ok (.iconst 0, 1) := by decide +kernel
theorem dX4_takeAll_101 : decode cX4_takeAll 101 = .ok (.aload_n 0, 1) := by decide +kernel
theorem dX4_takeAll_102 : decode cX4_takeAll 102 = .ok (.getfield 24, 3) := by decide +kernel
theorem dX4_takeAll_105 : decode cX4_takeAll 105 = .ok (.iconst 0, 1) := by decide +kernel
theorem dX4_takeAll_106 : decode cX4_takeAll 106 = .ok (.iconst 5, 1) := by decide +kernel
theorem dX4_takeAll_107 : decode cX4_takeAll 107 = .ok (.invokestatic 59, 3) := by decide +kernel
theorem dX4_takeAll_110 : decode cX4_takeAll 110 = .ok (.aload_n 1, 1) := by decide +kernel
theorem dX4_takeAll_111 : decode cX4_takeAll 111 = .ok (.getfield 27, 3) := by decide +kernel
theorem dX4_takeAll_114 : decode cX4_takeAll 114 = .ok (.iconst 0, 1) := by decide +kernel
theorem dX4_takeAll_115 : decode cX4_takeAll 115 = .ok (.aload_n 0, 1) := by decide +kernel
theorem dX4_takeAll_116 : decode cX4_takeAll 116 = .ok (.getfield 27, 3) := by decide +kernel
theorem dX4_takeAll_119 : decode cX4_takeAll 119 = .ok (.iconst 0, 1) := by decide +kernel
theorem dX4_takeAll_120 : decode cX4_takeAll 120 = .ok (.bipush 28, 2) := by decide +kernel
theorem dX4_takeAll_122 : decode cX4_takeAll 122 = .ok (.invokestatic 59, 3) := by decide +kernel
theorem dX4_takeAll_125 : decode cX4_takeAll 125 = .ok (.return_, 1) := by decide +kernel
set_option maxRecDepth 20000 in
theorem ggX4_takeForRun_X4_takeAll : GoodIn wsX4_takeForRun wsX4_takeAll := goodIn_r _ [9, 10, 1, 2, 3, 4, 11, 12, 13, 14, 15, 16, 17, 18, 19, 20, 21, 22, 23, 24, 25, 26, 27, 28, 29, 30, 31] (by decide +kernel) (by decide +kernel)
set_option maxRecDepth 20000 in
theorem gX4_takeForRun_X4_takeAll : GoodIn wsX4_takeForRun (wsV RX4 65 RX4 yX4_takeAll wsX4_takeAll) := goodIn_app (goodIn_of _ (by decide +kernel)) ggX4_takeForRun_X4_takeAll
theorem dX4_takeForRun_0 : decode cX4_takeForRun 0 = .ok (.aload_n 0, 1) := by decide +kernel
theorem dX4_takeForRun_1 : decode cX4_takeForRun 1 = .ok (.aload_n 1, 1) := by decide +kernel
theorem dX4_takeForRun_2 : decode cX4_takeForRun 2 = .ok (.invokevirtual 65, 3) := by decide +kernel
theorem dX4_takeForRun_5 : decode cX4_takeForRun 5 = .ok (.aload_n 0, 1) := by decide +kernel
theorem dX4_takeForRun_6 : decode cX4_takeForRun 6 = .ok (.iload_n 2, 1) := by decide +kernel
theorem dX4_takeForRun_7 : decode cX4_takeForRun 7 = .ok (.putfield 39, 3) := by decide +kernel
theorem dX4_takeForRun_10 : decode cX4_takeForRun 10 = .ok (.aload_n 0, 1) := by decide +kernel
theorem dX4_takeForRun_11 : decode cX4_takeForRun 11 = .ok (.iload_n 3, 1) := by decide +kernel
theorem dX4_takeForRun_12 : decode cX4_takeForRun 12 = .ok (.putfield 43, 3) := by decide +kernel
theorem dX4_takeForRun_15 : decode cX4_takeForRun 15 = .ok (.aload_n 0, 1) := by decide +kernel
theorem dX4_takeForRun_16 : decode cX4_takeForRun 16 = .ok (.iconst 0, 1) := by decide +kernel
theorem dX4_takeForRun_17 : decode cX4_takeForRun 17 = .ok (.putfield 46, 3) := by decide +kernel
theorem dX4_takeForRun_20 : decode cX4_takeForRun 20 = .ok (.aload_n 0, 1) := by decide +kernel
theorem dX4_takeForRun_21 : decode cX4_takeForRun 21 = .ok (.iconst 0, 1) := by decide +kernel
theorem dX4_takeForRun_22 : decode cX4_takeForRun 22 = .ok (.putfield 49, 3) := by decide +kernel
theorem dX4_takeForRun_25 : decode cX4_takeForRun 25 = .ok (.return_, 1) := by decide +kernel
theorem dX4_leaveOut_0 : decode cX4_leaveOut 0 = .ok (.aload_n 0, 1) := by decide +kernel
theorem dX4_leaveOut_1 : decode cX4_leaveOut 1 = .ok (.getfield 21, 3) := by decide +kernel
theorem dX4_leaveOut_4 : decode cX4_leaveOut 4 = .ok (.iload_n 1, 1) := by decide +kernel
theorem dX4_leaveOut_5 : decode cX4_leaveOut 5 = .ok (.ldc 71, 2) := by decide +kernel
theorem dX4_leaveOut_7 : decode cX4_leaveOut 7 = .ok (.iastore, 1) := by decide +kernel
theorem dX4_leaveOut_8 : decode cX4_leaveOut 8 = .ok (.return_, 1) := by decide +kernel
theorem dX4_seatAll_0 : decode cX4_seatAll 0 = .ok (.iconst 0, 1) := by decide +kernel
theorem dX4_seatAll_1 : decode cX4_seatAll 1 = .ok (.istore_n 2, 1) := by decide +kernel
theorem dX4_seatAll_2 : decode cX4_seatAll 2 = .ok (.iload_n 2, 1) := by decide +kernel
theorem dX4_seatAll_3 : decode cX4_seatAll 3 = .ok (.iconst 5, 1) := by decide +kernel
theorem dX4_seatAll_4 : decode cX4_seatAll 4 = .ok (.if_icmp .ge 16, 3) := by decide +kernel
theorem dX4_seatAll_7 : decode cX4_seatAll 7 = .ok (.aload_n 0, 1) := by decide +kernel
theorem dX4_seatAll_8 : decode cX4_seatAll 8 = .ok (.getfield 9, 3) := by decide +kernel
theorem dX4_seatAll_11 : decode cX4_seatAll 11 = .ok (.iload_n 2, 1) := by decide +kernel
theorem dX4_seatAll_12 : decode cX4_seatAll 12 = .ok (.iload_n 1, 1) := by decide +kernel
theorem dX4_seatAll_13 : decode cX4_seatAll 13 = .ok (.iastore, 1) := by decide +kernel
theorem dX4_seatAll_14 : decode cX4_seatAll 14 = .ok (.iinc 2 1, 3) := by decide +kernel
theorem dX4_seatAll_17 : decode cX4_seatAll 17 = .ok (.goto (-15), 3) := by decide +kernel
theorem dX4_seatAll_20 : decode cX4_seatAll 20 = .ok (.return_, 1) := by decide +kernel
theorem dX4_isIn_0 : decode cX4_isIn 0 = .ok (.aload_n 0, 1) := by decide +kernel
theorem dX4_isIn_1 : decode cX4_isIn 1 = .ok (.getfield 21, 3) := by decide +kernel
theorem dX4_isIn_4 : decode cX4_isIn 4 = .ok (.iload_n 1, 1) := by decide +kernel
theorem dX4_isIn_5 : decode cX4_isIn 5 = .ok (.iaload, 1) := by decide +kernel
theorem dX4_isIn_6 : decode cX4_isIn 6 = .ok (.iload_n 2, 1) := by decide +kernel
theorem dX4_isIn_7 : decode cX4_isIn 7 = .ok (.if_icmp .gt 7, 3) := by decide +kernel
theorem dX4_isIn_10 : decode cX4_isIn 10 = .ok (.iconst 1, 1) := by decide +kernel
theorem dX4_isIn_11 : decode cX4_isIn 11 = .ok (.goto 4, 3) := by decide +kernel
theorem dX4_isIn_14 : decode cX4_isIn 14 = .ok (.iconst 0, 1) := by decide +kernel
theorem dX4_isIn_15 : decode cX4_isIn 15 = .ok (.ireturn, 1) := by decide +kernel
set_option maxRecDepth 20000 in
theorem ggX4_beginMinute_X4_isIn : GoodIn wsX4_beginMinute wsX4_isIn := goodIn_r _ [8, 2, 9, 10, 11, 12, 13, 14, 15, 16, 17, 18, 19] (by decide +kernel) (by decide +kernel)
set_option maxRecDepth 20000 in
theorem gX4_beginMinute_X4_isIn : GoodIn wsX4_beginMinute (wsV RX4 72 RX4 yX4_isIn wsX4_isIn) := goodIn_app (goodIn_of _ (by decide +kernel)) ggX4_beginMinute_X4_isIn
theorem dX4_beginMinute_0 : decode cX4_beginMinute 0 = .ok (.aload_n 0, 1) := by decide +kernel
theorem dX4_beginMinute_1 : decode cX4_beginMinute 1 = .ok (.dup, 1) := by decide +kernel
theorem dX4_beginMinute_2 : decode cX4_beginMinute 2 = .ok (.getfield 30, 3) := by decide +kernel
theorem dX4_beginMinute_5 : decode cX4_beginMinute 5 = .ok (.iconst 1, 1) := by decide +kernel
theorem dX4_beginMinute_6 : decode cX4_beginMinute 6 = .ok (.iadd, 1) := by decide +kernel
theorem dX4_beginMinute_7 : decode cX4_beginMinute 7 = .ok (.putfield 30, 3) := by decide +kernel
theorem dX4_beginMinute_10 : decode cX4_beginMinute 10 = .ok (.iconst 0, 1) := by decide +kernel
theorem dX4_beginMinute_11 : decode cX4_beginMinute 11 = .ok (.istore_n 2, 1) := by decide +kernel
theorem dX4_beginMinute_12 : decode cX4_beginMinute 12 = .ok (.iload_n 2, 1) := by decide +kernel
theorem dX4_beginMinute_13 : decode cX4_beginMinute 13 = .ok (.iload_n 1, 1) := by decide +kernel
theorem dX4_beginMinute_14 : decode cX4_beginMinute 14 = .ok (.if_icmp .ge 35, 3) := by decide +kernel
theorem dX4_beginMinute_17 : decode cX4_beginMinute 17 = .ok (.aload_n 0, 1) := by decide +kernel
theorem dX4_beginMinute_18 : decode cX4_beginMinute 18 = .ok (.iload_n 2, 1) := by decide +kernel
theorem dX4_beginMinute_19 : decode cX4_beginMinute 19 = .ok (.aload_n 0, 1) := by decide +kernel
theorem dX4_beginMinute_20 : decode cX4_beginMinute 20 = .ok (.getfield 30, 3) := by decide +kernel
theorem dX4_beginMinute_23 : decode cX4_beginMinute 23 = .ok (.invokevirtual 72, 3) := by decide +kernel
theorem dX4_beginMinute_26 : decode cX4_beginMinute 26 = .ok (.ifCond .eq 10, 3) := by decide +kernel
theorem dX4_beginMinute_29 : decode cX4_beginMinute 29 = .ok (.aload_n 0, 1) := by decide +kernel
theorem dX4_beginMinute_30 : decode cX4_beginMinute 30 = .ok (.getfield 21, 3) := by decide +kernel
theorem dX4_beginMinute_33 : decode cX4_beginMinute 33 = .ok (.iload_n 2, 1) := by decide +kernel
theorem dX4_beginMinute_34 : decode cX4_beginMinute 34 = .ok (.iconst 0, 1) := by decide +kernel
theorem dX4_beginMinute_35 : decode cX4_beginMinute 35 = .ok (.iastore, 1) := by decide +kernel
theorem dX4_beginMinute_36 : decode cX4_beginMinute 36 = .ok (.aload_n 0, 1) := by decide +kernel
theorem dX4_beginMinute_37 : decode cX4_beginMinute 37 = .ok (.getfield 24, 3) := by decide +kernel
theorem dX4_beginMinute_40 : decode cX4_beginMinute 40 = .ok (.iload_n 2, 1) := by decide +kernel
theorem dX4_beginMinute_41 : decode cX4_beginMinute 41 = .ok (.iconst 0, 1) := by decide +kernel
theorem dX4_beginMinute_42 : decode cX4_beginMinute 42 = .ok (.iastore, 1) := by decide +kernel
theorem dX4_beginMinute_43 : decode cX4_beginMinute 43 = .ok (.iinc 2 1, 3) := by decide +kernel
theorem dX4_beginMinute_46 : decode cX4_beginMinute 46 = .ok (.goto (-34), 3) := by decide +kernel
theorem dX4_beginMinute_49 : decode cX4_beginMinute 49 = .ok (.return_, 1) := by decide +kernel
theorem dX4_drawHundredth_0 : decode cX4_drawHundredth 0 = .ok (.aload_n 0, 1) := by decide +kernel
theorem dX4_drawHundredth_1 : decode cX4_drawHundredth 1 = .ok (.aload_n 0, 1) := by decide +kernel
theorem dX4_drawHundredth_2 : decode cX4_drawHundredth 2 = .ok (.getfield 43, 3) := by decide +kernel
theorem dX4_drawHundredth_5 : decode cX4_drawHundredth 5 = .ok (.i2l, 1) := by decide +kernel
theorem dX4_drawHundredth_6 : decode cX4_drawHundredth 6 = .ok (.ldc2_w 76, 3) := by decide +kernel
theorem dX4_drawHundredth_9 : decode cX4_drawHundredth 9 = .ok (.lmul, 1) := by decide +kernel
theorem dX4_drawHundredth_10 : decode cX4_drawHundredth 10 = .ok (.ldc2_w 78, 3) := by decide +kernel
theorem dX4_drawHundredth_13 : decode cX4_drawHundredth 13 = .ok (.ladd, 1) := by decide +kernel
theorem dX4_drawHundredth_14 : decode cX4_drawHundredth 14 = .ok (.ldc2_w 80, 3) := by decide +kernel
theorem dX4_drawHundredth_17 : decode cX4_drawHundredth 17 = .ok (.land, 1) := by decide +kernel
theorem dX4_drawHundredth_18 : decode cX4_drawHundredth 18 = .ok (.l2i, 1) := by decide +kernel
theorem dX4_drawHundredth_19 : decode cX4_drawHundredth 19 = .ok (.putfield 43, 3) := by decide +kernel
theorem dX4_drawHundredth_22 : decode cX4_drawHundredth 22 = .ok (.aload_n 0, 1) := by decide +kernel
theorem dX4_drawHundredth_23 : decode cX4_drawHundredth 23 = .ok (.getfield 43, 3) := by decide +kernel
theorem dX4_drawHundredth_26 : decode cX4_drawHundredth 26 = .ok (.bipush 16, 2) := by decide +kernel
theorem dX4_drawHundredth_28 : decode cX4_drawHundredth 28 = .ok (.ishr, 1) := by decide +kernel
theorem dX4_drawHundredth_29 : decode cX4_drawHundredth 29 = .ok (.bipush 100, 2) := by decide +kernel
theorem dX4_drawHundredth_31 : decode cX4_drawHundredth 31 = .ok (.irem, 1) := by decide +kernel
theorem dX4_drawHundredth_32 : decode cX4_drawHundredth 32 = .ok (.ireturn, 1) := by decide +kernel
theorem dX4_hadInSum_0 : decode cX4_hadInSum 0 = .ok (.iconst 0, 1) := by decide +kernel
theorem dX4_hadInSum_1 : decode cX4_hadInSum 1 = .ok (.istore_n 2, 1) := by decide +kernel
theorem dX4_hadInSum_2 : decode cX4_hadInSum 2 = .ok (.iconst 0, 1) := by decide +kernel
theorem dX4_hadInSum_3 : decode cX4_hadInSum 3 = .ok (.istore_n 3, 1) := by decide +kernel
theorem dX4_hadInSum_4 : decode cX4_hadInSum 4 = .ok (.iload_n 3, 1) := by decide +kernel
theorem dX4_hadInSum_5 : decode cX4_hadInSum 5 = .ok (.iload_n 1, 1) := by decide +kernel
theorem dX4_hadInSum_6 : decode cX4_hadInSum 6 = .ok (.if_icmp .ge 18, 3) := by decide +kernel
theorem dX4_hadInSum_9 : decode cX4_hadInSum 9 = .ok (.iload_n 2, 1) := by decide +kernel
theorem dX4_hadInSum_10 : decode cX4_hadInSum 10 = .ok (.aload_n 0, 1) := by decide +kernel
theorem dX4_hadInSum_11 : decode cX4_hadInSum 11 = .ok (.getfield 15, 3) := by decide +kernel
theorem dX4_hadInSum_14 : decode cX4_hadInSum 14 = .ok (.iload_n 3, 1) := by decide +kernel
theorem dX4_hadInSum_15 : decode cX4_hadInSum 15 = .ok (.iaload, 1) := by decide +kernel
theorem dX4_hadInSum_16 : decode cX4_hadInSum 16 = .ok (.iadd, 1) := by decide +kernel
theorem dX4_hadInSum_17 : decode cX4_hadInSum 17 = .ok (.istore_n 2, 1) := by decide +kernel
theorem dX4_hadInSum_18 : decode cX4_hadInSum 18 = .ok (.iinc 3 1, 3) := by decide +kernel
theorem dX4_hadInSum_21 : decode cX4_hadInSum 21 = .ok (.goto (-17), 3) := by decide +kernel
theorem dX4_hadInSum_24 : decode cX4_hadInSum 24 = .ok (.iload_n 2, 1) := by decide +kernel
theorem dX4_hadInSum_25 : decode cX4_hadInSum 25 = .ok (.ireturn, 1) := by decide +kernel
theorem dX4_unlike_0 : decode cX4_unlike 0 = .ok (.iload_n 1, 1) := by decide +kernel
theorem dX4_unlike_1 : decode cX4_unlike 1 = .ok (.iconst 1, 1) := by decide +kernel
theorem dX4_unlike_2 : decode cX4_unlike 2 = .ok (.if_icmp .ge 5, 3) := by decide +kernel
theorem dX4_unlike_5 : decode cX4_unlike 5 = .ok (.iconst 0, 1) := by decide +kernel
theorem dX4_unlike_6 : decode cX4_unlike 6 = .ok (.ireturn, 1) := by decide +kernel
theorem dX4_unlike_7 : decode cX4_unlike 7 = .ok (.aload_n 0, 1) := by decide +kernel
theorem dX4_unlike_8 : decode cX4_unlike 8 = .ok (.getfield 15, 3) := by decide +kernel
theorem dX4_unlike_11 : decode cX4_unlike 11 = .ok (.iconst 0, 1) := by decide +kernel
theorem dX4_unlike_12 : decode cX4_unlike 12 = .ok (.iaload, 1) := by decide +kernel
theorem dX4_unlike_13 : decode cX4_unlike 13 = .ok (.istore_n 2, 1) := by decide +kernel
theorem dX4_unlike_14 : decode cX4_unlike 14 = .ok (.aload_n 0, 1) := by decide +kernel
theorem dX4_unlike_15 : decode cX4_unlike 15 = .ok (.getfield 15, 3) := by decide +kernel
theorem dX4_unlike_18 : decode cX4_unlike 18 = .ok (.iconst 0, 1) := by decide +kernel
theorem dX4_unlike_19 : decode cX4_unlike 19 = .ok (.iaload, 1) := by decide +kernel
theorem dX4_unlike_20 : decode cX4_unlike 20 = .ok (.istore_n 3, 1) := by decide +kernel
theorem dX4_unlike_21 : decode cX4_unlike 21 = .ok (.iconst 1, 1) := by decide +kernel
theorem dX4_unlike_22 : decode cX4_unlike 22 = .ok (.istore 4, 2) := by decide +kernel
theorem dX4_unlike_24 : decode cX4_unlike 24 = .ok (.iload 4, 2) := by decide +kernel
theorem dX4_unlike_26 : decode cX4_unlike 26 = .ok (.iload_n 1, 1) := by decide +kernel
theorem dX4_unlike_27 : decode cX4_unlike 27 = .ok (.if_icmp .ge 33, 3) := by decide +kernel
theorem dX4_unlike_30 : decode cX4_unlike 30 = .ok (.iload_n 2, 1) := by decide +kernel
theorem dX4_unlike_31 : decode cX4_unlike 31 = .ok (.aload_n 0, 1) := by decide +kernel
theorem dX4_unlike_32 : decode cX4_unlike 32 = .ok (.getfield 15, 3) := by decide +kernel
theorem dX4_unlike_35 : decode cX4_unlike 35 = .ok (.iload 4, 2) := by decide +kernel
theorem dX4_unlike_37 : decode cX4_unlike 37 = .ok (.iaload, 1) := by decide +kernel
theorem dX4_unlike_38 : decode cX4_unlike 38 = .ok (.invokestatic 82, 3) := by decide +kernel
theorem dX4_unlike_41 : decode cX4_unlike 41 = .ok (.istore_n 2, 1) := by decide +kernel
theorem dX4_unlike_42 : decode cX4_unlike 42 = .ok (.iload_n 3, 1) := by decide +kernel
theorem dX4_unlike_43 : decode cX4_unlike 43 = .ok (.aload_n 0, 1) := by decide +kernel
theorem dX4_unlike_44 : decode cX4_unlike 44 = .ok (.getfield 15, 3) := by decide +kernel
theorem dX4_unlike_47 : decode cX4_unlike 47 = .ok (.iload 4, 2) := by decide +kernel
theorem dX4_unlike_49 : decode cX4_unlike 49 = .ok (.iaload, 1) := by decide +kernel
theorem dX4_unlike_50 : decode cX4_unlike 50 = .ok (.invokestatic 88, 3) := by decide +kernel
theorem dX4_unlike_53 : decode cX4_unlike 53 = .ok (.istore_n 3, 1) := by decide +kernel
theorem dX4_unlike_54 : decode cX4_unlike 54 = .ok (.iinc 4 1, 3) := by decide +kernel
theorem dX4_unlike_57 : decode cX4_unlike 57 = .ok (.goto (-33), 3) := by decide +kernel
theorem dX4_unlike_60 : decode cX4_unlike 60 = .ok (.iload_n 2, 1) := by decide +kernel
theorem dX4_unlike_61 : decode cX4_unlike 61 = .ok (.iload_n 3, 1) := by decide +kernel
theorem dX4_unlike_62 : decode cX4_unlike 62 = .ok (.isub, 1) := by decide +kernel
theorem dX4_unlike_63 : decode cX4_unlike 63 = .ok (.ireturn, 1) := by decide +kernel
set_option maxRecDepth 20000 in
theorem ggX5_init_X7_init : GoodIn wsX5_init wsX7_init := goodIn_r _ [14, 15, 2, 3, 9, 16, 17, 18, 19, 20, 21, 22, 23, 24, 25, 26, 27, 28, 29, 30, 31, 32, 33, 34, 35, 36, 37, 38, 39, 40, 41, 42, 43, 44, 45, 46, 47, 48, 49, 50, 51, 52, 53, 54, 55, 56, 57, 58, 59, 60, 61, 7, 62, 63, 64, 65, 77, 78, 79, 80, 81, 82, 83] (by decide +kernel) (by decide +kernel)
set_option maxRecDepth 20000 in
theorem gX5_init_X7_init : GoodIn wsX5_init (wsX7_init) := ggX5_init_X7_init
theorem dX5_init_0 : decode cX5_init 0 = .ok (.aload_n 0, 1) := by decide +kernel
theorem dX5_init_1 : decode cX5_init 1 = .ok (.invokespecial 3, 3) := by decide +kernel
theorem dX5_init_4 : decode cX5_init 4 = .ok (.aload_n 0, 1) := by decide +kernel
theorem dX5_init_5 : decode cX5_init 5 = .ok (.aload_n 1, 1) := by decide +kernel
theorem dX5_init_6 : decode cX5_init 6 = .ok (.putfield 9, 3) := by decide +kernel
theorem dX5_init_9 : decode cX5_init 9 = .ok (.aload_n 0, 1) := by decide +kernel
theorem dX5_init_10 : decode cX5_init 10 = .ok (.new 15, 3) := by decide +kernel
theorem dX5_init_13 : decode cX5_init 13 = .ok (.dup, 1) := by decide +kernel
theorem dX5_init_14 : decode cX5_init 14 = .ok (.invokespecial 17, 3) := by decide +kernel
theorem dX5_init_17 : decode cX5_init 17 = .ok (.putfield 18, 3) := by decide +kernel
theorem dX5_init_20 : decode cX5_init 20 = .ok (.aload_n 0, 1) := by decide +kernel
theorem dX5_init_21 : decode cX5_init 21 = .ok (.bipush 72, 2) := by decide +kernel
theorem dX5_init_23 : decode cX5_init 23 = .ok (.newarray .int, 2) := by decide +kernel
theorem dX5_init_25 : decode cX5_init 25 = .ok (.putfield 22, 3) := by decide +kernel
theorem dX5_init_28 : decode cX5_init 28 = .ok (.aload_n 0, 1) := by decide +kernel
theorem dX5_init_29 : decode cX5_init 29 = .ok (.iconst (-1), 1) := by decide +kernel
theorem dX5_init_30 : decode cX5_init 30 = .ok (.putfield 26, 3) := by decide +kernel
theorem dX5_init_33 : decode cX5_init 33 = .ok (.return_, 1) := by decide +kernel
set_option maxRecDepth 20000 in
theorem ggX5_readAll_X8_forget : GoodIn wsX5_readAll wsX8_forget := goodIn_r _ [13, 14, 15, 16, 17, 18, 19, 20, 21, 22, 23, 24, 25, 26, 27, 28, 29, 30, 31, 32, 33, 34, 35, 36, 37, 38, 39, 40, 41, 42, 281, 282, 283, 284, 285, 286, 287, 288, 289, 290, 291, 292, 293, 294, 295, 296, 297, 298, 299, 300, 301, 302, 303, 304, 305, 306, 307, 308, 309, 310, 311, 312] (by decide +kernel) (by decide +kernel)
set_option maxRecDepth 20000 in
theorem gX5_readAll_X8_forget : GoodIn wsX5_readAll (wsV RX5 30 RX8 yX8_forget wsX8_forget) := goodIn_app (goodIn_of _ (by decide +kernel)) ggX5_readAll_X8_forget
set_option maxRecDepth 20000 in
theorem ggX5_readAll_X7_begin : GoodIn wsX5_readAll wsX7_begin := goodIn_r _ [47, 48, 49, 50, 51, 52, 53, 54, 274, 275, 276, 277, 278, 279, 280] (by decide +kernel) (by decide +kernel)
set_option maxRecDepth 20000 in
theorem gX5_readAll_X7_begin : GoodIn wsX5_readAll (wsV RX5 45 RX7 yX7_begin wsX7_begin) := goodIn_app (goodIn_of _ (by decide +kernel)) ggX5_readAll_X7_begin
set_option maxRecDepth 20000 in
theorem ggX5_readAll_X7_advance : GoodIn wsX5_readAll wsX7_advance := goodIn_r _ [58, 54, 59, 60, 53, 61, 48, 62, 63, 64, 46, 65, 66, 67, 68, 69, 70, 71, 72, 73, 74, 75, 76, 77, 78, 79, 80, 81, 82, 83, 84, 85, 86, 87, 88, 49, 50, 51, 52, 89, 90, 91, 92, 93, 94, 95, 96, 97, 98, 99, 274, 275, 276, 277, 278, 279, 280] (by decide +kernel) (by decide +kernel)
set_option maxRecDepth 20000 in
theorem gX5_readAll_X7_advance : GoodIn wsX5_readAll (wsV RX5 49 RX7 yX7_advance wsX7_advance) := goodIn_app (goodIn_of _ (by decide +kernel)) ggX5_readAll_X7_advance
set_option maxRecDepth 20000 in
theorem ggX5_readAll_X5_readLine : GoodIn wsX5_readAll wsX5_readLine := goodIn_r _ [104, 6, 7, 105, 106, 107, 103, 108, 5, 1, 109, 110, 111, 112, 113, 114, 4, 115, 116, 117, 118, 2, 119, 3, 120, 121, 122, 123, 55, 56, 57, 46, 58, 54, 59, 60, 53, 61, 48, 62, 63, 64, 65, 66, 67, 68, 69, 70, 71, 72, 73, 74, 75, 76, 77, 78, 79, 80, 81, 82, 83, 84, 85, 86, 87, 88, 49, 50, 51, 52, 89, 90, 91, 92, 93, 94, 95, 96, 97, 98, 99, 124, 125, 126, 127, 128, 129, 130, 131, 132, 133, 134, 135, 136, 137, 138, 139, 140, 141, 142, 143, 144, 145, 146, 147, 148, 149, 150, 151, 152, 153, 154, 155, 156, 157, 158, 159, 160, 161, 162, 163, 164, 165, 166, 167, 168, 169, 32, 170, 171, 172, 173, 174, 175, 176, 177, 178, 179, 180, 181, 34, 35, 182, 183, 184, 185, 186, 187, 188, 189, 190, 191, 192, 193, 194, 195, 196, 197, 198, 199, 200, 201, 202, 203, 204, 205, 206, 207, 208, 209, 210, 211, 212, 213, 214, 215, 216, 217, 218, 219, 220, 221, 222, 223, 224, 225, 226, 227, 228, 229, 230, 231, 39, 232, 41, 233, 234, 235, 236, 237, 238, 239, 240, 241, 242, 243, 244, 245, 246, 247, 248, 249, 250, 251, 252, 253, 254, 255, 256, 257, 258, 259, 260, 261, 262, 263, 264, 265, 266, 267, 268, 269, 270, 271, 272, 273, 274, 275, 276, 277, 278, 279, 280, 281, 282, 283, 284, 285, 286, 287, 288, 289, 290, 291, 292, 293, 294, 295, 296, 297, 298, 299, 300, 301, 302, 303, 304, 305, 306, 307, 308, 309, 310, 311, 312] (by decide +kernel) (by decide +kernel)
set_option maxRecDepth 20000 in
theorem gX5_readAll_X5_readLine : GoodIn wsX5_readAll (wsV RX5 55 RX5 yX5_readLine wsX5_readLine) := goodIn_app (goodIn_of _ (by decide +kernel)) ggX5_readAll_X5_readLine
theorem dX5_readAll_0 : decode cX5_readAll 0 = .ok (.aload_n 0, 1) := by decide +kernel
theorem dX5_readAll_1 : decode cX5_readAll 1 = .ok (.aload_n 3, 1) := by decide +kernel
theorem dX5_readAll_2 : decode cX5_readAll 2 = .ok (.putfield 9, 3) := by decide +kernel
theorem dX5_readAll_5 : decode cX5_readAll 5 = .ok (.aload_n 0, 1) := by decide +kernel
theorem dX5_readAll_6 : decode cX5_readAll 6 = .ok (.getfield 9, 3) := by decide +kernel
theorem dX5_readAll_9 : decode cX5_readAll 9 = .ok (.invokevirtual 30, 3) := by decide +kernel
theorem dX5_readAll_12 : decode cX5_readAll 12 = .ok (.aload_n 0, 1) := by decide +kernel
theorem dX5_readAll_13 : decode cX5_readAll 13 = .ok (.iconst 0, 1) := by decide +kernel
theorem dX5_readAll_14 : decode cX5_readAll 14 = .ok (.putfield 35, 3) := by decide +kernel
theorem dX5_readAll_17 : decode cX5_readAll 17 = .ok (.aload_n 0, 1) := by decide +kernel
theorem dX5_readAll_18 : decode cX5_readAll 18 = .ok (.iconst (-1), 1) := by decide +kernel
theorem dX5_readAll_19 : decode cX5_readAll 19 = .ok (.putfield 26, 3) := by decide +kernel
theorem dX5_readAll_22 : decode cX5_readAll 22 = .ok (.aload_n 0, 1) := by decide +kernel
theorem dX5_readAll_23 : decode cX5_readAll 23 = .ok (.iconst 0, 1) := by decide +kernel
theorem dX5_readAll_24 : decode cX5_readAll 24 = .ok (.putfield 38, 3) := by decide +kernel
theorem dX5_readAll_27 : decode cX5_readAll 27 = .ok (.aload_n 0, 1) := by decide +kernel
theorem dX5_readAll_28 : decode cX5_readAll 28 = .ok (.iconst 0, 1) := by decide +kernel
theorem dX5_readAll_29 : decode cX5_readAll 29 = .ok (.putfield 41, 3) := by decide +kernel
theorem dX5_readAll_32 : decode cX5_readAll 32 = .ok (.aload_n 0, 1) := by decide +kernel
theorem dX5_readAll_33 : decode cX5_readAll 33 = .ok (.getfield 18, 3) := by decide +kernel
theorem dX5_readAll_36 : decode cX5_readAll 36 = .ok (.aload_n 1, 1) := by decide +kernel
theorem dX5_readAll_37 : decode cX5_readAll 37 = .ok (.iload_n 2, 1) := by decide +kernel
theorem dX5_readAll_38 : decode cX5_readAll 38 = .ok (.invokevirtual 45, 3) := by decide +kernel
theorem dX5_readAll_41 : decode cX5_readAll 41 = .ok (.iconst 0, 1) := by decide +kernel
theorem dX5_readAll_42 : decode cX5_readAll 42 = .ok (.istore 4, 2) := by decide +kernel
theorem dX5_readAll_44 : decode cX5_readAll 44 = .ok (.iload 4, 2) := by decide +kernel
theorem dX5_readAll_46 : decode cX5_readAll 46 = .ok (.sipush 700, 3) := by decide +kernel
theorem dX5_readAll_49 : decode cX5_readAll 49 = .ok (.if_icmp .gt 52, 3) := by decide +kernel
theorem dX5_readAll_52 : decode cX5_readAll 52 = .ok (.aload_n 0, 1) := by decide +kernel
theorem dX5_readAll_53 : decode cX5_readAll 53 = .ok (.getfield 18, 3) := by decide +kernel
theorem dX5_readAll_56 : decode cX5_readAll 56 = .ok (.invokevirtual 49, 3) := by decide +kernel
theorem dX5_readAll_59 : decode cX5_readAll 59 = .ok (.aload_n 0, 1) := by decide +kernel
theorem dX5_readAll_60 : decode cX5_readAll 60 = .ok (.getfield 18, 3) := by decide +kernel
theorem dX5_readAll_63 : decode cX5_readAll 63 = .ok (.getfield 52, 3) := by decide +kernel
theorem dX5_readAll_66 : decode cX5_readAll 66 = .ok (.bipush 39, 2) := by decide +kernel
theorem dX5_readAll_68 : decode cX5_readAll 68 = .ok (.if_icmp .ne 5, 3) := by decide +kernel
theorem dX5_readAll_71 : decode cX5_readAll 71 = .ok (.iconst 1, 1) := by decide +kernel
theorem dX5_readAll_72 : decode cX5_readAll 72 = .ok (.ireturn, 1) := by decide +kernel
theorem dX5_readAll_73 : decode cX5_readAll 73 = .ok (.aload_n 0, 1) := by decide +kernel
theorem dX5_readAll_74 : decode cX5_readAll 74 = .ok (.invokevirtual 55, 3) := by decide +kernel
theorem dX5_readAll_77 : decode cX5_readAll 77 = .ok (.ifCond .ne 5, 3) := by decide +kernel
theorem dX5_readAll_80 : decode cX5_readAll 80 = .ok (.iconst 0, 1) := by decide +kernel
theorem dX5_readAll_81 : decode cX5_readAll 81 = .ok (.ireturn, 1) := by decide +kernel
theorem dX5_readAll_82 : decode cX5_readAll 82 = .ok (.aload_n 0, 1) := by decide +kernel
theorem dX5_readAll_83 : decode cX5_readAll 83 = .ok (.getfield 9, 3) := by decide +kernel
theorem dX5_readAll_86 : decode cX5_readAll 86 = .ok (.dup, 1) := by decide +kernel
theorem dX5_readAll_87 : decode cX5_readAll 87 = .ok (.getfield 59, 3) := by decide +kernel
theorem dX5_readAll_90 : decode cX5_readAll 90 = .ok (.iconst 1, 1) := by decide +kernel
theorem dX5_readAll_91 : decode cX5_readAll 91 = .ok (.iadd, 1) := by decide +kernel
theorem dX5_readAll_92 : decode cX5_readAll 92 = .ok (.putfield 59, 3) := by decide +kernel
theorem dX5_readAll_95 : decode cX5_readAll 95 = .ok (.iinc 4 1, 3) := by decide +kernel
theorem dX5_readAll_98 : decode cX5_readAll 98 = .ok (.goto (-54), 3) := by decide +kernel
theorem dX5_readAll_101 : decode cX5_readAll 101 = .ok (.iconst 1, 1) := by decide +kernel
theorem dX5_readAll_102 : decode cX5_readAll 102 = .ok (.ireturn, 1) := by decide +kernel
theorem dX5_refuse_0 : decode cX5_refuse 0 = .ok (.aload_n 0, 1) := by decide +kernel
theorem dX5_refuse_1 : decode cX5_refuse 1 = .ok (.iload_n 1, 1) := by decide +kernel
theorem dX5_refuse_2 : decode cX5_refuse 2 = .ok (.putfield 35, 3) := by decide +kernel
theorem dX5_refuse_5 : decode cX5_refuse 5 = .ok (.aload_n 0, 1) := by decide +kernel
theorem dX5_refuse_6 : decode cX5_refuse 6 = .ok (.aload_n 0, 1) := by decide +kernel
theorem dX5_refuse_7 : decode cX5_refuse 7 = .ok (.getfield 18, 3) := by decide +kernel
theorem dX5_refuse_10 : decode cX5_refuse 10 = .ok (.getfield 62, 3) := by decide +kernel
theorem dX5_refuse_13 : decode cX5_refuse 13 = .ok (.putfield 26, 3) := by decide +kernel
theorem dX5_refuse_16 : decode cX5_refuse 16 = .ok (.iconst 0, 1) := by decide +kernel
theorem dX5_refuse_17 : decode cX5_refuse 17 = .ok (.ireturn, 1) := by decide +kernel
set_option maxRecDepth 20000 in
theorem ggX5_readLine_X5_readSea : GoodIn wsX5_readLine wsX5_readSea := goodIn_r _ [7, 8, 9, 10, 11, 12, 13, 14, 6, 15, 16, 17, 18, 19, 20, 21, 1, 22, 23, 24, 25, 26, 27, 28, 29, 30, 31, 32, 33, 34, 35, 36, 37, 38, 39, 40, 41, 42, 43, 44, 45, 46, 47, 48, 49, 50, 51, 52, 53, 54, 55, 56, 57, 58, 59, 60, 61, 62, 63, 64, 65, 66, 67, 68, 69, 70, 71, 72, 73, 74, 75, 76, 77, 78, 79, 80, 81, 82, 83, 84, 2, 85, 86, 87, 88, 89, 225, 226, 227, 228, 229, 230, 231, 232, 233, 234, 235, 243, 244, 245, 246, 247, 248, 249, 250, 251, 252, 253, 254, 255, 256, 236, 237, 238, 239, 240, 241, 242] (by decide +kernel) (by decide +kernel)
set_option maxRecDepth 20000 in
theorem gX5_readLine_X5_readSea : GoodIn wsX5_readLine (wsV RX5 65 RX5 yX5_readSea wsX5_readSea) := goodIn_app (goodIn_of _ (by decide +kernel)) ggX5_readLine_X5_readSea
set_option maxRecDepth 20000 in
theorem ggX5_readLine_X5_readPeak : GoodIn wsX5_readLine wsX5_readPeak := goodIn_r _ [93, 8, 9, 10, 11, 94, 95, 12, 13, 14, 6, 15, 16, 17, 18, 19, 20, 21, 1, 22, 23, 24, 25, 26, 27, 28, 29, 30, 31, 32, 33, 34, 35, 36, 37, 38, 39, 40, 41, 42, 43, 44, 45, 46, 47, 48, 49, 50, 51, 52, 53, 54, 55, 56, 57, 58, 59, 60, 61, 62, 63, 64, 65, 66, 67, 68, 69, 70, 71, 72, 73, 74, 75, 76, 77, 78, 79, 80, 81, 82, 83, 84, 2, 85, 86, 87, 88, 89, 225, 226, 227, 228, 229, 230, 231, 232, 233, 234, 235, 243, 244, 245, 246, 247, 248, 249, 250, 251, 252, 253, 254, 255, 256, 236, 237, 238, 239, 240, 241, 242] (by decide +kernel) (by decide +kernel)
set_option maxRecDepth 20000 in
theorem gX5_readLine_X5_readPeak : GoodIn wsX5_readLine (wsV RX5 68 RX5 yX5_readPeak wsX5_readPeak) := goodIn_app (goodIn_of _ (by decide +kernel)) ggX5_readLine_X5_readPeak
set_option maxRecDepth 20000 in
theorem ggX5_readLine_X5_readSurfer : GoodIn wsX5_readLine wsX5_readSurfer := goodIn_r _ [99, 9, 100, 101, 8, 1, 2, 85, 10, 11, 17, 18, 19, 6, 20, 21, 22, 23, 28, 29, 30, 31, 32, 33, 34, 35, 36, 37, 38, 39, 40, 41, 42, 43, 44, 45, 46, 47, 48, 49, 50, 51, 52, 53, 54, 55, 56, 57, 58, 59, 60, 61, 62, 63, 64, 65, 66, 67, 68, 69, 70, 71, 72, 73, 74, 75, 76, 77, 78, 79, 80, 102, 103, 104, 105, 106, 107, 108, 24, 25, 26, 27, 81, 82, 83, 84, 109, 110, 111, 112, 113, 114, 115, 116, 117, 86, 87, 88, 89, 225, 226, 227, 228, 229, 230, 231, 232, 233, 234, 235, 243, 244, 245, 246, 247, 248, 249, 250, 251, 252, 253, 254, 255, 256, 257, 258, 259, 260, 261, 262, 263, 236, 237, 238, 239, 240, 241, 242] (by decide +kernel) (by decide +kernel)
set_option maxRecDepth 20000 in
theorem gX5_readLine_X5_readSurfer : GoodIn wsX5_readLine (wsV RX5 71 RX5 yX5_readSurfer wsX5_readSurfer) := goodIn_app (goodIn_of _ (by decide +kernel)) ggX5_readLine_X5_readSurfer
set_option maxRecDepth 20000 in
theorem ggX5_readLine_X5_readSet : GoodIn wsX5_readLine wsX5_readSet := goodIn_r _ [121, 9, 122, 123, 1, 2, 17, 18, 19, 6, 20, 21, 22, 23, 24, 25, 26, 27, 28, 29, 30, 31, 32, 33, 34, 35, 36, 37, 38, 39, 40, 41, 42, 43, 44, 45, 46, 47, 48, 49, 50, 51, 52, 53, 54, 55, 56, 57, 58, 59, 60, 61, 62, 63, 64, 65, 66, 67, 68, 69, 70, 71, 72, 73, 74, 75, 76, 77, 78, 79, 80, 81, 82, 83, 84, 85, 124, 125, 126, 127, 128, 129, 130, 131, 132, 133, 134, 135, 136, 137, 138, 139, 140, 141, 142, 143, 144, 145, 146, 147, 148, 225, 226, 227, 228, 229, 230, 231, 232, 233, 234, 235, 243, 244, 245, 246, 247, 248, 249, 250, 251, 252, 253, 254, 255, 256, 264, 265, 266, 267, 268, 269, 270, 271, 236, 237, 238, 239, 240, 241, 242] (by decide +kernel) (by decide +kernel)
set_option maxRecDepth 20000 in
theorem gX5_readLine_X5_readSet : GoodIn wsX5_readLine (wsV RX5 74 RX5 yX5_readSet wsX5_readSet) := goodIn_app (goodIn_of _ (by decide +kernel)) ggX5_readLine_X5_readSet
set_option maxRecDepth 20000 in
theorem ggX5_readLine_X5_readBank : GoodIn wsX5_readLine wsX5_readBank := goodIn_r _ [152, 9, 153, 154, 155, 12, 13, 14, 6, 15, 16, 17, 18, 19, 20, 21, 1, 22, 23, 24, 25, 26, 27, 28, 29, 30, 31, 32, 33, 34, 35, 36, 37, 38, 39, 40, 41, 42, 43, 44, 45, 46, 47, 48, 49, 50, 51, 52, 53, 54, 55, 56, 57, 58, 59, 60, 61, 62, 63, 64, 65, 66, 67, 68, 69, 70, 71, 72, 73, 74, 75, 76, 77, 78, 79, 80, 81, 82, 83, 84, 2, 85, 86, 87, 88, 89, 225, 226, 227, 228, 229, 230, 231, 232, 233, 234, 235, 243, 244, 245, 246, 247, 248, 249, 250, 251, 252, 253, 254, 255, 256, 236, 237, 238, 239, 240, 241, 242] (by decide +kernel) (by decide +kernel)
set_option maxRecDepth 20000 in
theorem gX5_readLine_X5_readBank : GoodIn wsX5_readLine (wsV RX5 77 RX5 yX5_readBank wsX5_readBank) := goodIn_app (goodIn_of _ (by decide +kernel)) ggX5_readLine_X5_readBank
set_option maxRecDepth 20000 in
theorem ggX5_readLine_X5_readRule : GoodIn wsX5_readLine wsX5_readRule := goodIn_r _ [159, 1, 2, 9, 160, 12, 13, 14, 6, 15, 16, 17, 18, 19, 20, 21, 22, 23, 28, 29, 30, 31, 32, 33, 34, 35, 36, 37, 38, 39, 40, 41, 42, 43, 44, 45, 46, 47, 48, 49, 50, 51, 52, 53, 54, 55, 56, 57, 58, 59, 60, 61, 62, 63, 64, 65, 66, 67, 68, 69, 70, 71, 72, 73, 74, 75, 76, 77, 78, 79, 80, 86, 87, 88, 89, 225, 226, 227, 228, 229, 230, 231, 232, 233, 234, 235, 236, 237, 238, 239, 240, 241, 242, 243, 244, 245, 246, 247, 248, 249, 250, 251, 252, 253, 254, 255, 256] (by decide +kernel) (by decide +kernel)
set_option maxRecDepth 20000 in
theorem gX5_readLine_X5_readRule : GoodIn wsX5_readLine (wsV RX5 80 RX5 yX5_readRule wsX5_readRule) := goodIn_app (goodIn_of _ (by decide +kernel)) ggX5_readLine_X5_readRule
set_option maxRecDepth 20000 in
theorem ggX5_readLine_X5_readSeed : GoodIn wsX5_readLine wsX5_readSeed := goodIn_r _ [164, 165, 9, 166, 12, 13, 14, 6, 15, 16, 17, 18, 19, 20, 21, 1, 22, 23, 24, 25, 26, 27, 28, 29, 30, 31, 32, 33, 34, 35, 36, 37, 38, 39, 40, 41, 42, 43, 44, 45, 46, 47, 48, 49, 50, 51, 52, 53, 54, 55, 56, 57, 58, 59, 60, 61, 62, 63, 64, 65, 66, 67, 68, 69, 70, 71, 72, 73, 74, 75, 76, 77, 78, 79, 80, 81, 82, 83, 84, 2, 85, 86, 87, 88, 89, 225, 226, 227, 228, 229, 230, 231, 232, 233, 234, 235, 243, 244, 245, 246, 247, 248, 249, 250, 251, 252, 253, 254, 255, 256, 236, 237, 238, 239, 240, 241, 242] (by decide +kernel) (by decide +kernel)
set_option maxRecDepth 20000 in
theorem gX5_readLine_X5_readSeed : GoodIn wsX5_readLine (wsV RX5 83 RX5 yX5_readSeed wsX5_readSeed) := goodIn_app (goodIn_of _ (by decide +kernel)) ggX5_readLine_X5_readSeed
set_option maxRecDepth 20000 in
theorem ggX5_readLine_X5_readLaw : GoodIn wsX5_readLine wsX5_readLaw := goodIn_r _ [170, 171, 172, 173, 174, 1, 2, 175, 176, 177, 6, 178, 9, 179, 180, 28, 29, 30, 31, 32, 33, 34, 35, 36, 37, 38, 39, 40, 41, 42, 43, 44, 45, 46, 47, 48, 49, 50, 51, 52, 53, 54, 55, 56, 57, 58, 59, 60, 61, 62, 63, 64, 65, 66, 67, 68, 69, 70, 71, 72, 73, 74, 75, 76, 77, 78, 79, 80, 17, 18, 19, 20, 21, 22, 23, 181, 182, 183, 184, 185, 186, 187, 188, 189, 190, 191, 192, 193, 194, 195, 196, 197, 198, 199, 85, 200, 201, 202, 203, 204, 205, 206, 207, 208, 209, 210, 211, 212, 213, 214, 215, 216, 217, 218, 219, 220, 221, 222, 223, 224, 225, 226, 227, 228, 229, 230, 231, 232, 233, 234, 235, 236, 237, 238, 239, 240, 241, 242, 243, 244, 245, 246, 247, 248, 249, 250, 251, 252, 253, 254, 255, 256, 272, 273, 274] (by decide +kernel) (by decide +kernel)
set_option maxRecDepth 20000 in
theorem gX5_readLine_X5_readLaw : GoodIn wsX5_readLine (wsV RX5 86 RX5 yX5_readLaw wsX5_readLaw) := goodIn_app (goodIn_of _ (by decide +kernel)) ggX5_readLine_X5_readLaw
set_option maxRecDepth 20000 in
theorem ggX5_readLine_X5_refuse : GoodIn wsX5_readLine wsX5_refuse := goodIn_r _ [20, 21, 1, 22, 23, 225, 226, 227, 228, 229, 230, 231, 232, 233, 234, 235, 236, 237, 238, 239, 240, 241, 242] (by decide +kernel) (by decide +kernel)
set_option maxRecDepth 20000 in
theorem gX5_readLine_X5_refuse : GoodIn wsX5_readLine (wsV RX5 89 RX5 yX5_refuse wsX5_refuse) := goodIn_app (goodIn_of _ (by decide +kernel)) ggX5_readLine_X5_refuse
theorem dX5_readLine_0 : decode cX5_readLine 0 = .ok (.aload_n 0, 1) := by decide +kernel
theorem dX5_readLine_1 : decode cX5_readLine 1 = .ok (.getfield 18, 3) := by decide +kernel
theorem dX5_readLine_4 : decode cX5_readLine 4 = .ok (.getfield 52, 3) := by decide +kernel
theorem dX5_readLine_7 : decode cX5_readLine 7 = .ok (.tableswitch 85 0 7 #[45, 50, 55, 60, 65, 70, 75, 80], 45) := by decide +kernel
theorem dX5_readLine_52 : decode cX5_readLine 52 = .ok (.aload_n 0, 1) := by decide +kernel
theorem dX5_readLine_53 : decode cX5_readLine 53 = .ok (.invokevirtual 65, 3) := by decide +kernel
theorem dX5_readLine_56 : decode cX5_readLine 56 = .ok (.ireturn, 1) := by decide +kernel
theorem dX5_readLine_57 : decode cX5_readLine 57 = .ok (.aload_n 0, 1) := by decide +kernel
theorem dX5_readLine_58 : decode cX5_readLine 58 = .ok (.invokevirtual 68, 3) := by decide +kernel
theorem dX5_readLine_61 : decode cX5_readLine 61 = .ok (.ireturn, 1) := by decide +kernel
theorem dX5_readLine_62 : decode cX5_readLine 62 = .ok (.aload_n 0, 1) := by decide +kernel
theorem dX5_readLine_63 : decode cX5_readLine 63 = .ok (.invokevirtual 71, 3) := by decide +kernel
theorem dX5_readLine_66 : decode cX5_readLine 66 = .ok (.ireturn, 1) := by decide +kernel
theorem dX5_readLine_67 : decode cX5_readLine 67 = .ok (.aload_n 0, 1) := by decide +kernel
theorem dX5_readLine_68 : decode cX5_readLine 68 = .ok (.invokevirtual 74, 3) := by decide +kernel
theorem dX5_readLine_71 : decode cX5_readLine 71 = .ok (.ireturn, 1) := by decide +kernel
theorem dX5_readLine_72 : decode cX5_readLine 72 = .ok (.aload_n 0, 1) := by decide +kernel
theorem dX5_readLine_73 : decode cX5_readLine 73 = .ok (.invokevirtual 77, 3) := by decide +kernel
theorem dX5_readLine_76 : decode cX5_readLine 76 = .ok (.ireturn, 1) := by decide +kernel
theorem dX5_readLine_77 : decode cX5_readLine 77 = .ok (.aload_n 0, 1) := by decide +kernel
theorem dX5_readLine_78 : decode cX5_readLine 78 = .ok (.invokevirtual 80, 3) := by decide +kernel
theorem dX5_readLine_81 : decode cX5_readLine 81 = .ok (.ireturn, 1) := by decide +kernel
theorem dX5_readLine_82 : decode cX5_readLine 82 = .ok (.aload_n 0, 1) := by decide +kernel
theorem dX5_readLine_83 : decode cX5_readLine 83 = .ok (.invokevirtual 83, 3) := by decide +kernel
theorem dX5_readLine_86 : decode cX5_readLine 86 = .ok (.ireturn, 1) := by decide +kernel
theorem dX5_readLine_87 : decode cX5_readLine 87 = .ok (.aload_n 0, 1) := by decide +kernel
theorem dX5_readLine_88 : decode cX5_readLine 88 = .ok (.invokevirtual 86, 3) := by decide +kernel
theorem dX5_readLine_91 : decode cX5_readLine 91 = .ok (.ireturn, 1) := by decide +kernel
theorem dX5_readLine_92 : decode cX5_readLine 92 = .ok (.aload_n 0, 1) := by decide +kernel
theorem dX5_readLine_93 : decode cX5_readLine 93 = .ok (.iconst 1, 1) := by decide +kernel
theorem dX5_readLine_94 : decode cX5_readLine 94 = .ok (.invokevirtual 89, 3) := by decide +kernel
theorem dX5_readLine_97 : decode cX5_readLine 97 = .ok (.ireturn, 1) := by decide +kernel
set_option maxRecDepth 20000 in
theorem ggX5_isFirst_X5_refuse : GoodIn wsX5_isFirst wsX5_refuse := goodIn_r _ [6, 7, 8, 9, 10, 11, 12, 13, 14, 15, 16, 17, 18, 19, 20, 21, 22, 23, 24, 25, 26, 27, 28] (by decide +kernel) (by decide +kernel)
set_option maxRecDepth 20000 in
theorem gX5_isFirst_X5_refuse : GoodIn wsX5_isFirst (wsV RX5 89 RX5 yX5_refuse wsX5_refuse) := goodIn_app (goodIn_of _ (by decide +kernel)) ggX5_isFirst_X5_refuse
theorem dX5_isFirst_0 : decode cX5_isFirst 0 = .ok (.iconst 1, 1) := by decide +kernel
theorem dX5_isFirst_1 : decode cX5_isFirst 1 = .ok (.iload_n 1, 1) := by decide +kernel
theorem dX5_isFirst_2 : decode cX5_isFirst 2 = .ok (.ishl, 1) := by decide +kernel
theorem dX5_isFirst_3 : decode cX5_isFirst 3 = .ok (.istore_n 2, 1) := by decide +kernel
theorem dX5_isFirst_4 : decode cX5_isFirst 4 = .ok (.aload_n 0, 1) := by decide +kernel
theorem dX5_isFirst_5 : decode cX5_isFirst 5 = .ok (.getfield 38, 3) := by decide +kernel
theorem dX5_isFirst_8 : decode cX5_isFirst 8 = .ok (.iload_n 2, 1) := by decide +kernel
theorem dX5_isFirst_9 : decode cX5_isFirst 9 = .ok (.iand, 1) := by decide +kernel
theorem dX5_isFirst_10 : decode cX5_isFirst 10 = .ok (.ifCond .eq 9, 3) := by decide +kernel
theorem dX5_isFirst_13 : decode cX5_isFirst 13 = .ok (.aload_n 0, 1) := by decide +kernel
theorem dX5_isFirst_14 : decode cX5_isFirst 14 = .ok (.iconst 3, 1) := by decide +kernel
theorem dX5_isFirst_15 : decode cX5_isFirst 15 = .ok (.invokevirtual 89, 3) := by decide +kernel
theorem dX5_isFirst_18 : decode cX5_isFirst 18 = .ok (.ireturn, 1) := by decide +kernel
theorem dX5_isFirst_19 : decode cX5_isFirst 19 = .ok (.aload_n 0, 1) := by decide +kernel
theorem dX5_isFirst_20 : decode cX5_isFirst 20 = .ok (.dup, 1) := by decide +kernel
theorem dX5_isFirst_21 : decode cX5_isFirst 21 = .ok (.getfield 38, 3) := by decide +kernel
theorem dX5_isFirst_24 : decode cX5_isFirst 24 = .ok (.iload_n 2, 1) := by decide +kernel
theorem dX5_isFirst_25 : decode cX5_isFirst 25 = .ok (.ior, 1) := by decide +kernel
theorem dX5_isFirst_26 : decode cX5_isFirst 26 = .ok (.putfield 38, 3) := by decide +kernel
theorem dX5_isFirst_29 : decode cX5_isFirst 29 = .ok (.iconst 1, 1) := by decide +kernel
theorem dX5_isFirst_30 : decode cX5_isFirst 30 = .ok (.ireturn, 1) := by decide +kernel
set_option maxRecDepth 20000 in
theorem ggX5_numberIn_X7_advance : GoodIn wsX5_numberIn wsX7_advance := goodIn_r _ [6, 7, 8, 9, 10, 11, 12, 13, 14, 15, 5, 16, 17, 18, 19, 20, 21, 22, 23, 24, 25, 26, 27, 28, 29, 30, 31, 32, 33, 34, 35, 36, 37, 38, 39, 40, 41, 42, 43, 44, 45, 46, 47, 48, 49, 50, 51, 52, 53, 54, 80, 81, 82, 83, 84, 85, 86] (by decide +kernel) (by decide +kernel)
set_option maxRecDepth 20000 in
theorem gX5_numberIn_X7_advance : GoodIn wsX5_numberIn (wsV RX5 49 RX7 yX7_advance wsX7_advance) := goodIn_app (goodIn_of _ (by decide +kernel)) ggX5_numberIn_X7_advance
set_option maxRecDepth 20000 in
theorem ggX5_numberIn_X5_takenNumber : GoodIn wsX5_numberIn wsX5_takenNumber := goodIn_r _ [59, 1, 60, 61, 62, 63, 64, 58, 65, 66, 67, 68, 69, 70, 71, 72, 73, 74, 75, 76, 77, 78, 79, 80, 81, 82, 83, 84, 85, 86] (by decide +kernel) (by decide +kernel)
set_option maxRecDepth 20000 in
theorem gX5_numberIn_X5_takenNumber : GoodIn wsX5_numberIn (wsV RX5 93 RX5 yX5_takenNumber wsX5_takenNumber) := goodIn_app (goodIn_of _ (by decide +kernel)) ggX5_numberIn_X5_takenNumber
theorem dX5_numberIn_0 : decode cX5_numberIn 0 = .ok (.aload_n 0, 1) := by decide +kernel
theorem dX5_numberIn_1 : decode cX5_numberIn 1 = .ok (.getfield 18, 3) := by decide +kernel
theorem dX5_numberIn_4 : decode cX5_numberIn 4 = .ok (.invokevirtual 49, 3) := by decide +kernel
theorem dX5_numberIn_7 : decode cX5_numberIn 7 = .ok (.aload_n 0, 1) := by decide +kernel
theorem dX5_numberIn_8 : decode cX5_numberIn 8 = .ok (.iload_n 1, 1) := by decide +kernel
theorem dX5_numberIn_9 : decode cX5_numberIn 9 = .ok (.iload_n 2, 1) := by decide +kernel
theorem dX5_numberIn_10 : decode cX5_numberIn 10 = .ok (.invokevirtual 93, 3) := by decide +kernel
theorem dX5_numberIn_13 : decode cX5_numberIn 13 = .ok (.ireturn, 1) := by decide +kernel
set_option maxRecDepth 20000 in
theorem ggX5_takenNumber_X5_refuse : GoodIn wsX5_takenNumber wsX5_refuse := goodIn_r _ [8, 9, 1, 10, 11, 12, 13, 14, 15, 16, 17, 18, 19, 20, 21, 22, 23, 24, 25, 26, 27, 28, 29] (by decide +kernel) (by decide +kernel)
set_option maxRecDepth 20000 in
theorem gX5_takenNumber_X5_refuse : GoodIn wsX5_takenNumber (wsV RX5 89 RX5 yX5_refuse wsX5_refuse) := goodIn_app (goodIn_of _ (by decide +kernel)) ggX5_takenNumber_X5_refuse
theorem dX5_takenNumber_0 : decode cX5_takenNumber 0 = .ok (.aload_n 0, 1) := by decide +kernel
theorem dX5_takenNumber_1 : decode cX5_takenNumber 1 = .ok (.getfield 18, 3) := by decide +kernel
theorem dX5_takenNumber_4 : decode cX5_takenNumber 4 = .ok (.getfield 52, 3) := by decide +kernel
theorem dX5_takenNumber_7 : decode cX5_takenNumber 7 = .ok (.bipush 25, 2) := by decide +kernel
theorem dX5_takenNumber_9 : decode cX5_takenNumber 9 = .ok (.if_icmp .eq 11, 3) := by decide +kernel
theorem dX5_takenNumber_12 : decode cX5_takenNumber 12 = .ok (.aload_n 0, 1) := by decide +kernel
theorem dX5_takenNumber_13 : decode cX5_takenNumber 13 = .ok (.iconst 1, 1) := by decide +kernel
theorem dX5_takenNumber_14 : decode cX5_takenNumber 14 = .ok (.invokevirtual 89, 3) := by decide +kernel
theorem dX5_takenNumber_17 : decode cX5_takenNumber 17 = .ok (.pop, 1) := by decide +kernel
theorem dX5_takenNumber_18 : decode cX5_takenNumber 18 = .ok (.iconst (-1), 1) := by decide +kernel
theorem dX5_takenNumber_19 : decode cX5_takenNumber 19 = .ok (.ireturn, 1) := by decide +kernel
theorem dX5_takenNumber_20 : decode cX5_takenNumber 20 = .ok (.aload_n 0, 1) := by decide +kernel
theorem dX5_takenNumber_21 : decode cX5_takenNumber 21 = .ok (.getfield 18, 3) := by decide +kernel
theorem dX5_takenNumber_24 : decode cX5_takenNumber 24 = .ok (.getfield 97, 3) := by decide +kernel
theorem dX5_takenNumber_27 : decode cX5_takenNumber 27 = .ok (.iload_n 1, 1) := by decide +kernel
theorem dX5_takenNumber_28 : decode cX5_takenNumber 28 = .ok (.if_icmp .lt 14, 3) := by decide +kernel
theorem dX5_takenNumber_31 : decode cX5_takenNumber 31 = .ok (.aload_n 0, 1) := by decide +kernel
theorem dX5_takenNumber_32 : decode cX5_takenNumber 32 = .ok (.getfield 18, 3) := by decide +kernel
theorem dX5_takenNumber_35 : decode cX5_takenNumber 35 = .ok (.getfield 97, 3) := by decide +kernel
theorem dX5_takenNumber_38 : decode cX5_takenNumber 38 = .ok (.iload_n 2, 1) := by decide +kernel
theorem dX5_takenNumber_39 : decode cX5_takenNumber 39 = .ok (.if_icmp .le 11, 3) := by decide +kernel
theorem dX5_takenNumber_42 : decode cX5_takenNumber 42 = .ok (.aload_n 0, 1) := by decide +kernel
theorem dX5_takenNumber_43 : decode cX5_takenNumber 43 = .ok (.iconst 2, 1) := by decide +kernel
theorem dX5_takenNumber_44 : decode cX5_takenNumber 44 = .ok (.invokevirtual 89, 3) := by decide +kernel
theorem dX5_takenNumber_47 : decode cX5_takenNumber 47 = .ok (.pop, 1) := by decide +kernel
theorem dX5_takenNumber_48 : decode cX5_takenNumber 48 = .ok (.iconst (-1), 1) := by decide +kernel
theorem dX5_takenNumber_49 : decode cX5_takenNumber 49 = .ok (.ireturn, 1) := by decide +kernel
theorem dX5_takenNumber_50 : decode cX5_takenNumber 50 = .ok (.aload_n 0, 1) := by decide +kernel
theorem dX5_takenNumber_51 : decode cX5_takenNumber 51 = .ok (.getfield 18, 3) := by decide +kernel
theorem dX5_takenNumber_54 : decode cX5_takenNumber 54 = .ok (.getfield 97, 3) := by decide +kernel
theorem dX5_takenNumber_57 : decode cX5_takenNumber 57 = .ok (.ireturn, 1) := by decide +kernel
set_option maxRecDepth 20000 in
theorem ggX5_readStop_X7_advance : GoodIn wsX5_readStop wsX7_advance := goodIn_r _ [7, 8, 9, 10, 11, 12, 13, 14, 15, 16, 6, 17, 18, 19, 20, 21, 22, 23, 24, 25, 26, 27, 28, 29, 30, 31, 32, 33, 34, 35, 36, 37, 38, 39, 40, 41, 42, 43, 44, 45, 46, 47, 48, 49, 50, 51, 52, 53, 54, 55, 75, 76, 77, 78, 79, 80, 81] (by decide +kernel) (by decide +kernel)
set_option maxRecDepth 20000 in
theorem gX5_readStop_X7_advance : GoodIn wsX5_readStop (wsV RX5 49 RX7 yX7_advance wsX7_advance) := goodIn_app (goodIn_of _ (by decide +kernel)) ggX5_readStop_X7_advance
set_option maxRecDepth 20000 in
theorem ggX5_readStop_X5_refuse : GoodIn wsX5_readStop wsX5_refuse := goodIn_r _ [60, 61, 1, 62, 63, 64, 65, 66, 67, 68, 69, 70, 71, 72, 73, 74, 75, 76, 77, 78, 79, 80, 81] (by decide +kernel) (by decide +kernel)
set_option maxRecDepth 20000 in
theorem gX5_readStop_X5_refuse : GoodIn wsX5_readStop (wsV RX5 89 RX5 yX5_refuse wsX5_refuse) := goodIn_app (goodIn_of _ (by decide +kernel)) ggX5_readStop_X5_refuse
theorem dX5_readStop_0 : decode cX5_readStop 0 = .ok (.aload_n 0, 1) := by decide +kernel
theorem dX5_readStop_1 : decode cX5_readStop 1 = .ok (.getfield 18, 3) := by decide +kernel
theorem dX5_readStop_4 : decode cX5_readStop 4 = .ok (.invokevirtual 49, 3) := by decide +kernel
theorem dX5_readStop_7 : decode cX5_readStop 7 = .ok (.aload_n 0, 1) := by decide +kernel
theorem dX5_readStop_8 : decode cX5_readStop 8 = .ok (.getfield 18, 3) := by decide +kernel
theorem dX5_readStop_11 : decode cX5_readStop 11 = .ok (.getfield 52, 3) := by decide +kernel
theorem dX5_readStop_14 : decode cX5_readStop 14 = .ok (.bipush 38, 2) := by decide +kernel
theorem dX5_readStop_16 : decode cX5_readStop 16 = .ok (.if_icmp .eq 11, 3) := by decide +kernel
theorem dX5_readStop_19 : decode cX5_readStop 19 = .ok (.aload_n 0, 1) := by decide +kernel
theorem dX5_readStop_20 : decode cX5_readStop 20 = .ok (.iconst 1, 1) := by decide +kernel
theorem dX5_readStop_21 : decode cX5_readStop 21 = .ok (.invokevirtual 89, 3) := by decide +kernel
theorem dX5_readStop_24 : decode cX5_readStop 24 = .ok (.ifCond .eq 7, 3) := by decide +kernel
theorem dX5_readStop_27 : decode cX5_readStop 27 = .ok (.iconst 1, 1) := by decide +kernel
theorem dX5_readStop_28 : decode cX5_readStop 28 = .ok (.goto 4, 3) := by decide +kernel
theorem dX5_readStop_31 : decode cX5_readStop 31 = .ok (.iconst 0, 1) := by decide +kernel
theorem dX5_readStop_32 : decode cX5_readStop 32 = .ok (.ireturn, 1) := by decide +kernel
set_option maxRecDepth 20000 in
theorem ggX5_readSea_X5_isFirst : GoodIn wsX5_readSea wsX5_isFirst := goodIn_r _ [9, 10, 11, 12, 13, 8, 14, 15, 16, 17, 18, 86, 87, 88, 89, 90, 91, 92, 93, 94, 95, 96, 111, 112, 113, 114, 115, 116, 117] (by decide +kernel) (by decide +kernel)
set_option maxRecDepth 20000 in
theorem gX5_readSea_X5_isFirst : GoodIn wsX5_readSea (wsV RX5 100 RX5 yX5_isFirst wsX5_isFirst) := goodIn_app (goodIn_of _ (by decide +kernel)) ggX5_readSea_X5_isFirst
set_option maxRecDepth 20000 in
theorem ggX5_readSea_X5_refuse : GoodIn wsX5_readSea wsX5_refuse := goodIn_r _ [14, 15, 16, 17, 18, 86, 87, 88, 89, 90, 91, 92, 93, 94, 95, 96, 111, 112, 113, 114, 115, 116, 117] (by decide +kernel) (by decide +kernel)
set_option maxRecDepth 20000 in
theorem gX5_readSea_X5_refuse : GoodIn wsX5_readSea (wsV RX5 89 RX5 yX5_refuse wsX5_refuse) := goodIn_app (goodIn_of _ (by decide +kernel)) ggX5_readSea_X5_refuse
set_option maxRecDepth 20000 in
theorem ggX5_readSea_X5_numberIn : GoodIn wsX5_readSea wsX5_numberIn := goodIn_r _ [22, 16, 23, 24, 25, 26, 27, 28, 29, 30, 31, 32, 33, 34, 35, 36, 37, 38, 39, 40, 41, 42, 43, 44, 45, 46, 47, 48, 49, 50, 51, 52, 53, 54, 55, 56, 57, 58, 59, 60, 61, 62, 63, 64, 65, 66, 67, 68, 69, 70, 71, 72, 73, 74, 75, 76, 77, 78, 8, 79, 80, 81, 11, 12, 13, 14, 15, 17, 18, 86, 87, 88, 89, 90, 91, 92, 93, 94, 95, 96, 111, 112, 113, 114, 115, 116, 117] (by decide +kernel) (by decide +kernel)
set_option maxRecDepth 20000 in
theorem gX5_readSea_X5_numberIn : GoodIn wsX5_readSea (wsV RX5 103 RX5 yX5_numberIn wsX5_numberIn) := goodIn_app (goodIn_of _ (by decide +kernel)) ggX5_readSea_X5_numberIn
set_option maxRecDepth 20000 in
theorem ggX5_readSea_X5_readStop : GoodIn wsX5_readSea wsX5_readStop := goodIn_r _ [85, 16, 80, 23, 24, 25, 26, 27, 28, 29, 30, 31, 32, 33, 34, 35, 36, 37, 38, 39, 40, 41, 42, 43, 44, 45, 46, 47, 48, 49, 50, 51, 52, 53, 54, 55, 56, 57, 58, 59, 60, 61, 62, 63, 64, 65, 66, 67, 68, 69, 70, 71, 72, 73, 74, 75, 11, 12, 13, 8, 14, 15, 17, 18, 86, 87, 88, 89, 90, 91, 92, 93, 94, 95, 96, 111, 112, 113, 114, 115, 116, 117] (by decide +kernel) (by decide +kernel)
set_option maxRecDepth 20000 in
theorem gX5_readSea_X5_readStop : GoodIn wsX5_readSea (wsV RX5 112 RX5 yX5_readStop wsX5_readStop) := goodIn_app (goodIn_of _ (by decide +kernel)) ggX5_readSea_X5_readStop
theorem dX5_readSea_0 : decode cX5_readSea 0 = .ok (.aload_n 0, 1) := by decide +kernel
theorem dX5_readSea_1 : decode cX5_readSea 1 = .ok (.iconst 0, 1) := by decide +kernel
theorem dX5_readSea_2 : decode cX5_readSea 2 = .ok (.invokevirtual 100, 3) := by decide +kernel
theorem dX5_readSea_5 : decode cX5_readSea 5 = .ok (.ifCond .ne 5, 3) := by decide +kernel
theorem dX5_readSea_8 : decode cX5_readSea 8 = .ok (.iconst 0, 1) := by decide +kernel
theorem dX5_readSea_9 : decode cX5_readSea 9 = .ok (.ireturn, 1) := by decide +kernel
theorem dX5_readSea_10 : decode cX5_readSea 10 = .ok (.aload_n 0, 1) := by decide +kernel
theorem dX5_readSea_11 : decode cX5_readSea 11 = .ok (.getfield 41, 3) := by decide +kernel
theorem dX5_readSea_14 : decode cX5_readSea 14 = .ok (.ifCond .eq 9, 3) := by decide +kernel
theorem dX5_readSea_17 : decode cX5_readSea 17 = .ok (.aload_n 0, 1) := by decide +kernel
theorem dX5_readSea_18 : decode cX5_readSea 18 = .ok (.iconst 4, 1) := by decide +kernel
theorem dX5_readSea_19 : decode cX5_readSea 19 = .ok (.invokevirtual 89, 3) := by decide +kernel
theorem dX5_readSea_22 : decode cX5_readSea 22 = .ok (.ireturn, 1) := by decide +kernel
theorem dX5_readSea_23 : decode cX5_readSea 23 = .ok (.aload_n 0, 1) := by decide +kernel
theorem dX5_readSea_24 : decode cX5_readSea 24 = .ok (.iconst 1, 1) := by decide +kernel
theorem dX5_readSea_25 : decode cX5_readSea 25 = .ok (.bipush 8, 2) := by decide +kernel
theorem dX5_readSea_27 : decode cX5_readSea 27 = .ok (.invokevirtual 103, 3) := by decide +kernel
theorem dX5_readSea_30 : decode cX5_readSea 30 = .ok (.istore_n 1, 1) := by decide +kernel
theorem dX5_readSea_31 : decode cX5_readSea 31 = .ok (.iload_n 1, 1) := by decide +kernel
theorem dX5_readSea_32 : decode cX5_readSea 32 = .ok (.iconst (-1), 1) := by decide +kernel
theorem dX5_readSea_33 : decode cX5_readSea 33 = .ok (.if_icmp .ne 7, 3) := by decide +kernel
theorem dX5_readSea_36 : decode cX5_readSea 36 = .ok (.iconst (-1), 1) := by decide +kernel
theorem dX5_readSea_37 : decode cX5_readSea 37 = .ok (.goto 10, 3) := by decide +kernel
theorem dX5_readSea_40 : decode cX5_readSea 40 = .ok (.aload_n 0, 1) := by decide +kernel
theorem dX5_readSea_41 : decode cX5_readSea 41 = .ok (.iconst 1, 1) := by decide +kernel
theorem dX5_readSea_42 : decode cX5_readSea 42 = .ok (.bipush 6, 2) := by decide +kernel
theorem dX5_readSea_44 : decode cX5_readSea 44 = .ok (.invokevirtual 103, 3) := by decide +kernel
theorem dX5_readSea_47 : decode cX5_readSea 47 = .ok (.istore_n 2, 1) := by decide +kernel
theorem dX5_readSea_48 : decode cX5_readSea 48 = .ok (.iload_n 2, 1) := by decide +kernel
theorem dX5_readSea_49 : decode cX5_readSea 49 = .ok (.iconst (-1), 1) := by decide +kernel
theorem dX5_readSea_50 : decode cX5_readSea 50 = .ok (.if_icmp .ne 5, 3) := by decide +kernel
theorem dX5_readSea_53 : decode cX5_readSea 53 = .ok (.iconst 0, 1) := by decide +kernel
theorem dX5_readSea_54 : decode cX5_readSea 54 = .ok (.ireturn, 1) := by decide +kernel
theorem dX5_readSea_55 : decode cX5_readSea 55 = .ok (.aload_n 0, 1) := by decide +kernel
theorem dX5_readSea_56 : decode cX5_readSea 56 = .ok (.getfield 9, 3) := by decide +kernel
theorem dX5_readSea_59 : decode cX5_readSea 59 = .ok (.iload_n 1, 1) := by decide +kernel
theorem dX5_readSea_60 : decode cX5_readSea 60 = .ok (.putfield 106, 3) := by decide +kernel
theorem dX5_readSea_63 : decode cX5_readSea 63 = .ok (.aload_n 0, 1) := by decide +kernel
theorem dX5_readSea_64 : decode cX5_readSea 64 = .ok (.getfield 9, 3) := by decide +kernel
theorem dX5_readSea_67 : decode cX5_readSea 67 = .ok (.iload_n 2, 1) := by decide +kernel
theorem dX5_readSea_68 : decode cX5_readSea 68 = .ok (.putfield 109, 3) := by decide +kernel
theorem dX5_readSea_71 : decode cX5_readSea 71 = .ok (.aload_n 0, 1) := by decide +kernel
theorem dX5_readSea_72 : decode cX5_readSea 72 = .ok (.invokevirtual 112, 3) := by decide +kernel
theorem dX5_readSea_75 : decode cX5_readSea 75 = .ok (.ireturn, 1) := by decide +kernel
set_option maxRecDepth 20000 in
theorem ggX5_readPeak_X5_isFirst : GoodIn wsX5_readPeak wsX5_isFirst := goodIn_r _ [11, 12, 13, 14, 15, 10, 16, 17, 18, 19, 20, 88, 89, 90, 91, 92, 93, 94, 95, 96, 97, 98, 113, 114, 115, 116, 117, 118, 119] (by decide +kernel) (by decide +kernel)
set_option maxRecDepth 20000 in
theorem gX5_readPeak_X5_isFirst : GoodIn wsX5_readPeak (wsV RX5 100 RX5 yX5_isFirst wsX5_isFirst) := goodIn_app (goodIn_of _ (by decide +kernel)) ggX5_readPeak_X5_isFirst
set_option maxRecDepth 20000 in
theorem ggX5_readPeak_X5_numberIn : GoodIn wsX5_readPeak wsX5_numberIn := goodIn_r _ [24, 18, 25, 26, 27, 28, 29, 30, 31, 32, 33, 34, 35, 36, 37, 38, 39, 40, 41, 42, 43, 44, 45, 46, 47, 48, 49, 50, 51, 52, 53, 54, 55, 56, 57, 58, 59, 60, 61, 62, 63, 64, 65, 66, 67, 68, 69, 70, 71, 72, 73, 74, 75, 76, 77, 78, 79, 80, 10, 81, 82, 83, 13, 14, 15, 16, 17, 19, 20, 88, 89, 90, 91, 92, 93, 94, 95, 96, 97, 98, 113, 114, 115, 116, 117, 118, 119] (by decide +kernel) (by decide +kernel)
set_option maxRecDepth 20000 in
theorem gX5_readPeak_X5_numberIn : GoodIn wsX5_readPeak (wsV RX5 103 RX5 yX5_numberIn wsX5_numberIn) := goodIn_app (goodIn_of _ (by decide +kernel)) ggX5_readPeak_X5_numberIn
set_option maxRecDepth 20000 in
theorem ggX5_readPeak_X5_readStop : GoodIn wsX5_readPeak wsX5_readStop := goodIn_r _ [87, 18, 82, 25, 26, 27, 28, 29, 30, 31, 32, 33, 34, 35, 36, 37, 38, 39, 40, 41, 42, 43, 44, 45, 46, 47, 48, 49, 50, 51, 52, 53, 54, 55, 56, 57, 58, 59, 60, 61, 62, 63, 64, 65, 66, 67, 68, 69, 70, 71, 72, 73, 74, 75, 76, 77, 13, 14, 15, 10, 16, 17, 19, 20, 88, 89, 90, 91, 92, 93, 94, 95, 96, 97, 98, 113, 114, 115, 116, 117, 118, 119] (by decide +kernel) (by decide +kernel)
set_option maxRecDepth 20000 in
theorem gX5_readPeak_X5_readStop : GoodIn wsX5_readPeak (wsV RX5 112 RX5 yX5_readStop wsX5_readStop) := goodIn_app (goodIn_of _ (by decide +kernel)) ggX5_readPeak_X5_readStop
theorem dX5_readPeak_0 : decode cX5_readPeak 0 = .ok (.aload_n 0, 1) := by decide +kernel
theorem dX5_readPeak_1 : decode cX5_readPeak 1 = .ok (.iconst 1, 1) := by decide +kernel
theorem dX5_readPeak_2 : decode cX5_readPeak 2 = .ok (.invokevirtual 100, 3) := by decide +kernel
theorem dX5_readPeak_5 : decode cX5_readPeak 5 = .ok (.ifCond .ne 5, 3) := by decide +kernel
theorem dX5_readPeak_8 : decode cX5_readPeak 8 = .ok (.iconst 0, 1) := by decide +kernel
theorem dX5_readPeak_9 : decode cX5_readPeak 9 = .ok (.ireturn, 1) := by decide +kernel
theorem dX5_readPeak_10 : decode cX5_readPeak 10 = .ok (.aload_n 0, 1) := by decide +kernel
theorem dX5_readPeak_11 : decode cX5_readPeak 11 = .ok (.iconst 1, 1) := by decide +kernel
theorem dX5_readPeak_12 : decode cX5_readPeak 12 = .ok (.putfield 41, 3) := by decide +kernel
theorem dX5_readPeak_15 : decode cX5_readPeak 15 = .ok (.aload_n 0, 1) := by decide +kernel
theorem dX5_readPeak_16 : decode cX5_readPeak 16 = .ok (.iconst 0, 1) := by decide +kernel
theorem dX5_readPeak_17 : decode cX5_readPeak 17 = .ok (.aload_n 0, 1) := by decide +kernel
theorem dX5_readPeak_18 : decode cX5_readPeak 18 = .ok (.getfield 9, 3) := by decide +kernel
theorem dX5_readPeak_21 : decode cX5_readPeak 21 = .ok (.getfield 106, 3) := by decide +kernel
theorem dX5_readPeak_24 : decode cX5_readPeak 24 = .ok (.iconst 1, 1) := by decide +kernel
theorem dX5_readPeak_25 : decode cX5_readPeak 25 = .ok (.isub, 1) := by decide +kernel
theorem dX5_readPeak_26 : decode cX5_readPeak 26 = .ok (.invokevirtual 103, 3) := by decide +kernel
theorem dX5_readPeak_29 : decode cX5_readPeak 29 = .ok (.istore_n 1, 1) := by decide +kernel
theorem dX5_readPeak_30 : decode cX5_readPeak 30 = .ok (.iload_n 1, 1) := by decide +kernel
theorem dX5_readPeak_31 : decode cX5_readPeak 31 = .ok (.iconst (-1), 1) := by decide +kernel
theorem dX5_readPeak_32 : decode cX5_readPeak 32 = .ok (.if_icmp .ne 7, 3) := by decide +kernel
theorem dX5_readPeak_35 : decode cX5_readPeak 35 = .ok (.iconst (-1), 1) := by decide +kernel
theorem dX5_readPeak_36 : decode cX5_readPeak 36 = .ok (.goto 17, 3) := by decide +kernel
theorem dX5_readPeak_39 : decode cX5_readPeak 39 = .ok (.aload_n 0, 1) := by decide +kernel
theorem dX5_readPeak_40 : decode cX5_readPeak 40 = .ok (.iconst 0, 1) := by decide +kernel
theorem dX5_readPeak_41 : decode cX5_readPeak 41 = .ok (.aload_n 0, 1) := by decide +kernel
theorem dX5_readPeak_42 : decode cX5_readPeak 42 = .ok (.getfield 9, 3) := by decide +kernel
theorem dX5_readPeak_45 : decode cX5_readPeak 45 = .ok (.getfield 109, 3) := by decide +kernel
theorem dX5_readPeak_48 : decode cX5_readPeak 48 = .ok (.iconst 1, 1) := by decide +kernel
theorem dX5_readPeak_49 : decode cX5_readPeak 49 = .ok (.isub, 1) := by decide +kernel
theorem dX5_readPeak_50 : decode cX5_readPeak 50 = .ok (.invokevirtual 103, 3) := by decide +kernel
theorem dX5_readPeak_53 : decode cX5_readPeak 53 = .ok (.istore_n 2, 1) := by decide +kernel
theorem dX5_readPeak_54 : decode cX5_readPeak 54 = .ok (.iload_n 2, 1) := by decide +kernel
theorem dX5_readPeak_55 : decode cX5_readPeak 55 = .ok (.iconst (-1), 1) := by decide +kernel
theorem dX5_readPeak_56 : decode cX5_readPeak 56 = .ok (.if_icmp .ne 5, 3) := by decide +kernel
theorem dX5_readPeak_59 : decode cX5_readPeak 59 = .ok (.iconst 0, 1) := by decide +kernel
theorem dX5_readPeak_60 : decode cX5_readPeak 60 = .ok (.ireturn, 1) := by decide +kernel
theorem dX5_readPeak_61 : decode cX5_readPeak 61 = .ok (.aload_n 0, 1) := by decide +kernel
theorem dX5_readPeak_62 : decode cX5_readPeak 62 = .ok (.getfield 9, 3) := by decide +kernel
theorem dX5_readPeak_65 : decode cX5_readPeak 65 = .ok (.iload_n 1, 1) := by decide +kernel
theorem dX5_readPeak_66 : decode cX5_readPeak 66 = .ok (.putfield 115, 3) := by decide +kernel
theorem dX5_readPeak_69 : decode cX5_readPeak 69 = .ok (.aload_n 0, 1) := by decide +kernel
theorem dX5_readPeak_70 : decode cX5_readPeak 70 = .ok (.getfield 9, 3) := by decide +kernel
theorem dX5_readPeak_73 : decode cX5_readPeak 73 = .ok (.iload_n 2, 1) := by decide +kernel
theorem dX5_readPeak_74 : decode cX5_readPeak 74 = .ok (.putfield 118, 3) := by decide +kernel
theorem dX5_readPeak_77 : decode cX5_readPeak 77 = .ok (.aload_n 0, 1) := by decide +kernel
theorem dX5_readPeak_78 : decode cX5_readPeak 78 = .ok (.invokevirtual 112, 3) := by decide +kernel
theorem dX5_readPeak_81 : decode cX5_readPeak 81 = .ok (.ireturn, 1) := by decide +kernel
set_option maxRecDepth 20000 in
theorem ggX5_readSurfer_X5_refuse : GoodIn wsX5_readSurfer wsX5_refuse := goodIn_r _ [14, 15, 5, 16, 17, 99, 100, 101, 102, 103, 104, 105, 106, 107, 108, 109, 131, 132, 133, 134, 135, 136, 137] (by decide +kernel) (by decide +kernel)
set_option maxRecDepth 20000 in
theorem gX5_readSurfer_X5_refuse : GoodIn wsX5_readSurfer (wsV RX5 89 RX5 yX5_refuse wsX5_refuse) := goodIn_app (goodIn_of _ (by decide +kernel)) ggX5_readSurfer_X5_refuse
set_option maxRecDepth 20000 in
theorem ggX5_readSurfer_X7_advance : GoodIn wsX5_readSurfer wsX7_advance := goodIn_r _ [22, 23, 24, 25, 26, 27, 28, 29, 30, 31, 21, 32, 33, 34, 35, 36, 37, 38, 39, 40, 41, 42, 43, 44, 45, 46, 47, 48, 49, 50, 51, 52, 53, 54, 55, 56, 57, 58, 59, 60, 61, 62, 63, 64, 65, 66, 67, 68, 69, 70, 131, 132, 133, 134, 135, 136, 137] (by decide +kernel) (by decide +kernel)
set_option maxRecDepth 20000 in
theorem gX5_readSurfer_X7_advance : GoodIn wsX5_readSurfer (wsV RX5 49 RX7 yX7_advance wsX7_advance) := goodIn_app (goodIn_of _ (by decide +kernel)) ggX5_readSurfer_X7_advance
set_option maxRecDepth 20000 in
theorem ggX5_readSurfer_X1_hasName : GoodIn wsX5_readSurfer wsX1_hasName := goodIn_r _ [75, 76, 77, 124, 125, 126, 127, 128, 129, 130] (by decide +kernel) (by decide +kernel)
set_option maxRecDepth 20000 in
theorem gX5_readSurfer_X1_hasName : GoodIn wsX5_readSurfer (wsV RX5 130 RX1 yX1_hasName wsX1_hasName) := goodIn_app (goodIn_of _ (by decide +kernel)) ggX5_readSurfer_X1_hasName
set_option maxRecDepth 20000 in
theorem ggX5_readSurfer_X5_numberIn : GoodIn wsX5_readSurfer wsX5_numberIn := goodIn_r _ [81, 5, 18, 19, 20, 21, 22, 23, 24, 25, 26, 27, 28, 29, 30, 31, 32, 33, 34, 35, 36, 37, 38, 39, 40, 41, 42, 43, 44, 45, 46, 47, 48, 49, 50, 51, 52, 53, 54, 55, 56, 57, 58, 59, 60, 61, 62, 63, 64, 65, 66, 67, 68, 69, 70, 82, 83, 84, 13, 85, 6, 7, 10, 11, 12, 14, 15, 16, 17, 99, 100, 101, 102, 103, 104, 105, 106, 107, 108, 109, 131, 132, 133, 134, 135, 136, 137] (by decide +kernel) (by decide +kernel)
set_option maxRecDepth 20000 in
theorem gX5_readSurfer_X5_numberIn : GoodIn wsX5_readSurfer (wsV RX5 103 RX5 yX5_numberIn wsX5_numberIn) := goodIn_app (goodIn_of _ (by decide +kernel)) ggX5_readSurfer_X5_numberIn
set_option maxRecDepth 20000 in
theorem ggX5_readSurfer_X1_add : GoodIn wsX5_readSurfer wsX1_add := goodIn_r _ [89, 76, 77, 90, 91, 92, 93, 94, 124, 125, 126, 127, 128, 129, 130] (by decide +kernel) (by decide +kernel)
set_option maxRecDepth 20000 in
theorem gX5_readSurfer_X1_add : GoodIn wsX5_readSurfer (wsV RX5 133 RX1 yX1_add wsX1_add) := goodIn_app (goodIn_of _ (by decide +kernel)) ggX5_readSurfer_X1_add
set_option maxRecDepth 20000 in
theorem ggX5_readSurfer_X5_readStop : GoodIn wsX5_readSurfer wsX5_readStop := goodIn_r _ [98, 5, 6, 18, 19, 20, 21, 22, 23, 24, 25, 26, 27, 28, 29, 30, 31, 32, 33, 34, 35, 36, 37, 38, 39, 40, 41, 42, 43, 44, 45, 46, 47, 48, 49, 50, 51, 52, 53, 54, 55, 56, 57, 58, 59, 60, 61, 62, 63, 64, 65, 66, 67, 68, 69, 70, 10, 11, 12, 13, 14, 15, 16, 17, 99, 100, 101, 102, 103, 104, 105, 106, 107, 108, 109, 131, 132, 133, 134, 135, 136, 137] (by decide +kernel) (by decide +kernel)
set_option maxRecDepth 20000 in
theorem gX5_readSurfer_X5_readStop : GoodIn wsX5_readSurfer (wsV RX5 112 RX5 yX5_readStop wsX5_readStop) := goodIn_app (goodIn_of _ (by decide +kernel)) ggX5_readSurfer_X5_readStop
theorem dX5_readSurfer_0 : decode cX5_readSurfer 0 = .ok (.aload_n 0, 1) := by decide +kernel
theorem dX5_readSurfer_1 : decode cX5_readSurfer 1 = .ok (.getfield 9, 3) := by decide +kernel
theorem dX5_readSurfer_4 : decode cX5_readSurfer 4 = .ok (.getfield 121, 3) := by decide +kernel
theorem dX5_readSurfer_7 : decode cX5_readSurfer 7 = .ok (.getfield 125, 3) := by decide +kernel
theorem dX5_readSurfer_10 : decode cX5_readSurfer 10 = .ok (.iconst 5, 1) := by decide +kernel
theorem dX5_readSurfer_11 : decode cX5_readSurfer 11 = .ok (.if_icmp .lt 9, 3) := by decide +kernel
theorem dX5_readSurfer_14 : decode cX5_readSurfer 14 = .ok (.aload_n 0, 1) := by decide +kernel
theorem dX5_readSurfer_15 : decode cX5_readSurfer 15 = .ok (.iconst 2, 1) := by decide +kernel
theorem dX5_readSurfer_16 : decode cX5_readSurfer 16 = .ok (.invokevirtual 89, 3) := by decide +kernel
theorem dX5_readSurfer_19 : decode cX5_readSurfer 19 = .ok (.ireturn, 1) := by decide +kernel
theorem dX5_readSurfer_20 : decode cX5_readSurfer 20 = .ok (.aload_n 0, 1) := by decide +kernel
theorem dX5_readSurfer_21 : decode cX5_readSurfer 21 = .ok (.iconst 1, 1) := by decide +kernel
theorem dX5_readSurfer_22 : decode cX5_readSurfer 22 = .ok (.putfield 41, 3) := by decide +kernel
theorem dX5_readSurfer_25 : decode cX5_readSurfer 25 = .ok (.aload_n 0, 1) := by decide +kernel
theorem dX5_readSurfer_26 : decode cX5_readSurfer 26 = .ok (.getfield 18, 3) := by decide +kernel
theorem dX5_readSurfer_29 : decode cX5_readSurfer 29 = .ok (.invokevirtual 49, 3) := by decide +kernel
theorem dX5_readSurfer_32 : decode cX5_readSurfer 32 = .ok (.aload_n 0, 1) := by decide +kernel
theorem dX5_readSurfer_33 : decode cX5_readSurfer 33 = .ok (.getfield 18, 3) := by decide +kernel
theorem dX5_readSurfer_36 : decode cX5_readSurfer 36 = .ok (.getfield 52, 3) := by decide +kernel
theorem dX5_readSurfer_39 : decode cX5_readSurfer 39 = .ok (.bipush 24, 2) := by decide +kernel
theorem dX5_readSurfer_41 : decode cX5_readSurfer 41 = .ok (.if_icmp .eq 9, 3) := by decide +kernel
theorem dX5_readSurfer_44 : decode cX5_readSurfer 44 = .ok (.aload_n 0, 1) := by decide +kernel
theorem dX5_readSurfer_45 : decode cX5_readSurfer 45 = .ok (.iconst 1, 1) := by decide +kernel
theorem dX5_readSurfer_46 : decode cX5_readSurfer 46 = .ok (.invokevirtual 89, 3) := by decide +kernel
theorem dX5_readSurfer_49 : decode cX5_readSurfer 49 = .ok (.ireturn, 1) := by decide +kernel
theorem dX5_readSurfer_50 : decode cX5_readSurfer 50 = .ok (.aload_n 0, 1) := by decide +kernel
theorem dX5_readSurfer_51 : decode cX5_readSurfer 51 = .ok (.getfield 9, 3) := by decide +kernel
theorem dX5_readSurfer_54 : decode cX5_readSurfer 54 = .ok (.getfield 121, 3) := by decide +kernel
theorem dX5_readSurfer_57 : decode cX5_readSurfer 57 = .ok (.aload_n 0, 1) := by decide +kernel
theorem dX5_readSurfer_58 : decode cX5_readSurfer 58 = .ok (.getfield 18, 3) := by decide +kernel
theorem dX5_readSurfer_61 : decode cX5_readSurfer 61 = .ok (.getfield 97, 3) := by decide +kernel
theorem dX5_readSurfer_64 : decode cX5_readSurfer 64 = .ok (.invokevirtual 130, 3) := by decide +kernel
theorem dX5_readSurfer_67 : decode cX5_readSurfer 67 = .ok (.ifCond .eq 9, 3) := by decide +kernel
theorem dX5_readSurfer_70 : decode cX5_readSurfer 70 = .ok (.aload_n 0, 1) := by decide +kernel
theorem dX5_readSurfer_71 : decode cX5_readSurfer 71 = .ok (.iconst 3, 1) := by decide +kernel
theorem dX5_readSurfer_72 : decode cX5_readSurfer 72 = .ok (.invokevirtual 89, 3) := by decide +kernel
theorem dX5_readSurfer_75 : decode cX5_readSurfer 75 = .ok (.ireturn, 1) := by decide +kernel
theorem dX5_readSurfer_76 : decode cX5_readSurfer 76 = .ok (.aload_n 0, 1) := by decide +kernel
theorem dX5_readSurfer_77 : decode cX5_readSurfer 77 = .ok (.getfield 18, 3) := by decide +kernel
theorem dX5_readSurfer_80 : decode cX5_readSurfer 80 = .ok (.getfield 97, 3) := by decide +kernel
theorem dX5_readSurfer_83 : decode cX5_readSurfer 83 = .ok (.istore_n 1, 1) := by decide +kernel
theorem dX5_readSurfer_84 : decode cX5_readSurfer 84 = .ok (.aload_n 0, 1) := by decide +kernel
theorem dX5_readSurfer_85 : decode cX5_readSurfer 85 = .ok (.iconst 0, 1) := by decide +kernel
theorem dX5_readSurfer_86 : decode cX5_readSurfer 86 = .ok (.aload_n 0, 1) := by decide +kernel
theorem dX5_readSurfer_87 : decode cX5_readSurfer 87 = .ok (.getfield 9, 3) := by decide +kernel
theorem dX5_readSurfer_90 : decode cX5_readSurfer 90 = .ok (.getfield 106, 3) := by decide +kernel
theorem dX5_readSurfer_93 : decode cX5_readSurfer 93 = .ok (.iconst 1, 1) := by decide +kernel
theorem dX5_readSurfer_94 : decode cX5_readSurfer 94 = .ok (.isub, 1) := by decide +kernel
theorem dX5_readSurfer_95 : decode cX5_readSurfer 95 = .ok (.invokevirtual 103, 3) := by decide +kernel
theorem dX5_readSurfer_98 : decode cX5_readSurfer 98 = .ok (.istore_n 2, 1) := by decide +kernel
theorem dX5_readSurfer_99 : decode cX5_readSurfer 99 = .ok (.iload_n 2, 1) := by decide +kernel
theorem dX5_readSurfer_100 : decode cX5_readSurfer 100 = .ok (.iconst (-1), 1) := by decide +kernel
theorem dX5_readSurfer_101 : decode cX5_readSurfer 101 = .ok (.if_icmp .ne 7, 3) := by decide +kernel
theorem dX5_readSurfer_104 : decode cX5_readSurfer 104 = .ok (.iconst (-1), 1) := by decide +kernel
theorem dX5_readSurfer_105 : decode cX5_readSurfer 105 = .ok (.goto 17, 3) := by decide +kernel
theorem dX5_readSurfer_108 : decode cX5_readSurfer 108 = .ok (.aload_n 0, 1) := by decide +kernel
theorem dX5_readSurfer_109 : decode cX5_readSurfer 109 = .ok (.iconst 0, 1) := by decide +kernel
theorem dX5_readSurfer_110 : decode cX5_readSurfer 110 = .ok (.aload_n 0, 1) := by decide +kernel
theorem dX5_readSurfer_111 : decode cX5_readSurfer 111 = .ok (.getfield 9, 3) := by decide +kernel
theorem dX5_readSurfer_114 : decode cX5_readSurfer 114 = .ok (.getfield 109, 3) := by decide +kernel
theorem dX5_readSurfer_117 : decode cX5_readSurfer 117 = .ok (.iconst 1, 1) := by decide +kernel
theorem dX5_readSurfer_118 : decode cX5_readSurfer 118 = .ok (.isub, 1) := by decide +kernel
theorem dX5_readSurfer_119 : decode cX5_readSurfer 119 = .ok (.invokevirtual 103, 3) := by decide +kernel
theorem dX5_readSurfer_122 : decode cX5_readSurfer 122 = .ok (.istore_n 3, 1) := by decide +kernel
theorem dX5_readSurfer_123 : decode cX5_readSurfer 123 = .ok (.iload_n 3, 1) := by decide +kernel
theorem dX5_readSurfer_124 : decode cX5_readSurfer 124 = .ok (.iconst (-1), 1) := by decide +kernel
theorem dX5_readSurfer_125 : decode cX5_readSurfer 125 = .ok (.if_icmp .ne 7, 3) := by decide +kernel
theorem dX5_readSurfer_128 : decode cX5_readSurfer 128 = .ok (.iconst (-1), 1) := by decide +kernel
theorem dX5_readSurfer_129 : decode cX5_readSurfer 129 = .ok (.goto 10, 3) := by decide +kernel
theorem dX5_readSurfer_132 : decode cX5_readSurfer 132 = .ok (.aload_n 0, 1) := by decide +kernel
theorem dX5_readSurfer_133 : decode cX5_readSurfer 133 = .ok (.iconst 1, 1) := by decide +kernel
theorem dX5_readSurfer_134 : decode cX5_readSurfer 134 = .ok (.bipush 9, 2) := by decide +kernel
theorem dX5_readSurfer_136 : decode cX5_readSurfer 136 = .ok (.invokevirtual 103, 3) := by decide +kernel
theorem dX5_readSurfer_139 : decode cX5_readSurfer 139 = .ok (.istore 4, 2) := by decide +kernel
theorem dX5_readSurfer_141 : decode cX5_readSurfer 141 = .ok (.iload 4, 2) := by decide +kernel
theorem dX5_readSurfer_143 : decode cX5_readSurfer 143 = .ok (.iconst (-1), 1) := by decide +kernel
theorem dX5_readSurfer_144 : decode cX5_readSurfer 144 = .ok (.if_icmp .ne 7, 3) := by decide +kernel
theorem dX5_readSurfer_147 : decode cX5_readSurfer 147 = .ok (.iconst (-1), 1) := by decide +kernel
theorem dX5_readSurfer_148 : decode cX5_readSurfer 148 = .ok (.goto 9, 3) := by decide +kernel
theorem dX5_readSurfer_151 : decode cX5_readSurfer 151 = .ok (.aload_n 0, 1) := by decide +kernel
theorem dX5_readSurfer_152 : decode cX5_readSurfer 152 = .ok (.iconst 1, 1) := by decide +kernel
theorem dX5_readSurfer_153 : decode cX5_readSurfer 153 = .ok (.iconst 3, 1) := by decide +kernel
theorem dX5_readSurfer_154 : decode cX5_readSurfer 154 = .ok (.invokevirtual 103, 3) := by decide +kernel
theorem dX5_readSurfer_157 : decode cX5_readSurfer 157 = .ok (.istore 5, 2) := by decide +kernel
theorem dX5_readSurfer_159 : decode cX5_readSurfer 159 = .ok (.iload 5, 2) := by decide +kernel
theorem dX5_readSurfer_161 : decode cX5_readSurfer 161 = .ok (.iconst (-1), 1) := by decide +kernel
theorem dX5_readSurfer_162 : decode cX5_readSurfer 162 = .ok (.if_icmp .ne 7, 3) := by decide +kernel
theorem dX5_readSurfer_165 : decode cX5_readSurfer 165 = .ok (.iconst (-1), 1) := by decide +kernel
theorem dX5_readSurfer_166 : decode cX5_readSurfer 166 = .ok (.goto 10, 3) := by decide +kernel
theorem dX5_readSurfer_169 : decode cX5_readSurfer 169 = .ok (.aload_n 0, 1) := by decide +kernel
theorem dX5_readSurfer_170 : decode cX5_readSurfer 170 = .ok (.iconst 0, 1) := by decide +kernel
theorem dX5_readSurfer_171 : decode cX5_readSurfer 171 = .ok (.bipush 100, 2) := by decide +kernel
theorem dX5_readSurfer_173 : decode cX5_readSurfer 173 = .ok (.invokevirtual 103, 3) := by decide +kernel
theorem dX5_readSurfer_176 : decode cX5_readSurfer 176 = .ok (.istore 6, 2) := by decide +kernel
theorem dX5_readSurfer_178 : decode cX5_readSurfer 178 = .ok (.iload 6, 2) := by decide +kernel
theorem dX5_readSurfer_180 : decode cX5_readSurfer 180 = .ok (.iconst (-1), 1) := by decide +kernel
theorem dX5_readSurfer_181 : decode cX5_readSurfer 181 = .ok (.if_icmp .ne 7, 3) := by decide +kernel
theorem dX5_readSurfer_184 : decode cX5_readSurfer 184 = .ok (.iconst (-1), 1) := by decide +kernel
theorem dX5_readSurfer_185 : decode cX5_readSurfer 185 = .ok (.goto 10, 3) := by decide +kernel
theorem dX5_readSurfer_188 : decode cX5_readSurfer 188 = .ok (.aload_n 0, 1) := by decide +kernel
theorem dX5_readSurfer_189 : decode cX5_readSurfer 189 = .ok (.iconst 0, 1) := by decide +kernel
theorem dX5_readSurfer_190 : decode cX5_readSurfer 190 = .ok (.bipush 100, 2) := by decide +kernel
theorem dX5_readSurfer_192 : decode cX5_readSurfer 192 = .ok (.invokevirtual 103, 3) := by decide +kernel
theorem dX5_readSurfer_195 : decode cX5_readSurfer 195 = .ok (.istore 7, 2) := by decide +kernel
theorem dX5_readSurfer_197 : decode cX5_readSurfer 197 = .ok (.iload 7, 2) := by decide +kernel
theorem dX5_readSurfer_199 : decode cX5_readSurfer 199 = .ok (.iconst (-1), 1) := by decide +kernel
theorem dX5_readSurfer_200 : decode cX5_readSurfer 200 = .ok (.if_icmp .ne 5, 3) := by decide +kernel
theorem dX5_readSurfer_203 : decode cX5_readSurfer 203 = .ok (.iconst 0, 1) := by decide +kernel
theorem dX5_readSurfer_204 : decode cX5_readSurfer 204 = .ok (.ireturn, 1) := by decide +kernel
theorem dX5_readSurfer_205 : decode cX5_readSurfer 205 = .ok (.aload_n 0, 1) := by decide +kernel
theorem dX5_readSurfer_206 : decode cX5_readSurfer 206 = .ok (.getfield 9, 3) := by decide +kernel
theorem dX5_readSurfer_209 : decode cX5_readSurfer 209 = .ok (.getfield 121, 3) := by decide +kernel
theorem dX5_readSurfer_212 : decode cX5_readSurfer 212 = .ok (.iload_n 1, 1) := by decide +kernel
theorem dX5_readSurfer_213 : decode cX5_readSurfer 213 = .ok (.iload_n 3, 1) := by decide +kernel
theorem dX5_readSurfer_214 : decode cX5_readSurfer 214 = .ok (.aload_n 0, 1) := by decide +kernel
theorem dX5_readSurfer_215 : decode cX5_readSurfer 215 = .ok (.getfield 9, 3) := by decide +kernel
theorem dX5_readSurfer_218 : decode cX5_readSurfer 218 = .ok (.getfield 106, 3) := by decide +kernel
theorem dX5_readSurfer_221 : decode cX5_readSurfer 221 = .ok (.imul, 1) := by decide +kernel
theorem dX5_readSurfer_222 : decode cX5_readSurfer 222 = .ok (.iload_n 2, 1) := by decide +kernel
theorem dX5_readSurfer_223 : decode cX5_readSurfer 223 = .ok (.iadd, 1) := by decide +kernel
theorem dX5_readSurfer_224 : decode cX5_readSurfer 224 = .ok (.iload 4, 2) := by decide +kernel
theorem dX5_readSurfer_226 : decode cX5_readSurfer 226 = .ok (.iload 5, 2) := by decide +kernel
theorem dX5_readSurfer_228 : decode cX5_readSurfer 228 = .ok (.iload 6, 2) := by decide +kernel
theorem dX5_readSurfer_230 : decode cX5_readSurfer 230 = .ok (.iload 7, 2) := by decide +kernel
theorem dX5_readSurfer_232 : decode cX5_readSurfer 232 = .ok (.invokevirtual 133, 3) := by decide +kernel
theorem dX5_readSurfer_235 : decode cX5_readSurfer 235 = .ok (.aload_n 0, 1) := by decide +kernel
theorem dX5_readSurfer_236 : decode cX5_readSurfer 236 = .ok (.invokevirtual 112, 3) := by decide +kernel
theorem dX5_readSurfer_239 : decode cX5_readSurfer 239 = .ok (.ireturn, 1) := by decide +kernel
set_option maxRecDepth 20000 in
theorem ggX5_readSet_X5_refuse : GoodIn wsX5_readSet wsX5_refuse := goodIn_r _ [10, 11, 4, 12, 13, 101, 102, 103, 104, 105, 106, 107, 108, 109, 110, 111, 134, 135, 136, 137, 138, 139, 140] (by decide +kernel) (by decide +kernel)
set_option maxRecDepth 20000 in
theorem gX5_readSet_X5_refuse : GoodIn wsX5_readSet (wsV RX5 89 RX5 yX5_refuse wsX5_refuse) := goodIn_app (goodIn_of _ (by decide +kernel)) ggX5_readSet_X5_refuse
set_option maxRecDepth 20000 in
theorem ggX5_readSet_X5_numberIn : GoodIn wsX5_readSet wsX5_numberIn := goodIn_r _ [17, 4, 18, 19, 20, 21, 22, 23, 24, 25, 26, 27, 28, 29, 30, 31, 32, 33, 34, 35, 36, 37, 38, 39, 40, 41, 42, 43, 44, 45, 46, 47, 48, 49, 50, 51, 52, 53, 54, 55, 56, 57, 58, 59, 60, 61, 62, 63, 64, 65, 66, 67, 68, 69, 70, 71, 72, 73, 9, 74, 5, 75, 6, 7, 8, 10, 11, 12, 13, 101, 102, 103, 104, 105, 106, 107, 108, 109, 110, 111, 134, 135, 136, 137, 138, 139, 140] (by decide +kernel) (by decide +kernel)
set_option maxRecDepth 20000 in
theorem gX5_readSet_X5_numberIn : GoodIn wsX5_readSet (wsV RX5 103 RX5 yX5_numberIn wsX5_numberIn) := goodIn_app (goodIn_of _ (by decide +kernel)) ggX5_readSet_X5_numberIn
set_option maxRecDepth 20000 in
theorem ggX5_readSet_X10_lastMinute : GoodIn wsX5_readSet wsX10_lastMinute := goodIn_r _ [80, 81, 82, 83, 84, 79, 85, 86, 87, 126, 127, 128, 129, 130, 131, 132, 133] (by decide +kernel) (by decide +kernel)
set_option maxRecDepth 20000 in
theorem gX5_readSet_X10_lastMinute : GoodIn wsX5_readSet (wsV RX5 146 RX10 yX10_lastMinute wsX10_lastMinute) := goodIn_app (goodIn_of _ (by decide +kernel)) ggX5_readSet_X10_lastMinute
set_option maxRecDepth 20000 in
theorem ggX5_readSet_X10_beginSet : GoodIn wsX5_readSet wsX10_beginSet := goodIn_r _ [91, 92, 87, 93, 81, 126, 127, 128, 129, 130, 131, 132, 133] (by decide +kernel) (by decide +kernel)
set_option maxRecDepth 20000 in
theorem gX5_readSet_X10_beginSet : GoodIn wsX5_readSet (wsV RX5 150 RX10 yX10_beginSet wsX10_beginSet) := goodIn_app (goodIn_of _ (by decide +kernel)) ggX5_readSet_X10_beginSet
set_option maxRecDepth 20000 in
theorem ggX5_readSet_X7_advance : GoodIn wsX5_readSet wsX7_advance := goodIn_r _ [22, 23, 24, 25, 26, 27, 28, 29, 30, 31, 21, 32, 33, 34, 35, 36, 37, 38, 39, 40, 41, 42, 43, 44, 45, 46, 47, 48, 49, 50, 51, 52, 53, 54, 55, 56, 57, 58, 59, 60, 61, 62, 63, 64, 65, 66, 67, 68, 69, 70, 134, 135, 136, 137, 138, 139, 140] (by decide +kernel) (by decide +kernel)
set_option maxRecDepth 20000 in
theorem gX5_readSet_X7_advance : GoodIn wsX5_readSet (wsV RX5 49 RX7 yX7_advance wsX7_advance) := goodIn_app (goodIn_of _ (by decide +kernel)) ggX5_readSet_X7_advance
set_option maxRecDepth 20000 in
theorem ggX5_readSet_X5_takenNumber : GoodIn wsX5_readSet wsX5_takenNumber := goodIn_r _ [74, 4, 5, 75, 6, 7, 8, 9, 10, 11, 12, 13, 101, 102, 103, 104, 105, 106, 107, 108, 109, 110, 111, 134, 135, 136, 137, 138, 139, 140] (by decide +kernel) (by decide +kernel)
set_option maxRecDepth 20000 in
theorem gX5_readSet_X5_takenNumber : GoodIn wsX5_readSet (wsV RX5 93 RX5 yX5_takenNumber wsX5_takenNumber) := goodIn_app (goodIn_of _ (by decide +kernel)) ggX5_readSet_X5_takenNumber
set_option maxRecDepth 20000 in
theorem ggX5_readSet_X10_add : GoodIn wsX5_readSet wsX10_add := goodIn_r _ [97, 93, 92, 81, 86, 98, 99, 100, 126, 127, 128, 129, 130, 131, 132, 133] (by decide +kernel) (by decide +kernel)
set_option maxRecDepth 20000 in
theorem gX5_readSet_X10_add : GoodIn wsX5_readSet (wsV RX5 153 RX10 yX10_add wsX10_add) := goodIn_app (goodIn_of _ (by decide +kernel)) ggX5_readSet_X10_add
theorem dX5_readSet_0 : decode cX5_readSet 0 = .ok (.aload_n 0, 1) := by decide +kernel
theorem dX5_readSet_1 : decode cX5_readSet 1 = .ok (.getfield 9, 3) := by decide +kernel
theorem dX5_readSet_4 : decode cX5_readSet 4 = .ok (.getfield 137, 3) := by decide +kernel
theorem dX5_readSet_7 : decode cX5_readSet 7 = .ok (.astore_n 1, 1) := by decide +kernel
theorem dX5_readSet_8 : decode cX5_readSet 8 = .ok (.aload_n 1, 1) := by decide +kernel
theorem dX5_readSet_9 : decode cX5_readSet 9 = .ok (.getfield 141, 3) := by decide +kernel
theorem dX5_readSet_12 : decode cX5_readSet 12 = .ok (.iconst 4, 1) := by decide +kernel
theorem dX5_readSet_13 : decode cX5_readSet 13 = .ok (.if_icmp .lt 9, 3) := by decide +kernel
theorem dX5_readSet_16 : decode cX5_readSet 16 = .ok (.aload_n 0, 1) := by decide +kernel
theorem dX5_readSet_17 : decode cX5_readSet 17 = .ok (.iconst 2, 1) := by decide +kernel
theorem dX5_readSet_18 : decode cX5_readSet 18 = .ok (.invokevirtual 89, 3) := by decide +kernel
theorem dX5_readSet_21 : decode cX5_readSet 21 = .ok (.ireturn, 1) := by decide +kernel
theorem dX5_readSet_22 : decode cX5_readSet 22 = .ok (.aload_n 0, 1) := by decide +kernel
theorem dX5_readSet_23 : decode cX5_readSet 23 = .ok (.iconst 0, 1) := by decide +kernel
theorem dX5_readSet_24 : decode cX5_readSet 24 = .ok (.bipush 99, 2) := by decide +kernel
theorem dX5_readSet_26 : decode cX5_readSet 26 = .ok (.invokevirtual 103, 3) := by decide +kernel
theorem dX5_readSet_29 : decode cX5_readSet 29 = .ok (.istore_n 2, 1) := by decide +kernel
theorem dX5_readSet_30 : decode cX5_readSet 30 = .ok (.iload_n 2, 1) := by decide +kernel
theorem dX5_readSet_31 : decode cX5_readSet 31 = .ok (.iconst (-1), 1) := by decide +kernel
theorem dX5_readSet_32 : decode cX5_readSet 32 = .ok (.if_icmp .ne 5, 3) := by decide +kernel
theorem dX5_readSet_35 : decode cX5_readSet 35 = .ok (.iconst 0, 1) := by decide +kernel
theorem dX5_readSet_36 : decode cX5_readSet 36 = .ok (.ireturn, 1) := by decide +kernel
theorem dX5_readSet_37 : decode cX5_readSet 37 = .ok (.aload_n 1, 1) := by decide +kernel
theorem dX5_readSet_38 : decode cX5_readSet 38 = .ok (.getfield 141, 3) := by decide +kernel
theorem dX5_readSet_41 : decode cX5_readSet 41 = .ok (.ifCond .le 23, 3) := by decide +kernel
theorem dX5_readSet_44 : decode cX5_readSet 44 = .ok (.iload_n 2, 1) := by decide +kernel
theorem dX5_readSet_45 : decode cX5_readSet 45 = .ok (.aload_n 1, 1) := by decide +kernel
theorem dX5_readSet_46 : decode cX5_readSet 46 = .ok (.aload_n 1, 1) := by decide +kernel
theorem dX5_readSet_47 : decode cX5_readSet 47 = .ok (.getfield 141, 3) := by decide +kernel
theorem dX5_readSet_50 : decode cX5_readSet 50 = .ok (.iconst 1, 1) := by decide +kernel
theorem dX5_readSet_51 : decode cX5_readSet 51 = .ok (.isub, 1) := by decide +kernel
theorem dX5_readSet_52 : decode cX5_readSet 52 = .ok (.invokevirtual 146, 3) := by decide +kernel
theorem dX5_readSet_55 : decode cX5_readSet 55 = .ok (.if_icmp .gt 9, 3) := by decide +kernel
theorem dX5_readSet_58 : decode cX5_readSet 58 = .ok (.aload_n 0, 1) := by decide +kernel
theorem dX5_readSet_59 : decode cX5_readSet 59 = .ok (.iconst 5, 1) := by decide +kernel
theorem dX5_readSet_60 : decode cX5_readSet 60 = .ok (.invokevirtual 89, 3) := by decide +kernel
theorem dX5_readSet_63 : decode cX5_readSet 63 = .ok (.ireturn, 1) := by decide +kernel
theorem dX5_readSet_64 : decode cX5_readSet 64 = .ok (.aload_n 1, 1) := by decide +kernel
theorem dX5_readSet_65 : decode cX5_readSet 65 = .ok (.invokevirtual 150, 3) := by decide +kernel
theorem dX5_readSet_68 : decode cX5_readSet 68 = .ok (.iconst 0, 1) := by decide +kernel
theorem dX5_readSet_69 : decode cX5_readSet 69 = .ok (.istore_n 3, 1) := by decide +kernel
theorem dX5_readSet_70 : decode cX5_readSet 70 = .ok (.iload_n 3, 1) := by decide +kernel
theorem dX5_readSet_71 : decode cX5_readSet 71 = .ok (.bipush 7, 2) := by decide +kernel
theorem dX5_readSet_73 : decode cX5_readSet 73 = .ok (.if_icmp .gt 72, 3) := by decide +kernel
theorem dX5_readSet_76 : decode cX5_readSet 76 = .ok (.aload_n 0, 1) := by decide +kernel
theorem dX5_readSet_77 : decode cX5_readSet 77 = .ok (.getfield 18, 3) := by decide +kernel
theorem dX5_readSet_80 : decode cX5_readSet 80 = .ok (.invokevirtual 49, 3) := by decide +kernel
theorem dX5_readSet_83 : decode cX5_readSet 83 = .ok (.iload_n 3, 1) := by decide +kernel
theorem dX5_readSet_84 : decode cX5_readSet 84 = .ok (.ifCond .le 17, 3) := by decide +kernel
theorem dX5_readSet_87 : decode cX5_readSet 87 = .ok (.aload_n 0, 1) := by decide +kernel
theorem dX5_readSet_88 : decode cX5_readSet 88 = .ok (.getfield 18, 3) := by decide +kernel
theorem dX5_readSet_91 : decode cX5_readSet 91 = .ok (.getfield 52, 3) := by decide +kernel
theorem dX5_readSet_94 : decode cX5_readSet 94 = .ok (.bipush 38, 2) := by decide +kernel
theorem dX5_readSet_96 : decode cX5_readSet 96 = .ok (.if_icmp .ne 5, 3) := by decide +kernel
theorem dX5_readSet_99 : decode cX5_readSet 99 = .ok (.iconst 1, 1) := by decide +kernel
theorem dX5_readSet_100 : decode cX5_readSet 100 = .ok (.ireturn, 1) := by decide +kernel
theorem dX5_readSet_101 : decode cX5_readSet 101 = .ok (.aload_n 0, 1) := by decide +kernel
theorem dX5_readSet_102 : decode cX5_readSet 102 = .ok (.iconst 1, 1) := by decide +kernel
theorem dX5_readSet_103 : decode cX5_readSet 103 = .ok (.bipush 9, 2) := by decide +kernel
theorem dX5_readSet_105 : decode cX5_readSet 105 = .ok (.invokevirtual 93, 3) := by decide +kernel
theorem dX5_readSet_108 : decode cX5_readSet 108 = .ok (.istore 4, 2) := by decide +kernel
theorem dX5_readSet_110 : decode cX5_readSet 110 = .ok (.iload 4, 2) := by decide +kernel
theorem dX5_readSet_112 : decode cX5_readSet 112 = .ok (.iconst (-1), 1) := by decide +kernel
theorem dX5_readSet_113 : decode cX5_readSet 113 = .ok (.if_icmp .ne 5, 3) := by decide +kernel
theorem dX5_readSet_116 : decode cX5_readSet 116 = .ok (.iconst 0, 1) := by decide +kernel
theorem dX5_readSet_117 : decode cX5_readSet 117 = .ok (.ireturn, 1) := by decide +kernel
theorem dX5_readSet_118 : decode cX5_readSet 118 = .ok (.iload_n 3, 1) := by decide +kernel
theorem dX5_readSet_119 : decode cX5_readSet 119 = .ok (.bipush 7, 2) := by decide +kernel
theorem dX5_readSet_121 : decode cX5_readSet 121 = .ok (.if_icmp .ne 9, 3) := by decide +kernel
theorem dX5_readSet_124 : decode cX5_readSet 124 = .ok (.aload_n 0, 1) := by decide +kernel
theorem dX5_readSet_125 : decode cX5_readSet 125 = .ok (.iconst 2, 1) := by decide +kernel
theorem dX5_readSet_126 : decode cX5_readSet 126 = .ok (.invokevirtual 89, 3) := by decide +kernel
theorem dX5_readSet_129 : decode cX5_readSet 129 = .ok (.ireturn, 1) := by decide +kernel
theorem dX5_readSet_130 : decode cX5_readSet 130 = .ok (.aload_n 1, 1) := by decide +kernel
theorem dX5_readSet_131 : decode cX5_readSet 131 = .ok (.iload_n 2, 1) := by decide +kernel
theorem dX5_readSet_132 : decode cX5_readSet 132 = .ok (.iload_n 3, 1) := by decide +kernel
theorem dX5_readSet_133 : decode cX5_readSet 133 = .ok (.iadd, 1) := by decide +kernel
theorem dX5_readSet_134 : decode cX5_readSet 134 = .ok (.iload 4, 2) := by decide +kernel
theorem dX5_readSet_136 : decode cX5_readSet 136 = .ok (.invokevirtual 153, 3) := by decide +kernel
theorem dX5_readSet_139 : decode cX5_readSet 139 = .ok (.iinc 3 1, 3) := by decide +kernel
theorem dX5_readSet_142 : decode cX5_readSet 142 = .ok (.goto (-72), 3) := by decide +kernel
theorem dX5_readSet_145 : decode cX5_readSet 145 = .ok (.iconst 0, 1) := by decide +kernel
theorem dX5_readSet_146 : decode cX5_readSet 146 = .ok (.ireturn, 1) := by decide +kernel
set_option maxRecDepth 20000 in
theorem ggX5_readBank_X5_isFirst : GoodIn wsX5_readBank wsX5_isFirst := goodIn_r _ [9, 10, 11, 12, 13, 8, 14, 15, 16, 17, 18, 86, 87, 88, 89, 90, 91, 92, 93, 94, 95, 96, 111, 112, 113, 114, 115, 116, 117] (by decide +kernel) (by decide +kernel)
set_option maxRecDepth 20000 in
theorem gX5_readBank_X5_isFirst : GoodIn wsX5_readBank (wsV RX5 100 RX5 yX5_isFirst wsX5_isFirst) := goodIn_app (goodIn_of _ (by decide +kernel)) ggX5_readBank_X5_isFirst
set_option maxRecDepth 20000 in
theorem ggX5_readBank_X5_numberIn : GoodIn wsX5_readBank wsX5_numberIn := goodIn_r _ [22, 16, 23, 24, 25, 26, 27, 28, 29, 30, 31, 32, 33, 34, 35, 36, 37, 38, 39, 40, 41, 42, 43, 44, 45, 46, 47, 48, 49, 50, 51, 52, 53, 54, 55, 56, 57, 58, 59, 60, 61, 62, 63, 64, 65, 66, 67, 68, 69, 70, 71, 72, 73, 74, 75, 76, 77, 78, 8, 79, 80, 81, 11, 12, 13, 14, 15, 17, 18, 86, 87, 88, 89, 90, 91, 92, 93, 94, 95, 96, 111, 112, 113, 114, 115, 116, 117] (by decide +kernel) (by decide +kernel)
set_option maxRecDepth 20000 in
theorem gX5_readBank_X5_numberIn : GoodIn wsX5_readBank (wsV RX5 103 RX5 yX5_numberIn wsX5_numberIn) := goodIn_app (goodIn_of _ (by decide +kernel)) ggX5_readBank_X5_numberIn
set_option maxRecDepth 20000 in
theorem ggX5_readBank_X5_readStop : GoodIn wsX5_readBank wsX5_readStop := goodIn_r _ [85, 16, 80, 23, 24, 25, 26, 27, 28, 29, 30, 31, 32, 33, 34, 35, 36, 37, 38, 39, 40, 41, 42, 43, 44, 45, 46, 47, 48, 49, 50, 51, 52, 53, 54, 55, 56, 57, 58, 59, 60, 61, 62, 63, 64, 65, 66, 67, 68, 69, 70, 71, 72, 73, 74, 75, 11, 12, 13, 8, 14, 15, 17, 18, 86, 87, 88, 89, 90, 91, 92, 93, 94, 95, 96, 111, 112, 113, 114, 115, 116, 117] (by decide +kernel) (by decide +kernel)
set_option maxRecDepth 20000 in
theorem gX5_readBank_X5_readStop : GoodIn wsX5_readBank (wsV RX5 112 RX5 yX5_readStop wsX5_readStop) := goodIn_app (goodIn_of _ (by decide +kernel)) ggX5_readBank_X5_readStop
theorem dX5_readBank_0 : decode cX5_readBank 0 = .ok (.aload_n 0, 1) := by decide +kernel
theorem dX5_readBank_1 : decode cX5_readBank 1 = .ok (.iconst 4, 1) := by decide +kernel
theorem dX5_readBank_2 : decode cX5_readBank 2 = .ok (.invokevirtual 100, 3) := by decide +kernel
theorem dX5_readBank_5 : decode cX5_readBank 5 = .ok (.ifCond .ne 5, 3) := by decide +kernel
theorem dX5_readBank_8 : decode cX5_readBank 8 = .ok (.iconst 0, 1) := by decide +kernel
theorem dX5_readBank_9 : decode cX5_readBank 9 = .ok (.ireturn, 1) := by decide +kernel
theorem dX5_readBank_10 : decode cX5_readBank 10 = .ok (.aload_n 0, 1) := by decide +kernel
theorem dX5_readBank_11 : decode cX5_readBank 11 = .ok (.iconst 1, 1) := by decide +kernel
theorem dX5_readBank_12 : decode cX5_readBank 12 = .ok (.bipush 20, 2) := by decide +kernel
theorem dX5_readBank_14 : decode cX5_readBank 14 = .ok (.invokevirtual 103, 3) := by decide +kernel
theorem dX5_readBank_17 : decode cX5_readBank 17 = .ok (.istore_n 1, 1) := by decide +kernel
theorem dX5_readBank_18 : decode cX5_readBank 18 = .ok (.iload_n 1, 1) := by decide +kernel
theorem dX5_readBank_19 : decode cX5_readBank 19 = .ok (.iconst (-1), 1) := by decide +kernel
theorem dX5_readBank_20 : decode cX5_readBank 20 = .ok (.if_icmp .ne 7, 3) := by decide +kernel
theorem dX5_readBank_23 : decode cX5_readBank 23 = .ok (.iconst (-1), 1) := by decide +kernel
theorem dX5_readBank_24 : decode cX5_readBank 24 = .ok (.goto 10, 3) := by decide +kernel
theorem dX5_readBank_27 : decode cX5_readBank 27 = .ok (.aload_n 0, 1) := by decide +kernel
theorem dX5_readBank_28 : decode cX5_readBank 28 = .ok (.iconst 1, 1) := by decide +kernel
theorem dX5_readBank_29 : decode cX5_readBank 29 = .ok (.bipush 20, 2) := by decide +kernel
theorem dX5_readBank_31 : decode cX5_readBank 31 = .ok (.invokevirtual 103, 3) := by decide +kernel
theorem dX5_readBank_34 : decode cX5_readBank 34 = .ok (.istore_n 2, 1) := by decide +kernel
theorem dX5_readBank_35 : decode cX5_readBank 35 = .ok (.iload_n 2, 1) := by decide +kernel
theorem dX5_readBank_36 : decode cX5_readBank 36 = .ok (.iconst (-1), 1) := by decide +kernel
theorem dX5_readBank_37 : decode cX5_readBank 37 = .ok (.if_icmp .ne 7, 3) := by decide +kernel
theorem dX5_readBank_40 : decode cX5_readBank 40 = .ok (.iconst (-1), 1) := by decide +kernel
theorem dX5_readBank_41 : decode cX5_readBank 41 = .ok (.goto 10, 3) := by decide +kernel
theorem dX5_readBank_44 : decode cX5_readBank 44 = .ok (.aload_n 0, 1) := by decide +kernel
theorem dX5_readBank_45 : decode cX5_readBank 45 = .ok (.iconst 1, 1) := by decide +kernel
theorem dX5_readBank_46 : decode cX5_readBank 46 = .ok (.bipush 9, 2) := by decide +kernel
theorem dX5_readBank_48 : decode cX5_readBank 48 = .ok (.invokevirtual 103, 3) := by decide +kernel
theorem dX5_readBank_51 : decode cX5_readBank 51 = .ok (.istore_n 3, 1) := by decide +kernel
theorem dX5_readBank_52 : decode cX5_readBank 52 = .ok (.iload_n 3, 1) := by decide +kernel
theorem dX5_readBank_53 : decode cX5_readBank 53 = .ok (.iconst (-1), 1) := by decide +kernel
theorem dX5_readBank_54 : decode cX5_readBank 54 = .ok (.if_icmp .ne 5, 3) := by decide +kernel
theorem dX5_readBank_57 : decode cX5_readBank 57 = .ok (.iconst 0, 1) := by decide +kernel
theorem dX5_readBank_58 : decode cX5_readBank 58 = .ok (.ireturn, 1) := by decide +kernel
theorem dX5_readBank_59 : decode cX5_readBank 59 = .ok (.aload_n 0, 1) := by decide +kernel
theorem dX5_readBank_60 : decode cX5_readBank 60 = .ok (.getfield 9, 3) := by decide +kernel
theorem dX5_readBank_63 : decode cX5_readBank 63 = .ok (.iload_n 1, 1) := by decide +kernel
theorem dX5_readBank_64 : decode cX5_readBank 64 = .ok (.putfield 156, 3) := by decide +kernel
theorem dX5_readBank_67 : decode cX5_readBank 67 = .ok (.aload_n 0, 1) := by decide +kernel
theorem dX5_readBank_68 : decode cX5_readBank 68 = .ok (.getfield 9, 3) := by decide +kernel
theorem dX5_readBank_71 : decode cX5_readBank 71 = .ok (.iload_n 2, 1) := by decide +kernel
theorem dX5_readBank_72 : decode cX5_readBank 72 = .ok (.putfield 159, 3) := by decide +kernel
theorem dX5_readBank_75 : decode cX5_readBank 75 = .ok (.aload_n 0, 1) := by decide +kernel
theorem dX5_readBank_76 : decode cX5_readBank 76 = .ok (.getfield 9, 3) := by decide +kernel
theorem dX5_readBank_79 : decode cX5_readBank 79 = .ok (.iload_n 3, 1) := by decide +kernel
theorem dX5_readBank_80 : decode cX5_readBank 80 = .ok (.putfield 162, 3) := by decide +kernel
theorem dX5_readBank_83 : decode cX5_readBank 83 = .ok (.aload_n 0, 1) := by decide +kernel
theorem dX5_readBank_84 : decode cX5_readBank 84 = .ok (.invokevirtual 112, 3) := by decide +kernel
theorem dX5_readBank_87 : decode cX5_readBank 87 = .ok (.ireturn, 1) := by decide +kernel
set_option maxRecDepth 20000 in
theorem ggX5_readRule_X5_isFirst : GoodIn wsX5_readRule wsX5_isFirst := goodIn_r _ [9, 10, 11, 12, 13, 8, 14, 15, 1, 16, 17, 75, 76, 77, 78, 79, 80, 81, 82, 83, 84, 85, 86, 87, 88, 89, 90, 91, 92] (by decide +kernel) (by decide +kernel)
set_option maxRecDepth 20000 in
theorem gX5_readRule_X5_isFirst : GoodIn wsX5_readRule (wsV RX5 100 RX5 yX5_isFirst wsX5_isFirst) := goodIn_app (goodIn_of _ (by decide +kernel)) ggX5_readRule_X5_isFirst
set_option maxRecDepth 20000 in
theorem ggX5_readRule_X7_advance : GoodIn wsX5_readRule wsX7_advance := goodIn_r _ [22, 23, 24, 25, 26, 27, 28, 29, 30, 31, 21, 32, 33, 34, 35, 36, 37, 38, 39, 40, 41, 42, 43, 44, 45, 46, 47, 48, 49, 50, 51, 52, 53, 54, 55, 56, 57, 58, 59, 60, 61, 62, 63, 64, 65, 66, 67, 68, 69, 70, 86, 87, 88, 89, 90, 91, 92] (by decide +kernel) (by decide +kernel)
set_option maxRecDepth 20000 in
theorem gX5_readRule_X7_advance : GoodIn wsX5_readRule (wsV RX5 49 RX7 yX7_advance wsX7_advance) := goodIn_app (goodIn_of _ (by decide +kernel)) ggX5_readRule_X7_advance
set_option maxRecDepth 20000 in
theorem ggX5_readRule_X5_refuse : GoodIn wsX5_readRule wsX5_refuse := goodIn_r _ [14, 15, 1, 16, 17, 75, 76, 77, 78, 79, 80, 81, 82, 83, 84, 85, 86, 87, 88, 89, 90, 91, 92] (by decide +kernel) (by decide +kernel)
set_option maxRecDepth 20000 in
theorem gX5_readRule_X5_refuse : GoodIn wsX5_readRule (wsV RX5 89 RX5 yX5_refuse wsX5_refuse) := goodIn_app (goodIn_of _ (by decide +kernel)) ggX5_readRule_X5_refuse
set_option maxRecDepth 20000 in
theorem ggX5_readRule_X5_readStop : GoodIn wsX5_readRule wsX5_readStop := goodIn_r _ [74, 1, 2, 18, 19, 20, 21, 22, 23, 24, 25, 26, 27, 28, 29, 30, 31, 32, 33, 34, 35, 36, 37, 38, 39, 40, 41, 42, 43, 44, 45, 46, 47, 48, 49, 50, 51, 52, 53, 54, 55, 56, 57, 58, 59, 60, 61, 62, 63, 64, 65, 66, 67, 68, 69, 70, 11, 12, 13, 8, 14, 15, 16, 17, 75, 76, 77, 78, 79, 80, 81, 82, 83, 84, 85, 86, 87, 88, 89, 90, 91, 92] (by decide +kernel) (by decide +kernel)
set_option maxRecDepth 20000 in
theorem gX5_readRule_X5_readStop : GoodIn wsX5_readRule (wsV RX5 112 RX5 yX5_readStop wsX5_readStop) := goodIn_app (goodIn_of _ (by decide +kernel)) ggX5_readRule_X5_readStop
theorem dX5_readRule_0 : decode cX5_readRule 0 = .ok (.aload_n 0, 1) := by decide +kernel
theorem dX5_readRule_1 : decode cX5_readRule 1 = .ok (.iconst 5, 1) := by decide +kernel
theorem dX5_readRule_2 : decode cX5_readRule 2 = .ok (.invokevirtual 100, 3) := by decide +kernel
theorem dX5_readRule_5 : decode cX5_readRule 5 = .ok (.ifCond .ne 5, 3) := by decide +kernel
theorem dX5_readRule_8 : decode cX5_readRule 8 = .ok (.iconst 0, 1) := by decide +kernel
theorem dX5_readRule_9 : decode cX5_readRule 9 = .ok (.ireturn, 1) := by decide +kernel
theorem dX5_readRule_10 : decode cX5_readRule 10 = .ok (.aload_n 0, 1) := by decide +kernel
theorem dX5_readRule_11 : decode cX5_readRule 11 = .ok (.getfield 18, 3) := by decide +kernel
theorem dX5_readRule_14 : decode cX5_readRule 14 = .ok (.invokevirtual 49, 3) := by decide +kernel
theorem dX5_readRule_17 : decode cX5_readRule 17 = .ok (.aload_n 0, 1) := by decide +kernel
theorem dX5_readRule_18 : decode cX5_readRule 18 = .ok (.getfield 18, 3) := by decide +kernel
theorem dX5_readRule_21 : decode cX5_readRule 21 = .ok (.getfield 52, 3) := by decide +kernel
theorem dX5_readRule_24 : decode cX5_readRule 24 = .ok (.bipush 8, 2) := by decide +kernel
theorem dX5_readRule_26 : decode cX5_readRule 26 = .ok (.isub, 1) := by decide +kernel
theorem dX5_readRule_27 : decode cX5_readRule 27 = .ok (.istore_n 1, 1) := by decide +kernel
theorem dX5_readRule_28 : decode cX5_readRule 28 = .ok (.iload_n 1, 1) := by decide +kernel
theorem dX5_readRule_29 : decode cX5_readRule 29 = .ok (.ifCond .lt 8, 3) := by decide +kernel
theorem dX5_readRule_32 : decode cX5_readRule 32 = .ok (.iload_n 1, 1) := by decide +kernel
theorem dX5_readRule_33 : decode cX5_readRule 33 = .ok (.iconst 4, 1) := by decide +kernel
theorem dX5_readRule_34 : decode cX5_readRule 34 = .ok (.if_icmp .lt 9, 3) := by decide +kernel
theorem dX5_readRule_37 : decode cX5_readRule 37 = .ok (.aload_n 0, 1) := by decide +kernel
theorem dX5_readRule_38 : decode cX5_readRule 38 = .ok (.iconst 1, 1) := by decide +kernel
theorem dX5_readRule_39 : decode cX5_readRule 39 = .ok (.invokevirtual 89, 3) := by decide +kernel
theorem dX5_readRule_42 : decode cX5_readRule 42 = .ok (.ireturn, 1) := by decide +kernel
theorem dX5_readRule_43 : decode cX5_readRule 43 = .ok (.aload_n 0, 1) := by decide +kernel
theorem dX5_readRule_44 : decode cX5_readRule 44 = .ok (.getfield 9, 3) := by decide +kernel
theorem dX5_readRule_47 : decode cX5_readRule 47 = .ok (.iload_n 1, 1) := by decide +kernel
theorem dX5_readRule_48 : decode cX5_readRule 48 = .ok (.putfield 165, 3) := by decide +kernel
theorem dX5_readRule_51 : decode cX5_readRule 51 = .ok (.aload_n 0, 1) := by decide +kernel
theorem dX5_readRule_52 : decode cX5_readRule 52 = .ok (.invokevirtual 112, 3) := by decide +kernel
theorem dX5_readRule_55 : decode cX5_readRule 55 = .ok (.ireturn, 1) := by decide +kernel
set_option maxRecDepth 20000 in
theorem ggX5_readSeed_X5_isFirst : GoodIn wsX5_readSeed wsX5_isFirst := goodIn_r _ [8, 9, 10, 11, 12, 7, 13, 14, 15, 16, 17, 85, 86, 87, 88, 89, 90, 91, 92, 93, 94, 95, 110, 111, 112, 113, 114, 115, 116] (by decide +kernel) (by decide +kernel)
set_option maxRecDepth 20000 in
theorem gX5_readSeed_X5_isFirst : GoodIn wsX5_readSeed (wsV RX5 100 RX5 yX5_isFirst wsX5_isFirst) := goodIn_app (goodIn_of _ (by decide +kernel)) ggX5_readSeed_X5_isFirst
set_option maxRecDepth 20000 in
theorem ggX5_readSeed_X5_numberIn : GoodIn wsX5_readSeed wsX5_numberIn := goodIn_r _ [21, 15, 22, 23, 24, 25, 26, 27, 28, 29, 30, 31, 32, 33, 34, 35, 36, 37, 38, 39, 40, 41, 42, 43, 44, 45, 46, 47, 48, 49, 50, 51, 52, 53, 54, 55, 56, 57, 58, 59, 60, 61, 62, 63, 64, 65, 66, 67, 68, 69, 70, 71, 72, 73, 74, 75, 76, 77, 7, 78, 79, 80, 10, 11, 12, 13, 14, 16, 17, 85, 86, 87, 88, 89, 90, 91, 92, 93, 94, 95, 110, 111, 112, 113, 114, 115, 116] (by decide +kernel) (by decide +kernel)
set_option maxRecDepth 20000 in
theorem gX5_readSeed_X5_numberIn : GoodIn wsX5_readSeed (wsV RX5 103 RX5 yX5_numberIn wsX5_numberIn) := goodIn_app (goodIn_of _ (by decide +kernel)) ggX5_readSeed_X5_numberIn
set_option maxRecDepth 20000 in
theorem ggX5_readSeed_X5_readStop : GoodIn wsX5_readSeed wsX5_readStop := goodIn_r _ [84, 15, 79, 22, 23, 24, 25, 26, 27, 28, 29, 30, 31, 32, 33, 34, 35, 36, 37, 38, 39, 40, 41, 42, 43, 44, 45, 46, 47, 48, 49, 50, 51, 52, 53, 54, 55, 56, 57, 58, 59, 60, 61, 62, 63, 64, 65, 66, 67, 68, 69, 70, 71, 72, 73, 74, 10, 11, 12, 7, 13, 14, 16, 17, 85, 86, 87, 88, 89, 90, 91, 92, 93, 94, 95, 110, 111, 112, 113, 114, 115, 116] (by decide +kernel) (by decide +kernel)
set_option maxRecDepth 20000 in
theorem gX5_readSeed_X5_readStop : GoodIn wsX5_readSeed (wsV RX5 112 RX5 yX5_readStop wsX5_readStop) := goodIn_app (goodIn_of _ (by decide +kernel)) ggX5_readSeed_X5_readStop
theorem dX5_readSeed_0 : decode cX5_readSeed 0 = .ok (.aload_n 0, 1) := by decide +kernel
theorem dX5_readSeed_1 : decode cX5_readSeed 1 = .ok (.bipush 6, 2) := by decide +kernel
theorem dX5_readSeed_3 : decode cX5_readSeed 3 = .ok (.invokevirtual 100, 3) := by decide +kernel
theorem dX5_readSeed_6 : decode cX5_readSeed 6 = .ok (.ifCond .ne 5, 3) := by decide +kernel
theorem dX5_readSeed_9 : decode cX5_readSeed 9 = .ok (.iconst 0, 1) := by decide +kernel
theorem dX5_readSeed_10 : decode cX5_readSeed 10 = .ok (.ireturn, 1) := by decide +kernel
theorem dX5_readSeed_11 : decode cX5_readSeed 11 = .ok (.aload_n 0, 1) := by decide +kernel
theorem dX5_readSeed_12 : decode cX5_readSeed 12 = .ok (.iconst 0, 1) := by decide +kernel
theorem dX5_readSeed_13 : decode cX5_readSeed 13 = .ok (.ldc 168, 2) := by decide +kernel
theorem dX5_readSeed_15 : decode cX5_readSeed 15 = .ok (.invokevirtual 103, 3) := by decide +kernel
theorem dX5_readSeed_18 : decode cX5_readSeed 18 = .ok (.istore_n 1, 1) := by decide +kernel
theorem dX5_readSeed_19 : decode cX5_readSeed 19 = .ok (.iload_n 1, 1) := by decide +kernel
theorem dX5_readSeed_20 : decode cX5_readSeed 20 = .ok (.iconst (-1), 1) := by decide +kernel
theorem dX5_readSeed_21 : decode cX5_readSeed 21 = .ok (.if_icmp .ne 5, 3) := by decide +kernel
theorem dX5_readSeed_24 : decode cX5_readSeed 24 = .ok (.iconst 0, 1) := by decide +kernel
theorem dX5_readSeed_25 : decode cX5_readSeed 25 = .ok (.ireturn, 1) := by decide +kernel
theorem dX5_readSeed_26 : decode cX5_readSeed 26 = .ok (.aload_n 0, 1) := by decide +kernel
theorem dX5_readSeed_27 : decode cX5_readSeed 27 = .ok (.getfield 9, 3) := by decide +kernel
theorem dX5_readSeed_30 : decode cX5_readSeed 30 = .ok (.iload_n 1, 1) := by decide +kernel
theorem dX5_readSeed_31 : decode cX5_readSeed 31 = .ok (.putfield 169, 3) := by decide +kernel
theorem dX5_readSeed_34 : decode cX5_readSeed 34 = .ok (.aload_n 0, 1) := by decide +kernel
theorem dX5_readSeed_35 : decode cX5_readSeed 35 = .ok (.invokevirtual 112, 3) := by decide +kernel
theorem dX5_readSeed_38 : decode cX5_readSeed 38 = .ok (.ireturn, 1) := by decide +kernel
set_option maxRecDepth 20000 in
theorem ggX5_readKind_X7_advance : GoodIn wsX5_readKind wsX7_advance := goodIn_r _ [10, 11, 12, 13, 14, 15, 16, 17, 18, 19, 9, 20, 21, 22, 23, 24, 25, 26, 27, 28, 29, 30, 31, 32, 33, 34, 35, 36, 37, 38, 39, 40, 41, 42, 43, 44, 45, 46, 47, 48, 49, 50, 51, 52, 53, 54, 55, 56, 57, 58, 78, 79, 80, 81, 82, 83, 84] (by decide +kernel) (by decide +kernel)
set_option maxRecDepth 20000 in
theorem gX5_readKind_X7_advance : GoodIn wsX5_readKind (wsV RX5 49 RX7 yX7_advance wsX7_advance) := goodIn_app (goodIn_of _ (by decide +kernel)) ggX5_readKind_X7_advance
set_option maxRecDepth 20000 in
theorem ggX5_readKind_X5_refuse : GoodIn wsX5_readKind wsX5_refuse := goodIn_r _ [63, 64, 1, 65, 66, 67, 68, 69, 70, 71, 72, 73, 74, 75, 76, 77, 78, 79, 80, 81, 82, 83, 84] (by decide +kernel) (by decide +kernel)
set_option maxRecDepth 20000 in
theorem gX5_readKind_X5_refuse : GoodIn wsX5_readKind (wsV RX5 89 RX5 yX5_refuse wsX5_refuse) := goodIn_app (goodIn_of _ (by decide +kernel)) ggX5_readKind_X5_refuse
theorem dX5_readKind_0 : decode cX5_readKind 0 = .ok (.aload_n 0, 1) := by decide +kernel
theorem dX5_readKind_1 : decode cX5_readKind 1 = .ok (.getfield 18, 3) := by decide +kernel
theorem dX5_readKind_4 : decode cX5_readKind 4 = .ok (.invokevirtual 49, 3) := by decide +kernel
theorem dX5_readKind_7 : decode cX5_readKind 7 = .ok (.aload_n 0, 1) := by decide +kernel
theorem dX5_readKind_8 : decode cX5_readKind 8 = .ok (.getfield 18, 3) := by decide +kernel
theorem dX5_readKind_11 : decode cX5_readKind 11 = .ok (.getfield 52, 3) := by decide +kernel
theorem dX5_readKind_14 : decode cX5_readKind 14 = .ok (.bipush 12, 2) := by decide +kernel
theorem dX5_readKind_16 : decode cX5_readKind 16 = .ok (.isub, 1) := by decide +kernel
theorem dX5_readKind_17 : decode cX5_readKind 17 = .ok (.istore_n 1, 1) := by decide +kernel
theorem dX5_readKind_18 : decode cX5_readKind 18 = .ok (.iload_n 1, 1) := by decide +kernel
theorem dX5_readKind_19 : decode cX5_readKind 19 = .ok (.ifCond .lt 8, 3) := by decide +kernel
theorem dX5_readKind_22 : decode cX5_readKind 22 = .ok (.iload_n 1, 1) := by decide +kernel
theorem dX5_readKind_23 : decode cX5_readKind 23 = .ok (.iconst 3, 1) := by decide +kernel
theorem dX5_readKind_24 : decode cX5_readKind 24 = .ok (.if_icmp .lt 11, 3) := by decide +kernel
theorem dX5_readKind_27 : decode cX5_readKind 27 = .ok (.aload_n 0, 1) := by decide +kernel
theorem dX5_readKind_28 : decode cX5_readKind 28 = .ok (.iconst 1, 1) := by decide +kernel
theorem dX5_readKind_29 : decode cX5_readKind 29 = .ok (.invokevirtual 89, 3) := by decide +kernel
theorem dX5_readKind_32 : decode cX5_readKind 32 = .ok (.pop, 1) := by decide +kernel
theorem dX5_readKind_33 : decode cX5_readKind 33 = .ok (.aconst_null, 1) := by decide +kernel
theorem dX5_readKind_34 : decode cX5_readKind 34 = .ok (.areturn, 1) := by decide +kernel
theorem dX5_readKind_35 : decode cX5_readKind 35 = .ok (.aload_n 0, 1) := by decide +kernel
theorem dX5_readKind_36 : decode cX5_readKind 36 = .ok (.getfield 9, 3) := by decide +kernel
theorem dX5_readKind_39 : decode cX5_readKind 39 = .ok (.getfield 172, 3) := by decide +kernel
theorem dX5_readKind_42 : decode cX5_readKind 42 = .ok (.iload_n 1, 1) := by decide +kernel
theorem dX5_readKind_43 : decode cX5_readKind 43 = .ok (.aaload, 1) := by decide +kernel
theorem dX5_readKind_44 : decode cX5_readKind 44 = .ok (.getfield 176, 3) := by decide +kernel
theorem dX5_readKind_47 : decode cX5_readKind 47 = .ok (.ifCond .eq 11, 3) := by decide +kernel
theorem dX5_readKind_50 : decode cX5_readKind 50 = .ok (.aload_n 0, 1) := by decide +kernel
theorem dX5_readKind_51 : decode cX5_readKind 51 = .ok (.iconst 3, 1) := by decide +kernel
theorem dX5_readKind_52 : decode cX5_readKind 52 = .ok (.invokevirtual 89, 3) := by decide +kernel
theorem dX5_readKind_55 : decode cX5_readKind 55 = .ok (.pop, 1) := by decide +kernel
theorem dX5_readKind_56 : decode cX5_readKind 56 = .ok (.aconst_null, 1) := by decide +kernel
theorem dX5_readKind_57 : decode cX5_readKind 57 = .ok (.areturn, 1) := by decide +kernel
theorem dX5_readKind_58 : decode cX5_readKind 58 = .ok (.aload_n 0, 1) := by decide +kernel
theorem dX5_readKind_59 : decode cX5_readKind 59 = .ok (.getfield 9, 3) := by decide +kernel
theorem dX5_readKind_62 : decode cX5_readKind 62 = .ok (.getfield 172, 3) := by decide +kernel
theorem dX5_readKind_65 : decode cX5_readKind 65 = .ok (.iload_n 1, 1) := by decide +kernel
theorem dX5_readKind_66 : decode cX5_readKind 66 = .ok (.aaload, 1) := by decide +kernel
theorem dX5_readKind_67 : decode cX5_readKind 67 = .ok (.iconst 1, 1) := by decide +kernel
theorem dX5_readKind_68 : decode cX5_readKind 68 = .ok (.putfield 176, 3) := by decide +kernel
theorem dX5_readKind_71 : decode cX5_readKind 71 = .ok (.aload_n 0, 1) := by decide +kernel
theorem dX5_readKind_72 : decode cX5_readKind 72 = .ok (.getfield 9, 3) := by decide +kernel
theorem dX5_readKind_75 : decode cX5_readKind 75 = .ok (.getfield 172, 3) := by decide +kernel
theorem dX5_readKind_78 : decode cX5_readKind 78 = .ok (.iload_n 1, 1) := by decide +kernel
theorem dX5_readKind_79 : decode cX5_readKind 79 = .ok (.aaload, 1) := by decide +kernel
theorem dX5_readKind_80 : decode cX5_readKind 80 = .ok (.areturn, 1) := by decide +kernel
set_option maxRecDepth 20000 in
theorem ggX5_readLaw_X5_readKind : GoodIn wsX5_readLaw wsX5_readKind := goodIn_r _ [11, 5, 6, 12, 13, 14, 15, 16, 17, 18, 19, 20, 21, 22, 23, 24, 25, 26, 27, 28, 29, 30, 31, 32, 33, 34, 35, 36, 37, 38, 39, 40, 41, 42, 43, 44, 45, 46, 47, 48, 49, 50, 51, 52, 53, 54, 55, 56, 57, 58, 59, 60, 61, 62, 63, 64, 65, 66, 67, 68, 69, 70, 10, 71, 72, 73, 74, 120, 121, 122, 123, 124, 125, 126, 127, 128, 129, 130, 131, 132, 133, 134, 135, 136, 137, 138, 139, 140, 141, 142, 143, 144, 145, 146, 147, 148, 149, 150, 151, 152, 153, 154] (by decide +kernel) (by decide +kernel)
set_option maxRecDepth 20000 in
theorem gX5_readLaw_X5_readKind : GoodIn wsX5_readLaw (wsV RX5 181 RX5 yX5_readKind wsX5_readKind) := goodIn_app (goodIn_of _ (by decide +kernel)) ggX5_readLaw_X5_readKind
set_option maxRecDepth 20000 in
theorem ggX5_readLaw_X7_advance : GoodIn wsX5_readLaw wsX7_advance := goodIn_r _ [19, 20, 21, 22, 23, 24, 25, 26, 27, 28, 18, 29, 30, 31, 32, 33, 34, 35, 36, 37, 38, 39, 40, 41, 42, 43, 44, 45, 46, 47, 48, 49, 50, 51, 52, 53, 54, 55, 56, 57, 58, 59, 60, 61, 62, 63, 64, 65, 66, 67, 131, 132, 133, 134, 135, 136, 137] (by decide +kernel) (by decide +kernel)
set_option maxRecDepth 20000 in
theorem gX5_readLaw_X7_advance : GoodIn wsX5_readLaw (wsV RX5 49 RX7 yX7_advance wsX7_advance) := goodIn_app (goodIn_of _ (by decide +kernel)) ggX5_readLaw_X7_advance
set_option maxRecDepth 20000 in
theorem ggX5_readLaw_X5_release : GoodIn wsX5_readLaw wsX5_release := goodIn_r _ [78, 1, 79, 80, 81, 10, 82, 83, 84, 85, 86, 87, 88, 89, 120, 121, 122, 123, 124, 125, 126, 127, 128, 129, 130, 152, 153, 154] (by decide +kernel) (by decide +kernel)
set_option maxRecDepth 20000 in
theorem gX5_readLaw_X5_release : GoodIn wsX5_readLaw (wsV RX5 197 RX5 yX5_release wsX5_release) := goodIn_app (goodIn_of _ (by decide +kernel)) ggX5_readLaw_X5_release
set_option maxRecDepth 20000 in
theorem ggX5_readLaw_X5_takePart : GoodIn wsX5_readLaw wsX5_takePart := goodIn_r _ [93, 5, 6, 4, 94, 3, 95, 96, 97, 10, 98, 2, 68, 69, 70, 71, 72, 73, 74, 99, 100, 101, 102, 1, 79, 103, 104, 105, 106, 12, 107, 83, 84, 85, 86, 87, 88, 89, 120, 121, 122, 123, 124, 125, 126, 127, 128, 129, 130, 131, 132, 133, 134, 135, 136, 137, 138, 139, 140, 141, 142, 143, 144, 145, 146, 147, 148, 149, 150, 151, 152, 153, 154] (by decide +kernel) (by decide +kernel)
set_option maxRecDepth 20000 in
theorem gX5_readLaw_X5_takePart : GoodIn wsX5_readLaw (wsV RX5 201 RX5 yX5_takePart wsX5_takePart) := goodIn_app (goodIn_of _ (by decide +kernel)) ggX5_readLaw_X5_takePart
set_option maxRecDepth 20000 in
theorem ggX5_readLaw_X5_takeJoint : GoodIn wsX5_readLaw wsX5_takeJoint := goodIn_r _ [111, 5, 6, 3, 4, 112, 113, 114, 10, 115, 2, 1, 68, 69, 70, 71, 72, 73, 74, 75, 76, 77, 78, 79, 80, 81, 82, 83, 84, 85, 86, 87, 88, 89, 116, 117, 118, 119, 103, 104, 105, 106, 12, 107, 99, 100, 101, 102, 120, 121, 122, 123, 124, 125, 126, 127, 128, 129, 130, 131, 132, 133, 134, 135, 136, 137, 152, 153, 154, 138, 139, 140, 141, 142, 143, 144, 145, 146, 147, 148, 149, 150, 151] (by decide +kernel) (by decide +kernel)
set_option maxRecDepth 20000 in
theorem gX5_readLaw_X5_takeJoint : GoodIn wsX5_readLaw (wsV RX5 205 RX5 yX5_takeJoint wsX5_takeJoint) := goodIn_app (goodIn_of _ (by decide +kernel)) ggX5_readLaw_X5_takeJoint
theorem dX5_readLaw_0 : decode cX5_readLaw 0 = .ok (.aload_n 0, 1) := by decide +kernel
theorem dX5_readLaw_1 : decode cX5_readLaw 1 = .ok (.invokevirtual 181, 3) := by decide +kernel
theorem dX5_readLaw_4 : decode cX5_readLaw 4 = .ok (.astore_n 1, 1) := by decide +kernel
theorem dX5_readLaw_5 : decode cX5_readLaw 5 = .ok (.aload_n 1, 1) := by decide +kernel
theorem dX5_readLaw_6 : decode cX5_readLaw 6 = .ok (.ifnonnull 5, 3) := by decide +kernel
theorem dX5_readLaw_9 : decode cX5_readLaw 9 = .ok (.iconst 0, 1) := by decide +kernel
theorem dX5_readLaw_10 : decode cX5_readLaw 10 = .ok (.ireturn, 1) := by decide +kernel
theorem dX5_readLaw_11 : decode cX5_readLaw 11 = .ok (.aload_n 0, 1) := by decide +kernel
theorem dX5_readLaw_12 : decode cX5_readLaw 12 = .ok (.iconst 0, 1) := by decide +kernel
theorem dX5_readLaw_13 : decode cX5_readLaw 13 = .ok (.putfield 185, 3) := by decide +kernel
theorem dX5_readLaw_16 : decode cX5_readLaw 16 = .ok (.aload_n 0, 1) := by decide +kernel
theorem dX5_readLaw_17 : decode cX5_readLaw 17 = .ok (.iconst 0, 1) := by decide +kernel
theorem dX5_readLaw_18 : decode cX5_readLaw 18 = .ok (.putfield 188, 3) := by decide +kernel
theorem dX5_readLaw_21 : decode cX5_readLaw 21 = .ok (.aload_n 0, 1) := by decide +kernel
theorem dX5_readLaw_22 : decode cX5_readLaw 22 = .ok (.iconst 1, 1) := by decide +kernel
theorem dX5_readLaw_23 : decode cX5_readLaw 23 = .ok (.putfield 191, 3) := by decide +kernel
theorem dX5_readLaw_26 : decode cX5_readLaw 26 = .ok (.aload_n 0, 1) := by decide +kernel
theorem dX5_readLaw_27 : decode cX5_readLaw 27 = .ok (.iconst 1, 1) := by decide +kernel
theorem dX5_readLaw_28 : decode cX5_readLaw 28 = .ok (.putfield 194, 3) := by decide +kernel
theorem dX5_readLaw_31 : decode cX5_readLaw 31 = .ok (.iconst 0, 1) := by decide +kernel
theorem dX5_readLaw_32 : decode cX5_readLaw 32 = .ok (.istore_n 2, 1) := by decide +kernel
theorem dX5_readLaw_33 : decode cX5_readLaw 33 = .ok (.iload_n 2, 1) := by decide +kernel
theorem dX5_readLaw_34 : decode cX5_readLaw 34 = .ok (.sipush 700, 3) := by decide +kernel
theorem dX5_readLaw_37 : decode cX5_readLaw 37 = .ok (.if_icmp .gt 78, 3) := by decide +kernel
theorem dX5_readLaw_40 : decode cX5_readLaw 40 = .ok (.aload_n 0, 1) := by decide +kernel
theorem dX5_readLaw_41 : decode cX5_readLaw 41 = .ok (.getfield 18, 3) := by decide +kernel
theorem dX5_readLaw_44 : decode cX5_readLaw 44 = .ok (.invokevirtual 49, 3) := by decide +kernel
theorem dX5_readLaw_47 : decode cX5_readLaw 47 = .ok (.aload_n 0, 1) := by decide +kernel
theorem dX5_readLaw_48 : decode cX5_readLaw 48 = .ok (.getfield 191, 3) := by decide +kernel
theorem dX5_readLaw_51 : decode cX5_readLaw 51 = .ok (.ifCond .ne 30, 3) := by decide +kernel
theorem dX5_readLaw_54 : decode cX5_readLaw 54 = .ok (.aload_n 0, 1) := by decide +kernel
theorem dX5_readLaw_55 : decode cX5_readLaw 55 = .ok (.getfield 188, 3) := by decide +kernel
theorem dX5_readLaw_58 : decode cX5_readLaw 58 = .ok (.ifCond .ne 23, 3) := by decide +kernel
theorem dX5_readLaw_61 : decode cX5_readLaw 61 = .ok (.aload_n 0, 1) := by decide +kernel
theorem dX5_readLaw_62 : decode cX5_readLaw 62 = .ok (.getfield 18, 3) := by decide +kernel
theorem dX5_readLaw_65 : decode cX5_readLaw 65 = .ok (.getfield 52, 3) := by decide +kernel
theorem dX5_readLaw_68 : decode cX5_readLaw 68 = .ok (.bipush 38, 2) := by decide +kernel
theorem dX5_readLaw_70 : decode cX5_readLaw 70 = .ok (.if_icmp .ne 11, 3) := by decide +kernel
theorem dX5_readLaw_73 : decode cX5_readLaw 73 = .ok (.aload_n 0, 1) := by decide +kernel
theorem dX5_readLaw_74 : decode cX5_readLaw 74 = .ok (.aload_n 1, 1) := by decide +kernel
theorem dX5_readLaw_75 : decode cX5_readLaw 75 = .ok (.iconst 1, 1) := by decide +kernel
theorem dX5_readLaw_76 : decode cX5_readLaw 76 = .ok (.invokevirtual 197, 3) := by decide +kernel
theorem dX5_readLaw_79 : decode cX5_readLaw 79 = .ok (.iconst 1, 1) := by decide +kernel
theorem dX5_readLaw_80 : decode cX5_readLaw 80 = .ok (.ireturn, 1) := by decide +kernel
theorem dX5_readLaw_81 : decode cX5_readLaw 81 = .ok (.aload_n 0, 1) := by decide +kernel
theorem dX5_readLaw_82 : decode cX5_readLaw 82 = .ok (.getfield 191, 3) := by decide +kernel
theorem dX5_readLaw_85 : decode cX5_readLaw 85 = .ok (.ifCond .eq 14, 3) := by decide +kernel
theorem dX5_readLaw_88 : decode cX5_readLaw 88 = .ok (.aload_n 0, 1) := by decide +kernel
theorem dX5_readLaw_89 : decode cX5_readLaw 89 = .ok (.aload_n 1, 1) := by decide +kernel
theorem dX5_readLaw_90 : decode cX5_readLaw 90 = .ok (.invokevirtual 201, 3) := by decide +kernel
theorem dX5_readLaw_93 : decode cX5_readLaw 93 = .ok (.ifCond .eq 14, 3) := by decide +kernel
theorem dX5_readLaw_96 : decode cX5_readLaw 96 = .ok (.goto 13, 3) := by decide +kernel
theorem dX5_readLaw_99 : decode cX5_readLaw 99 = .ok (.aload_n 0, 1) := by decide +kernel
theorem dX5_readLaw_100 : decode cX5_readLaw 100 = .ok (.aload_n 1, 1) := by decide +kernel
theorem dX5_readLaw_101 : decode cX5_readLaw 101 = .ok (.invokevirtual 205, 3) := by decide +kernel
theorem dX5_readLaw_104 : decode cX5_readLaw 104 = .ok (.ifCond .ne 5, 3) := by decide +kernel
theorem dX5_readLaw_107 : decode cX5_readLaw 107 = .ok (.iconst 0, 1) := by decide +kernel
theorem dX5_readLaw_108 : decode cX5_readLaw 108 = .ok (.ireturn, 1) := by decide +kernel
theorem dX5_readLaw_109 : decode cX5_readLaw 109 = .ok (.iinc 2 1, 3) := by decide +kernel
theorem dX5_readLaw_112 : decode cX5_readLaw 112 = .ok (.goto (-79), 3) := by decide +kernel
theorem dX5_readLaw_115 : decode cX5_readLaw 115 = .ok (.iconst 0, 1) := by decide +kernel
theorem dX5_readLaw_116 : decode cX5_readLaw 116 = .ok (.ireturn, 1) := by decide +kernel
set_option maxRecDepth 20000 in
theorem ggX5_takePart_X5_takeOpen : GoodIn wsX5_takePart wsX5_takeOpen := goodIn_r _ [10, 11, 3, 12, 13, 14, 9, 15, 16, 1, 17, 18, 19, 20, 21, 22, 23, 24, 38, 39, 40, 41, 42, 43, 44, 45, 46, 47, 48, 49, 50, 51, 52, 53, 54, 55] (by decide +kernel) (by decide +kernel)
set_option maxRecDepth 20000 in
theorem gX5_takePart_X5_takeOpen : GoodIn wsX5_takePart (wsV RX5 208 RX5 yX5_takeOpen wsX5_takeOpen) := goodIn_app (goodIn_of _ (by decide +kernel)) ggX5_takePart_X5_takeOpen
set_option maxRecDepth 20000 in
theorem ggX5_takePart_X5_countKnot : GoodIn wsX5_takePart wsX5_countKnot := goodIn_r _ [28, 29, 30, 12, 13, 14, 9, 15, 16, 1, 17, 18, 38, 39, 40, 41, 42, 43, 44, 45, 46, 47, 48, 56, 57, 58, 59, 60, 61, 62, 63, 64, 65, 66, 67, 68, 69, 49, 50, 51, 52, 53, 54, 55] (by decide +kernel) (by decide +kernel)
set_option maxRecDepth 20000 in
theorem gX5_takePart_X5_countKnot : GoodIn wsX5_takePart (wsV RX5 211 RX5 yX5_countKnot wsX5_countKnot) := goodIn_app (goodIn_of _ (by decide +kernel)) ggX5_takePart_X5_countKnot
set_option maxRecDepth 20000 in
theorem ggX5_takePart_X5_letWait : GoodIn wsX5_takePart wsX5_letWait := goodIn_r _ [22, 23, 24, 12, 13, 14, 9, 15, 16, 1, 17, 18, 38, 39, 40, 41, 42, 43, 44, 45, 46, 47, 48, 49, 50, 51, 52, 53, 54, 55] (by decide +kernel) (by decide +kernel)
set_option maxRecDepth 20000 in
theorem gX5_takePart_X5_letWait : GoodIn wsX5_takePart (wsV RX5 214 RX5 yX5_letWait wsX5_letWait) := goodIn_app (goodIn_of _ (by decide +kernel)) ggX5_takePart_X5_letWait
set_option maxRecDepth 20000 in
theorem ggX5_takePart_X5_refuse : GoodIn wsX5_takePart wsX5_refuse := goodIn_r _ [15, 16, 1, 17, 18, 38, 39, 40, 41, 42, 43, 44, 45, 46, 47, 48, 49, 50, 51, 52, 53, 54, 55] (by decide +kernel) (by decide +kernel)
set_option maxRecDepth 20000 in
theorem gX5_takePart_X5_refuse : GoodIn wsX5_takePart (wsV RX5 89 RX5 yX5_refuse wsX5_refuse) := goodIn_app (goodIn_of _ (by decide +kernel)) ggX5_takePart_X5_refuse
set_option maxRecDepth 20000 in
theorem ggX5_takePart_X2_add : GoodIn wsX5_takePart wsX2_add := goodIn_r _ [35, 36, 37, 70, 71, 72] (by decide +kernel) (by decide +kernel)
set_option maxRecDepth 20000 in
theorem gX5_takePart_X2_add : GoodIn wsX5_takePart (wsV RX5 217 RX2 yX2_add wsX2_add) := goodIn_app (goodIn_of _ (by decide +kernel)) ggX5_takePart_X2_add
theorem dX5_takePart_0 : decode cX5_takePart 0 = .ok (.aload_n 0, 1) := by decide +kernel
theorem dX5_takePart_1 : decode cX5_takePart 1 = .ok (.getfield 18, 3) := by decide +kernel
theorem dX5_takePart_4 : decode cX5_takePart 4 = .ok (.getfield 52, 3) := by decide +kernel
theorem dX5_takePart_7 : decode cX5_takePart 7 = .ok (.istore_n 2, 1) := by decide +kernel
theorem dX5_takePart_8 : decode cX5_takePart 8 = .ok (.iload_n 2, 1) := by decide +kernel
theorem dX5_takePart_9 : decode cX5_takePart 9 = .ok (.bipush 36, 2) := by decide +kernel
theorem dX5_takePart_11 : decode cX5_takePart 11 = .ok (.if_icmp .ne 8, 3) := by decide +kernel
theorem dX5_takePart_14 : decode cX5_takePart 14 = .ok (.aload_n 0, 1) := by decide +kernel
theorem dX5_takePart_15 : decode cX5_takePart 15 = .ok (.invokevirtual 208, 3) := by decide +kernel
theorem dX5_takePart_18 : decode cX5_takePart 18 = .ok (.ireturn, 1) := by decide +kernel
theorem dX5_takePart_19 : decode cX5_takePart 19 = .ok (.iload_n 2, 1) := by decide +kernel
theorem dX5_takePart_20 : decode cX5_takePart 20 = .ok (.bipush 15, 2) := by decide +kernel
theorem dX5_takePart_22 : decode cX5_takePart 22 = .ok (.if_icmp .ne 31, 3) := by decide +kernel
theorem dX5_takePart_25 : decode cX5_takePart 25 = .ok (.aload_n 0, 1) := by decide +kernel
theorem dX5_takePart_26 : decode cX5_takePart 26 = .ok (.getfield 194, 3) := by decide +kernel
theorem dX5_takePart_29 : decode cX5_takePart 29 = .ok (.ifCond .eq 24, 3) := by decide +kernel
theorem dX5_takePart_32 : decode cX5_takePart 32 = .ok (.aload_n 0, 1) := by decide +kernel
theorem dX5_takePart_33 : decode cX5_takePart 33 = .ok (.invokevirtual 211, 3) := by decide +kernel
theorem dX5_takePart_36 : decode cX5_takePart 36 = .ok (.ifCond .eq 15, 3) := by decide +kernel
theorem dX5_takePart_39 : decode cX5_takePart 39 = .ok (.aload_n 0, 1) := by decide +kernel
theorem dX5_takePart_40 : decode cX5_takePart 40 = .ok (.iload_n 2, 1) := by decide +kernel
theorem dX5_takePart_41 : decode cX5_takePart 41 = .ok (.invokevirtual 214, 3) := by decide +kernel
theorem dX5_takePart_44 : decode cX5_takePart 44 = .ok (.ifCond .eq 7, 3) := by decide +kernel
theorem dX5_takePart_47 : decode cX5_takePart 47 = .ok (.iconst 1, 1) := by decide +kernel
theorem dX5_takePart_48 : decode cX5_takePart 48 = .ok (.goto 4, 3) := by decide +kernel
theorem dX5_takePart_51 : decode cX5_takePart 51 = .ok (.iconst 0, 1) := by decide +kernel
theorem dX5_takePart_52 : decode cX5_takePart 52 = .ok (.ireturn, 1) := by decide +kernel
theorem dX5_takePart_53 : decode cX5_takePart 53 = .ok (.iload_n 2, 1) := by decide +kernel
theorem dX5_takePart_54 : decode cX5_takePart 54 = .ok (.bipush 18, 2) := by decide +kernel
theorem dX5_takePart_56 : decode cX5_takePart 56 = .ok (.if_icmp .lt 13, 3) := by decide +kernel
theorem dX5_takePart_59 : decode cX5_takePart 59 = .ok (.iload_n 2, 1) := by decide +kernel
theorem dX5_takePart_60 : decode cX5_takePart 60 = .ok (.bipush 24, 2) := by decide +kernel
theorem dX5_takePart_62 : decode cX5_takePart 62 = .ok (.if_icmp .ge 7, 3) := by decide +kernel
theorem dX5_takePart_65 : decode cX5_takePart 65 = .ok (.iconst 1, 1) := by decide +kernel
theorem dX5_takePart_66 : decode cX5_takePart 66 = .ok (.goto 4, 3) := by decide +kernel
theorem dX5_takePart_69 : decode cX5_takePart 69 = .ok (.iconst 0, 1) := by decide +kernel
theorem dX5_takePart_70 : decode cX5_takePart 70 = .ok (.istore_n 3, 1) := by decide +kernel
theorem dX5_takePart_71 : decode cX5_takePart 71 = .ok (.iload_n 2, 1) := by decide +kernel
theorem dX5_takePart_72 : decode cX5_takePart 72 = .ok (.bipush 25, 2) := by decide +kernel
theorem dX5_takePart_74 : decode cX5_takePart 74 = .ok (.if_icmp .eq 13, 3) := by decide +kernel
theorem dX5_takePart_77 : decode cX5_takePart 77 = .ok (.iload_n 3, 1) := by decide +kernel
theorem dX5_takePart_78 : decode cX5_takePart 78 = .ok (.ifCond .ne 9, 3) := by decide +kernel
theorem dX5_takePart_81 : decode cX5_takePart 81 = .ok (.aload_n 0, 1) := by decide +kernel
theorem dX5_takePart_82 : decode cX5_takePart 82 = .ok (.iconst 1, 1) := by decide +kernel
theorem dX5_takePart_83 : decode cX5_takePart 83 = .ok (.invokevirtual 89, 3) := by decide +kernel
theorem dX5_takePart_86 : decode cX5_takePart 86 = .ok (.ireturn, 1) := by decide +kernel
theorem dX5_takePart_87 : decode cX5_takePart 87 = .ok (.aload_n 0, 1) := by decide +kernel
theorem dX5_takePart_88 : decode cX5_takePart 88 = .ok (.getfield 18, 3) := by decide +kernel
theorem dX5_takePart_91 : decode cX5_takePart 91 = .ok (.getfield 97, 3) := by decide +kernel
theorem dX5_takePart_94 : decode cX5_takePart 94 = .ok (.sipush 9999, 3) := by decide +kernel
theorem dX5_takePart_97 : decode cX5_takePart 97 = .ok (.if_icmp .le 13, 3) := by decide +kernel
theorem dX5_takePart_100 : decode cX5_takePart 100 = .ok (.iload_n 3, 1) := by decide +kernel
theorem dX5_takePart_101 : decode cX5_takePart 101 = .ok (.ifCond .ne 9, 3) := by decide +kernel
theorem dX5_takePart_104 : decode cX5_takePart 104 = .ok (.aload_n 0, 1) := by decide +kernel
theorem dX5_takePart_105 : decode cX5_takePart 105 = .ok (.iconst 2, 1) := by decide +kernel
theorem dX5_takePart_106 : decode cX5_takePart 106 = .ok (.invokevirtual 89, 3) := by decide +kernel
theorem dX5_takePart_109 : decode cX5_takePart 109 = .ok (.ireturn, 1) := by decide +kernel
theorem dX5_takePart_110 : decode cX5_takePart 110 = .ok (.aload_n 0, 1) := by decide +kernel
theorem dX5_takePart_111 : decode cX5_takePart 111 = .ok (.invokevirtual 211, 3) := by decide +kernel
theorem dX5_takePart_114 : decode cX5_takePart 114 = .ok (.ifCond .ne 5, 3) := by decide +kernel
theorem dX5_takePart_117 : decode cX5_takePart 117 = .ok (.iconst 0, 1) := by decide +kernel
theorem dX5_takePart_118 : decode cX5_takePart 118 = .ok (.ireturn, 1) := by decide +kernel
theorem dX5_takePart_119 : decode cX5_takePart 119 = .ok (.aload_n 1, 1) := by decide +kernel
theorem dX5_takePart_120 : decode cX5_takePart 120 = .ok (.iload_n 3, 1) := by decide +kernel
theorem dX5_takePart_121 : decode cX5_takePart 121 = .ok (.ifCond .eq 11, 3) := by decide +kernel
theorem dX5_takePart_124 : decode cX5_takePart 124 = .ok (.sipush 10000, 3) := by decide +kernel
theorem dX5_takePart_127 : decode cX5_takePart 127 = .ok (.iload_n 2, 1) := by decide +kernel
theorem dX5_takePart_128 : decode cX5_takePart 128 = .ok (.iadd, 1) := by decide +kernel
theorem dX5_takePart_129 : decode cX5_takePart 129 = .ok (.goto 10, 3) := by decide +kernel
theorem dX5_takePart_132 : decode cX5_takePart 132 = .ok (.aload_n 0, 1) := by decide +kernel
theorem dX5_takePart_133 : decode cX5_takePart 133 = .ok (.getfield 18, 3) := by decide +kernel
theorem dX5_takePart_136 : decode cX5_takePart 136 = .ok (.getfield 97, 3) := by decide +kernel
theorem dX5_takePart_139 : decode cX5_takePart 139 = .ok (.invokevirtual 217, 3) := by decide +kernel
theorem dX5_takePart_142 : decode cX5_takePart 142 = .ok (.aload_n 0, 1) := by decide +kernel
theorem dX5_takePart_143 : decode cX5_takePart 143 = .ok (.iconst 0, 1) := by decide +kernel
theorem dX5_takePart_144 : decode cX5_takePart 144 = .ok (.putfield 191, 3) := by decide +kernel
theorem dX5_takePart_147 : decode cX5_takePart 147 = .ok (.iconst 1, 1) := by decide +kernel
theorem dX5_takePart_148 : decode cX5_takePart 148 = .ok (.ireturn, 1) := by decide +kernel
set_option maxRecDepth 20000 in
theorem ggX5_takeOpen_X5_refuse : GoodIn wsX5_takeOpen wsX5_refuse := goodIn_r _ [7, 8, 9, 10, 11, 18, 19, 20, 21, 22, 23, 24, 25, 26, 27, 28, 29, 30, 31, 32, 33, 34, 35] (by decide +kernel) (by decide +kernel)
set_option maxRecDepth 20000 in
theorem gX5_takeOpen_X5_refuse : GoodIn wsX5_takeOpen (wsV RX5 89 RX5 yX5_refuse wsX5_refuse) := goodIn_app (goodIn_of _ (by decide +kernel)) ggX5_takeOpen_X5_refuse
set_option maxRecDepth 20000 in
theorem ggX5_takeOpen_X5_letWait : GoodIn wsX5_takeOpen wsX5_letWait := goodIn_r _ [15, 16, 17, 3, 4, 5, 6, 7, 8, 9, 10, 11, 18, 19, 20, 21, 22, 23, 24, 25, 26, 27, 28, 29, 30, 31, 32, 33, 34, 35] (by decide +kernel) (by decide +kernel)
set_option maxRecDepth 20000 in
theorem gX5_takeOpen_X5_letWait : GoodIn wsX5_takeOpen (wsV RX5 214 RX5 yX5_letWait wsX5_letWait) := goodIn_app (goodIn_of _ (by decide +kernel)) ggX5_takeOpen_X5_letWait
theorem dX5_takeOpen_0 : decode cX5_takeOpen 0 = .ok (.aload_n 0, 1) := by decide +kernel
theorem dX5_takeOpen_1 : decode cX5_takeOpen 1 = .ok (.getfield 188, 3) := by decide +kernel
theorem dX5_takeOpen_4 : decode cX5_takeOpen 4 = .ok (.bipush 8, 2) := by decide +kernel
theorem dX5_takeOpen_6 : decode cX5_takeOpen 6 = .ok (.if_icmp .lt 9, 3) := by decide +kernel
theorem dX5_takeOpen_9 : decode cX5_takeOpen 9 = .ok (.aload_n 0, 1) := by decide +kernel
theorem dX5_takeOpen_10 : decode cX5_takeOpen 10 = .ok (.iconst 2, 1) := by decide +kernel
theorem dX5_takeOpen_11 : decode cX5_takeOpen 11 = .ok (.invokevirtual 89, 3) := by decide +kernel
theorem dX5_takeOpen_14 : decode cX5_takeOpen 14 = .ok (.ireturn, 1) := by decide +kernel
theorem dX5_takeOpen_15 : decode cX5_takeOpen 15 = .ok (.aload_n 0, 1) := by decide +kernel
theorem dX5_takeOpen_16 : decode cX5_takeOpen 16 = .ok (.dup, 1) := by decide +kernel
theorem dX5_takeOpen_17 : decode cX5_takeOpen 17 = .ok (.getfield 188, 3) := by decide +kernel
theorem dX5_takeOpen_20 : decode cX5_takeOpen 20 = .ok (.iconst 1, 1) := by decide +kernel
theorem dX5_takeOpen_21 : decode cX5_takeOpen 21 = .ok (.iadd, 1) := by decide +kernel
theorem dX5_takeOpen_22 : decode cX5_takeOpen 22 = .ok (.putfield 188, 3) := by decide +kernel
theorem dX5_takeOpen_25 : decode cX5_takeOpen 25 = .ok (.aload_n 0, 1) := by decide +kernel
theorem dX5_takeOpen_26 : decode cX5_takeOpen 26 = .ok (.iconst 1, 1) := by decide +kernel
theorem dX5_takeOpen_27 : decode cX5_takeOpen 27 = .ok (.putfield 194, 3) := by decide +kernel
theorem dX5_takeOpen_30 : decode cX5_takeOpen 30 = .ok (.aload_n 0, 1) := by decide +kernel
theorem dX5_takeOpen_31 : decode cX5_takeOpen 31 = .ok (.bipush 36, 2) := by decide +kernel
theorem dX5_takeOpen_33 : decode cX5_takeOpen 33 = .ok (.invokevirtual 214, 3) := by decide +kernel
theorem dX5_takeOpen_36 : decode cX5_takeOpen 36 = .ok (.ireturn, 1) := by decide +kernel
set_option maxRecDepth 20000 in
theorem ggX5_takeJoint_X5_takeClose : GoodIn wsX5_takeJoint wsX5_takeClose := goodIn_r _ [9, 10, 11, 12, 13, 14, 8, 15, 16, 1, 17, 18, 19, 20, 21, 22, 23, 24, 25, 26, 27, 28, 29, 30, 31, 32, 33, 48, 49, 50, 51, 52, 53, 54, 55, 56, 57, 58, 59, 60, 61, 62, 63, 64, 65, 66, 67, 68] (by decide +kernel) (by decide +kernel)
set_option maxRecDepth 20000 in
theorem gX5_takeJoint_X5_takeClose : GoodIn wsX5_takeJoint (wsV RX5 220 RX5 yX5_takeClose wsX5_takeClose) := goodIn_app (goodIn_of _ (by decide +kernel)) ggX5_takeJoint_X5_takeClose
set_option maxRecDepth 20000 in
theorem ggX5_takeJoint_X5_strengthOf : GoodIn wsX5_takeJoint wsX5_strengthOf := goodIn_r _ [26] (by decide +kernel) (by decide +kernel)
set_option maxRecDepth 20000 in
theorem gX5_takeJoint_X5_strengthOf : GoodIn wsX5_takeJoint (va_wsS RX5 223 yX5_strengthOf wsX5_strengthOf) := goodIn_app (goodIn_of _ (by decide +kernel)) ggX5_takeJoint_X5_strengthOf
set_option maxRecDepth 20000 in
theorem ggX5_takeJoint_X5_refuse : GoodIn wsX5_takeJoint wsX5_refuse := goodIn_r _ [15, 16, 1, 17, 18, 48, 49, 50, 51, 52, 53, 54, 55, 56, 57, 58, 59, 60, 61, 62, 63, 64, 65] (by decide +kernel) (by decide +kernel)
set_option maxRecDepth 20000 in
theorem gX5_takeJoint_X5_refuse : GoodIn wsX5_takeJoint (wsV RX5 89 RX5 yX5_refuse wsX5_refuse) := goodIn_app (goodIn_of _ (by decide +kernel)) ggX5_takeJoint_X5_refuse
set_option maxRecDepth 20000 in
theorem ggX5_takeJoint_X5_release : GoodIn wsX5_takeJoint wsX5_release := goodIn_r _ [22, 11, 23, 24, 25, 8, 26, 27, 28, 29, 30, 31, 32, 33, 48, 49, 50, 51, 52, 53, 54, 55, 56, 57, 58, 66, 67, 68] (by decide +kernel) (by decide +kernel)
set_option maxRecDepth 20000 in
theorem gX5_takeJoint_X5_release : GoodIn wsX5_takeJoint (wsV RX5 197 RX5 yX5_release wsX5_release) := goodIn_app (goodIn_of _ (by decide +kernel)) ggX5_takeJoint_X5_release
set_option maxRecDepth 20000 in
theorem ggX5_takeJoint_X5_waitsForLike : GoodIn wsX5_takeJoint wsX5_waitsForLike := goodIn_r _ [37, 11, 23, 24, 25, 8, 26, 48, 49, 50, 51, 52, 53, 54, 55, 56, 57, 58] (by decide +kernel) (by decide +kernel)
set_option maxRecDepth 20000 in
theorem gX5_takeJoint_X5_waitsForLike : GoodIn wsX5_takeJoint (wsV RX5 226 RX5 yX5_waitsForLike wsX5_waitsForLike) := goodIn_app (goodIn_of _ (by decide +kernel)) ggX5_takeJoint_X5_waitsForLike
set_option maxRecDepth 20000 in
theorem ggX5_takeJoint_X5_countKnot : GoodIn wsX5_takeJoint wsX5_countKnot := goodIn_r _ [41, 42, 43, 12, 13, 14, 8, 15, 16, 1, 17, 18, 48, 49, 50, 51, 52, 53, 54, 55, 56, 57, 58, 69, 70, 71, 72, 73, 74, 75, 76, 77, 78, 79, 80, 81, 82, 59, 60, 61, 62, 63, 64, 65] (by decide +kernel) (by decide +kernel)
set_option maxRecDepth 20000 in
theorem gX5_takeJoint_X5_countKnot : GoodIn wsX5_takeJoint (wsV RX5 211 RX5 yX5_countKnot wsX5_countKnot) := goodIn_app (goodIn_of _ (by decide +kernel)) ggX5_takeJoint_X5_countKnot
set_option maxRecDepth 20000 in
theorem ggX5_takeJoint_X5_letWait : GoodIn wsX5_takeJoint wsX5_letWait := goodIn_r _ [47, 11, 23, 12, 13, 14, 8, 15, 16, 1, 17, 18, 48, 49, 50, 51, 52, 53, 54, 55, 56, 57, 58, 59, 60, 61, 62, 63, 64, 65] (by decide +kernel) (by decide +kernel)
set_option maxRecDepth 20000 in
theorem gX5_takeJoint_X5_letWait : GoodIn wsX5_takeJoint (wsV RX5 214 RX5 yX5_letWait wsX5_letWait) := goodIn_app (goodIn_of _ (by decide +kernel)) ggX5_takeJoint_X5_letWait
theorem dX5_takeJoint_0 : decode cX5_takeJoint 0 = .ok (.aload_n 0, 1) := by decide +kernel
theorem dX5_takeJoint_1 : decode cX5_takeJoint 1 = .ok (.getfield 18, 3) := by decide +kernel
theorem dX5_takeJoint_4 : decode cX5_takeJoint 4 = .ok (.getfield 52, 3) := by decide +kernel
theorem dX5_takeJoint_7 : decode cX5_takeJoint 7 = .ok (.istore_n 2, 1) := by decide +kernel
theorem dX5_takeJoint_8 : decode cX5_takeJoint 8 = .ok (.iload_n 2, 1) := by decide +kernel
theorem dX5_takeJoint_9 : decode cX5_takeJoint 9 = .ok (.bipush 37, 2) := by decide +kernel
theorem dX5_takeJoint_11 : decode cX5_takeJoint 11 = .ok (.if_icmp .ne 9, 3) := by decide +kernel
theorem dX5_takeJoint_14 : decode cX5_takeJoint 14 = .ok (.aload_n 0, 1) := by decide +kernel
theorem dX5_takeJoint_15 : decode cX5_takeJoint 15 = .ok (.aload_n 1, 1) := by decide +kernel
theorem dX5_takeJoint_16 : decode cX5_takeJoint 16 = .ok (.invokevirtual 220, 3) := by decide +kernel
theorem dX5_takeJoint_19 : decode cX5_takeJoint 19 = .ok (.ireturn, 1) := by decide +kernel
theorem dX5_takeJoint_20 : decode cX5_takeJoint 20 = .ok (.iload_n 2, 1) := by decide +kernel
theorem dX5_takeJoint_21 : decode cX5_takeJoint 21 = .ok (.invokestatic 223, 3) := by decide +kernel
theorem dX5_takeJoint_24 : decode cX5_takeJoint 24 = .ok (.istore_n 3, 1) := by decide +kernel
theorem dX5_takeJoint_25 : decode cX5_takeJoint 25 = .ok (.iload_n 3, 1) := by decide +kernel
theorem dX5_takeJoint_26 : decode cX5_takeJoint 26 = .ok (.ifCond .eq 9, 3) := by decide +kernel
theorem dX5_takeJoint_29 : decode cX5_takeJoint 29 = .ok (.iload_n 2, 1) := by decide +kernel
theorem dX5_takeJoint_30 : decode cX5_takeJoint 30 = .ok (.bipush 15, 2) := by decide +kernel
theorem dX5_takeJoint_32 : decode cX5_takeJoint 32 = .ok (.if_icmp .ne 9, 3) := by decide +kernel
theorem dX5_takeJoint_35 : decode cX5_takeJoint 35 = .ok (.aload_n 0, 1) := by decide +kernel
theorem dX5_takeJoint_36 : decode cX5_takeJoint 36 = .ok (.iconst 1, 1) := by decide +kernel
theorem dX5_takeJoint_37 : decode cX5_takeJoint 37 = .ok (.invokevirtual 89, 3) := by decide +kernel
theorem dX5_takeJoint_40 : decode cX5_takeJoint 40 = .ok (.ireturn, 1) := by decide +kernel
theorem dX5_takeJoint_41 : decode cX5_takeJoint 41 = .ok (.iload_n 3, 1) := by decide +kernel
theorem dX5_takeJoint_42 : decode cX5_takeJoint 42 = .ok (.bipush 28, 2) := by decide +kernel
theorem dX5_takeJoint_44 : decode cX5_takeJoint 44 = .ok (.invokestatic 223, 3) := by decide +kernel
theorem dX5_takeJoint_47 : decode cX5_takeJoint 47 = .ok (.if_icmp .ne 7, 3) := by decide +kernel
theorem dX5_takeJoint_50 : decode cX5_takeJoint 50 = .ok (.iconst 1, 1) := by decide +kernel
theorem dX5_takeJoint_51 : decode cX5_takeJoint 51 = .ok (.goto 4, 3) := by decide +kernel
theorem dX5_takeJoint_54 : decode cX5_takeJoint 54 = .ok (.iconst 0, 1) := by decide +kernel
theorem dX5_takeJoint_55 : decode cX5_takeJoint 55 = .ok (.istore 4, 2) := by decide +kernel
theorem dX5_takeJoint_57 : decode cX5_takeJoint 57 = .ok (.aload_n 0, 1) := by decide +kernel
theorem dX5_takeJoint_58 : decode cX5_takeJoint 58 = .ok (.aload_n 1, 1) := by decide +kernel
theorem dX5_takeJoint_59 : decode cX5_takeJoint 59 = .ok (.iload 4, 2) := by decide +kernel
theorem dX5_takeJoint_61 : decode cX5_takeJoint 61 = .ok (.ifCond .eq 9, 3) := by decide +kernel
theorem dX5_takeJoint_64 : decode cX5_takeJoint 64 = .ok (.iload_n 3, 1) := by decide +kernel
theorem dX5_takeJoint_65 : decode cX5_takeJoint 65 = .ok (.iconst 1, 1) := by decide +kernel
theorem dX5_takeJoint_66 : decode cX5_takeJoint 66 = .ok (.iadd, 1) := by decide +kernel
theorem dX5_takeJoint_67 : decode cX5_takeJoint 67 = .ok (.goto 4, 3) := by decide +kernel
theorem dX5_takeJoint_70 : decode cX5_takeJoint 70 = .ok (.iload_n 3, 1) := by decide +kernel
theorem dX5_takeJoint_71 : decode cX5_takeJoint 71 = .ok (.invokevirtual 197, 3) := by decide +kernel
theorem dX5_takeJoint_74 : decode cX5_takeJoint 74 = .ok (.iload 4, 2) := by decide +kernel
theorem dX5_takeJoint_76 : decode cX5_takeJoint 76 = .ok (.ifCond .eq 16, 3) := by decide +kernel
theorem dX5_takeJoint_79 : decode cX5_takeJoint 79 = .ok (.aload_n 0, 1) := by decide +kernel
theorem dX5_takeJoint_80 : decode cX5_takeJoint 80 = .ok (.invokevirtual 226, 3) := by decide +kernel
theorem dX5_takeJoint_83 : decode cX5_takeJoint 83 = .ok (.ifCond .eq 9, 3) := by decide +kernel
theorem dX5_takeJoint_86 : decode cX5_takeJoint 86 = .ok (.aload_n 0, 1) := by decide +kernel
theorem dX5_takeJoint_87 : decode cX5_takeJoint 87 = .ok (.iconst 1, 1) := by decide +kernel
theorem dX5_takeJoint_88 : decode cX5_takeJoint 88 = .ok (.invokevirtual 89, 3) := by decide +kernel
theorem dX5_takeJoint_91 : decode cX5_takeJoint 91 = .ok (.ireturn, 1) := by decide +kernel
theorem dX5_takeJoint_92 : decode cX5_takeJoint 92 = .ok (.aload_n 0, 1) := by decide +kernel
theorem dX5_takeJoint_93 : decode cX5_takeJoint 93 = .ok (.iconst 1, 1) := by decide +kernel
theorem dX5_takeJoint_94 : decode cX5_takeJoint 94 = .ok (.putfield 191, 3) := by decide +kernel
theorem dX5_takeJoint_97 : decode cX5_takeJoint 97 = .ok (.aload_n 0, 1) := by decide +kernel
theorem dX5_takeJoint_98 : decode cX5_takeJoint 98 = .ok (.iload_n 2, 1) := by decide +kernel
theorem dX5_takeJoint_99 : decode cX5_takeJoint 99 = .ok (.bipush 16, 2) := by decide +kernel
theorem dX5_takeJoint_101 : decode cX5_takeJoint 101 = .ok (.if_icmp .eq 9, 3) := by decide +kernel
theorem dX5_takeJoint_104 : decode cX5_takeJoint 104 = .ok (.iload_n 2, 1) := by decide +kernel
theorem dX5_takeJoint_105 : decode cX5_takeJoint 105 = .ok (.bipush 17, 2) := by decide +kernel
theorem dX5_takeJoint_107 : decode cX5_takeJoint 107 = .ok (.if_icmp .ne 7, 3) := by decide +kernel
theorem dX5_takeJoint_110 : decode cX5_takeJoint 110 = .ok (.iconst 1, 1) := by decide +kernel
theorem dX5_takeJoint_111 : decode cX5_takeJoint 111 = .ok (.goto 4, 3) := by decide +kernel
theorem dX5_takeJoint_114 : decode cX5_takeJoint 114 = .ok (.iconst 0, 1) := by decide +kernel
theorem dX5_takeJoint_115 : decode cX5_takeJoint 115 = .ok (.putfield 194, 3) := by decide +kernel
theorem dX5_takeJoint_118 : decode cX5_takeJoint 118 = .ok (.aload_n 0, 1) := by decide +kernel
theorem dX5_takeJoint_119 : decode cX5_takeJoint 119 = .ok (.invokevirtual 211, 3) := by decide +kernel
theorem dX5_takeJoint_122 : decode cX5_takeJoint 122 = .ok (.ifCond .eq 15, 3) := by decide +kernel
theorem dX5_takeJoint_125 : decode cX5_takeJoint 125 = .ok (.aload_n 0, 1) := by decide +kernel
theorem dX5_takeJoint_126 : decode cX5_takeJoint 126 = .ok (.iload_n 2, 1) := by decide +kernel
theorem dX5_takeJoint_127 : decode cX5_takeJoint 127 = .ok (.invokevirtual 214, 3) := by decide +kernel
theorem dX5_takeJoint_130 : decode cX5_takeJoint 130 = .ok (.ifCond .eq 7, 3) := by decide +kernel
theorem dX5_takeJoint_133 : decode cX5_takeJoint 133 = .ok (.iconst 1, 1) := by decide +kernel
theorem dX5_takeJoint_134 : decode cX5_takeJoint 134 = .ok (.goto 4, 3) := by decide +kernel
theorem dX5_takeJoint_137 : decode cX5_takeJoint 137 = .ok (.iconst 0, 1) := by decide +kernel
theorem dX5_takeJoint_138 : decode cX5_takeJoint 138 = .ok (.ireturn, 1) := by decide +kernel
set_option maxRecDepth 20000 in
theorem ggX5_takeClose_X5_refuse : GoodIn wsX5_takeClose wsX5_refuse := goodIn_r _ [7, 8, 9, 10, 11, 27, 28, 29, 30, 31, 32, 33, 34, 35, 36, 37, 38, 39, 40, 41, 42, 43, 44] (by decide +kernel) (by decide +kernel)
set_option maxRecDepth 20000 in
theorem gX5_takeClose_X5_refuse : GoodIn wsX5_takeClose (wsV RX5 89 RX5 yX5_refuse wsX5_refuse) := goodIn_app (goodIn_of _ (by decide +kernel)) ggX5_takeClose_X5_refuse
set_option maxRecDepth 20000 in
theorem ggX5_takeClose_X5_release : GoodIn wsX5_takeClose wsX5_release := goodIn_r _ [15, 2, 16, 17, 18, 6, 19, 20, 21, 22, 23, 24, 25, 26, 27, 28, 29, 30, 31, 32, 33, 34, 35, 36, 37, 45, 46, 47] (by decide +kernel) (by decide +kernel)
set_option maxRecDepth 20000 in
theorem gX5_takeClose_X5_release : GoodIn wsX5_takeClose (wsV RX5 197 RX5 yX5_release wsX5_release) := goodIn_app (goodIn_of _ (by decide +kernel)) ggX5_takeClose_X5_release
theorem dX5_takeClose_0 : decode cX5_takeClose 0 = .ok (.aload_n 0, 1) := by decide +kernel
theorem dX5_takeClose_1 : decode cX5_takeClose 1 = .ok (.getfield 188, 3) := by decide +kernel
theorem dX5_takeClose_4 : decode cX5_takeClose 4 = .ok (.ifCond .ne 9, 3) := by decide +kernel
theorem dX5_takeClose_7 : decode cX5_takeClose 7 = .ok (.aload_n 0, 1) := by decide +kernel
theorem dX5_takeClose_8 : decode cX5_takeClose 8 = .ok (.iconst 1, 1) := by decide +kernel
theorem dX5_takeClose_9 : decode cX5_takeClose 9 = .ok (.invokevirtual 89, 3) := by decide +kernel
theorem dX5_takeClose_12 : decode cX5_takeClose 12 = .ok (.ireturn, 1) := by decide +kernel
theorem dX5_takeClose_13 : decode cX5_takeClose 13 = .ok (.aload_n 0, 1) := by decide +kernel
theorem dX5_takeClose_14 : decode cX5_takeClose 14 = .ok (.aload_n 1, 1) := by decide +kernel
theorem dX5_takeClose_15 : decode cX5_takeClose 15 = .ok (.iconst 1, 1) := by decide +kernel
theorem dX5_takeClose_16 : decode cX5_takeClose 16 = .ok (.invokevirtual 197, 3) := by decide +kernel
theorem dX5_takeClose_19 : decode cX5_takeClose 19 = .ok (.aload_n 0, 1) := by decide +kernel
theorem dX5_takeClose_20 : decode cX5_takeClose 20 = .ok (.dup, 1) := by decide +kernel
theorem dX5_takeClose_21 : decode cX5_takeClose 21 = .ok (.getfield 188, 3) := by decide +kernel
theorem dX5_takeClose_24 : decode cX5_takeClose 24 = .ok (.iconst 1, 1) := by decide +kernel
theorem dX5_takeClose_25 : decode cX5_takeClose 25 = .ok (.isub, 1) := by decide +kernel
theorem dX5_takeClose_26 : decode cX5_takeClose 26 = .ok (.putfield 188, 3) := by decide +kernel
theorem dX5_takeClose_29 : decode cX5_takeClose 29 = .ok (.aload_n 0, 1) := by decide +kernel
theorem dX5_takeClose_30 : decode cX5_takeClose 30 = .ok (.getfield 185, 3) := by decide +kernel
theorem dX5_takeClose_33 : decode cX5_takeClose 33 = .ok (.ifCond .le 13, 3) := by decide +kernel
theorem dX5_takeClose_36 : decode cX5_takeClose 36 = .ok (.aload_n 0, 1) := by decide +kernel
theorem dX5_takeClose_37 : decode cX5_takeClose 37 = .ok (.dup, 1) := by decide +kernel
theorem dX5_takeClose_38 : decode cX5_takeClose 38 = .ok (.getfield 185, 3) := by decide +kernel
theorem dX5_takeClose_41 : decode cX5_takeClose 41 = .ok (.iconst 1, 1) := by decide +kernel
theorem dX5_takeClose_42 : decode cX5_takeClose 42 = .ok (.isub, 1) := by decide +kernel
theorem dX5_takeClose_43 : decode cX5_takeClose 43 = .ok (.putfield 185, 3) := by decide +kernel
theorem dX5_takeClose_46 : decode cX5_takeClose 46 = .ok (.iconst 1, 1) := by decide +kernel
theorem dX5_takeClose_47 : decode cX5_takeClose 47 = .ok (.ireturn, 1) := by decide +kernel
set_option maxRecDepth 20000 in
theorem ggX5_waitsForLike_X5_strengthOf : GoodIn wsX5_waitsForLike wsX5_strengthOf := goodIn_r _ [6] (by decide +kernel) (by decide +kernel)
set_option maxRecDepth 20000 in
theorem gX5_waitsForLike_X5_strengthOf : GoodIn wsX5_waitsForLike (va_wsS RX5 223 yX5_strengthOf wsX5_strengthOf) := goodIn_app (goodIn_of _ (by decide +kernel)) ggX5_waitsForLike_X5_strengthOf
theorem dX5_waitsForLike_0 : decode cX5_waitsForLike 0 = .ok (.aload_n 0, 1) := by decide +kernel
theorem dX5_waitsForLike_1 : decode cX5_waitsForLike 1 = .ok (.getfield 185, 3) := by decide +kernel
theorem dX5_waitsForLike_4 : decode cX5_waitsForLike 4 = .ok (.ifCond .le 29, 3) := by decide +kernel
theorem dX5_waitsForLike_7 : decode cX5_waitsForLike 7 = .ok (.aload_n 0, 1) := by decide +kernel
theorem dX5_waitsForLike_8 : decode cX5_waitsForLike 8 = .ok (.getfield 22, 3) := by decide +kernel
theorem dX5_waitsForLike_11 : decode cX5_waitsForLike 11 = .ok (.aload_n 0, 1) := by decide +kernel
theorem dX5_waitsForLike_12 : decode cX5_waitsForLike 12 = .ok (.getfield 185, 3) := by decide +kernel
theorem dX5_waitsForLike_15 : decode cX5_waitsForLike 15 = .ok (.iconst 1, 1) := by decide +kernel
theorem dX5_waitsForLike_16 : decode cX5_waitsForLike 16 = .ok (.isub, 1) := by decide +kernel
theorem dX5_waitsForLike_17 : decode cX5_waitsForLike 17 = .ok (.iaload, 1) := by decide +kernel
theorem dX5_waitsForLike_18 : decode cX5_waitsForLike 18 = .ok (.invokestatic 223, 3) := by decide +kernel
theorem dX5_waitsForLike_21 : decode cX5_waitsForLike 21 = .ok (.bipush 28, 2) := by decide +kernel
theorem dX5_waitsForLike_23 : decode cX5_waitsForLike 23 = .ok (.invokestatic 223, 3) := by decide +kernel
theorem dX5_waitsForLike_26 : decode cX5_waitsForLike 26 = .ok (.if_icmp .ne 7, 3) := by decide +kernel
theorem dX5_waitsForLike_29 : decode cX5_waitsForLike 29 = .ok (.iconst 1, 1) := by decide +kernel
theorem dX5_waitsForLike_30 : decode cX5_waitsForLike 30 = .ok (.goto 4, 3) := by decide +kernel
theorem dX5_waitsForLike_33 : decode cX5_waitsForLike 33 = .ok (.iconst 0, 1) := by decide +kernel
theorem dX5_waitsForLike_34 : decode cX5_waitsForLike 34 = .ok (.ireturn, 1) := by decide +kernel
set_option maxRecDepth 20000 in
theorem ggX5_release_X5_strengthOf : GoodIn wsX5_release wsX5_strengthOf := goodIn_r _ [6] (by decide +kernel) (by decide +kernel)
set_option maxRecDepth 20000 in
theorem gX5_release_X5_strengthOf : GoodIn wsX5_release (va_wsS RX5 223 yX5_strengthOf wsX5_strengthOf) := goodIn_app (goodIn_of _ (by decide +kernel)) ggX5_release_X5_strengthOf
set_option maxRecDepth 20000 in
theorem ggX5_release_X2_add : GoodIn wsX5_release wsX2_add := goodIn_r _ [11, 12, 13, 25, 26, 27] (by decide +kernel) (by decide +kernel)
set_option maxRecDepth 20000 in
theorem gX5_release_X2_add : GoodIn wsX5_release (wsV RX5 217 RX2 yX2_add wsX2_add) := goodIn_app (goodIn_of _ (by decide +kernel)) ggX5_release_X2_add
theorem dX5_release_0 : decode cX5_release 0 = .ok (.aload_n 0, 1) := by decide +kernel
theorem dX5_release_1 : decode cX5_release 1 = .ok (.getfield 185, 3) := by decide +kernel
theorem dX5_release_4 : decode cX5_release 4 = .ok (.ifCond .le 46, 3) := by decide +kernel
theorem dX5_release_7 : decode cX5_release 7 = .ok (.aload_n 0, 1) := by decide +kernel
theorem dX5_release_8 : decode cX5_release 8 = .ok (.getfield 22, 3) := by decide +kernel
theorem dX5_release_11 : decode cX5_release 11 = .ok (.aload_n 0, 1) := by decide +kernel
theorem dX5_release_12 : decode cX5_release 12 = .ok (.getfield 185, 3) := by decide +kernel
theorem dX5_release_15 : decode cX5_release 15 = .ok (.iconst 1, 1) := by decide +kernel
theorem dX5_release_16 : decode cX5_release 16 = .ok (.isub, 1) := by decide +kernel
theorem dX5_release_17 : decode cX5_release 17 = .ok (.iaload, 1) := by decide +kernel
theorem dX5_release_18 : decode cX5_release 18 = .ok (.istore_n 3, 1) := by decide +kernel
theorem dX5_release_19 : decode cX5_release 19 = .ok (.iload_n 3, 1) := by decide +kernel
theorem dX5_release_20 : decode cX5_release 20 = .ok (.invokestatic 223, 3) := by decide +kernel
theorem dX5_release_23 : decode cX5_release 23 = .ok (.iload_n 2, 1) := by decide +kernel
theorem dX5_release_24 : decode cX5_release 24 = .ok (.if_icmp .ge 4, 3) := by decide +kernel
theorem dX5_release_27 : decode cX5_release 27 = .ok (.return_, 1) := by decide +kernel
theorem dX5_release_28 : decode cX5_release 28 = .ok (.aload_n 1, 1) := by decide +kernel
theorem dX5_release_29 : decode cX5_release 29 = .ok (.sipush 10000, 3) := by decide +kernel
theorem dX5_release_32 : decode cX5_release 32 = .ok (.iload_n 3, 1) := by decide +kernel
theorem dX5_release_33 : decode cX5_release 33 = .ok (.iadd, 1) := by decide +kernel
theorem dX5_release_34 : decode cX5_release 34 = .ok (.invokevirtual 217, 3) := by decide +kernel
theorem dX5_release_37 : decode cX5_release 37 = .ok (.aload_n 0, 1) := by decide +kernel
theorem dX5_release_38 : decode cX5_release 38 = .ok (.dup, 1) := by decide +kernel
theorem dX5_release_39 : decode cX5_release 39 = .ok (.getfield 185, 3) := by decide +kernel
theorem dX5_release_42 : decode cX5_release 42 = .ok (.iconst 1, 1) := by decide +kernel
theorem dX5_release_43 : decode cX5_release 43 = .ok (.isub, 1) := by decide +kernel
theorem dX5_release_44 : decode cX5_release 44 = .ok (.putfield 185, 3) := by decide +kernel
theorem dX5_release_47 : decode cX5_release 47 = .ok (.goto (-47), 3) := by decide +kernel
theorem dX5_release_50 : decode cX5_release 50 = .ok (.return_, 1) := by decide +kernel
set_option maxRecDepth 20000 in
theorem ggX5_letWait_X5_refuse : GoodIn wsX5_letWait wsX5_refuse := goodIn_r _ [7, 8, 9, 10, 11, 12, 13, 14, 15, 16, 17, 18, 19, 20, 21, 22, 23, 24, 25, 26, 27, 28, 29] (by decide +kernel) (by decide +kernel)
set_option maxRecDepth 20000 in
theorem gX5_letWait_X5_refuse : GoodIn wsX5_letWait (wsV RX5 89 RX5 yX5_refuse wsX5_refuse) := goodIn_app (goodIn_of _ (by decide +kernel)) ggX5_letWait_X5_refuse
theorem dX5_letWait_0 : decode cX5_letWait 0 = .ok (.aload_n 0, 1) := by decide +kernel
theorem dX5_letWait_1 : decode cX5_letWait 1 = .ok (.getfield 185, 3) := by decide +kernel
theorem dX5_letWait_4 : decode cX5_letWait 4 = .ok (.aload_n 0, 1) := by decide +kernel
theorem dX5_letWait_5 : decode cX5_letWait 5 = .ok (.getfield 22, 3) := by decide +kernel
theorem dX5_letWait_8 : decode cX5_letWait 8 = .ok (.arraylength, 1) := by decide +kernel
theorem dX5_letWait_9 : decode cX5_letWait 9 = .ok (.if_icmp .lt 9, 3) := by decide +kernel
theorem dX5_letWait_12 : decode cX5_letWait 12 = .ok (.aload_n 0, 1) := by decide +kernel
theorem dX5_letWait_13 : decode cX5_letWait 13 = .ok (.iconst 2, 1) := by decide +kernel
theorem dX5_letWait_14 : decode cX5_letWait 14 = .ok (.invokevirtual 89, 3) := by decide +kernel
theorem dX5_letWait_17 : decode cX5_letWait 17 = .ok (.ireturn, 1) := by decide +kernel
theorem dX5_letWait_18 : decode cX5_letWait 18 = .ok (.aload_n 0, 1) := by decide +kernel
theorem dX5_letWait_19 : decode cX5_letWait 19 = .ok (.getfield 22, 3) := by decide +kernel
theorem dX5_letWait_22 : decode cX5_letWait 22 = .ok (.aload_n 0, 1) := by decide +kernel
theorem dX5_letWait_23 : decode cX5_letWait 23 = .ok (.getfield 185, 3) := by decide +kernel
theorem dX5_letWait_26 : decode cX5_letWait 26 = .ok (.iload_n 1, 1) := by decide +kernel
theorem dX5_letWait_27 : decode cX5_letWait 27 = .ok (.iastore, 1) := by decide +kernel
theorem dX5_letWait_28 : decode cX5_letWait 28 = .ok (.aload_n 0, 1) := by decide +kernel
theorem dX5_letWait_29 : decode cX5_letWait 29 = .ok (.dup, 1) := by decide +kernel
theorem dX5_letWait_30 : decode cX5_letWait 30 = .ok (.getfield 185, 3) := by decide +kernel
theorem dX5_letWait_33 : decode cX5_letWait 33 = .ok (.iconst 1, 1) := by decide +kernel
theorem dX5_letWait_34 : decode cX5_letWait 34 = .ok (.iadd, 1) := by decide +kernel
theorem dX5_letWait_35 : decode cX5_letWait 35 = .ok (.putfield 185, 3) := by decide +kernel
theorem dX5_letWait_38 : decode cX5_letWait 38 = .ok (.iconst 1, 1) := by decide +kernel
theorem dX5_letWait_39 : decode cX5_letWait 39 = .ok (.ireturn, 1) := by decide +kernel
set_option maxRecDepth 20000 in
theorem ggX5_countKnot_X5_refuse : GoodIn wsX5_countKnot wsX5_refuse := goodIn_r _ [7, 8, 9, 10, 11, 12, 13, 14, 15, 16, 17, 18, 19, 20, 21, 22, 37, 38, 39, 40, 41, 42, 43] (by decide +kernel) (by decide +kernel)
set_option maxRecDepth 20000 in
theorem gX5_countKnot_X5_refuse : GoodIn wsX5_countKnot (wsV RX5 89 RX5 yX5_refuse wsX5_refuse) := goodIn_app (goodIn_of _ (by decide +kernel)) ggX5_countKnot_X5_refuse
theorem dX5_countKnot_0 : decode cX5_countKnot 0 = .ok (.aload_n 0, 1) := by decide +kernel
theorem dX5_countKnot_1 : decode cX5_countKnot 1 = .ok (.getfield 9, 3) := by decide +kernel
theorem dX5_countKnot_4 : decode cX5_countKnot 4 = .ok (.getfield 229, 3) := by decide +kernel
theorem dX5_countKnot_7 : decode cX5_countKnot 7 = .ok (.bipush 64, 2) := by decide +kernel
theorem dX5_countKnot_9 : decode cX5_countKnot 9 = .ok (.if_icmp .lt 9, 3) := by decide +kernel
theorem dX5_countKnot_12 : decode cX5_countKnot 12 = .ok (.aload_n 0, 1) := by decide +kernel
theorem dX5_countKnot_13 : decode cX5_countKnot 13 = .ok (.iconst 2, 1) := by decide +kernel
theorem dX5_countKnot_14 : decode cX5_countKnot 14 = .ok (.invokevirtual 89, 3) := by decide +kernel
theorem dX5_countKnot_17 : decode cX5_countKnot 17 = .ok (.ireturn, 1) := by decide +kernel
theorem dX5_countKnot_18 : decode cX5_countKnot 18 = .ok (.aload_n 0, 1) := by decide +kernel
theorem dX5_countKnot_19 : decode cX5_countKnot 19 = .ok (.getfield 9, 3) := by decide +kernel
theorem dX5_countKnot_22 : decode cX5_countKnot 22 = .ok (.dup, 1) := by decide +kernel
theorem dX5_countKnot_23 : decode cX5_countKnot 23 = .ok (.getfield 229, 3) := by decide +kernel
theorem dX5_countKnot_26 : decode cX5_countKnot 26 = .ok (.iconst 1, 1) := by decide +kernel
theorem dX5_countKnot_27 : decode cX5_countKnot 27 = .ok (.iadd, 1) := by decide +kernel
theorem dX5_countKnot_28 : decode cX5_countKnot 28 = .ok (.putfield 229, 3) := by decide +kernel
theorem dX5_countKnot_31 : decode cX5_countKnot 31 = .ok (.iconst 1, 1) := by decide +kernel
theorem dX5_countKnot_32 : decode cX5_countKnot 32 = .ok (.ireturn, 1) := by decide +kernel
theorem dX5_strengthOf_0 : decode cX5_strengthOf 0 = .ok (.iload_n 0, 1) := by decide +kernel
theorem dX5_strengthOf_1 : decode cX5_strengthOf 1 = .ok (.tableswitch 112 15 35 #[103, 101, 99, 112, 112, 112, 112, 112, 112, 112, 112, 105, 105, 105, 105, 105, 105, 107, 107, 109, 109], 99) := by decide +kernel
theorem dX5_strengthOf_100 : decode cX5_strengthOf 100 = .ok (.iconst 1, 1) := by decide +kernel
theorem dX5_strengthOf_101 : decode cX5_strengthOf 101 = .ok (.ireturn, 1) := by decide +kernel
theorem dX5_strengthOf_102 : decode cX5_strengthOf 102 = .ok (.iconst 2, 1) := by decide +kernel
theorem dX5_strengthOf_103 : decode cX5_strengthOf 103 = .ok (.ireturn, 1) := by decide +kernel
theorem dX5_strengthOf_104 : decode cX5_strengthOf 104 = .ok (.iconst 3, 1) := by decide +kernel
theorem dX5_strengthOf_105 : decode cX5_strengthOf 105 = .ok (.ireturn, 1) := by decide +kernel
theorem dX5_strengthOf_106 : decode cX5_strengthOf 106 = .ok (.iconst 4, 1) := by decide +kernel
theorem dX5_strengthOf_107 : decode cX5_strengthOf 107 = .ok (.ireturn, 1) := by decide +kernel
theorem dX5_strengthOf_108 : decode cX5_strengthOf 108 = .ok (.iconst 5, 1) := by decide +kernel
theorem dX5_strengthOf_109 : decode cX5_strengthOf 109 = .ok (.ireturn, 1) := by decide +kernel
theorem dX5_strengthOf_110 : decode cX5_strengthOf 110 = .ok (.bipush 6, 2) := by decide +kernel
theorem dX5_strengthOf_112 : decode cX5_strengthOf 112 = .ok (.ireturn, 1) := by decide +kernel
theorem dX5_strengthOf_113 : decode cX5_strengthOf 113 = .ok (.iconst 0, 1) := by decide +kernel
theorem dX5_strengthOf_114 : decode cX5_strengthOf 114 = .ok (.ireturn, 1) := by decide +kernel
theorem dX6_init_0 : decode cX6_init 0 = .ok (.aload_n 0, 1) := by decide +kernel
theorem dX6_init_1 : decode cX6_init 1 = .ok (.invokespecial 3, 3) := by decide +kernel
theorem dX6_init_4 : decode cX6_init 4 = .ok (.aload_n 0, 1) := by decide +kernel
theorem dX6_init_5 : decode cX6_init 5 = .ok (.aload_n 1, 1) := by decide +kernel
theorem dX6_init_6 : decode cX6_init 6 = .ok (.putfield 9, 3) := by decide +kernel
theorem dX6_init_9 : decode cX6_init 9 = .ok (.aload_n 0, 1) := by decide +kernel
theorem dX6_init_10 : decode cX6_init 10 = .ok (.iconst 5, 1) := by decide +kernel
theorem dX6_init_11 : decode cX6_init 11 = .ok (.newarray .int, 2) := by decide +kernel
theorem dX6_init_13 : decode cX6_init 13 = .ok (.putfield 15, 3) := by decide +kernel
theorem dX6_init_16 : decode cX6_init 16 = .ok (.aload_n 0, 1) := by decide +kernel
theorem dX6_init_17 : decode cX6_init 17 = .ok (.iconst 5, 1) := by decide +kernel
theorem dX6_init_18 : decode cX6_init 18 = .ok (.newarray .int, 2) := by decide +kernel
theorem dX6_init_20 : decode cX6_init 20 = .ok (.putfield 19, 3) := by decide +kernel
theorem dX6_init_23 : decode cX6_init 23 = .ok (.aload_n 0, 1) := by decide +kernel
theorem dX6_init_24 : decode cX6_init 24 = .ok (.bipush 28, 2) := by decide +kernel
theorem dX6_init_26 : decode cX6_init 26 = .ok (.newarray .int, 2) := by decide +kernel
theorem dX6_init_28 : decode cX6_init 28 = .ok (.putfield 22, 3) := by decide +kernel
theorem dX6_init_31 : decode cX6_init 31 = .ok (.aload_n 0, 1) := by decide +kernel
theorem dX6_init_32 : decode cX6_init 32 = .ok (.bipush 6, 2) := by decide +kernel
theorem dX6_init_34 : decode cX6_init 34 = .ok (.newarray .long, 2) := by decide +kernel
theorem dX6_init_36 : decode cX6_init 36 = .ok (.putfield 25, 3) := by decide +kernel
theorem dX6_init_39 : decode cX6_init 39 = .ok (.aload_n 0, 1) := by decide +kernel
theorem dX6_init_40 : decode cX6_init 40 = .ok (.bipush 64, 2) := by decide +kernel
theorem dX6_init_42 : decode cX6_init 42 = .ok (.newarray .long, 2) := by decide +kernel
theorem dX6_init_44 : decode cX6_init 44 = .ok (.putfield 29, 3) := by decide +kernel
theorem dX6_init_47 : decode cX6_init 47 = .ok (.aload_n 0, 1) := by decide +kernel
theorem dX6_init_48 : decode cX6_init 48 = .ok (.iconst 5, 1) := by decide +kernel
theorem dX6_init_49 : decode cX6_init 49 = .ok (.newarray .int, 2) := by decide +kernel
theorem dX6_init_51 : decode cX6_init 51 = .ok (.putfield 32, 3) := by decide +kernel
theorem dX6_init_54 : decode cX6_init 54 = .ok (.aload_n 0, 1) := by decide +kernel
theorem dX6_init_55 : decode cX6_init 55 = .ok (.iconst 5, 1) := by decide +kernel
theorem dX6_init_56 : decode cX6_init 56 = .ok (.newarray .int, 2) := by decide +kernel
theorem dX6_init_58 : decode cX6_init 58 = .ok (.putfield 35, 3) := by decide +kernel
theorem dX6_init_61 : decode cX6_init 61 = .ok (.aload_n 0, 1) := by decide +kernel
theorem dX6_init_62 : decode cX6_init 62 = .ok (.iconst 5, 1) := by decide +kernel
theorem dX6_init_63 : decode cX6_init 63 = .ok (.newarray .int, 2) := by decide +kernel
theorem dX6_init_65 : decode cX6_init 65 = .ok (.putfield 38, 3) := by decide +kernel
theorem dX6_init_68 : decode cX6_init 68 = .ok (.return_, 1) := by decide +kernel
set_option maxRecDepth 20000 in
theorem ggX6_takeAsTold_X6_peakXAt : GoodIn wsX6_takeAsTold wsX6_peakXAt := goodIn_r _ [19, 1, 20, 21, 22, 23, 24, 25, 26, 27, 28, 29, 30, 31, 32, 33, 34, 18, 35, 36, 37, 38, 39, 40, 41, 42, 43, 44, 45, 46, 47, 48, 49, 50, 51, 52, 53, 54, 55, 56, 57, 58, 59, 60, 61, 62, 63, 64, 65, 66, 67, 68, 69, 70, 71, 72, 73, 74, 75, 76, 77, 78, 79, 80, 96, 97, 98] (by decide +kernel) (by decide +kernel)
set_option maxRecDepth 20000 in
theorem gX6_takeAsTold_X6_peakXAt : GoodIn wsX6_takeAsTold (wsV RX6 70 RX6 yX6_peakXAt wsX6_peakXAt) := goodIn_app (goodIn_of _ (by decide +kernel)) ggX6_takeAsTold_X6_peakXAt
