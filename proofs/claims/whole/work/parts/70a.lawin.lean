theorem lw_inr (ws : List Cond) (ps : List Nat) (hp : ws = ps.filterMap (fun i => lw_tbl[i]?)) : ∀ w ∈ ws, w ∈ lw_tbl := fun w hw => by
  rw [hp] at hw
  obtain ⟨i, -, hi⟩ := List.mem_filterMap.mp hw
  exact List.mem_of_getElem? hi
set_option maxRecDepth 20000 in
theorem wsL_law0_r1_in : ∀ w ∈ wsL_law0_r1, w ∈ lw_tbl := lw_inr _ [92, 93, 66, 1442, 1443, 75, 1955, 1956, 94, 95, 96, 97, 98, 99, 100, 101, 67, 332, 226, 227, 70, 333, 236, 237] (by decide +kernel)
set_option maxRecDepth 20000 in
theorem wsL_law0_r2_in : ∀ w ∈ wsL_law0_r2, w ∈ lw_tbl := lw_inr _ [71, 334, 335, 336, 337, 253, 254, 72, 338, 330, 260, 73, 274, 339, 340, 341, 102, 103, 104, 105, 106, 197, 108, 68] (by decide +kernel)
set_option maxRecDepth 20000 in
theorem wsL_law0_r3_in : ∀ w ∈ wsL_law0_r3, w ∈ lw_tbl := lw_inr _ [132, 200, 134, 69, 110, 111, 112, 136, 137, 138, 228, 229, 230, 231, 232, 238, 239, 240, 241, 242, 245, 244, 255, 256] (by decide +kernel)
set_option maxRecDepth 20000 in
theorem wsL_law0_r4_in : ∀ w ∈ wsL_law0_r4, w ∈ lw_tbl := lw_inr _ [257, 258, 259, 311, 275, 313, 277, 74, 261, 262, 263, 264, 265, 279, 280, 281, 331, 1444, 1445, 1446, 1447, 1503, 1449, 1457] (by decide +kernel)
set_option maxRecDepth 20000 in
theorem wsL_law0_r5_in : ∀ w ∈ wsL_law0_r5, w ∈ lw_tbl := lw_inr _ [1459, 1463, 1464, 500, 501, 65, 502, 503, 504, 505, 506, 507, 508, 512, 79, 509, 510, 511, 584, 585, 586, 587, 589, 590] (by decide +kernel)
set_option maxRecDepth 20000 in
theorem wsL_law0_r6_in : ∀ w ∈ wsL_law0_r6, w ∈ lw_tbl := lw_inr _ [80, 588, 372, 373, 374, 114, 591, 592, 593, 594, 595, 597, 599, 608, 610, 6, 611, 612, 81, 628, 629, 630, 631, 246] (by decide +kernel)
set_option maxRecDepth 20000 in
theorem wsL_law0_r7_in : ∀ w ∈ wsL_law0_r7, w ∈ lw_tbl := lw_inr _ [633, 634, 82, 635, 632, 489, 490, 491, 203, 205, 206, 207, 209, 492, 493, 494, 495, 113, 117, 121, 496, 497, 498, 499] (by decide +kernel)
set_option maxRecDepth 20000 in
theorem wsL_law0_r8_in : ∀ w ∈ wsL_law0_r8, w ∈ lw_tbl := lw_inr _ [139, 143, 146, 150, 154, 158, 162, 166, 170, 173, 636, 637, 638, 639, 118, 123, 1528, 1529, 1530, 1531, 1532, 1534, 19, 1535] (by decide +kernel)
set_option maxRecDepth 20000 in
theorem wsL_law0_r9_in : ∀ w ∈ wsL_law0_r9, w ∈ lw_tbl := lw_inr _ [1536, 1538, 20, 1539, 1540, 1542, 21, 1543, 1452, 1544, 1545, 1546, 1547, 1549, 22, 1550, 1453, 1454, 1455, 1551, 1553, 23, 1554, 1448] (by decide +kernel)
set_option maxRecDepth 20000 in
theorem wsL_law0_r10_in : ∀ w ∈ wsL_law0_r10, w ∈ lw_tbl := lw_inr _ [1450, 1504, 1505, 1506, 1507, 640, 641, 642, 643, 667, 668, 669, 670, 671, 673, 7, 674, 676, 83, 675, 441, 442, 443, 689] (by decide +kernel)
set_option maxRecDepth 20000 in
theorem wsL_law0_r11_in : ∀ w ∈ wsL_law0_r11, w ∈ lw_tbl := lw_inr _ [690, 691, 692, 140, 419, 412, 413, 414, 1555, 1556, 1557, 1558, 1559, 1561, 24, 1562, 1563, 1565, 25, 1566, 1567, 1569, 26, 1570] (by decide +kernel)
set_option maxRecDepth 20000 in
theorem wsL_law0_r12_in : ∀ w ∈ wsL_law0_r12, w ∈ lw_tbl := lw_inr _ [1571, 1573, 27, 1574, 1575, 1577, 28, 1578, 1579, 1581, 29, 1582, 693, 694, 695, 696, 697, 698, 699, 700, 701, 702, 703, 704] (by decide +kernel)
set_option maxRecDepth 20000 in
theorem wsL_law0_r13_in : ∀ w ∈ wsL_law0_r13, w ∈ lw_tbl := lw_inr _ [705, 706, 707, 708, 710, 711, 712, 713, 714, 715, 717, 718, 719, 720, 144, 721, 380, 381, 382, 383, 384, 385, 386, 156] (by decide +kernel)
set_option maxRecDepth 20000 in
theorem wsL_law0_r14_in : ∀ w ∈ wsL_law0_r14, w ∈ lw_tbl := lw_inr _ [722, 723, 724, 725, 151, 726, 728, 8, 729, 730, 473, 474, 475, 731, 477, 478, 479, 160, 732, 733, 734, 735, 149, 165] (by decide +kernel)
set_option maxRecDepth 20000 in
theorem wsL_law0_r15_in : ∀ w ∈ wsL_law0_r15, w ∈ lw_tbl := lw_inr _ [169, 171, 174, 464, 465, 466, 467, 1583, 1584, 1585, 1586, 1587, 1589, 30, 1590, 1591, 1592, 1593, 1594, 1596, 31, 1597, 1598, 1600] (by decide +kernel)
set_option maxRecDepth 20000 in
theorem wsL_law0_r16_in : ∀ w ∈ wsL_law0_r16, w ∈ lw_tbl := lw_inr _ [32, 1601, 1602, 1604, 33, 1605, 1606, 1608, 34, 1609, 736, 737, 738, 739, 740, 741, 742, 148, 743, 745, 9, 746, 747, 748] (by decide +kernel)
set_option maxRecDepth 20000 in
theorem wsL_law0_r17_in : ∀ w ∈ wsL_law0_r17, w ∈ lw_tbl := lw_inr _ [749, 750, 752, 753, 754, 755, 1610, 1611, 1612, 1613, 1614, 1616, 35, 1617, 1618, 1620, 36, 1621, 756, 757, 758, 759, 760, 761] (by decide +kernel)
set_option maxRecDepth 20000 in
theorem wsL_law0_r18_in : ∀ w ∈ wsL_law0_r18, w ∈ lw_tbl := lw_inr _ [762, 763, 764, 765, 766, 767, 421, 422, 423, 424, 425, 426, 768, 769, 770, 771, 1622, 1623, 1624, 1625, 1626, 1628, 37, 1629] (by decide +kernel)
set_option maxRecDepth 20000 in
theorem wsL_law0_r19_in : ∀ w ∈ wsL_law0_r19, w ∈ lw_tbl := lw_inr _ [1630, 1632, 38, 1633, 1634, 1635, 1636, 772, 773, 774, 775, 776, 777, 778, 779, 780, 781, 782, 1637, 1638, 1639, 1640, 1641, 1643] (by decide +kernel)
set_option maxRecDepth 20000 in
theorem wsL_law0_r20_in : ∀ w ∈ wsL_law0_r20, w ∈ lw_tbl := lw_inr _ [39, 1644, 783, 784, 785, 786, 787, 788, 789, 790, 791, 792, 793, 794, 795, 796, 797, 1645, 1646, 1647, 1648, 1649, 1651, 40] (by decide +kernel)
set_option maxRecDepth 20000 in
theorem wsL_law0_r21_in : ∀ w ∈ wsL_law0_r21, w ∈ lw_tbl := lw_inr _ [1652, 798, 799, 800, 801, 802, 803, 804, 805, 806, 807, 808, 809, 810, 811, 812, 1653, 1654, 1655, 1656, 1657, 1659, 41, 1660] (by decide +kernel)
set_option maxRecDepth 20000 in
theorem wsL_law0_r22_in : ∀ w ∈ wsL_law0_r22, w ∈ lw_tbl := lw_inr _ [813, 814, 815, 816, 817, 818, 819, 820, 821, 822, 823, 824, 825, 827, 828, 829, 830, 831, 832, 833, 834, 1661, 1662, 1663] (by decide +kernel)
set_option maxRecDepth 20000 in
theorem wsL_law0_r23_in : ∀ w ∈ wsL_law0_r23, w ∈ lw_tbl := lw_inr _ [1664, 1665, 1667, 42, 1668, 1669, 1671, 43, 1672, 835, 836, 837, 838, 839, 840, 841, 1673, 1674, 1675, 1676, 1677, 1679, 44, 1680] (by decide +kernel)
set_option maxRecDepth 20000 in
theorem wsL_law0_r24_in : ∀ w ∈ wsL_law0_r24, w ∈ lw_tbl := lw_inr _ [1512, 1514, 18, 1515, 842, 843, 844, 845, 846, 847, 848, 152, 1681, 1682, 1683, 1684, 849, 850, 851, 852, 853, 854, 855, 157] (by decide +kernel)
set_option maxRecDepth 20000 in
theorem wsL_law0_r25_in : ∀ w ∈ wsL_law0_r25, w ∈ lw_tbl := lw_inr _ [1685, 1686, 1687, 1688, 856, 857, 858, 859, 860, 861, 862, 161, 1689, 1690, 1691, 1692, 863, 864, 865, 866, 867, 868, 869, 164] (by decide +kernel)
set_option maxRecDepth 20000 in
theorem wsL_law0_r26_in : ∀ w ∈ wsL_law0_r26, w ∈ lw_tbl := lw_inr _ [1693, 1694, 1695, 1696, 870, 871, 872, 873, 874, 875, 876, 168, 1697, 1698, 1699, 1700, 877, 878, 879, 880, 881, 882, 883, 172] (by decide +kernel)
set_option maxRecDepth 20000 in
theorem wsL_law0_r27_in : ∀ w ∈ wsL_law0_r27, w ∈ lw_tbl := lw_inr _ [1701, 1702, 1703, 1704, 884, 885, 886, 887, 888, 889, 890, 1705, 1706, 1707, 1708, 891, 892, 893, 894, 895, 896, 897, 175, 1709] (by decide +kernel)
set_option maxRecDepth 20000 in
theorem wsL_law0_r28_in : ∀ w ∈ wsL_law0_r28, w ∈ lw_tbl := lw_inr _ [1710, 1711, 1712, 898, 899, 900, 901, 902, 903, 904, 905, 145, 906, 416, 417, 418, 907, 908, 909, 910, 86, 1713, 1714, 1715] (by decide +kernel)
set_option maxRecDepth 20000 in
theorem wsL_law0_r29_in : ∀ w ∈ wsL_law0_r29, w ∈ lw_tbl := lw_inr _ [1716, 1717, 1719, 45, 1720, 1721, 1723, 46, 1724, 926, 927, 928, 929, 930, 931, 932, 933, 934, 935, 936, 1725, 1726, 1727, 1728] (by decide +kernel)
set_option maxRecDepth 20000 in
theorem wsL_law0_r30_in : ∀ w ∈ wsL_law0_r30, w ∈ lw_tbl := lw_inr _ [937, 938, 939, 940, 941, 942, 943, 944, 1729, 1730, 1731, 1732, 1733, 1735, 47, 1736, 945, 946, 947, 948, 949, 950, 951, 952] (by decide +kernel)
set_option maxRecDepth 20000 in
theorem wsL_law0_r31_in : ∀ w ∈ wsL_law0_r31, w ∈ lw_tbl := lw_inr _ [953, 954, 955, 415, 436, 438, 1, 439, 147, 155, 159, 122, 440, 420, 1737, 1738, 1739, 1740, 1741, 1743, 48, 1744, 1745, 1747] (by decide +kernel)
set_option maxRecDepth 20000 in
theorem wsL_law0_r32_in : ∀ w ∈ wsL_law0_r32, w ∈ lw_tbl := lw_inr _ [49, 1748, 956, 957, 958, 959, 960, 961, 962, 963, 964, 965, 966, 444, 446, 2, 447, 163, 1749, 1750, 1751, 1752, 967, 968] (by decide +kernel)
set_option maxRecDepth 20000 in
theorem wsL_law0_r33_in : ∀ w ∈ wsL_law0_r33, w ∈ lw_tbl := lw_inr _ [969, 970, 971, 972, 973, 974, 975, 976, 977, 448, 450, 3, 451, 167, 431, 1753, 1754, 1755, 1756, 978, 979, 980, 981, 982] (by decide +kernel)
set_option maxRecDepth 20000 in
theorem wsL_law0_r34_in : ∀ w ∈ wsL_law0_r34, w ∈ lw_tbl := lw_inr _ [983, 984, 124, 1757, 1758, 1759, 1760, 985, 986, 987, 988, 989, 990, 991, 992, 461, 462, 463, 1761, 1762, 1763, 1764, 993, 994] (by decide +kernel)
set_option maxRecDepth 20000 in
theorem wsL_law0_r35_in : ∀ w ∈ wsL_law0_r35, w ∈ lw_tbl := lw_inr _ [995, 996, 997, 998, 999, 1000, 469, 470, 471, 1765, 1766, 1767, 1768, 1769, 1771, 50, 1772, 1001, 1002, 1003, 1004, 1005, 1006, 1007] (by decide +kernel)
set_option maxRecDepth 20000 in
theorem wsL_law0_r36_in : ∀ w ∈ wsL_law0_r36, w ∈ lw_tbl := lw_inr _ [1008, 408, 409, 410, 201, 119, 411, 1773, 1774, 1775, 1776, 1777, 1779, 51, 1780, 1009, 1010, 1011, 1012, 1013, 1014, 1015, 1016, 428] (by decide +kernel)
set_option maxRecDepth 20000 in
theorem wsL_law0_r37_in : ∀ w ∈ wsL_law0_r37, w ∈ lw_tbl := lw_inr _ [429, 430, 1781, 1782, 1783, 1784, 1785, 1017, 1018, 1019, 1020, 1021, 1022, 1023, 120, 1024, 433, 434, 435, 1786, 1787, 1788, 1789, 1790] (by decide +kernel)
set_option maxRecDepth 20000 in
theorem wsL_law0_r38_in : ∀ w ∈ wsL_law0_r38, w ∈ lw_tbl := lw_inr _ [1792, 52, 1793, 1794, 1796, 53, 1797, 1025, 1026, 1027, 1028, 1029, 1030, 1031, 1032, 453, 454, 455, 1798, 1799, 1800, 1801, 1802, 1033] (by decide +kernel)
set_option maxRecDepth 20000 in
theorem wsL_law0_r39_in : ∀ w ∈ wsL_law0_r39, w ∈ lw_tbl := lw_inr _ [1034, 1035, 1036, 1037, 1038, 1039, 1803, 1804, 1805, 1806, 1040, 1041, 1042, 1043, 1057, 1058, 1059, 1060, 1061, 87, 1807, 1808, 1809, 1810] (by decide +kernel)
set_option maxRecDepth 20000 in
theorem wsL_law0_r40_in : ∀ w ∈ wsL_law0_r40, w ∈ lw_tbl := lw_inr _ [1064, 1065, 1066, 1067, 1068, 1069, 1070, 1071, 1072, 1073, 1074, 432, 1811, 1812, 1813, 1814, 1815, 1817, 54, 1818, 1075, 1076, 1077, 1078] (by decide +kernel)
set_option maxRecDepth 20000 in
theorem wsL_law0_r41_in : ∀ w ∈ wsL_law0_r41, w ∈ lw_tbl := lw_inr _ [1079, 1080, 1081, 1819, 1820, 1821, 1822, 1823, 1825, 55, 1826, 1082, 1083, 1084, 1085, 1086, 1087, 1088, 1089, 1090, 1091, 1092, 1094, 1095] (by decide +kernel)
set_option maxRecDepth 20000 in
theorem wsL_law0_r42_in : ∀ w ∈ wsL_law0_r42, w ∈ lw_tbl := lw_inr _ [1827, 1828, 1829, 1830, 1096, 1097, 1098, 1099, 1100, 1101, 1102, 199, 116, 1103, 1104, 1105, 1106, 198, 115, 460, 1831, 1832, 1833, 1834] (by decide +kernel)
set_option maxRecDepth 20000 in
theorem wsL_law0_r43_in : ∀ w ∈ wsL_law0_r43, w ∈ lw_tbl := lw_inr _ [1108, 1109, 1110, 1111, 1112, 1113, 1114, 202, 142, 1115, 1116, 1117, 1118, 1835, 1836, 1837, 1838, 1119, 1120, 1121, 1122, 1123, 1124, 1125] (by decide +kernel)
set_option maxRecDepth 20000 in
theorem wsL_law0_r44_in : ∀ w ∈ wsL_law0_r44, w ∈ lw_tbl := lw_inr _ [1126, 1839, 1840, 1841, 1842, 1127, 1128, 1129, 1130, 1131, 1132, 1133, 1134, 1135, 1136, 1138, 1843, 1844, 1845, 1846, 363, 364, 365, 366] (by decide +kernel)
set_option maxRecDepth 20000 in
theorem wsL_law0_r45_in : ∀ w ∈ wsL_law0_r45, w ∈ lw_tbl := lw_inr _ [204, 1847, 1848, 1849, 1850, 1139, 1140, 1141, 1142, 1143, 1144, 1145, 1851, 1852, 1853, 1854, 367, 368, 369, 370, 371, 1855, 1856, 1857] (by decide +kernel)
set_option maxRecDepth 20000 in
theorem wsL_law0_r46_in : ∀ w ∈ wsL_law0_r46, w ∈ lw_tbl := lw_inr _ [1858, 375, 376, 377, 378, 379, 1859, 1860, 1861, 1862, 387, 388, 389, 390, 208, 1863, 1864, 1865, 1866, 391, 392, 393, 394, 210] (by decide +kernel)
set_option maxRecDepth 20000 in
theorem wsL_law0_r47_in : ∀ w ∈ wsL_law0_r47, w ∈ lw_tbl := lw_inr _ [1867, 1868, 1869, 1870, 1146, 1147, 1148, 1149, 1150, 1151, 1152, 1154, 1155, 1156, 1157, 1871, 1872, 1873, 1874, 395, 396, 397, 398, 399] (by decide +kernel)
set_option maxRecDepth 20000 in
theorem wsL_law0_r48_in : ∀ w ∈ wsL_law0_r48, w ∈ lw_tbl := lw_inr _ [400, 401, 402, 141, 403, 405, 0, 406, 407, 427, 452, 456, 458, 4, 459, 153, 468, 472, 476, 1875, 1876, 1877, 1878, 1158] (by decide +kernel)
set_option maxRecDepth 20000 in
theorem wsL_law0_r49_in : ∀ w ∈ wsL_law0_r49, w ∈ lw_tbl := lw_inr _ [1159, 1160, 1161, 1162, 1163, 1164, 268, 1165, 1166, 1167, 1168, 266, 1169, 1171, 10, 1172, 1173, 1174, 1175, 1176, 1177, 1178, 1179, 1180] (by decide +kernel)
set_option maxRecDepth 20000 in
theorem wsL_law0_r50_in : ∀ w ∈ wsL_law0_r50, w ∈ lw_tbl := lw_inr _ [1181, 1182, 1183, 1879, 1880, 1881, 1882, 1458, 1883, 1885, 56, 1886, 1184, 1185, 1186, 1187, 1188, 1189, 1190, 1191, 1193, 11, 1194, 1195] (by decide +kernel)
set_option maxRecDepth 20000 in
theorem wsL_law0_r51_in : ∀ w ∈ wsL_law0_r51, w ∈ lw_tbl := lw_inr _ [1887, 1888, 1889, 1890, 1196, 1197, 1198, 1199, 1200, 1201, 1202, 1203, 1204, 1205, 1206, 1208, 1209, 1210, 1211, 1212, 1891, 1892, 1893, 1894] (by decide +kernel)
set_option maxRecDepth 20000 in
theorem wsL_law0_r52_in : ∀ w ∈ wsL_law0_r52, w ∈ lw_tbl := lw_inr _ [1213, 1214, 1215, 1216, 1217, 1218, 1219, 1220, 1226, 88, 312, 1222, 1223, 1224, 1225, 1895, 1896, 1897, 1898, 1460, 1242, 1243, 1244, 1245] (by decide +kernel)
set_option maxRecDepth 20000 in
theorem wsL_law0_r53_in : ∀ w ∈ wsL_law0_r53, w ∈ lw_tbl := lw_inr _ [1246, 1247, 1248, 316, 314, 1249, 1250, 1251, 1252, 317, 315, 318, 267, 1253, 1255, 12, 1256, 283, 1257, 1258, 1259, 1260, 1266, 1267] (by decide +kernel)
set_option maxRecDepth 20000 in
theorem wsL_law0_r54_in : ∀ w ∈ wsL_law0_r54, w ∈ lw_tbl := lw_inr _ [1268, 85, 1269, 1979, 1270, 1271, 1272, 1273, 1274, 1275, 1276, 1277, 1278, 1980, 1280, 1281, 1282, 1283, 1284, 1285, 1286, 1287, 1288, 1289] (by decide +kernel)
set_option maxRecDepth 20000 in
theorem wsL_law0_r55_in : ∀ w ∈ wsL_law0_r55, w ∈ lw_tbl := lw_inr _ [89, 1290, 1291, 1292, 1293, 1294, 1296, 1297, 90, 1298, 1299, 1300, 91, 1301, 1302, 1303, 1304, 1305, 1306, 1307, 1308, 1309, 1310, 1311] (by decide +kernel)
set_option maxRecDepth 20000 in
theorem wsL_law0_r56_in : ∀ w ∈ wsL_law0_r56, w ∈ lw_tbl := lw_inr _ [1312, 1314, 1316, 1318, 1320, 13, 1321, 285, 287, 289, 291, 293, 295, 1322, 1324, 14, 1325, 1326, 1328, 15, 1329, 488, 1331, 1333] (by decide +kernel)
set_option maxRecDepth 20000 in
theorem wsL_law0_r57_in : ∀ w ∈ wsL_law0_r57, w ∈ lw_tbl := lw_inr _ [16, 1334, 1357, 1335, 1336, 1337, 1338, 282, 294, 284, 288, 290, 286, 1340, 1344, 1347, 1348, 1349, 1350, 1351, 1352, 1353, 1354, 1355] (by decide +kernel)
set_option maxRecDepth 20000 in
theorem wsL_law0_r58_in : ∀ w ∈ wsL_law0_r58, w ∈ lw_tbl := lw_inr _ [1356, 1358, 1359, 1360, 1361, 1362, 292, 1363, 1364, 1365, 1366, 1368, 17, 1369, 1370, 1371, 1372, 1373, 1374, 1899, 1900, 1901, 1902, 1462] (by decide +kernel)
set_option maxRecDepth 20000 in
theorem wsL_law0_r59_in : ∀ w ∈ wsL_law0_r59, w ∈ lw_tbl := lw_inr _ [1465, 1456, 1903, 1905, 57, 1906, 1461, 1907, 1909, 58, 1910, 1911, 1913, 59, 1914, 1915, 1917, 60, 1918, 1919, 1921, 61, 1922, 1923] (by decide +kernel)
set_option maxRecDepth 20000 in
theorem wsL_law0_r60_in : ∀ w ∈ wsL_law0_r60, w ∈ lw_tbl := lw_inr _ [1925, 62, 1926, 1927, 1929, 63, 1930, 1931, 1933, 64, 1934, 1375, 1376, 1377, 1378, 1379, 1380, 1381, 1935, 1936, 1937, 1938, 1383, 1384] (by decide +kernel)
set_option maxRecDepth 20000 in
theorem wsL_law0_r61_in : ∀ w ∈ wsL_law0_r61, w ∈ lw_tbl := lw_inr _ [1385, 1386, 1387, 1388, 1389, 596, 1390, 1391, 1392, 1508, 1509, 1510, 1511, 1394, 1395, 1396, 1397, 1398, 1399, 1400, 598, 1516, 1517, 1518] (by decide +kernel)
set_option maxRecDepth 20000 in
theorem wsL_law0_r62_in : ∀ w ∈ wsL_law0_r62, w ∈ lw_tbl := lw_inr _ [1519, 1401, 1402, 1403, 1404, 1405, 1406, 1407, 600, 1520, 1521, 1522, 1523, 1408, 1409, 1410, 1411, 1412, 1413, 1414, 1524, 1525, 1526, 1527] (by decide +kernel)
set_option maxRecDepth 20000 in
theorem wsL_law0_r63_in : ∀ w ∈ wsL_law0_r63, w ∈ lw_tbl := lw_inr _ [1415, 1416, 1417, 1418, 1419, 1420, 1421, 247, 1423, 1424, 1425, 1426, 1427, 1428, 1429, 1939, 1940, 1941, 1942, 480, 481, 482, 483, 1943] (by decide +kernel)
set_option maxRecDepth 20000 in
theorem wsL_law0_r64_in : ∀ w ∈ wsL_law0_r64, w ∈ lw_tbl := lw_inr _ [1944, 1945, 1946, 484, 485, 486, 487, 1947, 1948, 1949, 1950, 1451, 1430, 1431, 1432, 1433, 1434, 1435, 1436, 1438, 1439, 1440, 1441, 1951] (by decide +kernel)
set_option maxRecDepth 20000 in
theorem wsL_law0_r65_in : ∀ w ∈ wsL_law0_r65, w ∈ lw_tbl := lw_inr _ [1952, 1953, 1954] (by decide +kernel)
