section
/-! every block of every method, counted through: the links first, each once -/
def cnm (c : Nat) : String := ["DreamNets", "DreamNetsModel", "DreamNets$World", "DreamNets$Tape", "DreamNets$Acting", "DreamNets$Sheet", "DreamNets$Boat", "DreamNets$Seiner", "DreamNets$Drifter", "DreamNets$Tug", "DreamNets$Dredger", "DreamNets$Poacher", "DreamNets$Search", "DreamNetsLaw", "java/lang/Integer"].getD c ""
def pcn (m : Nat) : Nat := (bif Nat.blt m 1136 then (bif Nat.blt m 568 then (bif Nat.blt m 282 then (bif Nat.blt m 137 then (bif Nat.blt m 66 then (bif Nat.blt m 32 then (bif Nat.blt m 18 then (bif Nat.blt m 8 then 0 else 0) else (bif Nat.blt m 27 then 0 else 0)) else (bif Nat.blt m 51 then (bif Nat.blt m 42 then 0 else 0) else (bif Nat.blt m 57 then 0 else 0))) else (bif Nat.blt m 98 then (bif Nat.blt m 82 then (bif Nat.blt m 73 then 0 else 0) else (bif Nat.blt m 89 then 0 else 0)) else (bif Nat.blt m 113 then (bif Nat.blt m 106 then 0 else 0) else (bif Nat.blt m 123 then 0 else (bif Nat.blt m 132 then 0 else 0))))) else (bif Nat.blt m 209 then (bif Nat.blt m 170 then (bif Nat.blt m 153 then (bif Nat.blt m 146 then 0 else 0) else (bif Nat.blt m 163 then 0 else 0)) else (bif Nat.blt m 185 then (bif Nat.blt m 178 then 0 else 0) else (bif Nat.blt m 194 then 0 else (bif Nat.blt m 201 then 0 else 0)))) else (bif Nat.blt m 241 then (bif Nat.blt m 225 then (bif Nat.blt m 218 then 0 else 0) else (bif Nat.blt m 233 then 0 else 0)) else (bif Nat.blt m 256 then (bif Nat.blt m 249 then 0 else 0) else (bif Nat.blt m 266 then 0 else (bif Nat.blt m 273 then 0 else 0)))))) else (bif Nat.blt m 426 then (bif Nat.blt m 354 then (bif Nat.blt m 314 then (bif Nat.blt m 298 then (bif Nat.blt m 288 then 0 else 0) else (bif Nat.blt m 306 then 0 else 0)) else (bif Nat.blt m 331 then (bif Nat.blt m 323 then 0 else 0) else (bif Nat.blt m 339 then 0 else (bif Nat.blt m 344 then 0 else 0)))) else (bif Nat.blt m 384 then (bif Nat.blt m 369 then (bif Nat.blt m 361 then 0 else 0) else (bif Nat.blt m 376 then 0 else 0)) else (bif Nat.blt m 400 then (bif Nat.blt m 394 then 0 else 0) else (bif Nat.blt m 411 then 0 else (bif Nat.blt m 418 then 0 else 0))))) else (bif Nat.blt m 499 then (bif Nat.blt m 458 then (bif Nat.blt m 443 then (bif Nat.blt m 435 then 0 else 0) else (bif Nat.blt m 450 then 0 else 0)) else (bif Nat.blt m 475 then (bif Nat.blt m 466 then 0 else 0) else (bif Nat.blt m 481 then 0 else (bif Nat.blt m 492 then 0 else 0)))) else (bif Nat.blt m 529 then (bif Nat.blt m 515 then (bif Nat.blt m 507 then 0 else 0) else (bif Nat.blt m 523 then 0 else 0)) else (bif Nat.blt m 547 then (bif Nat.blt m 538 then 0 else 0) else (bif Nat.blt m 553 then 0 else (bif Nat.blt m 561 then 0 else 0))))))) else (bif Nat.blt m 849 then (bif Nat.blt m 704 then (bif Nat.blt m 633 then (bif Nat.blt m 602 then (bif Nat.blt m 584 then (bif Nat.blt m 576 then 0 else 0) else (bif Nat.blt m 593 then 1 else 1)) else (bif Nat.blt m 616 then (bif Nat.blt m 611 then 1 else 1) else (bif Nat.blt m 624 then 1 else 1))) else (bif Nat.blt m 664 then (bif Nat.blt m 649 then (bif Nat.blt m 641 then 1 else 1) else (bif Nat.blt m 656 then 1 else 1)) else (bif Nat.blt m 681 then (bif Nat.blt m 673 then 1 else 1) else (bif Nat.blt m 690 then 1 else (bif Nat.blt m 697 then 1 else 1))))) else (bif Nat.blt m 778 then (bif Nat.blt m 736 then (bif Nat.blt m 720 then (bif Nat.blt m 713 then 1 else 1) else (bif Nat.blt m 728 then 1 else 1)) else (bif Nat.blt m 752 then (bif Nat.blt m 744 then 1 else 1) else (bif Nat.blt m 762 then 1 else (bif Nat.blt m 770 then 1 else 1)))) else (bif Nat.blt m 810 then (bif Nat.blt m 794 then (bif Nat.blt m 785 then 1 else 1) else (bif Nat.blt m 801 then 1 else 1)) else (bif Nat.blt m 826 then (bif Nat.blt m 817 then 1 else 1) else (bif Nat.blt m 834 then 1 else (bif Nat.blt m 842 then 1 else 1)))))) else (bif Nat.blt m 993 then (bif Nat.blt m 921 then (bif Nat.blt m 882 then (bif Nat.blt m 867 then (bif Nat.blt m 857 then 1 else 1) else (bif Nat.blt m 876 then 1 else 1)) else (bif Nat.blt m 898 then (bif Nat.blt m 891 then 1 else 1) else (bif Nat.blt m 905 then 1 else (bif Nat.blt m 914 then 1 else 1)))) else (bif Nat.blt m 953 then (bif Nat.blt m 938 then (bif Nat.blt m 931 then 1 else 1) else (bif Nat.blt m 946 then 1 else 1)) else (bif Nat.blt m 970 then (bif Nat.blt m 962 then 1 else 1) else (bif Nat.blt m 977 then 1 else (bif Nat.blt m 985 then 1 else 1))))) else (bif Nat.blt m 1065 then (bif Nat.blt m 1027 then (bif Nat.blt m 1009 then (bif Nat.blt m 1001 then 1 else 1) else (bif Nat.blt m 1019 then 1 else 1)) else (bif Nat.blt m 1041 then (bif Nat.blt m 1034 then 1 else 1) else (bif Nat.blt m 1049 then 1 else (bif Nat.blt m 1056 then 1 else 1)))) else (bif Nat.blt m 1096 then (bif Nat.blt m 1080 then (bif Nat.blt m 1073 then 1 else 1) else (bif Nat.blt m 1089 then 1 else 1)) else (bif Nat.blt m 1114 then (bif Nat.blt m 1104 then 1 else 1) else (bif Nat.blt m 1121 then 1 else (bif Nat.blt m 1129 then 1 else 1)))))))) else (bif Nat.blt m 1704 then (bif Nat.blt m 1418 then (bif Nat.blt m 1275 then (bif Nat.blt m 1200 then (bif Nat.blt m 1169 then (bif Nat.blt m 1154 then (bif Nat.blt m 1144 then 1 else 1) else (bif Nat.blt m 1162 then 1 else 1)) else (bif Nat.blt m 1187 then (bif Nat.blt m 1178 then 1 else 1) else (bif Nat.blt m 1195 then 1 else 1))) else (bif Nat.blt m 1233 then (bif Nat.blt m 1217 then (bif Nat.blt m 1210 then 1 else 1) else (bif Nat.blt m 1226 then 1 else 1)) else (bif Nat.blt m 1251 then (bif Nat.blt m 1240 then 1 else 1) else (bif Nat.blt m 1258 then 1 else (bif Nat.blt m 1266 then 1 else 1))))) else (bif Nat.blt m 1348 then (bif Nat.blt m 1306 then (bif Nat.blt m 1290 then (bif Nat.blt m 1283 then 1 else 1) else (bif Nat.blt m 1298 then 1 else 1)) else (bif Nat.blt m 1322 then (bif Nat.blt m 1314 then 1 else 1) else (bif Nat.blt m 1331 then 1 else (bif Nat.blt m 1337 then 1 else 1)))) else (bif Nat.blt m 1379 then (bif Nat.blt m 1363 then (bif Nat.blt m 1354 then 1 else 1) else (bif Nat.blt m 1371 then 1 else 1)) else (bif Nat.blt m 1394 then (bif Nat.blt m 1387 then 1 else 1) else (bif Nat.blt m 1402 then 1 else (bif Nat.blt m 1409 then 1 else 1)))))) else (bif Nat.blt m 1560 then (bif Nat.blt m 1489 then (bif Nat.blt m 1449 then (bif Nat.blt m 1433 then (bif Nat.blt m 1427 then 1 else 1) else (bif Nat.blt m 1441 then 1 else 1)) else (bif Nat.blt m 1465 then (bif Nat.blt m 1457 then 1 else 1) else (bif Nat.blt m 1473 then 1 else (bif Nat.blt m 1481 then 1 else 1)))) else (bif Nat.blt m 1521 then (bif Nat.blt m 1505 then (bif Nat.blt m 1497 then 1 else 1) else (bif Nat.blt m 1513 then 1 else 1)) else (bif Nat.blt m 1536 then (bif Nat.blt m 1528 then 1 else 1) else (bif Nat.blt m 1544 then 1 else (bif Nat.blt m 1552 then 1 else 1))))) else (bif Nat.blt m 1633 then (bif Nat.blt m 1593 then (bif Nat.blt m 1576 then (bif Nat.blt m 1569 then 1 else 2) else (bif Nat.blt m 1588 then 2 else 2)) else (bif Nat.blt m 1609 then (bif Nat.blt m 1601 then 2 else 2) else (bif Nat.blt m 1617 then 2 else (bif Nat.blt m 1626 then 2 else 2)))) else (bif Nat.blt m 1664 then (bif Nat.blt m 1649 then (bif Nat.blt m 1641 then 2 else 2) else (bif Nat.blt m 1657 then 2 else 2)) else (bif Nat.blt m 1681 then (bif Nat.blt m 1672 then 2 else 2) else (bif Nat.blt m 1688 then 2 else (bif Nat.blt m 1696 then 2 else 2))))))) else (bif Nat.blt m 2002 then (bif Nat.blt m 1857 then (bif Nat.blt m 1777 then (bif Nat.blt m 1737 then (bif Nat.blt m 1722 then (bif Nat.blt m 1713 then 2 else 2) else (bif Nat.blt m 1730 then 2 else 2)) else (bif Nat.blt m 1752 then (bif Nat.blt m 1744 then 2 else 2) else (bif Nat.blt m 1760 then 2 else (bif Nat.blt m 1769 then 3 else 3)))) else (bif Nat.blt m 1817 then (bif Nat.blt m 1793 then (bif Nat.blt m 1784 then 3 else 3) else (bif Nat.blt m 1801 then 3 else 3)) else (bif Nat.blt m 1833 then (bif Nat.blt m 1825 then 3 else 3) else (bif Nat.blt m 1842 then 3 else (bif Nat.blt m 1850 then 3 else 3))))) else (bif Nat.blt m 1930 then (bif Nat.blt m 1888 then (bif Nat.blt m 1873 then (bif Nat.blt m 1864 then 3 else 3) else (bif Nat.blt m 1884 then 3 else 3)) else (bif Nat.blt m 1905 then (bif Nat.blt m 1897 then 3 else 3) else (bif Nat.blt m 1913 then 3 else (bif Nat.blt m 1920 then 3 else 4)))) else (bif Nat.blt m 1960 then (bif Nat.blt m 1946 then (bif Nat.blt m 1937 then 4 else 4) else (bif Nat.blt m 1953 then 5 else 5)) else (bif Nat.blt m 1978 then (bif Nat.blt m 1971 then 6 else 6) else (bif Nat.blt m 1985 then 6 else (bif Nat.blt m 1994 then 6 else 6)))))) else (bif Nat.blt m 2146 then (bif Nat.blt m 2075 then (bif Nat.blt m 2035 then (bif Nat.blt m 2018 then (bif Nat.blt m 2010 then 6 else 6) else (bif Nat.blt m 2024 then 6 else 7)) else (bif Nat.blt m 2049 then (bif Nat.blt m 2042 then 7 else 7) else (bif Nat.blt m 2058 then 7 else (bif Nat.blt m 2064 then 7 else 8)))) else (bif Nat.blt m 2106 then (bif Nat.blt m 2089 then (bif Nat.blt m 2082 then 8 else 8) else (bif Nat.blt m 2098 then 8 else 8)) else (bif Nat.blt m 2123 then (bif Nat.blt m 2112 then 8 else 9) else (bif Nat.blt m 2130 then 9 else (bif Nat.blt m 2137 then 9 else 9))))) else (bif Nat.blt m 2219 then (bif Nat.blt m 2178 then (bif Nat.blt m 2160 then (bif Nat.blt m 2154 then 9 else 9) else (bif Nat.blt m 2171 then 10 else 10)) else (bif Nat.blt m 2194 then (bif Nat.blt m 2185 then 10 else 10) else (bif Nat.blt m 2202 then 10 else (bif Nat.blt m 2208 then 10 else 11)))) else (bif Nat.blt m 2250 then (bif Nat.blt m 2233 then (bif Nat.blt m 2226 then 11 else 11) else (bif Nat.blt m 2242 then 11 else 11)) else (bif Nat.blt m 2265 then (bif Nat.blt m 2257 then 11 else 12) else (bif Nat.blt m 2273 then 12 else (bif Nat.blt m 2281 then 14 else 13)))))))))
def fls_0 : List (Nat × Nat × Nat) := [(10, 2820, 2030), (19, 2821, 2031), (25, 2822, 2032), (29, 2823, 2033), (33, 2824, 2034), (36, 2825, 2035), (39, 2826, 2036), (52, 2816, 2026), (56, 2817, 2027), (59, 2818, 2028), (65, 2819, 2029), (91, 577, 1037), (102, 721, 1196), (109, 578, 1038), (116, 779, 2037), (119, 718, 1190), (128, 2753, 1159), (139, 2754, 1162), (145, 2758, 1173), (148, 2759, 1175), (158, 2756, 1168), (161, 2757, 1170), (167, 2755, 1165), (180, 2760, 1177), (183, 2761, 1179), (186, 2762, 1181), (189, 2763, 1183), (192, 2764, 1185), (198, 2765, 1187), (219, 720, 1194), (225, 719, 1192), (249, 389, 2012), (252, 2434, 2008), (305, 512, 4129), (308, 2561, 4131), (328, 65, 1066), (347, 3140, 1078), (351, 2112, 1064), (360, 3852, 2038), (363, 387, 2009), (366, 388, 2010), (369, 2432, 2004), (380, 2433, 2006)]
def fls_1 : List (Nat × Nat × Nat) := [(7, 2880, 5080), (13, 2881, 5081), (16, 2882, 5082), (19, 2883, 5083), (22, 2884, 5084), (25, 2886, 5086), (28, 2896, 5096), (31, 2897, 5097), (34, 2898, 5098), (37, 2900, 5100), (41, 2901, 5101), (44, 2902, 5102), (47, 2904, 5104), (50, 2905, 5105), (53, 2906, 5106), (57, 2907, 5107), (60, 2908, 5108), (63, 2909, 5109), (66, 2913, 5113), (77, 839, 5087), (83, 842, 5090), (86, 841, 5089), (99, 840, 5088), (102, 1867, 5091), (106, 844, 5092), (141, 3917, 5093), (206, 855, 5103), (250, 846, 5094), (253, 847, 5095), (291, 851, 5099), (342, 866, 5114), (348, 863, 5111), (354, 864, 5112), (357, 862, 5110), (369, 3939, 5115), (396, 3909, 5085)]
def fls_2 : List (Nat × Nat × Nat) := [(9, 2753, 1157), (15, 2754, 1160), (18, 2755, 1163), (21, 2756, 1166), (24, 2757, 1169), (27, 2758, 1171), (30, 2759, 1174), (33, 2760, 1176), (36, 2761, 1178), (39, 2762, 1180), (42, 2763, 1182), (45, 2764, 1184), (48, 2765, 1186), (51, 721, 1195), (55, 2752, 1156), (74, 718, 1188), (77, 719, 1191), (80, 720, 1193)]
def fls_3 : List (Nat × Nat × Nat) := [(9, 2624, 1035), (15, 577, 1036), (19, 579, 1040), (25, 580, 1041), (40, 718, 1189), (66, 2753, 1158), (80, 581, 1042), (100, 2756, 1167), (106, 2755, 1164), (109, 2754, 1161), (112, 2758, 1172), (119, 578, 1039)]
def fls_4 : List (Nat × Nat × Nat) := [(9, 2112, 1063), (22, 3140, 1076), (26, 65, 1065)]
def fls_5 : List (Nat × Nat × Nat) := [(7, 512, 4128)]
def fls_6 : List (Nat × Nat × Nat) := [(13, 66, 1068), (23, 67, 1075)]
def fls_7 : List (Nat × Nat × Nat) := [(25, 66, 1069)]
def fls_8 : List (Nat × Nat × Nat) := [(29, 67, 1073)]
def fls_9 : List (Nat × Nat × Nat) := [(34, 66, 1070)]
def fls_10 : List (Nat × Nat × Nat) := [(32, 66, 1071)]
def fls_11 : List (Nat × Nat × Nat) := [(30, 67, 1074)]
def fls_12 : List (Nat × Nat × Nat) := [(11, 2432, 2003), (17, 2433, 2005), (21, 2434, 2007), (27, 389, 2011)]
def fls_13 : List (Nat × Nat × Nat) := []
def fls_14 : List (Nat × Nat × Nat) := []
def fls (c : Nat) : List (Nat × Nat × Nat) := match c with
  | 0 => fls_0
  | 1 => fls_1
  | 2 => fls_2
  | 3 => fls_3
  | 4 => fls_4
  | 5 => fls_5
  | 6 => fls_6
  | 7 => fls_7
  | 8 => fls_8
  | 9 => fls_9
  | 10 => fls_10
  | 11 => fls_11
  | 12 => fls_12
  | 13 => fls_13
  | 14 => fls_14
  | _ => []
def pls_0 : List (Nat × Nat × Nat × Nat) := [(10, 2820, 2030, 1), (19, 2821, 2031, 1), (25, 2822, 2032, 1), (29, 2823, 2033, 1), (33, 2824, 2034, 1), (36, 2825, 2035, 1), (39, 2826, 2036, 1), (52, 2816, 2026, 1), (56, 2817, 2027, 1), (59, 2818, 2028, 1), (65, 2819, 2029, 1), (91, 577, 1037, 0), (102, 721, 1196, 0), (116, 779, 2037, 0), (219, 720, 1194, 0), (249, 389, 2012, 0), (328, 65, 1066, 0), (360, 3852, 2038, 0), (363, 387, 2009, 0), (366, 388, 2010, 0)]
def pls_1 : List (Nat × Nat × Nat × Nat) := [(7, 2880, 5080, 1), (13, 2881, 5081, 1), (16, 2882, 5082, 1), (19, 2883, 5083, 1), (22, 2884, 5084, 1), (25, 2886, 5086, 1), (28, 2896, 5096, 1), (31, 2897, 5097, 1), (34, 2898, 5098, 1), (37, 2900, 5100, 1), (41, 2901, 5101, 1), (44, 2902, 5102, 1), (47, 2904, 5104, 1), (50, 2905, 5105, 1), (53, 2906, 5106, 1), (57, 2907, 5107, 1), (60, 2908, 5108, 1), (63, 2909, 5109, 1), (66, 2913, 5113, 1), (77, 839, 5087, 0), (83, 842, 5090, 0), (86, 841, 5089, 0), (99, 840, 5088, 0), (102, 1867, 5091, 0), (106, 844, 5092, 0), (141, 3917, 5093, 0), (206, 855, 5103, 0), (250, 846, 5094, 0), (253, 847, 5095, 0), (291, 851, 5099, 0), (342, 866, 5114, 0), (348, 863, 5111, 0), (354, 864, 5112, 0), (357, 862, 5110, 0), (369, 3939, 5115, 0), (396, 3909, 5085, 0)]
def pls_2 : List (Nat × Nat × Nat × Nat) := [(9, 2753, 1157, 1), (15, 2754, 1160, 1), (18, 2755, 1163, 1), (21, 2756, 1166, 1), (24, 2757, 1169, 1), (27, 2758, 1171, 1), (30, 2759, 1174, 1), (33, 2760, 1176, 1), (36, 2761, 1178, 1), (39, 2762, 1180, 1), (42, 2763, 1182, 1), (45, 2764, 1184, 1), (48, 2765, 1186, 1), (51, 721, 1195, 0), (51, 721, 1195, 1), (55, 2752, 1156, 1), (74, 718, 1188, 0), (77, 719, 1191, 0), (80, 720, 1193, 0)]
def pls_3 : List (Nat × Nat × Nat × Nat) := [(9, 2624, 1035, 1), (15, 577, 1036, 0), (19, 579, 1040, 0), (25, 580, 1041, 0), (80, 581, 1042, 0), (119, 578, 1039, 0)]
def pls_4 : List (Nat × Nat × Nat × Nat) := [(9, 2112, 1063, 1), (15, 66, 1067, 0), (19, 67, 1072, 0), (22, 3140, 1076, 0), (26, 65, 1065, 0)]
def pls_5 : List (Nat × Nat × Nat × Nat) := [(7, 512, 4128, 1), (19, 2561, 4130, 1)]
def pls_6 : List (Nat × Nat × Nat × Nat) := [(26, 3140, 1077, 0)]
def pls_7 : List (Nat × Nat × Nat × Nat) := []
def pls_8 : List (Nat × Nat × Nat × Nat) := []
def pls_9 : List (Nat × Nat × Nat × Nat) := []
def pls_10 : List (Nat × Nat × Nat × Nat) := []
def pls_11 : List (Nat × Nat × Nat × Nat) := []
def pls_12 : List (Nat × Nat × Nat × Nat) := [(11, 2432, 2003, 1), (17, 2433, 2005, 1), (21, 2434, 2007, 1), (27, 389, 2011, 0)]
def pls_13 : List (Nat × Nat × Nat × Nat) := []
def pls_14 : List (Nat × Nat × Nat × Nat) := []
def pls (c : Nat) : List (Nat × Nat × Nat × Nat) := match c with
  | 0 => pls_0
  | 1 => pls_1
  | 2 => pls_2
  | 3 => pls_3
  | 4 => pls_4
  | 5 => pls_5
  | 6 => pls_6
  | 7 => pls_7
  | 8 => pls_8
  | 9 => pls_9
  | 10 => pls_10
  | 11 => pls_11
  | 12 => pls_12
  | 13 => pls_13
  | 14 => pls_14
  | _ => []
def ml0_0 : List (Nat × Nat × Nat) := [(43, 8, 1092), (87, 27, 2070), (131, 51, 2231), (135, 73, 3002), (142, 89, 3009), (155, 113, 3024), (170, 137, 3039), (235, 282, 3219), (259, 361, 4032), (272, 2273, 4051), (287, 426, 4076), (291, 435, 4079), (318, 529, 4154), (373, 314, 3239)]
def ml0_1 : List (Nat × Nat × Nat) := [(69, 593, 5077), (73, 611, 5193), (92, 641, 5209), (96, 649, 5212), (202, 762, 6048), (212, 801, 6067), (215, 817, 6074), (221, 849, 6089), (227, 882, 6104), (262, 1027, 6175), (294, 1169, 7007), (297, 1178, 7010), (304, 1217, 7029), (307, 1233, 7036), (313, 1266, 7052), (317, 1275, 7055), (339, 1418, 7126)]
def ml0_2 : List (Nat × Nat × Nat) := []
def ml0_3 : List (Nat × Nat × Nat) := [(32, 1825, 2100), (115, 27, 2169), (122, 1897, 2198), (134, 1793, 2090), (138, 1801, 2093)]
def ml0_4 : List (Nat × Nat × Nat) := []
def ml0_5 : List (Nat × Nat × Nat) := []
def ml0_6 : List (Nat × Nat × Nat) := []
def ml0_7 : List (Nat × Nat × Nat) := []
def ml0_8 : List (Nat × Nat × Nat) := []
def ml0_9 : List (Nat × Nat × Nat) := []
def ml0_10 : List (Nat × Nat × Nat) := []
def ml0_11 : List (Nat × Nat × Nat) := []
def ml0_12 : List (Nat × Nat × Nat) := []
def ml0_13 : List (Nat × Nat × Nat) := []
def ml0_14 : List (Nat × Nat × Nat) := []
def ml0 (c : Nat) : List (Nat × Nat × Nat) := match c with
  | 0 => ml0_0
  | 1 => ml0_1
  | 2 => ml0_2
  | 3 => ml0_3
  | 4 => ml0_4
  | 5 => ml0_5
  | 6 => ml0_6
  | 7 => ml0_7
  | 8 => ml0_8
  | 9 => ml0_9
  | 10 => ml0_10
  | 11 => ml0_11
  | 12 => ml0_12
  | 13 => ml0_13
  | 14 => ml0_14
  | _ => []
def ml1_0 : List (Nat × Nat × Nat) := [(9, 1760, 1031), (18, 1920, 1059), (49, 1569, 1141), (64, 2257, 1236), (71, 1960, 1098), (74, 2024, 1106), (77, 2064, 1113), (80, 2112, 1120), (83, 2160, 1127), (86, 2208, 1134), (312, 1946, 4123)]
def ml1_1 : List (Nat × Nat × Nat) := []
def ml1_2 : List (Nat × Nat × Nat) := []
def ml1_3 : List (Nat × Nat × Nat) := []
def ml1_4 : List (Nat × Nat × Nat) := []
def ml1_5 : List (Nat × Nat × Nat) := []
def ml1_6 : List (Nat × Nat × Nat) := []
def ml1_7 : List (Nat × Nat × Nat) := [(1, 1960, 1109), (7, 1985, 4181), (11, 1971, 3102), (21, 2002, 5000)]
def ml1_8 : List (Nat × Nat × Nat) := [(1, 1960, 1116), (7, 1985, 4172), (11, 1971, 3093), (15, 1978, 3129), (25, 1994, 4210), (33, 2018, 5033)]
def ml1_9 : List (Nat × Nat × Nat) := [(3, 2024, 1123), (9, 2049, 4185), (13, 2035, 3106), (17, 2042, 3140), (27, 2010, 5022), (31, 1994, 4218)]
def ml1_10 : List (Nat × Nat × Nat) := [(1, 2064, 1130), (7, 2089, 4169), (11, 2075, 3090), (15, 2082, 3126), (25, 2098, 4206), (29, 2002, 4230)]
def ml1_11 : List (Nat × Nat × Nat) := [(3, 1960, 1137), (9, 1985, 4177), (13, 1971, 3098), (23, 2018, 5042), (27, 2010, 5014)]
def ml1_12 : List (Nat × Nat × Nat) := [(24, 1569, 2002)]
def ml1_13 : List (Nat × Nat × Nat) := [(9, 0, 1023), (12, 584, 5073)]
def ml1_14 : List (Nat × Nat × Nat) := []
def ml1 (c : Nat) : List (Nat × Nat × Nat) := match c with
  | 0 => ml1_0
  | 1 => ml1_1
  | 2 => ml1_2
  | 3 => ml1_3
  | 4 => ml1_4
  | 5 => ml1_5
  | 6 => ml1_6
  | 7 => ml1_7
  | 8 => ml1_8
  | 9 => ml1_9
  | 10 => ml1_10
  | 11 => ml1_11
  | 12 => ml1_12
  | 13 => ml1_13
  | 14 => ml1_14
  | _ => []
def ml2_0 : List (Nat × Nat × Nat) := [(95, 91769, 2073), (99, 111576, 2081), (105, 91777, 2082), (112, 111593, 2219), (151, 111601, 3016), (164, 111609, 3027), (173, 111588, 3042), (177, 120153, 3047), (195, 111617, 3051), (201, 111626, 3075), (205, 111641, 3115), (208, 111649, 3146), (211, 111657, 3150), (222, 111664, 3172), (228, 111681, 3187), (231, 111696, 3205), (239, 111704, 3222), (242, 120288, 3227), (245, 120306, 3235), (255, 120339, 4015), (262, 120369, 4035), (266, 120376, 4039), (269, 120384, 4043), (277, 111722, 4057), (295, 111713, 4019), (298, 111730, 4090), (301, 120466, 4102), (314, 81953, 4142), (321, 111633, 4161), (325, 1, 4162), (331, 11930, 4191), (334, 10, 4195), (338, 18, 4223), (341, 26, 5004), (344, 34, 5026), (354, 111744, 5055), (357, 111752, 5059), (377, 62265, 4002)]
def ml2_1 : List (Nat × Nat × Nat) := [(88, 130633, 5205), (117, 130673, 5227), (145, 130624, 5201), (148, 130713, 6014), (151, 130736, 6028), (155, 130690, 6000), (161, 130697, 6005), (167, 130704, 6010), (172, 130728, 6024), (175, 130664, 5222), (178, 130681, 5236), (184, 130720, 6019), (189, 130744, 6038), (194, 130752, 6043), (199, 130656, 5218), (209, 130778, 6055), (218, 130834, 6081), (224, 130857, 6092), (231, 130891, 6107), (235, 130914, 6119), (238, 130905, 6115), (241, 130921, 6123), (244, 130970, 6147), (247, 130985, 6155), (256, 131001, 6163), (259, 131019, 6171), (266, 131009, 6167), (269, 131056, 6190), (273, 131080, 6202), (276, 131073, 6198), (279, 131104, 6215), (282, 131129, 6227), (285, 131136, 6231), (288, 131144, 6235), (300, 131162, 7003), (310, 130826, 7043), (321, 131290, 7062), (324, 131306, 7070), (327, 131322, 7078), (330, 131354, 7094), (333, 131394, 7114), (336, 131409, 7122), (345, 131449, 7141), (351, 131457, 7145), (360, 131441, 7137), (363, 131433, 7133), (366, 131473, 7153), (372, 131489, 7161), (375, 131465, 7149), (378, 131505, 7169), (381, 131481, 7157), (384, 131497, 7165), (387, 131528, 7181), (390, 131536, 7185), (393, 131544, 7189)]
def ml2_2 : List (Nat × Nat × Nat) := [(59, 111576, 1145), (83, 111609, 3226), (87, 111737, 4094), (90, 111633, 3079), (94, 43, 3083), (106, 50, 3119), (109, 111649, 3154), (116, 111626, 3157), (119, 111641, 3158), (122, 111617, 4023), (125, 111657, 3196), (131, 111672, 3179), (135, 111688, 3191), (139, 111681, 3209), (142, 111664, 3210)]
def ml2_3 : List (Nat × Nat × Nat) := [(22, 91784, 2086), (28, 91817, 2096), (36, 91833, 2109), (45, 91842, 2161), (51, 91873, 2185), (56, 91905, 2207), (61, 91913, 2212), (72, 91884, 2190), (76, 91850, 2165), (85, 91857, 2171), (90, 91864, 2176), (94, 111588, 2180), (102, 91888, 2194)]
def ml2_4 : List (Nat × Nat × Nat) := []
def ml2_5 : List (Nat × Nat × Nat) := []
def ml2_6 : List (Nat × Nat × Nat) := [(7, 11937, 4222), (17, 10, 5003), (30, 18, 5046)]
def ml2_7 : List (Nat × Nat × Nat) := [(15, 11937, 4239)]
def ml2_8 : List (Nat × Nat × Nat) := [(19, 11937, 4209), (36, 58, 5034)]
def ml2_9 : List (Nat × Nat × Nat) := [(21, 11937, 4217)]
def ml2_10 : List (Nat × Nat × Nat) := [(19, 11937, 4202), (36, 32194, 4233)]
def ml2_11 : List (Nat × Nat × Nat) := [(17, 11937, 5013), (34, 66, 5015)]
def ml2_12 : List (Nat × Nat × Nat) := []
def ml2_13 : List (Nat × Nat × Nat) := [(15, 120018, 2066), (19, 130602, 5189), (20, 120032, 2077), (24, 130616, 5197), (25, 120042, 2224), (29, 130770, 6051), (30, 120057, 2234), (34, 130785, 6059), (35, 120066, 2238), (38, 130794, 6063), (39, 120082, 3005), (42, 130810, 6070), (43, 120098, 3012), (46, 130826, 6077), (47, 120106, 3020), (50, 130842, 6085), (51, 120123, 3031), (55, 130867, 6096), (56, 120132, 3035), (60, 130876, 6100), (61, 120146, 3043), (64, 130898, 6111), (65, 120163, 3055), (68, 130931, 6127), (69, 120170, 3059), (72, 130938, 6131), (73, 120178, 3063), (76, 130946, 6135), (77, 120185, 3067), (80, 130953, 6139), (81, 120194, 3071), (84, 130962, 6143), (85, 120201, 3111), (88, 130977, 6151), (89, 120209, 3142), (92, 130993, 6159), (93, 120218, 3159), (96, 131034, 6178), (97, 120225, 3164), (100, 131041, 6182), (101, 120233, 3168), (104, 131049, 6186), (105, 120241, 3183), (108, 131065, 6194), (109, 120249, 3197), (112, 131089, 6207), (113, 120256, 3201), (116, 131096, 6211), (117, 120266, 3211), (120, 131114, 6219), (121, 120273, 3215), (124, 131121, 6223), (125, 120298, 3231), (128, 131154, 6239), (129, 120323, 4007), (132, 131187, 7013), (133, 120331, 4011), (136, 131195, 7017), (137, 120344, 4024), (140, 131200, 7021), (141, 120354, 4028), (144, 131210, 7025), (145, 120394, 4047), (148, 131226, 7032), (149, 120400, 4061), (152, 131240, 7039), (153, 120411, 4066), (156, 131251, 7044), (157, 120418, 4070), (161, 131258, 7048), (162, 120443, 4082), (166, 131283, 7058), (167, 120450, 4086), (170, 131298, 7066), (171, 120458, 4098), (174, 131314, 7074), (175, 120475, 4106), (178, 131331, 7082), (179, 120481, 4110), (182, 131337, 7086), (183, 120492, 4114), (186, 131348, 7090), (187, 120499, 4118), (190, 131363, 7098), (191, 120507, 4138), (194, 131371, 7102), (195, 120515, 4146), (198, 131379, 7106), (199, 120523, 4150), (202, 131387, 7110), (203, 120538, 4157), (206, 131402, 7118), (207, 120547, 4187), (210, 131427, 7129), (211, 120553, 5047), (214, 131513, 7173), (215, 120561, 5051), (218, 131521, 7177), (219, 120568, 5063), (222, 131552, 7193), (223, 120576, 5067), (226, 131560, 7197)]
def ml2_14 : List (Nat × Nat × Nat) := []
def ml2 (c : Nat) : List (Nat × Nat × Nat) := match c with
  | 0 => ml2_0
  | 1 => ml2_1
  | 2 => ml2_2
  | 3 => ml2_3
  | 4 => ml2_4
  | 5 => ml2_5
  | 6 => ml2_6
  | 7 => ml2_7
  | 8 => ml2_8
  | 9 => ml2_9
  | 10 => ml2_10
  | 11 => ml2_11
  | 12 => ml2_12
  | 13 => ml2_13
  | 14 => ml2_14
  | _ => []
def dscs : List (String × Nat) := [("()I", 0), ("()V", 0), ("()Z", 0), ("()[LDreamNets$Boat;", 0), ("(I)I", 1), ("(I)J", 1), ("(I)LDreamNets$Boat;", 1), ("(I)Ljava/lang/String;", 1), ("(I)V", 1), ("(I)Z", 1), ("(II)I", 2), ("(II)J", 2), ("(II)V", 2), ("(II)Z", 2), ("(III)I", 3), ("(III)J", 3), ("(III)V", 3), ("(III)Z", 3), ("(IIII)I", 4), ("(J)V", 1), ("(J)Z", 1), ("(JI)I", 2), ("(JI)J", 2), ("(JJI)J", 3), ("(LDreamNets$Acting;I)I", 2), ("(LDreamNets$Search;I)V", 2), ("(LDreamNets$Sheet;)V", 1), ("(LDreamNets$World;)V", 1), ("(LDreamNets$World;)Z", 1), ("(LDreamNets$World;I)Z", 2), ("(Ljava/lang/String;)Z", 1), ("([I)V", 1), ("([I)Z", 1), ("([II)I", 2), ("([III)I", 3), ("([IIII)Z", 4), ("([I[I)V", 2), ("([LDreamNets$Boat;)V", 1)]
def mids : List Nat := [0, 8, 18, 27, 32, 42, 51, 57, 66, 73, 82, 89, 98, 106, 113, 123, 132, 137, 146, 153, 163, 170, 178, 185, 194, 201, 209, 218, 225, 233, 241, 249, 256, 266, 273, 282, 288, 298, 306, 314, 323, 331, 339, 344, 354, 361, 369, 376, 384, 394, 400, 411, 418, 426, 435, 443, 450, 458, 466, 475, 481, 492, 499, 507, 515, 523, 529, 538, 547, 553, 561, 568, 576, 584, 593, 602, 611, 616, 624, 633, 641, 649, 656, 664, 673, 681, 690, 697, 704, 713, 720, 728, 736, 744, 752, 762, 770, 778, 785, 794, 801, 810, 817, 826, 834, 842, 849, 857, 867, 876, 882, 891, 898, 905, 914, 921, 931, 938, 946, 953, 962, 970, 977, 985, 993, 1001, 1009, 1019, 1027, 1034, 1041, 1049, 1056, 1065, 1073, 1080, 1089, 1096, 1104, 1114, 1121, 1129, 1136, 1144, 1154, 1162, 1169, 1178, 1187, 1195, 1200, 1210, 1217, 1226, 1233, 1240, 1251, 1258, 1266, 1275, 1283, 1290, 1298, 1306, 1314, 1322, 1331, 1337, 1348, 1354, 1363, 1371, 1379, 1387, 1394, 1402, 1409, 1418, 1427, 1433, 1441, 1449, 1457, 1465, 1473, 1481, 1489, 1497, 1505, 1513, 1521, 1528, 1536, 1544, 1552, 1560, 1569, 1576, 1588, 1593, 1601, 1609, 1617, 1626, 1633, 1641, 1649, 1657, 1664, 1672, 1681, 1688, 1696, 1704, 1713, 1722, 1730, 1737, 1744, 1752, 1760, 1769, 1777, 1784, 1793, 1801, 1817, 1825, 1833, 1842, 1850, 1857, 1864, 1873, 1884, 1888, 1897, 1905, 1913, 1920, 1930, 1937, 1946, 1953, 1960, 1971, 1978, 1985, 1994, 2002, 2010, 2018, 2024, 2035, 2042, 2049, 2058, 2064, 2075, 2082, 2089, 2098, 2106, 2112, 2123, 2130, 2137, 2146, 2154, 2160, 2171, 2178, 2185, 2194, 2202, 2208, 2219, 2226, 2233, 2242, 2250, 2257, 2265, 2273]
theorem dscs_ok : dscs.all (fun d => decide (nPar d.1 = some d.2)) = true := by decide +kernel
theorem cnm_ok : (List.range 15).all (fun c => noMH (cnm c) && plainName (cnm c)) = true := by decide +kernel
def okM1 (m : Nat) : Bool :=
  wGd (pmw m).2.1 (.initialized (pnm m).cls) && (Nat.blt (pcn m) 15 && decide (cnm (pcn m) = (pnm m).cls)) && dscs.contains ((pnm m).desc, m % 8) && decide (pnl m ≤ 60)
  && (retOk (prk m) (pret m) && pids.contains (m, pnb m))
  && (if pst m then wGd (pmw m).2.2.1 (.static (pnm m)) else wGd (pmw m).2.2.1 (.instanceMethod (pnm m)))
theorem dsc_ok {d : String} {n : Nat} (h : dscs.contains (d, n) = true) : nPar d = some n := by
  have h : (d, n) ∈ dscs := by simpa using h
  exact of_decide_eq_true (List.all_eq_true.mp dscs_ok _ h)
def CW (m : Nat) : Prop := (tbK ((pmw m).1 / 1000))[(pmw m).1 % 1000]? = some (.code (pnm m) (pcd m) (pnl m) (pret m))
theorem CW.ok {m : Nat} (h : CW m) : wGd (pmw m).1 (.code (pnm m) (pcd m) (pnl m) (pret m)) = true := by
  unfold wGd wAt
  unfold CW at h
  rw [h, Bool.and_eq_true]
  exact ⟨rfl, decide_eq_true rfl⟩
theorem okM1_ok {m : Nat} (hcw : CW m) (h : okM1 m = true) : okM m = true := by
  have h1 := hcw.ok
  simp only [okM1, Bool.and_eq_true, decide_eq_true_eq] at h
  obtain ⟨⟨⟨⟨⟨h2, h3, h4⟩, h5⟩, h6⟩, h7⟩, h8⟩ := h
  have hc := List.all_eq_true.mp cnm_ok (pcn m) (List.mem_range.mpr (Nat.ble_eq.mp h3))
  rw [h4] at hc
  simp only [Bool.and_eq_true] at hc
  simp only [okM, Bool.and_eq_true, decide_eq_true_eq]
  exact ⟨⟨⟨⟨⟨⟨⟨h1, h2⟩, hc.1⟩, hc.2⟩, dsc_ok h5⟩, h6⟩, h7⟩, h8⟩
theorem mids_0 : ((mids.drop 0).take 24).all okM1 = true := by decide +kernel
theorem cw_0 : CW 0 := rfl
theorem cw_8 : CW 8 := rfl
theorem cw_18 : CW 18 := rfl
theorem cw_27 : CW 27 := rfl
theorem cw_32 : CW 32 := rfl
theorem cw_42 : CW 42 := rfl
theorem cw_51 : CW 51 := rfl
theorem cw_57 : CW 57 := rfl
theorem cw_66 : CW 66 := rfl
theorem cw_73 : CW 73 := rfl
theorem cw_82 : CW 82 := rfl
theorem cw_89 : CW 89 := rfl
theorem cw_98 : CW 98 := rfl
theorem cw_106 : CW 106 := rfl
theorem cw_113 : CW 113 := rfl
theorem cw_123 : CW 123 := rfl
theorem cw_132 : CW 132 := rfl
theorem cw_137 : CW 137 := rfl
theorem cw_146 : CW 146 := rfl
theorem cw_153 : CW 153 := rfl
theorem cw_163 : CW 163 := rfl
theorem cw_170 : CW 170 := rfl
theorem cw_178 : CW 178 := rfl
theorem cw_185 : CW 185 := rfl
theorem cws_0 : ∀ m ∈ ([0, 8, 18, 27, 32, 42, 51, 57, 66, 73, 82, 89, 98, 106, 113, 123, 132, 137, 146, 153, 163, 170, 178, 185] : List Nat), CW m := List.forall_mem_cons.mpr ⟨cw_0, List.forall_mem_cons.mpr ⟨cw_8, List.forall_mem_cons.mpr ⟨cw_18, List.forall_mem_cons.mpr ⟨cw_27, List.forall_mem_cons.mpr ⟨cw_32, List.forall_mem_cons.mpr ⟨cw_42, List.forall_mem_cons.mpr ⟨cw_51, List.forall_mem_cons.mpr ⟨cw_57, List.forall_mem_cons.mpr ⟨cw_66, List.forall_mem_cons.mpr ⟨cw_73, List.forall_mem_cons.mpr ⟨cw_82, List.forall_mem_cons.mpr ⟨cw_89, List.forall_mem_cons.mpr ⟨cw_98, List.forall_mem_cons.mpr ⟨cw_106, List.forall_mem_cons.mpr ⟨cw_113, List.forall_mem_cons.mpr ⟨cw_123, List.forall_mem_cons.mpr ⟨cw_132, List.forall_mem_cons.mpr ⟨cw_137, List.forall_mem_cons.mpr ⟨cw_146, List.forall_mem_cons.mpr ⟨cw_153, List.forall_mem_cons.mpr ⟨cw_163, List.forall_mem_cons.mpr ⟨cw_170, List.forall_mem_cons.mpr ⟨cw_178, List.forall_mem_cons.mpr ⟨cw_185, fun _ h => absurd h List.not_mem_nil⟩⟩⟩⟩⟩⟩⟩⟩⟩⟩⟩⟩⟩⟩⟩⟩⟩⟩⟩⟩⟩⟩⟩⟩
theorem mids_1 : ((mids.drop 24).take 24).all okM1 = true := by decide +kernel
theorem cw_194 : CW 194 := rfl
theorem cw_201 : CW 201 := rfl
theorem cw_209 : CW 209 := rfl
theorem cw_218 : CW 218 := rfl
theorem cw_225 : CW 225 := rfl
theorem cw_233 : CW 233 := rfl
theorem cw_241 : CW 241 := rfl
theorem cw_249 : CW 249 := rfl
theorem cw_256 : CW 256 := rfl
theorem cw_266 : CW 266 := rfl
theorem cw_273 : CW 273 := rfl
theorem cw_282 : CW 282 := rfl
theorem cw_288 : CW 288 := rfl
theorem cw_298 : CW 298 := rfl
theorem cw_306 : CW 306 := rfl
theorem cw_314 : CW 314 := rfl
theorem cw_323 : CW 323 := rfl
theorem cw_331 : CW 331 := rfl
theorem cw_339 : CW 339 := rfl
theorem cw_344 : CW 344 := rfl
theorem cw_354 : CW 354 := rfl
theorem cw_361 : CW 361 := rfl
theorem cw_369 : CW 369 := rfl
theorem cw_376 : CW 376 := rfl
theorem cws_1 : ∀ m ∈ ([194, 201, 209, 218, 225, 233, 241, 249, 256, 266, 273, 282, 288, 298, 306, 314, 323, 331, 339, 344, 354, 361, 369, 376] : List Nat), CW m := List.forall_mem_cons.mpr ⟨cw_194, List.forall_mem_cons.mpr ⟨cw_201, List.forall_mem_cons.mpr ⟨cw_209, List.forall_mem_cons.mpr ⟨cw_218, List.forall_mem_cons.mpr ⟨cw_225, List.forall_mem_cons.mpr ⟨cw_233, List.forall_mem_cons.mpr ⟨cw_241, List.forall_mem_cons.mpr ⟨cw_249, List.forall_mem_cons.mpr ⟨cw_256, List.forall_mem_cons.mpr ⟨cw_266, List.forall_mem_cons.mpr ⟨cw_273, List.forall_mem_cons.mpr ⟨cw_282, List.forall_mem_cons.mpr ⟨cw_288, List.forall_mem_cons.mpr ⟨cw_298, List.forall_mem_cons.mpr ⟨cw_306, List.forall_mem_cons.mpr ⟨cw_314, List.forall_mem_cons.mpr ⟨cw_323, List.forall_mem_cons.mpr ⟨cw_331, List.forall_mem_cons.mpr ⟨cw_339, List.forall_mem_cons.mpr ⟨cw_344, List.forall_mem_cons.mpr ⟨cw_354, List.forall_mem_cons.mpr ⟨cw_361, List.forall_mem_cons.mpr ⟨cw_369, List.forall_mem_cons.mpr ⟨cw_376, fun _ h => absurd h List.not_mem_nil⟩⟩⟩⟩⟩⟩⟩⟩⟩⟩⟩⟩⟩⟩⟩⟩⟩⟩⟩⟩⟩⟩⟩⟩
theorem mids_2 : ((mids.drop 48).take 24).all okM1 = true := by decide +kernel
theorem cw_384 : CW 384 := rfl
theorem cw_394 : CW 394 := rfl
theorem cw_400 : CW 400 := rfl
theorem cw_411 : CW 411 := rfl
theorem cw_418 : CW 418 := rfl
theorem cw_426 : CW 426 := rfl
theorem cw_435 : CW 435 := rfl
theorem cw_443 : CW 443 := rfl
theorem cw_450 : CW 450 := rfl
theorem cw_458 : CW 458 := rfl
theorem cw_466 : CW 466 := rfl
theorem cw_475 : CW 475 := rfl
theorem cw_481 : CW 481 := rfl
theorem cw_492 : CW 492 := rfl
theorem cw_499 : CW 499 := rfl
theorem cw_507 : CW 507 := rfl
theorem cw_515 : CW 515 := rfl
theorem cw_523 : CW 523 := rfl
theorem cw_529 : CW 529 := rfl
theorem cw_538 : CW 538 := rfl
theorem cw_547 : CW 547 := rfl
theorem cw_553 : CW 553 := rfl
theorem cw_561 : CW 561 := rfl
theorem cw_568 : CW 568 := rfl
theorem cws_2 : ∀ m ∈ ([384, 394, 400, 411, 418, 426, 435, 443, 450, 458, 466, 475, 481, 492, 499, 507, 515, 523, 529, 538, 547, 553, 561, 568] : List Nat), CW m := List.forall_mem_cons.mpr ⟨cw_384, List.forall_mem_cons.mpr ⟨cw_394, List.forall_mem_cons.mpr ⟨cw_400, List.forall_mem_cons.mpr ⟨cw_411, List.forall_mem_cons.mpr ⟨cw_418, List.forall_mem_cons.mpr ⟨cw_426, List.forall_mem_cons.mpr ⟨cw_435, List.forall_mem_cons.mpr ⟨cw_443, List.forall_mem_cons.mpr ⟨cw_450, List.forall_mem_cons.mpr ⟨cw_458, List.forall_mem_cons.mpr ⟨cw_466, List.forall_mem_cons.mpr ⟨cw_475, List.forall_mem_cons.mpr ⟨cw_481, List.forall_mem_cons.mpr ⟨cw_492, List.forall_mem_cons.mpr ⟨cw_499, List.forall_mem_cons.mpr ⟨cw_507, List.forall_mem_cons.mpr ⟨cw_515, List.forall_mem_cons.mpr ⟨cw_523, List.forall_mem_cons.mpr ⟨cw_529, List.forall_mem_cons.mpr ⟨cw_538, List.forall_mem_cons.mpr ⟨cw_547, List.forall_mem_cons.mpr ⟨cw_553, List.forall_mem_cons.mpr ⟨cw_561, List.forall_mem_cons.mpr ⟨cw_568, fun _ h => absurd h List.not_mem_nil⟩⟩⟩⟩⟩⟩⟩⟩⟩⟩⟩⟩⟩⟩⟩⟩⟩⟩⟩⟩⟩⟩⟩⟩
theorem mids_3 : ((mids.drop 72).take 24).all okM1 = true := by decide +kernel
theorem cw_576 : CW 576 := rfl
theorem cw_584 : CW 584 := rfl
theorem cw_593 : CW 593 := rfl
theorem cw_602 : CW 602 := rfl
theorem cw_611 : CW 611 := rfl
theorem cw_616 : CW 616 := rfl
theorem cw_624 : CW 624 := rfl
theorem cw_633 : CW 633 := rfl
theorem cw_641 : CW 641 := rfl
theorem cw_649 : CW 649 := rfl
theorem cw_656 : CW 656 := rfl
theorem cw_664 : CW 664 := rfl
theorem cw_673 : CW 673 := rfl
theorem cw_681 : CW 681 := rfl
theorem cw_690 : CW 690 := rfl
theorem cw_697 : CW 697 := rfl
theorem cw_704 : CW 704 := rfl
theorem cw_713 : CW 713 := rfl
theorem cw_720 : CW 720 := rfl
theorem cw_728 : CW 728 := rfl
theorem cw_736 : CW 736 := rfl
theorem cw_744 : CW 744 := rfl
theorem cw_752 : CW 752 := rfl
theorem cw_762 : CW 762 := rfl
theorem cws_3 : ∀ m ∈ ([576, 584, 593, 602, 611, 616, 624, 633, 641, 649, 656, 664, 673, 681, 690, 697, 704, 713, 720, 728, 736, 744, 752, 762] : List Nat), CW m := List.forall_mem_cons.mpr ⟨cw_576, List.forall_mem_cons.mpr ⟨cw_584, List.forall_mem_cons.mpr ⟨cw_593, List.forall_mem_cons.mpr ⟨cw_602, List.forall_mem_cons.mpr ⟨cw_611, List.forall_mem_cons.mpr ⟨cw_616, List.forall_mem_cons.mpr ⟨cw_624, List.forall_mem_cons.mpr ⟨cw_633, List.forall_mem_cons.mpr ⟨cw_641, List.forall_mem_cons.mpr ⟨cw_649, List.forall_mem_cons.mpr ⟨cw_656, List.forall_mem_cons.mpr ⟨cw_664, List.forall_mem_cons.mpr ⟨cw_673, List.forall_mem_cons.mpr ⟨cw_681, List.forall_mem_cons.mpr ⟨cw_690, List.forall_mem_cons.mpr ⟨cw_697, List.forall_mem_cons.mpr ⟨cw_704, List.forall_mem_cons.mpr ⟨cw_713, List.forall_mem_cons.mpr ⟨cw_720, List.forall_mem_cons.mpr ⟨cw_728, List.forall_mem_cons.mpr ⟨cw_736, List.forall_mem_cons.mpr ⟨cw_744, List.forall_mem_cons.mpr ⟨cw_752, List.forall_mem_cons.mpr ⟨cw_762, fun _ h => absurd h List.not_mem_nil⟩⟩⟩⟩⟩⟩⟩⟩⟩⟩⟩⟩⟩⟩⟩⟩⟩⟩⟩⟩⟩⟩⟩⟩
theorem mids_4 : ((mids.drop 96).take 24).all okM1 = true := by decide +kernel
theorem cw_770 : CW 770 := rfl
theorem cw_778 : CW 778 := rfl
theorem cw_785 : CW 785 := rfl
theorem cw_794 : CW 794 := rfl
theorem cw_801 : CW 801 := rfl
theorem cw_810 : CW 810 := rfl
theorem cw_817 : CW 817 := rfl
theorem cw_826 : CW 826 := rfl
theorem cw_834 : CW 834 := rfl
theorem cw_842 : CW 842 := rfl
theorem cw_849 : CW 849 := rfl
theorem cw_857 : CW 857 := rfl
theorem cw_867 : CW 867 := rfl
theorem cw_876 : CW 876 := rfl
theorem cw_882 : CW 882 := rfl
theorem cw_891 : CW 891 := rfl
theorem cw_898 : CW 898 := rfl
theorem cw_905 : CW 905 := rfl
theorem cw_914 : CW 914 := rfl
theorem cw_921 : CW 921 := rfl
theorem cw_931 : CW 931 := rfl
theorem cw_938 : CW 938 := rfl
theorem cw_946 : CW 946 := rfl
theorem cw_953 : CW 953 := rfl
theorem cws_4 : ∀ m ∈ ([770, 778, 785, 794, 801, 810, 817, 826, 834, 842, 849, 857, 867, 876, 882, 891, 898, 905, 914, 921, 931, 938, 946, 953] : List Nat), CW m := List.forall_mem_cons.mpr ⟨cw_770, List.forall_mem_cons.mpr ⟨cw_778, List.forall_mem_cons.mpr ⟨cw_785, List.forall_mem_cons.mpr ⟨cw_794, List.forall_mem_cons.mpr ⟨cw_801, List.forall_mem_cons.mpr ⟨cw_810, List.forall_mem_cons.mpr ⟨cw_817, List.forall_mem_cons.mpr ⟨cw_826, List.forall_mem_cons.mpr ⟨cw_834, List.forall_mem_cons.mpr ⟨cw_842, List.forall_mem_cons.mpr ⟨cw_849, List.forall_mem_cons.mpr ⟨cw_857, List.forall_mem_cons.mpr ⟨cw_867, List.forall_mem_cons.mpr ⟨cw_876, List.forall_mem_cons.mpr ⟨cw_882, List.forall_mem_cons.mpr ⟨cw_891, List.forall_mem_cons.mpr ⟨cw_898, List.forall_mem_cons.mpr ⟨cw_905, List.forall_mem_cons.mpr ⟨cw_914, List.forall_mem_cons.mpr ⟨cw_921, List.forall_mem_cons.mpr ⟨cw_931, List.forall_mem_cons.mpr ⟨cw_938, List.forall_mem_cons.mpr ⟨cw_946, List.forall_mem_cons.mpr ⟨cw_953, fun _ h => absurd h List.not_mem_nil⟩⟩⟩⟩⟩⟩⟩⟩⟩⟩⟩⟩⟩⟩⟩⟩⟩⟩⟩⟩⟩⟩⟩⟩
theorem mids_5 : ((mids.drop 120).take 24).all okM1 = true := by decide +kernel
theorem cw_962 : CW 962 := rfl
theorem cw_970 : CW 970 := rfl
theorem cw_977 : CW 977 := rfl
theorem cw_985 : CW 985 := rfl
theorem cw_993 : CW 993 := rfl
theorem cw_1001 : CW 1001 := rfl
theorem cw_1009 : CW 1009 := rfl
theorem cw_1019 : CW 1019 := rfl
theorem cw_1027 : CW 1027 := rfl
theorem cw_1034 : CW 1034 := rfl
theorem cw_1041 : CW 1041 := rfl
theorem cw_1049 : CW 1049 := rfl
theorem cw_1056 : CW 1056 := rfl
theorem cw_1065 : CW 1065 := rfl
theorem cw_1073 : CW 1073 := rfl
theorem cw_1080 : CW 1080 := rfl
theorem cw_1089 : CW 1089 := rfl
theorem cw_1096 : CW 1096 := rfl
theorem cw_1104 : CW 1104 := rfl
theorem cw_1114 : CW 1114 := rfl
theorem cw_1121 : CW 1121 := rfl
theorem cw_1129 : CW 1129 := rfl
theorem cw_1136 : CW 1136 := rfl
theorem cw_1144 : CW 1144 := rfl
theorem cws_5 : ∀ m ∈ ([962, 970, 977, 985, 993, 1001, 1009, 1019, 1027, 1034, 1041, 1049, 1056, 1065, 1073, 1080, 1089, 1096, 1104, 1114, 1121, 1129, 1136, 1144] : List Nat), CW m := List.forall_mem_cons.mpr ⟨cw_962, List.forall_mem_cons.mpr ⟨cw_970, List.forall_mem_cons.mpr ⟨cw_977, List.forall_mem_cons.mpr ⟨cw_985, List.forall_mem_cons.mpr ⟨cw_993, List.forall_mem_cons.mpr ⟨cw_1001, List.forall_mem_cons.mpr ⟨cw_1009, List.forall_mem_cons.mpr ⟨cw_1019, List.forall_mem_cons.mpr ⟨cw_1027, List.forall_mem_cons.mpr ⟨cw_1034, List.forall_mem_cons.mpr ⟨cw_1041, List.forall_mem_cons.mpr ⟨cw_1049, List.forall_mem_cons.mpr ⟨cw_1056, List.forall_mem_cons.mpr ⟨cw_1065, List.forall_mem_cons.mpr ⟨cw_1073, List.forall_mem_cons.mpr ⟨cw_1080, List.forall_mem_cons.mpr ⟨cw_1089, List.forall_mem_cons.mpr ⟨cw_1096, List.forall_mem_cons.mpr ⟨cw_1104, List.forall_mem_cons.mpr ⟨cw_1114, List.forall_mem_cons.mpr ⟨cw_1121, List.forall_mem_cons.mpr ⟨cw_1129, List.forall_mem_cons.mpr ⟨cw_1136, List.forall_mem_cons.mpr ⟨cw_1144, fun _ h => absurd h List.not_mem_nil⟩⟩⟩⟩⟩⟩⟩⟩⟩⟩⟩⟩⟩⟩⟩⟩⟩⟩⟩⟩⟩⟩⟩⟩
theorem mids_6 : ((mids.drop 144).take 24).all okM1 = true := by decide +kernel
theorem cw_1154 : CW 1154 := rfl
theorem cw_1162 : CW 1162 := rfl
theorem cw_1169 : CW 1169 := rfl
theorem cw_1178 : CW 1178 := rfl
theorem cw_1187 : CW 1187 := rfl
theorem cw_1195 : CW 1195 := rfl
theorem cw_1200 : CW 1200 := rfl
theorem cw_1210 : CW 1210 := rfl
theorem cw_1217 : CW 1217 := rfl
theorem cw_1226 : CW 1226 := rfl
theorem cw_1233 : CW 1233 := rfl
theorem cw_1240 : CW 1240 := rfl
theorem cw_1251 : CW 1251 := rfl
theorem cw_1258 : CW 1258 := rfl
theorem cw_1266 : CW 1266 := rfl
theorem cw_1275 : CW 1275 := rfl
theorem cw_1283 : CW 1283 := rfl
theorem cw_1290 : CW 1290 := rfl
theorem cw_1298 : CW 1298 := rfl
theorem cw_1306 : CW 1306 := rfl
theorem cw_1314 : CW 1314 := rfl
theorem cw_1322 : CW 1322 := rfl
theorem cw_1331 : CW 1331 := rfl
theorem cw_1337 : CW 1337 := rfl
theorem cws_6 : ∀ m ∈ ([1154, 1162, 1169, 1178, 1187, 1195, 1200, 1210, 1217, 1226, 1233, 1240, 1251, 1258, 1266, 1275, 1283, 1290, 1298, 1306, 1314, 1322, 1331, 1337] : List Nat), CW m := List.forall_mem_cons.mpr ⟨cw_1154, List.forall_mem_cons.mpr ⟨cw_1162, List.forall_mem_cons.mpr ⟨cw_1169, List.forall_mem_cons.mpr ⟨cw_1178, List.forall_mem_cons.mpr ⟨cw_1187, List.forall_mem_cons.mpr ⟨cw_1195, List.forall_mem_cons.mpr ⟨cw_1200, List.forall_mem_cons.mpr ⟨cw_1210, List.forall_mem_cons.mpr ⟨cw_1217, List.forall_mem_cons.mpr ⟨cw_1226, List.forall_mem_cons.mpr ⟨cw_1233, List.forall_mem_cons.mpr ⟨cw_1240, List.forall_mem_cons.mpr ⟨cw_1251, List.forall_mem_cons.mpr ⟨cw_1258, List.forall_mem_cons.mpr ⟨cw_1266, List.forall_mem_cons.mpr ⟨cw_1275, List.forall_mem_cons.mpr ⟨cw_1283, List.forall_mem_cons.mpr ⟨cw_1290, List.forall_mem_cons.mpr ⟨cw_1298, List.forall_mem_cons.mpr ⟨cw_1306, List.forall_mem_cons.mpr ⟨cw_1314, List.forall_mem_cons.mpr ⟨cw_1322, List.forall_mem_cons.mpr ⟨cw_1331, List.forall_mem_cons.mpr ⟨cw_1337, fun _ h => absurd h List.not_mem_nil⟩⟩⟩⟩⟩⟩⟩⟩⟩⟩⟩⟩⟩⟩⟩⟩⟩⟩⟩⟩⟩⟩⟩⟩
theorem mids_7 : ((mids.drop 168).take 24).all okM1 = true := by decide +kernel
theorem cw_1348 : CW 1348 := rfl
theorem cw_1354 : CW 1354 := rfl
theorem cw_1363 : CW 1363 := rfl
theorem cw_1371 : CW 1371 := rfl
theorem cw_1379 : CW 1379 := rfl
theorem cw_1387 : CW 1387 := rfl
theorem cw_1394 : CW 1394 := rfl
theorem cw_1402 : CW 1402 := rfl
theorem cw_1409 : CW 1409 := rfl
theorem cw_1418 : CW 1418 := rfl
theorem cw_1427 : CW 1427 := rfl
theorem cw_1433 : CW 1433 := rfl
theorem cw_1441 : CW 1441 := rfl
theorem cw_1449 : CW 1449 := rfl
theorem cw_1457 : CW 1457 := rfl
theorem cw_1465 : CW 1465 := rfl
theorem cw_1473 : CW 1473 := rfl
theorem cw_1481 : CW 1481 := rfl
theorem cw_1489 : CW 1489 := rfl
theorem cw_1497 : CW 1497 := rfl
theorem cw_1505 : CW 1505 := rfl
theorem cw_1513 : CW 1513 := rfl
theorem cw_1521 : CW 1521 := rfl
theorem cw_1528 : CW 1528 := rfl
theorem cws_7 : ∀ m ∈ ([1348, 1354, 1363, 1371, 1379, 1387, 1394, 1402, 1409, 1418, 1427, 1433, 1441, 1449, 1457, 1465, 1473, 1481, 1489, 1497, 1505, 1513, 1521, 1528] : List Nat), CW m := List.forall_mem_cons.mpr ⟨cw_1348, List.forall_mem_cons.mpr ⟨cw_1354, List.forall_mem_cons.mpr ⟨cw_1363, List.forall_mem_cons.mpr ⟨cw_1371, List.forall_mem_cons.mpr ⟨cw_1379, List.forall_mem_cons.mpr ⟨cw_1387, List.forall_mem_cons.mpr ⟨cw_1394, List.forall_mem_cons.mpr ⟨cw_1402, List.forall_mem_cons.mpr ⟨cw_1409, List.forall_mem_cons.mpr ⟨cw_1418, List.forall_mem_cons.mpr ⟨cw_1427, List.forall_mem_cons.mpr ⟨cw_1433, List.forall_mem_cons.mpr ⟨cw_1441, List.forall_mem_cons.mpr ⟨cw_1449, List.forall_mem_cons.mpr ⟨cw_1457, List.forall_mem_cons.mpr ⟨cw_1465, List.forall_mem_cons.mpr ⟨cw_1473, List.forall_mem_cons.mpr ⟨cw_1481, List.forall_mem_cons.mpr ⟨cw_1489, List.forall_mem_cons.mpr ⟨cw_1497, List.forall_mem_cons.mpr ⟨cw_1505, List.forall_mem_cons.mpr ⟨cw_1513, List.forall_mem_cons.mpr ⟨cw_1521, List.forall_mem_cons.mpr ⟨cw_1528, fun _ h => absurd h List.not_mem_nil⟩⟩⟩⟩⟩⟩⟩⟩⟩⟩⟩⟩⟩⟩⟩⟩⟩⟩⟩⟩⟩⟩⟩⟩
theorem mids_8 : ((mids.drop 192).take 24).all okM1 = true := by decide +kernel
theorem cw_1536 : CW 1536 := rfl
theorem cw_1544 : CW 1544 := rfl
theorem cw_1552 : CW 1552 := rfl
theorem cw_1560 : CW 1560 := rfl
theorem cw_1569 : CW 1569 := rfl
theorem cw_1576 : CW 1576 := rfl
theorem cw_1588 : CW 1588 := rfl
theorem cw_1593 : CW 1593 := rfl
theorem cw_1601 : CW 1601 := rfl
theorem cw_1609 : CW 1609 := rfl
theorem cw_1617 : CW 1617 := rfl
theorem cw_1626 : CW 1626 := rfl
theorem cw_1633 : CW 1633 := rfl
theorem cw_1641 : CW 1641 := rfl
theorem cw_1649 : CW 1649 := rfl
theorem cw_1657 : CW 1657 := rfl
theorem cw_1664 : CW 1664 := rfl
theorem cw_1672 : CW 1672 := rfl
theorem cw_1681 : CW 1681 := rfl
theorem cw_1688 : CW 1688 := rfl
theorem cw_1696 : CW 1696 := rfl
theorem cw_1704 : CW 1704 := rfl
theorem cw_1713 : CW 1713 := rfl
theorem cw_1722 : CW 1722 := rfl
theorem cws_8 : ∀ m ∈ ([1536, 1544, 1552, 1560, 1569, 1576, 1588, 1593, 1601, 1609, 1617, 1626, 1633, 1641, 1649, 1657, 1664, 1672, 1681, 1688, 1696, 1704, 1713, 1722] : List Nat), CW m := List.forall_mem_cons.mpr ⟨cw_1536, List.forall_mem_cons.mpr ⟨cw_1544, List.forall_mem_cons.mpr ⟨cw_1552, List.forall_mem_cons.mpr ⟨cw_1560, List.forall_mem_cons.mpr ⟨cw_1569, List.forall_mem_cons.mpr ⟨cw_1576, List.forall_mem_cons.mpr ⟨cw_1588, List.forall_mem_cons.mpr ⟨cw_1593, List.forall_mem_cons.mpr ⟨cw_1601, List.forall_mem_cons.mpr ⟨cw_1609, List.forall_mem_cons.mpr ⟨cw_1617, List.forall_mem_cons.mpr ⟨cw_1626, List.forall_mem_cons.mpr ⟨cw_1633, List.forall_mem_cons.mpr ⟨cw_1641, List.forall_mem_cons.mpr ⟨cw_1649, List.forall_mem_cons.mpr ⟨cw_1657, List.forall_mem_cons.mpr ⟨cw_1664, List.forall_mem_cons.mpr ⟨cw_1672, List.forall_mem_cons.mpr ⟨cw_1681, List.forall_mem_cons.mpr ⟨cw_1688, List.forall_mem_cons.mpr ⟨cw_1696, List.forall_mem_cons.mpr ⟨cw_1704, List.forall_mem_cons.mpr ⟨cw_1713, List.forall_mem_cons.mpr ⟨cw_1722, fun _ h => absurd h List.not_mem_nil⟩⟩⟩⟩⟩⟩⟩⟩⟩⟩⟩⟩⟩⟩⟩⟩⟩⟩⟩⟩⟩⟩⟩⟩
theorem mids_9 : ((mids.drop 216).take 24).all okM1 = true := by decide +kernel
theorem cw_1730 : CW 1730 := rfl
theorem cw_1737 : CW 1737 := rfl
theorem cw_1744 : CW 1744 := rfl
theorem cw_1752 : CW 1752 := rfl
theorem cw_1760 : CW 1760 := rfl
theorem cw_1769 : CW 1769 := rfl
theorem cw_1777 : CW 1777 := rfl
theorem cw_1784 : CW 1784 := rfl
theorem cw_1793 : CW 1793 := rfl
theorem cw_1801 : CW 1801 := rfl
theorem cw_1817 : CW 1817 := rfl
theorem cw_1825 : CW 1825 := rfl
theorem cw_1833 : CW 1833 := rfl
theorem cw_1842 : CW 1842 := rfl
theorem cw_1850 : CW 1850 := rfl
theorem cw_1857 : CW 1857 := rfl
theorem cw_1864 : CW 1864 := rfl
theorem cw_1873 : CW 1873 := rfl
theorem cw_1884 : CW 1884 := rfl
theorem cw_1888 : CW 1888 := rfl
theorem cw_1897 : CW 1897 := rfl
theorem cw_1905 : CW 1905 := rfl
theorem cw_1913 : CW 1913 := rfl
theorem cw_1920 : CW 1920 := rfl
theorem cws_9 : ∀ m ∈ ([1730, 1737, 1744, 1752, 1760, 1769, 1777, 1784, 1793, 1801, 1817, 1825, 1833, 1842, 1850, 1857, 1864, 1873, 1884, 1888, 1897, 1905, 1913, 1920] : List Nat), CW m := List.forall_mem_cons.mpr ⟨cw_1730, List.forall_mem_cons.mpr ⟨cw_1737, List.forall_mem_cons.mpr ⟨cw_1744, List.forall_mem_cons.mpr ⟨cw_1752, List.forall_mem_cons.mpr ⟨cw_1760, List.forall_mem_cons.mpr ⟨cw_1769, List.forall_mem_cons.mpr ⟨cw_1777, List.forall_mem_cons.mpr ⟨cw_1784, List.forall_mem_cons.mpr ⟨cw_1793, List.forall_mem_cons.mpr ⟨cw_1801, List.forall_mem_cons.mpr ⟨cw_1817, List.forall_mem_cons.mpr ⟨cw_1825, List.forall_mem_cons.mpr ⟨cw_1833, List.forall_mem_cons.mpr ⟨cw_1842, List.forall_mem_cons.mpr ⟨cw_1850, List.forall_mem_cons.mpr ⟨cw_1857, List.forall_mem_cons.mpr ⟨cw_1864, List.forall_mem_cons.mpr ⟨cw_1873, List.forall_mem_cons.mpr ⟨cw_1884, List.forall_mem_cons.mpr ⟨cw_1888, List.forall_mem_cons.mpr ⟨cw_1897, List.forall_mem_cons.mpr ⟨cw_1905, List.forall_mem_cons.mpr ⟨cw_1913, List.forall_mem_cons.mpr ⟨cw_1920, fun _ h => absurd h List.not_mem_nil⟩⟩⟩⟩⟩⟩⟩⟩⟩⟩⟩⟩⟩⟩⟩⟩⟩⟩⟩⟩⟩⟩⟩⟩
theorem mids_10 : ((mids.drop 240).take 24).all okM1 = true := by decide +kernel
theorem cw_1930 : CW 1930 := rfl
theorem cw_1937 : CW 1937 := rfl
theorem cw_1946 : CW 1946 := rfl
theorem cw_1953 : CW 1953 := rfl
theorem cw_1960 : CW 1960 := rfl
theorem cw_1971 : CW 1971 := rfl
theorem cw_1978 : CW 1978 := rfl
theorem cw_1985 : CW 1985 := rfl
theorem cw_1994 : CW 1994 := rfl
theorem cw_2002 : CW 2002 := rfl
theorem cw_2010 : CW 2010 := rfl
theorem cw_2018 : CW 2018 := rfl
theorem cw_2024 : CW 2024 := rfl
theorem cw_2035 : CW 2035 := rfl
theorem cw_2042 : CW 2042 := rfl
theorem cw_2049 : CW 2049 := rfl
theorem cw_2058 : CW 2058 := rfl
theorem cw_2064 : CW 2064 := rfl
theorem cw_2075 : CW 2075 := rfl
theorem cw_2082 : CW 2082 := rfl
theorem cw_2089 : CW 2089 := rfl
theorem cw_2098 : CW 2098 := rfl
theorem cw_2106 : CW 2106 := rfl
theorem cw_2112 : CW 2112 := rfl
theorem cws_10 : ∀ m ∈ ([1930, 1937, 1946, 1953, 1960, 1971, 1978, 1985, 1994, 2002, 2010, 2018, 2024, 2035, 2042, 2049, 2058, 2064, 2075, 2082, 2089, 2098, 2106, 2112] : List Nat), CW m := List.forall_mem_cons.mpr ⟨cw_1930, List.forall_mem_cons.mpr ⟨cw_1937, List.forall_mem_cons.mpr ⟨cw_1946, List.forall_mem_cons.mpr ⟨cw_1953, List.forall_mem_cons.mpr ⟨cw_1960, List.forall_mem_cons.mpr ⟨cw_1971, List.forall_mem_cons.mpr ⟨cw_1978, List.forall_mem_cons.mpr ⟨cw_1985, List.forall_mem_cons.mpr ⟨cw_1994, List.forall_mem_cons.mpr ⟨cw_2002, List.forall_mem_cons.mpr ⟨cw_2010, List.forall_mem_cons.mpr ⟨cw_2018, List.forall_mem_cons.mpr ⟨cw_2024, List.forall_mem_cons.mpr ⟨cw_2035, List.forall_mem_cons.mpr ⟨cw_2042, List.forall_mem_cons.mpr ⟨cw_2049, List.forall_mem_cons.mpr ⟨cw_2058, List.forall_mem_cons.mpr ⟨cw_2064, List.forall_mem_cons.mpr ⟨cw_2075, List.forall_mem_cons.mpr ⟨cw_2082, List.forall_mem_cons.mpr ⟨cw_2089, List.forall_mem_cons.mpr ⟨cw_2098, List.forall_mem_cons.mpr ⟨cw_2106, List.forall_mem_cons.mpr ⟨cw_2112, fun _ h => absurd h List.not_mem_nil⟩⟩⟩⟩⟩⟩⟩⟩⟩⟩⟩⟩⟩⟩⟩⟩⟩⟩⟩⟩⟩⟩⟩⟩
theorem mids_11 : ((mids.drop 264).take 24).all okM1 = true := by decide +kernel
theorem cw_2123 : CW 2123 := rfl
theorem cw_2130 : CW 2130 := rfl
theorem cw_2137 : CW 2137 := rfl
theorem cw_2146 : CW 2146 := rfl
theorem cw_2154 : CW 2154 := rfl
theorem cw_2160 : CW 2160 := rfl
theorem cw_2171 : CW 2171 := rfl
theorem cw_2178 : CW 2178 := rfl
theorem cw_2185 : CW 2185 := rfl
theorem cw_2194 : CW 2194 := rfl
theorem cw_2202 : CW 2202 := rfl
theorem cw_2208 : CW 2208 := rfl
theorem cw_2219 : CW 2219 := rfl
theorem cw_2226 : CW 2226 := rfl
theorem cw_2233 : CW 2233 := rfl
theorem cw_2242 : CW 2242 := rfl
theorem cw_2250 : CW 2250 := rfl
theorem cw_2257 : CW 2257 := rfl
theorem cw_2265 : CW 2265 := rfl
theorem cw_2273 : CW 2273 := rfl
theorem cws_11 : ∀ m ∈ ([2123, 2130, 2137, 2146, 2154, 2160, 2171, 2178, 2185, 2194, 2202, 2208, 2219, 2226, 2233, 2242, 2250, 2257, 2265, 2273] : List Nat), CW m := List.forall_mem_cons.mpr ⟨cw_2123, List.forall_mem_cons.mpr ⟨cw_2130, List.forall_mem_cons.mpr ⟨cw_2137, List.forall_mem_cons.mpr ⟨cw_2146, List.forall_mem_cons.mpr ⟨cw_2154, List.forall_mem_cons.mpr ⟨cw_2160, List.forall_mem_cons.mpr ⟨cw_2171, List.forall_mem_cons.mpr ⟨cw_2178, List.forall_mem_cons.mpr ⟨cw_2185, List.forall_mem_cons.mpr ⟨cw_2194, List.forall_mem_cons.mpr ⟨cw_2202, List.forall_mem_cons.mpr ⟨cw_2208, List.forall_mem_cons.mpr ⟨cw_2219, List.forall_mem_cons.mpr ⟨cw_2226, List.forall_mem_cons.mpr ⟨cw_2233, List.forall_mem_cons.mpr ⟨cw_2242, List.forall_mem_cons.mpr ⟨cw_2250, List.forall_mem_cons.mpr ⟨cw_2257, List.forall_mem_cons.mpr ⟨cw_2265, List.forall_mem_cons.mpr ⟨cw_2273, fun _ h => absurd h List.not_mem_nil⟩⟩⟩⟩⟩⟩⟩⟩⟩⟩⟩⟩⟩⟩⟩⟩⟩⟩⟩⟩
theorem mids_ok : ∀ m ∈ mids, okM m = true := by
  have e : mids = (mids.drop 0).take 24 ++ ((mids.drop 24).take 24 ++ ((mids.drop 48).take 24 ++ ((mids.drop 72).take 24 ++ ((mids.drop 96).take 24 ++ ((mids.drop 120).take 24 ++ ((mids.drop 144).take 24 ++ ((mids.drop 168).take 24 ++ ((mids.drop 192).take 24 ++ ((mids.drop 216).take 24 ++ ((mids.drop 240).take 24 ++ ((mids.drop 264).take 24))))))))))) := by decide +kernel
  intro m hm
  rw [e] at hm
  simp only [List.mem_append] at hm
  rcases hm with h | h | h | h | h | h | h | h | h | h | h | h
  · exact okM1_ok (cws_0 m h) (List.all_eq_true.mp mids_0 m h)
  · exact okM1_ok (cws_1 m h) (List.all_eq_true.mp mids_1 m h)
  · exact okM1_ok (cws_2 m h) (List.all_eq_true.mp mids_2 m h)
  · exact okM1_ok (cws_3 m h) (List.all_eq_true.mp mids_3 m h)
  · exact okM1_ok (cws_4 m h) (List.all_eq_true.mp mids_4 m h)
  · exact okM1_ok (cws_5 m h) (List.all_eq_true.mp mids_5 m h)
  · exact okM1_ok (cws_6 m h) (List.all_eq_true.mp mids_6 m h)
  · exact okM1_ok (cws_7 m h) (List.all_eq_true.mp mids_7 m h)
  · exact okM1_ok (cws_8 m h) (List.all_eq_true.mp mids_8 m h)
  · exact okM1_ok (cws_9 m h) (List.all_eq_true.mp mids_9 m h)
  · exact okM1_ok (cws_10 m h) (List.all_eq_true.mp mids_10 m h)
  · exact okM1_ok (cws_11 m h) (List.all_eq_true.mp mids_11 m h)
def z0 : Nat → Nat := fun _ => 0
def okX1 (x t : Nat) : Bool :=
  isTg t && wGd (pxo x).2.1 (.sameMethod (pxn x).cls (pnm (pxo x).1).cls (pxn x).name (pxn x).desc) && wGd (pxs x t) (.selects (pC t) (pxn x) (pnm (pbsel x t))) && mids.contains (pbsel x t) && !pst (pbsel x t)
  && decide (pnm (pxo x).1 = ⟨(pnm (pxo x).1).cls, (pxn x).name, (pxn x).desc⟩) && mids.contains (pxo x).1 && !pst (pxo x).1 && dscs.contains ((pxn x).desc, x % 8) && decide (pbsel x t % 8 = x % 8)
theorem mid_ok {m : Nat} (h : mids.contains m = true) : okM m = true := mids_ok m (by simpa using h)
theorem okX1_ok {x t : Nat} (h : okX1 x t = true) : okX x t = true := by
  simp only [okX1, Bool.and_eq_true, decide_eq_true_eq] at h
  obtain ⟨⟨⟨⟨⟨⟨⟨⟨⟨h1, h2⟩, h3⟩, h4⟩, h5⟩, h6⟩, h7⟩, h8⟩, h9⟩, h10⟩ := h
  simp only [okX, Bool.and_eq_true, decide_eq_true_eq]
  exact ⟨⟨⟨⟨⟨⟨⟨⟨⟨h1, h2⟩, h3⟩, mid_ok h4⟩, h5⟩, h6⟩, mid_ok h7⟩, h8⟩, dsc_ok h9⟩, h10⟩
def chk0 (own : String) (i m pl : Nat) : Bool := mids.contains m && (pst m && (wGd pl (.methodLink own i (pnm m)) || wNs pl (.methodLinkNest own i (pnm m) "DreamNets")))
def chk1 (own : String) (i m pl : Nat) : Bool := mids.contains m && (!pst m && (((pnm m).name == "<init>" && decide (pret m = none) && (wGd pl (.methodLink own i (pnm m)) || wNs pl (.methodLinkNest own i (pnm m) "DreamNets"))) || (!((pnm m).name == "<init>") && (supOk own i pl (pnm m)))))
def chk2 (own : String) (i x pl : Nat) : Bool := if 10000 ≤ x then isTg (x / 10000) && mids.contains (x % 10000) && !pst (x % 10000) && decide ((pnm (x % 10000)).cls = pC (x / 10000)) && decide (x % 8 = x % 10000 % 8) && wGd (pmw (x % 10000)).2.2.2 (.selects (pC (x / 10000)) (pnm (x % 10000)) (pnm (x % 10000))) && wGd pl (.methodLink own i (pnm (x % 10000)))
  else wGd pl (.methodLink own i (pxn x)) && (List.range 16).all (fun t => pbsel x t == 0 || okX1 x t)
theorem chk0_ok {own : String} {i m pl : Nat} {ini : Bool} {nL : Nat} {pcOf : Nat → Nat} {pc : Nat} (h : chk0 own i m pl = true) : okI own ini nL pcOf pc (.invokestatic i) 3 pl (.invokestatic m) = true := by
  simp only [chk0, Bool.and_eq_true] at h
  simp only [okI, Bool.and_eq_true]
  exact ⟨⟨mid_ok h.1, h.2.1⟩, rfl, h.2.2⟩
theorem chk1_ok {own : String} {i m pl : Nat} {ini : Bool} {nL : Nat} {pcOf : Nat → Nat} {pc : Nat} (h : chk1 own i m pl = true) : okI own ini nL pcOf pc (.invokespecial i) 3 pl (.invokespecial m) = true := by
  simp only [chk1, Bool.and_eq_true] at h
  simp only [okI, Bool.and_eq_true]
  exact ⟨⟨mid_ok h.1, h.2.1⟩, rfl, h.2.2⟩
theorem chk2_ok {own : String} {i x pl : Nat} {ini : Bool} {nL : Nat} {pcOf : Nat → Nat} {pc : Nat} (h : chk2 own i x pl = true) : okI own ini nL pcOf pc (.invokevirtual i) 3 pl (.invokevirtual x) = true := by
  unfold chk2 at h
  simp only [okI, Bool.and_eq_true]
  refine ⟨rfl, ?_⟩
  by_cases hb : 10000 ≤ x
  · rw [if_pos hb] at h ⊢
    simp only [Bool.and_eq_true, decide_eq_true_eq] at h ⊢
    obtain ⟨⟨⟨⟨⟨⟨h1, h2⟩, h3⟩, h4⟩, h5⟩, h6⟩, h7⟩ := h
    exact ⟨⟨⟨⟨⟨⟨h1, mid_ok h2⟩, h3⟩, h4⟩, h5⟩, h6⟩, h7⟩
  · rw [if_neg hb] at h ⊢
    simp only [Bool.and_eq_true, List.all_eq_true, Bool.or_eq_true] at h ⊢
    exact ⟨h.1, fun t ht => (h.2 t ht).imp_right okX1_ok⟩
theorem fls_ok : (List.range 15).all (fun c => (fls c).all (fun q => okI (cnm c) false 0 z0 0 (.getfield q.1) 3 q.2.2 (.getfield q.2.1))) = true := by decide +kernel
theorem pls_ok : (List.range 15).all (fun c => (pls c).all (fun q => okI (cnm c) (q.2.2.2 == 1) 0 z0 0 (.putfield q.1) 3 q.2.2.1 (.putfield q.2.1))) = true := by decide +kernel
theorem ml0_ok : (List.range 15).all (fun c => (ml0 c).all (fun q => chk0 (cnm c) q.1 q.2.1 q.2.2)) = true := by decide +kernel
theorem ml1_ok : (List.range 15).all (fun c => (ml1 c).all (fun q => chk1 (cnm c) q.1 q.2.1 q.2.2)) = true := by decide +kernel
theorem ml2_ok_0 : (ml2 0).all (fun q => chk2 (cnm 0) q.1 q.2.1 q.2.2) = true := by decide +kernel
theorem ml2_ok_1 : (ml2 1).all (fun q => chk2 (cnm 1) q.1 q.2.1 q.2.2) = true := by decide +kernel
theorem ml2_ok_2 : (ml2 2).all (fun q => chk2 (cnm 2) q.1 q.2.1 q.2.2) = true := by decide +kernel
theorem ml2_ok_3 : (ml2 3).all (fun q => chk2 (cnm 3) q.1 q.2.1 q.2.2) = true := by decide +kernel
theorem ml2_ok_4 : (ml2 4).all (fun q => chk2 (cnm 4) q.1 q.2.1 q.2.2) = true := by decide +kernel
theorem ml2_ok_5 : (ml2 5).all (fun q => chk2 (cnm 5) q.1 q.2.1 q.2.2) = true := by decide +kernel
theorem ml2_ok_6 : (ml2 6).all (fun q => chk2 (cnm 6) q.1 q.2.1 q.2.2) = true := by decide +kernel
theorem ml2_ok_7 : (ml2 7).all (fun q => chk2 (cnm 7) q.1 q.2.1 q.2.2) = true := by decide +kernel
theorem ml2_ok_8 : (ml2 8).all (fun q => chk2 (cnm 8) q.1 q.2.1 q.2.2) = true := by decide +kernel
theorem ml2_ok_9 : (ml2 9).all (fun q => chk2 (cnm 9) q.1 q.2.1 q.2.2) = true := by decide +kernel
theorem ml2_ok_10 : (ml2 10).all (fun q => chk2 (cnm 10) q.1 q.2.1 q.2.2) = true := by decide +kernel
theorem ml2_ok_11 : (ml2 11).all (fun q => chk2 (cnm 11) q.1 q.2.1 q.2.2) = true := by decide +kernel
theorem ml2_ok_12 : (ml2 12).all (fun q => chk2 (cnm 12) q.1 q.2.1 q.2.2) = true := by decide +kernel
theorem ml2_ok_13 : (ml2 13).all (fun q => chk2 (cnm 13) q.1 q.2.1 q.2.2) = true := by decide +kernel
theorem ml2_ok_14 : (ml2 14).all (fun q => chk2 (cnm 14) q.1 q.2.1 q.2.2) = true := by decide +kernel
theorem ml2_ok : ∀ c, c < 15 → (ml2 c).all (fun q => chk2 (cnm c) q.1 q.2.1 q.2.2) = true := by
  intro c hc
  match c, hc with
  | 0, _ => exact ml2_ok_0
  | 1, _ => exact ml2_ok_1
  | 2, _ => exact ml2_ok_2
  | 3, _ => exact ml2_ok_3
  | 4, _ => exact ml2_ok_4
  | 5, _ => exact ml2_ok_5
  | 6, _ => exact ml2_ok_6
  | 7, _ => exact ml2_ok_7
  | 8, _ => exact ml2_ok_8
  | 9, _ => exact ml2_ok_9
  | 10, _ => exact ml2_ok_10
  | 11, _ => exact ml2_ok_11
  | 12, _ => exact ml2_ok_12
  | 13, _ => exact ml2_ok_13
  | 14, _ => exact ml2_ok_14
def okF (cn : Nat) (ini : Bool) (nL : Nat) (pcOf : Nat → Nat) (pc : Nat) (raw : Instr) (len pl : Nat) (res : Instr) : Bool :=
  match res, raw with
  | .getfield n, .getfield i => len == 3 && (fls cn).contains (i, n, pl)
  | .putfield n, .putfield i => len == 3 && (pls cn).contains (i, n, pl, bif ini then 1 else 0)
  | .invokestatic m, .invokestatic i => len == 3 && (ml0 cn).contains (i, m, pl)
  | .invokespecial m, .invokespecial i => len == 3 && (ml1 cn).contains (i, m, pl)
  | .invokevirtual m, .invokevirtual i => len == 3 && (ml2 cn).contains (i, m, pl)
  | _, _ => okI (cnm cn) ini nL pcOf pc raw len pl res
set_option maxHeartbeats 16000000 in
theorem okF_ok {cn : Nat} (hc : cn < 15) {ini : Bool} {nL : Nat} {pcOf : Nat → Nat} {pc : Nat} {raw : Instr} {len pl : Nat} {res : Instr} (h : okF cn ini nL pcOf pc raw len pl res = true) : okI (cnm cn) ini nL pcOf pc raw len pl res = true := by
  have hm := List.mem_range.mpr hc
  unfold okF at h
  split at h
  · simp only [Bool.and_eq_true, beq_iff_eq, List.contains_iff_mem] at h
    obtain ⟨rfl, h⟩ := h
    exact List.all_eq_true.mp (List.all_eq_true.mp fls_ok cn hm) _ h
  · simp only [Bool.and_eq_true, beq_iff_eq, List.contains_iff_mem] at h
    obtain ⟨rfl, h⟩ := h
    have := List.all_eq_true.mp (List.all_eq_true.mp pls_ok cn hm) _ h
    cases ini <;> exact this
  · simp only [Bool.and_eq_true, beq_iff_eq, List.contains_iff_mem] at h
    obtain ⟨rfl, h⟩ := h
    exact chk0_ok (List.all_eq_true.mp (List.all_eq_true.mp ml0_ok cn hm) _ h)
  · simp only [Bool.and_eq_true, beq_iff_eq, List.contains_iff_mem] at h
    obtain ⟨rfl, h⟩ := h
    exact chk1_ok (List.all_eq_true.mp (List.all_eq_true.mp ml1_ok cn hm) _ h)
  · simp only [Bool.and_eq_true, beq_iff_eq, List.contains_iff_mem] at h
    obtain ⟨rfl, h⟩ := h
    exact chk2_ok (List.all_eq_true.mp (ml2_ok cn hc) _ h)
  · exact h
def okBF (cn : Nat) (ini : Bool) (nL : Nat) (bytes : ByteArray) (pcOf : Nat → Nat) : Nat → List (Instr × Nat × Nat) → List Instr → Bool
  | _, [], [] => true
  | pc, [], [.jsr b] => pcOf b.toNat == pc
  | pc, r :: rs, i :: is => decide (decode bytes pc = .ok (r.1, r.2.1)) && (okF cn ini nL pcOf pc r.1 r.2.1 r.2.2 i && okBF cn ini nL bytes pcOf (pc + r.2.1) rs is)
  | _, _, _ => false
theorem okBF_ok {cn : Nat} (hc : cn < 15) {ini : Bool} {nL : Nat} {bytes : ByteArray} {pcOf : Nat → Nat} : ∀ (rs : List (Instr × Nat × Nat)) (pc : Nat) (is : List Instr), okBF cn ini nL bytes pcOf pc rs is = true → okB (cnm cn) ini nL bytes pcOf pc rs is = true
  | [], pc, is, h => by
    unfold okBF at h
    unfold okB
    split at h
    · rfl
    · exact h
    · rename_i h0
      cases h0
    · cases h
  | r :: rs, pc, [], h => by simp [okBF] at h
  | r :: rs, pc, i :: is, h => by
    simp only [okBF, Bool.and_eq_true] at h
    simp only [okB, Bool.and_eq_true]
    exact ⟨h.1, okF_ok hc h.2.1, okBF_ok hc rs _ is h.2.2⟩
def okMF (m b : Nat) : Bool := okBF (pcn m) ((pnm m).name == "<init>") (pnl m) (pcd m) (ppc m) (ppc m b) (praw m b) (pblk m b)
def okFs (q : Nat × Nat) : Bool := ppc q.1 0 == 0 && decide (cnm (pcn q.1) = (pnm q.1).cls) && Nat.blt (pcn q.1) 15 && (List.range q.2).all (okMF q.1)
theorem okFs_ok {q : Nat × Nat} (h : okFs q = true) : okMs q = true := by
  simp only [okFs, Bool.and_eq_true, decide_eq_true_eq, List.all_eq_true] at h
  obtain ⟨⟨⟨h1, h2⟩, h3⟩, h4⟩ := h
  simp only [okMs, Bool.and_eq_true, List.all_eq_true]
  refine ⟨h1, fun b hb => ?_⟩
  have := okBF_ok (Nat.ble_eq.mp h3) _ _ _ (h4 b hb)
  unfold okMB
  rw [h2] at this
  exact this
end
