/-! the words of the law among the tables -/
theorem lw_inr (ws : List Cond) (ps : List Nat) (hp : ws = ps.filterMap (fun i => lw_tbl[i]?)) : ∀ w ∈ ws, w ∈ lw_tbl := fun w hw => by
  rw [hp] at hw
  obtain ⟨i, -, hi⟩ := List.mem_filterMap.mp hw
  exact List.mem_of_getElem? hi
theorem sel_priv2 {C : String} {y x0 y0 : MethodName} {s : State} {args : Array Value} (hy : y.cls ≠ "java/lang/invoke/MethodHandle" ∧ y.cls ≠ "java/lang/invoke/VarHandle") (h0 : (Cond.selects C x0 y0).before args s = true) (hc0 : y0.cls = y.cls) (hpriv : (Cond.privateMethod y).before args s = true) (hinst : (Cond.instanceMethod y).before args s = true) : (Cond.selects C y y).before args s = true := by
  obtain ⟨c2, r2, m2, q1, q2, q3, q4, kP, hkP, hkPi⟩ := Cond.selects_spec h0
  obtain ⟨mk, methM, hnamed, hmethM, -, -⟩ := Cond.instanceMethod_spec hinst
  have hfound : s.methodFound? y.cls y.name y.desc = some mk := State.methodFound?_of_named hnamed hy
  have hcls : mk.cls = m2.cls := Option.some.inj ((findClass_of_methodNamed hnamed).symm.trans (by rw [← hc0]; exact findClass_of_methodNamed q3))
  have hsel : selectMethod {} s.vm c2 mk = .method mk := selectMethod_private hmethM (Cond.privateMethod_at hpriv mk methM hnamed hmethM)
  rw [← hcls] at hkP
  simp only [Cond.before, Cond.holds, Cond.value, q1, hfound, hnamed, hsel, hkP]
  simp; exact hkPi
set_option maxRecDepth 20000 in
theorem wsL_law0_r1_in : ∀ w ∈ wsL_law0_r1, w ∈ lw_tbl := lw_inr _ [44, 45, 13, 1124, 1125, 34, 1024, 1025, 28, 1026, 1023, 901, 902, 1041, 431, 432, 46, 47, 48, 49, 50, 51, 52, 53] (by decide +kernel)
set_option maxRecDepth 20000 in
theorem wsL_law0_r2_in : ∀ w ∈ wsL_law0_r2, w ∈ lw_tbl := lw_inr _ [14, 260, 176, 177, 17, 261, 186, 187, 18, 262, 263, 264, 265, 202, 203, 19, 266, 258, 209, 20, 222, 267, 268, 269] (by decide +kernel)
set_option maxRecDepth 20000 in
theorem wsL_law0_r3_in : ∀ w ∈ wsL_law0_r3, w ∈ lw_tbl := lw_inr _ [54, 55, 56, 57, 58, 149, 60, 15, 84, 152, 86, 16, 62, 63, 64, 88, 89, 90, 178, 179, 180, 181, 182, 188] (by decide +kernel)
set_option maxRecDepth 20000 in
theorem wsL_law0_r4_in : ∀ w ∈ wsL_law0_r4, w ∈ lw_tbl := lw_inr _ [189, 190, 191, 192, 195, 194, 204, 205, 206, 207, 208, 245, 223, 246, 225, 21, 210, 211, 212, 213, 214, 227, 228, 229] (by decide +kernel)
set_option maxRecDepth 20000 in
theorem wsL_law0_r5_in : ∀ w ∈ wsL_law0_r5, w ∈ lw_tbl := lw_inr _ [259, 843, 844, 12, 845, 769, 770, 771, 772, 773, 774, 846, 847, 848, 849, 850, 851, 852, 853, 854, 673, 25, 855, 856] (by decide +kernel)
set_option maxRecDepth 20000 in
theorem wsL_law0_r6_in : ∀ w ∈ wsL_law0_r6, w ∈ lw_tbl := lw_inr _ [857, 859, 860, 861, 862, 584, 585, 26, 863, 694, 695, 696, 66, 586, 587, 588, 589, 590, 592, 593, 864, 866, 11, 867] (by decide +kernel)
set_option maxRecDepth 20000 in
theorem wsL_law0_r7_in : ∀ w ∈ wsL_law0_r7, w ∈ lw_tbl := lw_inr _ [868, 27, 884, 885, 886, 887, 196, 900, 888, 889, 890, 891, 155, 157, 158, 159, 160, 892, 893, 894, 895, 65, 69, 73] (by decide +kernel)
set_option maxRecDepth 20000 in
theorem wsL_law0_r8_in : ∀ w ∈ wsL_law0_r8, w ∈ lw_tbl := lw_inr _ [896, 897, 898, 899, 91, 95, 98, 102, 106, 110, 114, 118, 122, 125, 903, 904, 905, 906, 70, 75, 907, 908, 909, 910] (by decide +kernel)
set_option maxRecDepth 20000 in
theorem wsL_law0_r9_in : ∀ w ∈ wsL_law0_r9, w ∈ lw_tbl := lw_inr _ [591, 911, 912, 913, 487, 29, 915, 916, 917, 778, 918, 919, 920, 921, 462, 464, 5, 465, 303, 30, 466, 423, 424, 425] (by decide +kernel)
set_option maxRecDepth 20000 in
theorem wsL_law0_r10_in : ∀ w ∈ wsL_law0_r10, w ∈ lw_tbl := lw_inr _ [560, 561, 562, 563, 564, 565, 566, 567, 568, 922, 923, 924, 925, 926, 927, 929, 930, 931, 932, 96, 933, 702, 703, 704] (by decide +kernel)
set_option maxRecDepth 20000 in
theorem wsL_law0_r11_in : ∀ w ∈ wsL_law0_r11, w ∈ lw_tbl := lw_inr _ [705, 656, 657, 658, 92, 108, 934, 935, 936, 937, 103, 414, 415, 416, 417, 601, 603, 6, 604, 605, 606, 607, 608, 609] (by decide +kernel)
set_option maxRecDepth 20000 in
theorem wsL_law0_r12_in : ∀ w ∈ wsL_law0_r12, w ∈ lw_tbl := lw_inr _ [610, 611, 612, 112, 938, 939, 940, 941, 101, 117, 121, 123, 126, 472, 473, 474, 475, 942, 943, 944, 945, 946, 947, 697] (by decide +kernel)
set_option maxRecDepth 20000 in
theorem wsL_law0_r13_in : ∀ w ∈ wsL_law0_r13, w ∈ lw_tbl := lw_inr _ [698, 699, 700, 701, 634, 635, 636, 637, 154, 94, 97, 638, 639, 640, 641, 689, 690, 691, 692, 693, 948, 949, 950, 951] (by decide +kernel)
set_option maxRecDepth 20000 in
theorem wsL_law0_r14_in : ∀ w ∈ wsL_law0_r14, w ∈ lw_tbl := lw_inr _ [952, 953, 954, 667, 668, 669, 670, 671, 672, 955, 956, 957, 958, 959, 960, 961, 962, 624, 625, 626, 627, 151, 68, 72] (by decide +kernel)
set_option maxRecDepth 20000 in
theorem wsL_law0_r15_in : ∀ w ∈ wsL_law0_r15, w ∈ lw_tbl := lw_inr _ [628, 629, 630, 631, 71, 150, 67, 574, 525, 526, 527, 153, 511, 410, 411, 412, 413, 418, 420, 2, 421, 99, 107, 111] (by decide +kernel)
set_option maxRecDepth 20000 in
theorem wsL_law0_r16_in : ∀ w ∈ wsL_law0_r16, w ∈ lw_tbl := lw_inr _ [74, 422, 426, 427, 428, 429, 430, 441, 443, 3, 444, 115, 453, 455, 4, 456, 119, 457, 632, 469, 470, 471, 963, 964] (by decide +kernel)
set_option maxRecDepth 20000 in
theorem wsL_law0_r17_in : ∀ w ∈ wsL_law0_r17, w ∈ lw_tbl := lw_inr _ [965, 966, 967, 968, 969, 100, 295, 297, 0, 298, 299, 300, 301, 302, 970, 971, 972, 973, 974, 975, 976, 977, 978, 979] (by decide +kernel)
set_option maxRecDepth 20000 in
theorem wsL_law0_r18_in : ∀ w ∈ wsL_law0_r18, w ∈ lw_tbl := lw_inr _ [980, 981, 982, 983, 984, 985, 986, 987, 988, 989, 990, 991, 992, 993, 994, 995, 996, 997, 998, 999, 1000, 1001, 1002, 1003] (by decide +kernel)
set_option maxRecDepth 20000 in
theorem wsL_law0_r19_in : ∀ w ∈ wsL_law0_r19, w ∈ lw_tbl := lw_inr _ [1004, 1005, 1006, 1007, 1008, 1009, 1010, 1011, 1012, 1013, 1014, 1015, 1016, 1017, 1018, 1019, 1020, 1021, 1022, 378, 379, 380, 381, 109] (by decide +kernel)
set_option maxRecDepth 20000 in
theorem wsL_law0_r20_in : ∀ w ∈ wsL_law0_r20, w ∈ lw_tbl := lw_inr _ [382, 383, 384, 385, 113, 1027, 1028, 1029, 1030, 1031, 1032, 1033, 579, 580, 581, 582, 583, 1034, 1035, 1036, 1037, 659, 660, 661] (by decide +kernel)
set_option maxRecDepth 20000 in
theorem wsL_law0_r21_in : ∀ w ∈ wsL_law0_r21, w ∈ lw_tbl := lw_inr _ [662, 156, 458, 459, 460, 461, 468, 476, 477, 478, 479, 480, 481, 482, 483, 484, 485, 486, 1042, 1043, 1044, 1038, 1039, 1040] (by decide +kernel)
set_option maxRecDepth 20000 in
theorem wsL_law0_r22_in : ∀ w ∈ wsL_law0_r22, w ∈ lw_tbl := lw_inr _ [291, 292, 293, 294, 1045, 1046, 1047, 1048, 76, 386, 387, 388, 389, 116, 1049, 1050, 1051, 1052, 120, 374, 375, 376, 377, 104] (by decide +kernel)
set_option maxRecDepth 20000 in
theorem wsL_law0_r23_in : ∀ w ∈ wsL_law0_r23, w ∈ lw_tbl := lw_inr _ [775, 776, 777, 799, 800, 801, 802, 803, 804, 805, 806, 807, 808, 809, 810, 811, 812, 813, 814, 815, 816, 817, 818, 819] (by decide +kernel)
set_option maxRecDepth 20000 in
theorem wsL_law0_r24_in : ∀ w ∈ wsL_law0_r24, w ∈ lw_tbl := lw_inr _ [820, 821, 822, 823, 402, 403, 404, 405, 406, 407, 408, 409, 433, 434, 435, 436, 437, 438, 439, 440, 445, 446, 447, 448] (by decide +kernel)
set_option maxRecDepth 20000 in
theorem wsL_law0_r25_in : ∀ w ∈ wsL_law0_r25, w ∈ lw_tbl := lw_inr _ [449, 450, 451, 452, 642, 643, 644, 645, 646, 390, 391, 392, 393, 124, 394, 395, 396, 397, 1126, 1127, 1128, 1129, 1130, 33] (by decide +kernel)
set_option maxRecDepth 20000 in
theorem wsL_law0_r26_in : ∀ w ∈ wsL_law0_r26, w ∈ lw_tbl := lw_inr _ [1131, 1132, 1133, 373, 1141, 1142, 1134, 1135, 35, 1136, 1137, 1138, 1139, 1140, 1154, 1155, 1156, 1157, 1158, 1344, 1153, 1159, 1160, 1144] (by decide +kernel)
set_option maxRecDepth 20000 in
theorem wsL_law0_r27_ho {args : Array Value} {s : State} (htb : ∀ w ∈ lw_tbl, w.before args s = true) : ∀ w ∈ wsL_law0_r27, w.before args s = true := List.forall_mem_cons.mpr ⟨(htb _ (List.mem_of_getElem? (i := 1161) (by decide +kernel))), List.forall_mem_cons.mpr ⟨(htb _ (List.mem_of_getElem? (i := 1345) (by decide +kernel))), List.forall_mem_cons.mpr ⟨(sel_priv2 (x0 := yJ5_isLatin1_aae02) (y0 := yJ5_isLatin1_aae02) (by decide +kernel) (htb _ (List.mem_of_getElem? (i := 1199) (by decide +kernel))) rfl (htb _ (List.mem_of_getElem? (i := 1162) (by decide +kernel))) (htb _ (List.mem_of_getElem? (i := 1163) (by decide +kernel)))), List.forall_mem_cons.mpr ⟨(htb _ (List.mem_of_getElem? (i := 1163) (by decide +kernel))), List.forall_mem_cons.mpr ⟨(htb _ (List.mem_of_getElem? (i := 1164) (by decide +kernel))), List.forall_mem_cons.mpr ⟨(htb _ (List.mem_of_getElem? (i := 1165) (by decide +kernel))), List.forall_mem_cons.mpr ⟨(htb _ (List.mem_of_getElem? (i := 1346) (by decide +kernel))), List.forall_mem_cons.mpr ⟨(sel_priv2 (x0 := yJ5_isLatin1_aae02) (y0 := yJ5_isLatin1_aae02) (by decide +kernel) (htb _ (List.mem_of_getElem? (i := 1199) (by decide +kernel))) rfl (htb _ (List.mem_of_getElem? (i := 1166) (by decide +kernel))) (htb _ (List.mem_of_getElem? (i := 1167) (by decide +kernel)))), List.forall_mem_cons.mpr ⟨(htb _ (List.mem_of_getElem? (i := 1167) (by decide +kernel))), List.forall_mem_cons.mpr ⟨(htb _ (List.mem_of_getElem? (i := 1168) (by decide +kernel))), List.forall_mem_cons.mpr ⟨(htb _ (List.mem_of_getElem? (i := 1169) (by decide +kernel))), List.forall_mem_cons.mpr ⟨(htb _ (List.mem_of_getElem? (i := 1347) (by decide +kernel))), List.forall_mem_cons.mpr ⟨(sel_priv2 (x0 := yJ5_isLatin1_aae02) (y0 := yJ5_isLatin1_aae02) (by decide +kernel) (htb _ (List.mem_of_getElem? (i := 1199) (by decide +kernel))) rfl (htb _ (List.mem_of_getElem? (i := 1170) (by decide +kernel))) (htb _ (List.mem_of_getElem? (i := 1171) (by decide +kernel)))), List.forall_mem_cons.mpr ⟨(htb _ (List.mem_of_getElem? (i := 1171) (by decide +kernel))), List.forall_mem_cons.mpr ⟨(htb _ (List.mem_of_getElem? (i := 1172) (by decide +kernel))), List.forall_mem_cons.mpr ⟨(htb _ (List.mem_of_getElem? (i := 1181) (by decide +kernel))), List.forall_mem_cons.mpr ⟨(htb _ (List.mem_of_getElem? (i := 1173) (by decide +kernel))), List.forall_mem_cons.mpr ⟨(htb _ (List.mem_of_getElem? (i := 1174) (by decide +kernel))), List.forall_mem_cons.mpr ⟨(htb _ (List.mem_of_getElem? (i := 36) (by decide +kernel))), List.forall_mem_cons.mpr ⟨(htb _ (List.mem_of_getElem? (i := 1175) (by decide +kernel))), List.forall_mem_cons.mpr ⟨(htb _ (List.mem_of_getElem? (i := 1176) (by decide +kernel))), List.forall_mem_cons.mpr ⟨(htb _ (List.mem_of_getElem? (i := 1177) (by decide +kernel))), List.forall_mem_cons.mpr ⟨(htb _ (List.mem_of_getElem? (i := 1178) (by decide +kernel))), List.forall_mem_cons.mpr ⟨(htb _ (List.mem_of_getElem? (i := 1179) (by decide +kernel))), fun _ h => absurd h List.not_mem_nil⟩⟩⟩⟩⟩⟩⟩⟩⟩⟩⟩⟩⟩⟩⟩⟩⟩⟩⟩⟩⟩⟩⟩⟩
set_option maxRecDepth 20000 in
theorem wsL_law0_r28_in : ∀ w ∈ wsL_law0_r28, w ∈ lw_tbl := lw_inr _ [1180, 1182, 1183, 37, 1184, 1185, 1186, 1187, 1188, 1189, 1191, 1192, 1193, 1195, 1194, 38, 1196, 1198, 1199, 1197, 1200, 1201, 1202, 1203] (by decide +kernel)
set_option maxRecDepth 20000 in
theorem wsL_law0_r29_in : ∀ w ∈ wsL_law0_r29, w ∈ lw_tbl := lw_inr _ [1112, 1204, 1205, 1206, 1105, 1106, 1107, 1207, 1208, 32, 1209, 1094, 1210, 1211, 39, 1212, 1213, 1214, 1215, 1114, 1116, 1216, 1057, 1058] (by decide +kernel)
set_option maxRecDepth 20000 in
theorem wsL_law0_r30_ho {args : Array Value} {s : State} (htb : ∀ w ∈ lw_tbl, w.before args s = true) : ∀ w ∈ wsL_law0_r30, w.before args s = true := List.forall_mem_cons.mpr ⟨(htb _ (List.mem_of_getElem? (i := 1059) (by decide +kernel))), List.forall_mem_cons.mpr ⟨(htb _ (List.mem_of_getElem? (i := 1329) (by decide +kernel))), List.forall_mem_cons.mpr ⟨(htb _ (List.mem_of_getElem? (i := 1060) (by decide +kernel))), List.forall_mem_cons.mpr ⟨(htb _ (List.mem_of_getElem? (i := 1061) (by decide +kernel))), List.forall_mem_cons.mpr ⟨(htb _ (List.mem_of_getElem? (i := 1062) (by decide +kernel))), List.forall_mem_cons.mpr ⟨(htb _ (List.mem_of_getElem? (i := 1063) (by decide +kernel))), List.forall_mem_cons.mpr ⟨(htb _ (List.mem_of_getElem? (i := 1064) (by decide +kernel))), List.forall_mem_cons.mpr ⟨(htb _ (List.mem_of_getElem? (i := 1330) (by decide +kernel))), List.forall_mem_cons.mpr ⟨(htb _ (List.mem_of_getElem? (i := 1217) (by decide +kernel))), List.forall_mem_cons.mpr ⟨(htb _ (List.mem_of_getElem? (i := 1348) (by decide +kernel))), List.forall_mem_cons.mpr ⟨(sel_priv2 (x0 := yJ5_isLatin1_aae02) (y0 := yJ5_isLatin1_aae02) (by decide +kernel) (htb _ (List.mem_of_getElem? (i := 1199) (by decide +kernel))) rfl (htb _ (List.mem_of_getElem? (i := 1218) (by decide +kernel))) (htb _ (List.mem_of_getElem? (i := 1219) (by decide +kernel)))), List.forall_mem_cons.mpr ⟨(htb _ (List.mem_of_getElem? (i := 1219) (by decide +kernel))), List.forall_mem_cons.mpr ⟨(htb _ (List.mem_of_getElem? (i := 1220) (by decide +kernel))), List.forall_mem_cons.mpr ⟨(htb _ (List.mem_of_getElem? (i := 1221) (by decide +kernel))), List.forall_mem_cons.mpr ⟨(htb _ (List.mem_of_getElem? (i := 1349) (by decide +kernel))), List.forall_mem_cons.mpr ⟨(sel_priv2 (x0 := yJ5_isLatin1_aae02) (y0 := yJ5_isLatin1_aae02) (by decide +kernel) (htb _ (List.mem_of_getElem? (i := 1199) (by decide +kernel))) rfl (htb _ (List.mem_of_getElem? (i := 1222) (by decide +kernel))) (htb _ (List.mem_of_getElem? (i := 1223) (by decide +kernel)))), List.forall_mem_cons.mpr ⟨(htb _ (List.mem_of_getElem? (i := 1223) (by decide +kernel))), List.forall_mem_cons.mpr ⟨(htb _ (List.mem_of_getElem? (i := 1224) (by decide +kernel))), List.forall_mem_cons.mpr ⟨(htb _ (List.mem_of_getElem? (i := 1225) (by decide +kernel))), List.forall_mem_cons.mpr ⟨(htb _ (List.mem_of_getElem? (i := 1226) (by decide +kernel))), List.forall_mem_cons.mpr ⟨(htb _ (List.mem_of_getElem? (i := 1350) (by decide +kernel))), List.forall_mem_cons.mpr ⟨(sel_priv2 (x0 := yJ5_isLatin1_aae02) (y0 := yJ5_isLatin1_aae02) (by decide +kernel) (htb _ (List.mem_of_getElem? (i := 1199) (by decide +kernel))) rfl (htb _ (List.mem_of_getElem? (i := 1227) (by decide +kernel))) (htb _ (List.mem_of_getElem? (i := 1228) (by decide +kernel)))), List.forall_mem_cons.mpr ⟨(htb _ (List.mem_of_getElem? (i := 1228) (by decide +kernel))), List.forall_mem_cons.mpr ⟨(htb _ (List.mem_of_getElem? (i := 1229) (by decide +kernel))), fun _ h => absurd h List.not_mem_nil⟩⟩⟩⟩⟩⟩⟩⟩⟩⟩⟩⟩⟩⟩⟩⟩⟩⟩⟩⟩⟩⟩⟩⟩
set_option maxRecDepth 20000 in
theorem wsL_law0_r31_in : ∀ w ∈ wsL_law0_r31, w ∈ lw_tbl := lw_inr _ [1230, 1231, 40, 1232, 1233, 1234, 1235, 1236, 1237, 1238, 1239, 1240, 1241, 1242, 1243, 1244, 1245, 1246, 1247, 1248, 1249, 1250, 1276, 1277] (by decide +kernel)
set_option maxRecDepth 20000 in
theorem wsL_law0_r32_in : ∀ w ∈ wsL_law0_r32, w ∈ lw_tbl := lw_inr _ [1278, 1279, 1280, 794, 1281, 1282, 1283, 1284, 1285, 1286, 1287, 1143, 1288, 1290, 1291, 1289, 1292, 1293, 1295, 1294, 1296, 1297, 1298, 1299] (by decide +kernel)
set_option maxRecDepth 20000 in
theorem wsL_law0_r33_in : ∀ w ∈ wsL_law0_r33, w ∈ lw_tbl := lw_inr _ [1294, 1300, 1301, 1302, 1303, 1304, 1305, 1306, 1307, 1308, 1309, 1310, 1312, 1319, 1320, 1321, 1322, 1323, 1324, 1109, 1110, 1111, 1325, 1326] (by decide +kernel)
set_option maxRecDepth 20000 in
theorem wsL_law0_r34_in : ∀ w ∈ wsL_law0_r34, w ∈ lw_tbl := lw_inr _ [1327, 1328, 1118, 1119, 42, 1120, 1121, 1122, 1123, 398, 399, 400, 401, 127, 824, 825, 826, 503, 504, 505, 506, 507, 508, 509] (by decide +kernel)
set_option maxRecDepth 20000 in
theorem wsL_law0_r35_in : ∀ w ∈ wsL_law0_r35, w ∈ lw_tbl := lw_inr _ [510, 512, 513, 514, 515, 516, 517, 518, 519, 520, 521, 522, 523, 524, 528, 529, 530, 531, 532, 533, 534, 535, 827, 828] (by decide +kernel)
set_option maxRecDepth 20000 in
theorem wsL_law0_r36_in : ∀ w ∈ wsL_law0_r36, w ∈ lw_tbl := lw_inr _ [829, 830, 831, 832, 833, 536, 537, 538, 539, 540, 43, 737, 738, 739, 740, 216, 741, 742, 743, 744, 215, 745, 747, 9] (by decide +kernel)
set_option maxRecDepth 20000 in
theorem wsL_law0_r37_in : ∀ w ∈ wsL_law0_r37, w ∈ lw_tbl := lw_inr _ [748, 749, 750, 751, 752, 753, 754, 755, 756, 757, 758, 759, 1053, 1054, 1055, 1056, 1066, 1067, 1068, 1069, 1070, 1071, 1072, 1073] (by decide +kernel)
set_option maxRecDepth 20000 in
theorem wsL_law0_r38_in : ∀ w ∈ wsL_law0_r38, w ∈ lw_tbl := lw_inr _ [1075, 1076, 1077, 1078, 1079, 1080, 1081, 1082, 1083, 1084, 1085, 1086, 1087, 1088, 1089, 1090, 1091, 1092, 1093, 1096, 1097, 1098, 1099, 1100] (by decide +kernel)
set_option maxRecDepth 20000 in
theorem wsL_law0_r39_in : ∀ w ∈ wsL_law0_r39, w ∈ lw_tbl := lw_inr _ [1101, 1102, 1103, 1104, 1108, 840, 841, 842, 1251, 1252, 1253, 1254, 1255, 1351, 1256, 1257, 1258, 1259, 1260, 1261, 1262, 1263, 1264, 1266] (by decide +kernel)
set_option maxRecDepth 20000 in
theorem wsL_law0_r40_in : ∀ w ∈ wsL_law0_r40, w ∈ lw_tbl := lw_inr _ [1268, 1269, 1270, 1271, 1272, 1273, 1274, 1275, 647, 648, 649, 650, 651, 652, 653, 655, 663, 664, 665, 666, 760, 761, 762, 763] (by decide +kernel)
set_option maxRecDepth 20000 in
theorem wsL_law0_r41_in : ∀ w ∈ wsL_law0_r41, w ∈ lw_tbl := lw_inr _ [764, 766, 10, 767, 768, 706, 707, 708, 709, 711, 712, 713, 714, 715, 716, 717, 718, 719, 720, 721, 722, 93, 723, 725] (by decide +kernel)
set_option maxRecDepth 20000 in
theorem wsL_law0_r42_in : ∀ w ∈ wsL_law0_r42, w ∈ lw_tbl := lw_inr _ [7, 726, 727, 728, 729, 730, 732, 8, 733, 105, 734, 735, 736, 834, 835, 836, 837, 838, 839, 575, 576, 577, 578, 556] (by decide +kernel)
set_option maxRecDepth 20000 in
theorem wsL_law0_r43_in : ∀ w ∈ wsL_law0_r43, w ∈ lw_tbl := lw_inr _ [557, 558, 559, 570, 571, 572, 573, 613, 614, 615, 616, 617, 618, 619, 620, 622, 623] (by decide +kernel)
theorem inX9 : ∀ w ∈ wsX90, w ∈ lw_tbl := by decide +kernel
theorem inJ4 : ∀ w ∈ wsJ40, w ∈ lw_tbl := by decide +kernel
theorem inX0 : ∀ w ∈ wsX00, w ∈ lw_tbl := by decide +kernel
theorem inX4 : ∀ w ∈ wsX40, w ∈ lw_tbl := by decide +kernel
theorem inX2 : ∀ w ∈ wsX20, w ∈ lw_tbl := by decide +kernel
theorem inX6 : ∀ w ∈ wsX60, w ∈ lw_tbl := by decide +kernel
theorem inX7 : ∀ w ∈ wsX70, w ∈ lw_tbl := by decide +kernel
theorem inX8 : ∀ w ∈ wsX80, w ∈ lw_tbl := by decide +kernel
theorem inX3 : ∀ w ∈ wsX30, w ∈ lw_tbl := by decide +kernel
theorem inX1 : ∀ w ∈ wsX10, w ∈ lw_tbl := by decide +kernel
theorem inX5 : ∀ w ∈ wsX50, w ∈ lw_tbl := by decide +kernel
theorem inJ0 : ∀ w ∈ wsJ00, w ∈ lw_tbl := by decide +kernel
theorem wsL_law0_ho {args : Array Value} {s : State} (htb : ∀ w ∈ lw_tbl, w.before args s = true) : ∀ w ∈ wsL_law0, w.before args s = true := (List.forall_mem_append.mpr ⟨(List.forall_mem_append.mpr ⟨(List.forall_mem_append.mpr ⟨(List.forall_mem_append.mpr ⟨(List.forall_mem_append.mpr ⟨(List.forall_mem_append.mpr ⟨(List.forall_mem_append.mpr ⟨(List.forall_mem_append.mpr ⟨(List.forall_mem_append.mpr ⟨(List.forall_mem_append.mpr ⟨(List.forall_mem_append.mpr ⟨(List.forall_mem_append.mpr ⟨(List.forall_mem_append.mpr ⟨(List.forall_mem_append.mpr ⟨(fun w h => htb w (wsL_law0_r1_in w h)), (List.forall_mem_append.mpr ⟨(fun w h => htb w (wsL_law0_r2_in w h)), (List.forall_mem_append.mpr ⟨(fun w h => htb w (wsL_law0_r3_in w h)), (List.forall_mem_append.mpr ⟨(fun w h => htb w (wsL_law0_r4_in w h)), (List.forall_mem_append.mpr ⟨(fun w h => htb w (wsL_law0_r5_in w h)), (List.forall_mem_append.mpr ⟨(fun w h => htb w (wsL_law0_r6_in w h)), (List.forall_mem_append.mpr ⟨(fun w h => htb w (wsL_law0_r7_in w h)), (List.forall_mem_append.mpr ⟨(fun w h => htb w (wsL_law0_r8_in w h)), (List.forall_mem_append.mpr ⟨(fun w h => htb w (wsL_law0_r9_in w h)), (List.forall_mem_append.mpr ⟨(fun w h => htb w (wsL_law0_r10_in w h)), (List.forall_mem_append.mpr ⟨(fun w h => htb w (wsL_law0_r11_in w h)), (List.forall_mem_append.mpr ⟨(fun w h => htb w (wsL_law0_r12_in w h)), (List.forall_mem_append.mpr ⟨(fun w h => htb w (wsL_law0_r13_in w h)), (List.forall_mem_append.mpr ⟨(fun w h => htb w (wsL_law0_r14_in w h)), (List.forall_mem_append.mpr ⟨(fun w h => htb w (wsL_law0_r15_in w h)), (List.forall_mem_append.mpr ⟨(fun w h => htb w (wsL_law0_r16_in w h)), (List.forall_mem_append.mpr ⟨(fun w h => htb w (wsL_law0_r17_in w h)), (List.forall_mem_append.mpr ⟨(fun w h => htb w (wsL_law0_r18_in w h)), (List.forall_mem_append.mpr ⟨(fun w h => htb w (wsL_law0_r19_in w h)), (List.forall_mem_append.mpr ⟨(fun w h => htb w (wsL_law0_r20_in w h)), (List.forall_mem_append.mpr ⟨(fun w h => htb w (wsL_law0_r21_in w h)), (List.forall_mem_append.mpr ⟨(fun w h => htb w (wsL_law0_r22_in w h)), (List.forall_mem_append.mpr ⟨(fun w h => htb w (wsL_law0_r23_in w h)), (List.forall_mem_append.mpr ⟨(fun w h => htb w (wsL_law0_r24_in w h)), (List.forall_mem_append.mpr ⟨(fun w h => htb w (wsL_law0_r25_in w h)), (List.forall_mem_append.mpr ⟨(fun w h => htb w (wsL_law0_r26_in w h)), (List.forall_mem_append.mpr ⟨(wsL_law0_r27_ho htb), (List.forall_mem_append.mpr ⟨(fun w h => htb w (wsL_law0_r28_in w h)), (List.forall_mem_append.mpr ⟨(fun w h => htb w (wsL_law0_r29_in w h)), (List.forall_mem_append.mpr ⟨(wsL_law0_r30_ho htb), (List.forall_mem_append.mpr ⟨(fun w h => htb w (wsL_law0_r31_in w h)), (List.forall_mem_append.mpr ⟨(fun w h => htb w (wsL_law0_r32_in w h)), (List.forall_mem_append.mpr ⟨(fun w h => htb w (wsL_law0_r33_in w h)), (List.forall_mem_append.mpr ⟨(fun w h => htb w (wsL_law0_r34_in w h)), (List.forall_mem_append.mpr ⟨(fun w h => htb w (wsL_law0_r35_in w h)), (List.forall_mem_append.mpr ⟨(fun w h => htb w (wsL_law0_r36_in w h)), (List.forall_mem_append.mpr ⟨(fun w h => htb w (wsL_law0_r37_in w h)), (List.forall_mem_append.mpr ⟨(fun w h => htb w (wsL_law0_r38_in w h)), (List.forall_mem_append.mpr ⟨(fun w h => htb w (wsL_law0_r39_in w h)), (List.forall_mem_append.mpr ⟨(fun w h => htb w (wsL_law0_r40_in w h)), (List.forall_mem_append.mpr ⟨(fun w h => htb w (wsL_law0_r41_in w h)), (List.forall_mem_append.mpr ⟨(fun w h => htb w (wsL_law0_r42_in w h)), (fun w h => htb w (wsL_law0_r43_in w h))⟩)⟩)⟩)⟩)⟩)⟩)⟩)⟩)⟩)⟩)⟩)⟩)⟩)⟩)⟩)⟩)⟩)⟩)⟩)⟩)⟩)⟩)⟩)⟩)⟩)⟩)⟩)⟩)⟩)⟩)⟩)⟩)⟩)⟩)⟩)⟩)⟩)⟩)⟩)⟩)⟩)⟩), (fun w h => htb w (inX9 w h))⟩), (fun w h => htb w (inJ4 w h))⟩), (fun w h => htb w (inX0 w h))⟩), (fun w h => htb w (inX4 w h))⟩), (fun w h => htb w (inX2 w h))⟩), (fun w h => htb w (inX6 w h))⟩), (fun w h => htb w (inX7 w h))⟩), (fun w h => htb w (inX8 w h))⟩), (fun w h => htb w (inX3 w h))⟩), (fun w h => htb w (inX1 w h))⟩), (fun w h => htb w (inX5 w h))⟩), (fun w h => htb w (inJ0 w h))⟩), (fun _ h => absurd h List.not_mem_nil)⟩)
theorem wsL_law_x0 : ∀ w ∈ (vx_atM "java/lang/ArithmeticException" ["java/lang/RuntimeException", "java/lang/Exception"]).filter goodWord, w ∈ lw_tbl := by decide +kernel
theorem wsL_law_x1 : ∀ w ∈ (vx_atM "java/lang/ArrayIndexOutOfBoundsException" ["java/lang/IndexOutOfBoundsException", "java/lang/RuntimeException", "java/lang/Exception"]).filter goodWord, w ∈ lw_tbl := by decide +kernel
theorem wsL_law_x2 : ∀ w ∈ (vx_atS RX9 74 "java/lang/IllegalArgumentException" ["java/lang/RuntimeException", "java/lang/Exception"]).filter goodWord, w ∈ lw_tbl := by decide +kernel
theorem wsL_law_x3 : ∀ w ∈ (vx_atS RX9 455 "java/lang/UnsupportedOperationException" ["java/lang/RuntimeException", "java/lang/Exception"]).filter goodWord, w ∈ lw_tbl := by decide +kernel
theorem wsL_law_x4 : ∀ w ∈ (nx_at RX9 269).filter goodWord, w ∈ lw_tbl := by decide +kernel
theorem wsL_law_x5 : ∀ w ∈ (vx_atS RX9 340 "java/lang/IndexOutOfBoundsException" ["java/lang/RuntimeException", "java/lang/Exception"]).filter goodWord, w ∈ lw_tbl := by decide +kernel
theorem wsL_law_x6 : ∀ w ∈ (vx_atS RX9 247 "java/lang/ArithmeticException" ["java/lang/RuntimeException", "java/lang/Exception"]).filter goodWord, w ∈ lw_tbl := by decide +kernel
theorem wsL_law_hold {args : Array Value} {s : State} (htb : ∀ w ∈ lw_tbl, w.before args s = true) : ∀ w ∈ wsL_law, w.before args s = true := (List.forall_mem_append.mpr ⟨(List.forall_mem_append.mpr ⟨(List.forall_mem_append.mpr ⟨(List.forall_mem_append.mpr ⟨(List.forall_mem_append.mpr ⟨(List.forall_mem_append.mpr ⟨(List.forall_mem_append.mpr ⟨(wsL_law0_ho htb), (fun w h => htb w (wsL_law_x0 w h))⟩), (fun w h => htb w (wsL_law_x1 w h))⟩), (fun w h => htb w (wsL_law_x2 w h))⟩), (fun w h => htb w (wsL_law_x3 w h))⟩), (fun w h => htb w (wsL_law_x4 w h))⟩), (fun w h => htb w (wsL_law_x5 w h))⟩), (fun w h => htb w (wsL_law_x6 w h))⟩)
