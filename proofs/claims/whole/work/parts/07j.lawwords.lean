def lx_ex : List Cond := [.selects RJ4 yJ5_ensureCapacityInternal_d00df yJ5_ensureCapacityInternal_d00df, .selects RJ4 yJ5_newCapacity_0f7a4 yJ5_newCapacity_0f7a4, .selects RJ4 yJ5_inflate_da8c8 yJ5_inflate_da8c8]
def lx_tbl : List Cond := lx_ex ++ lw_tbl
theorem lx_sel {C : String} {y x2 y2 : MethodName} {s : State} {args : Array Value} {n : Nat} (hy : y.cls ≠ "java/lang/invoke/MethodHandle" ∧ y.cls ≠ "java/lang/invoke/VarHandle") (hins : (Cond.instantiable C n).before args s = true) (hpriv : (Cond.privateMethod y).before args s = true) (hinst : (Cond.instanceMethod y).before args s = true) (hsel2 : (Cond.selects C x2 y2).before args s = true) (h2 : y2.cls = y.cls) : (Cond.selects C y y).before args s = true := by
  obtain ⟨c, k, hc, hk, -, hniab, -, -⟩ := Cond.instantiable_spec hins
  obtain ⟨mk, methM, hnamed, hmethM, -, -⟩ := Cond.instanceMethod_spec hinst
  have hfound : s.methodFound? y.cls y.name y.desc = some mk := State.methodFound?_of_named hnamed hy
  have hsel : selectMethod {} s.vm c mk = .method mk := selectMethod_private hmethM (Cond.privateMethod_at hpriv mk methM hnamed hmethM)
  obtain ⟨c2, r2, m2, q1, q2, q3, q4, kk, q5, q6⟩ := Cond.selects_spec hsel2
  have e : mk.cls = m2.cls := Option.some.inj ((findClass_of_methodNamed hnamed).symm.trans (by rw [← h2]; exact findClass_of_methodNamed q3))
  simp only [Cond.before, Cond.holds, Cond.value, hc, hfound, hnamed, hsel]
  rw [e, q5]
  simp [q6]
theorem lx_hts {s : State} {args : Array Value} (hts : ∀ w ∈ lw_tbl, w.before args s = true) : ∀ w ∈ lx_tbl, w.before args s = true := by
  have hi : (Cond.instantiable RJ4 4).before args s = true := hts _ (by decide +kernel)
  have hs : (Cond.selects RJ4 ⟨"java/lang/AbstractStringBuilder", "getValue", "()[B"⟩ yJ5_getValue_6d5f1).before args s = true := hts _ (by decide +kernel)
  intro w hw
  rcases List.mem_append.mp hw with hw | hw
  · rcases List.mem_cons.mp hw with rfl | hw
    · exact lx_sel ⟨by decide +kernel, by decide +kernel⟩ hi (hts _ (by decide +kernel)) (hts _ (by decide +kernel)) hs rfl
    · rcases List.mem_cons.mp hw with rfl | hw
      · exact lx_sel ⟨by decide +kernel, by decide +kernel⟩ hi (hts _ (by decide +kernel)) (hts _ (by decide +kernel)) hs rfl
      · rcases List.mem_cons.mp hw with rfl | hw
        · exact lx_sel ⟨by decide +kernel, by decide +kernel⟩ hi (hts _ (by decide +kernel)) (hts _ (by decide +kernel)) hs rfl
        · exact absurd hw List.not_mem_nil
  · exact hts w hw
theorem lxi {a : List Cond} (ps : List Nat) (e : a = ps.filterMap (fun i => lx_tbl[i]?)) : ∀ w ∈ a, w ∈ lx_tbl := by
  rw [e]
  intro w h
  obtain ⟨i, -, hi⟩ := List.mem_filterMap.mp h
  exact List.mem_of_getElem? hi
set_option maxRecDepth 100000 in
theorem lxi_0 : ∀ w ∈ wsL_law_r1, w ∈ lx_tbl := lxi [76, 77, 52, 1024, 1025, 68, 78, 79, 80, 81, 82, 83, 84, 86, 53, 92, 93, 54, 99, 100, 55, 106, 107, 56] rfl
set_option maxRecDepth 100000 in
theorem lxi_1 : ∀ w ∈ wsL_law_r2, w ∈ lx_tbl := lxi [113, 114, 57, 307, 120, 121, 58, 308, 163, 164, 63, 309, 88, 89, 90, 95, 96, 102, 103, 109, 110, 116, 117, 123] rfl
set_option maxRecDepth 100000 in
theorem lxi_2 : ∀ w ∈ wsL_law_r3, w ∈ lx_tbl := lxi [124, 125, 126, 127, 60, 159, 128, 129, 130, 131, 132, 59, 133, 134, 135, 158, 144, 145, 137, 138, 62, 139, 140, 141] rfl
set_option maxRecDepth 100000 in
theorem lxi_3 : ∀ w ∈ wsL_law_r4, w ∈ lx_tbl := lxi [142, 143, 165, 166, 167, 168, 258, 254, 256, 209, 259, 169, 170, 64, 261, 263, 266, 268, 273, 210, 211, 66, 269, 236] rfl
set_option maxRecDepth 100000 in
theorem lxi_4 : ∀ w ∈ wsL_law_r5, w ∈ lx_tbl := lxi [237, 67, 270, 271, 171, 172, 173, 174, 180, 182, 185, 178, 188, 175, 176, 65, 177, 212, 213, 214, 215, 216, 217, 218] rfl
set_option maxRecDepth 100000 in
theorem lxi_5 : ∀ w ∈ wsL_law_r6, w ∈ lx_tbl := lxi [219, 221, 222, 238, 239, 240, 241, 242, 243, 249, 250, 252, 3, 253, 1026, 1027, 1028, 1029, 1030, 1035, 1040, 1041, 1042, 1043] rfl
set_option maxRecDepth 100000 in
theorem lxi_6 : ∀ w ∈ wsL_law_r7, w ∈ lx_tbl := lxi [1044, 1046, 1049, 1054, 1055, 1056, 1057, 1051, 326, 327, 328, 329, 330, 331, 332, 333, 334, 335, 336, 337, 338, 339, 340, 341] rfl
set_option maxRecDepth 100000 in
theorem lxi_7 : ∀ w ∈ wsL_law_r8, w ∈ lx_tbl := lxi [1393, 157, 342, 343, 148, 344, 345, 346, 347, 348, 349, 350, 351, 352, 1394, 353, 354, 355, 1395, 0, 357, 358, 359, 1396] rfl
set_option maxRecDepth 100000 in
theorem lxi_8 : ∀ w ∈ wsL_law_r9, w ∈ lx_tbl := lxi [1, 361, 362, 373, 363, 364, 69, 365, 366, 367, 70, 368, 369, 370, 371, 372, 374, 375, 376, 377, 378, 379, 380, 381] rfl
set_option maxRecDepth 100000 in
theorem lxi_9 : ∀ w ∈ wsL_law_r10, w ∈ lx_tbl := lxi [383, 384, 385, 386, 387, 389, 388, 71, 390, 392, 393, 391, 394, 395, 396, 72, 397, 398, 1397, 2, 400, 401, 402, 403] rfl
set_option maxRecDepth 100000 in
theorem lxi_10 : ∀ w ∈ wsL_law_r11, w ∈ lx_tbl := lxi [404, 405, 406, 407, 408, 409, 410, 411, 412, 413, 414, 415, 61, 416, 417, 419, 420, 73, 421, 422, 423, 424, 425, 427] rfl
set_option maxRecDepth 100000 in
theorem lxi_11 : ∀ w ∈ wsL_law_r12, w ∈ lx_tbl := lxi [429, 431, 432, 433, 434, 435, 436, 437, 438, 439, 440, 441, 442, 1118, 1119, 1120, 1121, 1122, 1031, 1123, 1124, 1125, 443, 444] rfl
set_option maxRecDepth 100000 in
theorem lxi_12 : ∀ w ∈ wsL_law_r13, w ∈ lx_tbl := lxi [445, 446, 447, 448, 449, 450, 451, 452, 453, 454, 455, 1398, 456, 457, 146, 458, 459, 460, 461, 462, 463, 464, 465, 466] rfl
set_option maxRecDepth 100000 in
theorem lxi_13 : ∀ w ∈ wsL_law_r14, w ∈ lx_tbl := lxi [467, 468, 469, 470, 1126, 1127, 1128, 1129, 471, 472, 473, 474, 475, 476, 477, 478, 479, 481, 4, 482, 483, 484, 485, 486] rfl
set_option maxRecDepth 100000 in
theorem lxi_14 : ∀ w ∈ wsL_law_r15, w ∈ lx_tbl := lxi [488, 489, 490, 491, 492, 1399, 493, 494, 495, 496, 497, 498, 499, 504, 505, 506, 507, 651, 508, 509, 510, 511, 512, 652] rfl
set_option maxRecDepth 100000 in
theorem lxi_15 : ∀ w ∈ wsL_law_r16, w ∈ lx_tbl := lxi [513, 514, 515, 516, 517, 518, 519, 520, 521, 522, 523, 524, 525, 526, 527, 528, 529, 530, 531, 533, 534, 535, 536, 537] rfl
set_option maxRecDepth 100000 in
theorem lxi_16 : ∀ w ∈ wsL_law_r17, w ∈ lx_tbl := lxi [538, 539, 540, 541, 542, 543, 544, 548, 549, 545, 546, 547, 550, 551, 552, 553, 554, 555, 556, 557, 558, 559, 560, 561] rfl
set_option maxRecDepth 100000 in
theorem lxi_17 : ∀ w ∈ wsL_law_r18, w ∈ lx_tbl := lxi [562, 563, 564, 565, 566, 567, 568, 569, 570, 571, 572, 573, 574, 575, 576, 577, 578, 74, 579, 580, 581, 582, 583, 584] rfl
set_option maxRecDepth 100000 in
theorem lxi_18 : ∀ w ∈ wsL_law_r19, w ∈ lx_tbl := lxi [585, 586, 587, 589, 590, 1130, 1131, 1132, 1133, 1134, 1136, 18, 1137, 1138, 1140, 19, 1141, 1032, 1033, 1034, 1142, 1143, 1144, 1146] rfl
set_option maxRecDepth 100000 in
theorem lxi_19 : ∀ w ∈ wsL_law_r20, w ∈ lx_tbl := lxi [20, 1147, 1148, 1149, 1150, 1151, 1153, 21, 1154, 1155, 1156, 591, 592, 593, 594, 310, 595, 596, 597, 598, 599, 600, 601, 602] rfl
set_option maxRecDepth 100000 in
theorem lxi_20 : ∀ w ∈ wsL_law_r21, w ∈ lx_tbl := lxi [603, 604, 605, 606, 607, 608, 609, 610, 611, 612, 613, 614, 615, 616, 617, 618, 619, 620, 621, 622, 623, 624, 147, 625] rfl
set_option maxRecDepth 100000 in
theorem lxi_21 : ∀ w ∈ wsL_law_r22, w ∈ lx_tbl := lxi [627, 628, 626, 629, 630, 342, 1400, 631, 632, 633, 634, 635, 636, 637, 638, 639, 640, 641, 642, 643, 644, 645, 646, 647] rfl
set_option maxRecDepth 100000 in
theorem lxi_22 : ∀ w ∈ wsL_law_r23, w ∈ lx_tbl := lxi [648, 649, 650, 662, 663, 664, 665, 666, 668, 669, 671, 673, 5, 674, 676, 677, 678, 679, 680, 682, 6, 683, 684, 685] rfl
set_option maxRecDepth 100000 in
theorem lxi_23 : ∀ w ∈ wsL_law_r24, w ∈ lx_tbl := lxi [686, 705, 684, 687, 685, 688, 689, 690, 691, 692, 693, 694, 695, 696, 697, 1401, 119, 698, 699, 700, 701, 702, 703, 704] rfl
set_option maxRecDepth 100000 in
theorem lxi_24 : ∀ w ∈ wsL_law_r25, w ∈ lx_tbl := lxi [1157, 1158, 1159, 1160, 1036, 1037, 1038, 1048, 1039, 1161, 1162, 1163, 1164, 1165, 1166, 706, 707, 708, 709, 710, 712, 7, 713, 714] rfl
set_option maxRecDepth 100000 in
theorem lxi_25 : ∀ w ∈ wsL_law_r26, w ∈ lx_tbl := lxi [716, 8, 717, 718, 719, 720, 721, 722, 723, 724, 725, 726, 728, 9, 729, 730, 731, 732, 75, 733, 938, 734, 735, 736] rfl
set_option maxRecDepth 100000 in
theorem lxi_26 : ∀ w ∈ wsL_law_r27, w ∈ lx_tbl := lxi [737, 939, 940, 941, 738, 738, 739, 740, 741, 742, 743, 745, 10, 746, 751, 747, 749, 11, 750, 1167, 1168, 1169, 1170, 1171] rfl
set_option maxRecDepth 100000 in
theorem lxi_27 : ∀ w ∈ wsL_law_r28, w ∈ lx_tbl := lxi [1173, 22, 1174, 1175, 1177, 23, 1178, 1179, 1181, 24, 1182, 1183, 1185, 25, 1186, 1187, 1189, 26, 1190, 1191, 1192, 1193, 1194, 1196] rfl
set_option maxRecDepth 100000 in
theorem lxi_28 : ∀ w ∈ wsL_law_r29, w ∈ lx_tbl := lxi [27, 1197, 1198, 1200, 28, 1201, 1202, 1203, 1204, 752, 753, 754, 755, 756, 757, 758, 92, 99, 106, 113, 1205, 1206, 1207, 1208] rfl
set_option maxRecDepth 100000 in
theorem lxi_29 : ∀ w ∈ wsL_law_r30, w ∈ lx_tbl := lxi [1209, 759, 760, 761, 762, 763, 765, 12, 766, 767, 768, 768, 1210, 1211, 1212, 1213, 1218, 1214, 1216, 29, 1217, 769, 770, 771] rfl
set_option maxRecDepth 100000 in
theorem lxi_30 : ∀ w ∈ wsL_law_r31, w ∈ lx_tbl := lxi [772, 773, 774, 775, 776, 777, 778, 779, 780, 1219, 1220, 1221, 1222, 1223, 1225, 30, 1226, 1227, 1229, 31, 1230, 781, 782, 783] rfl
set_option maxRecDepth 100000 in
theorem lxi_31 : ∀ w ∈ wsL_law_r32, w ∈ lx_tbl := lxi [784, 1231, 1232, 1233, 1234, 785, 786, 787, 788, 789, 790, 791, 792, 275, 1235, 1236, 1237, 1238, 793, 794, 795, 796, 797, 798] rfl
set_option maxRecDepth 100000 in
theorem lxi_32 : ∀ w ∈ wsL_law_r33, w ∈ lx_tbl := lxi [799, 800, 801, 802, 803, 804, 272, 805, 806, 807, 808, 809, 810, 811, 812, 813, 814, 816, 13, 817, 818, 820, 14, 821] rfl
set_option maxRecDepth 100000 in
theorem lxi_33 : ∀ w ∈ wsL_law_r34, w ∈ lx_tbl := lxi [822, 822, 1239, 1240, 1241, 1242, 1243, 1244, 1246, 32, 1247, 1248, 1249, 1250, 1251, 1253, 33, 1254, 1255, 1257, 34, 1258, 823, 824] rfl
set_option maxRecDepth 100000 in
theorem lxi_34 : ∀ w ∈ wsL_law_r35, w ∈ lx_tbl := lxi [825, 826, 1259, 1260, 1261, 1262, 827, 828, 829, 830, 831, 832, 833, 834, 835, 836, 837, 838, 1263, 1264, 1265, 1266, 1267, 1269] rfl
set_option maxRecDepth 100000 in
theorem lxi_35 : ∀ w ∈ wsL_law_r36, w ∈ lx_tbl := lxi [35, 1270, 839, 840, 841, 842, 843, 845, 15, 846, 847, 848, 849, 850, 851, 852, 853, 855, 856, 857, 858, 859, 860, 1271] rfl
set_option maxRecDepth 100000 in
theorem lxi_36 : ∀ w ∈ wsL_law_r37, w ∈ lx_tbl := lxi [1272, 1273, 1274, 1275, 1277, 36, 1278, 1279, 1281, 37, 1282, 1283, 1285, 38, 1286, 1287, 1289, 39, 1290, 861, 862, 863, 864, 311] rfl
set_option maxRecDepth 100000 in
theorem lxi_37 : ∀ w ∈ wsL_law_r38, w ∈ lx_tbl := lxi [865, 866, 867, 868, 878, 869, 871, 16, 872, 873, 874, 875, 876, 1291, 1292, 1293, 1294, 1045, 1295, 1297, 40, 1298, 1299, 1301] rfl
set_option maxRecDepth 100000 in
theorem lxi_38 : ∀ w ∈ wsL_law_r39, w ∈ lx_tbl := lxi [41, 1302, 879, 880, 881, 882, 1303, 1304, 1305, 1306, 883, 884, 885, 886, 887, 888, 889, 890, 1307, 1308, 1309, 1310, 1311, 1313] rfl
set_option maxRecDepth 100000 in
theorem lxi_39 : ∀ w ∈ wsL_law_r40, w ∈ lx_tbl := lxi [42, 1314, 891, 892, 893, 894, 312, 895, 896, 897, 898, 899, 900, 902, 17, 903, 904, 905, 906, 907, 908, 909, 910, 911] rfl
set_option maxRecDepth 100000 in
theorem lxi_40 : ∀ w ∈ wsL_law_r41, w ∈ lx_tbl := lxi [912, 914, 915, 916, 917, 918, 1315, 1316, 1317, 1318, 1047, 1319, 1321, 43, 1322, 1323, 1324, 1326, 44, 1327, 919, 920, 921, 922] rfl
set_option maxRecDepth 100000 in
theorem lxi_41 : ∀ w ∈ wsL_law_r42, w ∈ lx_tbl := lxi [923, 924, 925, 926, 927, 1328, 1329, 1330, 1331, 1332, 1334, 45, 1335, 928, 929, 930, 931, 932, 933, 934, 935, 936, 937, 951] rfl
set_option maxRecDepth 100000 in
theorem lxi_42 : ∀ w ∈ wsL_law_r43, w ∈ lx_tbl := lxi [952, 953, 954, 190, 1336, 1337, 1338, 1339, 1340, 955, 956, 957, 958, 1341, 1342, 1343, 1344, 959, 960, 961, 962, 963, 964, 965] rfl
set_option maxRecDepth 100000 in
theorem lxi_43 : ∀ w ∈ wsL_law_r44, w ∈ lx_tbl := lxi [966, 967, 968, 969, 970, 971, 1345, 1346, 1347, 1348, 1349, 1350, 1050, 1351, 1353, 46, 1354, 1355, 1356, 1357, 1358, 972, 973, 974] rfl
set_option maxRecDepth 100000 in
theorem lxi_44 : ∀ w ∈ wsL_law_r45, w ∈ lx_tbl := lxi [975, 976, 977, 978, 979, 264, 980, 981, 982, 983, 193, 1359, 1360, 1361, 1362, 1052, 1053, 985, 986, 987, 988, 989, 990, 991] rfl
set_option maxRecDepth 100000 in
theorem lxi_45 : ∀ w ∈ wsL_law_r46, w ∈ lx_tbl := lxi [992, 1363, 1364, 1365, 1366, 993, 994, 995, 996, 997, 998, 999, 1000, 1001, 1002, 1003, 1004, 1005, 1006, 1007, 1008, 1009, 1367, 1368] rfl
set_option maxRecDepth 100000 in
theorem lxi_46 : ∀ w ∈ wsL_law_r47, w ∈ lx_tbl := lxi [1369, 1370, 1371, 1373, 47, 1374, 1375, 1377, 48, 1378, 1379, 1381, 49, 1382, 1010, 1011, 1012, 1013, 1014, 1015, 1016, 1017, 1018, 1019] rfl
set_option maxRecDepth 100000 in
theorem lxi_47 : ∀ w ∈ wsL_law_r48, w ∈ lx_tbl := lxi [1020, 1021, 1022, 1023, 1383, 1384, 1385, 1386, 1387, 1058, 1388, 1390, 50, 1391, 1392] rfl
set_option maxRecDepth 100000 in
theorem lxi_48 : ∀ w ∈ wsX100, w ∈ lx_tbl := lxi [313, 315, 317, 319, 321, 323] rfl
set_option maxRecDepth 100000 in
theorem lxi_49 : ∀ w ∈ wsX110, w ∈ lx_tbl := lxi [1059, 1061, 1063, 1065, 1067, 1069, 1071, 1073, 1075, 1077, 1079, 1081, 1083, 1085, 1087, 1089, 1091, 1093, 1095, 1097, 1099, 1101, 1103, 1105, 1107, 1109, 1111, 1113, 1115] rfl
set_option maxRecDepth 100000 in
theorem lxi_50 : ∀ w ∈ wsX00, w ∈ lx_tbl := lxi [] rfl
set_option maxRecDepth 100000 in
theorem lxi_51 : ∀ w ∈ wsX10, w ∈ lx_tbl := lxi [] rfl
set_option maxRecDepth 100000 in
theorem lxi_52 : ∀ w ∈ wsX30, w ∈ lx_tbl := lxi [] rfl
set_option maxRecDepth 100000 in
theorem lxi_53 : ∀ w ∈ wsX90, w ∈ lx_tbl := lxi [] rfl
set_option maxRecDepth 100000 in
theorem lxi_54 : ∀ w ∈ wsX20, w ∈ lx_tbl := lxi [] rfl
set_option maxRecDepth 100000 in
theorem lxi_55 : ∀ w ∈ wsX40, w ∈ lx_tbl := lxi [160] rfl
set_option maxRecDepth 100000 in
theorem lxi_56 : ∀ w ∈ wsX50, w ∈ lx_tbl := lxi [276, 278, 280, 282, 284, 286, 288, 290, 292, 294, 296, 298, 300, 302, 304] rfl
set_option maxRecDepth 100000 in
theorem lxi_57 : ∀ w ∈ wsJ40, w ∈ lx_tbl := lxi [149, 151, 153, 155] rfl
set_option maxRecDepth 100000 in
theorem lxi_58 : ∀ w ∈ wsX80, w ∈ lx_tbl := lxi [196, 198, 200, 202, 204, 206] rfl
set_option maxRecDepth 100000 in
theorem lxi_59 : ∀ w ∈ wsX60, w ∈ lx_tbl := lxi [223, 225, 227, 229, 231, 233] rfl
set_option maxRecDepth 100000 in
theorem lxi_60 : ∀ w ∈ wsX120, w ∈ lx_tbl := lxi [244, 246] rfl
set_option maxRecDepth 100000 in
theorem lxi_61 : ∀ w ∈ wsJ00, w ∈ lx_tbl := lxi [653, 655, 657, 659] rfl
set_option maxRecDepth 100000 in
theorem lxi_62 : ∀ w ∈ wsX70, w ∈ lx_tbl := lxi [942, 944, 946, 948] rfl
theorem wsL_law_in : ∀ w ∈ wsL_law, w ∈ lx_tbl := List.forall_mem_append.mpr ⟨List.forall_mem_append.mpr ⟨List.forall_mem_append.mpr ⟨List.forall_mem_append.mpr ⟨List.forall_mem_append.mpr ⟨List.forall_mem_append.mpr ⟨List.forall_mem_append.mpr ⟨List.forall_mem_append.mpr ⟨List.forall_mem_append.mpr ⟨List.forall_mem_append.mpr ⟨List.forall_mem_append.mpr ⟨List.forall_mem_append.mpr ⟨List.forall_mem_append.mpr ⟨List.forall_mem_append.mpr ⟨List.forall_mem_append.mpr ⟨List.forall_mem_append.mpr ⟨List.forall_mem_append.mpr ⟨lxi_0, List.forall_mem_append.mpr ⟨lxi_1, List.forall_mem_append.mpr ⟨lxi_2, List.forall_mem_append.mpr ⟨lxi_3, List.forall_mem_append.mpr ⟨lxi_4, List.forall_mem_append.mpr ⟨lxi_5, List.forall_mem_append.mpr ⟨lxi_6, List.forall_mem_append.mpr ⟨lxi_7, List.forall_mem_append.mpr ⟨lxi_8, List.forall_mem_append.mpr ⟨lxi_9, List.forall_mem_append.mpr ⟨lxi_10, List.forall_mem_append.mpr ⟨lxi_11, List.forall_mem_append.mpr ⟨lxi_12, List.forall_mem_append.mpr ⟨lxi_13, List.forall_mem_append.mpr ⟨lxi_14, List.forall_mem_append.mpr ⟨lxi_15, List.forall_mem_append.mpr ⟨lxi_16, List.forall_mem_append.mpr ⟨lxi_17, List.forall_mem_append.mpr ⟨lxi_18, List.forall_mem_append.mpr ⟨lxi_19, List.forall_mem_append.mpr ⟨lxi_20, List.forall_mem_append.mpr ⟨lxi_21, List.forall_mem_append.mpr ⟨lxi_22, List.forall_mem_append.mpr ⟨lxi_23, List.forall_mem_append.mpr ⟨lxi_24, List.forall_mem_append.mpr ⟨lxi_25, List.forall_mem_append.mpr ⟨lxi_26, List.forall_mem_append.mpr ⟨lxi_27, List.forall_mem_append.mpr ⟨lxi_28, List.forall_mem_append.mpr ⟨lxi_29, List.forall_mem_append.mpr ⟨lxi_30, List.forall_mem_append.mpr ⟨lxi_31, List.forall_mem_append.mpr ⟨lxi_32, List.forall_mem_append.mpr ⟨lxi_33, List.forall_mem_append.mpr ⟨lxi_34, List.forall_mem_append.mpr ⟨lxi_35, List.forall_mem_append.mpr ⟨lxi_36, List.forall_mem_append.mpr ⟨lxi_37, List.forall_mem_append.mpr ⟨lxi_38, List.forall_mem_append.mpr ⟨lxi_39, List.forall_mem_append.mpr ⟨lxi_40, List.forall_mem_append.mpr ⟨lxi_41, List.forall_mem_append.mpr ⟨lxi_42, List.forall_mem_append.mpr ⟨lxi_43, List.forall_mem_append.mpr ⟨lxi_44, List.forall_mem_append.mpr ⟨lxi_45, List.forall_mem_append.mpr ⟨lxi_46, lxi_47⟩⟩⟩⟩⟩⟩⟩⟩⟩⟩⟩⟩⟩⟩⟩⟩⟩⟩⟩⟩⟩⟩⟩⟩⟩⟩⟩⟩⟩⟩⟩⟩⟩⟩⟩⟩⟩⟩⟩⟩⟩⟩⟩⟩⟩⟩⟩, lxi_48⟩, lxi_49⟩, lxi_50⟩, lxi_51⟩, lxi_52⟩, lxi_53⟩, lxi_54⟩, lxi_55⟩, lxi_56⟩, lxi_57⟩, lxi_58⟩, lxi_59⟩, lxi_60⟩, lxi_61⟩, lxi_62⟩, fun _ h => absurd h List.not_mem_nil⟩
