def lx_ex : List Cond := [.selects RJ4 yJ5_ensureCapacityInternal_d00df yJ5_ensureCapacityInternal_d00df, .selects RJ4 yJ5_newCapacity_0f7a4 yJ5_newCapacity_0f7a4, .selects RJ4 yJ5_inflate_da8c8 yJ5_inflate_da8c8]
def lx_tbl : List Cond := lx_ex ++ lw_tbl
theorem lx_sel {C : String} {y x2 y2 : MethodName} {s : State} {args : Array Value} {n : Nat} (hy : y.cls ≠ "java/lang/invoke/MethodHandle" ∧ y.cls ≠ "java/lang/invoke/VarHandle") (hins : (Cond.instantiable C n).before args s = true) (hpriv : (Cond.privateMethod y).before args s = true) (hinst : (Cond.instanceMethod y).before args s = true) (hsel2 : (Cond.selects C x2 y2).before args s = true) (h2 : y2.cls = y.cls) : (Cond.selects C y y).before args s = true := by
  obtain ⟨c, k, hc, hk, -, hniab, -, -⟩ := Cond.instantiable_spec hins
  obtain ⟨mk, methM, hnamed, hmethM, -, -⟩ := Cond.instanceMethod_spec hinst
  have hfound : s.methodFound? y.cls y.name y.desc = some mk := State.methodFound?_of_named hnamed hy
  have hsel : selectMethod {} s.vm c mk = .method mk := selectMethod_private hmethM (Cond.privateMethod_at hpriv mk methM hnamed hmethM)
  obtain ⟨c2, r2, m2, q1, q2, q3, q4, kk, q5, q6⟩ := Cond.selects_spec hsel2
  have e : mk.cls = m2.cls := Option.some.inj ((findClass_of_methodNamed hnamed).symm.trans (by rw [← h2]; exact findClass_of_methodNamed q3))
  simp only [Cond.before, Cond.holds, Cond.value, hc, hfound, hnamed, hsel]
  rw [e, q5]
  simp [q6]
theorem lx_hts {s : State} {args : Array Value} (hts : ∀ w ∈ lw_tbl, w.before args s = true) : ∀ w ∈ lx_tbl, w.before args s = true := by
  have hi : (Cond.instantiable RJ4 4).before args s = true := hts _ (by decide +kernel)
  have hs : (Cond.selects RJ4 ⟨"java/lang/AbstractStringBuilder", "getValue", "()[B"⟩ yJ5_getValue_6d5f1).before args s = true := hts _ (by decide +kernel)
  intro w hw
  rcases List.mem_append.mp hw with hw | hw
  · rcases List.mem_cons.mp hw with rfl | hw
    · exact lx_sel ⟨by decide +kernel, by decide +kernel⟩ hi (hts _ (by decide +kernel)) (hts _ (by decide +kernel)) hs rfl
    · rcases List.mem_cons.mp hw with rfl | hw
      · exact lx_sel ⟨by decide +kernel, by decide +kernel⟩ hi (hts _ (by decide +kernel)) (hts _ (by decide +kernel)) hs rfl
      · rcases List.mem_cons.mp hw with rfl | hw
        · exact lx_sel ⟨by decide +kernel, by decide +kernel⟩ hi (hts _ (by decide +kernel)) (hts _ (by decide +kernel)) hs rfl
        · exact absurd hw List.not_mem_nil
  · exact hts w hw
theorem lxi {a : List Cond} (ps : List Nat) (e : a = ps.filterMap (fun i => lx_tbl[i]?)) : ∀ w ∈ a, w ∈ lx_tbl := by
  rw [e]
  intro w h
  obtain ⟨i, -, hi⟩ := List.mem_filterMap.mp h
  exact List.mem_of_getElem? hi
set_option maxRecDepth 100000 in
theorem lxi_0 : ∀ w ∈ wsL_law_r1, w ∈ lx_tbl := lxi [76, 77, 53, 1008, 1009, 73, 78, 79, 80, 81, 82, 83, 84, 86, 54, 92, 93, 55, 99, 100, 56, 106, 107, 57] rfl
set_option maxRecDepth 100000 in
theorem lxi_1 : ∀ w ∈ wsL_law_r2, w ∈ lx_tbl := lxi [113, 114, 58, 440, 120, 121, 59, 441, 163, 164, 64, 442, 88, 89, 90, 95, 96, 102, 103, 109, 110, 116, 117, 123] rfl
set_option maxRecDepth 100000 in
theorem lxi_2 : ∀ w ∈ wsL_law_r3, w ∈ lx_tbl := lxi [124, 125, 126, 127, 61, 159, 128, 129, 130, 131, 132, 60, 133, 134, 135, 158, 144, 145, 137, 138, 63, 139, 140, 141] rfl
set_option maxRecDepth 100000 in
theorem lxi_3 : ∀ w ∈ wsL_law_r4, w ∈ lx_tbl := lxi [142, 143, 166, 167, 168, 169, 398, 394, 396, 254, 399, 213, 214, 67, 401, 403, 406, 408, 411, 255, 256, 69, 409, 170] rfl
set_option maxRecDepth 100000 in
theorem lxi_4 : ∀ w ∈ wsL_law_r5, w ∈ lx_tbl := lxi [171, 172, 62, 173, 666, 174, 175, 176, 177, 178, 179, 180, 181, 182, 667, 183, 184, 65, 185, 186, 187, 188, 189, 191] rfl
set_option maxRecDepth 100000 in
theorem lxi_5 : ∀ w ∈ wsL_law_r6, w ∈ lx_tbl := lxi [192, 66, 193, 194, 195, 196, 197, 198, 199, 200, 201, 202, 203, 204, 205, 206, 207, 209, 211, 215, 216, 217, 218, 219] rfl
set_option maxRecDepth 100000 in
theorem lxi_6 : ∀ w ∈ wsL_law_r7, w ∈ lx_tbl := lxi [225, 227, 230, 223, 233, 220, 221, 68, 222, 257, 258, 259, 260, 261, 262, 263, 265, 266, 278, 280, 3, 281, 282, 283] rfl
set_option maxRecDepth 100000 in
theorem lxi_7 : ∀ w ∈ wsL_law_r8, w ∈ lx_tbl := lxi [285, 4, 286, 287, 288, 289, 290, 291, 292, 293, 294, 296, 297, 298, 299, 300, 301, 302, 303, 304, 305, 306, 307, 311] rfl
set_option maxRecDepth 100000 in
theorem lxi_8 : ∀ w ∈ wsL_law_r9, w ∈ lx_tbl := lxi [312, 70, 313, 314, 315, 316, 308, 309, 310, 317, 318, 319, 320, 321, 322, 323, 324, 325, 326, 327, 328, 329, 330, 331] rfl
set_option maxRecDepth 100000 in
theorem lxi_9 : ∀ w ∈ wsL_law_r10, w ∈ lx_tbl := lxi [332, 333, 334, 335, 336, 337, 338, 339, 340, 341, 342, 343, 344, 345, 71, 346, 347, 348, 349, 350, 351, 352, 353, 354] rfl
set_option maxRecDepth 100000 in
theorem lxi_10 : ∀ w ∈ wsL_law_r11, w ∈ lx_tbl := lxi [356, 357, 358, 359, 360, 361, 363, 5, 364, 365, 367, 366, 72, 368, 370, 6, 371, 372, 373, 374, 393, 372, 375, 373] rfl
set_option maxRecDepth 100000 in
theorem lxi_11 : ∀ w ∈ wsL_law_r12, w ∈ lx_tbl := lxi [376, 377, 378, 379, 380, 381, 382, 383, 384, 385, 1377, 119, 386, 387, 388, 389, 390, 391, 392, 1010, 1011, 1012, 1013, 1014] rfl
set_option maxRecDepth 100000 in
theorem lxi_12 : ∀ w ∈ wsL_law_r13, w ∈ lx_tbl := lxi [1019, 1024, 1025, 1026, 1027, 1028, 1030, 1033, 1038, 1039, 1040, 1041, 1035, 459, 460, 461, 462, 463, 464, 465, 466, 467, 468, 469] rfl
set_option maxRecDepth 100000 in
theorem lxi_13 : ∀ w ∈ wsL_law_r14, w ∈ lx_tbl := lxi [470, 471, 1378, 157, 472, 473, 148, 474, 475, 476, 477, 478, 479, 480, 481, 482, 1379, 483, 484, 485, 1380, 0, 487, 488] rfl
set_option maxRecDepth 100000 in
theorem lxi_14 : ∀ w ∈ wsL_law_r15, w ∈ lx_tbl := lxi [489, 1381, 1, 491, 492, 501, 493, 494, 74, 495, 496, 497, 498, 499, 500, 502, 503, 504, 505, 506, 507, 508, 509, 511] rfl
set_option maxRecDepth 100000 in
theorem lxi_15 : ∀ w ∈ wsL_law_r16, w ∈ lx_tbl := lxi [512, 513, 514, 516, 517, 515, 518, 519, 520, 521, 522, 1382, 2, 524, 525, 526, 527, 528, 529, 530, 531, 532, 533, 534] rfl
set_option maxRecDepth 100000 in
theorem lxi_16 : ∀ w ∈ wsL_law_r17, w ∈ lx_tbl := lxi [535, 536, 537, 538, 539, 540, 541, 542, 543, 544, 545, 546, 1102, 1103, 1104, 1105, 1106, 1015, 1107, 1108, 1109, 547, 548, 549] rfl
set_option maxRecDepth 100000 in
theorem lxi_17 : ∀ w ∈ wsL_law_r18, w ∈ lx_tbl := lxi [550, 551, 552, 553, 554, 555, 556, 557, 558, 559, 1383, 560, 561, 146, 562, 563, 564, 565, 566, 567, 568, 569, 570, 571] rfl
set_option maxRecDepth 100000 in
theorem lxi_18 : ∀ w ∈ wsL_law_r19, w ∈ lx_tbl := lxi [572, 573, 574, 1110, 1111, 1112, 1113, 575, 576, 577, 578, 579, 580, 581, 582, 583, 585, 7, 586, 587, 588, 589, 590, 592] rfl
set_option maxRecDepth 100000 in
theorem lxi_19 : ∀ w ∈ wsL_law_r20, w ∈ lx_tbl := lxi [593, 594, 595, 596, 1384, 597, 598, 599, 600, 601, 606, 607, 608, 609, 610, 612, 1114, 1115, 1116, 1117, 1118, 1120, 19, 1121] rfl
set_option maxRecDepth 100000 in
theorem lxi_20 : ∀ w ∈ wsL_law_r21, w ∈ lx_tbl := lxi [1122, 1124, 20, 1125, 1016, 1017, 1018, 1126, 1127, 1128, 1130, 21, 1131, 1132, 1133, 1134, 1135, 1137, 22, 1138, 1139, 1140, 614, 615] rfl
set_option maxRecDepth 100000 in
theorem lxi_21 : ∀ w ∈ wsL_law_r22, w ∈ lx_tbl := lxi [616, 617, 443, 618, 619, 620, 621, 622, 623, 624, 625, 626, 627, 628, 629, 630, 631, 632, 633, 634, 635, 636, 637, 638] rfl
set_option maxRecDepth 100000 in
theorem lxi_22 : ∀ w ∈ wsL_law_r23, w ∈ lx_tbl := lxi [639, 147, 640, 642, 643, 641, 644, 645, 472, 1385, 646, 647, 648, 649, 650, 651, 652, 653, 654, 655, 656, 657, 658, 659] rfl
set_option maxRecDepth 100000 in
theorem lxi_23 : ∀ w ∈ wsL_law_r24, w ∈ lx_tbl := lxi [660, 661, 662, 663, 664, 665, 1141, 1142, 1143, 1144, 1020, 1021, 1022, 1032, 1023, 1145, 1146, 1147, 1148, 1149, 1150, 677, 678, 679] rfl
set_option maxRecDepth 100000 in
theorem lxi_24 : ∀ w ∈ wsL_law_r25, w ∈ lx_tbl := lxi [680, 681, 683, 8, 684, 685, 687, 9, 688, 689, 690, 691, 692, 693, 694, 695, 709, 693, 696, 694, 697, 698, 699, 700] rfl
set_option maxRecDepth 100000 in
theorem lxi_25 : ∀ w ∈ wsL_law_r26, w ∈ lx_tbl := lxi [701, 702, 703, 704, 705, 706, 707, 708, 710, 711, 712, 713, 714, 716, 10, 717, 718, 719, 720, 75, 721, 922, 722, 723] rfl
set_option maxRecDepth 100000 in
theorem lxi_26 : ∀ w ∈ wsL_law_r27, w ∈ lx_tbl := lxi [724, 725, 923, 924, 925, 726, 726, 727, 728, 729, 730, 731, 732, 734, 11, 735, 740, 736, 738, 12, 739, 1151, 1152, 1153] rfl
set_option maxRecDepth 100000 in
theorem lxi_27 : ∀ w ∈ wsL_law_r28, w ∈ lx_tbl := lxi [1154, 1155, 1157, 23, 1158, 1159, 1161, 24, 1162, 1163, 1165, 25, 1166, 1167, 1169, 26, 1170, 1171, 1173, 27, 1174, 1175, 1176, 1177] rfl
set_option maxRecDepth 100000 in
theorem lxi_28 : ∀ w ∈ wsL_law_r29, w ∈ lx_tbl := lxi [1178, 1180, 28, 1181, 1182, 1184, 29, 1185, 1186, 1187, 1188, 741, 742, 743, 744, 745, 746, 747, 92, 99, 106, 113, 1189, 1190] rfl
set_option maxRecDepth 100000 in
theorem lxi_29 : ∀ w ∈ wsL_law_r30, w ∈ lx_tbl := lxi [1191, 1192, 1193, 748, 749, 750, 751, 752, 754, 13, 755, 756, 757, 757, 1194, 1195, 1196, 1197, 1202, 1198, 1200, 30, 1201, 758] rfl
set_option maxRecDepth 100000 in
theorem lxi_30 : ∀ w ∈ wsL_law_r31, w ∈ lx_tbl := lxi [759, 760, 761, 762, 763, 764, 765, 766, 767, 768, 769, 1203, 1204, 1205, 1206, 1207, 1209, 31, 1210, 1211, 1213, 32, 1214, 770] rfl
set_option maxRecDepth 100000 in
theorem lxi_31 : ∀ w ∈ wsL_law_r32, w ∈ lx_tbl := lxi [771, 772, 773, 1215, 1216, 1217, 1218, 774, 775, 776, 777, 778, 779, 780, 781, 412, 1219, 1220, 1221, 1222, 782, 783, 784, 785] rfl
set_option maxRecDepth 100000 in
theorem lxi_32 : ∀ w ∈ wsL_law_r33, w ∈ lx_tbl := lxi [786, 787, 788, 789, 790, 791, 792, 793, 410, 794, 795, 796, 797, 798, 799, 800, 801, 802, 803, 805, 14, 806, 807, 809] rfl
set_option maxRecDepth 100000 in
theorem lxi_33 : ∀ w ∈ wsL_law_r34, w ∈ lx_tbl := lxi [15, 810, 811, 811, 1223, 1224, 1225, 1226, 1227, 1228, 1230, 33, 1231, 1232, 1233, 1234, 1235, 1237, 34, 1238, 1239, 1241, 35, 1242] rfl
set_option maxRecDepth 100000 in
theorem lxi_34 : ∀ w ∈ wsL_law_r35, w ∈ lx_tbl := lxi [812, 813, 814, 815, 1243, 1244, 1245, 1246, 816, 817, 818, 819, 820, 821, 822, 823, 824, 825, 826, 827, 1247, 1248, 1249, 1250] rfl
set_option maxRecDepth 100000 in
theorem lxi_35 : ∀ w ∈ wsL_law_r36, w ∈ lx_tbl := lxi [1251, 1253, 36, 1254, 828, 829, 830, 831, 832, 834, 16, 835, 836, 837, 838, 839, 840, 841, 842, 844, 845, 846, 847, 848] rfl
set_option maxRecDepth 100000 in
theorem lxi_36 : ∀ w ∈ wsL_law_r37, w ∈ lx_tbl := lxi [849, 1255, 1256, 1257, 1258, 1259, 1261, 37, 1262, 1263, 1265, 38, 1266, 1267, 1269, 39, 1270, 1271, 1273, 40, 1274, 850, 851, 852] rfl
set_option maxRecDepth 100000 in
theorem lxi_37 : ∀ w ∈ wsL_law_r38, w ∈ lx_tbl := lxi [853, 444, 854, 855, 856, 857, 867, 858, 860, 17, 861, 862, 863, 864, 865, 1275, 1276, 1277, 1278, 1029, 1279, 1281, 41, 1282] rfl
set_option maxRecDepth 100000 in
theorem lxi_38 : ∀ w ∈ wsL_law_r39, w ∈ lx_tbl := lxi [1283, 1285, 42, 1286, 868, 869, 870, 871, 1287, 1288, 1289, 1290, 872, 873, 874, 875, 876, 877, 878, 879, 880, 1291, 1292, 1293] rfl
set_option maxRecDepth 100000 in
theorem lxi_39 : ∀ w ∈ wsL_law_r40, w ∈ lx_tbl := lxi [1294, 1295, 1297, 43, 1298, 881, 882, 883, 884, 445, 885, 886, 887, 888, 889, 891, 18, 892, 893, 896, 897, 898, 1299, 1300] rfl
set_option maxRecDepth 100000 in
theorem lxi_40 : ∀ w ∈ wsL_law_r41, w ∈ lx_tbl := lxi [1301, 1302, 1031, 1303, 1305, 44, 1306, 1307, 1308, 1310, 45, 1311, 899, 900, 901, 902, 903, 904, 905, 906, 907, 908, 909, 910] rfl
set_option maxRecDepth 100000 in
theorem lxi_41 : ∀ w ∈ wsL_law_r42, w ∈ lx_tbl := lxi [911, 1312, 1313, 1314, 1315, 1316, 1318, 46, 1319, 912, 913, 914, 915, 916, 917, 918, 919, 920, 921, 935, 936, 937, 938, 235] rfl
set_option maxRecDepth 100000 in
theorem lxi_42 : ∀ w ∈ wsL_law_r43, w ∈ lx_tbl := lxi [1320, 1321, 1322, 1323, 1324, 939, 940, 941, 942, 1325, 1326, 1327, 1328, 943, 944, 945, 946, 947, 948, 949, 950, 951, 952, 953] rfl
set_option maxRecDepth 100000 in
theorem lxi_43 : ∀ w ∈ wsL_law_r44, w ∈ lx_tbl := lxi [954, 955, 1329, 1330, 1331, 1332, 1333, 1334, 1034, 1335, 1337, 47, 1338, 1339, 1340, 1341, 1342, 956, 957, 958, 959, 960, 961, 962] rfl
set_option maxRecDepth 100000 in
theorem lxi_44 : ∀ w ∈ wsL_law_r45, w ∈ lx_tbl := lxi [963, 404, 964, 965, 966, 967, 968, 238, 1343, 1344, 1345, 1346, 1036, 1037, 969, 970, 971, 972, 973, 974, 975, 976, 1347, 1348] rfl
set_option maxRecDepth 100000 in
theorem lxi_45 : ∀ w ∈ wsL_law_r46, w ∈ lx_tbl := lxi [1349, 1350, 977, 978, 979, 980, 981, 982, 983, 984, 985, 986, 987, 988, 989, 990, 991, 992, 993, 1351, 1352, 1353, 1354, 1355] rfl
set_option maxRecDepth 100000 in
theorem lxi_46 : ∀ w ∈ wsL_law_r47, w ∈ lx_tbl := lxi [1357, 48, 1358, 1359, 1361, 49, 1362, 1363, 1365, 50, 1366, 994, 995, 996, 997, 998, 999, 1000, 1001, 1002, 1003, 1004, 1005, 1006] rfl
set_option maxRecDepth 100000 in
theorem lxi_47 : ∀ w ∈ wsL_law_r48, w ∈ lx_tbl := lxi [1007, 1367, 1368, 1369, 1370, 1371, 1042, 1372, 1374, 51, 1375, 1376] rfl
set_option maxRecDepth 100000 in
theorem lxi_48 : ∀ w ∈ wsX100, w ∈ lx_tbl := lxi [446, 448, 450, 452, 454, 456] rfl
set_option maxRecDepth 100000 in
theorem lxi_49 : ∀ w ∈ wsX110, w ∈ lx_tbl := lxi [1043, 1045, 1047, 1049, 1051, 1053, 1055, 1057, 1059, 1061, 1063, 1065, 1067, 1069, 1071, 1073, 1075, 1077, 1079, 1081, 1083, 1085, 1087, 1089, 1091, 1093, 1095, 1097, 1099] rfl
set_option maxRecDepth 100000 in
theorem lxi_50 : ∀ w ∈ wsX00, w ∈ lx_tbl := lxi [] rfl
set_option maxRecDepth 100000 in
theorem lxi_51 : ∀ w ∈ wsX10, w ∈ lx_tbl := lxi [] rfl
set_option maxRecDepth 100000 in
theorem lxi_52 : ∀ w ∈ wsX30, w ∈ lx_tbl := lxi [] rfl
set_option maxRecDepth 100000 in
theorem lxi_53 : ∀ w ∈ wsX90, w ∈ lx_tbl := lxi [] rfl
set_option maxRecDepth 100000 in
theorem lxi_54 : ∀ w ∈ wsX20, w ∈ lx_tbl := lxi [] rfl
set_option maxRecDepth 100000 in
theorem lxi_55 : ∀ w ∈ wsX40, w ∈ lx_tbl := lxi [160] rfl
set_option maxRecDepth 100000 in
theorem lxi_56 : ∀ w ∈ wsX50, w ∈ lx_tbl := lxi [413, 415, 417, 419, 421, 423, 425, 427, 429, 431, 433, 435, 437] rfl
set_option maxRecDepth 100000 in
theorem lxi_57 : ∀ w ∈ wsJ40, w ∈ lx_tbl := lxi [149, 151, 153, 155] rfl
set_option maxRecDepth 100000 in
theorem lxi_58 : ∀ w ∈ wsX80, w ∈ lx_tbl := lxi [241, 243, 245, 247, 249, 251] rfl
set_option maxRecDepth 100000 in
theorem lxi_59 : ∀ w ∈ wsX60, w ∈ lx_tbl := lxi [267, 269, 271, 273, 275] rfl
set_option maxRecDepth 100000 in
theorem lxi_60 : ∀ w ∈ wsJ00, w ∈ lx_tbl := lxi [668, 670, 672, 674] rfl
set_option maxRecDepth 100000 in
theorem lxi_61 : ∀ w ∈ wsX70, w ∈ lx_tbl := lxi [926, 928, 930, 932] rfl
theorem wsL_law_in : ∀ w ∈ wsL_law, w ∈ lx_tbl := List.forall_mem_append.mpr ⟨List.forall_mem_append.mpr ⟨List.forall_mem_append.mpr ⟨List.forall_mem_append.mpr ⟨List.forall_mem_append.mpr ⟨List.forall_mem_append.mpr ⟨List.forall_mem_append.mpr ⟨List.forall_mem_append.mpr ⟨List.forall_mem_append.mpr ⟨List.forall_mem_append.mpr ⟨List.forall_mem_append.mpr ⟨List.forall_mem_append.mpr ⟨List.forall_mem_append.mpr ⟨List.forall_mem_append.mpr ⟨List.forall_mem_append.mpr ⟨List.forall_mem_append.mpr ⟨lxi_0, List.forall_mem_append.mpr ⟨lxi_1, List.forall_mem_append.mpr ⟨lxi_2, List.forall_mem_append.mpr ⟨lxi_3, List.forall_mem_append.mpr ⟨lxi_4, List.forall_mem_append.mpr ⟨lxi_5, List.forall_mem_append.mpr ⟨lxi_6, List.forall_mem_append.mpr ⟨lxi_7, List.forall_mem_append.mpr ⟨lxi_8, List.forall_mem_append.mpr ⟨lxi_9, List.forall_mem_append.mpr ⟨lxi_10, List.forall_mem_append.mpr ⟨lxi_11, List.forall_mem_append.mpr ⟨lxi_12, List.forall_mem_append.mpr ⟨lxi_13, List.forall_mem_append.mpr ⟨lxi_14, List.forall_mem_append.mpr ⟨lxi_15, List.forall_mem_append.mpr ⟨lxi_16, List.forall_mem_append.mpr ⟨lxi_17, List.forall_mem_append.mpr ⟨lxi_18, List.forall_mem_append.mpr ⟨lxi_19, List.forall_mem_append.mpr ⟨lxi_20, List.forall_mem_append.mpr ⟨lxi_21, List.forall_mem_append.mpr ⟨lxi_22, List.forall_mem_append.mpr ⟨lxi_23, List.forall_mem_append.mpr ⟨lxi_24, List.forall_mem_append.mpr ⟨lxi_25, List.forall_mem_append.mpr ⟨lxi_26, List.forall_mem_append.mpr ⟨lxi_27, List.forall_mem_append.mpr ⟨lxi_28, List.forall_mem_append.mpr ⟨lxi_29, List.forall_mem_append.mpr ⟨lxi_30, List.forall_mem_append.mpr ⟨lxi_31, List.forall_mem_append.mpr ⟨lxi_32, List.forall_mem_append.mpr ⟨lxi_33, List.forall_mem_append.mpr ⟨lxi_34, List.forall_mem_append.mpr ⟨lxi_35, List.forall_mem_append.mpr ⟨lxi_36, List.forall_mem_append.mpr ⟨lxi_37, List.forall_mem_append.mpr ⟨lxi_38, List.forall_mem_append.mpr ⟨lxi_39, List.forall_mem_append.mpr ⟨lxi_40, List.forall_mem_append.mpr ⟨lxi_41, List.forall_mem_append.mpr ⟨lxi_42, List.forall_mem_append.mpr ⟨lxi_43, List.forall_mem_append.mpr ⟨lxi_44, List.forall_mem_append.mpr ⟨lxi_45, List.forall_mem_append.mpr ⟨lxi_46, lxi_47⟩⟩⟩⟩⟩⟩⟩⟩⟩⟩⟩⟩⟩⟩⟩⟩⟩⟩⟩⟩⟩⟩⟩⟩⟩⟩⟩⟩⟩⟩⟩⟩⟩⟩⟩⟩⟩⟩⟩⟩⟩⟩⟩⟩⟩⟩⟩, lxi_48⟩, lxi_49⟩, lxi_50⟩, lxi_51⟩, lxi_52⟩, lxi_53⟩, lxi_54⟩, lxi_55⟩, lxi_56⟩, lxi_57⟩, lxi_58⟩, lxi_59⟩, lxi_60⟩, lxi_61⟩, fun _ h => absurd h List.not_mem_nil⟩
