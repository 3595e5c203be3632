def lx_ex : List Cond := [.selects RJ4 yJ5_ensureCapacityInternal_d00df yJ5_ensureCapacityInternal_d00df, .selects RJ4 yJ5_newCapacity_0f7a4 yJ5_newCapacity_0f7a4, .selects RJ4 yJ5_inflate_da8c8 yJ5_inflate_da8c8]
def lx_tbl : List Cond := lx_ex ++ lw_tbl
theorem lx_sel {C : String} {y x2 y2 : MethodName} {s : State} {args : Array Value} {n : Nat} (hy : y.cls ≠ "java/lang/invoke/MethodHandle" ∧ y.cls ≠ "java/lang/invoke/VarHandle") (hins : (Cond.instantiable C n).before args s = true) (hpriv : (Cond.privateMethod y).before args s = true) (hinst : (Cond.instanceMethod y).before args s = true) (hsel2 : (Cond.selects C x2 y2).before args s = true) (h2 : y2.cls = y.cls) : (Cond.selects C y y).before args s = true := by
  obtain ⟨c, k, hc, hk, -, hniab, -, -⟩ := Cond.instantiable_spec hins
  obtain ⟨mk, methM, hnamed, hmethM, -, -⟩ := Cond.instanceMethod_spec hinst
  have hfound : s.methodFound? y.cls y.name y.desc = some mk := State.methodFound?_of_named hnamed hy
  have hsel : selectMethod {} s.vm c mk = .method mk := selectMethod_private hmethM (Cond.privateMethod_at hpriv mk methM hnamed hmethM)
  obtain ⟨c2, r2, m2, q1, q2, q3, q4, kk, q5, q6⟩ := Cond.selects_spec hsel2
  have e : mk.cls = m2.cls := Option.some.inj ((findClass_of_methodNamed hnamed).symm.trans (by rw [← h2]; exact findClass_of_methodNamed q3))
  simp only [Cond.before, Cond.holds, Cond.value, hc, hfound, hnamed, hsel]
  rw [e, q5]
  simp [q6]
theorem lx_hts {s : State} {args : Array Value} (hts : ∀ w ∈ lw_tbl, w.before args s = true) : ∀ w ∈ lx_tbl, w.before args s = true := by
  have hi : (Cond.instantiable RJ4 4).before args s = true := hts _ (by decide +kernel)
  have hs : (Cond.selects RJ4 ⟨"java/lang/AbstractStringBuilder", "getValue", "()[B"⟩ yJ5_getValue_6d5f1).before args s = true := hts _ (by decide +kernel)
  intro w hw
  rcases List.mem_append.mp hw with hw | hw
  · rcases List.mem_cons.mp hw with rfl | hw
    · exact lx_sel ⟨by decide +kernel, by decide +kernel⟩ hi (hts _ (by decide +kernel)) (hts _ (by decide +kernel)) hs rfl
    · rcases List.mem_cons.mp hw with rfl | hw
      · exact lx_sel ⟨by decide +kernel, by decide +kernel⟩ hi (hts _ (by decide +kernel)) (hts _ (by decide +kernel)) hs rfl
      · rcases List.mem_cons.mp hw with rfl | hw
        · exact lx_sel ⟨by decide +kernel, by decide +kernel⟩ hi (hts _ (by decide +kernel)) (hts _ (by decide +kernel)) hs rfl
        · exact absurd hw List.not_mem_nil
  · exact hts w hw
theorem lxi {a : List Cond} (ps : List Nat) (e : a = ps.filterMap (fun i => lx_tbl[i]?)) : ∀ w ∈ a, w ∈ lx_tbl := by
  rw [e]
  intro w h
  obtain ⟨i, -, hi⟩ := List.mem_filterMap.mp h
  exact List.mem_of_getElem? hi
set_option maxRecDepth 100000 in
theorem lxi_0 : ∀ w ∈ wsL_law_r1, w ∈ lx_tbl := lxi [75, 76, 52, 1010, 1011, 67, 77, 78, 79, 80, 81, 82, 83, 85, 53, 91, 92, 54, 98, 99, 55, 105, 106, 56] rfl
set_option maxRecDepth 100000 in
theorem lxi_1 : ∀ w ∈ wsL_law_r2, w ∈ lx_tbl := lxi [112, 113, 57, 284, 119, 120, 58, 285, 162, 163, 63, 286, 87, 88, 89, 94, 95, 101, 102, 108, 109, 115, 116, 122] rfl
set_option maxRecDepth 100000 in
theorem lxi_2 : ∀ w ∈ wsL_law_r3, w ∈ lx_tbl := lxi [123, 124, 125, 126, 60, 158, 127, 128, 129, 130, 131, 59, 132, 133, 134, 157, 143, 144, 136, 137, 62, 138, 139, 140] rfl
set_option maxRecDepth 100000 in
theorem lxi_3 : ∀ w ∈ wsL_law_r4, w ∈ lx_tbl := lxi [141, 142, 164, 165, 166, 167, 242, 238, 240, 209, 243, 168, 169, 64, 245, 247, 250, 252, 255, 210, 211, 66, 253, 170] rfl
set_option maxRecDepth 100000 in
theorem lxi_4 : ∀ w ∈ wsL_law_r5, w ∈ lx_tbl := lxi [171, 172, 173, 174, 180, 182, 185, 178, 188, 175, 176, 65, 177, 212, 213, 214, 215, 216, 217, 218, 220, 221, 233, 235] rfl
set_option maxRecDepth 100000 in
theorem lxi_5 : ∀ w ∈ wsL_law_r6, w ∈ lx_tbl := lxi [3, 236, 237, 1012, 1013, 1014, 1015, 1016, 1021, 1026, 1027, 1028, 1029, 1030, 1032, 1035, 1040, 1041, 1042, 1043, 1037, 303, 304, 305] rfl
set_option maxRecDepth 100000 in
theorem lxi_6 : ∀ w ∈ wsL_law_r7, w ∈ lx_tbl := lxi [306, 307, 308, 309, 310, 311, 312, 313, 314, 315, 316, 317, 318, 1379, 156, 319, 320, 147, 321, 322, 323, 324, 325, 326] rfl
set_option maxRecDepth 100000 in
theorem lxi_7 : ∀ w ∈ wsL_law_r8, w ∈ lx_tbl := lxi [327, 328, 329, 1380, 330, 331, 332, 1381, 0, 334, 335, 336, 1382, 1, 338, 339, 350, 340, 341, 68, 342, 343, 344, 69] rfl
set_option maxRecDepth 100000 in
theorem lxi_8 : ∀ w ∈ wsL_law_r9, w ∈ lx_tbl := lxi [345, 346, 347, 348, 349, 351, 352, 353, 354, 355, 356, 357, 358, 360, 361, 362, 363, 364, 366, 365, 70, 367, 369, 370] rfl
set_option maxRecDepth 100000 in
theorem lxi_9 : ∀ w ∈ wsL_law_r10, w ∈ lx_tbl := lxi [368, 371, 372, 373, 71, 374, 375, 1383, 2, 377, 378, 379, 380, 381, 382, 383, 384, 385, 386, 387, 388, 389, 390, 391] rfl
set_option maxRecDepth 100000 in
theorem lxi_10 : ∀ w ∈ wsL_law_r11, w ∈ lx_tbl := lxi [392, 61, 393, 394, 396, 397, 72, 398, 399, 400, 401, 402, 404, 406, 408, 409, 410, 411, 412, 413, 414, 415, 416, 417] rfl
set_option maxRecDepth 100000 in
theorem lxi_11 : ∀ w ∈ wsL_law_r12, w ∈ lx_tbl := lxi [418, 419, 1104, 1105, 1106, 1107, 1108, 1017, 1109, 1110, 1111, 420, 421, 422, 423, 424, 425, 426, 427, 428, 429, 430, 431, 432] rfl
set_option maxRecDepth 100000 in
theorem lxi_12 : ∀ w ∈ wsL_law_r13, w ∈ lx_tbl := lxi [1384, 433, 434, 145, 435, 436, 437, 438, 439, 440, 441, 442, 443, 444, 445, 446, 447, 1112, 1113, 1114, 1115, 448, 449, 450] rfl
set_option maxRecDepth 100000 in
theorem lxi_13 : ∀ w ∈ wsL_law_r14, w ∈ lx_tbl := lxi [451, 452, 453, 454, 455, 456, 458, 4, 459, 460, 461, 462, 463, 465, 466, 467, 468, 469, 1385, 470, 471, 472, 473, 474] rfl
set_option maxRecDepth 100000 in
theorem lxi_14 : ∀ w ∈ wsL_law_r15, w ∈ lx_tbl := lxi [475, 476, 481, 482, 483, 484, 628, 485, 486, 487, 488, 489, 629, 490, 491, 492, 493, 494, 495, 496, 497, 498, 499, 500] rfl
set_option maxRecDepth 100000 in
theorem lxi_15 : ∀ w ∈ wsL_law_r16, w ∈ lx_tbl := lxi [501, 502, 503, 504, 505, 506, 507, 508, 510, 511, 512, 513, 514, 515, 516, 517, 518, 519, 520, 521, 525, 526, 522, 523] rfl
set_option maxRecDepth 100000 in
theorem lxi_16 : ∀ w ∈ wsL_law_r17, w ∈ lx_tbl := lxi [524, 527, 528, 529, 530, 531, 532, 533, 534, 535, 536, 537, 538, 539, 540, 541, 542, 543, 544, 545, 546, 547, 548, 549] rfl
set_option maxRecDepth 100000 in
theorem lxi_17 : ∀ w ∈ wsL_law_r18, w ∈ lx_tbl := lxi [550, 551, 552, 553, 554, 555, 73, 556, 557, 558, 559, 560, 561, 562, 563, 564, 566, 567, 1116, 1117, 1118, 1119, 1120, 1122] rfl
set_option maxRecDepth 100000 in
theorem lxi_18 : ∀ w ∈ wsL_law_r19, w ∈ lx_tbl := lxi [18, 1123, 1124, 1126, 19, 1127, 1018, 1019, 1020, 1128, 1129, 1130, 1132, 20, 1133, 1134, 1135, 1136, 1137, 1139, 21, 1140, 1141, 1142] rfl
set_option maxRecDepth 100000 in
theorem lxi_19 : ∀ w ∈ wsL_law_r20, w ∈ lx_tbl := lxi [568, 569, 570, 571, 287, 572, 573, 574, 575, 576, 577, 578, 579, 580, 581, 582, 583, 584, 585, 586, 587, 588, 589, 590] rfl
set_option maxRecDepth 100000 in
theorem lxi_20 : ∀ w ∈ wsL_law_r21, w ∈ lx_tbl := lxi [591, 592, 593, 594, 595, 596, 597, 598, 599, 600, 601, 146, 602, 604, 605, 603, 606, 607, 319, 1386, 608, 609, 610, 611] rfl
set_option maxRecDepth 100000 in
theorem lxi_21 : ∀ w ∈ wsL_law_r22, w ∈ lx_tbl := lxi [612, 613, 614, 615, 616, 617, 618, 619, 620, 621, 622, 623, 624, 625, 626, 627, 639, 640, 641, 642, 643, 645, 646, 648] rfl
set_option maxRecDepth 100000 in
theorem lxi_22 : ∀ w ∈ wsL_law_r23, w ∈ lx_tbl := lxi [650, 5, 651, 652, 653, 655, 6, 656, 657, 658, 659, 678, 657, 660, 658, 661, 662, 663, 664, 665, 666, 667, 668, 669] rfl
set_option maxRecDepth 100000 in
theorem lxi_23 : ∀ w ∈ wsL_law_r24, w ∈ lx_tbl := lxi [670, 1387, 118, 671, 672, 673, 674, 675, 676, 677, 1143, 1144, 1145, 1146, 1022, 1023, 1024, 1034, 1025, 1147, 1148, 1149, 1150, 1151] rfl
set_option maxRecDepth 100000 in
theorem lxi_24 : ∀ w ∈ wsL_law_r25, w ∈ lx_tbl := lxi [1152, 679, 680, 681, 682, 683, 685, 7, 686, 687, 689, 8, 690, 691, 692, 693, 694, 695, 696, 697, 711, 695, 698, 696] rfl
set_option maxRecDepth 100000 in
theorem lxi_25 : ∀ w ∈ wsL_law_r26, w ∈ lx_tbl := lxi [699, 700, 701, 702, 703, 704, 705, 706, 707, 708, 709, 710, 712, 713, 714, 715, 716, 718, 9, 719, 720, 721, 722, 74] rfl
set_option maxRecDepth 100000 in
theorem lxi_26 : ∀ w ∈ wsL_law_r27, w ∈ lx_tbl := lxi [723, 924, 724, 725, 726, 727, 925, 926, 927, 728, 728, 729, 730, 731, 732, 733, 734, 736, 10, 737, 742, 738, 740, 11] rfl
set_option maxRecDepth 100000 in
theorem lxi_27 : ∀ w ∈ wsL_law_r28, w ∈ lx_tbl := lxi [741, 1153, 1154, 1155, 1156, 1157, 1159, 22, 1160, 1161, 1163, 23, 1164, 1165, 1167, 24, 1168, 1169, 1171, 25, 1172, 1173, 1175, 26] rfl
set_option maxRecDepth 100000 in
theorem lxi_28 : ∀ w ∈ wsL_law_r29, w ∈ lx_tbl := lxi [1176, 1177, 1178, 1179, 1180, 1182, 27, 1183, 1184, 1186, 28, 1187, 1188, 1189, 1190, 743, 744, 745, 746, 747, 748, 749, 91, 98] rfl
set_option maxRecDepth 100000 in
theorem lxi_29 : ∀ w ∈ wsL_law_r30, w ∈ lx_tbl := lxi [105, 112, 1191, 1192, 1193, 1194, 1195, 750, 751, 752, 753, 754, 756, 12, 757, 758, 759, 759, 1196, 1197, 1198, 1199, 1204, 1200] rfl
set_option maxRecDepth 100000 in
theorem lxi_30 : ∀ w ∈ wsL_law_r31, w ∈ lx_tbl := lxi [1202, 29, 1203, 760, 761, 762, 763, 764, 765, 766, 767, 768, 769, 770, 771, 1205, 1206, 1207, 1208, 1209, 1211, 30, 1212, 1213] rfl
set_option maxRecDepth 100000 in
theorem lxi_31 : ∀ w ∈ wsL_law_r32, w ∈ lx_tbl := lxi [1215, 31, 1216, 772, 773, 774, 775, 1217, 1218, 1219, 1220, 776, 777, 778, 779, 780, 781, 782, 783, 256, 1221, 1222, 1223, 1224] rfl
set_option maxRecDepth 100000 in
theorem lxi_32 : ∀ w ∈ wsL_law_r33, w ∈ lx_tbl := lxi [784, 785, 786, 787, 788, 789, 790, 791, 792, 793, 794, 795, 254, 796, 797, 798, 799, 800, 801, 802, 803, 804, 805, 807] rfl
set_option maxRecDepth 100000 in
theorem lxi_33 : ∀ w ∈ wsL_law_r34, w ∈ lx_tbl := lxi [13, 808, 809, 811, 14, 812, 813, 813, 1225, 1226, 1227, 1228, 1229, 1230, 1232, 32, 1233, 1234, 1235, 1236, 1237, 1239, 33, 1240] rfl
set_option maxRecDepth 100000 in
theorem lxi_34 : ∀ w ∈ wsL_law_r35, w ∈ lx_tbl := lxi [1241, 1243, 34, 1244, 814, 815, 816, 817, 1245, 1246, 1247, 1248, 818, 819, 820, 821, 822, 823, 824, 825, 826, 827, 828, 829] rfl
set_option maxRecDepth 100000 in
theorem lxi_35 : ∀ w ∈ wsL_law_r36, w ∈ lx_tbl := lxi [1249, 1250, 1251, 1252, 1253, 1255, 35, 1256, 830, 831, 832, 833, 834, 836, 15, 837, 838, 839, 840, 841, 842, 843, 844, 846] rfl
set_option maxRecDepth 100000 in
theorem lxi_36 : ∀ w ∈ wsL_law_r37, w ∈ lx_tbl := lxi [847, 848, 849, 850, 851, 1257, 1258, 1259, 1260, 1261, 1263, 36, 1264, 1265, 1267, 37, 1268, 1269, 1271, 38, 1272, 1273, 1275, 39] rfl
set_option maxRecDepth 100000 in
theorem lxi_37 : ∀ w ∈ wsL_law_r38, w ∈ lx_tbl := lxi [1276, 852, 853, 854, 855, 288, 856, 857, 858, 859, 869, 860, 862, 16, 863, 864, 865, 866, 867, 1277, 1278, 1279, 1280, 1031] rfl
set_option maxRecDepth 100000 in
theorem lxi_38 : ∀ w ∈ wsL_law_r39, w ∈ lx_tbl := lxi [1281, 1283, 40, 1284, 1285, 1287, 41, 1288, 870, 871, 872, 873, 1289, 1290, 1291, 1292, 874, 875, 876, 877, 878, 879, 880, 881] rfl
set_option maxRecDepth 100000 in
theorem lxi_39 : ∀ w ∈ wsL_law_r40, w ∈ lx_tbl := lxi [882, 1293, 1294, 1295, 1296, 1297, 1299, 42, 1300, 883, 884, 885, 886, 289, 887, 888, 889, 890, 891, 893, 17, 894, 895, 898] rfl
set_option maxRecDepth 100000 in
theorem lxi_40 : ∀ w ∈ wsL_law_r41, w ∈ lx_tbl := lxi [899, 900, 1301, 1302, 1303, 1304, 1033, 1305, 1307, 43, 1308, 1309, 1310, 1312, 44, 1313, 901, 902, 903, 904, 905, 906, 907, 908] rfl
set_option maxRecDepth 100000 in
theorem lxi_41 : ∀ w ∈ wsL_law_r42, w ∈ lx_tbl := lxi [909, 910, 911, 912, 913, 1314, 1315, 1316, 1317, 1318, 1320, 45, 1321, 914, 915, 916, 917, 918, 919, 920, 921, 922, 923, 937] rfl
set_option maxRecDepth 100000 in
theorem lxi_42 : ∀ w ∈ wsL_law_r43, w ∈ lx_tbl := lxi [938, 939, 940, 190, 1322, 1323, 1324, 1325, 1326, 941, 942, 943, 944, 1327, 1328, 1329, 1330, 945, 946, 947, 948, 949, 950, 951] rfl
set_option maxRecDepth 100000 in
theorem lxi_43 : ∀ w ∈ wsL_law_r44, w ∈ lx_tbl := lxi [952, 953, 954, 955, 956, 957, 1331, 1332, 1333, 1334, 1335, 1336, 1036, 1337, 1339, 46, 1340, 1341, 1342, 1343, 1344, 958, 959, 960] rfl
set_option maxRecDepth 100000 in
theorem lxi_44 : ∀ w ∈ wsL_law_r45, w ∈ lx_tbl := lxi [961, 962, 963, 964, 965, 248, 966, 967, 968, 969, 970, 193, 1345, 1346, 1347, 1348, 1038, 1039, 971, 972, 973, 974, 975, 976] rfl
set_option maxRecDepth 100000 in
theorem lxi_45 : ∀ w ∈ wsL_law_r46, w ∈ lx_tbl := lxi [977, 978, 1349, 1350, 1351, 1352, 979, 980, 981, 982, 983, 984, 985, 986, 987, 988, 989, 990, 991, 992, 993, 994, 995, 1353] rfl
set_option maxRecDepth 100000 in
theorem lxi_46 : ∀ w ∈ wsL_law_r47, w ∈ lx_tbl := lxi [1354, 1355, 1356, 1357, 1359, 47, 1360, 1361, 1363, 48, 1364, 1365, 1367, 49, 1368, 996, 997, 998, 999, 1000, 1001, 1002, 1003, 1004] rfl
set_option maxRecDepth 100000 in
theorem lxi_47 : ∀ w ∈ wsL_law_r48, w ∈ lx_tbl := lxi [1005, 1006, 1007, 1008, 1009, 1369, 1370, 1371, 1372, 1373, 1044, 1374, 1376, 50, 1377, 1378] rfl
set_option maxRecDepth 100000 in
theorem lxi_48 : ∀ w ∈ wsX100, w ∈ lx_tbl := lxi [290, 292, 294, 296, 298, 300] rfl
set_option maxRecDepth 100000 in
theorem lxi_49 : ∀ w ∈ wsX110, w ∈ lx_tbl := lxi [1045, 1047, 1049, 1051, 1053, 1055, 1057, 1059, 1061, 1063, 1065, 1067, 1069, 1071, 1073, 1075, 1077, 1079, 1081, 1083, 1085, 1087, 1089, 1091, 1093, 1095, 1097, 1099, 1101] rfl
set_option maxRecDepth 100000 in
theorem lxi_50 : ∀ w ∈ wsX00, w ∈ lx_tbl := lxi [] rfl
set_option maxRecDepth 100000 in
theorem lxi_51 : ∀ w ∈ wsX10, w ∈ lx_tbl := lxi [] rfl
set_option maxRecDepth 100000 in
theorem lxi_52 : ∀ w ∈ wsX30, w ∈ lx_tbl := lxi [] rfl
set_option maxRecDepth 100000 in
theorem lxi_53 : ∀ w ∈ wsX90, w ∈ lx_tbl := lxi [] rfl
set_option maxRecDepth 100000 in
theorem lxi_54 : ∀ w ∈ wsX20, w ∈ lx_tbl := lxi [] rfl
set_option maxRecDepth 100000 in
theorem lxi_55 : ∀ w ∈ wsX40, w ∈ lx_tbl := lxi [159] rfl
set_option maxRecDepth 100000 in
theorem lxi_56 : ∀ w ∈ wsX50, w ∈ lx_tbl := lxi [257, 259, 261, 263, 265, 267, 269, 271, 273, 275, 277, 279, 281] rfl
set_option maxRecDepth 100000 in
theorem lxi_57 : ∀ w ∈ wsJ40, w ∈ lx_tbl := lxi [148, 150, 152, 154] rfl
set_option maxRecDepth 100000 in
theorem lxi_58 : ∀ w ∈ wsX80, w ∈ lx_tbl := lxi [196, 198, 200, 202, 204, 206] rfl
set_option maxRecDepth 100000 in
theorem lxi_59 : ∀ w ∈ wsX60, w ∈ lx_tbl := lxi [222, 224, 226, 228, 230] rfl
set_option maxRecDepth 100000 in
theorem lxi_60 : ∀ w ∈ wsJ00, w ∈ lx_tbl := lxi [630, 632, 634, 636] rfl
set_option maxRecDepth 100000 in
theorem lxi_61 : ∀ w ∈ wsX70, w ∈ lx_tbl := lxi [928, 930, 932, 934] rfl
theorem wsL_law_in : ∀ w ∈ wsL_law, w ∈ lx_tbl := List.forall_mem_append.mpr ⟨List.forall_mem_append.mpr ⟨List.forall_mem_append.mpr ⟨List.forall_mem_append.mpr ⟨List.forall_mem_append.mpr ⟨List.forall_mem_append.mpr ⟨List.forall_mem_append.mpr ⟨List.forall_mem_append.mpr ⟨List.forall_mem_append.mpr ⟨List.forall_mem_append.mpr ⟨List.forall_mem_append.mpr ⟨List.forall_mem_append.mpr ⟨List.forall_mem_append.mpr ⟨List.forall_mem_append.mpr ⟨List.forall_mem_append.mpr ⟨List.forall_mem_append.mpr ⟨lxi_0, List.forall_mem_append.mpr ⟨lxi_1, List.forall_mem_append.mpr ⟨lxi_2, List.forall_mem_append.mpr ⟨lxi_3, List.forall_mem_append.mpr ⟨lxi_4, List.forall_mem_append.mpr ⟨lxi_5, List.forall_mem_append.mpr ⟨lxi_6, List.forall_mem_append.mpr ⟨lxi_7, List.forall_mem_append.mpr ⟨lxi_8, List.forall_mem_append.mpr ⟨lxi_9, List.forall_mem_append.mpr ⟨lxi_10, List.forall_mem_append.mpr ⟨lxi_11, List.forall_mem_append.mpr ⟨lxi_12, List.forall_mem_append.mpr ⟨lxi_13, List.forall_mem_append.mpr ⟨lxi_14, List.forall_mem_append.mpr ⟨lxi_15, List.forall_mem_append.mpr ⟨lxi_16, List.forall_mem_append.mpr ⟨lxi_17, List.forall_mem_append.mpr ⟨lxi_18, List.forall_mem_append.mpr ⟨lxi_19, List.forall_mem_append.mpr ⟨lxi_20, List.forall_mem_append.mpr ⟨lxi_21, List.forall_mem_append.mpr ⟨lxi_22, List.forall_mem_append.mpr ⟨lxi_23, List.forall_mem_append.mpr ⟨lxi_24, List.forall_mem_append.mpr ⟨lxi_25, List.forall_mem_append.mpr ⟨lxi_26, List.forall_mem_append.mpr ⟨lxi_27, List.forall_mem_append.mpr ⟨lxi_28, List.forall_mem_append.mpr ⟨lxi_29, List.forall_mem_append.mpr ⟨lxi_30, List.forall_mem_append.mpr ⟨lxi_31, List.forall_mem_append.mpr ⟨lxi_32, List.forall_mem_append.mpr ⟨lxi_33, List.forall_mem_append.mpr ⟨lxi_34, List.forall_mem_append.mpr ⟨lxi_35, List.forall_mem_append.mpr ⟨lxi_36, List.forall_mem_append.mpr ⟨lxi_37, List.forall_mem_append.mpr ⟨lxi_38, List.forall_mem_append.mpr ⟨lxi_39, List.forall_mem_append.mpr ⟨lxi_40, List.forall_mem_append.mpr ⟨lxi_41, List.forall_mem_append.mpr ⟨lxi_42, List.forall_mem_append.mpr ⟨lxi_43, List.forall_mem_append.mpr ⟨lxi_44, List.forall_mem_append.mpr ⟨lxi_45, List.forall_mem_append.mpr ⟨lxi_46, lxi_47⟩⟩⟩⟩⟩⟩⟩⟩⟩⟩⟩⟩⟩⟩⟩⟩⟩⟩⟩⟩⟩⟩⟩⟩⟩⟩⟩⟩⟩⟩⟩⟩⟩⟩⟩⟩⟩⟩⟩⟩⟩⟩⟩⟩⟩⟩⟩, lxi_48⟩, lxi_49⟩, lxi_50⟩, lxi_51⟩, lxi_52⟩, lxi_53⟩, lxi_54⟩, lxi_55⟩, lxi_56⟩, lxi_57⟩, lxi_58⟩, lxi_59⟩, lxi_60⟩, lxi_61⟩, fun _ h => absurd h List.not_mem_nil⟩
