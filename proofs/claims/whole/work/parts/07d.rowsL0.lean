set_option maxRecDepth 100000 in
theorem ggL_law_X10_forget : GoodIn wsL_law wsX10_forget := goodIn_r _ [1020, 35, 1143, 1144, 1145, 1146, 1147, 1148, 1179, 1180, 1181, 1182, 1183, 1184, 1185, 1186, 1187, 1188, 1189, 1190, 1191, 1192, 1193, 1198, 1199, 1200, 1201, 1202, 1203] rfl (by decide +kernel)
set_option maxRecDepth 100000 in
theorem gL_law_X10_forget : GoodIn wsL_law (wsV RL 98 RX10 yX10_forget wsX10_forget) := goodIn_app (goodIn_of _ (by decide +kernel)) ggL_law_X10_forget
set_option maxRecDepth 100000 in
theorem ggL_law_X11_forget : GoodIn wsL_law wsX11_forget := goodIn_r _ [1024, 583, 1149, 1150, 1151, 1152, 1153, 1154, 1155, 1156, 1157, 1158, 1159, 1160, 1161, 1162, 1163, 1164, 1165, 1166, 1167, 1168, 1169, 1170, 1171, 1172, 1173, 1174, 1175, 1176, 1177] rfl (by decide +kernel)
set_option maxRecDepth 100000 in
theorem gL_law_X11_forget : GoodIn wsL_law (wsV RL 101 RX11 yX11_forget wsX11_forget) := goodIn_app (goodIn_of _ (by decide +kernel)) ggL_law_X11_forget
set_option maxRecDepth 100000 in
theorem ggL_law_X10_drawn : GoodIn wsL_law wsX10_drawn := goodIn_r _ [1028, 35, 988, 201, 202, 203, 156, 157, 2, 158, 846, 847, 848, 849, 1029, 1030, 1031, 34, 1032, 79, 1033, 1034, 1035, 89, 1036, 546, 547, 548, 549, 80, 82, 78, 86, 550, 551, 552, 14, 553, 554, 555, 556, 557, 558, 17, 559, 560, 561, 562, 563, 564, 26, 565, 566, 567, 568, 569, 23, 570, 571, 572, 20, 573, 574, 575, 1037, 831, 832, 833, 1143, 1144, 1145, 1146, 1147, 1148, 1179, 1180, 1181, 1182, 1183, 1184, 1185, 1186, 1187, 1188, 1189, 1190, 1191, 1192, 1193, 1198, 1199, 1200, 1201, 1202, 1203] rfl (by decide +kernel)
set_option maxRecDepth 100000 in
theorem gL_law_X10_drawn : GoodIn wsL_law (wsV RL 102 RX10 yX10_drawn wsX10_drawn) := goodIn_app (goodIn_of _ (by decide +kernel)) ggL_law_X10_drawn
set_option maxRecDepth 100000 in
theorem ggL_law_X11_drawn : GoodIn wsL_law wsX11_drawn := goodIn_r _ [1041, 1042, 1043, 1044, 580, 144, 143, 581, 283, 284, 5, 285, 867, 868, 869, 870, 1045, 1046, 1047, 1048, 1049, 1050, 1051, 1052, 659, 660, 661, 662, 140, 663, 664, 665, 666, 667, 668, 669, 1149, 1150, 1151, 1152, 1153, 1154, 1155, 1156, 1157, 1158, 1159, 1160, 1161, 1162, 1163, 1164, 1165, 1166, 1167, 1168, 1169, 1170, 1171, 1172, 1173, 1174, 1175, 1176, 1177] rfl (by decide +kernel)
set_option maxRecDepth 100000 in
theorem gL_law_X11_drawn : GoodIn wsL_law (wsV RL 105 RX11 yX11_drawn wsX11_drawn) := goodIn_app (goodIn_of _ (by decide +kernel)) ggL_law_X11_drawn
set_option maxRecDepth 100000 in
theorem ggL_law_X10_image : GoodIn wsL_law wsX10_image := goodIn_r _ [1056, 35, 846, 847, 848, 2, 849, 1057, 1058, 1059, 34, 1060, 87, 86, 1061, 1062, 1063, 1064, 85, 1065, 108, 104, 105, 106, 1011, 1066, 542, 543, 544, 218, 202, 219, 545, 221, 222, 223, 1143, 1144, 1145, 1146, 1147, 1148, 1179, 1180, 1181, 1182, 1183, 1184, 1185, 1186, 1187, 1188, 1189, 1190, 1191, 1192, 1193, 1198, 1199, 1200, 1201, 1202, 1203] rfl (by decide +kernel)
set_option maxRecDepth 100000 in
theorem gL_law_X10_image : GoodIn wsL_law (wsV RL 106 RX10 yX10_image wsX10_image) := goodIn_app (goodIn_of _ (by decide +kernel)) ggL_law_X10_image
set_option maxRecDepth 100000 in
theorem ggL_law_X11_image : GoodIn wsL_law wsX11_image := goodIn_r _ [1070, 140, 147, 141, 148, 142, 149, 146, 150, 582, 1071, 583, 1072, 584, 151, 867, 868, 869, 5, 870, 580, 588, 589, 590, 1149, 1150, 1151, 1152, 1153, 1154, 1155, 1156, 1157, 1158, 1159, 1160, 1161, 1162, 1163, 1164, 1165, 1166, 1167, 1168, 1169, 1170, 1171, 1172, 1173, 1174, 1175, 1176, 1177] rfl (by decide +kernel)
set_option maxRecDepth 100000 in
theorem gL_law_X11_image : GoodIn wsL_law (wsV RL 109 RX11 yX11_image wsX11_image) := goodIn_app (goodIn_of _ (by decide +kernel)) ggL_law_X11_image
set_option maxRecDepth 100000 in
theorem ggL_law_X10_restore : GoodIn wsL_law wsX10_restore := goodIn_r _ [1076, 35, 1077, 1078, 1079, 34, 1080, 86, 87, 757, 1062, 1063, 1064, 85, 1065, 108, 104, 105, 106, 1011, 1066, 542, 2, 543, 544, 218, 202, 219, 545, 221, 222, 223, 538, 539, 540, 541, 88, 546, 547, 548, 549, 79, 80, 82, 78, 550, 551, 552, 14, 553, 554, 555, 556, 557, 558, 17, 559, 560, 561, 562, 563, 564, 26, 565, 566, 567, 568, 569, 23, 570, 571, 572, 20, 573, 574, 201, 203, 575, 1143, 1144, 1145, 1146, 1147, 1148, 1179, 1180, 1181, 1182, 1183, 1184, 1185, 1186, 1187, 1188, 1189, 1190, 1191, 1192, 1193, 1198, 1199, 1200, 1201, 1202, 1203] rfl (by decide +kernel)
set_option maxRecDepth 100000 in
theorem gL_law_X10_restore : GoodIn wsL_law (wsV RL 110 RX10 yX10_restore wsX10_restore) := goodIn_app (goodIn_of _ (by decide +kernel)) ggL_law_X10_restore
set_option maxRecDepth 100000 in
theorem ggL_law_X11_restore : GoodIn wsL_law wsX11_restore := goodIn_r _ [1084, 151, 584, 147, 140, 148, 141, 149, 142, 150, 146, 1071, 582, 1072, 583, 588, 589, 5, 590, 1149, 1150, 1151, 1152, 1153, 1154, 1155, 1156, 1157, 1158, 1159, 1160, 1161, 1162, 1163, 1164, 1165, 1166, 1167, 1168, 1169, 1170, 1171, 1172, 1173, 1174, 1175, 1176, 1177] rfl (by decide +kernel)
set_option maxRecDepth 100000 in
theorem gL_law_X11_restore : GoodIn wsL_law (wsV RL 113 RX11 yX11_restore wsX11_restore) := goodIn_app (goodIn_of _ (by decide +kernel)) ggL_law_X11_restore
set_option maxRecDepth 100000 in
theorem ggL_law_X10_count : GoodIn wsL_law wsX10_count := goodIn_r _ [1088, 35, 31, 471, 887, 942, 846, 847, 848, 2, 849, 1089, 726, 727, 34, 728, 80, 88, 1090, 1091, 1092, 1093, 1094, 1095, 1096, 1097, 86, 1098, 1099, 1100, 1101, 159, 160, 161, 30, 162, 53, 163, 164, 165, 52, 166, 167, 168, 169, 170, 59, 171, 172, 1143, 1144, 1145, 1146, 1147, 1148, 1179, 1180, 1181, 1182, 1183, 1184, 1185, 1186, 1187, 1188, 1189, 1190, 1191, 1192, 1193, 1198, 1199, 1200, 1201, 1202, 1203, 1178, 1194, 1195, 1196, 1197] rfl (by decide +kernel)
set_option maxRecDepth 100000 in
theorem gL_law_X10_count : GoodIn wsL_law (wsV RL 114 RX10 yX10_count wsX10_count) := goodIn_app (goodIn_of _ (by decide +kernel)) ggL_law_X10_count
set_option maxRecDepth 100000 in
theorem ggL_law_X11_count : GoodIn wsL_law wsX11_count := goodIn_r _ [1105, 1106, 1107, 1108, 5, 1109, 580, 581, 582, 583, 282, 584, 905, 970, 867, 868, 869, 870, 737, 738, 739, 740, 143, 655, 656, 657, 658, 141, 144, 588, 589, 590, 659, 660, 661, 662, 140, 663, 664, 665, 666, 667, 668, 669, 1110, 1111, 1112, 1113, 1114, 1115, 1116, 1117, 142, 1149, 1150, 1151, 1152, 1153, 1154, 1155, 1156, 1157, 1158, 1159, 1160, 1161, 1162, 1163, 1164, 1165, 1166, 1167, 1168, 1169, 1170, 1171, 1172, 1173, 1174, 1175, 1176, 1177] rfl (by decide +kernel)
set_option maxRecDepth 100000 in
theorem gL_law_X11_count : GoodIn wsL_law (wsV RL 117 RX11 yX11_count wsX11_count) := goodIn_app (goodIn_of _ (by decide +kernel)) ggL_law_X11_count
set_option maxRecDepth 100000 in
theorem ggL_law_X10_digest : GoodIn wsL_law wsX10_digest := goodIn_r _ [1121, 1122, 35, 1123, 31, 1124, 592, 593, 2, 594, 595, 596, 597, 598, 156, 157, 158, 599, 600, 601, 602, 603, 604, 605, 34, 606, 86, 79, 607, 608, 609, 610, 78, 611, 612, 613, 614, 615, 616, 617, 618, 619, 620, 621, 622, 623, 624, 625, 626, 627, 628, 551, 552, 14, 553, 629, 555, 556, 557, 558, 17, 559, 560, 561, 202, 562, 563, 564, 26, 565, 566, 567, 568, 569, 23, 570, 571, 572, 20, 573, 574, 201, 203, 575, 630, 631, 632, 633, 634, 635, 636, 637, 638, 550, 554, 639, 640, 641, 642, 1125, 823, 824, 825, 826, 827, 828, 829, 89, 542, 543, 544, 218, 219, 545, 221, 222, 223, 546, 547, 548, 549, 80, 82, 830, 831, 832, 833, 725, 726, 727, 728, 88, 1126, 981, 982, 983, 705, 435, 436, 770, 771, 772, 773, 757, 774, 90, 94, 129, 110, 111, 112, 775, 776, 777, 93, 778, 121, 117, 120, 122, 779, 780, 781, 782, 783, 784, 785, 786, 787, 118, 119, 788, 789, 790, 791, 792, 793, 984, 985, 986, 987, 988, 846, 847, 848, 849, 1127, 843, 844, 845, 850, 851, 852, 853, 854, 855, 856, 857, 858, 859, 860, 861, 862, 1128, 915, 916, 917, 1129, 923, 924, 925, 926, 927, 928, 929, 897, 898, 899, 900, 159, 160, 161, 30, 162, 53, 163, 164, 165, 52, 166, 167, 168, 169, 170, 59, 171, 172, 1130, 333, 334, 335, 336, 337, 338, 339, 340, 341, 342, 343, 65, 64, 344, 345, 272, 252, 273, 254, 274, 275, 257, 276, 346, 347, 68, 348, 262, 263, 264, 247, 248, 249, 1131, 1086, 1087, 1088, 471, 887, 942, 1089, 1090, 1091, 1092, 1093, 1094, 1095, 1096, 1097, 1098, 1099, 1100, 1101, 1143, 1144, 1145, 1146, 1147, 1148, 1179, 1180, 1181, 1182, 1183, 1184, 1185, 1186, 1187, 1188, 1189, 1190, 1191, 1192, 1193, 1198, 1199, 1200, 1201, 1202, 1203, 1216, 1217, 1218, 1219, 1204, 1205, 1206, 1207, 1208, 1209, 1178, 1194, 1195, 1196, 1197] rfl (by decide +kernel)
set_option maxRecDepth 100000 in
theorem gL_law_X10_digest : GoodIn wsL_law (wsV RL 118 RX10 yX10_digest wsX10_digest) := goodIn_app (goodIn_of _ (by decide +kernel)) ggL_law_X10_digest
set_option maxRecDepth 100000 in
theorem ggL_law_X11_digest : GoodIn wsL_law wsX11_digest := goodIn_r _ [1135, 1136, 1137, 581, 580, 282, 138, 651, 652, 653, 5, 654, 140, 143, 142, 655, 656, 657, 658, 141, 144, 588, 589, 590, 659, 660, 661, 662, 663, 664, 665, 666, 667, 668, 669, 670, 671, 672, 673, 583, 146, 674, 675, 676, 677, 678, 679, 680, 1138, 1139, 1140, 1141, 1142, 838, 839, 840, 841, 737, 738, 739, 740, 993, 994, 995, 996, 803, 804, 805, 806, 807, 808, 809, 810, 811, 812, 813, 867, 868, 869, 870, 871, 872, 873, 874, 875, 876, 877, 878, 879, 880, 881, 882, 799, 800, 801, 802, 934, 935, 936, 937, 1106, 1107, 1108, 1109, 582, 584, 905, 970, 1110, 1111, 1112, 1113, 1114, 1115, 1116, 1117, 1149, 1150, 1151, 1152, 1153, 1154, 1155, 1156, 1157, 1158, 1159, 1160, 1161, 1162, 1163, 1164, 1165, 1166, 1167, 1168, 1169, 1170, 1171, 1172, 1173, 1174, 1175, 1176, 1177] rfl (by decide +kernel)
set_option maxRecDepth 100000 in
theorem gL_law_X11_digest : GoodIn wsL_law (wsV RL 122 RX11 yX11_digest wsX11_digest) := goodIn_app (goodIn_of _ (by decide +kernel)) ggL_law_X11_digest
theorem dL_law_0 : decode cL_law 0 = .ok (.new 7, 3) := by decide +kernel
theorem dL_law_3 : decode cL_law 3 = .ok (.dup, 1) := by decide +kernel
