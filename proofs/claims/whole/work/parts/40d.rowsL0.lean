set_option maxRecDepth 100000 in
theorem ggL_law_X10_forget : GoodIn wsL_law wsX10_forget := goodIn_r _ [1016, 35, 1140, 1141, 1142, 1143, 1144, 1145, 1176, 1177, 1178, 1179, 1180, 1181, 1182, 1183, 1184, 1185, 1186, 1187, 1188, 1193, 1194, 1195, 1196, 1197, 1198] rfl (by decide +kernel)
set_option maxRecDepth 100000 in
theorem gL_law_X10_forget : GoodIn wsL_law (wsV RL 98 RX10 yX10_forget wsX10_forget) := goodIn_app (goodIn_of _ (by decide +kernel)) ggL_law_X10_forget
set_option maxRecDepth 100000 in
theorem ggL_law_X11_forget : GoodIn wsL_law wsX11_forget := goodIn_r _ [1020, 565, 1146, 1147, 1148, 1149, 1150, 1151, 1152, 1153, 1154, 1155, 1156, 1157, 1158, 1159, 1160, 1161, 1162, 1163, 1164, 1165, 1166, 1167, 1168, 1169, 1170, 1171, 1172, 1173, 1174] rfl (by decide +kernel)
set_option maxRecDepth 100000 in
theorem gL_law_X11_forget : GoodIn wsL_law (wsV RL 101 RX11 yX11_forget wsX11_forget) := goodIn_app (goodIn_of _ (by decide +kernel)) ggL_law_X11_forget
set_option maxRecDepth 100000 in
theorem ggL_law_X10_drawn : GoodIn wsL_law wsX10_drawn := goodIn_r _ [1024, 35, 984, 192, 193, 194, 242, 243, 2, 244, 848, 849, 850, 851, 1025, 1026, 1027, 34, 1028, 79, 1029, 1030, 1031, 89, 1032, 253, 254, 255, 256, 80, 82, 86, 257, 258, 259, 14, 260, 261, 262, 263, 264, 265, 17, 266, 267, 268, 269, 270, 271, 26, 272, 273, 274, 275, 276, 23, 277, 278, 279, 20, 280, 281, 282, 1033, 833, 834, 835, 1140, 1141, 1142, 1143, 1144, 1145, 1176, 1177, 1178, 1179, 1180, 1181, 1182, 1183, 1184, 1185, 1186, 1187, 1188, 1193, 1194, 1195, 1196, 1197, 1198] rfl (by decide +kernel)
set_option maxRecDepth 100000 in
theorem gL_law_X10_drawn : GoodIn wsL_law (wsV RL 102 RX10 yX10_drawn wsX10_drawn) := goodIn_app (goodIn_of _ (by decide +kernel)) ggL_law_X10_drawn
set_option maxRecDepth 100000 in
theorem ggL_law_X11_drawn : GoodIn wsL_law wsX11_drawn := goodIn_r _ [1037, 1038, 1039, 1040, 562, 293, 292, 563, 402, 403, 5, 404, 869, 870, 871, 872, 1041, 1042, 1043, 1044, 1045, 1046, 1047, 1048, 661, 662, 663, 664, 289, 665, 666, 667, 668, 669, 670, 671, 1146, 1147, 1148, 1149, 1150, 1151, 1152, 1153, 1154, 1155, 1156, 1157, 1158, 1159, 1160, 1161, 1162, 1163, 1164, 1165, 1166, 1167, 1168, 1169, 1170, 1171, 1172, 1173, 1174] rfl (by decide +kernel)
set_option maxRecDepth 100000 in
theorem gL_law_X11_drawn : GoodIn wsL_law (wsV RL 105 RX11 yX11_drawn wsX11_drawn) := goodIn_app (goodIn_of _ (by decide +kernel)) ggL_law_X11_drawn
set_option maxRecDepth 100000 in
theorem ggL_law_X10_image : GoodIn wsL_law wsX10_image := goodIn_r _ [1052, 35, 848, 849, 850, 2, 851, 1053, 1054, 1055, 34, 1056, 87, 86, 1057, 1058, 1059, 1060, 85, 1061, 144, 1062, 250, 251, 252, 145, 146, 148, 1007, 1063, 1140, 1141, 1142, 1143, 1144, 1145, 1176, 1177, 1178, 1179, 1180, 1181, 1182, 1183, 1184, 1185, 1186, 1187, 1188, 1193, 1194, 1195, 1196, 1197, 1198] rfl (by decide +kernel)
set_option maxRecDepth 100000 in
theorem gL_law_X10_image : GoodIn wsL_law (wsV RL 106 RX10 yX10_image wsX10_image) := goodIn_app (goodIn_of _ (by decide +kernel)) ggL_law_X10_image
set_option maxRecDepth 100000 in
theorem ggL_law_X11_image : GoodIn wsL_law wsX11_image := goodIn_r _ [1067, 289, 296, 290, 297, 291, 298, 295, 299, 564, 1068, 565, 1069, 566, 300, 869, 870, 871, 5, 872, 562, 570, 571, 572, 1146, 1147, 1148, 1149, 1150, 1151, 1152, 1153, 1154, 1155, 1156, 1157, 1158, 1159, 1160, 1161, 1162, 1163, 1164, 1165, 1166, 1167, 1168, 1169, 1170, 1171, 1172, 1173, 1174] rfl (by decide +kernel)
set_option maxRecDepth 100000 in
theorem gL_law_X11_image : GoodIn wsL_law (wsV RL 109 RX11 yX11_image wsX11_image) := goodIn_app (goodIn_of _ (by decide +kernel)) ggL_law_X11_image
set_option maxRecDepth 100000 in
theorem ggL_law_X10_restore : GoodIn wsL_law wsX10_restore := goodIn_r _ [1073, 35, 1074, 1075, 1076, 34, 1077, 86, 87, 759, 1058, 1059, 1060, 85, 1061, 144, 1062, 250, 251, 252, 145, 146, 148, 1007, 1063, 245, 246, 247, 248, 88, 79, 249, 253, 254, 255, 256, 80, 82, 257, 258, 259, 14, 260, 261, 262, 263, 264, 265, 17, 266, 267, 268, 193, 269, 270, 271, 26, 272, 273, 274, 275, 276, 23, 277, 278, 279, 20, 280, 281, 192, 194, 282, 1140, 1141, 1142, 1143, 1144, 1145, 1176, 1177, 1178, 1179, 1180, 1181, 1182, 1183, 1184, 1185, 1186, 1187, 1188, 1193, 1194, 1195, 1196, 1197, 1198] rfl (by decide +kernel)
set_option maxRecDepth 100000 in
theorem gL_law_X10_restore : GoodIn wsL_law (wsV RL 110 RX10 yX10_restore wsX10_restore) := goodIn_app (goodIn_of _ (by decide +kernel)) ggL_law_X10_restore
set_option maxRecDepth 100000 in
theorem ggL_law_X11_restore : GoodIn wsL_law wsX11_restore := goodIn_r _ [1081, 300, 566, 296, 289, 297, 290, 298, 291, 299, 295, 1068, 564, 1069, 565, 570, 571, 5, 572, 1146, 1147, 1148, 1149, 1150, 1151, 1152, 1153, 1154, 1155, 1156, 1157, 1158, 1159, 1160, 1161, 1162, 1163, 1164, 1165, 1166, 1167, 1168, 1169, 1170, 1171, 1172, 1173, 1174] rfl (by decide +kernel)
set_option maxRecDepth 100000 in
theorem gL_law_X11_restore : GoodIn wsL_law (wsV RL 113 RX11 yX11_restore wsX11_restore) := goodIn_app (goodIn_of _ (by decide +kernel)) ggL_law_X11_restore
set_option maxRecDepth 100000 in
theorem ggL_law_X10_count : GoodIn wsL_law wsX10_count := goodIn_r _ [1085, 35, 31, 506, 889, 945, 848, 849, 850, 2, 851, 1086, 728, 729, 34, 730, 80, 88, 1087, 1088, 1089, 1090, 1091, 1092, 1093, 1094, 86, 1095, 1096, 1097, 1098, 305, 306, 307, 30, 308, 53, 309, 310, 311, 52, 312, 313, 314, 315, 316, 59, 317, 318, 1140, 1141, 1142, 1143, 1144, 1145, 1176, 1177, 1178, 1179, 1180, 1181, 1182, 1183, 1184, 1185, 1186, 1187, 1188, 1193, 1194, 1195, 1196, 1197, 1198, 1175, 1189, 1190, 1191, 1192] rfl (by decide +kernel)
set_option maxRecDepth 100000 in
theorem gL_law_X10_count : GoodIn wsL_law (wsV RL 114 RX10 yX10_count wsX10_count) := goodIn_app (goodIn_of _ (by decide +kernel)) ggL_law_X10_count
set_option maxRecDepth 100000 in
theorem ggL_law_X11_count : GoodIn wsL_law wsX11_count := goodIn_r _ [1102, 1103, 1104, 1105, 5, 1106, 562, 563, 564, 565, 401, 566, 907, 962, 869, 870, 871, 872, 739, 740, 741, 742, 292, 657, 658, 659, 660, 290, 293, 570, 571, 572, 661, 662, 663, 664, 289, 665, 666, 667, 668, 669, 670, 671, 1107, 1108, 1109, 1110, 1111, 1112, 1113, 1114, 291, 1146, 1147, 1148, 1149, 1150, 1151, 1152, 1153, 1154, 1155, 1156, 1157, 1158, 1159, 1160, 1161, 1162, 1163, 1164, 1165, 1166, 1167, 1168, 1169, 1170, 1171, 1172, 1173, 1174] rfl (by decide +kernel)
set_option maxRecDepth 100000 in
theorem gL_law_X11_count : GoodIn wsL_law (wsV RL 117 RX11 yX11_count wsX11_count) := goodIn_app (goodIn_of _ (by decide +kernel)) ggL_law_X11_count
set_option maxRecDepth 100000 in
theorem ggL_law_X10_digest : GoodIn wsL_law wsX10_digest := goodIn_r _ [1118, 1119, 35, 1120, 31, 1121, 574, 575, 2, 576, 577, 578, 579, 580, 242, 243, 244, 581, 582, 583, 584, 585, 586, 587, 34, 588, 86, 79, 589, 590, 591, 14, 592, 593, 594, 595, 596, 597, 17, 598, 599, 600, 26, 601, 602, 603, 20, 604, 605, 606, 23, 607, 608, 609, 610, 611, 78, 612, 613, 614, 615, 616, 617, 618, 619, 620, 621, 622, 623, 624, 625, 626, 627, 628, 629, 258, 259, 260, 630, 262, 263, 264, 265, 266, 267, 268, 193, 269, 270, 271, 272, 273, 274, 275, 276, 277, 278, 279, 280, 281, 192, 194, 282, 631, 632, 633, 634, 635, 636, 637, 638, 639, 640, 257, 261, 641, 642, 643, 644, 1122, 825, 826, 827, 828, 829, 830, 831, 89, 249, 250, 251, 252, 253, 254, 255, 256, 80, 82, 832, 833, 834, 835, 727, 728, 729, 730, 88, 1123, 973, 974, 975, 707, 240, 241, 772, 773, 774, 775, 759, 776, 90, 94, 166, 150, 151, 152, 777, 778, 779, 93, 780, 160, 157, 159, 161, 781, 782, 783, 784, 785, 786, 787, 788, 789, 158, 790, 791, 792, 793, 794, 795, 976, 977, 978, 979, 932, 980, 981, 982, 983, 984, 848, 849, 850, 851, 1124, 845, 846, 847, 852, 853, 854, 855, 856, 857, 858, 859, 860, 861, 862, 863, 864, 1125, 917, 918, 919, 1126, 925, 926, 927, 928, 929, 930, 931, 899, 900, 901, 902, 305, 306, 307, 30, 308, 53, 309, 310, 311, 52, 312, 313, 314, 315, 316, 59, 317, 318, 1127, 452, 453, 454, 455, 456, 457, 458, 459, 460, 461, 462, 65, 64, 463, 196, 197, 464, 116, 98, 117, 118, 119, 120, 121, 122, 465, 134, 68, 135, 136, 137, 138, 129, 130, 131, 1128, 1083, 1084, 1085, 506, 889, 945, 1086, 1087, 1088, 1089, 1090, 1091, 1092, 1093, 1094, 1095, 1096, 1097, 1098, 1140, 1141, 1142, 1143, 1144, 1145, 1176, 1177, 1178, 1179, 1180, 1181, 1182, 1183, 1184, 1185, 1186, 1187, 1188, 1193, 1194, 1195, 1196, 1197, 1198, 1208, 1209, 1210, 1211, 1199, 1200, 1201, 1202, 1203, 1175, 1189, 1190, 1191, 1192] rfl (by decide +kernel)
set_option maxRecDepth 100000 in
theorem gL_law_X10_digest : GoodIn wsL_law (wsV RL 118 RX10 yX10_digest wsX10_digest) := goodIn_app (goodIn_of _ (by decide +kernel)) ggL_law_X10_digest
set_option maxRecDepth 100000 in
theorem ggL_law_X11_digest : GoodIn wsL_law wsX11_digest := goodIn_r _ [1132, 1133, 1134, 563, 562, 401, 287, 653, 654, 655, 5, 656, 289, 292, 291, 657, 658, 659, 660, 290, 293, 570, 571, 572, 661, 662, 663, 664, 665, 666, 667, 668, 669, 670, 671, 672, 673, 674, 675, 565, 295, 676, 677, 678, 679, 680, 681, 682, 1135, 1136, 1137, 1138, 1139, 840, 841, 842, 843, 739, 740, 741, 742, 989, 990, 991, 992, 805, 806, 807, 808, 809, 810, 811, 812, 813, 814, 815, 869, 870, 871, 872, 873, 874, 875, 876, 877, 878, 879, 880, 881, 882, 883, 884, 801, 802, 803, 804, 937, 938, 939, 940, 1103, 1104, 1105, 1106, 564, 566, 907, 962, 1107, 1108, 1109, 1110, 1111, 1112, 1113, 1114, 1146, 1147, 1148, 1149, 1150, 1151, 1152, 1153, 1154, 1155, 1156, 1157, 1158, 1159, 1160, 1161, 1162, 1163, 1164, 1165, 1166, 1167, 1168, 1169, 1170, 1171, 1172, 1173, 1174] rfl (by decide +kernel)
set_option maxRecDepth 100000 in
theorem gL_law_X11_digest : GoodIn wsL_law (wsV RL 122 RX11 yX11_digest wsX11_digest) := goodIn_app (goodIn_of _ (by decide +kernel)) ggL_law_X11_digest
theorem dL_law_0 : decode cL_law 0 = .ok (.new 7, 3) := by decide +kernel
theorem dL_law_3 : decode cL_law 3 = .ok (.dup, 1) := by decide +kernel

