set_option maxRecDepth 100000 in
theorem ggL_law_X10_order : GoodIn wsL_law wsX10_order := goodIn_r _ [847, 35, 242, 243, 2, 244, 848, 849, 850, 851, 852, 853, 854, 34, 855, 856, 857, 858, 79, 89, 86, 640, 192, 193, 194, 253, 254, 255, 256, 80, 82, 257, 258, 259, 14, 260, 261, 262, 263, 264, 265, 17, 266, 267, 268, 269, 270, 271, 26, 272, 273, 274, 275, 276, 23, 277, 278, 279, 20, 280, 281, 282, 832, 833, 834, 835, 859, 860, 861, 862, 863, 864, 1140, 1141, 1142, 1143, 1144, 1145, 1176, 1177, 1178, 1179, 1180, 1181, 1182, 1183, 1184, 1185, 1186, 1187, 1188, 1193, 1194, 1195, 1196, 1197, 1198] rfl (by decide +kernel)
set_option maxRecDepth 100000 in
theorem gL_law_X10_order : GoodIn wsL_law (wsV RL 69 RX10 yX10_order wsX10_order) := goodIn_app (goodIn_of _ (by decide +kernel)) ggL_law_X10_order
set_option maxRecDepth 100000 in
theorem ggL_law_X11_order : GoodIn wsL_law wsX11_order := goodIn_r _ [868, 402, 403, 5, 404, 869, 870, 871, 872, 562, 873, 874, 875, 876, 290, 292, 563, 877, 878, 879, 880, 805, 806, 807, 881, 882, 883, 884, 812, 813, 814, 815, 293, 661, 662, 663, 664, 289, 665, 666, 667, 668, 669, 670, 671, 1146, 1147, 1148, 1149, 1150, 1151, 1152, 1153, 1154, 1155, 1156, 1157, 1158, 1159, 1160, 1161, 1162, 1163, 1164, 1165, 1166, 1167, 1168, 1169, 1170, 1171, 1172, 1173, 1174] rfl (by decide +kernel)
set_option maxRecDepth 100000 in
theorem gL_law_X11_order : GoodIn wsL_law (wsV RL 72 RX11 yX11_order wsX11_order) := goodIn_app (goodIn_of _ (by decide +kernel)) ggL_law_X11_order
set_option maxRecDepth 100000 in
theorem ggL_law_X10_need : GoodIn wsL_law wsX10_need := goodIn_r _ [888, 889, 35, 242, 243, 2, 244, 848, 849, 850, 851, 890, 891, 892, 34, 893, 80, 81, 94, 894, 196, 193, 197, 166, 150, 151, 152, 777, 778, 779, 93, 780, 160, 157, 159, 161, 781, 782, 783, 784, 785, 786, 787, 788, 789, 158, 790, 791, 792, 793, 794, 258, 259, 14, 260, 795, 262, 263, 264, 265, 17, 266, 267, 268, 269, 270, 271, 26, 272, 273, 274, 275, 276, 23, 277, 278, 279, 20, 280, 281, 192, 194, 282, 895, 896, 897, 898, 79, 86, 899, 900, 901, 902, 859, 860, 1140, 1141, 1142, 1143, 1144, 1145, 1176, 1177, 1178, 1179, 1180, 1181, 1182, 1183, 1184, 1185, 1186, 1187, 1188, 1199, 1200, 1201, 1202, 1203, 1193, 1194, 1195, 1196, 1197, 1198] rfl (by decide +kernel)
set_option maxRecDepth 100000 in
theorem gL_law_X10_need : GoodIn wsL_law (wsV RL 73 RX10 yX10_need wsX10_need) := goodIn_app (goodIn_of _ (by decide +kernel)) ggL_law_X10_need
set_option maxRecDepth 100000 in
theorem ggL_law_X11_need : GoodIn wsL_law wsX11_need := goodIn_r _ [906, 800, 907, 402, 403, 5, 404, 869, 870, 871, 872, 562, 908, 909, 910, 911, 292, 563, 805, 806, 807, 812, 813, 814, 815, 293, 661, 662, 663, 664, 289, 665, 666, 667, 668, 669, 670, 671, 912, 913, 914, 915, 290, 1146, 1147, 1148, 1149, 1150, 1151, 1152, 1153, 1154, 1155, 1156, 1157, 1158, 1159, 1160, 1161, 1162, 1163, 1164, 1165, 1166, 1167, 1168, 1169, 1170, 1171, 1172, 1173, 1174] rfl (by decide +kernel)
set_option maxRecDepth 100000 in
theorem gL_law_X11_need : GoodIn wsL_law (wsV RL 76 RX11 yX11_need wsX11_need) := goodIn_app (goodIn_of _ (by decide +kernel)) ggL_law_X11_need
set_option maxRecDepth 100000 in
theorem ggL_law_X10_left : GoodIn wsL_law wsX10_left := goodIn_r _ [919, 35, 848, 849, 850, 2, 851, 772, 773, 774, 34, 775, 759, 776, 90, 94, 86, 79, 166, 150, 151, 152, 777, 778, 779, 93, 780, 160, 157, 159, 161, 781, 782, 783, 784, 785, 786, 787, 788, 789, 158, 790, 791, 792, 793, 794, 258, 259, 14, 260, 795, 262, 263, 264, 265, 17, 266, 267, 268, 193, 269, 270, 271, 26, 272, 273, 274, 275, 276, 23, 277, 278, 279, 20, 280, 281, 192, 194, 282, 1140, 1141, 1142, 1143, 1144, 1145, 1176, 1177, 1178, 1179, 1180, 1181, 1182, 1183, 1184, 1185, 1186, 1187, 1188, 1193, 1194, 1195, 1196, 1197, 1198, 1199, 1200, 1201, 1202, 1203] rfl (by decide +kernel)
set_option maxRecDepth 100000 in
theorem gL_law_X10_left : GoodIn wsL_law (wsV RL 77 RX10 yX10_left wsX10_left) := goodIn_app (goodIn_of _ (by decide +kernel)) ggL_law_X10_left
set_option maxRecDepth 100000 in
theorem ggL_law_X11_left : GoodIn wsL_law wsX11_left := goodIn_r _ [923, 869, 870, 871, 5, 872, 562, 801, 802, 803, 804, 805, 806, 807, 808, 809, 810, 811, 563, 291, 292, 812, 813, 814, 815, 293, 661, 662, 663, 664, 289, 665, 666, 667, 668, 669, 670, 671, 1146, 1147, 1148, 1149, 1150, 1151, 1152, 1153, 1154, 1155, 1156, 1157, 1158, 1159, 1160, 1161, 1162, 1163, 1164, 1165, 1166, 1167, 1168, 1169, 1170, 1171, 1172, 1173, 1174] rfl (by decide +kernel)
set_option maxRecDepth 100000 in
theorem gL_law_X11_left : GoodIn wsL_law (wsV RL 80 RX11 yX11_left wsX11_left) := goodIn_app (goodIn_of _ (by decide +kernel)) ggL_law_X11_left
set_option maxRecDepth 100000 in
theorem ggL_law_X10_fits : GoodIn wsL_law wsX10_fits := goodIn_r _ [927, 35, 848, 849, 850, 2, 851, 928, 929, 930, 34, 931, 94, 86, 932, 773, 774, 775, 759, 776, 90, 79, 166, 150, 151, 152, 777, 778, 779, 93, 780, 160, 157, 159, 161, 781, 782, 783, 784, 785, 786, 787, 788, 789, 158, 790, 791, 792, 793, 794, 258, 259, 14, 260, 795, 262, 263, 264, 265, 17, 266, 267, 268, 193, 269, 270, 271, 26, 272, 273, 274, 275, 276, 23, 277, 278, 279, 20, 280, 281, 192, 194, 282, 899, 900, 901, 902, 859, 860, 1140, 1141, 1142, 1143, 1144, 1145, 1176, 1177, 1178, 1179, 1180, 1181, 1182, 1183, 1184, 1185, 1186, 1187, 1188, 1193, 1194, 1195, 1196, 1197, 1198, 1199, 1200, 1201, 1202, 1203] rfl (by decide +kernel)
set_option maxRecDepth 100000 in
theorem gL_law_X10_fits : GoodIn wsL_law (wsV RL 81 RX10 yX10_fits wsX10_fits) := goodIn_app (goodIn_of _ (by decide +kernel)) ggL_law_X10_fits
set_option maxRecDepth 100000 in
theorem ggL_law_X11_fits : GoodIn wsL_law wsX11_fits := goodIn_r _ [936, 869, 870, 871, 5, 872, 562, 937, 938, 939, 940, 805, 806, 807, 808, 809, 810, 811, 563, 291, 292, 812, 813, 814, 815, 293, 661, 662, 663, 664, 289, 665, 666, 667, 668, 669, 670, 671, 1146, 1147, 1148, 1149, 1150, 1151, 1152, 1153, 1154, 1155, 1156, 1157, 1158, 1159, 1160, 1161, 1162, 1163, 1164, 1165, 1166, 1167, 1168, 1169, 1170, 1171, 1172, 1173, 1174] rfl (by decide +kernel)
set_option maxRecDepth 100000 in
theorem gL_law_X11_fits : GoodIn wsL_law (wsV RL 84 RX11 yX11_fits wsX11_fits) := goodIn_app (goodIn_of _ (by decide +kernel)) ggL_law_X11_fits
set_option maxRecDepth 100000 in
theorem ggL_law_X10_look : GoodIn wsL_law wsX10_look := goodIn_r _ [944, 945, 35, 848, 849, 850, 2, 851, 946, 947, 948, 34, 949, 80, 86, 932, 773, 774, 775, 759, 776, 90, 94, 79, 166, 150, 151, 152, 777, 778, 779, 93, 780, 160, 157, 159, 161, 781, 782, 783, 784, 785, 786, 787, 788, 789, 158, 790, 791, 792, 793, 794, 258, 259, 14, 260, 795, 262, 263, 264, 265, 17, 266, 267, 268, 193, 269, 270, 271, 26, 272, 273, 274, 275, 276, 23, 277, 278, 279, 20, 280, 281, 192, 194, 282, 950, 951, 952, 953, 954, 81, 243, 244, 955, 956, 957, 640, 1140, 1141, 1142, 1143, 1144, 1145, 1176, 1177, 1178, 1179, 1180, 1181, 1182, 1183, 1184, 1185, 1186, 1187, 1188, 1193, 1194, 1195, 1196, 1197, 1198, 1199, 1200, 1201, 1202, 1203] rfl (by decide +kernel)
set_option maxRecDepth 100000 in
theorem gL_law_X10_look : GoodIn wsL_law (wsV RL 85 RX10 yX10_look wsX10_look) := goodIn_app (goodIn_of _ (by decide +kernel)) ggL_law_X10_look
set_option maxRecDepth 100000 in
theorem ggL_law_X11_look : GoodIn wsL_law wsX11_look := goodIn_r _ [961, 962, 869, 870, 871, 5, 872, 562, 963, 964, 965, 966, 967, 563, 291, 968, 969, 970, 971, 294, 292, 805, 806, 807, 808, 809, 810, 811, 812, 813, 814, 815, 293, 661, 662, 663, 664, 289, 665, 666, 667, 668, 669, 670, 671, 1146, 1147, 1148, 1149, 1150, 1151, 1152, 1153, 1154, 1155, 1156, 1157, 1158, 1159, 1160, 1161, 1162, 1163, 1164, 1165, 1166, 1167, 1168, 1169, 1170, 1171, 1172, 1173, 1174] rfl (by decide +kernel)
set_option maxRecDepth 100000 in
theorem gL_law_X11_look : GoodIn wsL_law (wsV RL 88 RX11 yX11_look wsX11_look) := goodIn_app (goodIn_of _ (by decide +kernel)) ggL_law_X11_look
set_option maxRecDepth 100000 in
theorem ggL_law_X10_odds : GoodIn wsL_law wsX10_odds := goodIn_r _ [975, 35, 581, 582, 583, 2, 584, 242, 243, 244, 707, 240, 241, 772, 773, 774, 34, 775, 759, 776, 90, 94, 86, 79, 166, 150, 151, 152, 777, 778, 779, 93, 780, 160, 157, 159, 161, 781, 782, 783, 784, 785, 786, 787, 788, 789, 158, 790, 791, 792, 793, 794, 258, 259, 14, 260, 795, 262, 263, 264, 265, 17, 266, 267, 268, 193, 269, 270, 271, 26, 272, 273, 274, 275, 276, 23, 277, 278, 279, 20, 280, 281, 192, 194, 282, 976, 977, 978, 979, 932, 980, 981, 982, 983, 984, 1140, 1141, 1142, 1143, 1144, 1145, 1176, 1177, 1178, 1179, 1180, 1181, 1182, 1183, 1184, 1185, 1186, 1187, 1188, 1193, 1194, 1195, 1196, 1197, 1198, 1199, 1200, 1201, 1202, 1203] rfl (by decide +kernel)
set_option maxRecDepth 100000 in
theorem gL_law_X10_odds : GoodIn wsL_law (wsV RL 89 RX10 yX10_odds wsX10_odds) := goodIn_app (goodIn_of _ (by decide +kernel)) ggL_law_X10_odds
set_option maxRecDepth 100000 in
theorem ggL_law_X11_odds : GoodIn wsL_law wsX11_odds := goodIn_r _ [988, 714, 735, 736, 737, 5, 738, 562, 402, 403, 404, 989, 990, 991, 992, 292, 805, 806, 807, 808, 809, 810, 811, 563, 291, 812, 813, 814, 815, 293, 661, 662, 663, 664, 289, 665, 666, 667, 668, 669, 670, 671, 1146, 1147, 1148, 1149, 1150, 1151, 1152, 1153, 1154, 1155, 1156, 1157, 1158, 1159, 1160, 1161, 1162, 1163, 1164, 1165, 1166, 1167, 1168, 1169, 1170, 1171, 1172, 1173, 1174] rfl (by decide +kernel)
set_option maxRecDepth 100000 in
theorem gL_law_X11_odds : GoodIn wsL_law (wsV RL 92 RX11 yX11_odds wsX11_odds) := goodIn_app (goodIn_of _ (by decide +kernel)) ggL_law_X11_odds
set_option maxRecDepth 100000 in
theorem ggL_law_X10_see : GoodIn wsL_law wsX10_see := goodIn_r _ [996, 35, 997, 998, 619, 703, 704, 705, 2, 706, 242, 243, 244, 707, 240, 241, 999, 1000, 1001, 1002, 10, 11, 621, 626, 627, 628, 1003, 1004, 1005, 85, 1006, 1007, 148, 1140, 1141, 1142, 1143, 1144, 1145, 1176, 1177, 1178, 1179, 1180, 1181, 1182, 1183, 1184, 1185, 1186, 1187, 1188, 1193, 1194, 1195, 1196, 1197, 1198, 1208, 1209, 1210, 1211] rfl (by decide +kernel)
set_option maxRecDepth 100000 in
theorem gL_law_X10_see : GoodIn wsL_law (wsV RL 93 RX10 yX10_see wsX10_see) := goodIn_app (goodIn_of _ (by decide +kernel)) ggL_law_X10_see
set_option maxRecDepth 100000 in
theorem ggL_law_X11_see : GoodIn wsL_law wsX11_see := goodIn_r _ [1011, 714, 1012, 565, 295, 715, 716, 717, 5, 718, 562, 563, 402, 403, 404, 1146, 1147, 1148, 1149, 1150, 1151, 1152, 1153, 1154, 1155, 1156, 1157, 1158, 1159, 1160, 1161, 1162, 1163, 1164, 1165, 1166, 1167, 1168, 1169, 1170, 1171, 1172, 1173, 1174] rfl (by decide +kernel)
set_option maxRecDepth 100000 in
theorem gL_law_X11_see : GoodIn wsL_law (wsV RL 97 RX11 yX11_see wsX11_see) := goodIn_app (goodIn_of _ (by decide +kernel)) ggL_law_X11_see
