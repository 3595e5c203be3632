set_option maxRecDepth 100000 in
theorem ggL_law_X10_order : GoodIn wsL_law wsX10_order := goodIn_r _ [851, 35, 145, 146, 2, 147, 852, 853, 854, 855, 856, 857, 858, 34, 859, 860, 861, 862, 79, 89, 86, 644, 190, 191, 192, 532, 533, 534, 535, 80, 82, 536, 537, 538, 14, 539, 540, 541, 542, 543, 544, 17, 545, 546, 547, 548, 549, 550, 26, 551, 552, 553, 554, 555, 23, 556, 557, 558, 20, 559, 560, 561, 836, 837, 838, 839, 863, 864, 865, 866, 867, 868, 1144, 1145, 1146, 1147, 1148, 1149, 1180, 1181, 1182, 1183, 1184, 1185, 1186, 1187, 1188, 1189, 1190, 1191, 1192, 1197, 1198, 1199, 1200, 1201, 1202] rfl (by decide +kernel)
set_option maxRecDepth 100000 in
theorem gL_law_X10_order : GoodIn wsL_law (wsV RL 69 RX10 yX10_order wsX10_order) := goodIn_app (goodIn_of _ (by decide +kernel)) ggL_law_X10_order
set_option maxRecDepth 100000 in
theorem ggL_law_X11_order : GoodIn wsL_law wsX11_order := goodIn_r _ [872, 272, 273, 5, 274, 873, 874, 875, 876, 566, 877, 878, 879, 880, 130, 132, 567, 881, 882, 883, 884, 809, 810, 811, 885, 886, 887, 888, 816, 817, 818, 819, 133, 665, 666, 667, 668, 129, 669, 670, 671, 672, 673, 674, 675, 1150, 1151, 1152, 1153, 1154, 1155, 1156, 1157, 1158, 1159, 1160, 1161, 1162, 1163, 1164, 1165, 1166, 1167, 1168, 1169, 1170, 1171, 1172, 1173, 1174, 1175, 1176, 1177, 1178] rfl (by decide +kernel)
set_option maxRecDepth 100000 in
theorem gL_law_X11_order : GoodIn wsL_law (wsV RL 72 RX11 yX11_order wsX11_order) := goodIn_app (goodIn_of _ (by decide +kernel)) ggL_law_X11_order
set_option maxRecDepth 100000 in
theorem ggL_law_X10_need : GoodIn wsL_law wsX10_need := goodIn_r _ [892, 893, 35, 145, 146, 2, 147, 852, 853, 854, 855, 894, 895, 896, 34, 897, 80, 81, 94, 898, 207, 191, 208, 122, 106, 107, 108, 781, 782, 783, 93, 784, 116, 113, 115, 117, 785, 786, 787, 788, 789, 790, 791, 792, 793, 114, 794, 795, 796, 797, 798, 537, 538, 14, 539, 799, 541, 542, 543, 544, 17, 545, 546, 547, 548, 549, 550, 26, 551, 552, 553, 554, 555, 23, 556, 557, 558, 20, 559, 560, 190, 192, 561, 899, 900, 901, 902, 79, 86, 903, 904, 905, 906, 863, 864, 1144, 1145, 1146, 1147, 1148, 1149, 1180, 1181, 1182, 1183, 1184, 1185, 1186, 1187, 1188, 1189, 1190, 1191, 1192, 1203, 1204, 1205, 1206, 1207, 1197, 1198, 1199, 1200, 1201, 1202] rfl (by decide +kernel)
set_option maxRecDepth 100000 in
theorem gL_law_X10_need : GoodIn wsL_law (wsV RL 73 RX10 yX10_need wsX10_need) := goodIn_app (goodIn_of _ (by decide +kernel)) ggL_law_X10_need
set_option maxRecDepth 100000 in
theorem ggL_law_X11_need : GoodIn wsL_law wsX11_need := goodIn_r _ [910, 804, 911, 272, 273, 5, 274, 873, 874, 875, 876, 566, 912, 913, 914, 915, 132, 567, 809, 810, 811, 816, 817, 818, 819, 133, 665, 666, 667, 668, 129, 669, 670, 671, 672, 673, 674, 675, 916, 917, 918, 919, 130, 1150, 1151, 1152, 1153, 1154, 1155, 1156, 1157, 1158, 1159, 1160, 1161, 1162, 1163, 1164, 1165, 1166, 1167, 1168, 1169, 1170, 1171, 1172, 1173, 1174, 1175, 1176, 1177, 1178] rfl (by decide +kernel)
set_option maxRecDepth 100000 in
theorem gL_law_X11_need : GoodIn wsL_law (wsV RL 76 RX11 yX11_need wsX11_need) := goodIn_app (goodIn_of _ (by decide +kernel)) ggL_law_X11_need
set_option maxRecDepth 100000 in
theorem ggL_law_X10_left : GoodIn wsL_law wsX10_left := goodIn_r _ [923, 35, 852, 853, 854, 2, 855, 776, 777, 778, 34, 779, 763, 780, 90, 94, 86, 79, 122, 106, 107, 108, 781, 782, 783, 93, 784, 116, 113, 115, 117, 785, 786, 787, 788, 789, 790, 791, 792, 793, 114, 794, 795, 796, 797, 798, 537, 538, 14, 539, 799, 541, 542, 543, 544, 17, 545, 546, 547, 191, 548, 549, 550, 26, 551, 552, 553, 554, 555, 23, 556, 557, 558, 20, 559, 560, 190, 192, 561, 1144, 1145, 1146, 1147, 1148, 1149, 1180, 1181, 1182, 1183, 1184, 1185, 1186, 1187, 1188, 1189, 1190, 1191, 1192, 1197, 1198, 1199, 1200, 1201, 1202, 1203, 1204, 1205, 1206, 1207] rfl (by decide +kernel)
set_option maxRecDepth 100000 in
theorem gL_law_X10_left : GoodIn wsL_law (wsV RL 77 RX10 yX10_left wsX10_left) := goodIn_app (goodIn_of _ (by decide +kernel)) ggL_law_X10_left
set_option maxRecDepth 100000 in
theorem ggL_law_X11_left : GoodIn wsL_law wsX11_left := goodIn_r _ [927, 873, 874, 875, 5, 876, 566, 805, 806, 807, 808, 809, 810, 811, 812, 813, 814, 815, 567, 131, 132, 816, 817, 818, 819, 133, 665, 666, 667, 668, 129, 669, 670, 671, 672, 673, 674, 675, 1150, 1151, 1152, 1153, 1154, 1155, 1156, 1157, 1158, 1159, 1160, 1161, 1162, 1163, 1164, 1165, 1166, 1167, 1168, 1169, 1170, 1171, 1172, 1173, 1174, 1175, 1176, 1177, 1178] rfl (by decide +kernel)
set_option maxRecDepth 100000 in
theorem gL_law_X11_left : GoodIn wsL_law (wsV RL 80 RX11 yX11_left wsX11_left) := goodIn_app (goodIn_of _ (by decide +kernel)) ggL_law_X11_left
set_option maxRecDepth 100000 in
theorem ggL_law_X10_fits : GoodIn wsL_law wsX10_fits := goodIn_r _ [931, 35, 852, 853, 854, 2, 855, 932, 933, 934, 34, 935, 94, 86, 936, 777, 778, 779, 763, 780, 90, 79, 122, 106, 107, 108, 781, 782, 783, 93, 784, 116, 113, 115, 117, 785, 786, 787, 788, 789, 790, 791, 792, 793, 114, 794, 795, 796, 797, 798, 537, 538, 14, 539, 799, 541, 542, 543, 544, 17, 545, 546, 547, 191, 548, 549, 550, 26, 551, 552, 553, 554, 555, 23, 556, 557, 558, 20, 559, 560, 190, 192, 561, 903, 904, 905, 906, 863, 864, 1144, 1145, 1146, 1147, 1148, 1149, 1180, 1181, 1182, 1183, 1184, 1185, 1186, 1187, 1188, 1189, 1190, 1191, 1192, 1197, 1198, 1199, 1200, 1201, 1202, 1203, 1204, 1205, 1206, 1207] rfl (by decide +kernel)
set_option maxRecDepth 100000 in
theorem gL_law_X10_fits : GoodIn wsL_law (wsV RL 81 RX10 yX10_fits wsX10_fits) := goodIn_app (goodIn_of _ (by decide +kernel)) ggL_law_X10_fits
set_option maxRecDepth 100000 in
theorem ggL_law_X11_fits : GoodIn wsL_law wsX11_fits := goodIn_r _ [940, 873, 874, 875, 5, 876, 566, 941, 942, 943, 944, 809, 810, 811, 812, 813, 814, 815, 567, 131, 132, 816, 817, 818, 819, 133, 665, 666, 667, 668, 129, 669, 670, 671, 672, 673, 674, 675, 1150, 1151, 1152, 1153, 1154, 1155, 1156, 1157, 1158, 1159, 1160, 1161, 1162, 1163, 1164, 1165, 1166, 1167, 1168, 1169, 1170, 1171, 1172, 1173, 1174, 1175, 1176, 1177, 1178] rfl (by decide +kernel)
set_option maxRecDepth 100000 in
theorem gL_law_X11_fits : GoodIn wsL_law (wsV RL 84 RX11 yX11_fits wsX11_fits) := goodIn_app (goodIn_of _ (by decide +kernel)) ggL_law_X11_fits
set_option maxRecDepth 100000 in
theorem ggL_law_X10_look : GoodIn wsL_law wsX10_look := goodIn_r _ [948, 949, 35, 852, 853, 854, 2, 855, 950, 951, 952, 34, 953, 80, 86, 936, 777, 778, 779, 763, 780, 90, 94, 79, 122, 106, 107, 108, 781, 782, 783, 93, 784, 116, 113, 115, 117, 785, 786, 787, 788, 789, 790, 791, 792, 793, 114, 794, 795, 796, 797, 798, 537, 538, 14, 539, 799, 541, 542, 543, 544, 17, 545, 546, 547, 191, 548, 549, 550, 26, 551, 552, 553, 554, 555, 23, 556, 557, 558, 20, 559, 560, 190, 192, 561, 954, 955, 956, 957, 958, 81, 146, 147, 959, 960, 961, 644, 1144, 1145, 1146, 1147, 1148, 1149, 1180, 1181, 1182, 1183, 1184, 1185, 1186, 1187, 1188, 1189, 1190, 1191, 1192, 1197, 1198, 1199, 1200, 1201, 1202, 1203, 1204, 1205, 1206, 1207] rfl (by decide +kernel)
set_option maxRecDepth 100000 in
theorem gL_law_X10_look : GoodIn wsL_law (wsV RL 85 RX10 yX10_look wsX10_look) := goodIn_app (goodIn_of _ (by decide +kernel)) ggL_law_X10_look
set_option maxRecDepth 100000 in
theorem ggL_law_X11_look : GoodIn wsL_law wsX11_look := goodIn_r _ [965, 966, 873, 874, 875, 5, 876, 566, 967, 968, 969, 970, 971, 567, 131, 972, 973, 974, 975, 134, 132, 809, 810, 811, 812, 813, 814, 815, 816, 817, 818, 819, 133, 665, 666, 667, 668, 129, 669, 670, 671, 672, 673, 674, 675, 1150, 1151, 1152, 1153, 1154, 1155, 1156, 1157, 1158, 1159, 1160, 1161, 1162, 1163, 1164, 1165, 1166, 1167, 1168, 1169, 1170, 1171, 1172, 1173, 1174, 1175, 1176, 1177, 1178] rfl (by decide +kernel)
set_option maxRecDepth 100000 in
theorem gL_law_X11_look : GoodIn wsL_law (wsV RL 88 RX11 yX11_look wsX11_look) := goodIn_app (goodIn_of _ (by decide +kernel)) ggL_law_X11_look
set_option maxRecDepth 100000 in
theorem ggL_law_X10_odds : GoodIn wsL_law wsX10_odds := goodIn_r _ [979, 35, 585, 586, 587, 2, 588, 145, 146, 147, 711, 424, 425, 776, 777, 778, 34, 779, 763, 780, 90, 94, 86, 79, 122, 106, 107, 108, 781, 782, 783, 93, 784, 116, 113, 115, 117, 785, 786, 787, 788, 789, 790, 791, 792, 793, 114, 794, 795, 796, 797, 798, 537, 538, 14, 539, 799, 541, 542, 543, 544, 17, 545, 546, 547, 191, 548, 549, 550, 26, 551, 552, 553, 554, 555, 23, 556, 557, 558, 20, 559, 560, 190, 192, 561, 980, 981, 982, 983, 936, 984, 985, 986, 987, 988, 1144, 1145, 1146, 1147, 1148, 1149, 1180, 1181, 1182, 1183, 1184, 1185, 1186, 1187, 1188, 1189, 1190, 1191, 1192, 1197, 1198, 1199, 1200, 1201, 1202, 1203, 1204, 1205, 1206, 1207] rfl (by decide +kernel)
set_option maxRecDepth 100000 in
theorem gL_law_X10_odds : GoodIn wsL_law (wsV RL 89 RX10 yX10_odds wsX10_odds) := goodIn_app (goodIn_of _ (by decide +kernel)) ggL_law_X10_odds
set_option maxRecDepth 100000 in
theorem ggL_law_X11_odds : GoodIn wsL_law wsX11_odds := goodIn_r _ [992, 718, 739, 740, 741, 5, 742, 566, 272, 273, 274, 993, 994, 995, 996, 132, 809, 810, 811, 812, 813, 814, 815, 567, 131, 816, 817, 818, 819, 133, 665, 666, 667, 668, 129, 669, 670, 671, 672, 673, 674, 675, 1150, 1151, 1152, 1153, 1154, 1155, 1156, 1157, 1158, 1159, 1160, 1161, 1162, 1163, 1164, 1165, 1166, 1167, 1168, 1169, 1170, 1171, 1172, 1173, 1174, 1175, 1176, 1177, 1178] rfl (by decide +kernel)
set_option maxRecDepth 100000 in
theorem gL_law_X11_odds : GoodIn wsL_law (wsV RL 92 RX11 yX11_odds wsX11_odds) := goodIn_app (goodIn_of _ (by decide +kernel)) ggL_law_X11_odds
set_option maxRecDepth 100000 in
theorem ggL_law_X10_see : GoodIn wsL_law wsX10_see := goodIn_r _ [1000, 35, 1001, 1002, 623, 707, 708, 709, 2, 710, 145, 146, 147, 711, 424, 425, 1003, 1004, 1005, 1006, 10, 11, 625, 630, 631, 632, 1007, 1008, 1009, 85, 1010, 1011, 104, 1144, 1145, 1146, 1147, 1148, 1149, 1180, 1181, 1182, 1183, 1184, 1185, 1186, 1187, 1188, 1189, 1190, 1191, 1192, 1197, 1198, 1199, 1200, 1201, 1202, 1212, 1213, 1214, 1215] rfl (by decide +kernel)
set_option maxRecDepth 100000 in
theorem gL_law_X10_see : GoodIn wsL_law (wsV RL 93 RX10 yX10_see wsX10_see) := goodIn_app (goodIn_of _ (by decide +kernel)) ggL_law_X10_see
set_option maxRecDepth 100000 in
theorem ggL_law_X11_see : GoodIn wsL_law wsX11_see := goodIn_r _ [1015, 718, 1016, 569, 135, 719, 720, 721, 5, 722, 566, 567, 272, 273, 274, 1150, 1151, 1152, 1153, 1154, 1155, 1156, 1157, 1158, 1159, 1160, 1161, 1162, 1163, 1164, 1165, 1166, 1167, 1168, 1169, 1170, 1171, 1172, 1173, 1174, 1175, 1176, 1177, 1178] rfl (by decide +kernel)
set_option maxRecDepth 100000 in
theorem gL_law_X11_see : GoodIn wsL_law (wsV RL 97 RX11 yX11_see wsX11_see) := goodIn_app (goodIn_of _ (by decide +kernel)) ggL_law_X11_see
