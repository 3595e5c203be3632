set_option maxRecDepth 100000 in
theorem ggL_law_X10_order : GoodIn wsL_law wsX10_order := goodIn_r _ [845, 35, 156, 157, 2, 158, 846, 847, 848, 849, 850, 851, 852, 34, 853, 854, 855, 856, 79, 89, 86, 638, 201, 202, 203, 546, 547, 548, 549, 80, 82, 78, 550, 551, 552, 14, 553, 554, 555, 556, 557, 558, 17, 559, 560, 561, 562, 563, 564, 26, 565, 566, 567, 568, 569, 23, 570, 571, 572, 20, 573, 574, 575, 830, 831, 832, 833, 857, 858, 859, 860, 861, 862, 1143, 1144, 1145, 1146, 1147, 1148, 1179, 1180, 1181, 1182, 1183, 1184, 1185, 1186, 1187, 1188, 1189, 1190, 1191, 1192, 1193, 1198, 1199, 1200, 1201, 1202, 1203] rfl (by decide +kernel)
set_option maxRecDepth 100000 in
theorem gL_law_X10_order : GoodIn wsL_law (wsV RL 69 RX10 yX10_order wsX10_order) := goodIn_app (goodIn_of _ (by decide +kernel)) ggL_law_X10_order
set_option maxRecDepth 100000 in
theorem ggL_law_X11_order : GoodIn wsL_law wsX11_order := goodIn_r _ [866, 283, 284, 5, 285, 867, 868, 869, 870, 580, 871, 872, 873, 874, 141, 143, 581, 875, 876, 877, 878, 803, 804, 805, 879, 880, 881, 882, 810, 811, 812, 813, 144, 659, 660, 661, 662, 140, 663, 664, 665, 666, 667, 668, 669, 1149, 1150, 1151, 1152, 1153, 1154, 1155, 1156, 1157, 1158, 1159, 1160, 1161, 1162, 1163, 1164, 1165, 1166, 1167, 1168, 1169, 1170, 1171, 1172, 1173, 1174, 1175, 1176, 1177] rfl (by decide +kernel)
set_option maxRecDepth 100000 in
theorem gL_law_X11_order : GoodIn wsL_law (wsV RL 72 RX11 yX11_order wsX11_order) := goodIn_app (goodIn_of _ (by decide +kernel)) ggL_law_X11_order
set_option maxRecDepth 100000 in
theorem ggL_law_X10_need : GoodIn wsL_law wsX10_need := goodIn_r _ [886, 887, 35, 156, 157, 2, 158, 846, 847, 848, 849, 888, 889, 890, 34, 891, 80, 99, 94, 892, 218, 202, 219, 775, 776, 777, 93, 778, 121, 117, 120, 122, 779, 780, 781, 782, 783, 784, 785, 786, 787, 118, 119, 788, 789, 790, 791, 792, 551, 552, 14, 553, 793, 555, 556, 557, 558, 17, 559, 560, 561, 562, 563, 564, 26, 565, 566, 567, 568, 569, 23, 570, 571, 572, 20, 573, 574, 201, 203, 575, 893, 894, 895, 896, 79, 86, 897, 898, 899, 900, 857, 858, 1143, 1144, 1145, 1146, 1147, 1148, 1179, 1180, 1181, 1182, 1183, 1184, 1185, 1186, 1187, 1188, 1189, 1190, 1191, 1192, 1193, 1204, 1205, 1206, 1207, 1208, 1209, 1198, 1199, 1200, 1201, 1202, 1203] rfl (by decide +kernel)
set_option maxRecDepth 100000 in
theorem gL_law_X10_need : GoodIn wsL_law (wsV RL 73 RX10 yX10_need wsX10_need) := goodIn_app (goodIn_of _ (by decide +kernel)) ggL_law_X10_need
set_option maxRecDepth 100000 in
theorem ggL_law_X11_need : GoodIn wsL_law wsX11_need := goodIn_r _ [904, 798, 905, 283, 284, 5, 285, 867, 868, 869, 870, 580, 906, 907, 908, 909, 143, 581, 803, 804, 805, 810, 811, 812, 813, 144, 659, 660, 661, 662, 140, 663, 664, 665, 666, 667, 668, 669, 910, 911, 912, 913, 141, 1149, 1150, 1151, 1152, 1153, 1154, 1155, 1156, 1157, 1158, 1159, 1160, 1161, 1162, 1163, 1164, 1165, 1166, 1167, 1168, 1169, 1170, 1171, 1172, 1173, 1174, 1175, 1176, 1177] rfl (by decide +kernel)
set_option maxRecDepth 100000 in
theorem gL_law_X11_need : GoodIn wsL_law (wsV RL 76 RX11 yX11_need wsX11_need) := goodIn_app (goodIn_of _ (by decide +kernel)) ggL_law_X11_need
set_option maxRecDepth 100000 in
theorem ggL_law_X10_left : GoodIn wsL_law wsX10_left := goodIn_r _ [917, 35, 846, 847, 848, 2, 849, 770, 771, 772, 34, 773, 757, 774, 90, 94, 86, 79, 129, 110, 111, 112, 775, 776, 777, 93, 778, 121, 117, 120, 122, 779, 780, 781, 782, 783, 784, 785, 786, 787, 118, 119, 788, 789, 790, 791, 792, 551, 552, 14, 553, 793, 555, 556, 557, 558, 17, 559, 560, 561, 202, 562, 563, 564, 26, 565, 566, 567, 568, 569, 23, 570, 571, 572, 20, 573, 574, 201, 203, 575, 1143, 1144, 1145, 1146, 1147, 1148, 1179, 1180, 1181, 1182, 1183, 1184, 1185, 1186, 1187, 1188, 1189, 1190, 1191, 1192, 1193, 1198, 1199, 1200, 1201, 1202, 1203, 1204, 1205, 1206, 1207, 1208, 1209] rfl (by decide +kernel)
set_option maxRecDepth 100000 in
theorem gL_law_X10_left : GoodIn wsL_law (wsV RL 77 RX10 yX10_left wsX10_left) := goodIn_app (goodIn_of _ (by decide +kernel)) ggL_law_X10_left
set_option maxRecDepth 100000 in
theorem ggL_law_X11_left : GoodIn wsL_law wsX11_left := goodIn_r _ [921, 867, 868, 869, 5, 870, 580, 799, 800, 801, 802, 803, 804, 805, 806, 807, 808, 809, 581, 142, 143, 810, 811, 812, 813, 144, 659, 660, 661, 662, 140, 663, 664, 665, 666, 667, 668, 669, 1149, 1150, 1151, 1152, 1153, 1154, 1155, 1156, 1157, 1158, 1159, 1160, 1161, 1162, 1163, 1164, 1165, 1166, 1167, 1168, 1169, 1170, 1171, 1172, 1173, 1174, 1175, 1176, 1177] rfl (by decide +kernel)
set_option maxRecDepth 100000 in
theorem gL_law_X11_left : GoodIn wsL_law (wsV RL 80 RX11 yX11_left wsX11_left) := goodIn_app (goodIn_of _ (by decide +kernel)) ggL_law_X11_left
set_option maxRecDepth 100000 in
theorem ggL_law_X10_fits : GoodIn wsL_law wsX10_fits := goodIn_r _ [925, 35, 846, 847, 848, 2, 849, 770, 771, 772, 34, 773, 757, 774, 90, 94, 86, 79, 129, 110, 111, 112, 775, 776, 777, 93, 778, 121, 117, 120, 122, 779, 780, 781, 782, 783, 784, 785, 786, 787, 118, 119, 788, 789, 790, 791, 792, 551, 552, 14, 553, 793, 555, 556, 557, 558, 17, 559, 560, 561, 202, 562, 563, 564, 26, 565, 566, 567, 568, 569, 23, 570, 571, 572, 20, 573, 574, 201, 203, 575, 926, 927, 928, 929, 897, 898, 899, 900, 857, 858, 1143, 1144, 1145, 1146, 1147, 1148, 1179, 1180, 1181, 1182, 1183, 1184, 1185, 1186, 1187, 1188, 1189, 1190, 1191, 1192, 1193, 1198, 1199, 1200, 1201, 1202, 1203, 1204, 1205, 1206, 1207, 1208, 1209] rfl (by decide +kernel)
set_option maxRecDepth 100000 in
theorem gL_law_X10_fits : GoodIn wsL_law (wsV RL 81 RX10 yX10_fits wsX10_fits) := goodIn_app (goodIn_of _ (by decide +kernel)) ggL_law_X10_fits
set_option maxRecDepth 100000 in
theorem ggL_law_X11_fits : GoodIn wsL_law wsX11_fits := goodIn_r _ [933, 867, 868, 869, 5, 870, 580, 934, 935, 936, 937, 803, 804, 805, 806, 807, 808, 809, 581, 142, 143, 810, 811, 812, 813, 144, 659, 660, 661, 662, 140, 663, 664, 665, 666, 667, 668, 669, 1149, 1150, 1151, 1152, 1153, 1154, 1155, 1156, 1157, 1158, 1159, 1160, 1161, 1162, 1163, 1164, 1165, 1166, 1167, 1168, 1169, 1170, 1171, 1172, 1173, 1174, 1175, 1176, 1177] rfl (by decide +kernel)
set_option maxRecDepth 100000 in
theorem gL_law_X11_fits : GoodIn wsL_law (wsV RL 84 RX11 yX11_fits wsX11_fits) := goodIn_app (goodIn_of _ (by decide +kernel)) ggL_law_X11_fits
set_option maxRecDepth 100000 in
theorem ggL_law_X10_look : GoodIn wsL_law wsX10_look := goodIn_r _ [941, 942, 35, 846, 847, 848, 2, 849, 943, 944, 945, 34, 946, 80, 98, 86, 947, 771, 772, 773, 757, 774, 90, 94, 79, 129, 110, 111, 112, 775, 776, 777, 93, 778, 121, 117, 120, 122, 779, 780, 781, 782, 783, 784, 785, 786, 787, 118, 119, 788, 789, 790, 791, 792, 551, 552, 14, 553, 793, 555, 556, 557, 558, 17, 559, 560, 561, 202, 562, 563, 564, 26, 565, 566, 567, 568, 569, 23, 570, 571, 572, 20, 573, 574, 201, 203, 575, 948, 949, 950, 951, 952, 953, 954, 97, 955, 128, 956, 957, 958, 959, 960, 127, 157, 158, 961, 962, 963, 964, 965, 1143, 1144, 1145, 1146, 1147, 1148, 1179, 1180, 1181, 1182, 1183, 1184, 1185, 1186, 1187, 1188, 1189, 1190, 1191, 1192, 1193, 1198, 1199, 1200, 1201, 1202, 1203, 1204, 1205, 1206, 1207, 1208, 1209, 1210, 1211] rfl (by decide +kernel)
set_option maxRecDepth 100000 in
theorem gL_law_X10_look : GoodIn wsL_law (wsV RL 85 RX10 yX10_look wsX10_look) := goodIn_app (goodIn_of _ (by decide +kernel)) ggL_law_X10_look
set_option maxRecDepth 100000 in
theorem ggL_law_X11_look : GoodIn wsL_law wsX11_look := goodIn_r _ [969, 970, 867, 868, 869, 5, 870, 580, 971, 972, 973, 974, 975, 581, 142, 976, 977, 978, 979, 145, 143, 803, 804, 805, 806, 807, 808, 809, 810, 811, 812, 813, 144, 659, 660, 661, 662, 140, 663, 664, 665, 666, 667, 668, 669, 1149, 1150, 1151, 1152, 1153, 1154, 1155, 1156, 1157, 1158, 1159, 1160, 1161, 1162, 1163, 1164, 1165, 1166, 1167, 1168, 1169, 1170, 1171, 1172, 1173, 1174, 1175, 1176, 1177] rfl (by decide +kernel)
set_option maxRecDepth 100000 in
theorem gL_law_X11_look : GoodIn wsL_law (wsV RL 88 RX11 yX11_look wsX11_look) := goodIn_app (goodIn_of _ (by decide +kernel)) ggL_law_X11_look
set_option maxRecDepth 100000 in
theorem ggL_law_X10_odds : GoodIn wsL_law wsX10_odds := goodIn_r _ [983, 35, 599, 600, 601, 2, 602, 156, 157, 158, 705, 435, 436, 770, 771, 772, 34, 773, 757, 774, 90, 94, 86, 79, 129, 110, 111, 112, 775, 776, 777, 93, 778, 121, 117, 120, 122, 779, 780, 781, 782, 783, 784, 785, 786, 787, 118, 119, 788, 789, 790, 791, 792, 551, 552, 14, 553, 793, 555, 556, 557, 558, 17, 559, 560, 561, 202, 562, 563, 564, 26, 565, 566, 567, 568, 569, 23, 570, 571, 572, 20, 573, 574, 201, 203, 575, 984, 985, 986, 987, 988, 1143, 1144, 1145, 1146, 1147, 1148, 1179, 1180, 1181, 1182, 1183, 1184, 1185, 1186, 1187, 1188, 1189, 1190, 1191, 1192, 1193, 1198, 1199, 1200, 1201, 1202, 1203, 1204, 1205, 1206, 1207, 1208, 1209] rfl (by decide +kernel)
set_option maxRecDepth 100000 in
theorem gL_law_X10_odds : GoodIn wsL_law (wsV RL 89 RX10 yX10_odds wsX10_odds) := goodIn_app (goodIn_of _ (by decide +kernel)) ggL_law_X10_odds
set_option maxRecDepth 100000 in
theorem ggL_law_X11_odds : GoodIn wsL_law wsX11_odds := goodIn_r _ [992, 712, 733, 734, 735, 5, 736, 580, 283, 284, 285, 993, 994, 995, 996, 143, 803, 804, 805, 806, 807, 808, 809, 581, 142, 810, 811, 812, 813, 144, 659, 660, 661, 662, 140, 663, 664, 665, 666, 667, 668, 669, 1149, 1150, 1151, 1152, 1153, 1154, 1155, 1156, 1157, 1158, 1159, 1160, 1161, 1162, 1163, 1164, 1165, 1166, 1167, 1168, 1169, 1170, 1171, 1172, 1173, 1174, 1175, 1176, 1177] rfl (by decide +kernel)
set_option maxRecDepth 100000 in
theorem gL_law_X11_odds : GoodIn wsL_law (wsV RL 92 RX11 yX11_odds wsX11_odds) := goodIn_app (goodIn_of _ (by decide +kernel)) ggL_law_X11_odds
set_option maxRecDepth 100000 in
theorem ggL_law_X10_see : GoodIn wsL_law wsX10_see := goodIn_r _ [1000, 35, 1001, 1002, 618, 701, 702, 703, 2, 704, 156, 157, 158, 705, 435, 436, 1003, 1004, 1005, 1006, 10, 11, 620, 625, 626, 627, 1007, 1008, 1009, 85, 1010, 1011, 108, 1143, 1144, 1145, 1146, 1147, 1148, 1179, 1180, 1181, 1182, 1183, 1184, 1185, 1186, 1187, 1188, 1189, 1190, 1191, 1192, 1193, 1198, 1199, 1200, 1201, 1202, 1203, 1216, 1217, 1218, 1219] rfl (by decide +kernel)
set_option maxRecDepth 100000 in
theorem gL_law_X10_see : GoodIn wsL_law (wsV RL 93 RX10 yX10_see wsX10_see) := goodIn_app (goodIn_of _ (by decide +kernel)) ggL_law_X10_see
set_option maxRecDepth 100000 in
theorem ggL_law_X11_see : GoodIn wsL_law wsX11_see := goodIn_r _ [1015, 712, 1016, 583, 146, 713, 714, 715, 5, 716, 580, 581, 283, 284, 285, 1149, 1150, 1151, 1152, 1153, 1154, 1155, 1156, 1157, 1158, 1159, 1160, 1161, 1162, 1163, 1164, 1165, 1166, 1167, 1168, 1169, 1170, 1171, 1172, 1173, 1174, 1175, 1176, 1177] rfl (by decide +kernel)
set_option maxRecDepth 100000 in
theorem gL_law_X11_see : GoodIn wsL_law (wsV RL 97 RX11 yX11_see wsX11_see) := goodIn_app (goodIn_of _ (by decide +kernel)) ggL_law_X11_see
