set_option maxRecDepth 100000 in
theorem ggL_law_X10_forget : GoodIn wsL_law wsX10_forget := goodIn_r _ [1020, 35, 1144, 1145, 1146, 1147, 1148, 1149, 1180, 1181, 1182, 1183, 1184, 1185, 1186, 1187, 1188, 1189, 1190, 1191, 1192, 1197, 1198, 1199, 1200, 1201, 1202] rfl (by decide +kernel)
set_option maxRecDepth 100000 in
theorem gL_law_X10_forget : GoodIn wsL_law (wsV RL 98 RX10 yX10_forget wsX10_forget) := goodIn_app (goodIn_of _ (by decide +kernel)) ggL_law_X10_forget
set_option maxRecDepth 100000 in
theorem ggL_law_X11_forget : GoodIn wsL_law wsX11_forget := goodIn_r _ [1024, 569, 1150, 1151, 1152, 1153, 1154, 1155, 1156, 1157, 1158, 1159, 1160, 1161, 1162, 1163, 1164, 1165, 1166, 1167, 1168, 1169, 1170, 1171, 1172, 1173, 1174, 1175, 1176, 1177, 1178] rfl (by decide +kernel)
set_option maxRecDepth 100000 in
theorem gL_law_X11_forget : GoodIn wsL_law (wsV RL 101 RX11 yX11_forget wsX11_forget) := goodIn_app (goodIn_of _ (by decide +kernel)) ggL_law_X11_forget
set_option maxRecDepth 100000 in
theorem ggL_law_X10_drawn : GoodIn wsL_law wsX10_drawn := goodIn_r _ [1028, 35, 988, 190, 191, 192, 145, 146, 2, 147, 852, 853, 854, 855, 1029, 1030, 1031, 34, 1032, 79, 1033, 1034, 1035, 89, 1036, 532, 533, 534, 535, 80, 82, 86, 536, 537, 538, 14, 539, 540, 541, 542, 543, 544, 17, 545, 546, 547, 548, 549, 550, 26, 551, 552, 553, 554, 555, 23, 556, 557, 558, 20, 559, 560, 561, 1037, 837, 838, 839, 1144, 1145, 1146, 1147, 1148, 1149, 1180, 1181, 1182, 1183, 1184, 1185, 1186, 1187, 1188, 1189, 1190, 1191, 1192, 1197, 1198, 1199, 1200, 1201, 1202] rfl (by decide +kernel)
set_option maxRecDepth 100000 in
theorem gL_law_X10_drawn : GoodIn wsL_law (wsV RL 102 RX10 yX10_drawn wsX10_drawn) := goodIn_app (goodIn_of _ (by decide +kernel)) ggL_law_X10_drawn
set_option maxRecDepth 100000 in
theorem ggL_law_X11_drawn : GoodIn wsL_law wsX11_drawn := goodIn_r _ [1041, 1042, 1043, 1044, 566, 133, 132, 567, 272, 273, 5, 274, 873, 874, 875, 876, 1045, 1046, 1047, 1048, 1049, 1050, 1051, 1052, 665, 666, 667, 668, 129, 669, 670, 671, 672, 673, 674, 675, 1150, 1151, 1152, 1153, 1154, 1155, 1156, 1157, 1158, 1159, 1160, 1161, 1162, 1163, 1164, 1165, 1166, 1167, 1168, 1169, 1170, 1171, 1172, 1173, 1174, 1175, 1176, 1177, 1178] rfl (by decide +kernel)
set_option maxRecDepth 100000 in
theorem gL_law_X11_drawn : GoodIn wsL_law (wsV RL 105 RX11 yX11_drawn wsX11_drawn) := goodIn_app (goodIn_of _ (by decide +kernel)) ggL_law_X11_drawn
set_option maxRecDepth 100000 in
theorem ggL_law_X10_image : GoodIn wsL_law wsX10_image := goodIn_r _ [1056, 35, 852, 853, 854, 2, 855, 1057, 1058, 1059, 34, 1060, 87, 86, 1061, 1062, 1063, 1064, 85, 1065, 100, 104, 101, 1066, 210, 211, 212, 102, 1011, 1067, 1144, 1145, 1146, 1147, 1148, 1149, 1180, 1181, 1182, 1183, 1184, 1185, 1186, 1187, 1188, 1189, 1190, 1191, 1192, 1197, 1198, 1199, 1200, 1201, 1202] rfl (by decide +kernel)
set_option maxRecDepth 100000 in
theorem gL_law_X10_image : GoodIn wsL_law (wsV RL 106 RX10 yX10_image wsX10_image) := goodIn_app (goodIn_of _ (by decide +kernel)) ggL_law_X10_image
set_option maxRecDepth 100000 in
theorem ggL_law_X11_image : GoodIn wsL_law wsX11_image := goodIn_r _ [1071, 129, 136, 130, 137, 131, 138, 135, 139, 568, 1072, 569, 1073, 570, 140, 873, 874, 875, 5, 876, 566, 574, 575, 576, 1150, 1151, 1152, 1153, 1154, 1155, 1156, 1157, 1158, 1159, 1160, 1161, 1162, 1163, 1164, 1165, 1166, 1167, 1168, 1169, 1170, 1171, 1172, 1173, 1174, 1175, 1176, 1177, 1178] rfl (by decide +kernel)
set_option maxRecDepth 100000 in
theorem gL_law_X11_image : GoodIn wsL_law (wsV RL 109 RX11 yX11_image wsX11_image) := goodIn_app (goodIn_of _ (by decide +kernel)) ggL_law_X11_image
set_option maxRecDepth 100000 in
theorem ggL_law_X10_restore : GoodIn wsL_law wsX10_restore := goodIn_r _ [1077, 35, 1078, 1079, 1080, 34, 1081, 86, 87, 763, 1062, 1063, 1064, 85, 1065, 100, 104, 101, 1066, 210, 211, 212, 102, 1011, 1067, 527, 528, 529, 530, 88, 79, 531, 532, 533, 534, 535, 80, 82, 536, 537, 538, 14, 539, 540, 541, 542, 543, 544, 17, 545, 546, 547, 191, 548, 549, 550, 26, 551, 552, 553, 554, 555, 23, 556, 557, 558, 20, 559, 560, 190, 192, 561, 1144, 1145, 1146, 1147, 1148, 1149, 1180, 1181, 1182, 1183, 1184, 1185, 1186, 1187, 1188, 1189, 1190, 1191, 1192, 1197, 1198, 1199, 1200, 1201, 1202] rfl (by decide +kernel)
set_option maxRecDepth 100000 in
theorem gL_law_X10_restore : GoodIn wsL_law (wsV RL 110 RX10 yX10_restore wsX10_restore) := goodIn_app (goodIn_of _ (by decide +kernel)) ggL_law_X10_restore
set_option maxRecDepth 100000 in
theorem ggL_law_X11_restore : GoodIn wsL_law wsX11_restore := goodIn_r _ [1085, 140, 570, 136, 129, 137, 130, 138, 131, 139, 135, 1072, 568, 1073, 569, 574, 575, 5, 576, 1150, 1151, 1152, 1153, 1154, 1155, 1156, 1157, 1158, 1159, 1160, 1161, 1162, 1163, 1164, 1165, 1166, 1167, 1168, 1169, 1170, 1171, 1172, 1173, 1174, 1175, 1176, 1177, 1178] rfl (by decide +kernel)
set_option maxRecDepth 100000 in
theorem gL_law_X11_restore : GoodIn wsL_law (wsV RL 113 RX11 yX11_restore wsX11_restore) := goodIn_app (goodIn_of _ (by decide +kernel)) ggL_law_X11_restore
set_option maxRecDepth 100000 in
theorem ggL_law_X10_count : GoodIn wsL_law wsX10_count := goodIn_r _ [1089, 35, 31, 460, 893, 949, 852, 853, 854, 2, 855, 1090, 732, 733, 34, 734, 80, 88, 1091, 1092, 1093, 1094, 1095, 1096, 1097, 1098, 86, 1099, 1100, 1101, 1102, 148, 149, 150, 30, 151, 53, 152, 153, 154, 52, 155, 156, 157, 158, 159, 59, 160, 161, 1144, 1145, 1146, 1147, 1148, 1149, 1180, 1181, 1182, 1183, 1184, 1185, 1186, 1187, 1188, 1189, 1190, 1191, 1192, 1197, 1198, 1199, 1200, 1201, 1202, 1179, 1193, 1194, 1195, 1196] rfl (by decide +kernel)
set_option maxRecDepth 100000 in
theorem gL_law_X10_count : GoodIn wsL_law (wsV RL 114 RX10 yX10_count wsX10_count) := goodIn_app (goodIn_of _ (by decide +kernel)) ggL_law_X10_count
set_option maxRecDepth 100000 in
theorem ggL_law_X11_count : GoodIn wsL_law wsX11_count := goodIn_r _ [1106, 1107, 1108, 1109, 5, 1110, 566, 567, 568, 569, 271, 570, 911, 966, 873, 874, 875, 876, 743, 744, 745, 746, 132, 661, 662, 663, 664, 130, 133, 574, 575, 576, 665, 666, 667, 668, 129, 669, 670, 671, 672, 673, 674, 675, 1111, 1112, 1113, 1114, 1115, 1116, 1117, 1118, 131, 1150, 1151, 1152, 1153, 1154, 1155, 1156, 1157, 1158, 1159, 1160, 1161, 1162, 1163, 1164, 1165, 1166, 1167, 1168, 1169, 1170, 1171, 1172, 1173, 1174, 1175, 1176, 1177, 1178] rfl (by decide +kernel)
set_option maxRecDepth 100000 in
theorem gL_law_X11_count : GoodIn wsL_law (wsV RL 117 RX11 yX11_count wsX11_count) := goodIn_app (goodIn_of _ (by decide +kernel)) ggL_law_X11_count
set_option maxRecDepth 100000 in
theorem ggL_law_X10_digest : GoodIn wsL_law wsX10_digest := goodIn_r _ [1122, 1123, 35, 1124, 31, 1125, 578, 579, 2, 580, 581, 582, 583, 584, 145, 146, 147, 585, 586, 587, 588, 589, 590, 591, 34, 592, 86, 79, 593, 594, 595, 14, 596, 597, 598, 599, 600, 601, 17, 602, 603, 604, 26, 605, 606, 607, 20, 608, 609, 610, 23, 611, 612, 613, 614, 615, 78, 616, 617, 618, 619, 620, 621, 622, 623, 624, 625, 626, 627, 628, 629, 630, 631, 632, 633, 537, 538, 539, 634, 541, 542, 543, 544, 545, 546, 547, 191, 548, 549, 550, 551, 552, 553, 554, 555, 556, 557, 558, 559, 560, 190, 192, 561, 635, 636, 637, 638, 639, 640, 641, 642, 643, 644, 536, 540, 645, 646, 647, 648, 1126, 829, 830, 831, 832, 833, 834, 835, 89, 531, 210, 211, 212, 532, 533, 534, 535, 80, 82, 836, 837, 838, 839, 731, 732, 733, 734, 88, 1127, 977, 978, 979, 711, 424, 425, 776, 777, 778, 779, 763, 780, 90, 94, 122, 106, 107, 108, 781, 782, 783, 93, 784, 116, 113, 115, 117, 785, 786, 787, 788, 789, 790, 791, 792, 793, 114, 794, 795, 796, 797, 798, 799, 980, 981, 982, 983, 936, 984, 985, 986, 987, 988, 852, 853, 854, 855, 1128, 849, 850, 851, 856, 857, 858, 859, 860, 861, 862, 863, 864, 865, 866, 867, 868, 1129, 921, 922, 923, 1130, 929, 930, 931, 932, 933, 934, 935, 903, 904, 905, 906, 148, 149, 150, 30, 151, 53, 152, 153, 154, 52, 155, 156, 157, 158, 159, 59, 160, 161, 1131, 322, 323, 324, 325, 326, 327, 328, 329, 330, 331, 332, 65, 64, 333, 207, 208, 334, 261, 241, 262, 243, 263, 264, 246, 265, 335, 336, 68, 337, 251, 252, 253, 236, 237, 238, 1132, 1087, 1088, 1089, 460, 893, 949, 1090, 1091, 1092, 1093, 1094, 1095, 1096, 1097, 1098, 1099, 1100, 1101, 1102, 1144, 1145, 1146, 1147, 1148, 1149, 1180, 1181, 1182, 1183, 1184, 1185, 1186, 1187, 1188, 1189, 1190, 1191, 1192, 1197, 1198, 1199, 1200, 1201, 1202, 1212, 1213, 1214, 1215, 1203, 1204, 1205, 1206, 1207, 1179, 1193, 1194, 1195, 1196] rfl (by decide +kernel)
set_option maxRecDepth 100000 in
theorem gL_law_X10_digest : GoodIn wsL_law (wsV RL 118 RX10 yX10_digest wsX10_digest) := goodIn_app (goodIn_of _ (by decide +kernel)) ggL_law_X10_digest
set_option maxRecDepth 100000 in
theorem ggL_law_X11_digest : GoodIn wsL_law wsX11_digest := goodIn_r _ [1136, 1137, 1138, 567, 566, 271, 127, 657, 658, 659, 5, 660, 129, 132, 131, 661, 662, 663, 664, 130, 133, 574, 575, 576, 665, 666, 667, 668, 669, 670, 671, 672, 673, 674, 675, 676, 677, 678, 679, 569, 135, 680, 681, 682, 683, 684, 685, 686, 1139, 1140, 1141, 1142, 1143, 844, 845, 846, 847, 743, 744, 745, 746, 993, 994, 995, 996, 809, 810, 811, 812, 813, 814, 815, 816, 817, 818, 819, 873, 874, 875, 876, 877, 878, 879, 880, 881, 882, 883, 884, 885, 886, 887, 888, 805, 806, 807, 808, 941, 942, 943, 944, 1107, 1108, 1109, 1110, 568, 570, 911, 966, 1111, 1112, 1113, 1114, 1115, 1116, 1117, 1118, 1150, 1151, 1152, 1153, 1154, 1155, 1156, 1157, 1158, 1159, 1160, 1161, 1162, 1163, 1164, 1165, 1166, 1167, 1168, 1169, 1170, 1171, 1172, 1173, 1174, 1175, 1176, 1177, 1178] rfl (by decide +kernel)
set_option maxRecDepth 100000 in
theorem gL_law_X11_digest : GoodIn wsL_law (wsV RL 122 RX11 yX11_digest wsX11_digest) := goodIn_app (goodIn_of _ (by decide +kernel)) ggL_law_X11_digest
theorem dL_law_0 : decode cL_law 0 = .ok (.new 7, 3) := by decide +kernel
theorem dL_law_3 : decode cL_law 3 = .ok (.dup, 1) := by decide +kernel
