set_option maxRecDepth 100000 in
theorem ggL_law_X10_makes : GoodIn wsL_law wsX10_makes := goodIn_r _ [706, 35, 707, 708, 709, 2, 710, 145, 146, 147, 711, 424, 425, 589, 590, 591, 34, 592, 86, 79, 712, 537, 538, 14, 539, 713, 541, 542, 543, 544, 17, 545, 546, 547, 191, 548, 549, 550, 26, 551, 552, 553, 554, 555, 23, 556, 557, 558, 20, 559, 560, 190, 192, 561, 1144, 1145, 1146, 1147, 1148, 1149, 1180, 1181, 1182, 1183, 1184, 1185, 1186, 1187, 1188, 1189, 1190, 1191, 1192, 1197, 1198, 1199, 1200, 1201, 1202] rfl (by decide +kernel)
set_option maxRecDepth 100000 in
theorem gL_law_X10_makes : GoodIn wsL_law (wsV RL 40 RX10 yX10_makes wsX10_makes) := goodIn_app (goodIn_of _ (by decide +kernel)) ggL_law_X10_makes
set_option maxRecDepth 100000 in
theorem ggL_law_X11_makes : GoodIn wsL_law wsX11_makes := goodIn_r _ [717, 718, 129, 719, 720, 721, 5, 722, 566, 567, 272, 273, 274, 673, 674, 675, 1150, 1151, 1152, 1153, 1154, 1155, 1156, 1157, 1158, 1159, 1160, 1161, 1162, 1163, 1164, 1165, 1166, 1167, 1168, 1169, 1170, 1171, 1172, 1173, 1174, 1175, 1176, 1177, 1178] rfl (by decide +kernel)
set_option maxRecDepth 100000 in
theorem gL_law_X11_makes : GoodIn wsL_law (wsV RL 44 RX11 yX11_makes wsX11_makes) := goodIn_app (goodIn_of _ (by decide +kernel)) ggL_law_X11_makes
set_option maxRecDepth 100000 in
theorem ggL_law_X10_put : GoodIn wsL_law wsX10_put := goodIn_r _ [726, 35, 585, 586, 587, 2, 588, 145, 146, 147, 711, 424, 425, 727, 728, 729, 34, 730, 86, 527, 528, 529, 530, 88, 79, 531, 210, 211, 212, 532, 533, 534, 535, 80, 82, 536, 537, 538, 14, 539, 540, 541, 542, 543, 544, 17, 545, 546, 547, 191, 548, 549, 550, 26, 551, 552, 553, 554, 555, 23, 556, 557, 558, 20, 559, 560, 190, 192, 561, 731, 732, 733, 734, 1144, 1145, 1146, 1147, 1148, 1149, 1180, 1181, 1182, 1183, 1184, 1185, 1186, 1187, 1188, 1189, 1190, 1191, 1192, 1197, 1198, 1199, 1200, 1201, 1202] rfl (by decide +kernel)
set_option maxRecDepth 100000 in
theorem gL_law_X10_put : GoodIn wsL_law (wsV RL 45 RX10 yX10_put wsX10_put) := goodIn_app (goodIn_of _ (by decide +kernel)) ggL_law_X10_put
set_option maxRecDepth 100000 in
theorem ggL_law_X11_put : GoodIn wsL_law wsX11_put := goodIn_r _ [738, 718, 568, 130, 739, 740, 741, 5, 742, 566, 272, 273, 274, 743, 744, 745, 746, 132, 567, 661, 662, 663, 664, 133, 574, 575, 576, 665, 666, 667, 668, 129, 669, 670, 671, 672, 673, 674, 675, 1150, 1151, 1152, 1153, 1154, 1155, 1156, 1157, 1158, 1159, 1160, 1161, 1162, 1163, 1164, 1165, 1166, 1167, 1168, 1169, 1170, 1171, 1172, 1173, 1174, 1175, 1176, 1177, 1178] rfl (by decide +kernel)
set_option maxRecDepth 100000 in
theorem gL_law_X11_put : GoodIn wsL_law (wsV RL 48 RX11 yX11_put wsX11_put) := goodIn_app (goodIn_of _ (by decide +kernel)) ggL_law_X11_put
set_option maxRecDepth 100000 in
theorem ggL_law_X10_exchange : GoodIn wsL_law wsX10_exchange := goodIn_r _ [750, 35, 585, 586, 587, 2, 588, 145, 146, 147, 727, 728, 729, 34, 730, 86, 527, 528, 529, 530, 88, 79, 531, 210, 211, 212, 532, 533, 534, 535, 80, 82, 536, 537, 538, 14, 539, 540, 541, 542, 543, 544, 17, 545, 546, 547, 191, 548, 549, 550, 26, 551, 552, 553, 554, 555, 23, 556, 557, 558, 20, 559, 560, 190, 192, 561, 731, 732, 733, 734, 1144, 1145, 1146, 1147, 1148, 1149, 1180, 1181, 1182, 1183, 1184, 1185, 1186, 1187, 1188, 1189, 1190, 1191, 1192, 1197, 1198, 1199, 1200, 1201, 1202] rfl (by decide +kernel)
set_option maxRecDepth 100000 in
theorem gL_law_X10_exchange : GoodIn wsL_law (wsV RL 49 RX10 yX10_exchange wsX10_exchange) := goodIn_app (goodIn_of _ (by decide +kernel)) ggL_law_X10_exchange
set_option maxRecDepth 100000 in
theorem ggL_law_X11_exchange : GoodIn wsL_law wsX11_exchange := goodIn_r _ [754, 568, 130, 739, 740, 741, 5, 742, 566, 272, 273, 274, 743, 744, 745, 746, 132, 567, 661, 662, 663, 664, 133, 574, 575, 576, 665, 666, 667, 668, 129, 669, 670, 671, 672, 673, 674, 675, 1150, 1151, 1152, 1153, 1154, 1155, 1156, 1157, 1158, 1159, 1160, 1161, 1162, 1163, 1164, 1165, 1166, 1167, 1168, 1169, 1170, 1171, 1172, 1173, 1174, 1175, 1176, 1177, 1178] rfl (by decide +kernel)
set_option maxRecDepth 100000 in
theorem gL_law_X11_exchange : GoodIn wsL_law (wsV RL 52 RX11 yX11_exchange wsX11_exchange) := goodIn_app (goodIn_of _ (by decide +kernel)) ggL_law_X11_exchange
set_option maxRecDepth 100000 in
theorem ggL_law_X10_change : GoodIn wsL_law wsX10_change := goodIn_r _ [758, 35, 707, 708, 709, 2, 710, 145, 146, 147, 589, 590, 591, 34, 592, 86, 79, 593, 594, 595, 14, 596, 597, 598, 599, 600, 601, 17, 602, 603, 604, 26, 605, 606, 607, 20, 608, 609, 610, 23, 611, 759, 760, 761, 762, 78, 763, 527, 528, 529, 530, 88, 531, 210, 211, 212, 532, 533, 534, 535, 80, 82, 536, 537, 538, 539, 540, 541, 542, 543, 544, 545, 546, 547, 191, 548, 549, 550, 551, 552, 553, 554, 555, 556, 557, 558, 559, 560, 190, 192, 561, 1144, 1145, 1146, 1147, 1148, 1149, 1180, 1181, 1182, 1183, 1184, 1185, 1186, 1187, 1188, 1189, 1190, 1191, 1192, 1197, 1198, 1199, 1200, 1201, 1202] rfl (by decide +kernel)
set_option maxRecDepth 100000 in
theorem gL_law_X10_change : GoodIn wsL_law (wsV RL 53 RX10 yX10_change wsX10_change) := goodIn_app (goodIn_of _ (by decide +kernel)) ggL_law_X10_change
set_option maxRecDepth 100000 in
theorem ggL_law_X11_change : GoodIn wsL_law wsX11_change := goodIn_r _ [767, 702, 129, 719, 720, 721, 5, 722, 566, 567, 272, 273, 274, 1150, 1151, 1152, 1153, 1154, 1155, 1156, 1157, 1158, 1159, 1160, 1161, 1162, 1163, 1164, 1165, 1166, 1167, 1168, 1169, 1170, 1171, 1172, 1173, 1174, 1175, 1176, 1177, 1178] rfl (by decide +kernel)
set_option maxRecDepth 100000 in
theorem gL_law_X11_change : GoodIn wsL_law (wsV RL 56 RX11 yX11_change wsX11_change) := goodIn_app (goodIn_of _ (by decide +kernel)) ggL_law_X11_change
set_option maxRecDepth 100000 in
theorem ggL_law_X10_tell : GoodIn wsL_law wsX10_tell := goodIn_r _ [771, 35, 581, 582, 583, 2, 584, 145, 146, 147, 772, 773, 774, 34, 775, 86, 763, 776, 777, 778, 779, 780, 90, 94, 79, 122, 106, 107, 108, 781, 782, 783, 93, 784, 116, 113, 115, 117, 785, 786, 787, 788, 789, 790, 791, 792, 793, 114, 794, 795, 796, 797, 798, 537, 538, 14, 539, 799, 541, 542, 543, 544, 17, 545, 546, 547, 191, 548, 549, 550, 26, 551, 552, 553, 554, 555, 23, 556, 557, 558, 20, 559, 560, 190, 192, 561, 1144, 1145, 1146, 1147, 1148, 1149, 1180, 1181, 1182, 1183, 1184, 1185, 1186, 1187, 1188, 1189, 1190, 1191, 1192, 1197, 1198, 1199, 1200, 1201, 1202, 1203, 1204, 1205, 1206, 1207] rfl (by decide +kernel)
set_option maxRecDepth 100000 in
theorem gL_law_X10_tell : GoodIn wsL_law (wsV RL 57 RX10 yX10_tell wsX10_tell) := goodIn_app (goodIn_of _ (by decide +kernel)) ggL_law_X10_tell
set_option maxRecDepth 100000 in
theorem ggL_law_X11_tell : GoodIn wsL_law wsX11_tell := goodIn_r _ [803, 804, 131, 653, 654, 655, 5, 656, 567, 272, 273, 274, 805, 806, 807, 808, 566, 809, 810, 811, 812, 813, 814, 815, 132, 816, 817, 818, 819, 133, 665, 666, 667, 668, 129, 669, 670, 671, 672, 673, 674, 675, 1150, 1151, 1152, 1153, 1154, 1155, 1156, 1157, 1158, 1159, 1160, 1161, 1162, 1163, 1164, 1165, 1166, 1167, 1168, 1169, 1170, 1171, 1172, 1173, 1174, 1175, 1176, 1177, 1178] rfl (by decide +kernel)
set_option maxRecDepth 100000 in
theorem gL_law_X11_tell : GoodIn wsL_law (wsV RL 60 RX11 yX11_tell wsX11_tell) := goodIn_app (goodIn_of _ (by decide +kernel)) ggL_law_X11_tell
set_option maxRecDepth 100000 in
theorem ggL_law_X10_hush : GoodIn wsL_law wsX10_hush := goodIn_r _ [823, 35, 581, 582, 583, 2, 584, 145, 146, 147, 772, 773, 774, 34, 775, 86, 763, 776, 777, 778, 779, 780, 90, 94, 79, 122, 106, 107, 108, 781, 782, 783, 93, 784, 116, 113, 115, 117, 785, 786, 787, 788, 789, 790, 791, 792, 793, 114, 794, 795, 796, 797, 798, 537, 538, 14, 539, 799, 541, 542, 543, 544, 17, 545, 546, 547, 191, 548, 549, 550, 26, 551, 552, 553, 554, 555, 23, 556, 557, 558, 20, 559, 560, 190, 192, 561, 1144, 1145, 1146, 1147, 1148, 1149, 1180, 1181, 1182, 1183, 1184, 1185, 1186, 1187, 1188, 1189, 1190, 1191, 1192, 1197, 1198, 1199, 1200, 1201, 1202, 1203, 1204, 1205, 1206, 1207] rfl (by decide +kernel)
set_option maxRecDepth 100000 in
theorem gL_law_X10_hush : GoodIn wsL_law (wsV RL 61 RX10 yX10_hush wsX10_hush) := goodIn_app (goodIn_of _ (by decide +kernel)) ggL_law_X10_hush
set_option maxRecDepth 100000 in
theorem ggL_law_X11_hush : GoodIn wsL_law wsX11_hush := goodIn_r _ [827, 131, 653, 654, 655, 5, 656, 567, 272, 273, 274, 805, 806, 807, 808, 566, 809, 810, 811, 812, 813, 814, 815, 132, 816, 817, 818, 819, 133, 665, 666, 667, 668, 129, 669, 670, 671, 672, 673, 674, 675, 1150, 1151, 1152, 1153, 1154, 1155, 1156, 1157, 1158, 1159, 1160, 1161, 1162, 1163, 1164, 1165, 1166, 1167, 1168, 1169, 1170, 1171, 1172, 1173, 1174, 1175, 1176, 1177, 1178] rfl (by decide +kernel)
set_option maxRecDepth 100000 in
theorem gL_law_X11_hush : GoodIn wsL_law (wsV RL 64 RX11 yX11_hush wsX11_hush) := goodIn_app (goodIn_of _ (by decide +kernel)) ggL_law_X11_hush
set_option maxRecDepth 100000 in
theorem ggL_law_X10_swing : GoodIn wsL_law wsX10_swing := goodIn_r _ [831, 35, 585, 586, 587, 2, 588, 145, 146, 147, 832, 833, 834, 34, 835, 86, 89, 79, 531, 210, 211, 212, 532, 533, 534, 535, 80, 82, 536, 537, 538, 14, 539, 540, 541, 542, 543, 544, 17, 545, 546, 547, 191, 548, 549, 550, 26, 551, 552, 553, 554, 555, 23, 556, 557, 558, 20, 559, 560, 190, 192, 561, 836, 837, 838, 839, 731, 732, 733, 734, 88, 1144, 1145, 1146, 1147, 1148, 1149, 1180, 1181, 1182, 1183, 1184, 1185, 1186, 1187, 1188, 1189, 1190, 1191, 1192, 1197, 1198, 1199, 1200, 1201, 1202] rfl (by decide +kernel)
set_option maxRecDepth 100000 in
theorem gL_law_X10_swing : GoodIn wsL_law (wsV RL 65 RX10 yX10_swing wsX10_swing) := goodIn_app (goodIn_of _ (by decide +kernel)) ggL_law_X10_swing
set_option maxRecDepth 100000 in
theorem ggL_law_X11_swing : GoodIn wsL_law wsX11_swing := goodIn_r _ [843, 739, 740, 741, 5, 742, 566, 272, 273, 274, 844, 845, 846, 847, 130, 133, 132, 567, 743, 744, 745, 746, 661, 662, 663, 664, 574, 575, 576, 665, 666, 667, 668, 129, 669, 670, 671, 672, 673, 674, 675, 1150, 1151, 1152, 1153, 1154, 1155, 1156, 1157, 1158, 1159, 1160, 1161, 1162, 1163, 1164, 1165, 1166, 1167, 1168, 1169, 1170, 1171, 1172, 1173, 1174, 1175, 1176, 1177, 1178] rfl (by decide +kernel)
set_option maxRecDepth 100000 in
theorem gL_law_X11_swing : GoodIn wsL_law (wsV RL 68 RX11 yX11_swing wsX11_swing) := goodIn_app (goodIn_of _ (by decide +kernel)) ggL_law_X11_swing
