set_option maxRecDepth 100000 in
theorem ggL_law_X10_makes : GoodIn wsL_law wsX10_makes := goodIn_r _ [700, 27, 35, 701, 702, 703, 2, 704, 156, 157, 158, 705, 435, 436, 603, 604, 605, 34, 606, 86, 79, 706, 551, 552, 14, 553, 707, 555, 556, 557, 558, 17, 559, 560, 561, 202, 562, 563, 564, 26, 565, 566, 567, 568, 569, 23, 570, 571, 572, 20, 573, 574, 201, 203, 575, 1143, 1144, 1145, 1146, 1147, 1148, 1179, 1180, 1181, 1182, 1183, 1184, 1185, 1186, 1187, 1188, 1189, 1190, 1191, 1192, 1193, 1198, 1199, 1200, 1201, 1202, 1203] rfl (by decide +kernel)
set_option maxRecDepth 100000 in
theorem gL_law_X10_makes : GoodIn wsL_law (wsV RL 40 RX10 yX10_makes wsX10_makes) := goodIn_app (goodIn_of _ (by decide +kernel)) ggL_law_X10_makes
set_option maxRecDepth 100000 in
theorem ggL_law_X11_makes : GoodIn wsL_law wsX11_makes := goodIn_r _ [711, 712, 140, 713, 714, 715, 5, 716, 580, 581, 283, 284, 285, 667, 668, 669, 1149, 1150, 1151, 1152, 1153, 1154, 1155, 1156, 1157, 1158, 1159, 1160, 1161, 1162, 1163, 1164, 1165, 1166, 1167, 1168, 1169, 1170, 1171, 1172, 1173, 1174, 1175, 1176, 1177] rfl (by decide +kernel)
set_option maxRecDepth 100000 in
theorem gL_law_X11_makes : GoodIn wsL_law (wsV RL 44 RX11 yX11_makes wsX11_makes) := goodIn_app (goodIn_of _ (by decide +kernel)) ggL_law_X11_makes
set_option maxRecDepth 100000 in
theorem ggL_law_X10_put : GoodIn wsL_law wsX10_put := goodIn_r _ [720, 35, 599, 600, 601, 2, 602, 156, 157, 158, 705, 435, 436, 721, 722, 723, 34, 724, 86, 538, 539, 540, 541, 88, 542, 543, 544, 218, 202, 219, 545, 221, 222, 223, 546, 547, 548, 549, 79, 80, 82, 78, 550, 551, 552, 14, 553, 554, 555, 556, 557, 558, 17, 559, 560, 561, 562, 563, 564, 26, 565, 566, 567, 568, 569, 23, 570, 571, 572, 20, 573, 574, 201, 203, 575, 725, 726, 727, 728, 1143, 1144, 1145, 1146, 1147, 1148, 1179, 1180, 1181, 1182, 1183, 1184, 1185, 1186, 1187, 1188, 1189, 1190, 1191, 1192, 1193, 1198, 1199, 1200, 1201, 1202, 1203] rfl (by decide +kernel)
set_option maxRecDepth 100000 in
theorem gL_law_X10_put : GoodIn wsL_law (wsV RL 45 RX10 yX10_put wsX10_put) := goodIn_app (goodIn_of _ (by decide +kernel)) ggL_law_X10_put
set_option maxRecDepth 100000 in
theorem ggL_law_X11_put : GoodIn wsL_law wsX11_put := goodIn_r _ [732, 712, 582, 141, 733, 734, 735, 5, 736, 580, 283, 284, 285, 737, 738, 739, 740, 143, 581, 655, 656, 657, 658, 144, 588, 589, 590, 659, 660, 661, 662, 140, 663, 664, 665, 666, 667, 668, 669, 1149, 1150, 1151, 1152, 1153, 1154, 1155, 1156, 1157, 1158, 1159, 1160, 1161, 1162, 1163, 1164, 1165, 1166, 1167, 1168, 1169, 1170, 1171, 1172, 1173, 1174, 1175, 1176, 1177] rfl (by decide +kernel)
set_option maxRecDepth 100000 in
theorem gL_law_X11_put : GoodIn wsL_law (wsV RL 48 RX11 yX11_put wsX11_put) := goodIn_app (goodIn_of _ (by decide +kernel)) ggL_law_X11_put
set_option maxRecDepth 100000 in
theorem ggL_law_X10_exchange : GoodIn wsL_law wsX10_exchange := goodIn_r _ [744, 35, 599, 600, 601, 2, 602, 156, 157, 158, 721, 722, 723, 34, 724, 86, 538, 539, 540, 541, 88, 542, 543, 544, 218, 202, 219, 545, 221, 222, 223, 546, 547, 548, 549, 79, 80, 82, 78, 550, 551, 552, 14, 553, 554, 555, 556, 557, 558, 17, 559, 560, 561, 562, 563, 564, 26, 565, 566, 567, 568, 569, 23, 570, 571, 572, 20, 573, 574, 201, 203, 575, 725, 726, 727, 728, 1143, 1144, 1145, 1146, 1147, 1148, 1179, 1180, 1181, 1182, 1183, 1184, 1185, 1186, 1187, 1188, 1189, 1190, 1191, 1192, 1193, 1198, 1199, 1200, 1201, 1202, 1203] rfl (by decide +kernel)
set_option maxRecDepth 100000 in
theorem gL_law_X10_exchange : GoodIn wsL_law (wsV RL 49 RX10 yX10_exchange wsX10_exchange) := goodIn_app (goodIn_of _ (by decide +kernel)) ggL_law_X10_exchange
set_option maxRecDepth 100000 in
theorem ggL_law_X11_exchange : GoodIn wsL_law wsX11_exchange := goodIn_r _ [748, 582, 141, 733, 734, 735, 5, 736, 580, 283, 284, 285, 737, 738, 739, 740, 143, 581, 655, 656, 657, 658, 144, 588, 589, 590, 659, 660, 661, 662, 140, 663, 664, 665, 666, 667, 668, 669, 1149, 1150, 1151, 1152, 1153, 1154, 1155, 1156, 1157, 1158, 1159, 1160, 1161, 1162, 1163, 1164, 1165, 1166, 1167, 1168, 1169, 1170, 1171, 1172, 1173, 1174, 1175, 1176, 1177] rfl (by decide +kernel)
set_option maxRecDepth 100000 in
theorem gL_law_X11_exchange : GoodIn wsL_law (wsV RL 52 RX11 yX11_exchange wsX11_exchange) := goodIn_app (goodIn_of _ (by decide +kernel)) ggL_law_X11_exchange
set_option maxRecDepth 100000 in
theorem ggL_law_X10_change : GoodIn wsL_law wsX10_change := goodIn_r _ [752, 35, 701, 702, 703, 2, 704, 156, 157, 158, 603, 604, 605, 34, 606, 86, 79, 753, 754, 755, 756, 757, 538, 539, 540, 541, 88, 542, 543, 544, 218, 202, 219, 545, 221, 222, 223, 546, 547, 548, 549, 80, 82, 78, 550, 551, 552, 14, 553, 554, 555, 556, 557, 558, 17, 559, 560, 561, 562, 563, 564, 26, 565, 566, 567, 568, 569, 23, 570, 571, 572, 20, 573, 574, 201, 203, 575, 1143, 1144, 1145, 1146, 1147, 1148, 1179, 1180, 1181, 1182, 1183, 1184, 1185, 1186, 1187, 1188, 1189, 1190, 1191, 1192, 1193, 1198, 1199, 1200, 1201, 1202, 1203] rfl (by decide +kernel)
set_option maxRecDepth 100000 in
theorem gL_law_X10_change : GoodIn wsL_law (wsV RL 53 RX10 yX10_change wsX10_change) := goodIn_app (goodIn_of _ (by decide +kernel)) ggL_law_X10_change
set_option maxRecDepth 100000 in
theorem ggL_law_X11_change : GoodIn wsL_law wsX11_change := goodIn_r _ [761, 696, 140, 713, 714, 715, 5, 716, 580, 581, 283, 284, 285, 1149, 1150, 1151, 1152, 1153, 1154, 1155, 1156, 1157, 1158, 1159, 1160, 1161, 1162, 1163, 1164, 1165, 1166, 1167, 1168, 1169, 1170, 1171, 1172, 1173, 1174, 1175, 1176, 1177] rfl (by decide +kernel)
set_option maxRecDepth 100000 in
theorem gL_law_X11_change : GoodIn wsL_law (wsV RL 56 RX11 yX11_change wsX11_change) := goodIn_app (goodIn_of _ (by decide +kernel)) ggL_law_X11_change
set_option maxRecDepth 100000 in
theorem ggL_law_X10_tell : GoodIn wsL_law wsX10_tell := goodIn_r _ [765, 35, 595, 596, 597, 2, 598, 156, 157, 158, 766, 767, 768, 34, 769, 86, 757, 770, 771, 772, 773, 774, 90, 94, 79, 129, 110, 111, 112, 775, 776, 777, 93, 778, 121, 117, 120, 122, 779, 780, 781, 782, 783, 784, 785, 786, 787, 118, 119, 788, 789, 790, 791, 792, 551, 552, 14, 553, 793, 555, 556, 557, 558, 17, 559, 560, 561, 202, 562, 563, 564, 26, 565, 566, 567, 568, 569, 23, 570, 571, 572, 20, 573, 574, 201, 203, 575, 1143, 1144, 1145, 1146, 1147, 1148, 1179, 1180, 1181, 1182, 1183, 1184, 1185, 1186, 1187, 1188, 1189, 1190, 1191, 1192, 1193, 1198, 1199, 1200, 1201, 1202, 1203, 1204, 1205, 1206, 1207, 1208, 1209] rfl (by decide +kernel)
set_option maxRecDepth 100000 in
theorem gL_law_X10_tell : GoodIn wsL_law (wsV RL 57 RX10 yX10_tell wsX10_tell) := goodIn_app (goodIn_of _ (by decide +kernel)) ggL_law_X10_tell
set_option maxRecDepth 100000 in
theorem ggL_law_X11_tell : GoodIn wsL_law wsX11_tell := goodIn_r _ [797, 798, 142, 647, 648, 649, 5, 650, 581, 283, 284, 285, 799, 800, 801, 802, 580, 803, 804, 805, 806, 807, 808, 809, 143, 810, 811, 812, 813, 144, 659, 660, 661, 662, 140, 663, 664, 665, 666, 667, 668, 669, 1149, 1150, 1151, 1152, 1153, 1154, 1155, 1156, 1157, 1158, 1159, 1160, 1161, 1162, 1163, 1164, 1165, 1166, 1167, 1168, 1169, 1170, 1171, 1172, 1173, 1174, 1175, 1176, 1177] rfl (by decide +kernel)
set_option maxRecDepth 100000 in
theorem gL_law_X11_tell : GoodIn wsL_law (wsV RL 60 RX11 yX11_tell wsX11_tell) := goodIn_app (goodIn_of _ (by decide +kernel)) ggL_law_X11_tell
set_option maxRecDepth 100000 in
theorem ggL_law_X10_hush : GoodIn wsL_law wsX10_hush := goodIn_r _ [817, 35, 595, 596, 597, 2, 598, 156, 157, 158, 766, 767, 768, 34, 769, 86, 757, 770, 771, 772, 773, 774, 90, 94, 79, 129, 110, 111, 112, 775, 776, 777, 93, 778, 121, 117, 120, 122, 779, 780, 781, 782, 783, 784, 785, 786, 787, 118, 119, 788, 789, 790, 791, 792, 551, 552, 14, 553, 793, 555, 556, 557, 558, 17, 559, 560, 561, 202, 562, 563, 564, 26, 565, 566, 567, 568, 569, 23, 570, 571, 572, 20, 573, 574, 201, 203, 575, 1143, 1144, 1145, 1146, 1147, 1148, 1179, 1180, 1181, 1182, 1183, 1184, 1185, 1186, 1187, 1188, 1189, 1190, 1191, 1192, 1193, 1198, 1199, 1200, 1201, 1202, 1203, 1204, 1205, 1206, 1207, 1208, 1209] rfl (by decide +kernel)
set_option maxRecDepth 100000 in
theorem gL_law_X10_hush : GoodIn wsL_law (wsV RL 61 RX10 yX10_hush wsX10_hush) := goodIn_app (goodIn_of _ (by decide +kernel)) ggL_law_X10_hush
set_option maxRecDepth 100000 in
theorem ggL_law_X11_hush : GoodIn wsL_law wsX11_hush := goodIn_r _ [821, 142, 647, 648, 649, 5, 650, 581, 283, 284, 285, 799, 800, 801, 802, 580, 803, 804, 805, 806, 807, 808, 809, 143, 810, 811, 812, 813, 144, 659, 660, 661, 662, 140, 663, 664, 665, 666, 667, 668, 669, 1149, 1150, 1151, 1152, 1153, 1154, 1155, 1156, 1157, 1158, 1159, 1160, 1161, 1162, 1163, 1164, 1165, 1166, 1167, 1168, 1169, 1170, 1171, 1172, 1173, 1174, 1175, 1176, 1177] rfl (by decide +kernel)
set_option maxRecDepth 100000 in
theorem gL_law_X11_hush : GoodIn wsL_law (wsV RL 64 RX11 yX11_hush wsX11_hush) := goodIn_app (goodIn_of _ (by decide +kernel)) ggL_law_X11_hush
set_option maxRecDepth 100000 in
theorem ggL_law_X10_swing : GoodIn wsL_law wsX10_swing := goodIn_r _ [825, 35, 599, 600, 601, 2, 602, 156, 157, 158, 826, 827, 828, 34, 829, 86, 89, 542, 543, 544, 218, 202, 219, 545, 221, 222, 223, 546, 547, 548, 549, 79, 80, 82, 78, 550, 551, 552, 14, 553, 554, 555, 556, 557, 558, 17, 559, 560, 561, 562, 563, 564, 26, 565, 566, 567, 568, 569, 23, 570, 571, 572, 20, 573, 574, 201, 203, 575, 830, 831, 832, 833, 725, 726, 727, 728, 88, 1143, 1144, 1145, 1146, 1147, 1148, 1179, 1180, 1181, 1182, 1183, 1184, 1185, 1186, 1187, 1188, 1189, 1190, 1191, 1192, 1193, 1198, 1199, 1200, 1201, 1202, 1203] rfl (by decide +kernel)
set_option maxRecDepth 100000 in
theorem gL_law_X10_swing : GoodIn wsL_law (wsV RL 65 RX10 yX10_swing wsX10_swing) := goodIn_app (goodIn_of _ (by decide +kernel)) ggL_law_X10_swing
set_option maxRecDepth 100000 in
theorem ggL_law_X11_swing : GoodIn wsL_law wsX11_swing := goodIn_r _ [837, 733, 734, 735, 5, 736, 580, 283, 284, 285, 838, 839, 840, 841, 141, 144, 143, 581, 737, 738, 739, 740, 655, 656, 657, 658, 588, 589, 590, 659, 660, 661, 662, 140, 663, 664, 665, 666, 667, 668, 669, 1149, 1150, 1151, 1152, 1153, 1154, 1155, 1156, 1157, 1158, 1159, 1160, 1161, 1162, 1163, 1164, 1165, 1166, 1167, 1168, 1169, 1170, 1171, 1172, 1173, 1174, 1175, 1176, 1177] rfl (by decide +kernel)
set_option maxRecDepth 100000 in
theorem gL_law_X11_swing : GoodIn wsL_law (wsV RL 68 RX11 yX11_swing wsX11_swing) := goodIn_app (goodIn_of _ (by decide +kernel)) ggL_law_X11_swing
