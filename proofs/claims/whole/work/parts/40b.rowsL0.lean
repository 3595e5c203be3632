set_option maxRecDepth 100000 in
theorem ggL_law_X10_makes : GoodIn wsL_law wsX10_makes := goodIn_r _ [702, 35, 703, 704, 705, 2, 706, 242, 243, 244, 707, 240, 241, 585, 586, 587, 34, 588, 86, 79, 708, 258, 259, 14, 260, 709, 262, 263, 264, 265, 17, 266, 267, 268, 193, 269, 270, 271, 26, 272, 273, 274, 275, 276, 23, 277, 278, 279, 20, 280, 281, 192, 194, 282, 1140, 1141, 1142, 1143, 1144, 1145, 1176, 1177, 1178, 1179, 1180, 1181, 1182, 1183, 1184, 1185, 1186, 1187, 1188, 1193, 1194, 1195, 1196, 1197, 1198] rfl (by decide +kernel)
set_option maxRecDepth 100000 in
theorem gL_law_X10_makes : GoodIn wsL_law (wsV RL 40 RX10 yX10_makes wsX10_makes) := goodIn_app (goodIn_of _ (by decide +kernel)) ggL_law_X10_makes
set_option maxRecDepth 100000 in
theorem ggL_law_X11_makes : GoodIn wsL_law wsX11_makes := goodIn_r _ [713, 714, 289, 715, 716, 717, 5, 718, 562, 563, 402, 403, 404, 669, 670, 671, 1146, 1147, 1148, 1149, 1150, 1151, 1152, 1153, 1154, 1155, 1156, 1157, 1158, 1159, 1160, 1161, 1162, 1163, 1164, 1165, 1166, 1167, 1168, 1169, 1170, 1171, 1172, 1173, 1174] rfl (by decide +kernel)
set_option maxRecDepth 100000 in
theorem gL_law_X11_makes : GoodIn wsL_law (wsV RL 44 RX11 yX11_makes wsX11_makes) := goodIn_app (goodIn_of _ (by decide +kernel)) ggL_law_X11_makes
set_option maxRecDepth 100000 in
theorem ggL_law_X10_put : GoodIn wsL_law wsX10_put := goodIn_r _ [722, 35, 581, 582, 583, 2, 584, 242, 243, 244, 707, 240, 241, 723, 724, 725, 34, 726, 86, 245, 246, 247, 248, 88, 79, 249, 250, 251, 252, 253, 254, 255, 256, 80, 82, 257, 258, 259, 14, 260, 261, 262, 263, 264, 265, 17, 266, 267, 268, 193, 269, 270, 271, 26, 272, 273, 274, 275, 276, 23, 277, 278, 279, 20, 280, 281, 192, 194, 282, 727, 728, 729, 730, 1140, 1141, 1142, 1143, 1144, 1145, 1176, 1177, 1178, 1179, 1180, 1181, 1182, 1183, 1184, 1185, 1186, 1187, 1188, 1193, 1194, 1195, 1196, 1197, 1198] rfl (by decide +kernel)
set_option maxRecDepth 100000 in
theorem gL_law_X10_put : GoodIn wsL_law (wsV RL 45 RX10 yX10_put wsX10_put) := goodIn_app (goodIn_of _ (by decide +kernel)) ggL_law_X10_put
set_option maxRecDepth 100000 in
theorem ggL_law_X11_put : GoodIn wsL_law wsX11_put := goodIn_r _ [734, 714, 564, 290, 735, 736, 737, 5, 738, 562, 402, 403, 404, 739, 740, 741, 742, 292, 563, 657, 658, 659, 660, 293, 570, 571, 572, 661, 662, 663, 664, 289, 665, 666, 667, 668, 669, 670, 671, 1146, 1147, 1148, 1149, 1150, 1151, 1152, 1153, 1154, 1155, 1156, 1157, 1158, 1159, 1160, 1161, 1162, 1163, 1164, 1165, 1166, 1167, 1168, 1169, 1170, 1171, 1172, 1173, 1174] rfl (by decide +kernel)
set_option maxRecDepth 100000 in
theorem gL_law_X11_put : GoodIn wsL_law (wsV RL 48 RX11 yX11_put wsX11_put) := goodIn_app (goodIn_of _ (by decide +kernel)) ggL_law_X11_put
set_option maxRecDepth 100000 in
theorem ggL_law_X10_exchange : GoodIn wsL_law wsX10_exchange := goodIn_r _ [746, 35, 581, 582, 583, 2, 584, 242, 243, 244, 723, 724, 725, 34, 726, 86, 245, 246, 247, 248, 88, 79, 249, 250, 251, 252, 253, 254, 255, 256, 80, 82, 257, 258, 259, 14, 260, 261, 262, 263, 264, 265, 17, 266, 267, 268, 193, 269, 270, 271, 26, 272, 273, 274, 275, 276, 23, 277, 278, 279, 20, 280, 281, 192, 194, 282, 727, 728, 729, 730, 1140, 1141, 1142, 1143, 1144, 1145, 1176, 1177, 1178, 1179, 1180, 1181, 1182, 1183, 1184, 1185, 1186, 1187, 1188, 1193, 1194, 1195, 1196, 1197, 1198] rfl (by decide +kernel)
set_option maxRecDepth 100000 in
theorem gL_law_X10_exchange : GoodIn wsL_law (wsV RL 49 RX10 yX10_exchange wsX10_exchange) := goodIn_app (goodIn_of _ (by decide +kernel)) ggL_law_X10_exchange
set_option maxRecDepth 100000 in
theorem ggL_law_X11_exchange : GoodIn wsL_law wsX11_exchange := goodIn_r _ [750, 564, 290, 735, 736, 737, 5, 738, 562, 402, 403, 404, 739, 740, 741, 742, 292, 563, 657, 658, 659, 660, 293, 570, 571, 572, 661, 662, 663, 664, 289, 665, 666, 667, 668, 669, 670, 671, 1146, 1147, 1148, 1149, 1150, 1151, 1152, 1153, 1154, 1155, 1156, 1157, 1158, 1159, 1160, 1161, 1162, 1163, 1164, 1165, 1166, 1167, 1168, 1169, 1170, 1171, 1172, 1173, 1174] rfl (by decide +kernel)
set_option maxRecDepth 100000 in
theorem gL_law_X11_exchange : GoodIn wsL_law (wsV RL 52 RX11 yX11_exchange wsX11_exchange) := goodIn_app (goodIn_of _ (by decide +kernel)) ggL_law_X11_exchange
set_option maxRecDepth 100000 in
theorem ggL_law_X10_change : GoodIn wsL_law wsX10_change := goodIn_r _ [754, 35, 703, 704, 705, 2, 706, 242, 243, 244, 585, 586, 587, 34, 588, 86, 79, 589, 590, 591, 14, 592, 593, 594, 595, 596, 597, 17, 598, 599, 600, 26, 601, 602, 603, 20, 604, 605, 606, 23, 607, 755, 756, 757, 758, 78, 759, 245, 246, 247, 248, 88, 249, 250, 251, 252, 253, 254, 255, 256, 80, 82, 257, 258, 259, 260, 261, 262, 263, 264, 265, 266, 267, 268, 193, 269, 270, 271, 272, 273, 274, 275, 276, 277, 278, 279, 280, 281, 192, 194, 282, 1140, 1141, 1142, 1143, 1144, 1145, 1176, 1177, 1178, 1179, 1180, 1181, 1182, 1183, 1184, 1185, 1186, 1187, 1188, 1193, 1194, 1195, 1196, 1197, 1198] rfl (by decide +kernel)
set_option maxRecDepth 100000 in
theorem gL_law_X10_change : GoodIn wsL_law (wsV RL 53 RX10 yX10_change wsX10_change) := goodIn_app (goodIn_of _ (by decide +kernel)) ggL_law_X10_change
set_option maxRecDepth 100000 in
theorem ggL_law_X11_change : GoodIn wsL_law wsX11_change := goodIn_r _ [763, 698, 289, 715, 716, 717, 5, 718, 562, 563, 402, 403, 404, 1146, 1147, 1148, 1149, 1150, 1151, 1152, 1153, 1154, 1155, 1156, 1157, 1158, 1159, 1160, 1161, 1162, 1163, 1164, 1165, 1166, 1167, 1168, 1169, 1170, 1171, 1172, 1173, 1174] rfl (by decide +kernel)
set_option maxRecDepth 100000 in
theorem gL_law_X11_change : GoodIn wsL_law (wsV RL 56 RX11 yX11_change wsX11_change) := goodIn_app (goodIn_of _ (by decide +kernel)) ggL_law_X11_change
set_option maxRecDepth 100000 in
theorem ggL_law_X10_tell : GoodIn wsL_law wsX10_tell := goodIn_r _ [767, 35, 577, 578, 579, 2, 580, 242, 243, 244, 768, 769, 770, 34, 771, 86, 759, 772, 773, 774, 775, 776, 90, 94, 79, 166, 150, 151, 152, 777, 778, 779, 93, 780, 160, 157, 159, 161, 781, 782, 783, 784, 785, 786, 787, 788, 789, 158, 790, 791, 792, 793, 794, 258, 259, 14, 260, 795, 262, 263, 264, 265, 17, 266, 267, 268, 193, 269, 270, 271, 26, 272, 273, 274, 275, 276, 23, 277, 278, 279, 20, 280, 281, 192, 194, 282, 1140, 1141, 1142, 1143, 1144, 1145, 1176, 1177, 1178, 1179, 1180, 1181, 1182, 1183, 1184, 1185, 1186, 1187, 1188, 1193, 1194, 1195, 1196, 1197, 1198, 1199, 1200, 1201, 1202, 1203] rfl (by decide +kernel)
set_option maxRecDepth 100000 in
theorem gL_law_X10_tell : GoodIn wsL_law (wsV RL 57 RX10 yX10_tell wsX10_tell) := goodIn_app (goodIn_of _ (by decide +kernel)) ggL_law_X10_tell
set_option maxRecDepth 100000 in
theorem ggL_law_X11_tell : GoodIn wsL_law wsX11_tell := goodIn_r _ [799, 800, 291, 649, 650, 651, 5, 652, 563, 402, 403, 404, 801, 802, 803, 804, 562, 805, 806, 807, 808, 809, 810, 811, 292, 812, 813, 814, 815, 293, 661, 662, 663, 664, 289, 665, 666, 667, 668, 669, 670, 671, 1146, 1147, 1148, 1149, 1150, 1151, 1152, 1153, 1154, 1155, 1156, 1157, 1158, 1159, 1160, 1161, 1162, 1163, 1164, 1165, 1166, 1167, 1168, 1169, 1170, 1171, 1172, 1173, 1174] rfl (by decide +kernel)
set_option maxRecDepth 100000 in
theorem gL_law_X11_tell : GoodIn wsL_law (wsV RL 60 RX11 yX11_tell wsX11_tell) := goodIn_app (goodIn_of _ (by decide +kernel)) ggL_law_X11_tell
set_option maxRecDepth 100000 in
theorem ggL_law_X10_hush : GoodIn wsL_law wsX10_hush := goodIn_r _ [819, 35, 577, 578, 579, 2, 580, 242, 243, 244, 768, 769, 770, 34, 771, 86, 759, 772, 773, 774, 775, 776, 90, 94, 79, 166, 150, 151, 152, 777, 778, 779, 93, 780, 160, 157, 159, 161, 781, 782, 783, 784, 785, 786, 787, 788, 789, 158, 790, 791, 792, 793, 794, 258, 259, 14, 260, 795, 262, 263, 264, 265, 17, 266, 267, 268, 193, 269, 270, 271, 26, 272, 273, 274, 275, 276, 23, 277, 278, 279, 20, 280, 281, 192, 194, 282, 1140, 1141, 1142, 1143, 1144, 1145, 1176, 1177, 1178, 1179, 1180, 1181, 1182, 1183, 1184, 1185, 1186, 1187, 1188, 1193, 1194, 1195, 1196, 1197, 1198, 1199, 1200, 1201, 1202, 1203] rfl (by decide +kernel)
set_option maxRecDepth 100000 in
theorem gL_law_X10_hush : GoodIn wsL_law (wsV RL 61 RX10 yX10_hush wsX10_hush) := goodIn_app (goodIn_of _ (by decide +kernel)) ggL_law_X10_hush
set_option maxRecDepth 100000 in
theorem ggL_law_X11_hush : GoodIn wsL_law wsX11_hush := goodIn_r _ [823, 291, 649, 650, 651, 5, 652, 563, 402, 403, 404, 801, 802, 803, 804, 562, 805, 806, 807, 808, 809, 810, 811, 292, 812, 813, 814, 815, 293, 661, 662, 663, 664, 289, 665, 666, 667, 668, 669, 670, 671, 1146, 1147, 1148, 1149, 1150, 1151, 1152, 1153, 1154, 1155, 1156, 1157, 1158, 1159, 1160, 1161, 1162, 1163, 1164, 1165, 1166, 1167, 1168, 1169, 1170, 1171, 1172, 1173, 1174] rfl (by decide +kernel)
set_option maxRecDepth 100000 in
theorem gL_law_X11_hush : GoodIn wsL_law (wsV RL 64 RX11 yX11_hush wsX11_hush) := goodIn_app (goodIn_of _ (by decide +kernel)) ggL_law_X11_hush
set_option maxRecDepth 100000 in
theorem ggL_law_X10_swing : GoodIn wsL_law wsX10_swing := goodIn_r _ [827, 35, 581, 582, 583, 2, 584, 242, 243, 244, 828, 829, 830, 34, 831, 86, 89, 79, 249, 250, 251, 252, 253, 254, 255, 256, 80, 82, 257, 258, 259, 14, 260, 261, 262, 263, 264, 265, 17, 266, 267, 268, 193, 269, 270, 271, 26, 272, 273, 274, 275, 276, 23, 277, 278, 279, 20, 280, 281, 192, 194, 282, 832, 833, 834, 835, 727, 728, 729, 730, 88, 1140, 1141, 1142, 1143, 1144, 1145, 1176, 1177, 1178, 1179, 1180, 1181, 1182, 1183, 1184, 1185, 1186, 1187, 1188, 1193, 1194, 1195, 1196, 1197, 1198] rfl (by decide +kernel)
set_option maxRecDepth 100000 in
theorem gL_law_X10_swing : GoodIn wsL_law (wsV RL 65 RX10 yX10_swing wsX10_swing) := goodIn_app (goodIn_of _ (by decide +kernel)) ggL_law_X10_swing
set_option maxRecDepth 100000 in
theorem ggL_law_X11_swing : GoodIn wsL_law wsX11_swing := goodIn_r _ [839, 735, 736, 737, 5, 738, 562, 402, 403, 404, 840, 841, 842, 843, 290, 293, 292, 563, 739, 740, 741, 742, 657, 658, 659, 660, 570, 571, 572, 661, 662, 663, 664, 289, 665, 666, 667, 668, 669, 670, 671, 1146, 1147, 1148, 1149, 1150, 1151, 1152, 1153, 1154, 1155, 1156, 1157, 1158, 1159, 1160, 1161, 1162, 1163, 1164, 1165, 1166, 1167, 1168, 1169, 1170, 1171, 1172, 1173, 1174] rfl (by decide +kernel)
set_option maxRecDepth 100000 in
theorem gL_law_X11_swing : GoodIn wsL_law (wsV RL 68 RX11 yX11_swing wsX11_swing) := goodIn_app (goodIn_of _ (by decide +kernel)) ggL_law_X11_swing
