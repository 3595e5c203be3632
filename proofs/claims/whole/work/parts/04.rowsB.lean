set_option maxRecDepth 20000 in
theorem ggX10_init_X0_init : GoodIn wsX10_init wsX0_init := goodIn_r _ [29, 30, 2, 3] (by decide +kernel) (by decide +kernel)
set_option maxRecDepth 20000 in
theorem gX10_init_X0_init_n9 : GoodIn wsX10_init (wsX0_init) := ggX10_init_X0_init
set_option maxRecDepth 20000 in
theorem ggX10_init_X1_init : GoodIn wsX10_init wsX1_init := goodIn_r _ [32, 28, 6, 29, 30, 2, 3] (by decide +kernel) (by decide +kernel)
set_option maxRecDepth 20000 in
theorem gX10_init_X1_init_n12 : GoodIn wsX10_init (wsX1_init) := ggX10_init_X1_init
set_option maxRecDepth 20000 in
theorem ggX10_init_X3_init : GoodIn wsX10_init wsX3_init := goodIn_r _ [34, 28, 6, 29, 30, 2, 3] (by decide +kernel) (by decide +kernel)
set_option maxRecDepth 20000 in
theorem gX10_init_X3_init_n15 : GoodIn wsX10_init (wsX3_init) := ggX10_init_X3_init
set_option maxRecDepth 20000 in
theorem ggX10_init_X9_init : GoodIn wsX10_init wsX9_init := goodIn_r _ [36, 28, 6, 29, 30, 2, 3] (by decide +kernel) (by decide +kernel)
set_option maxRecDepth 20000 in
theorem gX10_init_X9_init_n18 : GoodIn wsX10_init (wsX9_init) := ggX10_init_X9_init
set_option maxRecDepth 20000 in
theorem ggX10_init_X2_init : GoodIn wsX10_init wsX2_init := goodIn_r _ [38, 35, 15, 36, 28, 6, 29, 30, 2, 3] (by decide +kernel) (by decide +kernel)
set_option maxRecDepth 20000 in
theorem gX10_init_X2_init_n21 : GoodIn wsX10_init (wsX2_init) := ggX10_init_X2_init
set_option maxRecDepth 20000 in
theorem ggX10_init_X4_init : GoodIn wsX10_init wsX4_init := goodIn_r _ [40, 41, 2, 3, 42, 43, 44, 45, 46, 47, 48, 49, 50, 51, 52, 53, 54, 55, 56, 57, 58, 59, 60, 61, 62, 63, 64, 65, 148, 149, 150, 151, 132] (by decide +kernel) (by decide +kernel)
set_option maxRecDepth 20000 in
theorem gX10_init_X4_init_n30 : GoodIn wsX10_init (wsX4_init) := ggX10_init_X4_init
set_option maxRecDepth 20000 in
theorem ggX10_init_X5_init : GoodIn wsX10_init wsX5_init := goodIn_r _ [68, 69, 2, 3, 70, 71, 72, 73, 74, 75, 76, 77, 78, 79, 80, 81, 82, 83, 84, 85, 86, 87, 88, 89, 90, 91, 92, 93, 94, 95, 96, 97, 98, 99, 100, 101, 102, 103, 104, 105, 106, 107, 108, 109, 110, 111, 112, 113, 114, 115, 116, 117, 118, 119, 120, 121, 122, 123, 124, 26, 125, 133, 134, 135, 136, 137, 138, 139, 140, 141, 142, 143, 144, 145, 146, 147, 152, 153, 154, 155, 156, 157, 158, 159, 160, 161, 162, 163, 164, 165] (by decide +kernel) (by decide +kernel)
set_option maxRecDepth 20000 in
theorem gX10_init_X5_init : GoodIn wsX10_init (wsX5_init) := ggX10_init_X5_init
theorem dX10_init_0 : decode cX10_init 0 = .ok (.aload_n 0, 1) := by decide +kernel
theorem dX10_init_1 : decode cX10_init 1 = .ok (.invokespecial 1, 3) := by decide +kernel
theorem dX10_init_4 : decode cX10_init 4 = .ok (.aload_n 0, 1) := by decide +kernel
theorem dX10_init_5 : decode cX10_init 5 = .ok (.iconst 5, 1) := by decide +kernel
theorem dX10_init_6 : decode cX10_init 6 = .ok (.anewarray 7, 3) := by decide +kernel
theorem dX10_init_9 : decode cX10_init 9 = .ok (.dup, 1) := by decide +kernel
theorem dX10_init_10 : decode cX10_init 10 = .ok (.iconst 0, 1) := by decide +kernel
theorem dX10_init_11 : decode cX10_init 11 = .ok (.new 7, 3) := by decide +kernel
theorem dX10_init_14 : decode cX10_init 14 = .ok (.dup, 1) := by decide +kernel
theorem dX10_init_15 : decode cX10_init 15 = .ok (.invokespecial 9, 3) := by decide +kernel
theorem dX10_init_18 : decode cX10_init 18 = .ok (.aastore, 1) := by decide +kernel
theorem dX10_init_19 : decode cX10_init 19 = .ok (.dup, 1) := by decide +kernel
theorem dX10_init_20 : decode cX10_init 20 = .ok (.iconst 1, 1) := by decide +kernel
theorem dX10_init_21 : decode cX10_init 21 = .ok (.new 10, 3) := by decide +kernel
theorem dX10_init_24 : decode cX10_init 24 = .ok (.dup, 1) := by decide +kernel
theorem dX10_init_25 : decode cX10_init 25 = .ok (.invokespecial 12, 3) := by decide +kernel
theorem dX10_init_28 : decode cX10_init 28 = .ok (.aastore, 1) := by decide +kernel
theorem dX10_init_29 : decode cX10_init 29 = .ok (.dup, 1) := by decide +kernel
theorem dX10_init_30 : decode cX10_init 30 = .ok (.iconst 2, 1) := by decide +kernel
theorem dX10_init_31 : decode cX10_init 31 = .ok (.new 13, 3) := by decide +kernel
theorem dX10_init_34 : decode cX10_init 34 = .ok (.dup, 1) := by decide +kernel
theorem dX10_init_35 : decode cX10_init 35 = .ok (.invokespecial 15, 3) := by decide +kernel
theorem dX10_init_38 : decode cX10_init 38 = .ok (.aastore, 1) := by decide +kernel
theorem dX10_init_39 : decode cX10_init 39 = .ok (.dup, 1) := by decide +kernel
theorem dX10_init_40 : decode cX10_init 40 = .ok (.iconst 3, 1) := by decide +kernel
theorem dX10_init_41 : decode cX10_init 41 = .ok (.new 16, 3) := by decide +kernel
theorem dX10_init_44 : decode cX10_init 44 = .ok (.dup, 1) := by decide +kernel
theorem dX10_init_45 : decode cX10_init 45 = .ok (.invokespecial 18, 3) := by decide +kernel
theorem dX10_init_48 : decode cX10_init 48 = .ok (.aastore, 1) := by decide +kernel
theorem dX10_init_49 : decode cX10_init 49 = .ok (.dup, 1) := by decide +kernel
theorem dX10_init_50 : decode cX10_init 50 = .ok (.iconst 4, 1) := by decide +kernel
theorem dX10_init_51 : decode cX10_init 51 = .ok (.new 19, 3) := by decide +kernel
theorem dX10_init_54 : decode cX10_init 54 = .ok (.dup, 1) := by decide +kernel
theorem dX10_init_55 : decode cX10_init 55 = .ok (.invokespecial 21, 3) := by decide +kernel
theorem dX10_init_58 : decode cX10_init 58 = .ok (.aastore, 1) := by decide +kernel
theorem dX10_init_59 : decode cX10_init 59 = .ok (.putfield 22, 3) := by decide +kernel
theorem dX10_init_62 : decode cX10_init 62 = .ok (.aload_n 0, 1) := by decide +kernel
theorem dX10_init_63 : decode cX10_init 63 = .ok (.new 28, 3) := by decide +kernel
theorem dX10_init_66 : decode cX10_init 66 = .ok (.dup, 1) := by decide +kernel
theorem dX10_init_67 : decode cX10_init 67 = .ok (.invokespecial 30, 3) := by decide +kernel
theorem dX10_init_70 : decode cX10_init 70 = .ok (.putfield 31, 3) := by decide +kernel
theorem dX10_init_73 : decode cX10_init 73 = .ok (.aload_n 0, 1) := by decide +kernel
theorem dX10_init_74 : decode cX10_init 74 = .ok (.new 35, 3) := by decide +kernel
theorem dX10_init_77 : decode cX10_init 77 = .ok (.dup, 1) := by decide +kernel
theorem dX10_init_78 : decode cX10_init 78 = .ok (.iconst 0, 1) := by decide +kernel
theorem dX10_init_79 : decode cX10_init 79 = .ok (.aload_n 0, 1) := by decide +kernel
theorem dX10_init_80 : decode cX10_init 80 = .ok (.getfield 22, 3) := by decide +kernel
theorem dX10_init_83 : decode cX10_init 83 = .ok (.invokespecial 37, 3) := by decide +kernel
theorem dX10_init_86 : decode cX10_init 86 = .ok (.putfield 40, 3) := by decide +kernel
theorem dX10_init_89 : decode cX10_init 89 = .ok (.return_, 1) := by decide +kernel
set_option maxRecDepth 20000 in
theorem ggX10_letter_X10_isWithin : GoodIn wsX10_letter wsX10_isWithin := goodIn_r _ [5] (by decide +kernel) (by decide +kernel)
set_option maxRecDepth 20000 in
theorem gX10_letter_X10_isWithin : GoodIn wsX10_letter (va_wsS RX10 44 yX10_isWithin wsX10_isWithin) := goodIn_app (goodIn_of _ (by decide +kernel)) ggX10_letter_X10_isWithin
set_option maxRecDepth 20000 in
theorem ggX10_letter_X4_length : GoodIn wsX10_letter wsX4_length := goodIn_r _ [10, 11, 12, 13, 14, 15, 16, 17, 18, 19, 20, 21, 22, 23, 147, 148, 149, 150, 151] (by decide +kernel) (by decide +kernel)
set_option maxRecDepth 20000 in
theorem gX10_letter_X4_length : GoodIn wsX10_letter (wsV RX10 48 RX4 yX4_length wsX4_length) := goodIn_app (goodIn_of _ (by decide +kernel)) ggX10_letter_X4_length
set_option maxRecDepth 20000 in
theorem ggX10_letter_X4_add : GoodIn wsX10_letter wsX4_add := goodIn_r _ [27, 11, 28, 29, 30, 15, 31, 32, 33, 19, 34, 21, 35, 23, 36, 37, 38, 39, 40, 41, 42, 43, 44, 45, 46, 47, 48, 49, 50, 51, 52, 53, 54, 55, 56, 57, 58, 59, 60, 61, 62, 63, 64, 65, 66, 67, 68, 69, 70, 71, 72, 73, 74, 75, 76, 77, 78, 79, 80, 81, 82, 83, 84, 85, 86, 87, 88, 89, 90, 91, 92, 93, 94, 95, 96, 97, 98, 99, 100, 101, 102, 103, 104, 105, 106, 107, 108, 109, 110, 111, 112, 113, 114, 115, 116, 117, 118, 119, 120, 121, 122, 123, 124, 125, 126, 127, 128, 129, 130, 131, 132, 133, 134, 135, 136, 137, 138, 139, 140, 147, 148, 149, 150, 151] (by decide +kernel) (by decide +kernel)
set_option maxRecDepth 20000 in
theorem gX10_letter_X4_add : GoodIn wsX10_letter (wsV RX10 52 RX4 yX4_add wsX4_add) := goodIn_app (goodIn_of _ (by decide +kernel)) ggX10_letter_X4_add
theorem dX10_letter_0 : decode cX10_letter 0 = .ok (.iload_n 1, 1) := by decide +kernel
theorem dX10_letter_1 : decode cX10_letter 1 = .ok (.iconst 1, 1) := by decide +kernel
theorem dX10_letter_2 : decode cX10_letter 2 = .ok (.bipush 126, 2) := by decide +kernel
theorem dX10_letter_4 : decode cX10_letter 4 = .ok (.invokestatic 44, 3) := by decide +kernel
theorem dX10_letter_7 : decode cX10_letter 7 = .ok (.ifCond .ne 6, 3) := by decide +kernel
theorem dX10_letter_10 : decode cX10_letter 10 = .ok (.bipush (-102), 2) := by decide +kernel
theorem dX10_letter_12 : decode cX10_letter 12 = .ok (.ireturn, 1) := by decide +kernel
theorem dX10_letter_13 : decode cX10_letter 13 = .ok (.aload_n 0, 1) := by decide +kernel
theorem dX10_letter_14 : decode cX10_letter 14 = .ok (.getfield 31, 3) := by decide +kernel
theorem dX10_letter_17 : decode cX10_letter 17 = .ok (.invokevirtual 48, 3) := by decide +kernel
theorem dX10_letter_20 : decode cX10_letter 20 = .ok (.bipush 18, 2) := by decide +kernel
theorem dX10_letter_22 : decode cX10_letter 22 = .ok (.if_icmp .lt 6, 3) := by decide +kernel
theorem dX10_letter_25 : decode cX10_letter 25 = .ok (.bipush (-104), 2) := by decide +kernel
theorem dX10_letter_27 : decode cX10_letter 27 = .ok (.ireturn, 1) := by decide +kernel
theorem dX10_letter_28 : decode cX10_letter 28 = .ok (.aload_n 0, 1) := by decide +kernel
theorem dX10_letter_29 : decode cX10_letter 29 = .ok (.getfield 31, 3) := by decide +kernel
theorem dX10_letter_32 : decode cX10_letter 32 = .ok (.iload_n 1, 1) := by decide +kernel
theorem dX10_letter_33 : decode cX10_letter 33 = .ok (.i2c, 1) := by decide +kernel
theorem dX10_letter_34 : decode cX10_letter 34 = .ok (.invokevirtual 52, 3) := by decide +kernel
theorem dX10_letter_37 : decode cX10_letter 37 = .ok (.aload_n 0, 1) := by decide +kernel
theorem dX10_letter_38 : decode cX10_letter 38 = .ok (.getfield 31, 3) := by decide +kernel
theorem dX10_letter_41 : decode cX10_letter 41 = .ok (.invokevirtual 48, 3) := by decide +kernel
theorem dX10_letter_44 : decode cX10_letter 44 = .ok (.ireturn, 1) := by decide +kernel
set_option maxRecDepth 20000 in
theorem ggX10_blank_X4_length : GoodIn wsX10_blank wsX4_length := goodIn_r _ [6, 7, 8, 9, 10, 11, 12, 13, 14, 15, 16, 17, 18, 19, 103, 104, 105, 106, 107] (by decide +kernel) (by decide +kernel)
set_option maxRecDepth 20000 in
theorem gX10_blank_X4_length : GoodIn wsX10_blank (wsV RX10 48 RX4 yX4_length wsX4_length) := goodIn_app (goodIn_of _ (by decide +kernel)) ggX10_blank_X4_length
set_option maxRecDepth 20000 in
theorem ggX10_blank_X4_clear : GoodIn wsX10_blank wsX4_clear := goodIn_r _ [23, 7, 24, 25, 26, 11, 27, 28, 29, 15, 30, 17, 31, 19, 32, 33, 34, 35, 36, 37, 38, 39, 40, 41, 42, 43, 44, 45, 46, 47, 48, 49, 50, 51, 52, 53, 54, 55, 56, 57, 58, 59, 60, 61, 62, 63, 64, 65, 66, 67, 68, 69, 70, 71, 72, 73, 74, 75, 76, 77, 78, 79, 80, 81, 82, 83, 84, 85, 86, 87, 88, 89, 90, 91, 92, 93, 94, 95, 96, 103, 104, 105, 106, 107] (by decide +kernel) (by decide +kernel)
set_option maxRecDepth 20000 in
theorem gX10_blank_X4_clear : GoodIn wsX10_blank (wsV RX10 56 RX4 yX4_clear wsX4_clear) := goodIn_app (goodIn_of _ (by decide +kernel)) ggX10_blank_X4_clear
theorem dX10_blank_0 : decode cX10_blank 0 = .ok (.aload_n 0, 1) := by decide +kernel
theorem dX10_blank_1 : decode cX10_blank 1 = .ok (.getfield 31, 3) := by decide +kernel
theorem dX10_blank_4 : decode cX10_blank 4 = .ok (.invokevirtual 48, 3) := by decide +kernel
theorem dX10_blank_7 : decode cX10_blank 7 = .ok (.istore_n 1, 1) := by decide +kernel
theorem dX10_blank_8 : decode cX10_blank 8 = .ok (.aload_n 0, 1) := by decide +kernel
theorem dX10_blank_9 : decode cX10_blank 9 = .ok (.getfield 31, 3) := by decide +kernel
theorem dX10_blank_12 : decode cX10_blank 12 = .ok (.invokevirtual 56, 3) := by decide +kernel
theorem dX10_blank_15 : decode cX10_blank 15 = .ok (.iload_n 1, 1) := by decide +kernel
theorem dX10_blank_16 : decode cX10_blank 16 = .ok (.ireturn, 1) := by decide +kernel
set_option maxRecDepth 20000 in
theorem ggX10_fault_X4_firstFault : GoodIn wsX10_fault wsX4_firstFault := goodIn_r _ [6, 7, 8, 9, 10, 5, 11, 12, 13, 14, 15, 16, 17, 18, 19, 20, 21, 22, 23, 24, 25, 26, 27, 28, 29, 30, 31, 32, 33, 34, 35, 36, 37, 38, 39, 40, 41, 42, 43, 44, 45, 46, 47, 48, 49, 50, 51, 52, 53, 54, 55, 56, 57, 58, 59, 60, 61, 62, 63, 64, 65, 66, 67, 68, 69, 70, 71, 72, 73, 74, 75, 76, 77, 78, 79, 80, 81, 82, 83, 84, 85, 86, 87, 88, 89, 90, 91, 92, 93, 94, 95, 96, 97, 98, 99, 100, 101, 102, 103, 104, 105, 106, 107, 108, 109, 110, 111, 112, 113, 114, 115, 116, 117, 118, 119, 120, 121, 122, 123, 124, 125, 126, 127, 128, 129, 130, 131, 132, 133, 134, 135, 136, 137, 138, 139, 140, 141, 142, 143, 144, 145, 146, 147, 148, 149, 150, 151, 152, 153, 154, 155, 156, 157, 158, 159, 166, 167, 168, 169, 170, 171, 172, 173, 174] (by decide +kernel) (by decide +kernel)
set_option maxRecDepth 20000 in
theorem gX10_fault_X4_firstFault : GoodIn wsX10_fault (wsV RX10 59 RX4 yX4_firstFault wsX4_firstFault) := goodIn_app (goodIn_of _ (by decide +kernel)) ggX10_fault_X4_firstFault
theorem dX10_fault_0 : decode cX10_fault 0 = .ok (.aload_n 0, 1) := by decide +kernel
theorem dX10_fault_1 : decode cX10_fault 1 = .ok (.getfield 31, 3) := by decide +kernel
theorem dX10_fault_4 : decode cX10_fault 4 = .ok (.invokevirtual 59, 3) := by decide +kernel
theorem dX10_fault_7 : decode cX10_fault 7 = .ok (.ireturn, 1) := by decide +kernel
set_option maxRecDepth 20000 in
theorem ggX10_pile_X4_isPile : GoodIn wsX10_pile wsX4_isPile := goodIn_r _ [12, 13, 14, 15, 16, 17, 18, 19, 20, 21, 22, 23, 24, 25, 26, 27, 28, 11, 29, 30, 31, 32, 33, 34, 35, 36, 37, 38, 39, 40, 41, 42, 43, 44, 45, 46, 47, 48, 49, 50, 51, 52, 53, 54, 55, 56, 57, 58, 59, 60, 61, 62, 63, 64, 65, 66, 67, 68, 69, 70, 71, 72, 73, 74, 75, 76, 77, 78, 79, 80, 81, 82, 83, 84, 85, 86, 87, 88, 89, 90, 91, 92, 93, 94, 95, 96, 97, 98, 99, 100, 101, 102, 103, 104, 105, 106, 107, 108, 109, 110, 111, 112, 113, 114, 115, 116, 117, 118, 119, 120, 121, 122, 123, 124, 125, 126, 127, 128, 129, 130, 131, 132, 133, 134, 135, 136, 137, 138, 139, 140, 141, 142, 143, 144, 145, 146, 147, 148, 149, 150, 151, 152, 153, 154, 155, 156, 157, 158, 159, 160, 161, 162, 163, 164, 165, 166, 167, 168, 169, 437, 438, 439, 440, 441, 442, 443, 444, 445] (by decide +kernel) (by decide +kernel)
set_option maxRecDepth 20000 in
theorem gX10_pile_X4_isPile : GoodIn wsX10_pile (wsV RX10 62 RX4 yX4_isPile wsX4_isPile) := goodIn_app (goodIn_of _ (by decide +kernel)) ggX10_pile_X4_isPile
set_option maxRecDepth 20000 in
theorem ggX10_pile_X4_wide : GoodIn wsX10_pile wsX4_wide := goodIn_r _ [173, 26, 27, 28, 11, 29, 30, 31, 32, 33, 13, 14, 15, 16, 17, 18, 19, 20, 21, 22, 23, 24, 25, 34, 35, 36, 37, 38, 39, 40, 41, 42, 43, 44, 45, 46, 47, 48, 49, 50, 51, 52, 53, 54, 55, 56, 57, 58, 59, 60, 61, 62, 63, 64, 65, 66, 67, 68, 69, 174, 175, 176, 177, 74, 437, 438, 439, 440, 441, 442, 443, 444, 445] (by decide +kernel) (by decide +kernel)
set_option maxRecDepth 20000 in
theorem gX10_pile_X4_wide : GoodIn wsX10_pile (wsV RX10 66 RX4 yX4_wide wsX4_wide) := goodIn_app (goodIn_of _ (by decide +kernel)) ggX10_pile_X4_wide
set_option maxRecDepth 20000 in
theorem ggX10_pile_X5_init : GoodIn wsX10_pile wsX5_init := goodIn_r _ [180, 181, 182, 183, 184, 185, 186, 187, 188, 189, 190, 191, 192, 193, 194, 195, 196, 197, 198, 199, 200, 201, 202, 203, 204, 205, 206, 207, 208, 209, 210, 211, 212, 213, 214, 215, 216, 217, 218, 219, 220, 221, 222, 223, 224, 225, 226, 227, 228, 229, 230, 231, 232, 233, 234, 235, 236, 237, 238, 4, 239, 422, 423, 424, 425, 426, 427, 428, 429, 430, 431, 432, 433, 434, 435, 436, 446, 447, 448, 449, 450, 451, 452, 453, 454, 455, 456, 457, 458, 459] (by decide +kernel) (by decide +kernel)
set_option maxRecDepth 20000 in
theorem gX10_pile_X5_init : GoodIn wsX10_pile (wsX5_init) := ggX10_pile_X5_init
set_option maxRecDepth 20000 in
theorem ggX10_pile_X4_text : GoodIn wsX10_pile wsX4_text := goodIn_r _ [243, 13, 244, 245, 246, 17, 247, 248, 249, 53, 250, 251, 252, 253, 254, 255, 256, 182, 183, 80, 74, 79, 257, 258, 259, 260, 261, 23, 262, 46, 263, 20, 264, 265, 15, 18, 19, 21, 22, 24, 25, 266, 267, 268, 269, 270, 271, 45, 272, 273, 217, 274, 275, 276, 277, 278, 279, 280, 281, 282, 283, 284, 285, 48, 49, 50, 286, 287, 288, 289, 290, 291, 292, 293, 294, 62, 295, 296, 297, 298, 299, 300, 301, 67, 68, 69, 302, 303, 304, 55, 305, 306, 58, 307, 105, 61, 63, 64, 65, 66, 308, 309, 310, 311, 312, 313, 314, 315, 437, 442, 443, 444, 445, 438, 439, 440, 441] (by decide +kernel) (by decide +kernel)
set_option maxRecDepth 20000 in
theorem gX10_pile_X4_text : GoodIn wsX10_pile (wsV RX10 69 RX4 yX4_text wsX4_text) := goodIn_app (goodIn_of _ (by decide +kernel)) ggX10_pile_X4_text
set_option maxRecDepth 20000 in
theorem ggX10_pile_X5_read : GoodIn wsX10_pile wsX5_read := goodIn_r _ [319, 184, 192, 185, 320, 71, 72, 53, 73, 74, 75, 76, 77, 78, 79, 80, 321, 86, 87, 88, 89, 90, 91, 92, 93, 94, 95, 96, 97, 52, 54, 55, 56, 57, 58, 59, 98, 99, 62, 100, 101, 102, 103, 67, 68, 69, 104, 105, 61, 63, 64, 65, 66, 322, 110, 111, 112, 113, 114, 115, 116, 117, 118, 119, 120, 121, 122, 49, 123, 124, 48, 50, 125, 126, 127, 128, 129, 130, 131, 132, 133, 134, 135, 136, 137, 138, 139, 140, 141, 142, 143, 144, 145, 146, 147, 148, 149, 150, 151, 152, 153, 154, 155, 156, 157, 158, 159, 160, 161, 162, 163, 164, 165, 166, 167, 35, 168, 169, 34, 36, 323, 324, 325, 4, 326, 194, 327, 328, 329, 330, 287, 288, 289, 331, 332, 333, 334, 186, 188, 335, 336, 337, 338, 339, 340, 341, 342, 343, 344, 345, 346, 347, 348, 349, 350, 351, 352, 353, 354, 355, 356, 357, 358, 359, 360, 361, 362, 363, 364, 365, 422, 423, 424, 425, 426, 427, 428, 429, 430, 431, 432, 433, 434, 435, 436, 446, 447, 448, 449, 450, 451, 442, 443, 444, 445] (by decide +kernel) (by decide +kernel)
set_option maxRecDepth 20000 in
theorem gX10_pile_X5_read : GoodIn wsX10_pile (wsV RX10 73 RX5 yX5_read wsX5_read) := goodIn_app (goodIn_of _ (by decide +kernel)) ggX10_pile_X5_read
set_option maxRecDepth 20000 in
theorem ggX10_pile_X4_clear : GoodIn wsX10_pile wsX4_clear := goodIn_r _ [369, 13, 370, 371, 372, 17, 373, 374, 375, 21, 376, 23, 377, 25, 46, 378, 379, 380, 381, 382, 383, 45, 384, 385, 386, 387, 388, 389, 390, 391, 392, 393, 394, 122, 49, 123, 395, 396, 397, 398, 399, 400, 217, 401, 275, 276, 277, 278, 279, 280, 284, 285, 48, 50, 286, 287, 288, 289, 402, 267, 268, 269, 270, 271, 403, 404, 95, 405, 406, 407, 408, 409, 410, 411, 412, 413, 62, 414, 415, 437, 438, 439, 440, 441] (by decide +kernel) (by decide +kernel)
set_option maxRecDepth 20000 in
theorem gX10_pile_X4_clear : GoodIn wsX10_pile (wsV RX10 56 RX4 yX4_clear wsX4_clear) := goodIn_app (goodIn_of _ (by decide +kernel)) ggX10_pile_X4_clear
theorem dX10_pile_0 : decode cX10_pile 0 = .ok (.aload_n 0, 1) := by decide +kernel
theorem dX10_pile_1 : decode cX10_pile 1 = .ok (.getfield 31, 3) := by decide +kernel
theorem dX10_pile_4 : decode cX10_pile 4 = .ok (.invokevirtual 62, 3) := by decide +kernel
theorem dX10_pile_7 : decode cX10_pile 7 = .ok (.ifCond .ne 6, 3) := by decide +kernel
theorem dX10_pile_10 : decode cX10_pile 10 = .ok (.bipush (-103), 2) := by decide +kernel
theorem dX10_pile_12 : decode cX10_pile 12 = .ok (.ireturn, 1) := by decide +kernel
theorem dX10_pile_13 : decode cX10_pile 13 = .ok (.aload_n 0, 1) := by decide +kernel
theorem dX10_pile_14 : decode cX10_pile 14 = .ok (.new 35, 3) := by decide +kernel
theorem dX10_pile_17 : decode cX10_pile 17 = .ok (.dup, 1) := by decide +kernel
theorem dX10_pile_18 : decode cX10_pile 18 = .ok (.aload_n 0, 1) := by decide +kernel
theorem dX10_pile_19 : decode cX10_pile 19 = .ok (.getfield 31, 3) := by decide +kernel
theorem dX10_pile_22 : decode cX10_pile 22 = .ok (.invokevirtual 66, 3) := by decide +kernel
theorem dX10_pile_25 : decode cX10_pile 25 = .ok (.aload_n 0, 1) := by decide +kernel
theorem dX10_pile_26 : decode cX10_pile 26 = .ok (.getfield 22, 3) := by decide +kernel
theorem dX10_pile_29 : decode cX10_pile 29 = .ok (.invokespecial 37, 3) := by decide +kernel
theorem dX10_pile_32 : decode cX10_pile 32 = .ok (.putfield 40, 3) := by decide +kernel
theorem dX10_pile_35 : decode cX10_pile 35 = .ok (.aload_n 0, 1) := by decide +kernel
theorem dX10_pile_36 : decode cX10_pile 36 = .ok (.getfield 40, 3) := by decide +kernel
theorem dX10_pile_39 : decode cX10_pile 39 = .ok (.aload_n 0, 1) := by decide +kernel
theorem dX10_pile_40 : decode cX10_pile 40 = .ok (.getfield 31, 3) := by decide +kernel
theorem dX10_pile_43 : decode cX10_pile 43 = .ok (.invokevirtual 69, 3) := by decide +kernel
theorem dX10_pile_46 : decode cX10_pile 46 = .ok (.invokevirtual 73, 3) := by decide +kernel
theorem dX10_pile_49 : decode cX10_pile 49 = .ok (.aload_n 0, 1) := by decide +kernel
theorem dX10_pile_50 : decode cX10_pile 50 = .ok (.getfield 31, 3) := by decide +kernel
theorem dX10_pile_53 : decode cX10_pile 53 = .ok (.invokevirtual 56, 3) := by decide +kernel
theorem dX10_pile_56 : decode cX10_pile 56 = .ok (.aload_n 0, 1) := by decide +kernel
theorem dX10_pile_57 : decode cX10_pile 57 = .ok (.dup, 1) := by decide +kernel
theorem dX10_pile_58 : decode cX10_pile 58 = .ok (.getfield 77, 3) := by decide +kernel
theorem dX10_pile_61 : decode cX10_pile 61 = .ok (.iconst 1, 1) := by decide +kernel
theorem dX10_pile_62 : decode cX10_pile 62 = .ok (.iadd, 1) := by decide +kernel
theorem dX10_pile_63 : decode cX10_pile 63 = .ok (.putfield 77, 3) := by decide +kernel
theorem dX10_pile_66 : decode cX10_pile 66 = .ok (.aload_n 0, 1) := by decide +kernel
theorem dX10_pile_67 : decode cX10_pile 67 = .ok (.getfield 40, 3) := by decide +kernel
theorem dX10_pile_70 : decode cX10_pile 70 = .ok (.getfield 81, 3) := by decide +kernel
theorem dX10_pile_73 : decode cX10_pile 73 = .ok (.ireturn, 1) := by decide +kernel
set_option maxRecDepth 20000 in
theorem ggX10_brick_X10_isBrick : GoodIn wsX10_brick wsX10_isBrick := goodIn_r _ [6, 1, 7, 8, 5, 9, 92, 93, 94, 95, 96, 97, 98, 99, 100, 101, 102, 103, 104, 105, 106, 107, 108, 109, 110, 111, 112] (by decide +kernel) (by decide +kernel)
set_option maxRecDepth 20000 in
theorem gX10_brick_X10_isBrick : GoodIn wsX10_brick (wsV RX10 84 RX10 yX10_isBrick wsX10_isBrick) := goodIn_app (goodIn_of _ (by decide +kernel)) ggX10_brick_X10_isBrick
set_option maxRecDepth 20000 in
theorem ggX10_brick_X10_isFigure : GoodIn wsX10_brick wsX10_isFigure := goodIn_r _ [13, 1, 7, 8, 5, 9, 92, 93, 94, 95, 96, 97, 98, 99, 100, 101, 102, 103, 104, 105, 106, 107, 108, 109, 110, 111, 112] (by decide +kernel) (by decide +kernel)
set_option maxRecDepth 20000 in
theorem gX10_brick_X10_isFigure : GoodIn wsX10_brick (wsV RX10 88 RX10 yX10_isFigure wsX10_isFigure) := goodIn_app (goodIn_of _ (by decide +kernel)) ggX10_brick_X10_isFigure
set_option maxRecDepth 20000 in
theorem ggX10_brick_X5_kindOf : GoodIn wsX10_brick wsX5_kindOf := goodIn_r _ [18, 19, 20, 98, 99, 100, 101, 102, 103, 104, 105, 106, 107, 108, 109, 110, 111, 112, 113, 114, 115, 116, 117, 118] (by decide +kernel) (by decide +kernel)
set_option maxRecDepth 20000 in
theorem gX10_brick_X5_kindOf : GoodIn wsX10_brick (wsV RX10 91 RX5 yX5_kindOf wsX5_kindOf) := goodIn_app (goodIn_of _ (by decide +kernel)) ggX10_brick_X5_kindOf
set_option maxRecDepth 20000 in
theorem ggX10_brick_X5_sorts : GoodIn wsX10_brick wsX5_sorts := goodIn_r _ [24, 25, 26, 27, 28, 17, 29, 19, 30, 31, 32, 33, 34, 35, 36, 37, 38, 39, 40, 41, 42, 43, 44, 45, 46, 47, 48, 49, 50, 51, 52, 53, 54, 55, 56, 57, 58, 59, 60, 61, 62, 63, 64, 65, 66, 67, 68, 69, 70, 71, 72, 73, 74, 75, 76, 98, 99, 100, 101, 102, 103, 104, 105, 106, 107, 108, 109, 110, 111, 112, 113, 114, 115, 116, 117, 118, 119, 120, 121, 122] (by decide +kernel) (by decide +kernel)
set_option maxRecDepth 20000 in
theorem gX10_brick_X5_sorts : GoodIn wsX10_brick (wsV RX10 111 RX5 yX5_sorts wsX5_sorts) := goodIn_app (goodIn_of _ (by decide +kernel)) ggX10_brick_X5_sorts
set_option maxRecDepth 20000 in
theorem ggX10_brick_X5_nextTry : GoodIn wsX10_brick wsX5_nextTry := goodIn_r _ [80, 81, 82, 83, 17, 84, 25, 85, 74, 57, 75, 86, 44, 45, 46, 47, 87, 49, 50, 51, 52, 53, 54, 55, 56, 58, 59, 60, 61, 62, 63, 64, 65, 66, 67, 68, 69, 70, 71, 72, 73, 76, 88, 89, 90, 91, 98, 99, 100, 101, 102, 103, 104, 105, 106, 107, 108, 109, 110, 111, 112] (by decide +kernel) (by decide +kernel)
set_option maxRecDepth 20000 in
theorem gX10_brick_X5_nextTry : GoodIn wsX10_brick (wsV RX10 114 RX5 yX5_nextTry wsX5_nextTry) := goodIn_app (goodIn_of _ (by decide +kernel)) ggX10_brick_X5_nextTry
theorem dX10_brick_0 : decode cX10_brick 0 = .ok (.aload_n 0, 1) := by decide +kernel
theorem dX10_brick_1 : decode cX10_brick 1 = .ok (.iload_n 1, 1) := by decide +kernel
theorem dX10_brick_2 : decode cX10_brick 2 = .ok (.invokevirtual 84, 3) := by decide +kernel
theorem dX10_brick_5 : decode cX10_brick 5 = .ok (.ifCond .ne 6, 3) := by decide +kernel
theorem dX10_brick_8 : decode cX10_brick 8 = .ok (.bipush (-101), 2) := by decide +kernel
theorem dX10_brick_10 : decode cX10_brick 10 = .ok (.ireturn, 1) := by decide +kernel
theorem dX10_brick_11 : decode cX10_brick 11 = .ok (.iload_n 2, 1) := by decide +kernel
theorem dX10_brick_12 : decode cX10_brick 12 = .ok (.tableswitch 171 0 6 #[44, 65, 75, 85, 109, 122, 143], 44) := by decide +kernel
theorem dX10_brick_56 : decode cX10_brick 56 = .ok (.aload_n 0, 1) := by decide +kernel
theorem dX10_brick_57 : decode cX10_brick 57 = .ok (.iload_n 1, 1) := by decide +kernel
theorem dX10_brick_58 : decode cX10_brick 58 = .ok (.invokevirtual 88, 3) := by decide +kernel
theorem dX10_brick_61 : decode cX10_brick 61 = .ok (.ifCond .eq 7, 3) := by decide +kernel
theorem dX10_brick_64 : decode cX10_brick 64 = .ok (.iconst (-1), 1) := by decide +kernel
theorem dX10_brick_65 : decode cX10_brick 65 = .ok (.goto 11, 3) := by decide +kernel
theorem dX10_brick_68 : decode cX10_brick 68 = .ok (.aload_n 0, 1) := by decide +kernel
theorem dX10_brick_69 : decode cX10_brick 69 = .ok (.getfield 40, 3) := by decide +kernel
theorem dX10_brick_72 : decode cX10_brick 72 = .ok (.iload_n 1, 1) := by decide +kernel
theorem dX10_brick_73 : decode cX10_brick 73 = .ok (.invokevirtual 91, 3) := by decide +kernel
theorem dX10_brick_76 : decode cX10_brick 76 = .ok (.ireturn, 1) := by decide +kernel
theorem dX10_brick_77 : decode cX10_brick 77 = .ok (.aload_n 0, 1) := by decide +kernel
theorem dX10_brick_78 : decode cX10_brick 78 = .ok (.getfield 40, 3) := by decide +kernel
theorem dX10_brick_81 : decode cX10_brick 81 = .ok (.getfield 95, 3) := by decide +kernel
theorem dX10_brick_84 : decode cX10_brick 84 = .ok (.iload_n 1, 1) := by decide +kernel
theorem dX10_brick_85 : decode cX10_brick 85 = .ok (.iaload, 1) := by decide +kernel
theorem dX10_brick_86 : decode cX10_brick 86 = .ok (.ireturn, 1) := by decide +kernel
theorem dX10_brick_87 : decode cX10_brick 87 = .ok (.aload_n 0, 1) := by decide +kernel
theorem dX10_brick_88 : decode cX10_brick 88 = .ok (.getfield 40, 3) := by decide +kernel
theorem dX10_brick_91 : decode cX10_brick 91 = .ok (.getfield 99, 3) := by decide +kernel
theorem dX10_brick_94 : decode cX10_brick 94 = .ok (.iload_n 1, 1) := by decide +kernel
theorem dX10_brick_95 : decode cX10_brick 95 = .ok (.iaload, 1) := by decide +kernel
theorem dX10_brick_96 : decode cX10_brick 96 = .ok (.ireturn, 1) := by decide +kernel
theorem dX10_brick_97 : decode cX10_brick 97 = .ok (.aload_n 0, 1) := by decide +kernel
theorem dX10_brick_98 : decode cX10_brick 98 = .ok (.iload_n 1, 1) := by decide +kernel
theorem dX10_brick_99 : decode cX10_brick 99 = .ok (.invokevirtual 88, 3) := by decide +kernel
theorem dX10_brick_102 : decode cX10_brick 102 = .ok (.ifCond .eq 7, 3) := by decide +kernel
theorem dX10_brick_105 : decode cX10_brick 105 = .ok (.iconst (-1), 1) := by decide +kernel
theorem dX10_brick_106 : decode cX10_brick 106 = .ok (.goto 14, 3) := by decide +kernel
theorem dX10_brick_109 : decode cX10_brick 109 = .ok (.aload_n 0, 1) := by decide +kernel
theorem dX10_brick_110 : decode cX10_brick 110 = .ok (.getfield 40, 3) := by decide +kernel
theorem dX10_brick_113 : decode cX10_brick 113 = .ok (.getfield 99, 3) := by decide +kernel
theorem dX10_brick_116 : decode cX10_brick 116 = .ok (.iload_n 1, 1) := by decide +kernel
theorem dX10_brick_117 : decode cX10_brick 117 = .ok (.iaload, 1) := by decide +kernel
theorem dX10_brick_118 : decode cX10_brick 118 = .ok (.iconst 1, 1) := by decide +kernel
theorem dX10_brick_119 : decode cX10_brick 119 = .ok (.iadd, 1) := by decide +kernel
theorem dX10_brick_120 : decode cX10_brick 120 = .ok (.ireturn, 1) := by decide +kernel
theorem dX10_brick_121 : decode cX10_brick 121 = .ok (.aload_n 0, 1) := by decide +kernel
theorem dX10_brick_122 : decode cX10_brick 122 = .ok (.getfield 40, 3) := by decide +kernel
theorem dX10_brick_125 : decode cX10_brick 125 = .ok (.getfield 102, 3) := by decide +kernel
theorem dX10_brick_128 : decode cX10_brick 128 = .ok (.getfield 106, 3) := by decide +kernel
theorem dX10_brick_131 : decode cX10_brick 131 = .ok (.iload_n 1, 1) := by decide +kernel
theorem dX10_brick_132 : decode cX10_brick 132 = .ok (.iaload, 1) := by decide +kernel
theorem dX10_brick_133 : decode cX10_brick 133 = .ok (.ireturn, 1) := by decide +kernel
theorem dX10_brick_134 : decode cX10_brick 134 = .ok (.aload_n 0, 1) := by decide +kernel
theorem dX10_brick_135 : decode cX10_brick 135 = .ok (.iload_n 1, 1) := by decide +kernel
theorem dX10_brick_136 : decode cX10_brick 136 = .ok (.invokevirtual 88, 3) := by decide +kernel
theorem dX10_brick_139 : decode cX10_brick 139 = .ok (.ifCond .eq 7, 3) := by decide +kernel
theorem dX10_brick_142 : decode cX10_brick 142 = .ok (.iconst 0, 1) := by decide +kernel
theorem dX10_brick_143 : decode cX10_brick 143 = .ok (.goto 11, 3) := by decide +kernel
theorem dX10_brick_146 : decode cX10_brick 146 = .ok (.aload_n 0, 1) := by decide +kernel
theorem dX10_brick_147 : decode cX10_brick 147 = .ok (.getfield 40, 3) := by decide +kernel
theorem dX10_brick_150 : decode cX10_brick 150 = .ok (.iload_n 1, 1) := by decide +kernel
theorem dX10_brick_151 : decode cX10_brick 151 = .ok (.invokevirtual 111, 3) := by decide +kernel
theorem dX10_brick_154 : decode cX10_brick 154 = .ok (.ireturn, 1) := by decide +kernel
theorem dX10_brick_155 : decode cX10_brick 155 = .ok (.aload_n 0, 1) := by decide +kernel
theorem dX10_brick_156 : decode cX10_brick 156 = .ok (.iload_n 1, 1) := by decide +kernel
theorem dX10_brick_157 : decode cX10_brick 157 = .ok (.invokevirtual 88, 3) := by decide +kernel
theorem dX10_brick_160 : decode cX10_brick 160 = .ok (.ifCond .eq 7, 3) := by decide +kernel
theorem dX10_brick_163 : decode cX10_brick 163 = .ok (.iconst (-1), 1) := by decide +kernel
theorem dX10_brick_164 : decode cX10_brick 164 = .ok (.goto 18, 3) := by decide +kernel
theorem dX10_brick_167 : decode cX10_brick 167 = .ok (.aload_n 0, 1) := by decide +kernel
theorem dX10_brick_168 : decode cX10_brick 168 = .ok (.getfield 40, 3) := by decide +kernel
theorem dX10_brick_171 : decode cX10_brick 171 = .ok (.aload_n 0, 1) := by decide +kernel
theorem dX10_brick_172 : decode cX10_brick 172 = .ok (.getfield 40, 3) := by decide +kernel
theorem dX10_brick_175 : decode cX10_brick 175 = .ok (.iload_n 1, 1) := by decide +kernel
theorem dX10_brick_176 : decode cX10_brick 176 = .ok (.invokevirtual 111, 3) := by decide +kernel
theorem dX10_brick_179 : decode cX10_brick 179 = .ok (.invokevirtual 114, 3) := by decide +kernel
theorem dX10_brick_182 : decode cX10_brick 182 = .ok (.ireturn, 1) := by decide +kernel
theorem dX10_brick_183 : decode cX10_brick 183 = .ok (.bipush (-102), 2) := by decide +kernel
theorem dX10_brick_185 : decode cX10_brick 185 = .ok (.ireturn, 1) := by decide +kernel
set_option maxRecDepth 20000 in
theorem ggX10_as_X10_isBrick : GoodIn wsX10_as wsX10_isBrick := goodIn_r _ [7, 2, 8, 9, 6, 10, 29, 30, 31, 32, 33, 34, 35, 36, 37, 38, 39, 40, 41, 42, 43, 44, 45, 46, 47, 48, 49] (by decide +kernel) (by decide +kernel)
set_option maxRecDepth 20000 in
theorem gX10_as_X10_isBrick : GoodIn wsX10_as (wsV RX10 84 RX10 yX10_isBrick wsX10_isBrick) := goodIn_app (goodIn_of _ (by decide +kernel)) ggX10_as_X10_isBrick
set_option maxRecDepth 20000 in
theorem ggX10_as_X10_isWithin : GoodIn wsX10_as wsX10_isWithin := goodIn_r _ [10] (by decide +kernel) (by decide +kernel)
set_option maxRecDepth 20000 in
theorem gX10_as_X10_isWithin : GoodIn wsX10_as (va_wsS RX10 44 yX10_isWithin wsX10_isWithin) := goodIn_app (goodIn_of _ (by decide +kernel)) ggX10_as_X10_isWithin
set_option maxRecDepth 20000 in
theorem ggX10_as_X10_isFigure : GoodIn wsX10_as wsX10_isFigure := goodIn_r _ [14, 2, 8, 9, 6, 10, 29, 30, 31, 32, 33, 34, 35, 36, 37, 38, 39, 40, 41, 42, 43, 44, 45, 46, 47, 48, 49] (by decide +kernel) (by decide +kernel)
set_option maxRecDepth 20000 in
theorem gX10_as_X10_isFigure : GoodIn wsX10_as (wsV RX10 88 RX10 yX10_isFigure wsX10_isFigure) := goodIn_app (goodIn_of _ (by decide +kernel)) ggX10_as_X10_isFigure
set_option maxRecDepth 20000 in
theorem ggX10_as_X5_kindOf : GoodIn wsX10_as wsX5_kindOf := goodIn_r _ [19, 20, 21, 35, 36, 37, 38, 39, 40, 41, 42, 43, 44, 45, 46, 47, 48, 49, 50, 51, 52, 53, 54, 55] (by decide +kernel) (by decide +kernel)
set_option maxRecDepth 20000 in
theorem gX10_as_X5_kindOf : GoodIn wsX10_as (wsV RX10 91 RX5 yX5_kindOf wsX5_kindOf) := goodIn_app (goodIn_of _ (by decide +kernel)) ggX10_as_X5_kindOf
set_option maxRecDepth 20000 in
theorem ggX10_as_X10_isOfKind : GoodIn wsX10_as wsX10_isOfKind := goodIn_r _ [24, 25, 26, 27, 28] (by decide +kernel) (by decide +kernel)
set_option maxRecDepth 20000 in
theorem gX10_as_X10_isOfKind : GoodIn wsX10_as (va_wsS RX10 117 yX10_isOfKind wsX10_isOfKind) := goodIn_app (goodIn_of _ (by decide +kernel)) ggX10_as_X10_isOfKind
theorem dX10_as_0 : decode cX10_as 0 = .ok (.aload_n 0, 1) := by decide +kernel
theorem dX10_as_1 : decode cX10_as 1 = .ok (.iload_n 1, 1) := by decide +kernel
theorem dX10_as_2 : decode cX10_as 2 = .ok (.invokevirtual 84, 3) := by decide +kernel
theorem dX10_as_5 : decode cX10_as 5 = .ok (.ifCond .ne 6, 3) := by decide +kernel
theorem dX10_as_8 : decode cX10_as 8 = .ok (.bipush (-101), 2) := by decide +kernel
theorem dX10_as_10 : decode cX10_as 10 = .ok (.ireturn, 1) := by decide +kernel
theorem dX10_as_11 : decode cX10_as 11 = .ok (.iload_n 2, 1) := by decide +kernel
theorem dX10_as_12 : decode cX10_as 12 = .ok (.iconst 0, 1) := by decide +kernel
theorem dX10_as_13 : decode cX10_as 13 = .ok (.iconst 4, 1) := by decide +kernel
theorem dX10_as_14 : decode cX10_as 14 = .ok (.invokestatic 44, 3) := by decide +kernel
theorem dX10_as_17 : decode cX10_as 17 = .ok (.ifCond .ne 6, 3) := by decide +kernel
theorem dX10_as_20 : decode cX10_as 20 = .ok (.bipush (-102), 2) := by decide +kernel
theorem dX10_as_22 : decode cX10_as 22 = .ok (.ireturn, 1) := by decide +kernel
theorem dX10_as_23 : decode cX10_as 23 = .ok (.aload_n 0, 1) := by decide +kernel
theorem dX10_as_24 : decode cX10_as 24 = .ok (.iload_n 1, 1) := by decide +kernel
theorem dX10_as_25 : decode cX10_as 25 = .ok (.invokevirtual 88, 3) := by decide +kernel
theorem dX10_as_28 : decode cX10_as 28 = .ok (.ifCond .ne 23, 3) := by decide +kernel
theorem dX10_as_31 : decode cX10_as 31 = .ok (.aload_n 0, 1) := by decide +kernel
theorem dX10_as_32 : decode cX10_as 32 = .ok (.getfield 22, 3) := by decide +kernel
theorem dX10_as_35 : decode cX10_as 35 = .ok (.aload_n 0, 1) := by decide +kernel
theorem dX10_as_36 : decode cX10_as 36 = .ok (.getfield 40, 3) := by decide +kernel
theorem dX10_as_39 : decode cX10_as 39 = .ok (.iload_n 1, 1) := by decide +kernel
theorem dX10_as_40 : decode cX10_as 40 = .ok (.invokevirtual 91, 3) := by decide +kernel
theorem dX10_as_43 : decode cX10_as 43 = .ok (.aaload, 1) := by decide +kernel
theorem dX10_as_44 : decode cX10_as 44 = .ok (.iload_n 2, 1) := by decide +kernel
theorem dX10_as_45 : decode cX10_as 45 = .ok (.invokestatic 117, 3) := by decide +kernel
theorem dX10_as_48 : decode cX10_as 48 = .ok (.ifCond .ne 5, 3) := by decide +kernel
theorem dX10_as_51 : decode cX10_as 51 = .ok (.iconst (-1), 1) := by decide +kernel
theorem dX10_as_52 : decode cX10_as 52 = .ok (.ireturn, 1) := by decide +kernel
theorem dX10_as_53 : decode cX10_as 53 = .ok (.iload_n 1, 1) := by decide +kernel
theorem dX10_as_54 : decode cX10_as 54 = .ok (.ireturn, 1) := by decide +kernel
set_option maxRecDepth 20000 in
theorem ggX10_makes_X10_isAbove : GoodIn wsX10_makes wsX10_isAbove := goodIn_r _ [7, 2, 8, 9, 6, 10, 55, 56, 57, 58, 59, 60, 61, 62, 63, 64, 65, 66, 67, 68, 69, 70, 71, 72, 73, 74, 75] (by decide +kernel) (by decide +kernel)
set_option maxRecDepth 20000 in
theorem gX10_makes_X10_isAbove : GoodIn wsX10_makes (wsV RX10 121 RX10 yX10_isAbove wsX10_isAbove) := goodIn_app (goodIn_of _ (by decide +kernel)) ggX10_makes_X10_isAbove
set_option maxRecDepth 20000 in
theorem ggX10_makes_X10_isDigit : GoodIn wsX10_makes wsX10_isDigit := goodIn_r _ [13, 8, 9, 6, 10] (by decide +kernel) (by decide +kernel)
set_option maxRecDepth 20000 in
theorem gX10_makes_X10_isDigit : GoodIn wsX10_makes (va_wsS RX10 124 yX10_isDigit wsX10_isDigit) := goodIn_app (goodIn_of _ (by decide +kernel)) ggX10_makes_X10_isDigit
set_option maxRecDepth 20000 in
theorem ggX10_makes_X5_kindOf : GoodIn wsX10_makes wsX5_kindOf := goodIn_r _ [18, 19, 20, 61, 62, 63, 64, 65, 66, 67, 68, 69, 70, 71, 72, 73, 74, 75, 76, 77, 78, 79, 80, 81] (by decide +kernel) (by decide +kernel)
set_option maxRecDepth 20000 in
theorem gX10_makes_X5_kindOf : GoodIn wsX10_makes (wsV RX10 91 RX5 yX5_kindOf wsX5_kindOf) := goodIn_app (goodIn_of _ (by decide +kernel)) ggX10_makes_X5_kindOf
set_option maxRecDepth 20000 in
theorem ggX10_makes_X0_made : GoodIn wsX10_makes wsX0_made := goodIn_r _ [25] (by decide +kernel) (by decide +kernel)
set_option maxRecDepth 20000 in
theorem gX10_makes_X0_made : GoodIn wsX10_makes (wsV RX10 127 RX0 yX0_made wsX0_made) := goodIn_app (goodIn_of _ (by decide +kernel)) ggX10_makes_X0_made
set_option maxRecDepth 20000 in
theorem ggX10_makes_X1_made : GoodIn wsX10_makes wsX1_made := goodIn_r _ [32, 33, 34, 35, 36] (by decide +kernel) (by decide +kernel)
set_option maxRecDepth 20000 in
theorem gX10_makes_X1_made_u127X1 : GoodIn wsX10_makes (va_wsO RX10 127 RX1 "NumberPile$Brick" ⟨"NumberPile$Brick", "made", "(II)I"⟩ yX1_made wsX1_made) := goodIn_app (goodIn_of _ (by decide +kernel)) ggX10_makes_X1_made
set_option maxRecDepth 20000 in
theorem ggX10_makes_X2_made : GoodIn wsX10_makes wsX2_made := goodIn_r _ [40, 41, 42, 43, 44, 45, 46] (by decide +kernel) (by decide +kernel)
set_option maxRecDepth 20000 in
theorem gX10_makes_X2_made_u127X2 : GoodIn wsX10_makes (va_wsO RX10 127 RX2 "NumberPile$Brick" ⟨"NumberPile$Brick", "made", "(II)I"⟩ yX2_made wsX2_made) := goodIn_app (goodIn_of _ (by decide +kernel)) ggX10_makes_X2_made
set_option maxRecDepth 20000 in
theorem ggX10_makes_X3_made : GoodIn wsX10_makes wsX3_made := goodIn_r _ [50, 51, 52, 35, 53] (by decide +kernel) (by decide +kernel)
set_option maxRecDepth 20000 in
theorem gX10_makes_X3_made_u127X3 : GoodIn wsX10_makes (va_wsO RX10 127 RX3 "NumberPile$Brick" ⟨"NumberPile$Brick", "made", "(II)I"⟩ yX3_made wsX3_made) := goodIn_app (goodIn_of _ (by decide +kernel)) ggX10_makes_X3_made
set_option maxRecDepth 20000 in
theorem ggX10_makes_X9_made : GoodIn wsX10_makes wsX9_made := goodIn_r _ [46] (by decide +kernel) (by decide +kernel)
set_option maxRecDepth 20000 in
theorem gX10_makes_X9_made_u127X9 : GoodIn wsX10_makes (va_wsO RX10 127 RX9 "NumberPile$Brick" ⟨"NumberPile$Brick", "made", "(II)I"⟩ yX9_made wsX9_made) := goodIn_app (goodIn_of _ (by decide +kernel)) ggX10_makes_X9_made
theorem dX10_makes_0 : decode cX10_makes 0 = .ok (.aload_n 0, 1) := by decide +kernel
theorem dX10_makes_1 : decode cX10_makes 1 = .ok (.iload_n 1, 1) := by decide +kernel
theorem dX10_makes_2 : decode cX10_makes 2 = .ok (.invokevirtual 121, 3) := by decide +kernel
theorem dX10_makes_5 : decode cX10_makes 5 = .ok (.ifCond .ne 6, 3) := by decide +kernel
theorem dX10_makes_8 : decode cX10_makes 8 = .ok (.bipush (-101), 2) := by decide +kernel
theorem dX10_makes_10 : decode cX10_makes 10 = .ok (.ireturn, 1) := by decide +kernel
theorem dX10_makes_11 : decode cX10_makes 11 = .ok (.iload_n 2, 1) := by decide +kernel
theorem dX10_makes_12 : decode cX10_makes 12 = .ok (.invokestatic 124, 3) := by decide +kernel
theorem dX10_makes_15 : decode cX10_makes 15 = .ok (.ifCond .eq 10, 3) := by decide +kernel
theorem dX10_makes_18 : decode cX10_makes 18 = .ok (.iload_n 3, 1) := by decide +kernel
theorem dX10_makes_19 : decode cX10_makes 19 = .ok (.invokestatic 124, 3) := by decide +kernel
theorem dX10_makes_22 : decode cX10_makes 22 = .ok (.ifCond .ne 6, 3) := by decide +kernel
theorem dX10_makes_25 : decode cX10_makes 25 = .ok (.bipush (-102), 2) := by decide +kernel
theorem dX10_makes_27 : decode cX10_makes 27 = .ok (.ireturn, 1) := by decide +kernel
theorem dX10_makes_28 : decode cX10_makes 28 = .ok (.aload_n 0, 1) := by decide +kernel
theorem dX10_makes_29 : decode cX10_makes 29 = .ok (.getfield 22, 3) := by decide +kernel
theorem dX10_makes_32 : decode cX10_makes 32 = .ok (.aload_n 0, 1) := by decide +kernel
theorem dX10_makes_33 : decode cX10_makes 33 = .ok (.getfield 40, 3) := by decide +kernel
theorem dX10_makes_36 : decode cX10_makes 36 = .ok (.iload_n 1, 1) := by decide +kernel
theorem dX10_makes_37 : decode cX10_makes 37 = .ok (.invokevirtual 91, 3) := by decide +kernel
theorem dX10_makes_40 : decode cX10_makes 40 = .ok (.aaload, 1) := by decide +kernel
theorem dX10_makes_41 : decode cX10_makes 41 = .ok (.iload_n 2, 1) := by decide +kernel
theorem dX10_makes_42 : decode cX10_makes 42 = .ok (.iload_n 3, 1) := by decide +kernel
theorem dX10_makes_43 : decode cX10_makes 43 = .ok (.invokevirtual 127, 3) := by decide +kernel
theorem dX10_makes_46 : decode cX10_makes 46 = .ok (.ireturn, 1) := by decide +kernel
set_option maxRecDepth 20000 in
theorem ggX10_put_X10_isFigure : GoodIn wsX10_put wsX10_isFigure := goodIn_r _ [6, 1, 7, 8, 5, 9, 79, 80, 81, 82, 83, 84, 85, 86, 87, 88, 89, 90, 91, 92, 93, 94, 95, 96, 97, 98, 99] (by decide +kernel) (by decide +kernel)
set_option maxRecDepth 20000 in
theorem gX10_put_X10_isFigure : GoodIn wsX10_put (wsV RX10 88 RX10 yX10_isFigure wsX10_isFigure) := goodIn_app (goodIn_of _ (by decide +kernel)) ggX10_put_X10_isFigure
set_option maxRecDepth 20000 in
theorem ggX10_put_X10_isDigit : GoodIn wsX10_put wsX10_isDigit := goodIn_r _ [12, 7, 8, 5, 9] (by decide +kernel) (by decide +kernel)
set_option maxRecDepth 20000 in
theorem gX10_put_X10_isDigit : GoodIn wsX10_put (va_wsS RX10 124 yX10_isDigit wsX10_isDigit) := goodIn_app (goodIn_of _ (by decide +kernel)) ggX10_put_X10_isDigit
set_option maxRecDepth 20000 in
theorem ggX10_put_X5_figuresChanged : GoodIn wsX10_put wsX5_figuresChanged := goodIn_r _ [17, 18, 19, 20, 21, 16, 22, 23, 24, 5, 25, 26, 27, 28, 29, 30, 31, 32, 33, 34, 35, 36, 37, 38, 39, 40, 41, 42, 43, 44, 45, 46, 47, 48, 49, 50, 51, 52, 53, 54, 55, 56, 57, 58, 59, 60, 61, 62, 63, 64, 65, 66, 67, 68, 69, 70, 71, 72, 73, 74, 75, 76, 77, 78, 85, 86, 87, 88, 89, 90, 91, 92, 93, 94, 95, 96, 97, 98, 99, 100, 101, 102, 103, 104, 105] (by decide +kernel) (by decide +kernel)
set_option maxRecDepth 20000 in
theorem gX10_put_X5_figuresChanged : GoodIn wsX10_put (wsV RX10 137 RX5 yX5_figuresChanged wsX5_figuresChanged) := goodIn_app (goodIn_of _ (by decide +kernel)) ggX10_put_X5_figuresChanged
theorem dX10_put_0 : decode cX10_put 0 = .ok (.aload_n 0, 1) := by decide +kernel
theorem dX10_put_1 : decode cX10_put 1 = .ok (.iload_n 1, 1) := by decide +kernel
theorem dX10_put_2 : decode cX10_put 2 = .ok (.invokevirtual 88, 3) := by decide +kernel
theorem dX10_put_5 : decode cX10_put 5 = .ok (.ifCond .ne 6, 3) := by decide +kernel
theorem dX10_put_8 : decode cX10_put 8 = .ok (.bipush (-101), 2) := by decide +kernel
theorem dX10_put_10 : decode cX10_put 10 = .ok (.ireturn, 1) := by decide +kernel
theorem dX10_put_11 : decode cX10_put 11 = .ok (.iload_n 2, 1) := by decide +kernel
theorem dX10_put_12 : decode cX10_put 12 = .ok (.invokestatic 124, 3) := by decide +kernel
theorem dX10_put_15 : decode cX10_put 15 = .ok (.ifCond .ne 6, 3) := by decide +kernel
theorem dX10_put_18 : decode cX10_put 18 = .ok (.bipush (-102), 2) := by decide +kernel
theorem dX10_put_20 : decode cX10_put 20 = .ok (.ireturn, 1) := by decide +kernel
theorem dX10_put_21 : decode cX10_put 21 = .ok (.aload_n 0, 1) := by decide +kernel
theorem dX10_put_22 : decode cX10_put 22 = .ok (.getfield 40, 3) := by decide +kernel
theorem dX10_put_25 : decode cX10_put 25 = .ok (.getfield 102, 3) := by decide +kernel
theorem dX10_put_28 : decode cX10_put 28 = .ok (.getfield 131, 3) := by decide +kernel
theorem dX10_put_31 : decode cX10_put 31 = .ok (.sipush 9999, 3) := by decide +kernel
theorem dX10_put_34 : decode cX10_put 34 = .ok (.if_icmp .lt 6, 3) := by decide +kernel
theorem dX10_put_37 : decode cX10_put 37 = .ok (.bipush (-104), 2) := by decide +kernel
theorem dX10_put_39 : decode cX10_put 39 = .ok (.ireturn, 1) := by decide +kernel
theorem dX10_put_40 : decode cX10_put 40 = .ok (.aload_n 0, 1) := by decide +kernel
theorem dX10_put_41 : decode cX10_put 41 = .ok (.getfield 40, 3) := by decide +kernel
theorem dX10_put_44 : decode cX10_put 44 = .ok (.getfield 102, 3) := by decide +kernel
theorem dX10_put_47 : decode cX10_put 47 = .ok (.getfield 134, 3) := by decide +kernel
theorem dX10_put_50 : decode cX10_put 50 = .ok (.iload_n 1, 1) := by decide +kernel
theorem dX10_put_51 : decode cX10_put 51 = .ok (.iload_n 2, 1) := by decide +kernel
theorem dX10_put_52 : decode cX10_put 52 = .ok (.iastore, 1) := by decide +kernel
theorem dX10_put_53 : decode cX10_put 53 = .ok (.aload_n 0, 1) := by decide +kernel
theorem dX10_put_54 : decode cX10_put 54 = .ok (.getfield 40, 3) := by decide +kernel
theorem dX10_put_57 : decode cX10_put 57 = .ok (.invokevirtual 137, 3) := by decide +kernel
theorem dX10_put_60 : decode cX10_put 60 = .ok (.ireturn, 1) := by decide +kernel
set_option maxRecDepth 20000 in
theorem ggX10_exchange_X10_isFigure : GoodIn wsX10_exchange wsX10_isFigure := goodIn_r _ [6, 1, 7, 8, 5, 9, 76, 77, 78, 79, 80, 81, 82, 83, 84, 85, 86, 87, 88, 89, 90, 91, 92, 93, 94, 95, 96] (by decide +kernel) (by decide +kernel)
set_option maxRecDepth 20000 in
theorem gX10_exchange_X10_isFigure : GoodIn wsX10_exchange (wsV RX10 88 RX10 yX10_isFigure wsX10_isFigure) := goodIn_app (goodIn_of _ (by decide +kernel)) ggX10_exchange_X10_isFigure
set_option maxRecDepth 20000 in
theorem ggX10_exchange_X5_figuresChanged : GoodIn wsX10_exchange wsX5_figuresChanged := goodIn_r _ [14, 15, 16, 17, 18, 13, 19, 20, 21, 5, 22, 23, 24, 25, 26, 27, 28, 29, 30, 31, 32, 33, 34, 35, 36, 37, 38, 39, 40, 41, 42, 43, 44, 45, 46, 47, 48, 49, 50, 51, 52, 53, 54, 55, 56, 57, 58, 59, 60, 61, 62, 63, 64, 65, 66, 67, 68, 69, 70, 71, 72, 73, 74, 75, 82, 83, 84, 85, 86, 87, 88, 89, 90, 91, 92, 93, 94, 95, 96, 97, 98, 99, 100, 101, 102] (by decide +kernel) (by decide +kernel)
set_option maxRecDepth 20000 in
theorem gX10_exchange_X5_figuresChanged : GoodIn wsX10_exchange (wsV RX10 137 RX5 yX5_figuresChanged wsX5_figuresChanged) := goodIn_app (goodIn_of _ (by decide +kernel)) ggX10_exchange_X5_figuresChanged
theorem dX10_exchange_0 : decode cX10_exchange 0 = .ok (.aload_n 0, 1) := by decide +kernel
theorem dX10_exchange_1 : decode cX10_exchange 1 = .ok (.iload_n 1, 1) := by decide +kernel
theorem dX10_exchange_2 : decode cX10_exchange 2 = .ok (.invokevirtual 88, 3) := by decide +kernel
theorem dX10_exchange_5 : decode cX10_exchange 5 = .ok (.ifCond .eq 16, 3) := by decide +kernel
theorem dX10_exchange_8 : decode cX10_exchange 8 = .ok (.aload_n 0, 1) := by decide +kernel
theorem dX10_exchange_9 : decode cX10_exchange 9 = .ok (.iload_n 2, 1) := by decide +kernel
theorem dX10_exchange_10 : decode cX10_exchange 10 = .ok (.invokevirtual 88, 3) := by decide +kernel
theorem dX10_exchange_13 : decode cX10_exchange 13 = .ok (.ifCond .eq 8, 3) := by decide +kernel
theorem dX10_exchange_16 : decode cX10_exchange 16 = .ok (.iload_n 1, 1) := by decide +kernel
theorem dX10_exchange_17 : decode cX10_exchange 17 = .ok (.iload_n 2, 1) := by decide +kernel
theorem dX10_exchange_18 : decode cX10_exchange 18 = .ok (.if_icmp .ne 6, 3) := by decide +kernel
theorem dX10_exchange_21 : decode cX10_exchange 21 = .ok (.bipush (-101), 2) := by decide +kernel
theorem dX10_exchange_23 : decode cX10_exchange 23 = .ok (.ireturn, 1) := by decide +kernel
theorem dX10_exchange_24 : decode cX10_exchange 24 = .ok (.aload_n 0, 1) := by decide +kernel
theorem dX10_exchange_25 : decode cX10_exchange 25 = .ok (.getfield 40, 3) := by decide +kernel
theorem dX10_exchange_28 : decode cX10_exchange 28 = .ok (.getfield 102, 3) := by decide +kernel
theorem dX10_exchange_31 : decode cX10_exchange 31 = .ok (.getfield 131, 3) := by decide +kernel
theorem dX10_exchange_34 : decode cX10_exchange 34 = .ok (.sipush 9999, 3) := by decide +kernel
theorem dX10_exchange_37 : decode cX10_exchange 37 = .ok (.if_icmp .lt 6, 3) := by decide +kernel
theorem dX10_exchange_40 : decode cX10_exchange 40 = .ok (.bipush (-104), 2) := by decide +kernel
theorem dX10_exchange_42 : decode cX10_exchange 42 = .ok (.ireturn, 1) := by decide +kernel
theorem dX10_exchange_43 : decode cX10_exchange 43 = .ok (.aload_n 0, 1) := by decide +kernel
theorem dX10_exchange_44 : decode cX10_exchange 44 = .ok (.getfield 40, 3) := by decide +kernel
theorem dX10_exchange_47 : decode cX10_exchange 47 = .ok (.getfield 102, 3) := by decide +kernel
theorem dX10_exchange_50 : decode cX10_exchange 50 = .ok (.getfield 134, 3) := by decide +kernel
theorem dX10_exchange_53 : decode cX10_exchange 53 = .ok (.astore_n 3, 1) := by decide +kernel
theorem dX10_exchange_54 : decode cX10_exchange 54 = .ok (.aload_n 3, 1) := by decide +kernel
theorem dX10_exchange_55 : decode cX10_exchange 55 = .ok (.iload_n 1, 1) := by decide +kernel
theorem dX10_exchange_56 : decode cX10_exchange 56 = .ok (.iaload, 1) := by decide +kernel
theorem dX10_exchange_57 : decode cX10_exchange 57 = .ok (.istore 4, 2) := by decide +kernel
theorem dX10_exchange_59 : decode cX10_exchange 59 = .ok (.aload_n 3, 1) := by decide +kernel
theorem dX10_exchange_60 : decode cX10_exchange 60 = .ok (.iload_n 1, 1) := by decide +kernel
theorem dX10_exchange_61 : decode cX10_exchange 61 = .ok (.aload_n 3, 1) := by decide +kernel
theorem dX10_exchange_62 : decode cX10_exchange 62 = .ok (.iload_n 2, 1) := by decide +kernel
theorem dX10_exchange_63 : decode cX10_exchange 63 = .ok (.iaload, 1) := by decide +kernel
theorem dX10_exchange_64 : decode cX10_exchange 64 = .ok (.iastore, 1) := by decide +kernel
theorem dX10_exchange_65 : decode cX10_exchange 65 = .ok (.aload_n 3, 1) := by decide +kernel
theorem dX10_exchange_66 : decode cX10_exchange 66 = .ok (.iload_n 2, 1) := by decide +kernel
theorem dX10_exchange_67 : decode cX10_exchange 67 = .ok (.iload 4, 2) := by decide +kernel
theorem dX10_exchange_69 : decode cX10_exchange 69 = .ok (.iastore, 1) := by decide +kernel
theorem dX10_exchange_70 : decode cX10_exchange 70 = .ok (.aload_n 0, 1) := by decide +kernel
theorem dX10_exchange_71 : decode cX10_exchange 71 = .ok (.getfield 40, 3) := by decide +kernel
theorem dX10_exchange_74 : decode cX10_exchange 74 = .ok (.invokevirtual 137, 3) := by decide +kernel
theorem dX10_exchange_77 : decode cX10_exchange 77 = .ok (.ireturn, 1) := by decide +kernel
set_option maxRecDepth 20000 in
theorem ggX10_change_X10_isAbove : GoodIn wsX10_change wsX10_isAbove := goodIn_r _ [6, 1, 7, 8, 5, 9, 77, 78, 79, 80, 81, 82, 83, 84, 85, 86, 87, 88, 89, 90, 91, 92, 93, 94, 95, 96, 97] (by decide +kernel) (by decide +kernel)
set_option maxRecDepth 20000 in
theorem gX10_change_X10_isAbove : GoodIn wsX10_change (wsV RX10 121 RX10 yX10_isAbove wsX10_isAbove) := goodIn_app (goodIn_of _ (by decide +kernel)) ggX10_change_X10_isAbove
set_option maxRecDepth 20000 in
theorem ggX10_change_X10_isWithin : GoodIn wsX10_change wsX10_isWithin := goodIn_r _ [9] (by decide +kernel) (by decide +kernel)
set_option maxRecDepth 20000 in
theorem gX10_change_X10_isWithin : GoodIn wsX10_change (va_wsS RX10 44 yX10_isWithin wsX10_isWithin) := goodIn_app (goodIn_of _ (by decide +kernel)) ggX10_change_X10_isWithin
set_option maxRecDepth 20000 in
theorem ggX10_change_X5_kindOf : GoodIn wsX10_change wsX5_kindOf := goodIn_r _ [14, 15, 16, 83, 84, 85, 86, 87, 88, 89, 90, 91, 92, 93, 94, 95, 96, 97, 98, 99, 100, 101, 102, 103] (by decide +kernel) (by decide +kernel)
set_option maxRecDepth 20000 in
theorem gX10_change_X5_kindOf : GoodIn wsX10_change (wsV RX10 91 RX5 yX5_kindOf wsX5_kindOf) := goodIn_app (goodIn_of _ (by decide +kernel)) ggX10_change_X5_kindOf
set_option maxRecDepth 20000 in
theorem ggX10_change_X5_setKind : GoodIn wsX10_change wsX5_setKind := goodIn_r _ [20, 15, 16, 21, 22, 23, 24, 13, 25, 26, 27, 5, 28, 29, 30, 31, 32, 33, 34, 35, 36, 37, 38, 39, 40, 41, 42, 43, 44, 45, 46, 47, 48, 49, 50, 51, 52, 53, 54, 55, 56, 57, 58, 59, 60, 61, 62, 63, 64, 65, 66, 67, 68, 69, 70, 71, 72, 73, 74, 75, 76, 83, 84, 85, 86, 87, 88, 89, 90, 91, 92, 93, 94, 95, 96, 97, 98, 99, 100, 101, 102, 103] (by decide +kernel) (by decide +kernel)
set_option maxRecDepth 20000 in
theorem gX10_change_X5_setKind : GoodIn wsX10_change (wsV RX10 140 RX5 yX5_setKind wsX5_setKind) := goodIn_app (goodIn_of _ (by decide +kernel)) ggX10_change_X5_setKind
theorem dX10_change_0 : decode cX10_change 0 = .ok (.aload_n 0, 1) := by decide +kernel
theorem dX10_change_1 : decode cX10_change 1 = .ok (.iload_n 1, 1) := by decide +kernel
theorem dX10_change_2 : decode cX10_change 2 = .ok (.invokevirtual 121, 3) := by decide +kernel
theorem dX10_change_5 : decode cX10_change 5 = .ok (.ifCond .ne 6, 3) := by decide +kernel
theorem dX10_change_8 : decode cX10_change 8 = .ok (.bipush (-101), 2) := by decide +kernel
theorem dX10_change_10 : decode cX10_change 10 = .ok (.ireturn, 1) := by decide +kernel
theorem dX10_change_11 : decode cX10_change 11 = .ok (.iload_n 2, 1) := by decide +kernel
theorem dX10_change_12 : decode cX10_change 12 = .ok (.iconst 0, 1) := by decide +kernel
theorem dX10_change_13 : decode cX10_change 13 = .ok (.iconst 4, 1) := by decide +kernel
theorem dX10_change_14 : decode cX10_change 14 = .ok (.invokestatic 44, 3) := by decide +kernel
theorem dX10_change_17 : decode cX10_change 17 = .ok (.ifCond .ne 6, 3) := by decide +kernel
theorem dX10_change_20 : decode cX10_change 20 = .ok (.bipush (-102), 2) := by decide +kernel
theorem dX10_change_22 : decode cX10_change 22 = .ok (.ireturn, 1) := by decide +kernel
theorem dX10_change_23 : decode cX10_change 23 = .ok (.aload_n 0, 1) := by decide +kernel
theorem dX10_change_24 : decode cX10_change 24 = .ok (.getfield 40, 3) := by decide +kernel
theorem dX10_change_27 : decode cX10_change 27 = .ok (.iload_n 1, 1) := by decide +kernel
theorem dX10_change_28 : decode cX10_change 28 = .ok (.invokevirtual 91, 3) := by decide +kernel
theorem dX10_change_31 : decode cX10_change 31 = .ok (.istore_n 3, 1) := by decide +kernel
theorem dX10_change_32 : decode cX10_change 32 = .ok (.aload_n 0, 1) := by decide +kernel
theorem dX10_change_33 : decode cX10_change 33 = .ok (.getfield 40, 3) := by decide +kernel
theorem dX10_change_36 : decode cX10_change 36 = .ok (.iload_n 1, 1) := by decide +kernel
theorem dX10_change_37 : decode cX10_change 37 = .ok (.iload_n 2, 1) := by decide +kernel
theorem dX10_change_38 : decode cX10_change 38 = .ok (.invokevirtual 140, 3) := by decide +kernel
theorem dX10_change_41 : decode cX10_change 41 = .ok (.iload_n 3, 1) := by decide +kernel
theorem dX10_change_42 : decode cX10_change 42 = .ok (.ireturn, 1) := by decide +kernel
set_option maxRecDepth 20000 in
theorem ggX10_tell_X10_isBrick : GoodIn wsX10_tell wsX10_isBrick := goodIn_r _ [6, 1, 7, 8, 5, 9, 87, 88, 89, 90, 91, 92, 93, 94, 95, 96, 97, 98, 99, 100, 101, 102, 103, 104, 105, 106, 107] (by decide +kernel) (by decide +kernel)
set_option maxRecDepth 20000 in
theorem gX10_tell_X10_isBrick : GoodIn wsX10_tell (wsV RX10 84 RX10 yX10_isBrick wsX10_isBrick) := goodIn_app (goodIn_of _ (by decide +kernel)) ggX10_tell_X10_isBrick
set_option maxRecDepth 20000 in
theorem ggX10_tell_X10_isWithin : GoodIn wsX10_tell wsX10_isWithin := goodIn_r _ [9] (by decide +kernel) (by decide +kernel)
set_option maxRecDepth 20000 in
theorem gX10_tell_X10_isWithin : GoodIn wsX10_tell (va_wsS RX10 44 yX10_isWithin wsX10_isWithin) := goodIn_app (goodIn_of _ (by decide +kernel)) ggX10_tell_X10_isWithin
set_option maxRecDepth 20000 in
theorem ggX10_tell_X5_setTold : GoodIn wsX10_tell wsX5_setTold := goodIn_r _ [14, 15, 16, 93, 94, 95, 96, 97, 98, 99, 100, 101, 102, 103, 104, 105, 106, 107, 108, 109, 110, 111, 112, 113] (by decide +kernel) (by decide +kernel)
set_option maxRecDepth 20000 in
theorem gX10_tell_X5_setTold : GoodIn wsX10_tell (wsV RX10 144 RX5 yX5_setTold wsX5_setTold) := goodIn_app (goodIn_of _ (by decide +kernel)) ggX10_tell_X5_setTold
set_option maxRecDepth 20000 in
theorem ggX10_tell_X5_fitting : GoodIn wsX10_tell wsX5_fitting := goodIn_r _ [20, 16, 21, 22, 23, 15, 24, 25, 26, 27, 28, 29, 30, 31, 32, 33, 34, 35, 36, 37, 38, 39, 40, 41, 42, 43, 44, 45, 46, 47, 48, 49, 50, 51, 52, 53, 54, 55, 56, 57, 58, 59, 60, 61, 62, 63, 64, 65, 66, 67, 68, 69, 70, 71, 72, 73, 74, 75, 76, 77, 78, 79, 80, 81, 82, 83, 84, 85, 86, 93, 94, 95, 96, 97, 98, 99, 100, 101, 102, 103, 104, 105, 106, 107, 108, 109, 110, 111, 112, 113, 114, 115, 116, 117, 118, 119] (by decide +kernel) (by decide +kernel)
set_option maxRecDepth 20000 in
theorem gX10_tell_X5_fitting : GoodIn wsX10_tell (wsV RX10 147 RX5 yX5_fitting wsX5_fitting) := goodIn_app (goodIn_of _ (by decide +kernel)) ggX10_tell_X5_fitting
theorem dX10_tell_0 : decode cX10_tell 0 = .ok (.aload_n 0, 1) := by decide +kernel
theorem dX10_tell_1 : decode cX10_tell 1 = .ok (.iload_n 1, 1) := by decide +kernel
theorem dX10_tell_2 : decode cX10_tell 2 = .ok (.invokevirtual 84, 3) := by decide +kernel
theorem dX10_tell_5 : decode cX10_tell 5 = .ok (.ifCond .ne 6, 3) := by decide +kernel
theorem dX10_tell_8 : decode cX10_tell 8 = .ok (.bipush (-101), 2) := by decide +kernel
theorem dX10_tell_10 : decode cX10_tell 10 = .ok (.ireturn, 1) := by decide +kernel
theorem dX10_tell_11 : decode cX10_tell 11 = .ok (.iload_n 2, 1) := by decide +kernel
theorem dX10_tell_12 : decode cX10_tell 12 = .ok (.iconst 0, 1) := by decide +kernel
theorem dX10_tell_13 : decode cX10_tell 13 = .ok (.sipush 999, 3) := by decide +kernel
theorem dX10_tell_16 : decode cX10_tell 16 = .ok (.invokestatic 44, 3) := by decide +kernel
theorem dX10_tell_19 : decode cX10_tell 19 = .ok (.ifCond .ne 6, 3) := by decide +kernel
theorem dX10_tell_22 : decode cX10_tell 22 = .ok (.bipush (-102), 2) := by decide +kernel
theorem dX10_tell_24 : decode cX10_tell 24 = .ok (.ireturn, 1) := by decide +kernel
theorem dX10_tell_25 : decode cX10_tell 25 = .ok (.aload_n 0, 1) := by decide +kernel
theorem dX10_tell_26 : decode cX10_tell 26 = .ok (.getfield 40, 3) := by decide +kernel
theorem dX10_tell_29 : decode cX10_tell 29 = .ok (.iload_n 1, 1) := by decide +kernel
theorem dX10_tell_30 : decode cX10_tell 30 = .ok (.iload_n 2, 1) := by decide +kernel
theorem dX10_tell_31 : decode cX10_tell 31 = .ok (.invokevirtual 144, 3) := by decide +kernel
theorem dX10_tell_34 : decode cX10_tell 34 = .ok (.aload_n 0, 1) := by decide +kernel
theorem dX10_tell_35 : decode cX10_tell 35 = .ok (.getfield 40, 3) := by decide +kernel
theorem dX10_tell_38 : decode cX10_tell 38 = .ok (.invokevirtual 147, 3) := by decide +kernel
theorem dX10_tell_41 : decode cX10_tell 41 = .ok (.ireturn, 1) := by decide +kernel
set_option maxRecDepth 20000 in
theorem ggX10_hush_X10_isBrick : GoodIn wsX10_hush wsX10_isBrick := goodIn_r _ [6, 1, 7, 8, 5, 9, 87, 88, 89, 90, 91, 92, 93, 94, 95, 96, 97, 98, 99, 100, 101, 102, 103, 104, 105, 106, 107] (by decide +kernel) (by decide +kernel)
set_option maxRecDepth 20000 in
theorem gX10_hush_X10_isBrick : GoodIn wsX10_hush (wsV RX10 84 RX10 yX10_isBrick wsX10_isBrick) := goodIn_app (goodIn_of _ (by decide +kernel)) ggX10_hush_X10_isBrick
set_option maxRecDepth 20000 in
theorem ggX10_hush_X5_setTold : GoodIn wsX10_hush wsX5_setTold := goodIn_r _ [14, 15, 16, 93, 94, 95, 96, 97, 98, 99, 100, 101, 102, 103, 104, 105, 106, 107, 108, 109, 110, 111, 112, 113] (by decide +kernel) (by decide +kernel)
set_option maxRecDepth 20000 in
theorem gX10_hush_X5_setTold : GoodIn wsX10_hush (wsV RX10 144 RX5 yX5_setTold wsX5_setTold) := goodIn_app (goodIn_of _ (by decide +kernel)) ggX10_hush_X5_setTold
set_option maxRecDepth 20000 in
theorem ggX10_hush_X5_fitting : GoodIn wsX10_hush wsX5_fitting := goodIn_r _ [20, 16, 21, 22, 23, 15, 24, 25, 26, 27, 28, 29, 30, 31, 32, 33, 34, 35, 36, 37, 38, 39, 40, 41, 42, 43, 44, 45, 46, 47, 48, 49, 50, 51, 52, 53, 54, 55, 56, 57, 58, 59, 60, 61, 62, 63, 64, 65, 66, 67, 68, 69, 70, 71, 72, 73, 74, 75, 76, 77, 78, 79, 80, 81, 82, 83, 84, 85, 86, 93, 94, 95, 96, 97, 98, 99, 100, 101, 102, 103, 104, 105, 106, 107, 108, 109, 110, 111, 112, 113, 114, 115, 116, 117, 118, 119] (by decide +kernel) (by decide +kernel)
set_option maxRecDepth 20000 in
theorem gX10_hush_X5_fitting : GoodIn wsX10_hush (wsV RX10 147 RX5 yX5_fitting wsX5_fitting) := goodIn_app (goodIn_of _ (by decide +kernel)) ggX10_hush_X5_fitting
theorem dX10_hush_0 : decode cX10_hush 0 = .ok (.aload_n 0, 1) := by decide +kernel
theorem dX10_hush_1 : decode cX10_hush 1 = .ok (.iload_n 1, 1) := by decide +kernel
theorem dX10_hush_2 : decode cX10_hush 2 = .ok (.invokevirtual 84, 3) := by decide +kernel
theorem dX10_hush_5 : decode cX10_hush 5 = .ok (.ifCond .ne 6, 3) := by decide +kernel
theorem dX10_hush_8 : decode cX10_hush 8 = .ok (.bipush (-101), 2) := by decide +kernel
theorem dX10_hush_10 : decode cX10_hush 10 = .ok (.ireturn, 1) := by decide +kernel
theorem dX10_hush_11 : decode cX10_hush 11 = .ok (.aload_n 0, 1) := by decide +kernel
theorem dX10_hush_12 : decode cX10_hush 12 = .ok (.getfield 40, 3) := by decide +kernel
theorem dX10_hush_15 : decode cX10_hush 15 = .ok (.getfield 102, 3) := by decide +kernel
theorem dX10_hush_18 : decode cX10_hush 18 = .ok (.getfield 106, 3) := by decide +kernel
theorem dX10_hush_21 : decode cX10_hush 21 = .ok (.iload_n 1, 1) := by decide +kernel
theorem dX10_hush_22 : decode cX10_hush 22 = .ok (.iaload, 1) := by decide +kernel
theorem dX10_hush_23 : decode cX10_hush 23 = .ok (.iconst (-1), 1) := by decide +kernel
theorem dX10_hush_24 : decode cX10_hush 24 = .ok (.if_icmp .ne 6, 3) := by decide +kernel
theorem dX10_hush_27 : decode cX10_hush 27 = .ok (.bipush (-103), 2) := by decide +kernel
theorem dX10_hush_29 : decode cX10_hush 29 = .ok (.ireturn, 1) := by decide +kernel
theorem dX10_hush_30 : decode cX10_hush 30 = .ok (.aload_n 0, 1) := by decide +kernel
theorem dX10_hush_31 : decode cX10_hush 31 = .ok (.getfield 40, 3) := by decide +kernel
theorem dX10_hush_34 : decode cX10_hush 34 = .ok (.iload_n 1, 1) := by decide +kernel
theorem dX10_hush_35 : decode cX10_hush 35 = .ok (.iconst (-1), 1) := by decide +kernel
theorem dX10_hush_36 : decode cX10_hush 36 = .ok (.invokevirtual 144, 3) := by decide +kernel
theorem dX10_hush_39 : decode cX10_hush 39 = .ok (.aload_n 0, 1) := by decide +kernel
theorem dX10_hush_40 : decode cX10_hush 40 = .ok (.getfield 40, 3) := by decide +kernel
theorem dX10_hush_43 : decode cX10_hush 43 = .ok (.invokevirtual 147, 3) := by decide +kernel
theorem dX10_hush_46 : decode cX10_hush 46 = .ok (.ireturn, 1) := by decide +kernel
set_option maxRecDepth 20000 in
theorem ggX10_swing_X10_isFigure : GoodIn wsX10_swing wsX10_isFigure := goodIn_r _ [6, 1, 7, 8, 5, 9, 77, 78, 79, 80, 81, 82, 83, 84, 85, 86, 87, 88, 89, 90, 91, 92, 93, 94, 95, 96, 97] (by decide +kernel) (by decide +kernel)
set_option maxRecDepth 20000 in
theorem gX10_swing_X10_isFigure : GoodIn wsX10_swing (wsV RX10 88 RX10 yX10_isFigure wsX10_isFigure) := goodIn_app (goodIn_of _ (by decide +kernel)) ggX10_swing_X10_isFigure
set_option maxRecDepth 20000 in
theorem ggX10_swing_X5_swingOf : GoodIn wsX10_swing wsX5_swingOf := goodIn_r _ [14, 15, 16, 17, 5, 18, 19, 20, 21, 22, 23, 24, 25, 26, 27, 28, 29, 13, 30, 31, 32, 33, 34, 35, 36, 37, 38, 39, 40, 41, 42, 43, 44, 45, 46, 47, 48, 49, 50, 51, 52, 53, 54, 55, 56, 57, 58, 59, 60, 61, 62, 63, 64, 65, 66, 67, 68, 69, 70, 71, 72, 73, 74, 75, 76, 83, 84, 85, 86, 87, 88, 89, 90, 91, 92, 93, 94, 95, 96, 97, 98, 99, 100, 101, 102, 103] (by decide +kernel) (by decide +kernel)
set_option maxRecDepth 20000 in
theorem gX10_swing_X5_swingOf : GoodIn wsX10_swing (wsV RX10 150 RX5 yX5_swingOf wsX5_swingOf) := goodIn_app (goodIn_of _ (by decide +kernel)) ggX10_swing_X5_swingOf
theorem dX10_swing_0 : decode cX10_swing 0 = .ok (.aload_n 0, 1) := by decide +kernel
theorem dX10_swing_1 : decode cX10_swing 1 = .ok (.iload_n 1, 1) := by decide +kernel
theorem dX10_swing_2 : decode cX10_swing 2 = .ok (.invokevirtual 88, 3) := by decide +kernel
theorem dX10_swing_5 : decode cX10_swing 5 = .ok (.ifCond .eq 14, 3) := by decide +kernel
theorem dX10_swing_8 : decode cX10_swing 8 = .ok (.aload_n 0, 1) := by decide +kernel
theorem dX10_swing_9 : decode cX10_swing 9 = .ok (.getfield 40, 3) := by decide +kernel
theorem dX10_swing_12 : decode cX10_swing 12 = .ok (.iload_n 1, 1) := by decide +kernel
theorem dX10_swing_13 : decode cX10_swing 13 = .ok (.invokevirtual 150, 3) := by decide +kernel
theorem dX10_swing_16 : decode cX10_swing 16 = .ok (.goto 5, 3) := by decide +kernel
theorem dX10_swing_19 : decode cX10_swing 19 = .ok (.bipush (-101), 2) := by decide +kernel
theorem dX10_swing_21 : decode cX10_swing 21 = .ok (.ireturn, 1) := by decide +kernel
set_option maxRecDepth 20000 in
theorem ggX10_order_X10_isWithin : GoodIn wsX10_order wsX10_isWithin := goodIn_r _ [5] (by decide +kernel) (by decide +kernel)
set_option maxRecDepth 20000 in
theorem gX10_order_X10_isWithin : GoodIn wsX10_order (va_wsS RX10 44 yX10_isWithin wsX10_isWithin) := goodIn_app (goodIn_of _ (by decide +kernel)) ggX10_order_X10_isWithin
set_option maxRecDepth 20000 in
theorem ggX10_order_X10_hasPile : GoodIn wsX10_order wsX10_hasPile := goodIn_r _ [9, 1, 73, 74, 75, 76, 77, 78, 79, 80, 81, 82, 83, 84, 85, 86, 87, 88, 89, 90, 91, 92, 93] (by decide +kernel) (by decide +kernel)
set_option maxRecDepth 20000 in
theorem gX10_order_X10_hasPile : GoodIn wsX10_order (wsV RX10 153 RX10 yX10_hasPile wsX10_hasPile) := goodIn_app (goodIn_of _ (by decide +kernel)) ggX10_order_X10_hasPile
set_option maxRecDepth 20000 in
theorem ggX10_order_X5_bestTop : GoodIn wsX10_order wsX5_bestTop := goodIn_r _ [14, 15, 16, 13, 17, 18, 19, 20, 21, 22, 23, 24, 25, 26, 27, 28, 29, 30, 31, 32, 33, 34, 35, 36, 37, 38, 39, 40, 41, 42, 43, 44, 45, 46, 47, 48, 49, 50, 51, 52, 53, 54, 55, 56, 57, 58, 59, 60, 61, 62, 63, 64, 65, 66, 67, 4, 68, 79, 80, 81, 82, 83, 84, 85, 86, 87, 88, 89, 90, 91, 92, 93, 94, 95, 96, 97, 98, 99] (by decide +kernel) (by decide +kernel)
set_option maxRecDepth 20000 in
theorem gX10_order_X5_bestTop : GoodIn wsX10_order (wsV RX10 156 RX5 yX5_bestTop wsX5_bestTop) := goodIn_app (goodIn_of _ (by decide +kernel)) ggX10_order_X5_bestTop
set_option maxRecDepth 20000 in
theorem ggX10_order_X5_bestOrder : GoodIn wsX10_order wsX5_bestOrder := goodIn_r _ [72, 15, 16, 13, 17, 18, 19, 20, 21, 22, 23, 24, 25, 26, 27, 28, 29, 30, 31, 32, 33, 34, 35, 36, 37, 38, 39, 40, 41, 42, 43, 44, 45, 46, 47, 48, 49, 50, 51, 52, 53, 54, 55, 56, 57, 58, 59, 60, 61, 62, 63, 64, 65, 66, 67, 4, 68, 79, 80, 81, 82, 83, 84, 85, 86, 87, 88, 89, 90, 91, 92, 93, 94, 95, 96, 97, 98, 99] (by decide +kernel) (by decide +kernel)
set_option maxRecDepth 20000 in
theorem gX10_order_X5_bestOrder : GoodIn wsX10_order (wsV RX10 159 RX5 yX5_bestOrder wsX5_bestOrder) := goodIn_app (goodIn_of _ (by decide +kernel)) ggX10_order_X5_bestOrder
theorem dX10_order_0 : decode cX10_order 0 = .ok (.iload_n 1, 1) := by decide +kernel
theorem dX10_order_1 : decode cX10_order 1 = .ok (.iconst 0, 1) := by decide +kernel
theorem dX10_order_2 : decode cX10_order 2 = .ok (.iconst 1, 1) := by decide +kernel
theorem dX10_order_3 : decode cX10_order 3 = .ok (.invokestatic 44, 3) := by decide +kernel
theorem dX10_order_6 : decode cX10_order 6 = .ok (.ifCond .ne 6, 3) := by decide +kernel
theorem dX10_order_9 : decode cX10_order 9 = .ok (.bipush (-102), 2) := by decide +kernel
theorem dX10_order_11 : decode cX10_order 11 = .ok (.ireturn, 1) := by decide +kernel
theorem dX10_order_12 : decode cX10_order 12 = .ok (.aload_n 0, 1) := by decide +kernel
theorem dX10_order_13 : decode cX10_order 13 = .ok (.invokevirtual 153, 3) := by decide +kernel
theorem dX10_order_16 : decode cX10_order 16 = .ok (.ifCond .ne 6, 3) := by decide +kernel
theorem dX10_order_19 : decode cX10_order 19 = .ok (.bipush (-103), 2) := by decide +kernel
theorem dX10_order_21 : decode cX10_order 21 = .ok (.ireturn, 1) := by decide +kernel
theorem dX10_order_22 : decode cX10_order 22 = .ok (.iload_n 1, 1) := by decide +kernel
theorem dX10_order_23 : decode cX10_order 23 = .ok (.ifCond .ne 13, 3) := by decide +kernel
theorem dX10_order_26 : decode cX10_order 26 = .ok (.aload_n 0, 1) := by decide +kernel
theorem dX10_order_27 : decode cX10_order 27 = .ok (.getfield 40, 3) := by decide +kernel
theorem dX10_order_30 : decode cX10_order 30 = .ok (.invokevirtual 156, 3) := by decide +kernel
theorem dX10_order_33 : decode cX10_order 33 = .ok (.goto 10, 3) := by decide +kernel
theorem dX10_order_36 : decode cX10_order 36 = .ok (.aload_n 0, 1) := by decide +kernel
theorem dX10_order_37 : decode cX10_order 37 = .ok (.getfield 40, 3) := by decide +kernel
theorem dX10_order_40 : decode cX10_order 40 = .ok (.invokevirtual 159, 3) := by decide +kernel
theorem dX10_order_43 : decode cX10_order 43 = .ok (.ireturn, 1) := by decide +kernel
set_option maxRecDepth 20000 in
theorem ggX10_need_X10_isWithin : GoodIn wsX10_need wsX10_isWithin := goodIn_r _ [6] (by decide +kernel) (by decide +kernel)
set_option maxRecDepth 20000 in
theorem gX10_need_X10_isWithin : GoodIn wsX10_need (va_wsS RX10 44 yX10_isWithin wsX10_isWithin) := goodIn_app (goodIn_of _ (by decide +kernel)) ggX10_need_X10_isWithin
set_option maxRecDepth 20000 in
theorem ggX10_need_X10_hasPile : GoodIn wsX10_need wsX10_hasPile := goodIn_r _ [10, 2, 92, 93, 94, 95, 96, 97, 98, 99, 100, 101, 102, 103, 104, 105, 106, 107, 108, 109, 110, 111, 112] (by decide +kernel) (by decide +kernel)
set_option maxRecDepth 20000 in
theorem gX10_need_X10_hasPile : GoodIn wsX10_need (wsV RX10 153 RX10 yX10_hasPile wsX10_hasPile) := goodIn_app (goodIn_of _ (by decide +kernel)) ggX10_need_X10_hasPile
set_option maxRecDepth 20000 in
theorem ggX10_need_X5_nearestWithTop : GoodIn wsX10_need wsX5_nearestWithTop := goodIn_r _ [15, 16, 17, 18, 19, 20, 21, 22, 23, 24, 25, 26, 27, 28, 29, 30, 31, 32, 33, 34, 35, 36, 37, 38, 39, 40, 41, 42, 43, 44, 45, 46, 47, 48, 49, 50, 51, 52, 53, 54, 55, 56, 57, 58, 59, 60, 61, 62, 63, 64, 65, 66, 67, 68, 69, 70, 71, 72, 73, 74, 75, 76, 77, 78, 79, 80, 81, 82, 14, 83, 84, 85, 86, 87, 88, 89, 90, 5, 91, 98, 99, 100, 101, 102, 103, 104, 105, 106, 107, 108, 109, 110, 111, 112, 113, 114, 115, 116, 117, 118, 119, 120, 121, 122, 123, 124] (by decide +kernel) (by decide +kernel)
set_option maxRecDepth 20000 in
theorem gX10_need_X5_nearestWithTop : GoodIn wsX10_need (wsV RX10 165 RX5 yX5_nearestWithTop wsX5_nearestWithTop) := goodIn_app (goodIn_of _ (by decide +kernel)) ggX10_need_X5_nearestWithTop
theorem dX10_need_0 : decode cX10_need 0 = .ok (.iload_n 1, 1) := by decide +kernel
theorem dX10_need_1 : decode cX10_need 1 = .ok (.iconst 0, 1) := by decide +kernel
theorem dX10_need_2 : decode cX10_need 2 = .ok (.sipush 999, 3) := by decide +kernel
theorem dX10_need_5 : decode cX10_need 5 = .ok (.invokestatic 44, 3) := by decide +kernel
theorem dX10_need_8 : decode cX10_need 8 = .ok (.ifCond .eq 12, 3) := by decide +kernel
theorem dX10_need_11 : decode cX10_need 11 = .ok (.iload_n 2, 1) := by decide +kernel
theorem dX10_need_12 : decode cX10_need 12 = .ok (.iconst 0, 1) := by decide +kernel
theorem dX10_need_13 : decode cX10_need 13 = .ok (.iconst 1, 1) := by decide +kernel
theorem dX10_need_14 : decode cX10_need 14 = .ok (.invokestatic 44, 3) := by decide +kernel
theorem dX10_need_17 : decode cX10_need 17 = .ok (.ifCond .ne 6, 3) := by decide +kernel
theorem dX10_need_20 : decode cX10_need 20 = .ok (.bipush (-102), 2) := by decide +kernel
theorem dX10_need_22 : decode cX10_need 22 = .ok (.ireturn, 1) := by decide +kernel
theorem dX10_need_23 : decode cX10_need 23 = .ok (.aload_n 0, 1) := by decide +kernel
theorem dX10_need_24 : decode cX10_need 24 = .ok (.invokevirtual 153, 3) := by decide +kernel
theorem dX10_need_27 : decode cX10_need 27 = .ok (.ifCond .eq 12, 3) := by decide +kernel
theorem dX10_need_30 : decode cX10_need 30 = .ok (.aload_n 0, 1) := by decide +kernel
theorem dX10_need_31 : decode cX10_need 31 = .ok (.getfield 162, 3) := by decide +kernel
theorem dX10_need_34 : decode cX10_need 34 = .ok (.bipush 20, 2) := by decide +kernel
theorem dX10_need_36 : decode cX10_need 36 = .ok (.if_icmp .lt 6, 3) := by decide +kernel
theorem dX10_need_39 : decode cX10_need 39 = .ok (.bipush (-103), 2) := by decide +kernel
theorem dX10_need_41 : decode cX10_need 41 = .ok (.ireturn, 1) := by decide +kernel
theorem dX10_need_42 : decode cX10_need 42 = .ok (.aload_n 0, 1) := by decide +kernel
theorem dX10_need_43 : decode cX10_need 43 = .ok (.dup, 1) := by decide +kernel
theorem dX10_need_44 : decode cX10_need 44 = .ok (.getfield 162, 3) := by decide +kernel
theorem dX10_need_47 : decode cX10_need 47 = .ok (.iconst 1, 1) := by decide +kernel
theorem dX10_need_48 : decode cX10_need 48 = .ok (.iadd, 1) := by decide +kernel
theorem dX10_need_49 : decode cX10_need 49 = .ok (.putfield 162, 3) := by decide +kernel
theorem dX10_need_52 : decode cX10_need 52 = .ok (.aload_n 0, 1) := by decide +kernel
theorem dX10_need_53 : decode cX10_need 53 = .ok (.getfield 40, 3) := by decide +kernel
theorem dX10_need_56 : decode cX10_need 56 = .ok (.iload_n 1, 1) := by decide +kernel
theorem dX10_need_57 : decode cX10_need 57 = .ok (.invokevirtual 165, 3) := by decide +kernel
theorem dX10_need_60 : decode cX10_need 60 = .ok (.istore_n 3, 1) := by decide +kernel
theorem dX10_need_61 : decode cX10_need 61 = .ok (.iload_n 3, 1) := by decide +kernel
theorem dX10_need_62 : decode cX10_need 62 = .ok (.iconst (-1), 1) := by decide +kernel
theorem dX10_need_63 : decode cX10_need 63 = .ok (.if_icmp .ne 5, 3) := by decide +kernel
theorem dX10_need_66 : decode cX10_need 66 = .ok (.iconst (-1), 1) := by decide +kernel
theorem dX10_need_67 : decode cX10_need 67 = .ok (.ireturn, 1) := by decide +kernel
theorem dX10_need_68 : decode cX10_need 68 = .ok (.iload_n 2, 1) := by decide +kernel
theorem dX10_need_69 : decode cX10_need 69 = .ok (.ifCond .ne 11, 3) := by decide +kernel
theorem dX10_need_72 : decode cX10_need 72 = .ok (.iload_n 3, 1) := by decide +kernel
theorem dX10_need_73 : decode cX10_need 73 = .ok (.sipush 10000, 3) := by decide +kernel
theorem dX10_need_76 : decode cX10_need 76 = .ok (.idiv, 1) := by decide +kernel
theorem dX10_need_77 : decode cX10_need 77 = .ok (.goto 8, 3) := by decide +kernel
theorem dX10_need_80 : decode cX10_need 80 = .ok (.iload_n 3, 1) := by decide +kernel
theorem dX10_need_81 : decode cX10_need 81 = .ok (.sipush 10000, 3) := by decide +kernel
theorem dX10_need_84 : decode cX10_need 84 = .ok (.irem, 1) := by decide +kernel
theorem dX10_need_85 : decode cX10_need 85 = .ok (.ireturn, 1) := by decide +kernel
set_option maxRecDepth 20000 in
theorem ggX10_left_X10_hasPile : GoodIn wsX10_left wsX10_hasPile := goodIn_r _ [6, 1, 80, 81, 82, 83, 84, 85, 86, 87, 88, 89, 90, 91, 92, 93, 94, 95, 96, 97, 98, 99, 100] (by decide +kernel) (by decide +kernel)
set_option maxRecDepth 20000 in
theorem gX10_left_X10_hasPile : GoodIn wsX10_left (wsV RX10 153 RX10 yX10_hasPile wsX10_hasPile) := goodIn_app (goodIn_of _ (by decide +kernel)) ggX10_left_X10_hasPile
set_option maxRecDepth 20000 in
theorem ggX10_left_X5_fitting : GoodIn wsX10_left wsX5_fitting := goodIn_r _ [11, 12, 13, 14, 15, 16, 17, 18, 19, 20, 21, 22, 23, 24, 25, 26, 27, 28, 29, 30, 31, 32, 33, 34, 35, 36, 37, 38, 39, 40, 41, 42, 43, 44, 45, 46, 47, 48, 49, 50, 51, 52, 53, 54, 55, 56, 57, 58, 59, 60, 61, 62, 63, 64, 65, 66, 67, 68, 69, 70, 71, 72, 73, 74, 75, 76, 77, 78, 79, 86, 87, 88, 89, 90, 91, 92, 93, 94, 95, 96, 97, 98, 99, 100, 101, 102, 103, 104, 105, 106, 107, 108, 109, 110, 111, 112] (by decide +kernel) (by decide +kernel)
set_option maxRecDepth 20000 in
theorem gX10_left_X5_fitting : GoodIn wsX10_left (wsV RX10 147 RX5 yX5_fitting wsX5_fitting) := goodIn_app (goodIn_of _ (by decide +kernel)) ggX10_left_X5_fitting
theorem dX10_left_0 : decode cX10_left 0 = .ok (.aload_n 0, 1) := by decide +kernel
theorem dX10_left_1 : decode cX10_left 1 = .ok (.invokevirtual 153, 3) := by decide +kernel
theorem dX10_left_4 : decode cX10_left 4 = .ok (.ifCond .eq 13, 3) := by decide +kernel
theorem dX10_left_7 : decode cX10_left 7 = .ok (.aload_n 0, 1) := by decide +kernel
theorem dX10_left_8 : decode cX10_left 8 = .ok (.getfield 40, 3) := by decide +kernel
theorem dX10_left_11 : decode cX10_left 11 = .ok (.invokevirtual 147, 3) := by decide +kernel
theorem dX10_left_14 : decode cX10_left 14 = .ok (.goto 5, 3) := by decide +kernel
theorem dX10_left_17 : decode cX10_left 17 = .ok (.bipush (-103), 2) := by decide +kernel
theorem dX10_left_19 : decode cX10_left 19 = .ok (.ireturn, 1) := by decide +kernel
set_option maxRecDepth 20000 in
theorem ggX10_fits_X10_hasPile : GoodIn wsX10_fits wsX10_hasPile := goodIn_r _ [6, 1, 90, 91, 92, 93, 94, 95, 96, 97, 98, 99, 100, 101, 102, 103, 104, 105, 106, 107, 108, 109, 110] (by decide +kernel) (by decide +kernel)
set_option maxRecDepth 20000 in
theorem gX10_fits_X10_hasPile : GoodIn wsX10_fits (wsV RX10 153 RX10 yX10_hasPile wsX10_hasPile) := goodIn_app (goodIn_of _ (by decide +kernel)) ggX10_fits_X10_hasPile
set_option maxRecDepth 20000 in
theorem ggX10_fits_X5_fitting : GoodIn wsX10_fits wsX5_fitting := goodIn_r _ [11, 12, 13, 14, 15, 16, 17, 18, 19, 20, 21, 22, 23, 24, 25, 26, 27, 28, 29, 30, 31, 32, 33, 34, 35, 36, 37, 38, 39, 40, 41, 42, 43, 44, 45, 46, 47, 48, 49, 50, 51, 52, 53, 54, 55, 56, 57, 58, 59, 60, 61, 62, 63, 64, 65, 66, 67, 68, 69, 70, 71, 72, 73, 74, 75, 76, 77, 78, 79, 96, 97, 98, 99, 100, 101, 102, 103, 104, 105, 106, 107, 108, 109, 110, 111, 112, 113, 114, 115, 116, 117, 118, 119, 120, 121, 122] (by decide +kernel) (by decide +kernel)
set_option maxRecDepth 20000 in
theorem gX10_fits_X5_fitting : GoodIn wsX10_fits (wsV RX10 147 RX5 yX5_fitting wsX5_fitting) := goodIn_app (goodIn_of _ (by decide +kernel)) ggX10_fits_X5_fitting
set_option maxRecDepth 20000 in
theorem ggX10_fits_X5_fittingRow : GoodIn wsX10_fits wsX5_fittingRow := goodIn_r _ [83, 15, 16, 22, 23, 24, 25, 26, 27, 28, 29, 30, 31, 32, 33, 34, 35, 36, 37, 38, 39, 40, 41, 42, 43, 44, 45, 46, 47, 48, 49, 50, 51, 52, 53, 54, 55, 56, 57, 58, 59, 60, 61, 62, 63, 64, 65, 66, 67, 68, 69, 70, 71, 72, 73, 74, 75, 76, 77, 78, 79, 84, 85, 86, 87, 88, 5, 89, 96, 97, 98, 99, 100, 101, 102, 103, 104, 105, 106, 107, 108, 109, 110, 111, 112, 113, 114, 115, 116, 117, 118, 119, 120, 121, 122] (by decide +kernel) (by decide +kernel)
set_option maxRecDepth 20000 in
theorem gX10_fits_X5_fittingRow : GoodIn wsX10_fits (wsV RX10 168 RX5 yX5_fittingRow wsX5_fittingRow) := goodIn_app (goodIn_of _ (by decide +kernel)) ggX10_fits_X5_fittingRow
theorem dX10_fits_0 : decode cX10_fits 0 = .ok (.iload_n 1, 1) := by decide +kernel
theorem dX10_fits_1 : decode cX10_fits 1 = .ok (.ifCond .ge 6, 3) := by decide +kernel
theorem dX10_fits_4 : decode cX10_fits 4 = .ok (.bipush (-102), 2) := by decide +kernel
theorem dX10_fits_6 : decode cX10_fits 6 = .ok (.ireturn, 1) := by decide +kernel
theorem dX10_fits_7 : decode cX10_fits 7 = .ok (.aload_n 0, 1) := by decide +kernel
theorem dX10_fits_8 : decode cX10_fits 8 = .ok (.invokevirtual 153, 3) := by decide +kernel
theorem dX10_fits_11 : decode cX10_fits 11 = .ok (.ifCond .ne 6, 3) := by decide +kernel
theorem dX10_fits_14 : decode cX10_fits 14 = .ok (.bipush (-103), 2) := by decide +kernel
theorem dX10_fits_16 : decode cX10_fits 16 = .ok (.ireturn, 1) := by decide +kernel
theorem dX10_fits_17 : decode cX10_fits 17 = .ok (.iload_n 1, 1) := by decide +kernel
theorem dX10_fits_18 : decode cX10_fits 18 = .ok (.aload_n 0, 1) := by decide +kernel
theorem dX10_fits_19 : decode cX10_fits 19 = .ok (.getfield 40, 3) := by decide +kernel
theorem dX10_fits_22 : decode cX10_fits 22 = .ok (.invokevirtual 147, 3) := by decide +kernel
theorem dX10_fits_25 : decode cX10_fits 25 = .ok (.if_icmp .ge 14, 3) := by decide +kernel
theorem dX10_fits_28 : decode cX10_fits 28 = .ok (.aload_n 0, 1) := by decide +kernel
theorem dX10_fits_29 : decode cX10_fits 29 = .ok (.getfield 40, 3) := by decide +kernel
theorem dX10_fits_32 : decode cX10_fits 32 = .ok (.iload_n 1, 1) := by decide +kernel
theorem dX10_fits_33 : decode cX10_fits 33 = .ok (.invokevirtual 168, 3) := by decide +kernel
theorem dX10_fits_36 : decode cX10_fits 36 = .ok (.goto 4, 3) := by decide +kernel
theorem dX10_fits_39 : decode cX10_fits 39 = .ok (.iconst (-1), 1) := by decide +kernel
theorem dX10_fits_40 : decode cX10_fits 40 = .ok (.ireturn, 1) := by decide +kernel
set_option maxRecDepth 20000 in
theorem ggX10_look_X10_hasPile : GoodIn wsX10_look wsX10_hasPile := goodIn_r _ [7, 2, 110, 111, 112, 113, 114, 115, 116, 117, 118, 119, 120, 121, 122, 123, 124, 125, 126, 127, 128, 129, 130] (by decide +kernel) (by decide +kernel)
set_option maxRecDepth 20000 in
theorem gX10_look_X10_hasPile : GoodIn wsX10_look (wsV RX10 153 RX10 yX10_hasPile wsX10_hasPile) := goodIn_app (goodIn_of _ (by decide +kernel)) ggX10_look_X10_hasPile
set_option maxRecDepth 20000 in
theorem ggX10_look_X5_nextLook : GoodIn wsX10_look wsX5_nextLook := goodIn_r _ [12, 13, 14, 15, 16, 17, 18, 11, 19, 20, 21, 22, 23, 24, 25, 26, 27, 28, 29, 30, 31, 32, 33, 34, 35, 36, 37, 38, 39, 40, 41, 42, 43, 44, 45, 46, 47, 48, 49, 50, 51, 52, 53, 54, 55, 56, 57, 58, 59, 60, 61, 62, 63, 64, 65, 66, 67, 68, 69, 70, 71, 72, 73, 74, 75, 76, 77, 78, 79, 80, 81, 82, 83, 84, 85, 86, 87, 88, 89, 90, 91, 92, 93, 94, 95, 96, 97, 98, 99, 100, 101, 102, 103, 6, 104, 105, 106, 107, 108, 109, 116, 117, 118, 119, 120, 121, 122, 123, 124, 125, 126, 127, 128, 129, 130, 131, 132, 133, 134, 135, 136, 137, 138, 139, 140, 141, 142, 143, 144] (by decide +kernel) (by decide +kernel)
set_option maxRecDepth 20000 in
theorem gX10_look_X5_nextLook : GoodIn wsX10_look (wsV RX10 174 RX5 yX5_nextLook wsX5_nextLook) := goodIn_app (goodIn_of _ (by decide +kernel)) ggX10_look_X5_nextLook
theorem dX10_look_0 : decode cX10_look 0 = .ok (.aload_n 0, 1) := by decide +kernel
theorem dX10_look_1 : decode cX10_look 1 = .ok (.invokevirtual 153, 3) := by decide +kernel
theorem dX10_look_4 : decode cX10_look 4 = .ok (.ifCond .eq 12, 3) := by decide +kernel
theorem dX10_look_7 : decode cX10_look 7 = .ok (.aload_n 0, 1) := by decide +kernel
theorem dX10_look_8 : decode cX10_look 8 = .ok (.getfield 171, 3) := by decide +kernel
theorem dX10_look_11 : decode cX10_look 11 = .ok (.bipush 20, 2) := by decide +kernel
theorem dX10_look_13 : decode cX10_look 13 = .ok (.if_icmp .lt 6, 3) := by decide +kernel
theorem dX10_look_16 : decode cX10_look 16 = .ok (.bipush (-103), 2) := by decide +kernel
theorem dX10_look_18 : decode cX10_look 18 = .ok (.ireturn, 1) := by decide +kernel
theorem dX10_look_19 : decode cX10_look 19 = .ok (.aload_n 0, 1) := by decide +kernel
theorem dX10_look_20 : decode cX10_look 20 = .ok (.dup, 1) := by decide +kernel
theorem dX10_look_21 : decode cX10_look 21 = .ok (.getfield 171, 3) := by decide +kernel
theorem dX10_look_24 : decode cX10_look 24 = .ok (.iconst 1, 1) := by decide +kernel
theorem dX10_look_25 : decode cX10_look 25 = .ok (.iadd, 1) := by decide +kernel
theorem dX10_look_26 : decode cX10_look 26 = .ok (.putfield 171, 3) := by decide +kernel
theorem dX10_look_29 : decode cX10_look 29 = .ok (.aload_n 0, 1) := by decide +kernel
theorem dX10_look_30 : decode cX10_look 30 = .ok (.getfield 40, 3) := by decide +kernel
theorem dX10_look_33 : decode cX10_look 33 = .ok (.invokevirtual 174, 3) := by decide +kernel
theorem dX10_look_36 : decode cX10_look 36 = .ok (.ireturn, 1) := by decide +kernel
set_option maxRecDepth 20000 in
theorem ggX10_odds_X10_isFigure : GoodIn wsX10_odds wsX10_isFigure := goodIn_r _ [6, 1, 7, 8, 5, 9, 91, 92, 93, 94, 95, 96, 97, 98, 99, 100, 101, 102, 103, 104, 105, 106, 107, 108, 109, 110, 111] (by decide +kernel) (by decide +kernel)
set_option maxRecDepth 20000 in
theorem gX10_odds_X10_isFigure : GoodIn wsX10_odds (wsV RX10 88 RX10 yX10_isFigure wsX10_isFigure) := goodIn_app (goodIn_of _ (by decide +kernel)) ggX10_odds_X10_isFigure
set_option maxRecDepth 20000 in
theorem ggX10_odds_X10_isDigit : GoodIn wsX10_odds wsX10_isDigit := goodIn_r _ [12, 7, 8, 5, 9] (by decide +kernel) (by decide +kernel)
set_option maxRecDepth 20000 in
theorem gX10_odds_X10_isDigit : GoodIn wsX10_odds (va_wsS RX10 124 yX10_isDigit wsX10_isDigit) := goodIn_app (goodIn_of _ (by decide +kernel)) ggX10_odds_X10_isDigit
set_option maxRecDepth 20000 in
theorem ggX10_odds_X10_isWithin : GoodIn wsX10_odds wsX10_isWithin := goodIn_r _ [9] (by decide +kernel) (by decide +kernel)
set_option maxRecDepth 20000 in
theorem gX10_odds_X10_isWithin : GoodIn wsX10_odds (va_wsS RX10 44 yX10_isWithin wsX10_isWithin) := goodIn_app (goodIn_of _ (by decide +kernel)) ggX10_odds_X10_isWithin
set_option maxRecDepth 20000 in
theorem ggX10_odds_X5_fitting : GoodIn wsX10_odds wsX5_fitting := goodIn_r _ [17, 18, 19, 20, 21, 22, 23, 24, 25, 26, 27, 28, 29, 30, 31, 32, 33, 34, 35, 36, 37, 38, 39, 40, 41, 42, 43, 44, 45, 46, 47, 48, 49, 50, 51, 52, 53, 54, 55, 56, 57, 58, 59, 60, 61, 62, 63, 64, 65, 66, 67, 68, 69, 70, 71, 72, 73, 74, 75, 76, 77, 78, 79, 80, 81, 82, 83, 84, 85, 97, 98, 99, 100, 101, 102, 103, 104, 105, 106, 107, 108, 109, 110, 111, 112, 113, 114, 115, 116, 117, 118, 119, 120, 121, 122, 123] (by decide +kernel) (by decide +kernel)
set_option maxRecDepth 20000 in
theorem gX10_odds_X5_fitting : GoodIn wsX10_odds (wsV RX10 147 RX5 yX5_fitting wsX5_fitting) := goodIn_app (goodIn_of _ (by decide +kernel)) ggX10_odds_X5_fitting
set_option maxRecDepth 20000 in
theorem ggX10_odds_X10_greatestDivisor : GoodIn wsX10_odds wsX10_greatestDivisor := goodIn_r _ [88, 89, 90, 83, 66, 84] (by decide +kernel) (by decide +kernel)
set_option maxRecDepth 20000 in
theorem gX10_odds_X10_greatestDivisor : GoodIn wsX10_odds (va_wsS RX10 180 yX10_greatestDivisor wsX10_greatestDivisor) := goodIn_app (goodIn_of _ (by decide +kernel)) ggX10_odds_X10_greatestDivisor
theorem dX10_odds_0 : decode cX10_odds 0 = .ok (.aload_n 0, 1) := by decide +kernel
theorem dX10_odds_1 : decode cX10_odds 1 = .ok (.iload_n 1, 1) := by decide +kernel
theorem dX10_odds_2 : decode cX10_odds 2 = .ok (.invokevirtual 88, 3) := by decide +kernel
theorem dX10_odds_5 : decode cX10_odds 5 = .ok (.ifCond .ne 6, 3) := by decide +kernel
theorem dX10_odds_8 : decode cX10_odds 8 = .ok (.bipush (-101), 2) := by decide +kernel
theorem dX10_odds_10 : decode cX10_odds 10 = .ok (.ireturn, 1) := by decide +kernel
theorem dX10_odds_11 : decode cX10_odds 11 = .ok (.iload_n 2, 1) := by decide +kernel
theorem dX10_odds_12 : decode cX10_odds 12 = .ok (.invokestatic 124, 3) := by decide +kernel
theorem dX10_odds_15 : decode cX10_odds 15 = .ok (.ifCond .eq 12, 3) := by decide +kernel
theorem dX10_odds_18 : decode cX10_odds 18 = .ok (.iload_n 3, 1) := by decide +kernel
theorem dX10_odds_19 : decode cX10_odds 19 = .ok (.iconst 0, 1) := by decide +kernel
theorem dX10_odds_20 : decode cX10_odds 20 = .ok (.iconst 1, 1) := by decide +kernel
theorem dX10_odds_21 : decode cX10_odds 21 = .ok (.invokestatic 44, 3) := by decide +kernel
theorem dX10_odds_24 : decode cX10_odds 24 = .ok (.ifCond .ne 6, 3) := by decide +kernel
theorem dX10_odds_27 : decode cX10_odds 27 = .ok (.bipush (-102), 2) := by decide +kernel
theorem dX10_odds_29 : decode cX10_odds 29 = .ok (.ireturn, 1) := by decide +kernel
theorem dX10_odds_30 : decode cX10_odds 30 = .ok (.aload_n 0, 1) := by decide +kernel
theorem dX10_odds_31 : decode cX10_odds 31 = .ok (.getfield 40, 3) := by decide +kernel
theorem dX10_odds_34 : decode cX10_odds 34 = .ok (.invokevirtual 147, 3) := by decide +kernel
theorem dX10_odds_37 : decode cX10_odds 37 = .ok (.istore 4, 2) := by decide +kernel
theorem dX10_odds_39 : decode cX10_odds 39 = .ok (.aload_n 0, 1) := by decide +kernel
theorem dX10_odds_40 : decode cX10_odds 40 = .ok (.getfield 40, 3) := by decide +kernel
theorem dX10_odds_43 : decode cX10_odds 43 = .ok (.getfield 177, 3) := by decide +kernel
theorem dX10_odds_46 : decode cX10_odds 46 = .ok (.iload_n 1, 1) := by decide +kernel
theorem dX10_odds_47 : decode cX10_odds 47 = .ok (.bipush 10, 2) := by decide +kernel
theorem dX10_odds_49 : decode cX10_odds 49 = .ok (.imul, 1) := by decide +kernel
theorem dX10_odds_50 : decode cX10_odds 50 = .ok (.iload_n 2, 1) := by decide +kernel
theorem dX10_odds_51 : decode cX10_odds 51 = .ok (.iadd, 1) := by decide +kernel
theorem dX10_odds_52 : decode cX10_odds 52 = .ok (.iaload, 1) := by decide +kernel
theorem dX10_odds_53 : decode cX10_odds 53 = .ok (.istore 5, 2) := by decide +kernel
theorem dX10_odds_55 : decode cX10_odds 55 = .ok (.iload_n 3, 1) := by decide +kernel
theorem dX10_odds_56 : decode cX10_odds 56 = .ok (.ifCond .ne 14, 3) := by decide +kernel
theorem dX10_odds_59 : decode cX10_odds 59 = .ok (.iload 5, 2) := by decide +kernel
theorem dX10_odds_61 : decode cX10_odds 61 = .ok (.iload 4, 2) := by decide +kernel
theorem dX10_odds_63 : decode cX10_odds 63 = .ok (.iload 5, 2) := by decide +kernel
theorem dX10_odds_65 : decode cX10_odds 65 = .ok (.invokestatic 180, 3) := by decide +kernel
theorem dX10_odds_68 : decode cX10_odds 68 = .ok (.idiv, 1) := by decide +kernel
theorem dX10_odds_69 : decode cX10_odds 69 = .ok (.ireturn, 1) := by decide +kernel
theorem dX10_odds_70 : decode cX10_odds 70 = .ok (.iload 4, 2) := by decide +kernel
theorem dX10_odds_72 : decode cX10_odds 72 = .ok (.ifCond .ne 7, 3) := by decide +kernel
theorem dX10_odds_75 : decode cX10_odds 75 = .ok (.iconst 1, 1) := by decide +kernel
theorem dX10_odds_76 : decode cX10_odds 76 = .ok (.goto 13, 3) := by decide +kernel
theorem dX10_odds_79 : decode cX10_odds 79 = .ok (.iload 4, 2) := by decide +kernel
theorem dX10_odds_81 : decode cX10_odds 81 = .ok (.iload 4, 2) := by decide +kernel
theorem dX10_odds_83 : decode cX10_odds 83 = .ok (.iload 5, 2) := by decide +kernel
theorem dX10_odds_85 : decode cX10_odds 85 = .ok (.invokestatic 180, 3) := by decide +kernel
theorem dX10_odds_88 : decode cX10_odds 88 = .ok (.idiv, 1) := by decide +kernel
theorem dX10_odds_89 : decode cX10_odds 89 = .ok (.ireturn, 1) := by decide +kernel
set_option maxRecDepth 20000 in
theorem ggX10_see_X10_isAbove : GoodIn wsX10_see wsX10_isAbove := goodIn_r _ [9, 1, 10, 11, 8, 12, 33, 34, 35, 36, 37, 38, 39, 40, 41, 42, 43, 44, 45, 46, 47, 48, 49, 50, 51, 52, 53] (by decide +kernel) (by decide +kernel)
set_option maxRecDepth 20000 in
theorem gX10_see_X10_isAbove : GoodIn wsX10_see (wsV RX10 121 RX10 yX10_isAbove wsX10_isAbove) := goodIn_app (goodIn_of _ (by decide +kernel)) ggX10_see_X10_isAbove
set_option maxRecDepth 20000 in
theorem ggX10_see_X10_isDigit : GoodIn wsX10_see wsX10_isDigit := goodIn_r _ [15, 10, 11, 8, 12] (by decide +kernel) (by decide +kernel)
set_option maxRecDepth 20000 in
theorem gX10_see_X10_isDigit : GoodIn wsX10_see (va_wsS RX10 124 yX10_isDigit wsX10_isDigit) := goodIn_app (goodIn_of _ (by decide +kernel)) ggX10_see_X10_isDigit
set_option maxRecDepth 20000 in
theorem ggX10_see_X10_isWithin : GoodIn wsX10_see wsX10_isWithin := goodIn_r _ [12] (by decide +kernel) (by decide +kernel)
set_option maxRecDepth 20000 in
theorem gX10_see_X10_isWithin : GoodIn wsX10_see (va_wsS RX10 44 yX10_isWithin wsX10_isWithin) := goodIn_app (goodIn_of _ (by decide +kernel)) ggX10_see_X10_isWithin
set_option maxRecDepth 20000 in
theorem ggX10_see_X7_init : GoodIn wsX10_see wsX7_init := goodIn_r _ [18, 19, 20, 21, 22, 23, 24, 25, 60, 61, 62, 63] (by decide +kernel) (by decide +kernel)
set_option maxRecDepth 20000 in
theorem gX10_see_X7_init : GoodIn wsX10_see (wsX7_init) := ggX10_see_X7_init
set_option maxRecDepth 20000 in
theorem ggX10_see_X8_addSight : GoodIn wsX10_see wsX8_addSight := goodIn_r _ [30, 31, 32, 54, 55, 56, 57, 58, 59] (by decide +kernel) (by decide +kernel)
set_option maxRecDepth 20000 in
theorem gX10_see_X8_addSight : GoodIn wsX10_see (wsV RX10 191 RX8 yX8_addSight wsX8_addSight) := goodIn_app (goodIn_of _ (by decide +kernel)) ggX10_see_X8_addSight
theorem dX10_see_0 : decode cX10_see 0 = .ok (.aload_n 0, 1) := by decide +kernel
theorem dX10_see_1 : decode cX10_see 1 = .ok (.iload_n 1, 1) := by decide +kernel
theorem dX10_see_2 : decode cX10_see 2 = .ok (.invokevirtual 121, 3) := by decide +kernel
theorem dX10_see_5 : decode cX10_see 5 = .ok (.ifCond .ne 6, 3) := by decide +kernel
theorem dX10_see_8 : decode cX10_see 8 = .ok (.bipush (-101), 2) := by decide +kernel
theorem dX10_see_10 : decode cX10_see 10 = .ok (.ireturn, 1) := by decide +kernel
theorem dX10_see_11 : decode cX10_see 11 = .ok (.iload_n 2, 1) := by decide +kernel
theorem dX10_see_12 : decode cX10_see 12 = .ok (.invokestatic 124, 3) := by decide +kernel
theorem dX10_see_15 : decode cX10_see 15 = .ok (.ifCond .eq 21, 3) := by decide +kernel
theorem dX10_see_18 : decode cX10_see 18 = .ok (.iload_n 3, 1) := by decide +kernel
theorem dX10_see_19 : decode cX10_see 19 = .ok (.invokestatic 124, 3) := by decide +kernel
theorem dX10_see_22 : decode cX10_see 22 = .ok (.ifCond .eq 14, 3) := by decide +kernel
theorem dX10_see_25 : decode cX10_see 25 = .ok (.iload 4, 2) := by decide +kernel
theorem dX10_see_27 : decode cX10_see 27 = .ok (.iconst 0, 1) := by decide +kernel
theorem dX10_see_28 : decode cX10_see 28 = .ok (.bipush 30, 2) := by decide +kernel
theorem dX10_see_30 : decode cX10_see 30 = .ok (.invokestatic 44, 3) := by decide +kernel
theorem dX10_see_33 : decode cX10_see 33 = .ok (.ifCond .ne 6, 3) := by decide +kernel
theorem dX10_see_36 : decode cX10_see 36 = .ok (.bipush (-102), 2) := by decide +kernel
theorem dX10_see_38 : decode cX10_see 38 = .ok (.ireturn, 1) := by decide +kernel
theorem dX10_see_39 : decode cX10_see 39 = .ok (.aload_n 0, 1) := by decide +kernel
theorem dX10_see_40 : decode cX10_see 40 = .ok (.getfield 40, 3) := by decide +kernel
theorem dX10_see_43 : decode cX10_see 43 = .ok (.getfield 102, 3) := by decide +kernel
theorem dX10_see_46 : decode cX10_see 46 = .ok (.getfield 183, 3) := by decide +kernel
theorem dX10_see_49 : decode cX10_see 49 = .ok (.bipush 6, 2) := by decide +kernel
theorem dX10_see_51 : decode cX10_see 51 = .ok (.if_icmp .lt 6, 3) := by decide +kernel
theorem dX10_see_54 : decode cX10_see 54 = .ok (.bipush (-104), 2) := by decide +kernel
theorem dX10_see_56 : decode cX10_see 56 = .ok (.ireturn, 1) := by decide +kernel
theorem dX10_see_57 : decode cX10_see 57 = .ok (.aload_n 0, 1) := by decide +kernel
theorem dX10_see_58 : decode cX10_see 58 = .ok (.getfield 40, 3) := by decide +kernel
theorem dX10_see_61 : decode cX10_see 61 = .ok (.getfield 102, 3) := by decide +kernel
theorem dX10_see_64 : decode cX10_see 64 = .ok (.new 186, 3) := by decide +kernel
theorem dX10_see_67 : decode cX10_see 67 = .ok (.dup, 1) := by decide +kernel
theorem dX10_see_68 : decode cX10_see 68 = .ok (.iload_n 1, 1) := by decide +kernel
theorem dX10_see_69 : decode cX10_see 69 = .ok (.iload_n 2, 1) := by decide +kernel
theorem dX10_see_70 : decode cX10_see 70 = .ok (.iload_n 3, 1) := by decide +kernel
theorem dX10_see_71 : decode cX10_see 71 = .ok (.iload 4, 2) := by decide +kernel
theorem dX10_see_73 : decode cX10_see 73 = .ok (.invokespecial 188, 3) := by decide +kernel
theorem dX10_see_76 : decode cX10_see 76 = .ok (.invokevirtual 191, 3) := by decide +kernel
theorem dX10_see_79 : decode cX10_see 79 = .ok (.aload_n 0, 1) := by decide +kernel
theorem dX10_see_80 : decode cX10_see 80 = .ok (.getfield 40, 3) := by decide +kernel
theorem dX10_see_83 : decode cX10_see 83 = .ok (.getfield 102, 3) := by decide +kernel
theorem dX10_see_86 : decode cX10_see 86 = .ok (.getfield 183, 3) := by decide +kernel
theorem dX10_see_89 : decode cX10_see 89 = .ok (.ireturn, 1) := by decide +kernel
theorem dX10_forget_0 : decode cX10_forget 0 = .ok (.aload_n 0, 1) := by decide +kernel
theorem dX10_forget_1 : decode cX10_forget 1 = .ok (.getfield 40, 3) := by decide +kernel
theorem dX10_forget_4 : decode cX10_forget 4 = .ok (.getfield 102, 3) := by decide +kernel
theorem dX10_forget_7 : decode cX10_forget 7 = .ok (.getfield 183, 3) := by decide +kernel
theorem dX10_forget_10 : decode cX10_forget 10 = .ok (.istore_n 1, 1) := by decide +kernel
theorem dX10_forget_11 : decode cX10_forget 11 = .ok (.aload_n 0, 1) := by decide +kernel
theorem dX10_forget_12 : decode cX10_forget 12 = .ok (.getfield 40, 3) := by decide +kernel
theorem dX10_forget_15 : decode cX10_forget 15 = .ok (.getfield 102, 3) := by decide +kernel
theorem dX10_forget_18 : decode cX10_forget 18 = .ok (.iconst 0, 1) := by decide +kernel
theorem dX10_forget_19 : decode cX10_forget 19 = .ok (.putfield 183, 3) := by decide +kernel
theorem dX10_forget_22 : decode cX10_forget 22 = .ok (.iload_n 1, 1) := by decide +kernel
theorem dX10_forget_23 : decode cX10_forget 23 = .ok (.ireturn, 1) := by decide +kernel
set_option maxRecDepth 20000 in
theorem ggX10_drawn_X10_isWithin : GoodIn wsX10_drawn wsX10_isWithin := goodIn_r _ [9] (by decide +kernel) (by decide +kernel)
set_option maxRecDepth 20000 in
theorem gX10_drawn_X10_isWithin : GoodIn wsX10_drawn (va_wsS RX10 44 yX10_isWithin wsX10_isWithin) := goodIn_app (goodIn_of _ (by decide +kernel)) ggX10_drawn_X10_isWithin
set_option maxRecDepth 20000 in
theorem ggX10_drawn_X10_hasPile : GoodIn wsX10_drawn wsX10_hasPile := goodIn_r _ [13, 1, 68, 69, 70, 71, 72, 73, 74, 75, 76, 77, 78, 79, 80, 81, 82, 83, 84, 85, 86, 87, 88] (by decide +kernel) (by decide +kernel)
set_option maxRecDepth 20000 in
theorem gX10_drawn_X10_hasPile : GoodIn wsX10_drawn (wsV RX10 153 RX10 yX10_hasPile wsX10_hasPile) := goodIn_app (goodIn_of _ (by decide +kernel)) ggX10_drawn_X10_hasPile
set_option maxRecDepth 20000 in
theorem ggX10_drawn_X5_draw : GoodIn wsX10_drawn wsX5_draw := goodIn_r _ [18, 19, 20, 21, 22, 23, 24, 25, 26, 27, 17, 28, 29, 30, 31, 32, 33, 34, 35, 36, 37, 38, 39, 40, 41, 42, 43, 44, 45, 46, 4, 47, 48, 49, 50, 51, 52, 53, 54, 55, 56, 57, 58, 59, 60, 61, 62, 3, 5, 63, 74, 75, 76, 77, 78, 79, 80, 81, 82, 83, 84, 85, 86, 87, 88, 89, 90, 91, 92, 93, 94] (by decide +kernel) (by decide +kernel)
set_option maxRecDepth 20000 in
theorem gX10_drawn_X5_draw : GoodIn wsX10_drawn (wsV RX10 195 RX5 yX5_draw wsX5_draw) := goodIn_app (goodIn_of _ (by decide +kernel)) ggX10_drawn_X5_draw
set_option maxRecDepth 20000 in
theorem ggX10_drawn_X5_guessedTop : GoodIn wsX10_drawn wsX5_guessedTop := goodIn_r _ [67, 29, 23, 74, 75, 76, 77, 78, 79, 80, 81, 82, 83, 84, 85, 86, 87, 88] (by decide +kernel) (by decide +kernel)
set_option maxRecDepth 20000 in
theorem gX10_drawn_X5_guessedTop : GoodIn wsX10_drawn (wsV RX10 198 RX5 yX5_guessedTop wsX5_guessedTop) := goodIn_app (goodIn_of _ (by decide +kernel)) ggX10_drawn_X5_guessedTop
theorem dX10_drawn_0 : decode cX10_drawn 0 = .ok (.iload_n 1, 1) := by decide +kernel
theorem dX10_drawn_1 : decode cX10_drawn 1 = .ok (.iconst 1, 1) := by decide +kernel
theorem dX10_drawn_2 : decode cX10_drawn 2 = .ok (.bipush 60, 2) := by decide +kernel
theorem dX10_drawn_4 : decode cX10_drawn 4 = .ok (.invokestatic 44, 3) := by decide +kernel
theorem dX10_drawn_7 : decode cX10_drawn 7 = .ok (.ifCond .eq 16, 3) := by decide +kernel
theorem dX10_drawn_10 : decode cX10_drawn 10 = .ok (.iload_n 2, 1) := by decide +kernel
theorem dX10_drawn_11 : decode cX10_drawn 11 = .ok (.ifCond .lt 12, 3) := by decide +kernel
theorem dX10_drawn_14 : decode cX10_drawn 14 = .ok (.iload_n 3, 1) := by decide +kernel
theorem dX10_drawn_15 : decode cX10_drawn 15 = .ok (.iconst 0, 1) := by decide +kernel
theorem dX10_drawn_16 : decode cX10_drawn 16 = .ok (.iconst 2, 1) := by decide +kernel
theorem dX10_drawn_17 : decode cX10_drawn 17 = .ok (.invokestatic 44, 3) := by decide +kernel
theorem dX10_drawn_20 : decode cX10_drawn 20 = .ok (.ifCond .ne 6, 3) := by decide +kernel
theorem dX10_drawn_23 : decode cX10_drawn 23 = .ok (.bipush (-102), 2) := by decide +kernel
theorem dX10_drawn_25 : decode cX10_drawn 25 = .ok (.ireturn, 1) := by decide +kernel
theorem dX10_drawn_26 : decode cX10_drawn 26 = .ok (.aload_n 0, 1) := by decide +kernel
theorem dX10_drawn_27 : decode cX10_drawn 27 = .ok (.invokevirtual 153, 3) := by decide +kernel
theorem dX10_drawn_30 : decode cX10_drawn 30 = .ok (.ifCond .ne 6, 3) := by decide +kernel
theorem dX10_drawn_33 : decode cX10_drawn 33 = .ok (.bipush (-103), 2) := by decide +kernel
theorem dX10_drawn_35 : decode cX10_drawn 35 = .ok (.ireturn, 1) := by decide +kernel
theorem dX10_drawn_36 : decode cX10_drawn 36 = .ok (.iconst 0, 1) := by decide +kernel
theorem dX10_drawn_37 : decode cX10_drawn 37 = .ok (.istore 4, 2) := by decide +kernel
theorem dX10_drawn_39 : decode cX10_drawn 39 = .ok (.iconst 0, 1) := by decide +kernel
theorem dX10_drawn_40 : decode cX10_drawn 40 = .ok (.istore 5, 2) := by decide +kernel
theorem dX10_drawn_42 : decode cX10_drawn 42 = .ok (.iload_n 2, 1) := by decide +kernel
theorem dX10_drawn_43 : decode cX10_drawn 43 = .ok (.istore 6, 2) := by decide +kernel
theorem dX10_drawn_45 : decode cX10_drawn 45 = .ok (.iconst 0, 1) := by decide +kernel
theorem dX10_drawn_46 : decode cX10_drawn 46 = .ok (.istore 7, 2) := by decide +kernel
theorem dX10_drawn_48 : decode cX10_drawn 48 = .ok (.iload 7, 2) := by decide +kernel
theorem dX10_drawn_50 : decode cX10_drawn 50 = .ok (.iload_n 1, 1) := by decide +kernel
theorem dX10_drawn_51 : decode cX10_drawn 51 = .ok (.if_icmp .ge 46, 3) := by decide +kernel
theorem dX10_drawn_54 : decode cX10_drawn 54 = .ok (.aload_n 0, 1) := by decide +kernel
theorem dX10_drawn_55 : decode cX10_drawn 55 = .ok (.getfield 40, 3) := by decide +kernel
theorem dX10_drawn_58 : decode cX10_drawn 58 = .ok (.iload 6, 2) := by decide +kernel
theorem dX10_drawn_60 : decode cX10_drawn 60 = .ok (.invokevirtual 195, 3) := by decide +kernel
theorem dX10_drawn_63 : decode cX10_drawn 63 = .ok (.istore 6, 2) := by decide +kernel
theorem dX10_drawn_65 : decode cX10_drawn 65 = .ok (.iload 4, 2) := by decide +kernel
theorem dX10_drawn_67 : decode cX10_drawn 67 = .ok (.aload_n 0, 1) := by decide +kernel
theorem dX10_drawn_68 : decode cX10_drawn 68 = .ok (.getfield 40, 3) := by decide +kernel
theorem dX10_drawn_71 : decode cX10_drawn 71 = .ok (.invokevirtual 198, 3) := by decide +kernel
theorem dX10_drawn_74 : decode cX10_drawn 74 = .ok (.iadd, 1) := by decide +kernel
theorem dX10_drawn_75 : decode cX10_drawn 75 = .ok (.istore 4, 2) := by decide +kernel
theorem dX10_drawn_77 : decode cX10_drawn 77 = .ok (.iload 5, 2) := by decide +kernel
theorem dX10_drawn_79 : decode cX10_drawn 79 = .ok (.aload_n 0, 1) := by decide +kernel
theorem dX10_drawn_80 : decode cX10_drawn 80 = .ok (.getfield 40, 3) := by decide +kernel
theorem dX10_drawn_83 : decode cX10_drawn 83 = .ok (.invokevirtual 198, 3) := by decide +kernel
theorem dX10_drawn_86 : decode cX10_drawn 86 = .ok (.invokestatic 201, 3) := by decide +kernel
theorem dX10_drawn_89 : decode cX10_drawn 89 = .ok (.istore 5, 2) := by decide +kernel
theorem dX10_drawn_91 : decode cX10_drawn 91 = .ok (.iinc 7 1, 3) := by decide +kernel
theorem dX10_drawn_94 : decode cX10_drawn 94 = .ok (.goto (-46), 3) := by decide +kernel
theorem dX10_drawn_97 : decode cX10_drawn 97 = .ok (.iload_n 3, 1) := by decide +kernel
theorem dX10_drawn_98 : decode cX10_drawn 98 = .ok (.iconst 2, 1) := by decide +kernel
theorem dX10_drawn_99 : decode cX10_drawn 99 = .ok (.if_icmp .ne 6, 3) := by decide +kernel
theorem dX10_drawn_102 : decode cX10_drawn 102 = .ok (.iload 6, 2) := by decide +kernel
theorem dX10_drawn_104 : decode cX10_drawn 104 = .ok (.ireturn, 1) := by decide +kernel
theorem dX10_drawn_105 : decode cX10_drawn 105 = .ok (.iload_n 3, 1) := by decide +kernel
theorem dX10_drawn_106 : decode cX10_drawn 106 = .ok (.ifCond .ne 8, 3) := by decide +kernel
theorem dX10_drawn_109 : decode cX10_drawn 109 = .ok (.iload 4, 2) := by decide +kernel
theorem dX10_drawn_111 : decode cX10_drawn 111 = .ok (.goto 5, 3) := by decide +kernel
theorem dX10_drawn_114 : decode cX10_drawn 114 = .ok (.iload 5, 2) := by decide +kernel
theorem dX10_drawn_116 : decode cX10_drawn 116 = .ok (.ireturn, 1) := by decide +kernel
set_option maxRecDepth 20000 in
theorem ggX10_image_X10_hasPile : GoodIn wsX10_image wsX10_hasPile := goodIn_r _ [6, 1, 36, 37, 38, 39, 40, 41, 42, 43, 44, 45, 46, 47, 48, 49, 50, 51, 52, 53, 54, 55, 56] (by decide +kernel) (by decide +kernel)
set_option maxRecDepth 20000 in
theorem gX10_image_X10_hasPile : GoodIn wsX10_image (wsV RX10 153 RX10 yX10_hasPile wsX10_hasPile) := goodIn_app (goodIn_of _ (by decide +kernel)) ggX10_image_X10_hasPile
set_option maxRecDepth 20000 in
theorem ggX10_image_X5_keepImage : GoodIn wsX10_image wsX5_keepImage := goodIn_r _ [11, 12, 13, 14, 15, 16, 17, 18, 19, 20, 21, 22, 23, 24, 25, 26, 5, 27, 28, 29, 30, 31, 32, 33, 34, 35, 42, 43, 44, 45, 46, 47, 48, 49, 50, 51, 52, 53, 54, 55, 56, 57, 58, 59, 60, 61, 62] (by decide +kernel) (by decide +kernel)
set_option maxRecDepth 20000 in
theorem gX10_image_X5_keepImage : GoodIn wsX10_image (wsV RX10 206 RX5 yX5_keepImage wsX5_keepImage) := goodIn_app (goodIn_of _ (by decide +kernel)) ggX10_image_X5_keepImage
theorem dX10_image_0 : decode cX10_image 0 = .ok (.aload_n 0, 1) := by decide +kernel
theorem dX10_image_1 : decode cX10_image 1 = .ok (.invokevirtual 153, 3) := by decide +kernel
theorem dX10_image_4 : decode cX10_image 4 = .ok (.ifCond .ne 6, 3) := by decide +kernel
theorem dX10_image_7 : decode cX10_image 7 = .ok (.bipush (-103), 2) := by decide +kernel
theorem dX10_image_9 : decode cX10_image 9 = .ok (.ireturn, 1) := by decide +kernel
theorem dX10_image_10 : decode cX10_image 10 = .ok (.aload_n 0, 1) := by decide +kernel
theorem dX10_image_11 : decode cX10_image 11 = .ok (.getfield 40, 3) := by decide +kernel
theorem dX10_image_14 : decode cX10_image 14 = .ok (.invokevirtual 206, 3) := by decide +kernel
theorem dX10_image_17 : decode cX10_image 17 = .ok (.aload_n 0, 1) := by decide +kernel
theorem dX10_image_18 : decode cX10_image 18 = .ok (.getfield 40, 3) := by decide +kernel
theorem dX10_image_21 : decode cX10_image 21 = .ok (.getfield 102, 3) := by decide +kernel
theorem dX10_image_24 : decode cX10_image 24 = .ok (.getfield 131, 3) := by decide +kernel
theorem dX10_image_27 : decode cX10_image 27 = .ok (.ireturn, 1) := by decide +kernel
set_option maxRecDepth 20000 in
theorem ggX10_restore_X5_goBackToImage : GoodIn wsX10_restore wsX5_goBackToImage := goodIn_r _ [6, 7, 8, 9, 10, 11, 12, 13, 14, 15, 16, 17, 18, 19, 20, 21, 22, 23, 24, 25, 26, 27, 28, 29, 30, 31, 32, 33, 34, 5, 35, 36, 37, 38, 39, 40, 41, 42, 43, 44, 45, 46, 47, 48, 49, 50, 51, 52, 53, 54, 55, 56, 57, 58, 59, 60, 61, 62, 63, 64, 65, 66, 67, 68, 69, 70, 71, 72, 73, 74, 75, 76, 77, 84, 85, 86, 87, 88, 89, 90, 91, 92, 93, 94, 95, 96, 97, 98, 99, 100, 101, 102, 103, 104] (by decide +kernel) (by decide +kernel)
set_option maxRecDepth 20000 in
theorem gX10_restore_X5_goBackToImage : GoodIn wsX10_restore (wsV RX10 213 RX5 yX5_goBackToImage wsX5_goBackToImage) := goodIn_app (goodIn_of _ (by decide +kernel)) ggX10_restore_X5_goBackToImage
theorem dX10_restore_0 : decode cX10_restore 0 = .ok (.aload_n 0, 1) := by decide +kernel
theorem dX10_restore_1 : decode cX10_restore 1 = .ok (.getfield 40, 3) := by decide +kernel
theorem dX10_restore_4 : decode cX10_restore 4 = .ok (.getfield 209, 3) := by decide +kernel
theorem dX10_restore_7 : decode cX10_restore 7 = .ok (.ifCond .ne 6, 3) := by decide +kernel
theorem dX10_restore_10 : decode cX10_restore 10 = .ok (.bipush (-103), 2) := by decide +kernel
theorem dX10_restore_12 : decode cX10_restore 12 = .ok (.ireturn, 1) := by decide +kernel
theorem dX10_restore_13 : decode cX10_restore 13 = .ok (.aload_n 0, 1) := by decide +kernel
theorem dX10_restore_14 : decode cX10_restore 14 = .ok (.getfield 40, 3) := by decide +kernel
theorem dX10_restore_17 : decode cX10_restore 17 = .ok (.invokevirtual 213, 3) := by decide +kernel
theorem dX10_restore_20 : decode cX10_restore 20 = .ok (.aload_n 0, 1) := by decide +kernel
theorem dX10_restore_21 : decode cX10_restore 21 = .ok (.getfield 40, 3) := by decide +kernel
theorem dX10_restore_24 : decode cX10_restore 24 = .ok (.getfield 102, 3) := by decide +kernel
theorem dX10_restore_27 : decode cX10_restore 27 = .ok (.getfield 131, 3) := by decide +kernel
theorem dX10_restore_30 : decode cX10_restore 30 = .ok (.ireturn, 1) := by decide +kernel
set_option maxRecDepth 20000 in
theorem ggX10_count_X10_hasPile : GoodIn wsX10_count wsX10_hasPile := goodIn_r _ [10, 1, 49, 50, 51, 52, 53, 54, 55, 56, 57, 58, 59, 60, 61, 62, 63, 64, 65, 66, 67, 68, 69] (by decide +kernel) (by decide +kernel)
set_option maxRecDepth 20000 in
theorem gX10_count_X10_hasPile : GoodIn wsX10_count (wsV RX10 153 RX10 yX10_hasPile wsX10_hasPile) := goodIn_app (goodIn_of _ (by decide +kernel)) ggX10_count_X10_hasPile
set_option maxRecDepth 20000 in
theorem ggX10_count_X5_top : GoodIn wsX10_count wsX5_top := goodIn_r _ [15, 16, 17, 55, 56, 57, 58, 59, 60, 61, 62, 63, 64, 65, 66, 67, 68, 69] (by decide +kernel) (by decide +kernel)
set_option maxRecDepth 20000 in
theorem gX10_count_X5_top : GoodIn wsX10_count (wsV RX10 218 RX5 yX5_top wsX5_top) := goodIn_app (goodIn_of _ (by decide +kernel)) ggX10_count_X5_top
set_option maxRecDepth 20000 in
theorem ggX10_count_X5_sum : GoodIn wsX10_count wsX5_sum := goodIn_r _ [21, 17, 55, 56, 57, 58, 59, 60, 61, 62, 63, 64, 65, 66, 67, 68, 69] (by decide +kernel) (by decide +kernel)
set_option maxRecDepth 20000 in
theorem gX10_count_X5_sum : GoodIn wsX10_count (wsV RX10 221 RX5 yX5_sum wsX5_sum) := goodIn_app (goodIn_of _ (by decide +kernel)) ggX10_count_X5_sum
set_option maxRecDepth 20000 in
theorem ggX10_count_X5_countTold : GoodIn wsX10_count wsX5_countTold := goodIn_r _ [25, 26, 55, 56, 57, 58, 59, 60, 61, 62, 63, 64, 65, 66, 67, 68, 69, 70, 71, 72, 73, 74, 75] (by decide +kernel) (by decide +kernel)
set_option maxRecDepth 20000 in
theorem gX10_count_X5_countTold : GoodIn wsX10_count (wsV RX10 224 RX5 yX5_countTold wsX5_countTold) := goodIn_app (goodIn_of _ (by decide +kernel)) ggX10_count_X5_countTold
set_option maxRecDepth 20000 in
theorem ggX10_count_X5_countTrue : GoodIn wsX10_count wsX5_countTrue := goodIn_r _ [30, 16, 26, 17, 55, 56, 57, 58, 59, 60, 61, 62, 63, 64, 65, 66, 67, 68, 69, 70, 71, 72, 73, 74, 75] (by decide +kernel) (by decide +kernel)
set_option maxRecDepth 20000 in
theorem gX10_count_X5_countTrue : GoodIn wsX10_count (wsV RX10 227 RX5 yX5_countTrue wsX5_countTrue) := goodIn_app (goodIn_of _ (by decide +kernel)) ggX10_count_X5_countTrue
set_option maxRecDepth 20000 in
theorem ggX10_count_X4_length : GoodIn wsX10_count wsX4_length := goodIn_r _ [35, 36, 37, 38, 39, 40, 41, 42, 43, 44, 45, 46, 47, 48, 76, 77, 78, 79, 80] (by decide +kernel) (by decide +kernel)
set_option maxRecDepth 20000 in
theorem gX10_count_X4_length : GoodIn wsX10_count (wsV RX10 48 RX4 yX4_length wsX4_length) := goodIn_app (goodIn_of _ (by decide +kernel)) ggX10_count_X4_length
theorem dX10_count_0 : decode cX10_count 0 = .ok (.iload_n 1, 1) := by decide +kernel
theorem dX10_count_1 : decode cX10_count 1 = .ok (.tableswitch 167 0 11 #[63, 71, 79, 98, 106, 114, 122, 133, 144, 152, 157, 162], 63) := by decide +kernel
theorem dX10_count_64 : decode cX10_count 64 = .ok (.aload_n 0, 1) := by decide +kernel
theorem dX10_count_65 : decode cX10_count 65 = .ok (.getfield 40, 3) := by decide +kernel
theorem dX10_count_68 : decode cX10_count 68 = .ok (.getfield 216, 3) := by decide +kernel
theorem dX10_count_71 : decode cX10_count 71 = .ok (.ireturn, 1) := by decide +kernel
theorem dX10_count_72 : decode cX10_count 72 = .ok (.aload_n 0, 1) := by decide +kernel
theorem dX10_count_73 : decode cX10_count 73 = .ok (.getfield 40, 3) := by decide +kernel
theorem dX10_count_76 : decode cX10_count 76 = .ok (.getfield 81, 3) := by decide +kernel
theorem dX10_count_79 : decode cX10_count 79 = .ok (.ireturn, 1) := by decide +kernel
theorem dX10_count_80 : decode cX10_count 80 = .ok (.aload_n 0, 1) := by decide +kernel
theorem dX10_count_81 : decode cX10_count 81 = .ok (.invokevirtual 153, 3) := by decide +kernel
theorem dX10_count_84 : decode cX10_count 84 = .ok (.ifCond .eq 13, 3) := by decide +kernel
theorem dX10_count_87 : decode cX10_count 87 = .ok (.aload_n 0, 1) := by decide +kernel
theorem dX10_count_88 : decode cX10_count 88 = .ok (.getfield 40, 3) := by decide +kernel
theorem dX10_count_91 : decode cX10_count 91 = .ok (.invokevirtual 218, 3) := by decide +kernel
theorem dX10_count_94 : decode cX10_count 94 = .ok (.goto 4, 3) := by decide +kernel
theorem dX10_count_97 : decode cX10_count 97 = .ok (.iconst (-1), 1) := by decide +kernel
theorem dX10_count_98 : decode cX10_count 98 = .ok (.ireturn, 1) := by decide +kernel
theorem dX10_count_99 : decode cX10_count 99 = .ok (.aload_n 0, 1) := by decide +kernel
theorem dX10_count_100 : decode cX10_count 100 = .ok (.getfield 40, 3) := by decide +kernel
theorem dX10_count_103 : decode cX10_count 103 = .ok (.invokevirtual 221, 3) := by decide +kernel
theorem dX10_count_106 : decode cX10_count 106 = .ok (.ireturn, 1) := by decide +kernel
theorem dX10_count_107 : decode cX10_count 107 = .ok (.aload_n 0, 1) := by decide +kernel
theorem dX10_count_108 : decode cX10_count 108 = .ok (.getfield 40, 3) := by decide +kernel
theorem dX10_count_111 : decode cX10_count 111 = .ok (.invokevirtual 224, 3) := by decide +kernel
theorem dX10_count_114 : decode cX10_count 114 = .ok (.ireturn, 1) := by decide +kernel
theorem dX10_count_115 : decode cX10_count 115 = .ok (.aload_n 0, 1) := by decide +kernel
theorem dX10_count_116 : decode cX10_count 116 = .ok (.getfield 40, 3) := by decide +kernel
theorem dX10_count_119 : decode cX10_count 119 = .ok (.invokevirtual 227, 3) := by decide +kernel
theorem dX10_count_122 : decode cX10_count 122 = .ok (.ireturn, 1) := by decide +kernel
theorem dX10_count_123 : decode cX10_count 123 = .ok (.aload_n 0, 1) := by decide +kernel
theorem dX10_count_124 : decode cX10_count 124 = .ok (.getfield 40, 3) := by decide +kernel
theorem dX10_count_127 : decode cX10_count 127 = .ok (.getfield 102, 3) := by decide +kernel
theorem dX10_count_130 : decode cX10_count 130 = .ok (.getfield 131, 3) := by decide +kernel
theorem dX10_count_133 : decode cX10_count 133 = .ok (.ireturn, 1) := by decide +kernel
theorem dX10_count_134 : decode cX10_count 134 = .ok (.aload_n 0, 1) := by decide +kernel
theorem dX10_count_135 : decode cX10_count 135 = .ok (.getfield 40, 3) := by decide +kernel
theorem dX10_count_138 : decode cX10_count 138 = .ok (.getfield 102, 3) := by decide +kernel
theorem dX10_count_141 : decode cX10_count 141 = .ok (.getfield 183, 3) := by decide +kernel
theorem dX10_count_144 : decode cX10_count 144 = .ok (.ireturn, 1) := by decide +kernel
theorem dX10_count_145 : decode cX10_count 145 = .ok (.aload_n 0, 1) := by decide +kernel
theorem dX10_count_146 : decode cX10_count 146 = .ok (.getfield 31, 3) := by decide +kernel
theorem dX10_count_149 : decode cX10_count 149 = .ok (.invokevirtual 48, 3) := by decide +kernel
theorem dX10_count_152 : decode cX10_count 152 = .ok (.ireturn, 1) := by decide +kernel
theorem dX10_count_153 : decode cX10_count 153 = .ok (.aload_n 0, 1) := by decide +kernel
theorem dX10_count_154 : decode cX10_count 154 = .ok (.getfield 77, 3) := by decide +kernel
theorem dX10_count_157 : decode cX10_count 157 = .ok (.ireturn, 1) := by decide +kernel
theorem dX10_count_158 : decode cX10_count 158 = .ok (.aload_n 0, 1) := by decide +kernel
theorem dX10_count_159 : decode cX10_count 159 = .ok (.getfield 162, 3) := by decide +kernel
theorem dX10_count_162 : decode cX10_count 162 = .ok (.ireturn, 1) := by decide +kernel
theorem dX10_count_163 : decode cX10_count 163 = .ok (.aload_n 0, 1) := by decide +kernel
theorem dX10_count_164 : decode cX10_count 164 = .ok (.getfield 171, 3) := by decide +kernel
theorem dX10_count_167 : decode cX10_count 167 = .ok (.ireturn, 1) := by decide +kernel
theorem dX10_count_168 : decode cX10_count 168 = .ok (.bipush (-102), 2) := by decide +kernel
theorem dX10_count_170 : decode cX10_count 170 = .ok (.ireturn, 1) := by decide +kernel
set_option maxRecDepth 20000 in
theorem ggX10_digest_X10_brick : GoodIn wsX10_digest wsX10_brick := goodIn_r _ [9, 2, 10, 11, 12, 8, 13, 14, 15, 16, 17, 18, 19, 20, 21, 22, 23, 24, 25, 26, 27, 28, 29, 30, 31, 32, 33, 34, 35, 36, 37, 38, 39, 40, 41, 42, 43, 44, 45, 46, 47, 48, 49, 50, 51, 52, 53, 54, 55, 56, 57, 58, 59, 60, 61, 62, 63, 64, 65, 66, 67, 68, 69, 70, 71, 72, 73, 74, 75, 76, 77, 78, 79, 80, 81, 82, 83, 84, 85, 86, 87, 88, 89, 90, 91, 92, 93, 94, 95, 96, 97, 98, 291, 292, 293, 294, 295, 296, 297, 298, 299, 300, 301, 302, 303, 304, 305, 306, 307, 308, 309, 310, 311, 312, 313, 314, 315, 316, 317, 318, 319, 320, 321] (by decide +kernel) (by decide +kernel)
set_option maxRecDepth 20000 in
theorem gX10_digest_X10_brick : GoodIn wsX10_digest (wsV RX10 234 RX10 yX10_brick wsX10_brick) := goodIn_app (goodIn_of _ (by decide +kernel)) ggX10_digest_X10_brick
set_option maxRecDepth 20000 in
theorem ggX10_digest_X10_swing : GoodIn wsX10_digest wsX10_swing := goodIn_r _ [102, 2, 17, 18, 19, 8, 20, 14, 15, 16, 103, 104, 105, 24, 106, 26, 107, 108, 109, 110, 111, 64, 112, 113, 114, 115, 116, 117, 118, 119, 120, 27, 121, 122, 32, 93, 51, 52, 53, 54, 94, 56, 57, 58, 59, 60, 61, 62, 63, 65, 66, 67, 68, 69, 70, 71, 72, 73, 74, 75, 76, 77, 78, 79, 80, 81, 82, 83, 123, 124, 125, 126, 127, 128, 129, 130, 131, 291, 292, 293, 294, 295, 296, 297, 298, 299, 300, 301, 302, 303, 304, 305, 306, 307, 308, 309, 310, 311, 312, 313, 314, 315, 316, 317] (by decide +kernel) (by decide +kernel)
set_option maxRecDepth 20000 in
theorem gX10_digest_X10_swing : GoodIn wsX10_digest (wsV RX10 237 RX10 yX10_swing wsX10_swing) := goodIn_app (goodIn_of _ (by decide +kernel)) ggX10_digest_X10_swing
set_option maxRecDepth 20000 in
theorem ggX10_digest_X10_odds : GoodIn wsX10_digest wsX10_odds := goodIn_r _ [135, 2, 17, 18, 19, 8, 20, 14, 15, 16, 136, 137, 138, 139, 140, 141, 24, 142, 143, 144, 145, 146, 26, 27, 147, 148, 149, 150, 151, 152, 153, 154, 155, 156, 157, 158, 159, 160, 161, 162, 163, 164, 165, 166, 167, 168, 169, 170, 171, 172, 173, 174, 175, 51, 52, 53, 54, 176, 56, 57, 58, 59, 60, 61, 62, 63, 64, 65, 66, 67, 68, 69, 70, 71, 72, 73, 74, 75, 76, 77, 78, 79, 80, 81, 82, 83, 177, 178, 179, 180, 181, 291, 292, 293, 294, 295, 296, 297, 298, 299, 300, 301, 302, 303, 304, 305, 306, 307, 308, 309, 310, 311, 312, 313, 314, 315, 316, 317, 322, 323, 324, 325, 326, 327] (by decide +kernel) (by decide +kernel)
set_option maxRecDepth 20000 in
theorem gX10_digest_X10_odds : GoodIn wsX10_digest (wsV RX10 240 RX10 yX10_odds wsX10_odds) := goodIn_app (goodIn_of _ (by decide +kernel)) ggX10_digest_X10_odds
set_option maxRecDepth 20000 in
theorem ggX10_digest_X10_hasPile : GoodIn wsX10_digest wsX10_hasPile := goodIn_r _ [185, 2, 291, 292, 293, 294, 295, 296, 297, 298, 299, 300, 301, 302, 303, 304, 305, 306, 307, 308, 309, 310, 311] (by decide +kernel) (by decide +kernel)
set_option maxRecDepth 20000 in
theorem gX10_digest_X10_hasPile : GoodIn wsX10_digest (wsV RX10 153 RX10 yX10_hasPile wsX10_hasPile) := goodIn_app (goodIn_of _ (by decide +kernel)) ggX10_digest_X10_hasPile
set_option maxRecDepth 20000 in
theorem ggX10_digest_X10_order : GoodIn wsX10_digest wsX10_order := goodIn_r _ [189, 2, 14, 15, 8, 16, 182, 183, 184, 185, 190, 191, 192, 24, 193, 194, 195, 196, 27, 107, 26, 92, 81, 64, 82, 117, 118, 119, 120, 121, 122, 32, 93, 51, 52, 53, 54, 94, 56, 57, 58, 59, 60, 61, 62, 63, 65, 66, 67, 68, 69, 70, 71, 72, 73, 74, 75, 76, 77, 78, 79, 80, 83, 123, 124, 125, 126, 197, 198, 199, 200, 201, 202, 291, 292, 293, 294, 295, 296, 297, 298, 299, 300, 301, 302, 303, 304, 305, 306, 307, 308, 309, 310, 311, 312, 313, 314, 315, 316, 317] (by decide +kernel) (by decide +kernel)
set_option maxRecDepth 20000 in
theorem gX10_digest_X10_order : GoodIn wsX10_digest (wsV RX10 244 RX10 yX10_order wsX10_order) := goodIn_app (goodIn_of _ (by decide +kernel)) ggX10_digest_X10_order
set_option maxRecDepth 20000 in
theorem ggX10_digest_X10_left : GoodIn wsX10_digest wsX10_left := goodIn_r _ [206, 2, 182, 183, 184, 8, 185, 139, 140, 141, 24, 142, 143, 144, 145, 146, 26, 27, 147, 148, 149, 150, 151, 152, 153, 154, 155, 156, 157, 158, 159, 160, 161, 162, 163, 164, 165, 166, 167, 168, 169, 170, 171, 172, 173, 174, 175, 51, 52, 53, 54, 176, 56, 57, 58, 59, 60, 61, 62, 63, 64, 65, 66, 67, 68, 69, 70, 71, 72, 73, 74, 75, 76, 77, 78, 79, 80, 81, 82, 83, 291, 292, 293, 294, 295, 296, 297, 298, 299, 300, 301, 302, 303, 304, 305, 306, 307, 308, 309, 310, 311, 312, 313, 314, 315, 316, 317, 322, 323, 324, 325, 326, 327] (by decide +kernel) (by decide +kernel)
set_option maxRecDepth 20000 in
theorem gX10_digest_X10_left : GoodIn wsX10_digest (wsV RX10 247 RX10 yX10_left wsX10_left) := goodIn_app (goodIn_of _ (by decide +kernel)) ggX10_digest_X10_left
set_option maxRecDepth 20000 in
theorem ggX10_digest_X10_fits : GoodIn wsX10_digest wsX10_fits := goodIn_r _ [210, 2, 182, 183, 184, 8, 185, 139, 140, 141, 24, 142, 143, 144, 145, 146, 26, 27, 147, 148, 149, 150, 151, 152, 153, 154, 155, 156, 157, 158, 159, 160, 161, 162, 163, 164, 165, 166, 167, 168, 169, 170, 171, 172, 173, 174, 175, 51, 52, 53, 54, 176, 56, 57, 58, 59, 60, 61, 62, 63, 64, 65, 66, 67, 68, 69, 70, 71, 72, 73, 74, 75, 76, 77, 78, 79, 80, 81, 82, 83, 211, 212, 213, 214, 215, 216, 217, 218, 197, 198, 291, 292, 293, 294, 295, 296, 297, 298, 299, 300, 301, 302, 303, 304, 305, 306, 307, 308, 309, 310, 311, 312, 313, 314, 315, 316, 317, 322, 323, 324, 325, 326, 327] (by decide +kernel) (by decide +kernel)
set_option maxRecDepth 20000 in
theorem gX10_digest_X10_fits : GoodIn wsX10_digest (wsV RX10 250 RX10 yX10_fits wsX10_fits) := goodIn_app (goodIn_of _ (by decide +kernel)) ggX10_digest_X10_fits
set_option maxRecDepth 20000 in
theorem ggX10_digest_X4_length : GoodIn wsX10_digest wsX4_length := goodIn_r _ [223, 224, 225, 226, 227, 228, 229, 230, 231, 232, 233, 234, 235, 236, 328, 329, 330, 331, 332] (by decide +kernel) (by decide +kernel)
set_option maxRecDepth 20000 in
theorem gX10_digest_X4_length : GoodIn wsX10_digest (wsV RX10 48 RX4 yX4_length wsX4_length) := goodIn_app (goodIn_of _ (by decide +kernel)) ggX10_digest_X4_length
set_option maxRecDepth 20000 in
theorem ggX10_digest_X4_letterAt : GoodIn wsX10_digest wsX4_letterAt := goodIn_r _ [240, 224, 225, 226, 227, 228, 229, 230, 231, 232, 233, 234, 235, 236, 15, 8, 16, 241, 242, 243, 244, 245, 246, 247, 248, 249, 250, 251, 111, 64, 112, 252, 253, 254, 255, 256, 257, 258, 259, 260, 261, 262, 263, 264, 265, 266, 267, 268, 269, 270, 328, 329, 330, 331, 332] (by decide +kernel) (by decide +kernel)
set_option maxRecDepth 20000 in
theorem gX10_digest_X4_letterAt : GoodIn wsX10_digest (wsV RX10 253 RX4 yX4_letterAt wsX4_letterAt) := goodIn_app (goodIn_of _ (by decide +kernel)) ggX10_digest_X4_letterAt
set_option maxRecDepth 20000 in
theorem ggX10_digest_X10_count : GoodIn wsX10_digest wsX10_count := goodIn_r _ [274, 2, 4, 275, 276, 277, 182, 183, 184, 8, 185, 278, 128, 129, 24, 130, 121, 131, 279, 280, 281, 282, 283, 284, 285, 286, 26, 287, 288, 289, 290, 219, 220, 221, 222, 223, 224, 225, 226, 227, 228, 229, 230, 231, 232, 233, 234, 235, 236, 291, 292, 293, 294, 295, 296, 297, 298, 299, 300, 301, 302, 303, 304, 305, 306, 307, 308, 309, 310, 311, 312, 313, 314, 315, 316, 317, 328, 329, 330, 331, 332] (by decide +kernel) (by decide +kernel)
set_option maxRecDepth 20000 in
theorem gX10_digest_X10_count : GoodIn wsX10_digest (wsV RX10 256 RX10 yX10_count wsX10_count) := goodIn_app (goodIn_of _ (by decide +kernel)) ggX10_digest_X10_count
theorem dX10_digest_0 : decode cX10_digest 0 = .ok (.ldc2_w 230, 3) := by decide +kernel
theorem dX10_digest_3 : decode cX10_digest 3 = .ok (.lstore_n 1, 1) := by decide +kernel
theorem dX10_digest_4 : decode cX10_digest 4 = .ok (.iconst 0, 1) := by decide +kernel
theorem dX10_digest_5 : decode cX10_digest 5 = .ok (.istore_n 3, 1) := by decide +kernel
theorem dX10_digest_6 : decode cX10_digest 6 = .ok (.iload_n 3, 1) := by decide +kernel
theorem dX10_digest_7 : decode cX10_digest 7 = .ok (.aload_n 0, 1) := by decide +kernel
theorem dX10_digest_8 : decode cX10_digest 8 = .ok (.getfield 40, 3) := by decide +kernel
theorem dX10_digest_11 : decode cX10_digest 11 = .ok (.getfield 81, 3) := by decide +kernel
theorem dX10_digest_14 : decode cX10_digest 14 = .ok (.if_icmp .ge 40, 3) := by decide +kernel
theorem dX10_digest_17 : decode cX10_digest 17 = .ok (.iconst 0, 1) := by decide +kernel
theorem dX10_digest_18 : decode cX10_digest 18 = .ok (.istore 4, 2) := by decide +kernel
theorem dX10_digest_20 : decode cX10_digest 20 = .ok (.iload 4, 2) := by decide +kernel
theorem dX10_digest_22 : decode cX10_digest 22 = .ok (.bipush 7, 2) := by decide +kernel
theorem dX10_digest_24 : decode cX10_digest 24 = .ok (.if_icmp .ge 24, 3) := by decide +kernel
theorem dX10_digest_27 : decode cX10_digest 27 = .ok (.ldc2_w 232, 3) := by decide +kernel
theorem dX10_digest_30 : decode cX10_digest 30 = .ok (.lload_n 1, 1) := by decide +kernel
theorem dX10_digest_31 : decode cX10_digest 31 = .ok (.lmul, 1) := by decide +kernel
theorem dX10_digest_32 : decode cX10_digest 32 = .ok (.aload_n 0, 1) := by decide +kernel
theorem dX10_digest_33 : decode cX10_digest 33 = .ok (.iload_n 3, 1) := by decide +kernel
theorem dX10_digest_34 : decode cX10_digest 34 = .ok (.iload 4, 2) := by decide +kernel
theorem dX10_digest_36 : decode cX10_digest 36 = .ok (.invokevirtual 234, 3) := by decide +kernel
theorem dX10_digest_39 : decode cX10_digest 39 = .ok (.i2l, 1) := by decide +kernel
theorem dX10_digest_40 : decode cX10_digest 40 = .ok (.ladd, 1) := by decide +kernel
theorem dX10_digest_41 : decode cX10_digest 41 = .ok (.lstore_n 1, 1) := by decide +kernel
theorem dX10_digest_42 : decode cX10_digest 42 = .ok (.iinc 4 1, 3) := by decide +kernel
theorem dX10_digest_45 : decode cX10_digest 45 = .ok (.goto (-25), 3) := by decide +kernel
theorem dX10_digest_48 : decode cX10_digest 48 = .ok (.iinc 3 1, 3) := by decide +kernel
theorem dX10_digest_51 : decode cX10_digest 51 = .ok (.goto (-45), 3) := by decide +kernel
theorem dX10_digest_54 : decode cX10_digest 54 = .ok (.iconst 0, 1) := by decide +kernel
theorem dX10_digest_55 : decode cX10_digest 55 = .ok (.istore_n 3, 1) := by decide +kernel
theorem dX10_digest_56 : decode cX10_digest 56 = .ok (.iload_n 3, 1) := by decide +kernel
theorem dX10_digest_57 : decode cX10_digest 57 = .ok (.aload_n 0, 1) := by decide +kernel
theorem dX10_digest_58 : decode cX10_digest 58 = .ok (.getfield 40, 3) := by decide +kernel
theorem dX10_digest_61 : decode cX10_digest 61 = .ok (.getfield 216, 3) := by decide +kernel
theorem dX10_digest_64 : decode cX10_digest 64 = .ok (.if_icmp .ge 52, 3) := by decide +kernel
theorem dX10_digest_67 : decode cX10_digest 67 = .ok (.ldc2_w 232, 3) := by decide +kernel
theorem dX10_digest_70 : decode cX10_digest 70 = .ok (.lload_n 1, 1) := by decide +kernel
theorem dX10_digest_71 : decode cX10_digest 71 = .ok (.lmul, 1) := by decide +kernel
theorem dX10_digest_72 : decode cX10_digest 72 = .ok (.aload_n 0, 1) := by decide +kernel
theorem dX10_digest_73 : decode cX10_digest 73 = .ok (.iload_n 3, 1) := by decide +kernel
theorem dX10_digest_74 : decode cX10_digest 74 = .ok (.invokevirtual 237, 3) := by decide +kernel
theorem dX10_digest_77 : decode cX10_digest 77 = .ok (.i2l, 1) := by decide +kernel
theorem dX10_digest_78 : decode cX10_digest 78 = .ok (.ladd, 1) := by decide +kernel
theorem dX10_digest_79 : decode cX10_digest 79 = .ok (.lstore_n 1, 1) := by decide +kernel
theorem dX10_digest_80 : decode cX10_digest 80 = .ok (.ldc2_w 232, 3) := by decide +kernel
theorem dX10_digest_83 : decode cX10_digest 83 = .ok (.lload_n 1, 1) := by decide +kernel
theorem dX10_digest_84 : decode cX10_digest 84 = .ok (.lmul, 1) := by decide +kernel
theorem dX10_digest_85 : decode cX10_digest 85 = .ok (.aload_n 0, 1) := by decide +kernel
theorem dX10_digest_86 : decode cX10_digest 86 = .ok (.iload_n 3, 1) := by decide +kernel
theorem dX10_digest_87 : decode cX10_digest 87 = .ok (.iconst 3, 1) := by decide +kernel
theorem dX10_digest_88 : decode cX10_digest 88 = .ok (.iconst 0, 1) := by decide +kernel
theorem dX10_digest_89 : decode cX10_digest 89 = .ok (.invokevirtual 240, 3) := by decide +kernel
theorem dX10_digest_92 : decode cX10_digest 92 = .ok (.i2l, 1) := by decide +kernel
theorem dX10_digest_93 : decode cX10_digest 93 = .ok (.ladd, 1) := by decide +kernel
theorem dX10_digest_94 : decode cX10_digest 94 = .ok (.lstore_n 1, 1) := by decide +kernel
theorem dX10_digest_95 : decode cX10_digest 95 = .ok (.ldc2_w 232, 3) := by decide +kernel
theorem dX10_digest_98 : decode cX10_digest 98 = .ok (.lload_n 1, 1) := by decide +kernel
theorem dX10_digest_99 : decode cX10_digest 99 = .ok (.lmul, 1) := by decide +kernel
theorem dX10_digest_100 : decode cX10_digest 100 = .ok (.aload_n 0, 1) := by decide +kernel
theorem dX10_digest_101 : decode cX10_digest 101 = .ok (.iload_n 3, 1) := by decide +kernel
theorem dX10_digest_102 : decode cX10_digest 102 = .ok (.iconst 3, 1) := by decide +kernel
theorem dX10_digest_103 : decode cX10_digest 103 = .ok (.iconst 1, 1) := by decide +kernel
theorem dX10_digest_104 : decode cX10_digest 104 = .ok (.invokevirtual 240, 3) := by decide +kernel
theorem dX10_digest_107 : decode cX10_digest 107 = .ok (.i2l, 1) := by decide +kernel
theorem dX10_digest_108 : decode cX10_digest 108 = .ok (.ladd, 1) := by decide +kernel
theorem dX10_digest_109 : decode cX10_digest 109 = .ok (.lstore_n 1, 1) := by decide +kernel
theorem dX10_digest_110 : decode cX10_digest 110 = .ok (.iinc 3 1, 3) := by decide +kernel
theorem dX10_digest_113 : decode cX10_digest 113 = .ok (.goto (-57), 3) := by decide +kernel
theorem dX10_digest_116 : decode cX10_digest 116 = .ok (.aload_n 0, 1) := by decide +kernel
theorem dX10_digest_117 : decode cX10_digest 117 = .ok (.invokevirtual 153, 3) := by decide +kernel
theorem dX10_digest_120 : decode cX10_digest 120 = .ok (.ifCond .eq 54, 3) := by decide +kernel
theorem dX10_digest_123 : decode cX10_digest 123 = .ok (.ldc2_w 232, 3) := by decide +kernel
theorem dX10_digest_126 : decode cX10_digest 126 = .ok (.lload_n 1, 1) := by decide +kernel
theorem dX10_digest_127 : decode cX10_digest 127 = .ok (.lmul, 1) := by decide +kernel
theorem dX10_digest_128 : decode cX10_digest 128 = .ok (.aload_n 0, 1) := by decide +kernel
theorem dX10_digest_129 : decode cX10_digest 129 = .ok (.iconst 0, 1) := by decide +kernel
theorem dX10_digest_130 : decode cX10_digest 130 = .ok (.invokevirtual 244, 3) := by decide +kernel
theorem dX10_digest_133 : decode cX10_digest 133 = .ok (.i2l, 1) := by decide +kernel
theorem dX10_digest_134 : decode cX10_digest 134 = .ok (.ladd, 1) := by decide +kernel
theorem dX10_digest_135 : decode cX10_digest 135 = .ok (.lstore_n 1, 1) := by decide +kernel
theorem dX10_digest_136 : decode cX10_digest 136 = .ok (.ldc2_w 232, 3) := by decide +kernel
theorem dX10_digest_139 : decode cX10_digest 139 = .ok (.lload_n 1, 1) := by decide +kernel
theorem dX10_digest_140 : decode cX10_digest 140 = .ok (.lmul, 1) := by decide +kernel
theorem dX10_digest_141 : decode cX10_digest 141 = .ok (.aload_n 0, 1) := by decide +kernel
theorem dX10_digest_142 : decode cX10_digest 142 = .ok (.iconst 1, 1) := by decide +kernel
theorem dX10_digest_143 : decode cX10_digest 143 = .ok (.invokevirtual 244, 3) := by decide +kernel
theorem dX10_digest_146 : decode cX10_digest 146 = .ok (.i2l, 1) := by decide +kernel
theorem dX10_digest_147 : decode cX10_digest 147 = .ok (.ladd, 1) := by decide +kernel
theorem dX10_digest_148 : decode cX10_digest 148 = .ok (.lstore_n 1, 1) := by decide +kernel
theorem dX10_digest_149 : decode cX10_digest 149 = .ok (.ldc2_w 232, 3) := by decide +kernel
theorem dX10_digest_152 : decode cX10_digest 152 = .ok (.lload_n 1, 1) := by decide +kernel
theorem dX10_digest_153 : decode cX10_digest 153 = .ok (.lmul, 1) := by decide +kernel
theorem dX10_digest_154 : decode cX10_digest 154 = .ok (.aload_n 0, 1) := by decide +kernel
theorem dX10_digest_155 : decode cX10_digest 155 = .ok (.invokevirtual 247, 3) := by decide +kernel
theorem dX10_digest_158 : decode cX10_digest 158 = .ok (.i2l, 1) := by decide +kernel
theorem dX10_digest_159 : decode cX10_digest 159 = .ok (.ladd, 1) := by decide +kernel
theorem dX10_digest_160 : decode cX10_digest 160 = .ok (.lstore_n 1, 1) := by decide +kernel
theorem dX10_digest_161 : decode cX10_digest 161 = .ok (.ldc2_w 232, 3) := by decide +kernel
theorem dX10_digest_164 : decode cX10_digest 164 = .ok (.lload_n 1, 1) := by decide +kernel
theorem dX10_digest_165 : decode cX10_digest 165 = .ok (.lmul, 1) := by decide +kernel
theorem dX10_digest_166 : decode cX10_digest 166 = .ok (.aload_n 0, 1) := by decide +kernel
theorem dX10_digest_167 : decode cX10_digest 167 = .ok (.iconst 0, 1) := by decide +kernel
theorem dX10_digest_168 : decode cX10_digest 168 = .ok (.invokevirtual 250, 3) := by decide +kernel
theorem dX10_digest_171 : decode cX10_digest 171 = .ok (.i2l, 1) := by decide +kernel
theorem dX10_digest_172 : decode cX10_digest 172 = .ok (.ladd, 1) := by decide +kernel
theorem dX10_digest_173 : decode cX10_digest 173 = .ok (.lstore_n 1, 1) := by decide +kernel
theorem dX10_digest_174 : decode cX10_digest 174 = .ok (.iconst 0, 1) := by decide +kernel
theorem dX10_digest_175 : decode cX10_digest 175 = .ok (.istore_n 3, 1) := by decide +kernel
theorem dX10_digest_176 : decode cX10_digest 176 = .ok (.iload_n 3, 1) := by decide +kernel
theorem dX10_digest_177 : decode cX10_digest 177 = .ok (.aload_n 0, 1) := by decide +kernel
theorem dX10_digest_178 : decode cX10_digest 178 = .ok (.getfield 31, 3) := by decide +kernel
theorem dX10_digest_181 : decode cX10_digest 181 = .ok (.invokevirtual 48, 3) := by decide +kernel
theorem dX10_digest_184 : decode cX10_digest 184 = .ok (.if_icmp .ge 25, 3) := by decide +kernel
theorem dX10_digest_187 : decode cX10_digest 187 = .ok (.ldc2_w 232, 3) := by decide +kernel
theorem dX10_digest_190 : decode cX10_digest 190 = .ok (.lload_n 1, 1) := by decide +kernel
theorem dX10_digest_191 : decode cX10_digest 191 = .ok (.lmul, 1) := by decide +kernel
theorem dX10_digest_192 : decode cX10_digest 192 = .ok (.aload_n 0, 1) := by decide +kernel
theorem dX10_digest_193 : decode cX10_digest 193 = .ok (.getfield 31, 3) := by decide +kernel
theorem dX10_digest_196 : decode cX10_digest 196 = .ok (.iload_n 3, 1) := by decide +kernel
theorem dX10_digest_197 : decode cX10_digest 197 = .ok (.invokevirtual 253, 3) := by decide +kernel
theorem dX10_digest_200 : decode cX10_digest 200 = .ok (.i2l, 1) := by decide +kernel
theorem dX10_digest_201 : decode cX10_digest 201 = .ok (.ladd, 1) := by decide +kernel
theorem dX10_digest_202 : decode cX10_digest 202 = .ok (.lstore_n 1, 1) := by decide +kernel
theorem dX10_digest_203 : decode cX10_digest 203 = .ok (.iinc 3 1, 3) := by decide +kernel
theorem dX10_digest_206 : decode cX10_digest 206 = .ok (.goto (-30), 3) := by decide +kernel
theorem dX10_digest_209 : decode cX10_digest 209 = .ok (.iconst 0, 1) := by decide +kernel
theorem dX10_digest_210 : decode cX10_digest 210 = .ok (.istore_n 3, 1) := by decide +kernel
theorem dX10_digest_211 : decode cX10_digest 211 = .ok (.iload_n 3, 1) := by decide +kernel
theorem dX10_digest_212 : decode cX10_digest 212 = .ok (.bipush 12, 2) := by decide +kernel
theorem dX10_digest_214 : decode cX10_digest 214 = .ok (.if_icmp .ge 22, 3) := by decide +kernel
theorem dX10_digest_217 : decode cX10_digest 217 = .ok (.ldc2_w 232, 3) := by decide +kernel
theorem dX10_digest_220 : decode cX10_digest 220 = .ok (.lload_n 1, 1) := by decide +kernel
theorem dX10_digest_221 : decode cX10_digest 221 = .ok (.lmul, 1) := by decide +kernel
theorem dX10_digest_222 : decode cX10_digest 222 = .ok (.aload_n 0, 1) := by decide +kernel
theorem dX10_digest_223 : decode cX10_digest 223 = .ok (.iload_n 3, 1) := by decide +kernel
theorem dX10_digest_224 : decode cX10_digest 224 = .ok (.invokevirtual 256, 3) := by decide +kernel
theorem dX10_digest_227 : decode cX10_digest 227 = .ok (.i2l, 1) := by decide +kernel
theorem dX10_digest_228 : decode cX10_digest 228 = .ok (.ladd, 1) := by decide +kernel
theorem dX10_digest_229 : decode cX10_digest 229 = .ok (.lstore_n 1, 1) := by decide +kernel
theorem dX10_digest_230 : decode cX10_digest 230 = .ok (.iinc 3 1, 3) := by decide +kernel
theorem dX10_digest_233 : decode cX10_digest 233 = .ok (.goto (-22), 3) := by decide +kernel
theorem dX10_digest_236 : decode cX10_digest 236 = .ok (.lload_n 1, 1) := by decide +kernel
theorem dX10_digest_237 : decode cX10_digest 237 = .ok (.lreturn, 1) := by decide +kernel
theorem dX10_hasPile_0 : decode cX10_hasPile 0 = .ok (.aload_n 0, 1) := by decide +kernel
theorem dX10_hasPile_1 : decode cX10_hasPile 1 = .ok (.getfield 40, 3) := by decide +kernel
theorem dX10_hasPile_4 : decode cX10_hasPile 4 = .ok (.getfield 216, 3) := by decide +kernel
theorem dX10_hasPile_7 : decode cX10_hasPile 7 = .ok (.ifCond .le 7, 3) := by decide +kernel
theorem dX10_hasPile_10 : decode cX10_hasPile 10 = .ok (.iconst 1, 1) := by decide +kernel
theorem dX10_hasPile_11 : decode cX10_hasPile 11 = .ok (.goto 4, 3) := by decide +kernel
theorem dX10_hasPile_14 : decode cX10_hasPile 14 = .ok (.iconst 0, 1) := by decide +kernel
theorem dX10_hasPile_15 : decode cX10_hasPile 15 = .ok (.ireturn, 1) := by decide +kernel
set_option maxRecDepth 20000 in
theorem ggX10_isBrick_X10_isWithin : GoodIn wsX10_isBrick wsX10_isWithin := goodIn_r _ [5] (by decide +kernel) (by decide +kernel)
set_option maxRecDepth 20000 in
theorem gX10_isBrick_X10_isWithin : GoodIn wsX10_isBrick (va_wsS RX10 44 yX10_isWithin wsX10_isWithin) := goodIn_app (goodIn_of _ (by decide +kernel)) ggX10_isBrick_X10_isWithin
theorem dX10_isBrick_0 : decode cX10_isBrick 0 = .ok (.iload_n 1, 1) := by decide +kernel
theorem dX10_isBrick_1 : decode cX10_isBrick 1 = .ok (.iconst 0, 1) := by decide +kernel
theorem dX10_isBrick_2 : decode cX10_isBrick 2 = .ok (.aload_n 0, 1) := by decide +kernel
theorem dX10_isBrick_3 : decode cX10_isBrick 3 = .ok (.getfield 40, 3) := by decide +kernel
theorem dX10_isBrick_6 : decode cX10_isBrick 6 = .ok (.getfield 81, 3) := by decide +kernel
theorem dX10_isBrick_9 : decode cX10_isBrick 9 = .ok (.iconst 1, 1) := by decide +kernel
theorem dX10_isBrick_10 : decode cX10_isBrick 10 = .ok (.isub, 1) := by decide +kernel
theorem dX10_isBrick_11 : decode cX10_isBrick 11 = .ok (.invokestatic 44, 3) := by decide +kernel
theorem dX10_isBrick_14 : decode cX10_isBrick 14 = .ok (.ireturn, 1) := by decide +kernel
set_option maxRecDepth 20000 in
theorem ggX10_isFigure_X10_isWithin : GoodIn wsX10_isFigure wsX10_isWithin := goodIn_r _ [5] (by decide +kernel) (by decide +kernel)
set_option maxRecDepth 20000 in
theorem gX10_isFigure_X10_isWithin : GoodIn wsX10_isFigure (va_wsS RX10 44 yX10_isWithin wsX10_isWithin) := goodIn_app (goodIn_of _ (by decide +kernel)) ggX10_isFigure_X10_isWithin
theorem dX10_isFigure_0 : decode cX10_isFigure 0 = .ok (.iload_n 1, 1) := by decide +kernel
theorem dX10_isFigure_1 : decode cX10_isFigure 1 = .ok (.iconst 0, 1) := by decide +kernel
theorem dX10_isFigure_2 : decode cX10_isFigure 2 = .ok (.aload_n 0, 1) := by decide +kernel
theorem dX10_isFigure_3 : decode cX10_isFigure 3 = .ok (.getfield 40, 3) := by decide +kernel
theorem dX10_isFigure_6 : decode cX10_isFigure 6 = .ok (.getfield 216, 3) := by decide +kernel
theorem dX10_isFigure_9 : decode cX10_isFigure 9 = .ok (.iconst 1, 1) := by decide +kernel
theorem dX10_isFigure_10 : decode cX10_isFigure 10 = .ok (.isub, 1) := by decide +kernel
theorem dX10_isFigure_11 : decode cX10_isFigure 11 = .ok (.invokestatic 44, 3) := by decide +kernel
theorem dX10_isFigure_14 : decode cX10_isFigure 14 = .ok (.ireturn, 1) := by decide +kernel
set_option maxRecDepth 20000 in
theorem ggX10_isAbove_X10_isWithin : GoodIn wsX10_isAbove wsX10_isWithin := goodIn_r _ [5] (by decide +kernel) (by decide +kernel)
set_option maxRecDepth 20000 in
theorem gX10_isAbove_X10_isWithin : GoodIn wsX10_isAbove (va_wsS RX10 44 yX10_isWithin wsX10_isWithin) := goodIn_app (goodIn_of _ (by decide +kernel)) ggX10_isAbove_X10_isWithin
theorem dX10_isAbove_0 : decode cX10_isAbove 0 = .ok (.iload_n 1, 1) := by decide +kernel
theorem dX10_isAbove_1 : decode cX10_isAbove 1 = .ok (.aload_n 0, 1) := by decide +kernel
theorem dX10_isAbove_2 : decode cX10_isAbove 2 = .ok (.getfield 40, 3) := by decide +kernel
theorem dX10_isAbove_5 : decode cX10_isAbove 5 = .ok (.getfield 216, 3) := by decide +kernel
theorem dX10_isAbove_8 : decode cX10_isAbove 8 = .ok (.aload_n 0, 1) := by decide +kernel
theorem dX10_isAbove_9 : decode cX10_isAbove 9 = .ok (.getfield 40, 3) := by decide +kernel
theorem dX10_isAbove_12 : decode cX10_isAbove 12 = .ok (.getfield 81, 3) := by decide +kernel
theorem dX10_isAbove_15 : decode cX10_isAbove 15 = .ok (.iconst 1, 1) := by decide +kernel
theorem dX10_isAbove_16 : decode cX10_isAbove 16 = .ok (.isub, 1) := by decide +kernel
theorem dX10_isAbove_17 : decode cX10_isAbove 17 = .ok (.invokestatic 44, 3) := by decide +kernel
theorem dX10_isAbove_20 : decode cX10_isAbove 20 = .ok (.ireturn, 1) := by decide +kernel
theorem dX10_isWithin_0 : decode cX10_isWithin 0 = .ok (.iload_n 0, 1) := by decide +kernel
theorem dX10_isWithin_1 : decode cX10_isWithin 1 = .ok (.iload_n 1, 1) := by decide +kernel
theorem dX10_isWithin_2 : decode cX10_isWithin 2 = .ok (.if_icmp .lt 12, 3) := by decide +kernel
theorem dX10_isWithin_5 : decode cX10_isWithin 5 = .ok (.iload_n 0, 1) := by decide +kernel
theorem dX10_isWithin_6 : decode cX10_isWithin 6 = .ok (.iload_n 2, 1) := by decide +kernel
theorem dX10_isWithin_7 : decode cX10_isWithin 7 = .ok (.if_icmp .gt 7, 3) := by decide +kernel
theorem dX10_isWithin_10 : decode cX10_isWithin 10 = .ok (.iconst 1, 1) := by decide +kernel
theorem dX10_isWithin_11 : decode cX10_isWithin 11 = .ok (.goto 4, 3) := by decide +kernel
theorem dX10_isWithin_14 : decode cX10_isWithin 14 = .ok (.iconst 0, 1) := by decide +kernel
theorem dX10_isWithin_15 : decode cX10_isWithin 15 = .ok (.ireturn, 1) := by decide +kernel
set_option maxRecDepth 20000 in
theorem ggX10_isDigit_X10_isWithin : GoodIn wsX10_isDigit wsX10_isWithin := goodIn_r _ [4] (by decide +kernel) (by decide +kernel)
set_option maxRecDepth 20000 in
theorem gX10_isDigit_X10_isWithin : GoodIn wsX10_isDigit (va_wsS RX10 44 yX10_isWithin wsX10_isWithin) := goodIn_app (goodIn_of _ (by decide +kernel)) ggX10_isDigit_X10_isWithin
theorem dX10_isDigit_0 : decode cX10_isDigit 0 = .ok (.iload_n 0, 1) := by decide +kernel
theorem dX10_isDigit_1 : decode cX10_isDigit 1 = .ok (.iconst 0, 1) := by decide +kernel
theorem dX10_isDigit_2 : decode cX10_isDigit 2 = .ok (.bipush 9, 2) := by decide +kernel
theorem dX10_isDigit_4 : decode cX10_isDigit 4 = .ok (.invokestatic 44, 3) := by decide +kernel
theorem dX10_isDigit_7 : decode cX10_isDigit 7 = .ok (.ireturn, 1) := by decide +kernel
theorem dX10_isOfKind_0 : decode cX10_isOfKind 0 = .ok (.iload_n 1, 1) := by decide +kernel
theorem dX10_isOfKind_1 : decode cX10_isOfKind 1 = .ok (.tableswitch 51 1 4 #[31, 36, 41, 46], 31) := by decide +kernel
theorem dX10_isOfKind_32 : decode cX10_isOfKind 32 = .ok (.aload_n 0, 1) := by decide +kernel
theorem dX10_isOfKind_33 : decode cX10_isOfKind 33 = .ok (.instanceof 10, 3) := by decide +kernel
theorem dX10_isOfKind_36 : decode cX10_isOfKind 36 = .ok (.ireturn, 1) := by decide +kernel
theorem dX10_isOfKind_37 : decode cX10_isOfKind 37 = .ok (.aload_n 0, 1) := by decide +kernel
theorem dX10_isOfKind_38 : decode cX10_isOfKind 38 = .ok (.instanceof 13, 3) := by decide +kernel
theorem dX10_isOfKind_41 : decode cX10_isOfKind 41 = .ok (.ireturn, 1) := by decide +kernel
theorem dX10_isOfKind_42 : decode cX10_isOfKind 42 = .ok (.aload_n 0, 1) := by decide +kernel
theorem dX10_isOfKind_43 : decode cX10_isOfKind 43 = .ok (.instanceof 16, 3) := by decide +kernel
theorem dX10_isOfKind_46 : decode cX10_isOfKind 46 = .ok (.ireturn, 1) := by decide +kernel
theorem dX10_isOfKind_47 : decode cX10_isOfKind 47 = .ok (.aload_n 0, 1) := by decide +kernel
theorem dX10_isOfKind_48 : decode cX10_isOfKind 48 = .ok (.instanceof 19, 3) := by decide +kernel
theorem dX10_isOfKind_51 : decode cX10_isOfKind 51 = .ok (.ireturn, 1) := by decide +kernel
theorem dX10_isOfKind_52 : decode cX10_isOfKind 52 = .ok (.iconst 1, 1) := by decide +kernel
theorem dX10_isOfKind_53 : decode cX10_isOfKind 53 = .ok (.ireturn, 1) := by decide +kernel
theorem dX10_greatestDivisor_0 : decode cX10_greatestDivisor 0 = .ok (.iload_n 0, 1) := by decide +kernel
theorem dX10_greatestDivisor_1 : decode cX10_greatestDivisor 1 = .ok (.istore_n 2, 1) := by decide +kernel
theorem dX10_greatestDivisor_2 : decode cX10_greatestDivisor 2 = .ok (.iload_n 1, 1) := by decide +kernel
theorem dX10_greatestDivisor_3 : decode cX10_greatestDivisor 3 = .ok (.istore_n 3, 1) := by decide +kernel
theorem dX10_greatestDivisor_4 : decode cX10_greatestDivisor 4 = .ok (.iconst 0, 1) := by decide +kernel
theorem dX10_greatestDivisor_5 : decode cX10_greatestDivisor 5 = .ok (.istore 4, 2) := by decide +kernel
theorem dX10_greatestDivisor_7 : decode cX10_greatestDivisor 7 = .ok (.iload 4, 2) := by decide +kernel
theorem dX10_greatestDivisor_9 : decode cX10_greatestDivisor 9 = .ok (.ldc_w 259, 3) := by decide +kernel
theorem dX10_greatestDivisor_12 : decode cX10_greatestDivisor 12 = .ok (.if_icmp .ge 23, 3) := by decide +kernel
theorem dX10_greatestDivisor_15 : decode cX10_greatestDivisor 15 = .ok (.iload_n 3, 1) := by decide +kernel
theorem dX10_greatestDivisor_16 : decode cX10_greatestDivisor 16 = .ok (.ifCond .eq 19, 3) := by decide +kernel
theorem dX10_greatestDivisor_19 : decode cX10_greatestDivisor 19 = .ok (.iload_n 2, 1) := by decide +kernel
theorem dX10_greatestDivisor_20 : decode cX10_greatestDivisor 20 = .ok (.iload_n 3, 1) := by decide +kernel
theorem dX10_greatestDivisor_21 : decode cX10_greatestDivisor 21 = .ok (.irem, 1) := by decide +kernel
theorem dX10_greatestDivisor_22 : decode cX10_greatestDivisor 22 = .ok (.istore 5, 2) := by decide +kernel
theorem dX10_greatestDivisor_24 : decode cX10_greatestDivisor 24 = .ok (.iload_n 3, 1) := by decide +kernel
theorem dX10_greatestDivisor_25 : decode cX10_greatestDivisor 25 = .ok (.istore_n 2, 1) := by decide +kernel
theorem dX10_greatestDivisor_26 : decode cX10_greatestDivisor 26 = .ok (.iload 5, 2) := by decide +kernel
theorem dX10_greatestDivisor_28 : decode cX10_greatestDivisor 28 = .ok (.istore_n 3, 1) := by decide +kernel
theorem dX10_greatestDivisor_29 : decode cX10_greatestDivisor 29 = .ok (.iinc 4 1, 3) := by decide +kernel
theorem dX10_greatestDivisor_32 : decode cX10_greatestDivisor 32 = .ok (.goto (-25), 3) := by decide +kernel
theorem dX10_greatestDivisor_35 : decode cX10_greatestDivisor 35 = .ok (.iload_n 2, 1) := by decide +kernel
theorem dX10_greatestDivisor_36 : decode cX10_greatestDivisor 36 = .ok (.iconst 1, 1) := by decide +kernel
theorem dX10_greatestDivisor_37 : decode cX10_greatestDivisor 37 = .ok (.invokestatic 201, 3) := by decide +kernel
theorem dX10_greatestDivisor_40 : decode cX10_greatestDivisor 40 = .ok (.ireturn, 1) := by decide +kernel
theorem dX10_asNumber_0 : decode cX10_asNumber 0 = .ok (.iconst 0, 1) := by decide +kernel
theorem dX10_asNumber_1 : decode cX10_asNumber 1 = .ok (.istore_n 2, 1) := by decide +kernel
theorem dX10_asNumber_2 : decode cX10_asNumber 2 = .ok (.iconst 0, 1) := by decide +kernel
theorem dX10_asNumber_3 : decode cX10_asNumber 3 = .ok (.istore_n 3, 1) := by decide +kernel
theorem dX10_asNumber_4 : decode cX10_asNumber 4 = .ok (.iload_n 3, 1) := by decide +kernel
theorem dX10_asNumber_5 : decode cX10_asNumber 5 = .ok (.iload_n 1, 1) := by decide +kernel
theorem dX10_asNumber_6 : decode cX10_asNumber 6 = .ok (.if_icmp .ge 24, 3) := by decide +kernel
theorem dX10_asNumber_9 : decode cX10_asNumber 9 = .ok (.iload_n 3, 1) := by decide +kernel
theorem dX10_asNumber_10 : decode cX10_asNumber 10 = .ok (.aload_n 0, 1) := by decide +kernel
theorem dX10_asNumber_11 : decode cX10_asNumber 11 = .ok (.arraylength, 1) := by decide +kernel
theorem dX10_asNumber_12 : decode cX10_asNumber 12 = .ok (.if_icmp .ge 18, 3) := by decide +kernel
theorem dX10_asNumber_15 : decode cX10_asNumber 15 = .ok (.iload_n 2, 1) := by decide +kernel
theorem dX10_asNumber_16 : decode cX10_asNumber 16 = .ok (.bipush 10, 2) := by decide +kernel
theorem dX10_asNumber_18 : decode cX10_asNumber 18 = .ok (.imul, 1) := by decide +kernel
theorem dX10_asNumber_19 : decode cX10_asNumber 19 = .ok (.aload_n 0, 1) := by decide +kernel
theorem dX10_asNumber_20 : decode cX10_asNumber 20 = .ok (.iload_n 3, 1) := by decide +kernel
theorem dX10_asNumber_21 : decode cX10_asNumber 21 = .ok (.iaload, 1) := by decide +kernel
theorem dX10_asNumber_22 : decode cX10_asNumber 22 = .ok (.iadd, 1) := by decide +kernel
theorem dX10_asNumber_23 : decode cX10_asNumber 23 = .ok (.istore_n 2, 1) := by decide +kernel
theorem dX10_asNumber_24 : decode cX10_asNumber 24 = .ok (.iinc 3 1, 3) := by decide +kernel
theorem dX10_asNumber_27 : decode cX10_asNumber 27 = .ok (.goto (-23), 3) := by decide +kernel
theorem dX10_asNumber_30 : decode cX10_asNumber 30 = .ok (.iload_n 2, 1) := by decide +kernel
theorem dX10_asNumber_31 : decode cX10_asNumber 31 = .ok (.ireturn, 1) := by decide +kernel
theorem dX10_copy_0 : decode cX10_copy 0 = .ok (.aload_n 0, 1) := by decide +kernel
theorem dX10_copy_1 : decode cX10_copy 1 = .ok (.iconst 0, 1) := by decide +kernel
theorem dX10_copy_2 : decode cX10_copy 2 = .ok (.aload_n 1, 1) := by decide +kernel
theorem dX10_copy_3 : decode cX10_copy 3 = .ok (.iconst 0, 1) := by decide +kernel
theorem dX10_copy_4 : decode cX10_copy 4 = .ok (.aload_n 0, 1) := by decide +kernel
theorem dX10_copy_5 : decode cX10_copy 5 = .ok (.arraylength, 1) := by decide +kernel
theorem dX10_copy_6 : decode cX10_copy 6 = .ok (.aload_n 1, 1) := by decide +kernel
theorem dX10_copy_7 : decode cX10_copy 7 = .ok (.arraylength, 1) := by decide +kernel
theorem dX10_copy_8 : decode cX10_copy 8 = .ok (.invokestatic 260, 3) := by decide +kernel
theorem dX10_copy_11 : decode cX10_copy 11 = .ok (.invokestatic 263, 3) := by decide +kernel
theorem dX10_copy_14 : decode cX10_copy 14 = .ok (.return_, 1) := by decide +kernel
