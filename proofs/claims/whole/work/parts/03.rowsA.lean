theorem dX0_init_0 : decode cX0_init 0 = .ok (.aload_n 0, 1) := by decide +kernel
theorem dX0_init_1 : decode cX0_init 1 = .ok (.invokespecial 1, 3) := by decide +kernel
theorem dX0_init_4 : decode cX0_init 4 = .ok (.return_, 1) := by decide +kernel
theorem dX0_made_0 : decode cX0_made 0 = .ok (.iload_n 1, 1) := by decide +kernel
theorem dX0_made_1 : decode cX0_made 1 = .ok (.iload_n 2, 1) := by decide +kernel
theorem dX0_made_2 : decode cX0_made 2 = .ok (.iadd, 1) := by decide +kernel
theorem dX0_made_3 : decode cX0_made 3 = .ok (.ireturn, 1) := by decide +kernel
set_option maxRecDepth 20000 in
theorem ggX1_init_X0_init : GoodIn wsX1_init wsX0_init := goodIn_r _ [3, 4, 5, 6] (by decide +kernel) (by decide +kernel)
set_option maxRecDepth 20000 in
theorem gX1_init_X0_init_n1 : GoodIn wsX1_init (wsX0_init) := ggX1_init_X0_init
theorem dX1_init_0 : decode cX1_init 0 = .ok (.aload_n 0, 1) := by decide +kernel
theorem dX1_init_1 : decode cX1_init 1 = .ok (.invokespecial 1, 3) := by decide +kernel
theorem dX1_init_4 : decode cX1_init 4 = .ok (.return_, 1) := by decide +kernel
theorem dX1_made_0 : decode cX1_made 0 = .ok (.iload_n 1, 1) := by decide +kernel
theorem dX1_made_1 : decode cX1_made 1 = .ok (.iload_n 2, 1) := by decide +kernel
theorem dX1_made_2 : decode cX1_made 2 = .ok (.isub, 1) := by decide +kernel
theorem dX1_made_3 : decode cX1_made 3 = .ok (.invokestatic 7, 3) := by decide +kernel
theorem dX1_made_6 : decode cX1_made 6 = .ok (.ireturn, 1) := by decide +kernel
set_option maxRecDepth 20000 in
theorem ggX2_init_X9_init : GoodIn wsX2_init wsX9_init := goodIn_r _ [3, 4, 5, 6, 7, 8, 9] (by decide +kernel) (by decide +kernel)
set_option maxRecDepth 20000 in
theorem gX2_init_X9_init_n3 : GoodIn wsX2_init (wsX9_init) := ggX2_init_X9_init
theorem dX2_init_0 : decode cX2_init 0 = .ok (.aload_n 0, 1) := by decide +kernel
theorem dX2_init_1 : decode cX2_init 1 = .ok (.invokespecial 3, 3) := by decide +kernel
theorem dX2_init_4 : decode cX2_init 4 = .ok (.return_, 1) := by decide +kernel
set_option maxRecDepth 20000 in
theorem ggX2_made_X9_made : GoodIn wsX2_made wsX9_made := goodIn_r _ [6] (by decide +kernel) (by decide +kernel)
set_option maxRecDepth 20000 in
theorem gX2_made_X9_made_s9 : GoodIn wsX2_made (va_wsSU RX2 9 yX9_made wsX9_made) := goodIn_app (goodIn_of _ (by decide +kernel)) ggX2_made_X9_made
theorem dX2_made_0 : decode cX2_made 0 = .ok (.aload_n 0, 1) := by decide +kernel
theorem dX2_made_1 : decode cX2_made 1 = .ok (.iload_n 1, 1) := by decide +kernel
theorem dX2_made_2 : decode cX2_made 2 = .ok (.iload_n 2, 1) := by decide +kernel
theorem dX2_made_3 : decode cX2_made 3 = .ok (.invokespecial 9, 3) := by decide +kernel
theorem dX2_made_6 : decode cX2_made 6 = .ok (.bipush 10, 2) := by decide +kernel
theorem dX2_made_8 : decode cX2_made 8 = .ok (.irem, 1) := by decide +kernel
theorem dX2_made_9 : decode cX2_made 9 = .ok (.ireturn, 1) := by decide +kernel
set_option maxRecDepth 20000 in
theorem ggX3_init_X0_init : GoodIn wsX3_init wsX0_init := goodIn_r _ [3, 4, 5, 6] (by decide +kernel) (by decide +kernel)
set_option maxRecDepth 20000 in
theorem gX3_init_X0_init_n1 : GoodIn wsX3_init (wsX0_init) := ggX3_init_X0_init
theorem dX3_init_0 : decode cX3_init 0 = .ok (.aload_n 0, 1) := by decide +kernel
theorem dX3_init_1 : decode cX3_init 1 = .ok (.invokespecial 1, 3) := by decide +kernel
theorem dX3_init_4 : decode cX3_init 4 = .ok (.return_, 1) := by decide +kernel
theorem dX3_made_0 : decode cX3_made 0 = .ok (.iload_n 1, 1) := by decide +kernel
theorem dX3_made_1 : decode cX3_made 1 = .ok (.iload_n 2, 1) := by decide +kernel
theorem dX3_made_2 : decode cX3_made 2 = .ok (.invokestatic 7, 3) := by decide +kernel
theorem dX3_made_5 : decode cX3_made 5 = .ok (.ireturn, 1) := by decide +kernel
set_option maxRecDepth 20000 in
theorem ggX4_init_J4_init_da8c8 : GoodIn wsX4_init wsJ4_init_da8c8 := goodIn_r _ [10, 11, 12, 13, 14, 15, 2, 3, 16, 17, 18, 19, 20, 21, 22, 23, 24, 25, 26, 27, 28, 29, 30, 31] (by decide +kernel) (by decide +kernel)
set_option maxRecDepth 20000 in
theorem gX4_init_J4_init_da8c8 : GoodIn wsX4_init (wsJ4_init_da8c8) := ggX4_init_J4_init_da8c8
theorem dX4_init_0 : decode cX4_init 0 = .ok (.aload_n 0, 1) := by decide +kernel
theorem dX4_init_1 : decode cX4_init 1 = .ok (.invokespecial 3, 3) := by decide +kernel
theorem dX4_init_4 : decode cX4_init 4 = .ok (.aload_n 0, 1) := by decide +kernel
theorem dX4_init_5 : decode cX4_init 5 = .ok (.new 9, 3) := by decide +kernel
theorem dX4_init_8 : decode cX4_init 8 = .ok (.dup, 1) := by decide +kernel
theorem dX4_init_9 : decode cX4_init 9 = .ok (.invokespecial 11, 3) := by decide +kernel
theorem dX4_init_12 : decode cX4_init 12 = .ok (.putfield 12, 3) := by decide +kernel
theorem dX4_init_15 : decode cX4_init 15 = .ok (.return_, 1) := by decide +kernel
set_option maxRecDepth 20000 in
theorem ggX4_length_J4_length_8abf5 : GoodIn wsX4_length wsJ4_length_8abf5 := goodIn_r _ [6, 7, 8, 9, 10, 11, 12, 13, 15, 16, 17, 18] (by decide +kernel) (by decide +kernel)
set_option maxRecDepth 20000 in
theorem gX4_length_J4_length_8abf5 : GoodIn wsX4_length (wsV RX4 18 RJ4 yJ4_length_8abf5 wsJ4_length_8abf5) := goodIn_app (goodIn_of _ (by decide +kernel)) ggX4_length_J4_length_8abf5
theorem dX4_length_0 : decode cX4_length 0 = .ok (.aload_n 0, 1) := by decide +kernel
theorem dX4_length_1 : decode cX4_length 1 = .ok (.getfield 12, 3) := by decide +kernel
theorem dX4_length_4 : decode cX4_length 4 = .ok (.invokevirtual 18, 3) := by decide +kernel
theorem dX4_length_7 : decode cX4_length 7 = .ok (.ireturn, 1) := by decide +kernel
set_option maxRecDepth 20000 in
theorem ggX4_letterAt_J4_length_8abf5 : GoodIn wsX4_letterAt wsJ4_length_8abf5 := goodIn_r _ [6, 7, 8, 9, 10, 11, 12, 13, 51, 52, 53, 54] (by decide +kernel) (by decide +kernel)
set_option maxRecDepth 20000 in
theorem gX4_letterAt_J4_length_8abf5 : GoodIn wsX4_letterAt (wsV RX4 18 RJ4 yJ4_length_8abf5 wsJ4_length_8abf5) := goodIn_app (goodIn_of _ (by decide +kernel)) ggX4_letterAt_J4_length_8abf5
set_option maxRecDepth 20000 in
theorem ggX4_letterAt_X10_isWithin : GoodIn wsX4_letterAt wsX10_isWithin := goodIn_r _ [16] (by decide +kernel) (by decide +kernel)
set_option maxRecDepth 20000 in
theorem gX4_letterAt_X10_isWithin_n22 : GoodIn wsX4_letterAt (wsX10_isWithin) := ggX4_letterAt_X10_isWithin
set_option maxRecDepth 20000 in
theorem ggX4_letterAt_J4_charAt_5068e : GoodIn wsX4_letterAt wsJ4_charAt_5068e := goodIn_r _ [20, 21, 22, 9, 23, 11, 24, 25, 26, 13, 27, 28, 29, 30, 31, 32, 33, 34, 35, 36, 37, 38, 39, 40, 41, 42, 43, 44, 45, 46, 47, 48, 49, 51, 52, 53, 54] (by decide +kernel) (by decide +kernel)
set_option maxRecDepth 20000 in
theorem gX4_letterAt_J4_charAt_5068e : GoodIn wsX4_letterAt (wsV RX4 26 RJ4 yJ4_charAt_5068e wsJ4_charAt_5068e) := goodIn_app (goodIn_of _ (by decide +kernel)) ggX4_letterAt_J4_charAt_5068e
theorem dX4_letterAt_0 : decode cX4_letterAt 0 = .ok (.iload_n 1, 1) := by decide +kernel
theorem dX4_letterAt_1 : decode cX4_letterAt 1 = .ok (.iconst 0, 1) := by decide +kernel
theorem dX4_letterAt_2 : decode cX4_letterAt 2 = .ok (.aload_n 0, 1) := by decide +kernel
theorem dX4_letterAt_3 : decode cX4_letterAt 3 = .ok (.getfield 12, 3) := by decide +kernel
theorem dX4_letterAt_6 : decode cX4_letterAt 6 = .ok (.invokevirtual 18, 3) := by decide +kernel
theorem dX4_letterAt_9 : decode cX4_letterAt 9 = .ok (.iconst 1, 1) := by decide +kernel
theorem dX4_letterAt_10 : decode cX4_letterAt 10 = .ok (.isub, 1) := by decide +kernel
theorem dX4_letterAt_11 : decode cX4_letterAt 11 = .ok (.invokestatic 22, 3) := by decide +kernel
theorem dX4_letterAt_14 : decode cX4_letterAt 14 = .ok (.ifCond .eq 14, 3) := by decide +kernel
theorem dX4_letterAt_17 : decode cX4_letterAt 17 = .ok (.aload_n 0, 1) := by decide +kernel
theorem dX4_letterAt_18 : decode cX4_letterAt 18 = .ok (.getfield 12, 3) := by decide +kernel
theorem dX4_letterAt_21 : decode cX4_letterAt 21 = .ok (.iload_n 1, 1) := by decide +kernel
theorem dX4_letterAt_22 : decode cX4_letterAt 22 = .ok (.invokevirtual 26, 3) := by decide +kernel
theorem dX4_letterAt_25 : decode cX4_letterAt 25 = .ok (.goto 4, 3) := by decide +kernel
theorem dX4_letterAt_28 : decode cX4_letterAt 28 = .ok (.iconst 0, 1) := by decide +kernel
theorem dX4_letterAt_29 : decode cX4_letterAt 29 = .ok (.ireturn, 1) := by decide +kernel
set_option maxRecDepth 20000 in
theorem ggX4_add_J4_append_cf468 : GoodIn wsX4_add wsJ4_append_cf468 := goodIn_r _ [6, 7, 8, 9, 10, 11, 12, 13, 14, 15, 16, 17, 18, 19, 20, 21, 22, 23, 24, 25, 26, 27, 28, 29, 30, 31, 32, 33, 34, 35, 36, 37, 38, 39, 40, 41, 42, 43, 44, 45, 46, 47, 48, 49, 50, 51, 52, 53, 54, 55, 56, 57, 58, 59, 60, 61, 62, 63, 64, 65, 66, 67, 68, 69, 70, 71, 72, 73, 74, 75, 76, 77, 78, 79, 80, 81, 82, 83, 84, 85, 86, 87, 88, 89, 90, 91, 92, 93, 94, 95, 96, 97, 98, 99, 100, 101, 102, 103, 104, 105, 106, 107, 108, 109, 110, 111, 112, 113, 114, 115, 116, 117, 118, 120, 121, 122, 123] (by decide +kernel) (by decide +kernel)
set_option maxRecDepth 20000 in
theorem gX4_add_J4_append_cf468 : GoodIn wsX4_add (wsV RX4 30 RJ4 yJ4_append_cf468 wsJ4_append_cf468) := goodIn_app (goodIn_of _ (by decide +kernel)) ggX4_add_J4_append_cf468
theorem dX4_add_0 : decode cX4_add 0 = .ok (.aload_n 0, 1) := by decide +kernel
theorem dX4_add_1 : decode cX4_add 1 = .ok (.getfield 12, 3) := by decide +kernel
theorem dX4_add_4 : decode cX4_add 4 = .ok (.iload_n 1, 1) := by decide +kernel
theorem dX4_add_5 : decode cX4_add 5 = .ok (.invokevirtual 30, 3) := by decide +kernel
theorem dX4_add_8 : decode cX4_add 8 = .ok (.pop, 1) := by decide +kernel
theorem dX4_add_9 : decode cX4_add 9 = .ok (.return_, 1) := by decide +kernel
set_option maxRecDepth 20000 in
theorem ggX4_clear_J4_setLength_d00df : GoodIn wsX4_clear wsJ4_setLength_d00df := goodIn_r _ [6, 7, 8, 9, 10, 11, 12, 13, 14, 15, 16, 17, 18, 19, 20, 21, 22, 23, 24, 25, 26, 27, 28, 29, 30, 31, 32, 33, 34, 35, 36, 37, 38, 39, 40, 41, 42, 43, 44, 45, 46, 47, 48, 49, 50, 51, 52, 53, 54, 55, 56, 57, 58, 59, 60, 61, 62, 63, 64, 65, 66, 67, 68, 69, 70, 71, 72, 73, 74, 75, 76, 77, 78, 80, 81, 82, 83] (by decide +kernel) (by decide +kernel)
set_option maxRecDepth 20000 in
theorem gX4_clear_J4_setLength_d00df : GoodIn wsX4_clear (wsV RX4 34 RJ4 yJ4_setLength_d00df wsJ4_setLength_d00df) := goodIn_app (goodIn_of _ (by decide +kernel)) ggX4_clear_J4_setLength_d00df
theorem dX4_clear_0 : decode cX4_clear 0 = .ok (.aload_n 0, 1) := by decide +kernel
theorem dX4_clear_1 : decode cX4_clear 1 = .ok (.getfield 12, 3) := by decide +kernel
theorem dX4_clear_4 : decode cX4_clear 4 = .ok (.iconst 0, 1) := by decide +kernel
theorem dX4_clear_5 : decode cX4_clear 5 = .ok (.invokevirtual 34, 3) := by decide +kernel
theorem dX4_clear_8 : decode cX4_clear 8 = .ok (.return_, 1) := by decide +kernel
set_option maxRecDepth 20000 in
theorem ggX4_text_J4_toString_0e30d : GoodIn wsX4_text wsJ4_toString_0e30d := goodIn_r _ [6, 7, 8, 9, 10, 11, 12, 13, 14, 15, 16, 17, 18, 19, 20, 21, 22, 23, 24, 25, 26, 27, 28, 29, 30, 31, 32, 33, 34, 5, 35, 36, 37, 38, 39, 40, 41, 42, 43, 44, 45, 46, 47, 48, 49, 50, 51, 52, 53, 54, 55, 56, 57, 58, 59, 60, 61, 62, 63, 64, 65, 66, 67, 68, 69, 70, 71, 72, 73, 74, 75, 76, 77, 78, 79, 80, 81, 82, 83, 84, 85, 86, 87, 88, 89, 90, 91, 92, 93, 94, 95, 96, 97, 98, 99, 100, 101, 102, 103, 104, 105, 106, 107, 109, 110, 111, 112, 113, 114, 115, 116] (by decide +kernel) (by decide +kernel)
set_option maxRecDepth 20000 in
theorem gX4_text_J4_toString_0e30d : GoodIn wsX4_text (wsV RX4 38 RJ4 yJ4_toString_0e30d wsJ4_toString_0e30d) := goodIn_app (goodIn_of _ (by decide +kernel)) ggX4_text_J4_toString_0e30d
theorem dX4_text_0 : decode cX4_text 0 = .ok (.aload_n 0, 1) := by decide +kernel
theorem dX4_text_1 : decode cX4_text 1 = .ok (.getfield 12, 3) := by decide +kernel
theorem dX4_text_4 : decode cX4_text 4 = .ok (.invokevirtual 38, 3) := by decide +kernel
theorem dX4_text_7 : decode cX4_text 7 = .ok (.areturn, 1) := by decide +kernel
set_option maxRecDepth 20000 in
theorem ggX4_wide_X4_form : GoodIn wsX4_wide wsX4_form := goodIn_r _ [5, 6, 7, 8, 4, 9, 10, 11, 12, 13, 14, 15, 16, 17, 18, 19, 20, 21, 22, 23, 24, 25, 26, 27, 28, 29, 30, 31, 32, 33, 34, 35, 36, 37, 38, 39, 40, 41, 42, 43, 44, 45, 46, 47, 48, 49, 50, 51, 52, 53, 54, 55, 56, 57, 58, 64, 65, 66, 67, 68] (by decide +kernel) (by decide +kernel)
set_option maxRecDepth 20000 in
theorem gX4_wide_X4_form : GoodIn wsX4_wide (wsV RX4 42 RX4 yX4_form wsX4_form) := goodIn_app (goodIn_of _ (by decide +kernel)) ggX4_wide_X4_form
set_option maxRecDepth 20000 in
theorem ggX4_wide_J0_isEmpty_aae02 : GoodIn wsX4_wide wsJ0_isEmpty_aae02 := goodIn_r _ [62, 63, 69, 70, 71, 72] (by decide +kernel) (by decide +kernel)
set_option maxRecDepth 20000 in
theorem gX4_wide_J0_isEmpty_aae02 : GoodIn wsX4_wide (wsV RX4 45 RJ0 yJ0_isEmpty_aae02 wsJ0_isEmpty_aae02) := goodIn_app (goodIn_of _ (by decide +kernel)) ggX4_wide_J0_isEmpty_aae02
set_option maxRecDepth 20000 in
theorem ggX4_wide_X4_letterAt : GoodIn wsX4_wide wsX4_letterAt := goodIn_r _ [9, 10, 11, 12, 13, 14, 15, 16, 17, 18, 19, 20, 21, 22, 23, 24, 25, 26, 27, 28, 29, 30, 31, 32, 33, 34, 35, 36, 37, 38, 39, 40, 41, 42, 43, 44, 45, 46, 47, 48, 49, 50, 51, 52, 53, 54, 55, 56, 57, 58, 64, 65, 66, 67, 68] (by decide +kernel) (by decide +kernel)
set_option maxRecDepth 20000 in
theorem gX4_wide_X4_letterAt : GoodIn wsX4_wide (wsV RX4 51 RX4 yX4_letterAt wsX4_letterAt) := goodIn_app (goodIn_of _ (by decide +kernel)) ggX4_wide_X4_letterAt
theorem dX4_wide_0 : decode cX4_wide 0 = .ok (.aload_n 0, 1) := by decide +kernel
theorem dX4_wide_1 : decode cX4_wide 1 = .ok (.invokevirtual 42, 3) := by decide +kernel
theorem dX4_wide_4 : decode cX4_wide 4 = .ok (.invokevirtual 45, 3) := by decide +kernel
theorem dX4_wide_7 : decode cX4_wide 7 = .ok (.ifCond .eq 7, 3) := by decide +kernel
theorem dX4_wide_10 : decode cX4_wide 10 = .ok (.iconst 0, 1) := by decide +kernel
theorem dX4_wide_11 : decode cX4_wide 11 = .ok (.goto 11, 3) := by decide +kernel
theorem dX4_wide_14 : decode cX4_wide 14 = .ok (.aload_n 0, 1) := by decide +kernel
theorem dX4_wide_15 : decode cX4_wide 15 = .ok (.iconst 0, 1) := by decide +kernel
theorem dX4_wide_16 : decode cX4_wide 16 = .ok (.invokevirtual 51, 3) := by decide +kernel
theorem dX4_wide_19 : decode cX4_wide 19 = .ok (.bipush 48, 2) := by decide +kernel
theorem dX4_wide_21 : decode cX4_wide 21 = .ok (.isub, 1) := by decide +kernel
theorem dX4_wide_22 : decode cX4_wide 22 = .ok (.ireturn, 1) := by decide +kernel
set_option maxRecDepth 20000 in
theorem ggX4_isPile_J4_length_8abf5 : GoodIn wsX4_isPile wsJ4_length_8abf5 := goodIn_r _ [6, 7, 8, 9, 10, 11, 12, 13, 160, 161, 162, 163] (by decide +kernel) (by decide +kernel)
set_option maxRecDepth 20000 in
theorem gX4_isPile_J4_length_8abf5 : GoodIn wsX4_isPile (wsV RX4 18 RJ4 yJ4_length_8abf5 wsJ4_length_8abf5) := goodIn_app (goodIn_of _ (by decide +kernel)) ggX4_isPile_J4_length_8abf5
set_option maxRecDepth 20000 in
theorem ggX4_isPile_X4_form : GoodIn wsX4_isPile wsX4_form := goodIn_r _ [18, 19, 20, 21, 17, 22, 1, 2, 3, 4, 5, 6, 7, 8, 9, 10, 11, 12, 13, 23, 24, 25, 26, 27, 28, 29, 30, 31, 32, 33, 34, 35, 36, 37, 38, 39, 40, 41, 42, 43, 44, 45, 46, 47, 48, 49, 50, 51, 52, 53, 54, 55, 56, 57, 58, 159, 160, 161, 162, 163] (by decide +kernel) (by decide +kernel)
set_option maxRecDepth 20000 in
theorem gX4_isPile_X4_form : GoodIn wsX4_isPile (wsV RX4 42 RX4 yX4_form wsX4_form) := goodIn_app (goodIn_of _ (by decide +kernel)) ggX4_isPile_X4_form
set_option maxRecDepth 20000 in
theorem ggX4_isPile_J0_length_8abf5 : GoodIn wsX4_isPile wsJ0_length_8abf5 := goodIn_r _ [62, 63, 64, 65, 66, 42, 67, 68, 69, 164, 165, 166, 167] (by decide +kernel) (by decide +kernel)
set_option maxRecDepth 20000 in
theorem gX4_isPile_J0_length_8abf5 : GoodIn wsX4_isPile (wsV RX4 55 RJ0 yJ0_length_8abf5 wsJ0_length_8abf5) := goodIn_app (goodIn_of _ (by decide +kernel)) ggX4_isPile_J0_length_8abf5
set_option maxRecDepth 20000 in
theorem ggX4_isPile_X4_firstFault : GoodIn wsX4_isPile wsX4_firstFault := goodIn_r _ [73, 1, 14, 15, 16, 17, 18, 19, 20, 21, 22, 2, 3, 4, 5, 6, 7, 8, 9, 10, 11, 12, 13, 23, 24, 25, 26, 27, 28, 29, 30, 31, 32, 33, 34, 35, 36, 37, 38, 39, 40, 41, 42, 43, 44, 45, 46, 47, 48, 49, 50, 51, 52, 53, 54, 55, 56, 57, 58, 59, 60, 61, 62, 63, 64, 65, 66, 67, 68, 69, 74, 75, 76, 77, 78, 79, 80, 81, 82, 83, 84, 85, 86, 87, 88, 89, 90, 91, 92, 93, 94, 95, 96, 97, 98, 99, 100, 101, 102, 103, 104, 105, 106, 107, 108, 109, 110, 111, 112, 113, 114, 115, 116, 117, 118, 119, 120, 121, 122, 123, 124, 125, 126, 127, 128, 129, 130, 131, 132, 133, 134, 135, 136, 137, 138, 139, 140, 141, 142, 143, 144, 145, 146, 147, 148, 149, 150, 151, 152, 153, 154, 155, 156, 157, 158, 159, 160, 161, 162, 163, 164, 165, 166, 167] (by decide +kernel) (by decide +kernel)
set_option maxRecDepth 20000 in
theorem gX4_isPile_X4_firstFault : GoodIn wsX4_isPile (wsV RX4 56 RX4 yX4_firstFault wsX4_firstFault) := goodIn_app (goodIn_of _ (by decide +kernel)) ggX4_isPile_X4_firstFault
theorem dX4_isPile_0 : decode cX4_isPile 0 = .ok (.aload_n 0, 1) := by decide +kernel
theorem dX4_isPile_1 : decode cX4_isPile 1 = .ok (.getfield 12, 3) := by decide +kernel
theorem dX4_isPile_4 : decode cX4_isPile 4 = .ok (.invokevirtual 18, 3) := by decide +kernel
theorem dX4_isPile_7 : decode cX4_isPile 7 = .ok (.istore_n 1, 1) := by decide +kernel
theorem dX4_isPile_8 : decode cX4_isPile 8 = .ok (.iload_n 1, 1) := by decide +kernel
theorem dX4_isPile_9 : decode cX4_isPile 9 = .ok (.ifCond .le 26, 3) := by decide +kernel
theorem dX4_isPile_12 : decode cX4_isPile 12 = .ok (.iload_n 1, 1) := by decide +kernel
theorem dX4_isPile_13 : decode cX4_isPile 13 = .ok (.aload_n 0, 1) := by decide +kernel
theorem dX4_isPile_14 : decode cX4_isPile 14 = .ok (.invokevirtual 42, 3) := by decide +kernel
theorem dX4_isPile_17 : decode cX4_isPile 17 = .ok (.invokevirtual 55, 3) := by decide +kernel
theorem dX4_isPile_20 : decode cX4_isPile 20 = .ok (.if_icmp .ne 15, 3) := by decide +kernel
theorem dX4_isPile_23 : decode cX4_isPile 23 = .ok (.aload_n 0, 1) := by decide +kernel
theorem dX4_isPile_24 : decode cX4_isPile 24 = .ok (.invokevirtual 56, 3) := by decide +kernel
theorem dX4_isPile_27 : decode cX4_isPile 27 = .ok (.iload_n 1, 1) := by decide +kernel
theorem dX4_isPile_28 : decode cX4_isPile 28 = .ok (.if_icmp .ne 7, 3) := by decide +kernel
theorem dX4_isPile_31 : decode cX4_isPile 31 = .ok (.iconst 1, 1) := by decide +kernel
theorem dX4_isPile_32 : decode cX4_isPile 32 = .ok (.goto 4, 3) := by decide +kernel
theorem dX4_isPile_35 : decode cX4_isPile 35 = .ok (.iconst 0, 1) := by decide +kernel
theorem dX4_isPile_36 : decode cX4_isPile 36 = .ok (.ireturn, 1) := by decide +kernel
set_option maxRecDepth 20000 in
theorem ggX4_firstFault_X4_form : GoodIn wsX4_firstFault wsX4_form := goodIn_r _ [6, 7, 8, 9, 5, 10, 1, 11, 12, 13, 14, 15, 16, 17, 18, 19, 20, 21, 22, 23, 24, 25, 26, 27, 28, 29, 30, 31, 32, 33, 34, 35, 36, 37, 38, 39, 40, 41, 42, 43, 44, 45, 46, 47, 48, 49, 50, 51, 52, 53, 54, 55, 56, 57, 58, 155, 156, 157, 158, 159] (by decide +kernel) (by decide +kernel)
set_option maxRecDepth 20000 in
theorem gX4_firstFault_X4_form : GoodIn wsX4_firstFault (wsV RX4 42 RX4 yX4_form wsX4_form) := goodIn_app (goodIn_of _ (by decide +kernel)) ggX4_firstFault_X4_form
set_option maxRecDepth 20000 in
theorem ggX4_firstFault_J4_length_8abf5 : GoodIn wsX4_firstFault wsJ4_length_8abf5 := goodIn_r _ [15, 16, 17, 18, 19, 20, 21, 22, 156, 157, 158, 159] (by decide +kernel) (by decide +kernel)
set_option maxRecDepth 20000 in
theorem gX4_firstFault_J4_length_8abf5 : GoodIn wsX4_firstFault (wsV RX4 18 RJ4 yJ4_length_8abf5 wsJ4_length_8abf5) := goodIn_app (goodIn_of _ (by decide +kernel)) ggX4_firstFault_J4_length_8abf5
set_option maxRecDepth 20000 in
theorem ggX4_firstFault_J0_length_8abf5 : GoodIn wsX4_firstFault wsJ0_length_8abf5 := goodIn_r _ [62, 63, 64, 65, 66, 42, 67, 68, 69, 160, 161, 162, 163] (by decide +kernel) (by decide +kernel)
set_option maxRecDepth 20000 in
theorem gX4_firstFault_J0_length_8abf5 : GoodIn wsX4_firstFault (wsV RX4 55 RJ0 yJ0_length_8abf5 wsJ0_length_8abf5) := goodIn_app (goodIn_of _ (by decide +kernel)) ggX4_firstFault_J0_length_8abf5
set_option maxRecDepth 20000 in
theorem ggX4_firstFault_J4_charAt_5068e : GoodIn wsX4_firstFault wsJ4_charAt_5068e := goodIn_r _ [29, 30, 31, 18, 32, 20, 33, 34, 35, 22, 36, 37, 38, 39, 40, 41, 42, 43, 44, 45, 46, 47, 48, 49, 50, 51, 52, 53, 54, 55, 56, 57, 58, 156, 157, 158, 159] (by decide +kernel) (by decide +kernel)
set_option maxRecDepth 20000 in
theorem gX4_firstFault_J4_charAt_5068e : GoodIn wsX4_firstFault (wsV RX4 26 RJ4 yJ4_charAt_5068e wsJ4_charAt_5068e) := goodIn_app (goodIn_of _ (by decide +kernel)) ggX4_firstFault_J4_charAt_5068e
set_option maxRecDepth 20000 in
theorem ggX4_firstFault_J0_charAt_5068e : GoodIn wsX4_firstFault wsJ0_charAt_5068e := goodIn_r _ [73, 63, 74, 75, 76, 42, 77, 68, 69, 78, 79, 80, 81, 82, 41, 43, 44, 45, 46, 47, 48, 83, 84, 51, 85, 86, 87, 88, 56, 57, 58, 89, 90, 50, 52, 53, 54, 55, 160, 161, 162, 163] (by decide +kernel) (by decide +kernel)
set_option maxRecDepth 20000 in
theorem gX4_firstFault_J0_charAt_5068e : GoodIn wsX4_firstFault (wsV RX4 59 RJ0 yJ0_charAt_5068e wsJ0_charAt_5068e) := goodIn_app (goodIn_of _ (by decide +kernel)) ggX4_firstFault_J0_charAt_5068e
set_option maxRecDepth 20000 in
theorem ggX4_firstFault_X4_suits : GoodIn wsX4_firstFault wsX4_suits := goodIn_r _ [93, 94, 95, 96, 42, 97, 98, 99, 100, 101, 63, 74, 75, 76, 77, 68, 69, 102, 60, 61, 62, 64, 65, 66, 67, 103, 104, 80, 105, 106, 107, 38, 108, 109, 37, 39, 110, 111, 112, 113, 114, 115, 116, 117, 51, 118, 119, 120, 121, 122, 123, 124, 125, 126, 127, 56, 57, 58, 128, 129, 130, 44, 131, 132, 47, 133, 134, 135, 136, 90, 50, 52, 53, 54, 55, 137, 138, 139, 140, 141, 142, 143, 144, 145, 146, 147, 148, 149, 150, 151, 152, 24, 153, 154, 23, 25, 160, 161, 162, 163] (by decide +kernel) (by decide +kernel)
set_option maxRecDepth 20000 in
theorem gX4_firstFault_X4_suits : GoodIn wsX4_firstFault (va_wsS RX4 60 yX4_suits wsX4_suits) := goodIn_app (goodIn_of _ (by decide +kernel)) ggX4_firstFault_X4_suits
theorem dX4_firstFault_0 : decode cX4_firstFault 0 = .ok (.aload_n 0, 1) := by decide +kernel
theorem dX4_firstFault_1 : decode cX4_firstFault 1 = .ok (.invokevirtual 42, 3) := by decide +kernel
theorem dX4_firstFault_4 : decode cX4_firstFault 4 = .ok (.astore_n 1, 1) := by decide +kernel
theorem dX4_firstFault_5 : decode cX4_firstFault 5 = .ok (.iconst 0, 1) := by decide +kernel
theorem dX4_firstFault_6 : decode cX4_firstFault 6 = .ok (.istore_n 2, 1) := by decide +kernel
theorem dX4_firstFault_7 : decode cX4_firstFault 7 = .ok (.iload_n 2, 1) := by decide +kernel
theorem dX4_firstFault_8 : decode cX4_firstFault 8 = .ok (.aload_n 0, 1) := by decide +kernel
theorem dX4_firstFault_9 : decode cX4_firstFault 9 = .ok (.getfield 12, 3) := by decide +kernel
theorem dX4_firstFault_12 : decode cX4_firstFault 12 = .ok (.invokevirtual 18, 3) := by decide +kernel
theorem dX4_firstFault_15 : decode cX4_firstFault 15 = .ok (.if_icmp .ge 38, 3) := by decide +kernel
theorem dX4_firstFault_18 : decode cX4_firstFault 18 = .ok (.iload_n 2, 1) := by decide +kernel
theorem dX4_firstFault_19 : decode cX4_firstFault 19 = .ok (.aload_n 1, 1) := by decide +kernel
theorem dX4_firstFault_20 : decode cX4_firstFault 20 = .ok (.invokevirtual 55, 3) := by decide +kernel
theorem dX4_firstFault_23 : decode cX4_firstFault 23 = .ok (.if_icmp .ge 22, 3) := by decide +kernel
theorem dX4_firstFault_26 : decode cX4_firstFault 26 = .ok (.aload_n 0, 1) := by decide +kernel
theorem dX4_firstFault_27 : decode cX4_firstFault 27 = .ok (.getfield 12, 3) := by decide +kernel
theorem dX4_firstFault_30 : decode cX4_firstFault 30 = .ok (.iload_n 2, 1) := by decide +kernel
theorem dX4_firstFault_31 : decode cX4_firstFault 31 = .ok (.invokevirtual 26, 3) := by decide +kernel
theorem dX4_firstFault_34 : decode cX4_firstFault 34 = .ok (.aload_n 1, 1) := by decide +kernel
theorem dX4_firstFault_35 : decode cX4_firstFault 35 = .ok (.iload_n 2, 1) := by decide +kernel
theorem dX4_firstFault_36 : decode cX4_firstFault 36 = .ok (.invokevirtual 59, 3) := by decide +kernel
theorem dX4_firstFault_39 : decode cX4_firstFault 39 = .ok (.invokestatic 60, 3) := by decide +kernel
theorem dX4_firstFault_42 : decode cX4_firstFault 42 = .ok (.ifCond .ne 5, 3) := by decide +kernel
theorem dX4_firstFault_45 : decode cX4_firstFault 45 = .ok (.iload_n 2, 1) := by decide +kernel
theorem dX4_firstFault_46 : decode cX4_firstFault 46 = .ok (.ireturn, 1) := by decide +kernel
theorem dX4_firstFault_47 : decode cX4_firstFault 47 = .ok (.iinc 2 1, 3) := by decide +kernel
theorem dX4_firstFault_50 : decode cX4_firstFault 50 = .ok (.goto (-43), 3) := by decide +kernel
theorem dX4_firstFault_53 : decode cX4_firstFault 53 = .ok (.aload_n 0, 1) := by decide +kernel
theorem dX4_firstFault_54 : decode cX4_firstFault 54 = .ok (.getfield 12, 3) := by decide +kernel
theorem dX4_firstFault_57 : decode cX4_firstFault 57 = .ok (.invokevirtual 18, 3) := by decide +kernel
theorem dX4_firstFault_60 : decode cX4_firstFault 60 = .ok (.ireturn, 1) := by decide +kernel
set_option maxRecDepth 20000 in
theorem ggX4_form_X4_letterAt : GoodIn wsX4_form wsX4_letterAt := goodIn_r _ [5, 6, 7, 8, 9, 10, 11, 12, 13, 14, 15, 16, 17, 18, 19, 20, 21, 22, 23, 24, 25, 26, 27, 28, 29, 30, 31, 32, 33, 34, 35, 36, 37, 38, 39, 40, 41, 42, 43, 44, 45, 46, 47, 48, 49, 50, 51, 52, 53, 54, 55, 56, 57, 58, 59] (by decide +kernel) (by decide +kernel)
set_option maxRecDepth 20000 in
theorem gX4_form_X4_letterAt : GoodIn wsX4_form (wsV RX4 51 RX4 yX4_letterAt wsX4_letterAt) := goodIn_app (goodIn_of _ (by decide +kernel)) ggX4_form_X4_letterAt
theorem dX4_form_0 : decode cX4_form 0 = .ok (.aload_n 0, 1) := by decide +kernel
theorem dX4_form_1 : decode cX4_form 1 = .ok (.iconst 0, 1) := by decide +kernel
theorem dX4_form_2 : decode cX4_form 2 = .ok (.invokevirtual 51, 3) := by decide +kernel
theorem dX4_form_5 : decode cX4_form 5 = .ok (.tableswitch 36 50 52 #[27, 30, 33], 27) := by decide +kernel
theorem dX4_form_32 : decode cX4_form 32 = .ok (.ldc 64, 2) := by decide +kernel
theorem dX4_form_34 : decode cX4_form 34 = .ok (.areturn, 1) := by decide +kernel
theorem dX4_form_35 : decode cX4_form 35 = .ok (.ldc 66, 2) := by decide +kernel
theorem dX4_form_37 : decode cX4_form 37 = .ok (.areturn, 1) := by decide +kernel
theorem dX4_form_38 : decode cX4_form 38 = .ok (.ldc 68, 2) := by decide +kernel
theorem dX4_form_40 : decode cX4_form 40 = .ok (.areturn, 1) := by decide +kernel
theorem dX4_form_41 : decode cX4_form 41 = .ok (.ldc 70, 2) := by decide +kernel
theorem dX4_form_43 : decode cX4_form 43 = .ok (.areturn, 1) := by decide +kernel
set_option maxRecDepth 20000 in
theorem ggX4_suits_J0_indexOf_0f7a4 : GoodIn wsX4_suits wsJ0_indexOf_0f7a4 := goodIn_r _ [5, 6, 7, 8, 4, 9, 10, 11, 12, 13, 14, 15, 16, 17, 18, 19, 20, 21, 22, 23, 24, 25, 26, 27, 28, 29, 30, 31, 32, 33, 34, 35, 36, 37, 38, 39, 40, 41, 42, 43, 44, 45, 46, 47, 48, 49, 50, 51, 52, 53, 54, 55, 56, 57, 58, 59, 60, 61, 62, 63, 64, 65, 66, 67, 68, 69, 70, 71, 72, 73, 74, 75, 76, 77, 78, 79, 80, 81, 82, 83, 84, 85, 86, 87, 88, 89, 96, 97, 98, 99] (by decide +kernel) (by decide +kernel)
set_option maxRecDepth 20000 in
theorem gX4_suits_J0_indexOf_0f7a4 : GoodIn wsX4_suits (wsV RX4 74 RJ0 yJ0_indexOf_0f7a4 wsJ0_indexOf_0f7a4) := goodIn_app (goodIn_of _ (by decide +kernel)) ggX4_suits_J0_indexOf_0f7a4
set_option maxRecDepth 20000 in
theorem ggX4_suits_X10_isDigit : GoodIn wsX4_suits wsX10_isDigit := goodIn_r _ [92, 93, 94, 91, 95] (by decide +kernel) (by decide +kernel)
set_option maxRecDepth 20000 in
theorem gX4_suits_X10_isDigit_n77 : GoodIn wsX4_suits (wsX10_isDigit) := ggX4_suits_X10_isDigit
theorem dX4_suits_0 : decode cX4_suits 0 = .ok (.iload_n 1, 1) := by decide +kernel
theorem dX4_suits_1 : decode cX4_suits 1 = .ok (.bipush 75, 2) := by decide +kernel
theorem dX4_suits_3 : decode cX4_suits 3 = .ok (.if_icmp .ne 18, 3) := by decide +kernel
theorem dX4_suits_6 : decode cX4_suits 6 = .ok (.ldc 72, 2) := by decide +kernel
theorem dX4_suits_8 : decode cX4_suits 8 = .ok (.iload_n 0, 1) := by decide +kernel
theorem dX4_suits_9 : decode cX4_suits 9 = .ok (.invokevirtual 74, 3) := by decide +kernel
theorem dX4_suits_12 : decode cX4_suits 12 = .ok (.ifCond .lt 7, 3) := by decide +kernel
theorem dX4_suits_15 : decode cX4_suits 15 = .ok (.iconst 1, 1) := by decide +kernel
theorem dX4_suits_16 : decode cX4_suits 16 = .ok (.goto 4, 3) := by decide +kernel
theorem dX4_suits_19 : decode cX4_suits 19 = .ok (.iconst 0, 1) := by decide +kernel
theorem dX4_suits_20 : decode cX4_suits 20 = .ok (.ireturn, 1) := by decide +kernel
theorem dX4_suits_21 : decode cX4_suits 21 = .ok (.iload_n 1, 1) := by decide +kernel
theorem dX4_suits_22 : decode cX4_suits 22 = .ok (.bipush 68, 2) := by decide +kernel
theorem dX4_suits_24 : decode cX4_suits 24 = .ok (.if_icmp .ne 11, 3) := by decide +kernel
theorem dX4_suits_27 : decode cX4_suits 27 = .ok (.iload_n 0, 1) := by decide +kernel
theorem dX4_suits_28 : decode cX4_suits 28 = .ok (.bipush 48, 2) := by decide +kernel
theorem dX4_suits_30 : decode cX4_suits 30 = .ok (.isub, 1) := by decide +kernel
theorem dX4_suits_31 : decode cX4_suits 31 = .ok (.invokestatic 77, 3) := by decide +kernel
theorem dX4_suits_34 : decode cX4_suits 34 = .ok (.ireturn, 1) := by decide +kernel
theorem dX4_suits_35 : decode cX4_suits 35 = .ok (.iload_n 0, 1) := by decide +kernel
theorem dX4_suits_36 : decode cX4_suits 36 = .ok (.iload_n 1, 1) := by decide +kernel
theorem dX4_suits_37 : decode cX4_suits 37 = .ok (.if_icmp .ne 7, 3) := by decide +kernel
theorem dX4_suits_40 : decode cX4_suits 40 = .ok (.iconst 1, 1) := by decide +kernel
theorem dX4_suits_41 : decode cX4_suits 41 = .ok (.goto 4, 3) := by decide +kernel
theorem dX4_suits_44 : decode cX4_suits 44 = .ok (.iconst 0, 1) := by decide +kernel
theorem dX4_suits_45 : decode cX4_suits 45 = .ok (.ireturn, 1) := by decide +kernel
set_option maxRecDepth 20000 in
theorem ggX5_init_X8_init : GoodIn wsX5_init wsX8_init := goodIn_r _ [28, 29, 2, 3, 7, 30, 31, 32, 33, 34, 35, 36, 37, 38, 76, 77, 78, 79, 80, 81] (by decide +kernel) (by decide +kernel)
set_option maxRecDepth 20000 in
theorem gX5_init_X8_init : GoodIn wsX5_init (wsX8_init) := ggX5_init_X8_init
set_option maxRecDepth 20000 in
theorem ggX5_init_X6_init : GoodIn wsX5_init wsX6_init := goodIn_r _ [41, 42, 2, 3, 43, 44, 45, 7, 46, 47, 48, 82, 83, 84, 85, 86, 87] (by decide +kernel) (by decide +kernel)
set_option maxRecDepth 20000 in
theorem gX5_init_X6_init : GoodIn wsX5_init (wsX6_init) := ggX5_init_X6_init
set_option maxRecDepth 20000 in
theorem ggX5_init_X12_init : GoodIn wsX5_init wsX12_init := goodIn_r _ [51, 52, 2, 3, 7, 53, 54, 88, 89] (by decide +kernel) (by decide +kernel)
set_option maxRecDepth 20000 in
theorem gX5_init_X12_init : GoodIn wsX5_init (wsX12_init) := ggX5_init_X12_init
set_option maxRecDepth 20000 in
theorem ggX5_init_J7_fill_53178 : GoodIn wsX5_init wsJ7_fill_53178 := goodIn_r _ [38] (by decide +kernel) (by decide +kernel)
set_option maxRecDepth 20000 in
theorem gX5_init_J7_fill_53178 : GoodIn wsX5_init (va_wsS RX5 69 yJ7_fill_53178 wsJ7_fill_53178) := goodIn_app (goodIn_of _ (by decide +kernel)) ggX5_init_J7_fill_53178
set_option maxRecDepth 20000 in
theorem ggX5_init_X5_setLeftBelow : GoodIn wsX5_init wsX5_setLeftBelow := goodIn_r _ [60, 8, 5, 6, 55, 36, 37, 38, 61, 62, 63, 64, 65, 66, 67, 68, 69, 70, 71, 72, 73, 74, 75] (by decide +kernel) (by decide +kernel)
set_option maxRecDepth 20000 in
theorem gX5_init_X5_setLeftBelow : GoodIn wsX5_init (wsV RX5 75 RX5 yX5_setLeftBelow wsX5_setLeftBelow) := goodIn_app (goodIn_of _ (by decide +kernel)) ggX5_init_X5_setLeftBelow
theorem dX5_init_0 : decode cX5_init 0 = .ok (.aload_n 0, 1) := by decide +kernel
theorem dX5_init_1 : decode cX5_init 1 = .ok (.invokespecial 3, 3) := by decide +kernel
theorem dX5_init_4 : decode cX5_init 4 = .ok (.aload_n 0, 1) := by decide +kernel
theorem dX5_init_5 : decode cX5_init 5 = .ok (.aload_n 2, 1) := by decide +kernel
theorem dX5_init_6 : decode cX5_init 6 = .ok (.putfield 9, 3) := by decide +kernel
theorem dX5_init_9 : decode cX5_init 9 = .ok (.aload_n 0, 1) := by decide +kernel
theorem dX5_init_10 : decode cX5_init 10 = .ok (.iload_n 1, 1) := by decide +kernel
theorem dX5_init_11 : decode cX5_init 11 = .ok (.putfield 15, 3) := by decide +kernel
theorem dX5_init_14 : decode cX5_init 14 = .ok (.aload_n 0, 1) := by decide +kernel
theorem dX5_init_15 : decode cX5_init 15 = .ok (.iload_n 1, 1) := by decide +kernel
theorem dX5_init_16 : decode cX5_init 16 = .ok (.iload_n 1, 1) := by decide +kernel
theorem dX5_init_17 : decode cX5_init 17 = .ok (.iconst 1, 1) := by decide +kernel
theorem dX5_init_18 : decode cX5_init 18 = .ok (.iadd, 1) := by decide +kernel
theorem dX5_init_19 : decode cX5_init 19 = .ok (.imul, 1) := by decide +kernel
theorem dX5_init_20 : decode cX5_init 20 = .ok (.iconst 2, 1) := by decide +kernel
theorem dX5_init_21 : decode cX5_init 21 = .ok (.idiv, 1) := by decide +kernel
theorem dX5_init_22 : decode cX5_init 22 = .ok (.putfield 19, 3) := by decide +kernel
theorem dX5_init_25 : decode cX5_init 25 = .ok (.aload_n 0, 1) := by decide +kernel
theorem dX5_init_26 : decode cX5_init 26 = .ok (.aload_n 0, 1) := by decide +kernel
theorem dX5_init_27 : decode cX5_init 27 = .ok (.getfield 19, 3) := by decide +kernel
theorem dX5_init_30 : decode cX5_init 30 = .ok (.newarray .int, 2) := by decide +kernel
theorem dX5_init_32 : decode cX5_init 32 = .ok (.putfield 22, 3) := by decide +kernel
theorem dX5_init_35 : decode cX5_init 35 = .ok (.aload_n 0, 1) := by decide +kernel
theorem dX5_init_36 : decode cX5_init 36 = .ok (.new 26, 3) := by decide +kernel
theorem dX5_init_39 : decode cX5_init 39 = .ok (.dup, 1) := by decide +kernel
theorem dX5_init_40 : decode cX5_init 40 = .ok (.iload_n 1, 1) := by decide +kernel
theorem dX5_init_41 : decode cX5_init 41 = .ok (.aload_n 0, 1) := by decide +kernel
theorem dX5_init_42 : decode cX5_init 42 = .ok (.getfield 19, 3) := by decide +kernel
theorem dX5_init_45 : decode cX5_init 45 = .ok (.invokespecial 28, 3) := by decide +kernel
theorem dX5_init_48 : decode cX5_init 48 = .ok (.putfield 31, 3) := by decide +kernel
theorem dX5_init_51 : decode cX5_init 51 = .ok (.aload_n 0, 1) := by decide +kernel
theorem dX5_init_52 : decode cX5_init 52 = .ok (.new 26, 3) := by decide +kernel
theorem dX5_init_55 : decode cX5_init 55 = .ok (.dup, 1) := by decide +kernel
theorem dX5_init_56 : decode cX5_init 56 = .ok (.iload_n 1, 1) := by decide +kernel
theorem dX5_init_57 : decode cX5_init 57 = .ok (.aload_n 0, 1) := by decide +kernel
theorem dX5_init_58 : decode cX5_init 58 = .ok (.getfield 19, 3) := by decide +kernel
theorem dX5_init_61 : decode cX5_init 61 = .ok (.invokespecial 28, 3) := by decide +kernel
theorem dX5_init_64 : decode cX5_init 64 = .ok (.putfield 35, 3) := by decide +kernel
theorem dX5_init_67 : decode cX5_init 67 = .ok (.aload_n 0, 1) := by decide +kernel
theorem dX5_init_68 : decode cX5_init 68 = .ok (.aload_n 0, 1) := by decide +kernel
theorem dX5_init_69 : decode cX5_init 69 = .ok (.getfield 19, 3) := by decide +kernel
theorem dX5_init_72 : decode cX5_init 72 = .ok (.newarray .int, 2) := by decide +kernel
theorem dX5_init_74 : decode cX5_init 74 = .ok (.putfield 38, 3) := by decide +kernel
theorem dX5_init_77 : decode cX5_init 77 = .ok (.aload_n 0, 1) := by decide +kernel
theorem dX5_init_78 : decode cX5_init 78 = .ok (.aload_n 0, 1) := by decide +kernel
theorem dX5_init_79 : decode cX5_init 79 = .ok (.getfield 19, 3) := by decide +kernel
theorem dX5_init_82 : decode cX5_init 82 = .ok (.newarray .int, 2) := by decide +kernel
theorem dX5_init_84 : decode cX5_init 84 = .ok (.putfield 41, 3) := by decide +kernel
theorem dX5_init_87 : decode cX5_init 87 = .ok (.aload_n 0, 1) := by decide +kernel
theorem dX5_init_88 : decode cX5_init 88 = .ok (.iload_n 1, 1) := by decide +kernel
theorem dX5_init_89 : decode cX5_init 89 = .ok (.bipush 10, 2) := by decide +kernel
theorem dX5_init_91 : decode cX5_init 91 = .ok (.imul, 1) := by decide +kernel
theorem dX5_init_92 : decode cX5_init 92 = .ok (.newarray .int, 2) := by decide +kernel
theorem dX5_init_94 : decode cX5_init 94 = .ok (.putfield 44, 3) := by decide +kernel
theorem dX5_init_97 : decode cX5_init 97 = .ok (.aload_n 0, 1) := by decide +kernel
theorem dX5_init_98 : decode cX5_init 98 = .ok (.new 47, 3) := by decide +kernel
theorem dX5_init_101 : decode cX5_init 101 = .ok (.dup, 1) := by decide +kernel
theorem dX5_init_102 : decode cX5_init 102 = .ok (.iload_n 1, 1) := by decide +kernel
theorem dX5_init_103 : decode cX5_init 103 = .ok (.aload_n 2, 1) := by decide +kernel
theorem dX5_init_104 : decode cX5_init 104 = .ok (.aload_n 0, 1) := by decide +kernel
theorem dX5_init_105 : decode cX5_init 105 = .ok (.getfield 31, 3) := by decide +kernel
theorem dX5_init_108 : decode cX5_init 108 = .ok (.getfield 49, 3) := by decide +kernel
theorem dX5_init_111 : decode cX5_init 111 = .ok (.invokespecial 52, 3) := by decide +kernel
theorem dX5_init_114 : decode cX5_init 114 = .ok (.putfield 55, 3) := by decide +kernel
theorem dX5_init_117 : decode cX5_init 117 = .ok (.aload_n 0, 1) := by decide +kernel
theorem dX5_init_118 : decode cX5_init 118 = .ok (.new 59, 3) := by decide +kernel
theorem dX5_init_121 : decode cX5_init 121 = .ok (.dup, 1) := by decide +kernel
theorem dX5_init_122 : decode cX5_init 122 = .ok (.iload_n 1, 1) := by decide +kernel
theorem dX5_init_123 : decode cX5_init 123 = .ok (.aload_n 0, 1) := by decide +kernel
theorem dX5_init_124 : decode cX5_init 124 = .ok (.getfield 19, 3) := by decide +kernel
theorem dX5_init_127 : decode cX5_init 127 = .ok (.invokespecial 61, 3) := by decide +kernel
theorem dX5_init_130 : decode cX5_init 130 = .ok (.putfield 62, 3) := by decide +kernel
theorem dX5_init_133 : decode cX5_init 133 = .ok (.aload_n 0, 1) := by decide +kernel
theorem dX5_init_134 : decode cX5_init 134 = .ok (.aload_n 0, 1) := by decide +kernel
theorem dX5_init_135 : decode cX5_init 135 = .ok (.getfield 19, 3) := by decide +kernel
theorem dX5_init_138 : decode cX5_init 138 = .ok (.newarray .int, 2) := by decide +kernel
theorem dX5_init_140 : decode cX5_init 140 = .ok (.putfield 66, 3) := by decide +kernel
theorem dX5_init_143 : decode cX5_init 143 = .ok (.aload_n 0, 1) := by decide +kernel
theorem dX5_init_144 : decode cX5_init 144 = .ok (.getfield 66, 3) := by decide +kernel
theorem dX5_init_147 : decode cX5_init 147 = .ok (.iconst (-1), 1) := by decide +kernel
theorem dX5_init_148 : decode cX5_init 148 = .ok (.invokestatic 69, 3) := by decide +kernel
theorem dX5_init_151 : decode cX5_init 151 = .ok (.aload_n 0, 1) := by decide +kernel
theorem dX5_init_152 : decode cX5_init 152 = .ok (.invokevirtual 75, 3) := by decide +kernel
theorem dX5_init_155 : decode cX5_init 155 = .ok (.return_, 1) := by decide +kernel
set_option maxRecDepth 20000 in
theorem ggX5_setLeftBelow_J7_fill_53178 : GoodIn wsX5_setLeftBelow wsJ7_fill_53178 := goodIn_r _ [7] (by decide +kernel) (by decide +kernel)
set_option maxRecDepth 20000 in
theorem gX5_setLeftBelow_J7_fill_53178 : GoodIn wsX5_setLeftBelow (va_wsS RX5 69 yJ7_fill_53178 wsJ7_fill_53178) := goodIn_app (goodIn_of _ (by decide +kernel)) ggX5_setLeftBelow_J7_fill_53178
theorem dX5_setLeftBelow_0 : decode cX5_setLeftBelow 0 = .ok (.aload_n 0, 1) := by decide +kernel
theorem dX5_setLeftBelow_1 : decode cX5_setLeftBelow 1 = .ok (.getfield 22, 3) := by decide +kernel
theorem dX5_setLeftBelow_4 : decode cX5_setLeftBelow 4 = .ok (.iconst (-1), 1) := by decide +kernel
theorem dX5_setLeftBelow_5 : decode cX5_setLeftBelow 5 = .ok (.invokestatic 69, 3) := by decide +kernel
theorem dX5_setLeftBelow_8 : decode cX5_setLeftBelow 8 = .ok (.aload_n 0, 1) := by decide +kernel
theorem dX5_setLeftBelow_9 : decode cX5_setLeftBelow 9 = .ok (.getfield 15, 3) := by decide +kernel
theorem dX5_setLeftBelow_12 : decode cX5_setLeftBelow 12 = .ok (.istore_n 1, 1) := by decide +kernel
theorem dX5_setLeftBelow_13 : decode cX5_setLeftBelow 13 = .ok (.aload_n 0, 1) := by decide +kernel
theorem dX5_setLeftBelow_14 : decode cX5_setLeftBelow 14 = .ok (.getfield 15, 3) := by decide +kernel
theorem dX5_setLeftBelow_17 : decode cX5_setLeftBelow 17 = .ok (.iconst 1, 1) := by decide +kernel
theorem dX5_setLeftBelow_18 : decode cX5_setLeftBelow 18 = .ok (.isub, 1) := by decide +kernel
theorem dX5_setLeftBelow_19 : decode cX5_setLeftBelow 19 = .ok (.istore_n 2, 1) := by decide +kernel
theorem dX5_setLeftBelow_20 : decode cX5_setLeftBelow 20 = .ok (.iload_n 2, 1) := by decide +kernel
theorem dX5_setLeftBelow_21 : decode cX5_setLeftBelow 21 = .ok (.ifCond .le 44, 3) := by decide +kernel
theorem dX5_setLeftBelow_24 : decode cX5_setLeftBelow 24 = .ok (.iconst 0, 1) := by decide +kernel
theorem dX5_setLeftBelow_25 : decode cX5_setLeftBelow 25 = .ok (.istore_n 3, 1) := by decide +kernel
theorem dX5_setLeftBelow_26 : decode cX5_setLeftBelow 26 = .ok (.iload_n 3, 1) := by decide +kernel
theorem dX5_setLeftBelow_27 : decode cX5_setLeftBelow 27 = .ok (.iload_n 2, 1) := by decide +kernel
theorem dX5_setLeftBelow_28 : decode cX5_setLeftBelow 28 = .ok (.if_icmp .ge 31, 3) := by decide +kernel
theorem dX5_setLeftBelow_31 : decode cX5_setLeftBelow 31 = .ok (.iload_n 1, 1) := by decide +kernel
theorem dX5_setLeftBelow_32 : decode cX5_setLeftBelow 32 = .ok (.aload_n 0, 1) := by decide +kernel
theorem dX5_setLeftBelow_33 : decode cX5_setLeftBelow 33 = .ok (.getfield 19, 3) := by decide +kernel
theorem dX5_setLeftBelow_36 : decode cX5_setLeftBelow 36 = .ok (.if_icmp .ge 23, 3) := by decide +kernel
theorem dX5_setLeftBelow_39 : decode cX5_setLeftBelow 39 = .ok (.aload_n 0, 1) := by decide +kernel
theorem dX5_setLeftBelow_40 : decode cX5_setLeftBelow 40 = .ok (.getfield 22, 3) := by decide +kernel
theorem dX5_setLeftBelow_43 : decode cX5_setLeftBelow 43 = .ok (.iload_n 1, 1) := by decide +kernel
theorem dX5_setLeftBelow_44 : decode cX5_setLeftBelow 44 = .ok (.iload_n 1, 1) := by decide +kernel
theorem dX5_setLeftBelow_45 : decode cX5_setLeftBelow 45 = .ok (.iload_n 2, 1) := by decide +kernel
theorem dX5_setLeftBelow_46 : decode cX5_setLeftBelow 46 = .ok (.isub, 1) := by decide +kernel
theorem dX5_setLeftBelow_47 : decode cX5_setLeftBelow 47 = .ok (.iconst 1, 1) := by decide +kernel
theorem dX5_setLeftBelow_48 : decode cX5_setLeftBelow 48 = .ok (.isub, 1) := by decide +kernel
theorem dX5_setLeftBelow_49 : decode cX5_setLeftBelow 49 = .ok (.iastore, 1) := by decide +kernel
theorem dX5_setLeftBelow_50 : decode cX5_setLeftBelow 50 = .ok (.iinc 1 1, 3) := by decide +kernel
theorem dX5_setLeftBelow_53 : decode cX5_setLeftBelow 53 = .ok (.iinc 3 1, 3) := by decide +kernel
theorem dX5_setLeftBelow_56 : decode cX5_setLeftBelow 56 = .ok (.goto (-30), 3) := by decide +kernel
theorem dX5_setLeftBelow_59 : decode cX5_setLeftBelow 59 = .ok (.iinc 2 (-1), 3) := by decide +kernel
theorem dX5_setLeftBelow_62 : decode cX5_setLeftBelow 62 = .ok (.goto (-42), 3) := by decide +kernel
theorem dX5_setLeftBelow_65 : decode cX5_setLeftBelow 65 = .ok (.return_, 1) := by decide +kernel
set_option maxRecDepth 20000 in
theorem ggX5_read_J0_length_8abf5 : GoodIn wsX5_read wsJ0_length_8abf5 := goodIn_r _ [8, 9, 10, 11, 12, 7, 13, 14, 15, 191, 192, 193, 194] (by decide +kernel) (by decide +kernel)
set_option maxRecDepth 20000 in
theorem gX5_read_J0_length_8abf5 : GoodIn wsX5_read (wsV RX5 78 RJ0 yJ0_length_8abf5 wsJ0_length_8abf5) := goodIn_app (goodIn_of _ (by decide +kernel)) ggX5_read_J0_length_8abf5
set_option maxRecDepth 20000 in
theorem ggX5_read_J0_charAt_5068e : GoodIn wsX5_read wsJ0_charAt_5068e := goodIn_r _ [19, 9, 20, 21, 22, 7, 23, 14, 15, 24, 25, 26, 27, 28, 29, 30, 31, 32, 33, 34, 35, 36, 37, 38, 39, 40, 41, 42, 43, 44, 45, 46, 47, 48, 49, 50, 51, 52, 191, 192, 193, 194] (by decide +kernel) (by decide +kernel)
set_option maxRecDepth 20000 in
theorem gX5_read_J0_charAt_5068e : GoodIn wsX5_read (wsV RX5 86 RJ0 yJ0_charAt_5068e wsJ0_charAt_5068e) := goodIn_app (goodIn_of _ (by decide +kernel)) ggX5_read_J0_charAt_5068e
set_option maxRecDepth 20000 in
theorem ggX5_read_J0_indexOf_0f7a4 : GoodIn wsX5_read wsJ0_indexOf_0f7a4 := goodIn_r _ [56, 57, 58, 59, 7, 60, 9, 20, 21, 22, 23, 14, 15, 61, 5, 6, 8, 10, 11, 12, 13, 62, 63, 26, 64, 65, 66, 67, 68, 69, 70, 71, 72, 73, 74, 75, 76, 77, 78, 79, 38, 80, 81, 82, 83, 84, 85, 86, 87, 88, 89, 43, 44, 45, 90, 91, 92, 31, 93, 94, 34, 95, 96, 97, 98, 47, 48, 49, 50, 51, 52, 99, 100, 101, 102, 103, 104, 105, 106, 107, 108, 109, 110, 111, 112, 113, 191, 192, 193, 194] (by decide +kernel) (by decide +kernel)
set_option maxRecDepth 20000 in
theorem gX5_read_J0_indexOf_0f7a4 : GoodIn wsX5_read (wsV RX5 90 RJ0 yJ0_indexOf_0f7a4 wsJ0_indexOf_0f7a4) := goodIn_app (goodIn_of _ (by decide +kernel)) ggX5_read_J0_indexOf_0f7a4
set_option maxRecDepth 20000 in
theorem ggX5_read_X10_isDigit : GoodIn wsX5_read wsX10_isDigit := goodIn_r _ [116, 117, 118, 115, 119] (by decide +kernel) (by decide +kernel)
set_option maxRecDepth 20000 in
theorem gX5_read_X10_isDigit_n94 : GoodIn wsX5_read (wsX10_isDigit) := ggX5_read_X10_isDigit
set_option maxRecDepth 20000 in
theorem ggX5_read_X5_build : GoodIn wsX5_read wsX5_build := goodIn_r _ [124, 2, 125, 126, 115, 127, 128, 70, 67, 71, 129, 130, 131, 132, 133, 134, 135, 123, 136, 3, 137, 138, 1, 139, 140, 141, 142, 143, 144, 145, 146, 147, 148, 149, 150, 151, 152, 153, 154, 155, 156, 157, 158, 159, 160, 161, 162, 163, 164, 165, 166, 167, 168, 66, 68, 169, 170, 171, 172, 173, 174, 175, 176, 177, 178, 179, 180, 181, 182, 183, 184, 185, 186, 187, 188, 189, 190] (by decide +kernel) (by decide +kernel)
set_option maxRecDepth 20000 in
theorem gX5_read_X5_build : GoodIn wsX5_read (wsV RX5 101 RX5 yX5_build wsX5_build) := goodIn_app (goodIn_of _ (by decide +kernel)) ggX5_read_X5_build
theorem dX5_read_0 : decode cX5_read 0 = .ok (.iconst 0, 1) := by decide +kernel
theorem dX5_read_1 : decode cX5_read 1 = .ok (.istore_n 2, 1) := by decide +kernel
theorem dX5_read_2 : decode cX5_read 2 = .ok (.iconst 0, 1) := by decide +kernel
theorem dX5_read_3 : decode cX5_read 3 = .ok (.istore_n 3, 1) := by decide +kernel
theorem dX5_read_4 : decode cX5_read 4 = .ok (.iconst 1, 1) := by decide +kernel
theorem dX5_read_5 : decode cX5_read 5 = .ok (.istore 4, 2) := by decide +kernel
theorem dX5_read_7 : decode cX5_read 7 = .ok (.iload 4, 2) := by decide +kernel
theorem dX5_read_9 : decode cX5_read 9 = .ok (.aload_n 1, 1) := by decide +kernel
theorem dX5_read_10 : decode cX5_read 10 = .ok (.invokevirtual 78, 3) := by decide +kernel
theorem dX5_read_13 : decode cX5_read 13 = .ok (.if_icmp .ge 107, 3) := by decide +kernel
theorem dX5_read_16 : decode cX5_read 16 = .ok (.ldc 84, 2) := by decide +kernel
theorem dX5_read_18 : decode cX5_read 18 = .ok (.aload_n 1, 1) := by decide +kernel
theorem dX5_read_19 : decode cX5_read 19 = .ok (.iload 4, 2) := by decide +kernel
theorem dX5_read_21 : decode cX5_read 21 = .ok (.invokevirtual 86, 3) := by decide +kernel
theorem dX5_read_24 : decode cX5_read 24 = .ok (.invokevirtual 90, 3) := by decide +kernel
theorem dX5_read_27 : decode cX5_read 27 = .ok (.istore 5, 2) := by decide +kernel
theorem dX5_read_29 : decode cX5_read 29 = .ok (.aload_n 1, 1) := by decide +kernel
theorem dX5_read_30 : decode cX5_read 30 = .ok (.iload 4, 2) := by decide +kernel
theorem dX5_read_32 : decode cX5_read 32 = .ok (.invokevirtual 86, 3) := by decide +kernel
theorem dX5_read_35 : decode cX5_read 35 = .ok (.bipush 48, 2) := by decide +kernel
theorem dX5_read_37 : decode cX5_read 37 = .ok (.isub, 1) := by decide +kernel
theorem dX5_read_38 : decode cX5_read 38 = .ok (.istore 6, 2) := by decide +kernel
theorem dX5_read_40 : decode cX5_read 40 = .ok (.iload 5, 2) := by decide +kernel
theorem dX5_read_42 : decode cX5_read 42 = .ok (.ifCond .lt 42, 3) := by decide +kernel
theorem dX5_read_45 : decode cX5_read 45 = .ok (.iload 5, 2) := by decide +kernel
theorem dX5_read_47 : decode cX5_read 47 = .ok (.aload_n 0, 1) := by decide +kernel
theorem dX5_read_48 : decode cX5_read 48 = .ok (.getfield 9, 3) := by decide +kernel
theorem dX5_read_51 : decode cX5_read 51 = .ok (.arraylength, 1) := by decide +kernel
theorem dX5_read_52 : decode cX5_read 52 = .ok (.if_icmp .ge 32, 3) := by decide +kernel
theorem dX5_read_55 : decode cX5_read 55 = .ok (.iload_n 2, 1) := by decide +kernel
theorem dX5_read_56 : decode cX5_read 56 = .ok (.aload_n 0, 1) := by decide +kernel
theorem dX5_read_57 : decode cX5_read 57 = .ok (.getfield 31, 3) := by decide +kernel
theorem dX5_read_60 : decode cX5_read 60 = .ok (.getfield 49, 3) := by decide +kernel
theorem dX5_read_63 : decode cX5_read 63 = .ok (.arraylength, 1) := by decide +kernel
theorem dX5_read_64 : decode cX5_read 64 = .ok (.if_icmp .ge 20, 3) := by decide +kernel
theorem dX5_read_67 : decode cX5_read 67 = .ok (.aload_n 0, 1) := by decide +kernel
theorem dX5_read_68 : decode cX5_read 68 = .ok (.getfield 31, 3) := by decide +kernel
theorem dX5_read_71 : decode cX5_read 71 = .ok (.getfield 49, 3) := by decide +kernel
theorem dX5_read_74 : decode cX5_read 74 = .ok (.iload_n 2, 1) := by decide +kernel
theorem dX5_read_75 : decode cX5_read 75 = .ok (.iload 5, 2) := by decide +kernel
theorem dX5_read_77 : decode cX5_read 77 = .ok (.iastore, 1) := by decide +kernel
theorem dX5_read_78 : decode cX5_read 78 = .ok (.iinc 2 1, 3) := by decide +kernel
theorem dX5_read_81 : decode cX5_read 81 = .ok (.goto 33, 3) := by decide +kernel
theorem dX5_read_84 : decode cX5_read 84 = .ok (.iload 6, 2) := by decide +kernel
theorem dX5_read_86 : decode cX5_read 86 = .ok (.invokestatic 94, 3) := by decide +kernel
theorem dX5_read_89 : decode cX5_read 89 = .ok (.ifCond .eq 25, 3) := by decide +kernel
theorem dX5_read_92 : decode cX5_read 92 = .ok (.iload_n 3, 1) := by decide +kernel
theorem dX5_read_93 : decode cX5_read 93 = .ok (.aload_n 0, 1) := by decide +kernel
theorem dX5_read_94 : decode cX5_read 94 = .ok (.getfield 15, 3) := by decide +kernel
theorem dX5_read_97 : decode cX5_read 97 = .ok (.if_icmp .ge 17, 3) := by decide +kernel
theorem dX5_read_100 : decode cX5_read 100 = .ok (.aload_n 0, 1) := by decide +kernel
theorem dX5_read_101 : decode cX5_read 101 = .ok (.getfield 31, 3) := by decide +kernel
theorem dX5_read_104 : decode cX5_read 104 = .ok (.getfield 98, 3) := by decide +kernel
theorem dX5_read_107 : decode cX5_read 107 = .ok (.iload_n 3, 1) := by decide +kernel
theorem dX5_read_108 : decode cX5_read 108 = .ok (.iload 6, 2) := by decide +kernel
theorem dX5_read_110 : decode cX5_read 110 = .ok (.iastore, 1) := by decide +kernel
theorem dX5_read_111 : decode cX5_read 111 = .ok (.iinc 3 1, 3) := by decide +kernel
theorem dX5_read_114 : decode cX5_read 114 = .ok (.iinc 4 1, 3) := by decide +kernel
theorem dX5_read_117 : decode cX5_read 117 = .ok (.goto (-110), 3) := by decide +kernel
theorem dX5_read_120 : decode cX5_read 120 = .ok (.aload_n 0, 1) := by decide +kernel
theorem dX5_read_121 : decode cX5_read 121 = .ok (.invokevirtual 101, 3) := by decide +kernel
theorem dX5_read_124 : decode cX5_read 124 = .ok (.return_, 1) := by decide +kernel
set_option maxRecDepth 20000 in
theorem ggX5_build_X10_copy : GoodIn wsX5_build wsX10_copy := goodIn_r _ [5, 6, 7, 8, 9, 10, 11, 12, 13] (by decide +kernel) (by decide +kernel)
set_option maxRecDepth 20000 in
theorem gX5_build_X10_copy_n104 : GoodIn wsX5_build (wsX10_copy) := ggX5_build_X10_copy
set_option maxRecDepth 20000 in
theorem ggX5_build_X5_raise : GoodIn wsX5_build wsX5_raise := goodIn_r _ [18, 19, 20, 21, 22, 1, 23, 24, 25, 26, 27, 28, 29, 30, 31, 32, 33, 34, 35, 36, 8, 37, 38, 39, 40, 41, 42, 43, 44, 45, 46, 47, 48, 49, 50, 51, 52, 53, 54, 55, 56, 57, 58, 59, 60, 61, 62, 63, 64, 65, 66, 67, 68, 69, 70, 71, 72, 73, 74, 75, 76] (by decide +kernel) (by decide +kernel)
set_option maxRecDepth 20000 in
theorem gX5_build_X5_raise : GoodIn wsX5_build (wsV RX5 108 RX5 yX5_raise wsX5_raise) := goodIn_app (goodIn_of _ (by decide +kernel)) ggX5_build_X5_raise
theorem dX5_build_0 : decode cX5_build 0 = .ok (.aload_n 0, 1) := by decide +kernel
theorem dX5_build_1 : decode cX5_build 1 = .ok (.getfield 31, 3) := by decide +kernel
theorem dX5_build_4 : decode cX5_build 4 = .ok (.getfield 98, 3) := by decide +kernel
theorem dX5_build_7 : decode cX5_build 7 = .ok (.aload_n 0, 1) := by decide +kernel
theorem dX5_build_8 : decode cX5_build 8 = .ok (.getfield 38, 3) := by decide +kernel
theorem dX5_build_11 : decode cX5_build 11 = .ok (.invokestatic 104, 3) := by decide +kernel
theorem dX5_build_14 : decode cX5_build 14 = .ok (.aload_n 0, 1) := by decide +kernel
theorem dX5_build_15 : decode cX5_build 15 = .ok (.aload_n 0, 1) := by decide +kernel
theorem dX5_build_16 : decode cX5_build 16 = .ok (.getfield 38, 3) := by decide +kernel
theorem dX5_build_19 : decode cX5_build 19 = .ok (.invokevirtual 108, 3) := by decide +kernel
theorem dX5_build_22 : decode cX5_build 22 = .ok (.return_, 1) := by decide +kernel
set_option maxRecDepth 20000 in
theorem ggX5_raise_X0_made : GoodIn wsX5_raise wsX0_made := goodIn_r _ [10] (by decide +kernel) (by decide +kernel)
set_option maxRecDepth 20000 in
theorem gX5_raise_X0_made : GoodIn wsX5_raise (wsV RX5 112 RX0 yX0_made wsX0_made) := goodIn_app (goodIn_of _ (by decide +kernel)) ggX5_raise_X0_made
set_option maxRecDepth 20000 in
theorem ggX5_raise_X1_made : GoodIn wsX5_raise wsX1_made := goodIn_r _ [17, 18, 19, 20, 21] (by decide +kernel) (by decide +kernel)
set_option maxRecDepth 20000 in
theorem gX5_raise_X1_made_u112X1 : GoodIn wsX5_raise (va_wsO RX5 112 RX1 "NumberPile$Brick" ⟨"NumberPile$Brick", "made", "(II)I"⟩ yX1_made wsX1_made) := goodIn_app (goodIn_of _ (by decide +kernel)) ggX5_raise_X1_made
set_option maxRecDepth 20000 in
theorem ggX5_raise_X2_made : GoodIn wsX5_raise wsX2_made := goodIn_r _ [25, 26, 27, 28, 29, 30, 31] (by decide +kernel) (by decide +kernel)
set_option maxRecDepth 20000 in
theorem gX5_raise_X2_made_u112X2 : GoodIn wsX5_raise (va_wsO RX5 112 RX2 "NumberPile$Brick" ⟨"NumberPile$Brick", "made", "(II)I"⟩ yX2_made wsX2_made) := goodIn_app (goodIn_of _ (by decide +kernel)) ggX5_raise_X2_made
set_option maxRecDepth 20000 in
theorem ggX5_raise_X3_made : GoodIn wsX5_raise wsX3_made := goodIn_r _ [35, 36, 37, 20, 38] (by decide +kernel) (by decide +kernel)
set_option maxRecDepth 20000 in
theorem gX5_raise_X3_made_u112X3 : GoodIn wsX5_raise (va_wsO RX5 112 RX3 "NumberPile$Brick" ⟨"NumberPile$Brick", "made", "(II)I"⟩ yX3_made wsX3_made) := goodIn_app (goodIn_of _ (by decide +kernel)) ggX5_raise_X3_made
set_option maxRecDepth 20000 in
theorem ggX5_raise_X9_made : GoodIn wsX5_raise wsX9_made := goodIn_r _ [31] (by decide +kernel) (by decide +kernel)
set_option maxRecDepth 20000 in
theorem gX5_raise_X9_made_u112X9 : GoodIn wsX5_raise (va_wsO RX5 112 RX9 "NumberPile$Brick" ⟨"NumberPile$Brick", "made", "(II)I"⟩ yX9_made wsX9_made) := goodIn_app (goodIn_of _ (by decide +kernel)) ggX5_raise_X9_made
theorem dX5_raise_0 : decode cX5_raise 0 = .ok (.aload_n 0, 1) := by decide +kernel
theorem dX5_raise_1 : decode cX5_raise 1 = .ok (.getfield 15, 3) := by decide +kernel
theorem dX5_raise_4 : decode cX5_raise 4 = .ok (.istore_n 2, 1) := by decide +kernel
theorem dX5_raise_5 : decode cX5_raise 5 = .ok (.iload_n 2, 1) := by decide +kernel
theorem dX5_raise_6 : decode cX5_raise 6 = .ok (.aload_n 0, 1) := by decide +kernel
theorem dX5_raise_7 : decode cX5_raise 7 = .ok (.getfield 19, 3) := by decide +kernel
theorem dX5_raise_10 : decode cX5_raise 10 = .ok (.if_icmp .ge 49, 3) := by decide +kernel
theorem dX5_raise_13 : decode cX5_raise 13 = .ok (.aload_n 0, 1) := by decide +kernel
theorem dX5_raise_14 : decode cX5_raise 14 = .ok (.getfield 22, 3) := by decide +kernel
theorem dX5_raise_17 : decode cX5_raise 17 = .ok (.iload_n 2, 1) := by decide +kernel
theorem dX5_raise_18 : decode cX5_raise 18 = .ok (.iaload, 1) := by decide +kernel
theorem dX5_raise_19 : decode cX5_raise 19 = .ok (.istore_n 3, 1) := by decide +kernel
theorem dX5_raise_20 : decode cX5_raise 20 = .ok (.aload_n 1, 1) := by decide +kernel
theorem dX5_raise_21 : decode cX5_raise 21 = .ok (.iload_n 2, 1) := by decide +kernel
theorem dX5_raise_22 : decode cX5_raise 22 = .ok (.aload_n 0, 1) := by decide +kernel
theorem dX5_raise_23 : decode cX5_raise 23 = .ok (.getfield 9, 3) := by decide +kernel
theorem dX5_raise_26 : decode cX5_raise 26 = .ok (.aload_n 0, 1) := by decide +kernel
theorem dX5_raise_27 : decode cX5_raise 27 = .ok (.getfield 31, 3) := by decide +kernel
theorem dX5_raise_30 : decode cX5_raise 30 = .ok (.getfield 49, 3) := by decide +kernel
theorem dX5_raise_33 : decode cX5_raise 33 = .ok (.iload_n 2, 1) := by decide +kernel
theorem dX5_raise_34 : decode cX5_raise 34 = .ok (.aload_n 0, 1) := by decide +kernel
theorem dX5_raise_35 : decode cX5_raise 35 = .ok (.getfield 15, 3) := by decide +kernel
theorem dX5_raise_38 : decode cX5_raise 38 = .ok (.isub, 1) := by decide +kernel
theorem dX5_raise_39 : decode cX5_raise 39 = .ok (.iaload, 1) := by decide +kernel
theorem dX5_raise_40 : decode cX5_raise 40 = .ok (.aaload, 1) := by decide +kernel
theorem dX5_raise_41 : decode cX5_raise 41 = .ok (.aload_n 1, 1) := by decide +kernel
theorem dX5_raise_42 : decode cX5_raise 42 = .ok (.iload_n 3, 1) := by decide +kernel
theorem dX5_raise_43 : decode cX5_raise 43 = .ok (.iaload, 1) := by decide +kernel
theorem dX5_raise_44 : decode cX5_raise 44 = .ok (.aload_n 1, 1) := by decide +kernel
theorem dX5_raise_45 : decode cX5_raise 45 = .ok (.iload_n 3, 1) := by decide +kernel
theorem dX5_raise_46 : decode cX5_raise 46 = .ok (.iconst 1, 1) := by decide +kernel
theorem dX5_raise_47 : decode cX5_raise 47 = .ok (.iadd, 1) := by decide +kernel
theorem dX5_raise_48 : decode cX5_raise 48 = .ok (.iaload, 1) := by decide +kernel
theorem dX5_raise_49 : decode cX5_raise 49 = .ok (.invokevirtual 112, 3) := by decide +kernel
theorem dX5_raise_52 : decode cX5_raise 52 = .ok (.iastore, 1) := by decide +kernel
theorem dX5_raise_53 : decode cX5_raise 53 = .ok (.iinc 2 1, 3) := by decide +kernel
theorem dX5_raise_56 : decode cX5_raise 56 = .ok (.goto (-51), 3) := by decide +kernel
theorem dX5_raise_59 : decode cX5_raise 59 = .ok (.return_, 1) := by decide +kernel
theorem dX5_kindOf_0 : decode cX5_kindOf 0 = .ok (.aload_n 0, 1) := by decide +kernel
theorem dX5_kindOf_1 : decode cX5_kindOf 1 = .ok (.getfield 31, 3) := by decide +kernel
theorem dX5_kindOf_4 : decode cX5_kindOf 4 = .ok (.getfield 49, 3) := by decide +kernel
theorem dX5_kindOf_7 : decode cX5_kindOf 7 = .ok (.iload_n 1, 1) := by decide +kernel
theorem dX5_kindOf_8 : decode cX5_kindOf 8 = .ok (.aload_n 0, 1) := by decide +kernel
theorem dX5_kindOf_9 : decode cX5_kindOf 9 = .ok (.getfield 15, 3) := by decide +kernel
theorem dX5_kindOf_12 : decode cX5_kindOf 12 = .ok (.isub, 1) := by decide +kernel
theorem dX5_kindOf_13 : decode cX5_kindOf 13 = .ok (.iaload, 1) := by decide +kernel
theorem dX5_kindOf_14 : decode cX5_kindOf 14 = .ok (.ireturn, 1) := by decide +kernel
theorem dX5_top_0 : decode cX5_top 0 = .ok (.aload_n 0, 1) := by decide +kernel
theorem dX5_top_1 : decode cX5_top 1 = .ok (.getfield 19, 3) := by decide +kernel
theorem dX5_top_4 : decode cX5_top 4 = .ok (.ifCond .le 17, 3) := by decide +kernel
theorem dX5_top_7 : decode cX5_top 7 = .ok (.aload_n 0, 1) := by decide +kernel
theorem dX5_top_8 : decode cX5_top 8 = .ok (.getfield 38, 3) := by decide +kernel
theorem dX5_top_11 : decode cX5_top 11 = .ok (.aload_n 0, 1) := by decide +kernel
theorem dX5_top_12 : decode cX5_top 12 = .ok (.getfield 19, 3) := by decide +kernel
theorem dX5_top_15 : decode cX5_top 15 = .ok (.iconst 1, 1) := by decide +kernel
theorem dX5_top_16 : decode cX5_top 16 = .ok (.isub, 1) := by decide +kernel
theorem dX5_top_17 : decode cX5_top 17 = .ok (.iaload, 1) := by decide +kernel
theorem dX5_top_18 : decode cX5_top 18 = .ok (.goto 4, 3) := by decide +kernel
theorem dX5_top_21 : decode cX5_top 21 = .ok (.iconst (-1), 1) := by decide +kernel
theorem dX5_top_22 : decode cX5_top 22 = .ok (.ireturn, 1) := by decide +kernel
theorem dX5_guessedTop_0 : decode cX5_guessedTop 0 = .ok (.aload_n 0, 1) := by decide +kernel
theorem dX5_guessedTop_1 : decode cX5_guessedTop 1 = .ok (.getfield 19, 3) := by decide +kernel
theorem dX5_guessedTop_4 : decode cX5_guessedTop 4 = .ok (.ifCond .le 17, 3) := by decide +kernel
theorem dX5_guessedTop_7 : decode cX5_guessedTop 7 = .ok (.aload_n 0, 1) := by decide +kernel
theorem dX5_guessedTop_8 : decode cX5_guessedTop 8 = .ok (.getfield 41, 3) := by decide +kernel
theorem dX5_guessedTop_11 : decode cX5_guessedTop 11 = .ok (.aload_n 0, 1) := by decide +kernel
theorem dX5_guessedTop_12 : decode cX5_guessedTop 12 = .ok (.getfield 19, 3) := by decide +kernel
theorem dX5_guessedTop_15 : decode cX5_guessedTop 15 = .ok (.iconst 1, 1) := by decide +kernel
theorem dX5_guessedTop_16 : decode cX5_guessedTop 16 = .ok (.isub, 1) := by decide +kernel
theorem dX5_guessedTop_17 : decode cX5_guessedTop 17 = .ok (.iaload, 1) := by decide +kernel
theorem dX5_guessedTop_18 : decode cX5_guessedTop 18 = .ok (.goto 4, 3) := by decide +kernel
theorem dX5_guessedTop_21 : decode cX5_guessedTop 21 = .ok (.iconst (-1), 1) := by decide +kernel
theorem dX5_guessedTop_22 : decode cX5_guessedTop 22 = .ok (.ireturn, 1) := by decide +kernel
theorem dX5_sum_0 : decode cX5_sum 0 = .ok (.iconst 0, 1) := by decide +kernel
theorem dX5_sum_1 : decode cX5_sum 1 = .ok (.istore_n 1, 1) := by decide +kernel
theorem dX5_sum_2 : decode cX5_sum 2 = .ok (.aload_n 0, 1) := by decide +kernel
theorem dX5_sum_3 : decode cX5_sum 3 = .ok (.getfield 38, 3) := by decide +kernel
theorem dX5_sum_6 : decode cX5_sum 6 = .ok (.astore_n 2, 1) := by decide +kernel
theorem dX5_sum_7 : decode cX5_sum 7 = .ok (.aload_n 2, 1) := by decide +kernel
theorem dX5_sum_8 : decode cX5_sum 8 = .ok (.arraylength, 1) := by decide +kernel
theorem dX5_sum_9 : decode cX5_sum 9 = .ok (.istore_n 3, 1) := by decide +kernel
theorem dX5_sum_10 : decode cX5_sum 10 = .ok (.iconst 0, 1) := by decide +kernel
theorem dX5_sum_11 : decode cX5_sum 11 = .ok (.istore 4, 2) := by decide +kernel
theorem dX5_sum_13 : decode cX5_sum 13 = .ok (.iload 4, 2) := by decide +kernel
theorem dX5_sum_15 : decode cX5_sum 15 = .ok (.iload_n 3, 1) := by decide +kernel
theorem dX5_sum_16 : decode cX5_sum 16 = .ok (.if_icmp .ge 20, 3) := by decide +kernel
theorem dX5_sum_19 : decode cX5_sum 19 = .ok (.aload_n 2, 1) := by decide +kernel
theorem dX5_sum_20 : decode cX5_sum 20 = .ok (.iload 4, 2) := by decide +kernel
theorem dX5_sum_22 : decode cX5_sum 22 = .ok (.iaload, 1) := by decide +kernel
theorem dX5_sum_23 : decode cX5_sum 23 = .ok (.istore 5, 2) := by decide +kernel
theorem dX5_sum_25 : decode cX5_sum 25 = .ok (.iload_n 1, 1) := by decide +kernel
theorem dX5_sum_26 : decode cX5_sum 26 = .ok (.iload 5, 2) := by decide +kernel
theorem dX5_sum_28 : decode cX5_sum 28 = .ok (.iadd, 1) := by decide +kernel
theorem dX5_sum_29 : decode cX5_sum 29 = .ok (.istore_n 1, 1) := by decide +kernel
theorem dX5_sum_30 : decode cX5_sum 30 = .ok (.iinc 4 1, 3) := by decide +kernel
theorem dX5_sum_33 : decode cX5_sum 33 = .ok (.goto (-20), 3) := by decide +kernel
theorem dX5_sum_36 : decode cX5_sum 36 = .ok (.iload_n 1, 1) := by decide +kernel
theorem dX5_sum_37 : decode cX5_sum 37 = .ok (.ireturn, 1) := by decide +kernel
theorem dX5_countTold_0 : decode cX5_countTold 0 = .ok (.iconst 0, 1) := by decide +kernel
theorem dX5_countTold_1 : decode cX5_countTold 1 = .ok (.istore_n 1, 1) := by decide +kernel
theorem dX5_countTold_2 : decode cX5_countTold 2 = .ok (.aload_n 0, 1) := by decide +kernel
theorem dX5_countTold_3 : decode cX5_countTold 3 = .ok (.getfield 31, 3) := by decide +kernel
theorem dX5_countTold_6 : decode cX5_countTold 6 = .ok (.getfield 118, 3) := by decide +kernel
theorem dX5_countTold_9 : decode cX5_countTold 9 = .ok (.astore_n 2, 1) := by decide +kernel
theorem dX5_countTold_10 : decode cX5_countTold 10 = .ok (.aload_n 2, 1) := by decide +kernel
theorem dX5_countTold_11 : decode cX5_countTold 11 = .ok (.arraylength, 1) := by decide +kernel
theorem dX5_countTold_12 : decode cX5_countTold 12 = .ok (.istore_n 3, 1) := by decide +kernel
theorem dX5_countTold_13 : decode cX5_countTold 13 = .ok (.iconst 0, 1) := by decide +kernel
theorem dX5_countTold_14 : decode cX5_countTold 14 = .ok (.istore 4, 2) := by decide +kernel
theorem dX5_countTold_16 : decode cX5_countTold 16 = .ok (.iload 4, 2) := by decide +kernel
theorem dX5_countTold_18 : decode cX5_countTold 18 = .ok (.iload_n 3, 1) := by decide +kernel
theorem dX5_countTold_19 : decode cX5_countTold 19 = .ok (.if_icmp .ge 29, 3) := by decide +kernel
theorem dX5_countTold_22 : decode cX5_countTold 22 = .ok (.aload_n 2, 1) := by decide +kernel
theorem dX5_countTold_23 : decode cX5_countTold 23 = .ok (.iload 4, 2) := by decide +kernel
theorem dX5_countTold_25 : decode cX5_countTold 25 = .ok (.iaload, 1) := by decide +kernel
theorem dX5_countTold_26 : decode cX5_countTold 26 = .ok (.istore 5, 2) := by decide +kernel
theorem dX5_countTold_28 : decode cX5_countTold 28 = .ok (.iload_n 1, 1) := by decide +kernel
theorem dX5_countTold_29 : decode cX5_countTold 29 = .ok (.iload 5, 2) := by decide +kernel
theorem dX5_countTold_31 : decode cX5_countTold 31 = .ok (.iconst (-1), 1) := by decide +kernel
theorem dX5_countTold_32 : decode cX5_countTold 32 = .ok (.if_icmp .ne 7, 3) := by decide +kernel
theorem dX5_countTold_35 : decode cX5_countTold 35 = .ok (.iconst 0, 1) := by decide +kernel
theorem dX5_countTold_36 : decode cX5_countTold 36 = .ok (.goto 4, 3) := by decide +kernel
theorem dX5_countTold_39 : decode cX5_countTold 39 = .ok (.iconst 1, 1) := by decide +kernel
theorem dX5_countTold_40 : decode cX5_countTold 40 = .ok (.iadd, 1) := by decide +kernel
theorem dX5_countTold_41 : decode cX5_countTold 41 = .ok (.istore_n 1, 1) := by decide +kernel
theorem dX5_countTold_42 : decode cX5_countTold 42 = .ok (.iinc 4 1, 3) := by decide +kernel
theorem dX5_countTold_45 : decode cX5_countTold 45 = .ok (.goto (-29), 3) := by decide +kernel
theorem dX5_countTold_48 : decode cX5_countTold 48 = .ok (.iload_n 1, 1) := by decide +kernel
theorem dX5_countTold_49 : decode cX5_countTold 49 = .ok (.ireturn, 1) := by decide +kernel
theorem dX5_countTrue_0 : decode cX5_countTrue 0 = .ok (.iconst 0, 1) := by decide +kernel
theorem dX5_countTrue_1 : decode cX5_countTrue 1 = .ok (.istore_n 1, 1) := by decide +kernel
theorem dX5_countTrue_2 : decode cX5_countTrue 2 = .ok (.iconst 0, 1) := by decide +kernel
theorem dX5_countTrue_3 : decode cX5_countTrue 3 = .ok (.istore_n 2, 1) := by decide +kernel
theorem dX5_countTrue_4 : decode cX5_countTrue 4 = .ok (.iload_n 2, 1) := by decide +kernel
theorem dX5_countTrue_5 : decode cX5_countTrue 5 = .ok (.aload_n 0, 1) := by decide +kernel
theorem dX5_countTrue_6 : decode cX5_countTrue 6 = .ok (.getfield 19, 3) := by decide +kernel
theorem dX5_countTrue_9 : decode cX5_countTrue 9 = .ok (.if_icmp .ge 35, 3) := by decide +kernel
theorem dX5_countTrue_12 : decode cX5_countTrue 12 = .ok (.iload_n 1, 1) := by decide +kernel
theorem dX5_countTrue_13 : decode cX5_countTrue 13 = .ok (.aload_n 0, 1) := by decide +kernel
theorem dX5_countTrue_14 : decode cX5_countTrue 14 = .ok (.getfield 31, 3) := by decide +kernel
theorem dX5_countTrue_17 : decode cX5_countTrue 17 = .ok (.getfield 118, 3) := by decide +kernel
theorem dX5_countTrue_20 : decode cX5_countTrue 20 = .ok (.iload_n 2, 1) := by decide +kernel
theorem dX5_countTrue_21 : decode cX5_countTrue 21 = .ok (.iaload, 1) := by decide +kernel
theorem dX5_countTrue_22 : decode cX5_countTrue 22 = .ok (.aload_n 0, 1) := by decide +kernel
theorem dX5_countTrue_23 : decode cX5_countTrue 23 = .ok (.getfield 38, 3) := by decide +kernel
theorem dX5_countTrue_26 : decode cX5_countTrue 26 = .ok (.iload_n 2, 1) := by decide +kernel
theorem dX5_countTrue_27 : decode cX5_countTrue 27 = .ok (.iaload, 1) := by decide +kernel
theorem dX5_countTrue_28 : decode cX5_countTrue 28 = .ok (.if_icmp .ne 7, 3) := by decide +kernel
theorem dX5_countTrue_31 : decode cX5_countTrue 31 = .ok (.iconst 1, 1) := by decide +kernel
theorem dX5_countTrue_32 : decode cX5_countTrue 32 = .ok (.goto 4, 3) := by decide +kernel
theorem dX5_countTrue_35 : decode cX5_countTrue 35 = .ok (.iconst 0, 1) := by decide +kernel
theorem dX5_countTrue_36 : decode cX5_countTrue 36 = .ok (.iadd, 1) := by decide +kernel
theorem dX5_countTrue_37 : decode cX5_countTrue 37 = .ok (.istore_n 1, 1) := by decide +kernel
theorem dX5_countTrue_38 : decode cX5_countTrue 38 = .ok (.iinc 2 1, 3) := by decide +kernel
theorem dX5_countTrue_41 : decode cX5_countTrue 41 = .ok (.goto (-37), 3) := by decide +kernel
theorem dX5_countTrue_44 : decode cX5_countTrue 44 = .ok (.iload_n 1, 1) := by decide +kernel
theorem dX5_countTrue_45 : decode cX5_countTrue 45 = .ok (.ireturn, 1) := by decide +kernel
set_option maxRecDepth 20000 in
theorem ggX5_figuresChanged_X5_build : GoodIn wsX5_figuresChanged wsX5_build := goodIn_r _ [6, 1, 7, 8, 9, 10, 11, 12, 13, 14, 15, 16, 17, 18, 19, 20, 21, 5, 22, 23, 24, 25, 26, 27, 28, 29, 30, 31, 32, 33, 34, 35, 36, 37, 38, 39, 40, 41, 42, 43, 44, 45, 46, 47, 48, 49, 50, 51, 52, 53, 54, 55, 56, 57, 58, 59, 64, 65, 66, 67, 68, 69, 70, 71, 72, 73, 74, 75, 76, 77, 78, 79, 80, 81, 82, 83, 84] (by decide +kernel) (by decide +kernel)
set_option maxRecDepth 20000 in
theorem gX5_figuresChanged_X5_build : GoodIn wsX5_figuresChanged (wsV RX5 101 RX5 yX5_build wsX5_build) := goodIn_app (goodIn_of _ (by decide +kernel)) ggX5_figuresChanged_X5_build
set_option maxRecDepth 20000 in
theorem ggX5_figuresChanged_X5_top : GoodIn wsX5_figuresChanged wsX5_top := goodIn_r _ [63, 24, 7, 64, 65, 66, 67, 68, 69, 70, 71, 72, 73, 74, 75, 76, 77, 78] (by decide +kernel) (by decide +kernel)
set_option maxRecDepth 20000 in
theorem gX5_figuresChanged_X5_top : GoodIn wsX5_figuresChanged (wsV RX5 124 RX5 yX5_top wsX5_top) := goodIn_app (goodIn_of _ (by decide +kernel)) ggX5_figuresChanged_X5_top
theorem dX5_figuresChanged_0 : decode cX5_figuresChanged 0 = .ok (.aload_n 0, 1) := by decide +kernel
theorem dX5_figuresChanged_1 : decode cX5_figuresChanged 1 = .ok (.getfield 31, 3) := by decide +kernel
theorem dX5_figuresChanged_4 : decode cX5_figuresChanged 4 = .ok (.dup, 1) := by decide +kernel
theorem dX5_figuresChanged_5 : decode cX5_figuresChanged 5 = .ok (.getfield 121, 3) := by decide +kernel
theorem dX5_figuresChanged_8 : decode cX5_figuresChanged 8 = .ok (.iconst 1, 1) := by decide +kernel
theorem dX5_figuresChanged_9 : decode cX5_figuresChanged 9 = .ok (.iadd, 1) := by decide +kernel
theorem dX5_figuresChanged_10 : decode cX5_figuresChanged 10 = .ok (.putfield 121, 3) := by decide +kernel
theorem dX5_figuresChanged_13 : decode cX5_figuresChanged 13 = .ok (.aload_n 0, 1) := by decide +kernel
theorem dX5_figuresChanged_14 : decode cX5_figuresChanged 14 = .ok (.invokevirtual 101, 3) := by decide +kernel
theorem dX5_figuresChanged_17 : decode cX5_figuresChanged 17 = .ok (.aload_n 0, 1) := by decide +kernel
theorem dX5_figuresChanged_18 : decode cX5_figuresChanged 18 = .ok (.invokevirtual 124, 3) := by decide +kernel
theorem dX5_figuresChanged_21 : decode cX5_figuresChanged 21 = .ok (.ireturn, 1) := by decide +kernel
set_option maxRecDepth 20000 in
theorem ggX5_setKind_X5_build : GoodIn wsX5_setKind wsX5_build := goodIn_r _ [8, 1, 9, 10, 11, 12, 13, 14, 15, 16, 17, 18, 19, 20, 21, 22, 23, 7, 24, 2, 25, 26, 27, 28, 29, 30, 31, 32, 33, 34, 35, 36, 37, 38, 39, 40, 41, 42, 43, 44, 45, 46, 47, 48, 49, 50, 51, 52, 53, 54, 55, 56, 57, 58, 59, 60, 61, 62, 63, 64, 65, 66, 67, 68, 69, 70, 71, 72, 73, 74, 75, 76, 77, 78, 79, 80, 81] (by decide +kernel) (by decide +kernel)
set_option maxRecDepth 20000 in
theorem gX5_setKind_X5_build : GoodIn wsX5_setKind (wsV RX5 101 RX5 yX5_build wsX5_build) := goodIn_app (goodIn_of _ (by decide +kernel)) ggX5_setKind_X5_build
theorem dX5_setKind_0 : decode cX5_setKind 0 = .ok (.aload_n 0, 1) := by decide +kernel
theorem dX5_setKind_1 : decode cX5_setKind 1 = .ok (.getfield 31, 3) := by decide +kernel
theorem dX5_setKind_4 : decode cX5_setKind 4 = .ok (.getfield 49, 3) := by decide +kernel
theorem dX5_setKind_7 : decode cX5_setKind 7 = .ok (.iload_n 1, 1) := by decide +kernel
theorem dX5_setKind_8 : decode cX5_setKind 8 = .ok (.aload_n 0, 1) := by decide +kernel
theorem dX5_setKind_9 : decode cX5_setKind 9 = .ok (.getfield 15, 3) := by decide +kernel
theorem dX5_setKind_12 : decode cX5_setKind 12 = .ok (.isub, 1) := by decide +kernel
theorem dX5_setKind_13 : decode cX5_setKind 13 = .ok (.iload_n 2, 1) := by decide +kernel
theorem dX5_setKind_14 : decode cX5_setKind 14 = .ok (.iastore, 1) := by decide +kernel
theorem dX5_setKind_15 : decode cX5_setKind 15 = .ok (.aload_n 0, 1) := by decide +kernel
theorem dX5_setKind_16 : decode cX5_setKind 16 = .ok (.iconst 0, 1) := by decide +kernel
theorem dX5_setKind_17 : decode cX5_setKind 17 = .ok (.putfield 127, 3) := by decide +kernel
theorem dX5_setKind_20 : decode cX5_setKind 20 = .ok (.aload_n 0, 1) := by decide +kernel
theorem dX5_setKind_21 : decode cX5_setKind 21 = .ok (.invokevirtual 101, 3) := by decide +kernel
theorem dX5_setKind_24 : decode cX5_setKind 24 = .ok (.return_, 1) := by decide +kernel
theorem dX5_setTold_0 : decode cX5_setTold 0 = .ok (.aload_n 0, 1) := by decide +kernel
theorem dX5_setTold_1 : decode cX5_setTold 1 = .ok (.getfield 31, 3) := by decide +kernel
theorem dX5_setTold_4 : decode cX5_setTold 4 = .ok (.getfield 118, 3) := by decide +kernel
theorem dX5_setTold_7 : decode cX5_setTold 7 = .ok (.iload_n 1, 1) := by decide +kernel
theorem dX5_setTold_8 : decode cX5_setTold 8 = .ok (.iload_n 2, 1) := by decide +kernel
theorem dX5_setTold_9 : decode cX5_setTold 9 = .ok (.iastore, 1) := by decide +kernel
theorem dX5_setTold_10 : decode cX5_setTold 10 = .ok (.aload_n 0, 1) := by decide +kernel
theorem dX5_setTold_11 : decode cX5_setTold 11 = .ok (.iconst 0, 1) := by decide +kernel
theorem dX5_setTold_12 : decode cX5_setTold 12 = .ok (.putfield 127, 3) := by decide +kernel
theorem dX5_setTold_15 : decode cX5_setTold 15 = .ok (.return_, 1) := by decide +kernel
set_option maxRecDepth 20000 in
theorem ggX5_keepImage_X8_takeFrom : GoodIn wsX5_keepImage wsX8_takeFrom := goodIn_r _ [8, 9, 10, 11, 12, 13, 14, 15, 16, 17, 18, 19, 20, 21, 22, 23, 24, 25, 41, 42, 43, 44, 45, 46] (by decide +kernel) (by decide +kernel)
set_option maxRecDepth 20000 in
theorem gX5_keepImage_X8_takeFrom : GoodIn wsX5_keepImage (wsV RX5 131 RX8 yX8_takeFrom wsX8_takeFrom) := goodIn_app (goodIn_of _ (by decide +kernel)) ggX5_keepImage_X8_takeFrom
theorem dX5_keepImage_0 : decode cX5_keepImage 0 = .ok (.aload_n 0, 1) := by decide +kernel
theorem dX5_keepImage_1 : decode cX5_keepImage 1 = .ok (.getfield 35, 3) := by decide +kernel
theorem dX5_keepImage_4 : decode cX5_keepImage 4 = .ok (.aload_n 0, 1) := by decide +kernel
theorem dX5_keepImage_5 : decode cX5_keepImage 5 = .ok (.getfield 31, 3) := by decide +kernel
theorem dX5_keepImage_8 : decode cX5_keepImage 8 = .ok (.invokevirtual 131, 3) := by decide +kernel
theorem dX5_keepImage_11 : decode cX5_keepImage 11 = .ok (.aload_n 0, 1) := by decide +kernel
theorem dX5_keepImage_12 : decode cX5_keepImage 12 = .ok (.iconst 1, 1) := by decide +kernel
theorem dX5_keepImage_13 : decode cX5_keepImage 13 = .ok (.putfield 135, 3) := by decide +kernel
theorem dX5_keepImage_16 : decode cX5_keepImage 16 = .ok (.return_, 1) := by decide +kernel
set_option maxRecDepth 20000 in
theorem ggX5_goBackToImage_X8_takeFrom : GoodIn wsX5_goBackToImage wsX8_takeFrom := goodIn_r _ [8, 9, 10, 11, 12, 13, 14, 15, 16, 17, 18, 19, 20, 21, 22, 23, 24, 25, 88, 89, 90, 91, 92, 93] (by decide +kernel) (by decide +kernel)
set_option maxRecDepth 20000 in
theorem gX5_goBackToImage_X8_takeFrom : GoodIn wsX5_goBackToImage (wsV RX5 131 RX8 yX8_takeFrom wsX8_takeFrom) := goodIn_app (goodIn_of _ (by decide +kernel)) ggX5_goBackToImage_X8_takeFrom
set_option maxRecDepth 20000 in
theorem ggX5_goBackToImage_X5_build : GoodIn wsX5_goBackToImage wsX5_build := goodIn_r _ [30, 1, 31, 15, 16, 17, 18, 19, 20, 21, 22, 23, 24, 25, 32, 33, 34, 29, 35, 36, 37, 38, 39, 40, 41, 42, 43, 44, 45, 46, 47, 48, 49, 50, 51, 52, 53, 54, 55, 56, 57, 58, 59, 60, 61, 62, 63, 64, 65, 66, 67, 68, 69, 70, 71, 72, 73, 74, 75, 76, 77, 78, 79, 80, 81, 82, 83, 84, 85, 86, 87, 88, 89, 90, 91, 92, 93] (by decide +kernel) (by decide +kernel)
set_option maxRecDepth 20000 in
theorem gX5_goBackToImage_X5_build : GoodIn wsX5_goBackToImage (wsV RX5 101 RX5 yX5_build wsX5_build) := goodIn_app (goodIn_of _ (by decide +kernel)) ggX5_goBackToImage_X5_build
theorem dX5_goBackToImage_0 : decode cX5_goBackToImage 0 = .ok (.aload_n 0, 1) := by decide +kernel
theorem dX5_goBackToImage_1 : decode cX5_goBackToImage 1 = .ok (.getfield 31, 3) := by decide +kernel
theorem dX5_goBackToImage_4 : decode cX5_goBackToImage 4 = .ok (.aload_n 0, 1) := by decide +kernel
theorem dX5_goBackToImage_5 : decode cX5_goBackToImage 5 = .ok (.getfield 35, 3) := by decide +kernel
theorem dX5_goBackToImage_8 : decode cX5_goBackToImage 8 = .ok (.invokevirtual 131, 3) := by decide +kernel
theorem dX5_goBackToImage_11 : decode cX5_goBackToImage 11 = .ok (.aload_n 0, 1) := by decide +kernel
theorem dX5_goBackToImage_12 : decode cX5_goBackToImage 12 = .ok (.iconst 0, 1) := by decide +kernel
theorem dX5_goBackToImage_13 : decode cX5_goBackToImage 13 = .ok (.putfield 127, 3) := by decide +kernel
theorem dX5_goBackToImage_16 : decode cX5_goBackToImage 16 = .ok (.aload_n 0, 1) := by decide +kernel
theorem dX5_goBackToImage_17 : decode cX5_goBackToImage 17 = .ok (.invokevirtual 101, 3) := by decide +kernel
theorem dX5_goBackToImage_20 : decode cX5_goBackToImage 20 = .ok (.return_, 1) := by decide +kernel
set_option maxRecDepth 20000 in
theorem ggX5_swingOf_X10_copy : GoodIn wsX5_swingOf wsX10_copy := goodIn_r _ [5, 6, 7, 8, 9, 10, 11, 12, 13] (by decide +kernel) (by decide +kernel)
set_option maxRecDepth 20000 in
theorem gX5_swingOf_X10_copy_n104 : GoodIn wsX5_swingOf (wsX10_copy) := ggX5_swingOf_X10_copy
set_option maxRecDepth 20000 in
theorem ggX5_swingOf_X5_raise : GoodIn wsX5_swingOf wsX5_raise := goodIn_r _ [18, 19, 20, 21, 22, 1, 23, 24, 25, 26, 27, 28, 29, 30, 31, 32, 33, 34, 35, 36, 8, 37, 38, 39, 40, 41, 42, 43, 44, 45, 46, 47, 48, 49, 50, 51, 52, 53, 54, 55, 65, 66, 67, 68, 69, 70, 71, 72, 73, 74, 75, 76, 77, 78, 79, 80, 81, 82, 83, 84, 85] (by decide +kernel) (by decide +kernel)
set_option maxRecDepth 20000 in
theorem gX5_swingOf_X5_raise : GoodIn wsX5_swingOf (wsV RX5 108 RX5 yX5_raise wsX5_raise) := goodIn_app (goodIn_of _ (by decide +kernel)) ggX5_swingOf_X5_raise
set_option maxRecDepth 20000 in
theorem ggX5_swingOf_X5_guessedTop : GoodIn wsX5_swingOf wsX5_guessedTop := goodIn_r _ [59, 20, 2, 65, 66, 67, 68, 69, 70, 71, 72, 73, 74, 75, 76, 77, 78, 79] (by decide +kernel) (by decide +kernel)
set_option maxRecDepth 20000 in
theorem gX5_swingOf_X5_guessedTop : GoodIn wsX5_swingOf (wsV RX5 138 RX5 yX5_guessedTop wsX5_guessedTop) := goodIn_app (goodIn_of _ (by decide +kernel)) ggX5_swingOf_X5_guessedTop
set_option maxRecDepth 20000 in
theorem ggX5_swingOf_X5_top : GoodIn wsX5_swingOf wsX5_top := goodIn_r _ [63, 20, 64, 65, 66, 67, 68, 69, 70, 71, 72, 73, 74, 75, 76, 77, 78, 79] (by decide +kernel) (by decide +kernel)
set_option maxRecDepth 20000 in
theorem gX5_swingOf_X5_top : GoodIn wsX5_swingOf (wsV RX5 124 RX5 yX5_top wsX5_top) := goodIn_app (goodIn_of _ (by decide +kernel)) ggX5_swingOf_X5_top
theorem dX5_swingOf_0 : decode cX5_swingOf 0 = .ok (.aload_n 0, 1) := by decide +kernel
theorem dX5_swingOf_1 : decode cX5_swingOf 1 = .ok (.getfield 31, 3) := by decide +kernel
theorem dX5_swingOf_4 : decode cX5_swingOf 4 = .ok (.getfield 98, 3) := by decide +kernel
theorem dX5_swingOf_7 : decode cX5_swingOf 7 = .ok (.iload_n 1, 1) := by decide +kernel
theorem dX5_swingOf_8 : decode cX5_swingOf 8 = .ok (.iaload, 1) := by decide +kernel
theorem dX5_swingOf_9 : decode cX5_swingOf 9 = .ok (.bipush 9, 2) := by decide +kernel
theorem dX5_swingOf_11 : decode cX5_swingOf 11 = .ok (.if_icmp .ne 5, 3) := by decide +kernel
theorem dX5_swingOf_14 : decode cX5_swingOf 14 = .ok (.iconst (-1), 1) := by decide +kernel
theorem dX5_swingOf_15 : decode cX5_swingOf 15 = .ok (.ireturn, 1) := by decide +kernel
theorem dX5_swingOf_16 : decode cX5_swingOf 16 = .ok (.aload_n 0, 1) := by decide +kernel
theorem dX5_swingOf_17 : decode cX5_swingOf 17 = .ok (.getfield 31, 3) := by decide +kernel
theorem dX5_swingOf_20 : decode cX5_swingOf 20 = .ok (.getfield 98, 3) := by decide +kernel
theorem dX5_swingOf_23 : decode cX5_swingOf 23 = .ok (.aload_n 0, 1) := by decide +kernel
theorem dX5_swingOf_24 : decode cX5_swingOf 24 = .ok (.getfield 41, 3) := by decide +kernel
theorem dX5_swingOf_27 : decode cX5_swingOf 27 = .ok (.invokestatic 104, 3) := by decide +kernel
theorem dX5_swingOf_30 : decode cX5_swingOf 30 = .ok (.aload_n 0, 1) := by decide +kernel
theorem dX5_swingOf_31 : decode cX5_swingOf 31 = .ok (.getfield 41, 3) := by decide +kernel
theorem dX5_swingOf_34 : decode cX5_swingOf 34 = .ok (.iload_n 1, 1) := by decide +kernel
theorem dX5_swingOf_35 : decode cX5_swingOf 35 = .ok (.dup2, 1) := by decide +kernel
theorem dX5_swingOf_36 : decode cX5_swingOf 36 = .ok (.iaload, 1) := by decide +kernel
theorem dX5_swingOf_37 : decode cX5_swingOf 37 = .ok (.iconst 1, 1) := by decide +kernel
theorem dX5_swingOf_38 : decode cX5_swingOf 38 = .ok (.iadd, 1) := by decide +kernel
theorem dX5_swingOf_39 : decode cX5_swingOf 39 = .ok (.iastore, 1) := by decide +kernel
theorem dX5_swingOf_40 : decode cX5_swingOf 40 = .ok (.aload_n 0, 1) := by decide +kernel
theorem dX5_swingOf_41 : decode cX5_swingOf 41 = .ok (.aload_n 0, 1) := by decide +kernel
theorem dX5_swingOf_42 : decode cX5_swingOf 42 = .ok (.getfield 41, 3) := by decide +kernel
theorem dX5_swingOf_45 : decode cX5_swingOf 45 = .ok (.invokevirtual 108, 3) := by decide +kernel
theorem dX5_swingOf_48 : decode cX5_swingOf 48 = .ok (.sipush 1000, 3) := by decide +kernel
theorem dX5_swingOf_51 : decode cX5_swingOf 51 = .ok (.aload_n 0, 1) := by decide +kernel
theorem dX5_swingOf_52 : decode cX5_swingOf 52 = .ok (.invokevirtual 138, 3) := by decide +kernel
theorem dX5_swingOf_55 : decode cX5_swingOf 55 = .ok (.iadd, 1) := by decide +kernel
theorem dX5_swingOf_56 : decode cX5_swingOf 56 = .ok (.aload_n 0, 1) := by decide +kernel
theorem dX5_swingOf_57 : decode cX5_swingOf 57 = .ok (.invokevirtual 124, 3) := by decide +kernel
theorem dX5_swingOf_60 : decode cX5_swingOf 60 = .ok (.isub, 1) := by decide +kernel
theorem dX5_swingOf_61 : decode cX5_swingOf 61 = .ok (.ireturn, 1) := by decide +kernel
set_option maxRecDepth 20000 in
theorem ggX5_bestTop_X5_bestLaid : GoodIn wsX5_bestTop wsX5_bestLaid := goodIn_r _ [4, 5, 6, 7, 8, 9, 10, 11, 12, 13, 14, 3, 15, 16, 17, 18, 19, 20, 21, 22, 23, 24, 25, 26, 27, 28, 29, 30, 31, 32, 33, 34, 35, 36, 37, 38, 39, 40, 41, 42, 43, 44, 45, 46, 47, 48, 49, 50, 51, 52, 53, 54, 55, 56, 1, 2, 57, 58, 59, 60, 61, 62, 63, 64, 65, 66, 67, 68, 69, 70, 71, 72, 73, 74, 75, 76, 77] (by decide +kernel) (by decide +kernel)
set_option maxRecDepth 20000 in
theorem gX5_bestTop_X5_bestLaid : GoodIn wsX5_bestTop (va_wsS RX5 141 yX5_bestLaid wsX5_bestLaid) := goodIn_app (goodIn_of _ (by decide +kernel)) ggX5_bestTop_X5_bestLaid
theorem dX5_bestTop_0 : decode cX5_bestTop 0 = .ok (.aload_n 0, 1) := by decide +kernel
theorem dX5_bestTop_1 : decode cX5_bestTop 1 = .ok (.iconst 0, 1) := by decide +kernel
theorem dX5_bestTop_2 : decode cX5_bestTop 2 = .ok (.iconst 0, 1) := by decide +kernel
theorem dX5_bestTop_3 : decode cX5_bestTop 3 = .ok (.invokestatic 141, 3) := by decide +kernel
theorem dX5_bestTop_6 : decode cX5_bestTop 6 = .ok (.sipush 10000, 3) := by decide +kernel
theorem dX5_bestTop_9 : decode cX5_bestTop 9 = .ok (.idiv, 1) := by decide +kernel
theorem dX5_bestTop_10 : decode cX5_bestTop 10 = .ok (.ireturn, 1) := by decide +kernel
set_option maxRecDepth 20000 in
theorem ggX5_bestOrder_X5_bestLaid : GoodIn wsX5_bestOrder wsX5_bestLaid := goodIn_r _ [4, 5, 6, 7, 8, 9, 10, 11, 12, 13, 14, 3, 15, 16, 17, 18, 19, 20, 21, 22, 23, 24, 25, 26, 27, 28, 29, 30, 31, 32, 33, 34, 35, 36, 37, 38, 39, 40, 41, 42, 43, 44, 45, 46, 47, 48, 49, 50, 51, 52, 53, 54, 55, 56, 1, 2, 57, 58, 59, 60, 61, 62, 63, 64, 65, 66, 67, 68, 69, 70, 71, 72, 73, 74, 75, 76, 77] (by decide +kernel) (by decide +kernel)
set_option maxRecDepth 20000 in
theorem gX5_bestOrder_X5_bestLaid : GoodIn wsX5_bestOrder (va_wsS RX5 141 yX5_bestLaid wsX5_bestLaid) := goodIn_app (goodIn_of _ (by decide +kernel)) ggX5_bestOrder_X5_bestLaid
theorem dX5_bestOrder_0 : decode cX5_bestOrder 0 = .ok (.sipush 9999, 3) := by decide +kernel
theorem dX5_bestOrder_3 : decode cX5_bestOrder 3 = .ok (.aload_n 0, 1) := by decide +kernel
theorem dX5_bestOrder_4 : decode cX5_bestOrder 4 = .ok (.iconst 0, 1) := by decide +kernel
theorem dX5_bestOrder_5 : decode cX5_bestOrder 5 = .ok (.iconst 0, 1) := by decide +kernel
theorem dX5_bestOrder_6 : decode cX5_bestOrder 6 = .ok (.invokestatic 141, 3) := by decide +kernel
theorem dX5_bestOrder_9 : decode cX5_bestOrder 9 = .ok (.sipush 10000, 3) := by decide +kernel
theorem dX5_bestOrder_12 : decode cX5_bestOrder 12 = .ok (.irem, 1) := by decide +kernel
theorem dX5_bestOrder_13 : decode cX5_bestOrder 13 = .ok (.isub, 1) := by decide +kernel
theorem dX5_bestOrder_14 : decode cX5_bestOrder 14 = .ok (.ireturn, 1) := by decide +kernel
set_option maxRecDepth 20000 in
theorem ggX5_bestLaid_X5_raise : GoodIn wsX5_bestLaid wsX5_raise := goodIn_r _ [12, 1, 13, 14, 15, 3, 16, 17, 18, 19, 20, 21, 22, 23, 24, 25, 26, 27, 28, 29, 6, 30, 31, 32, 33, 34, 35, 36, 37, 38, 39, 40, 41, 42, 43, 44, 45, 5, 7, 46, 56, 57, 58, 59, 60, 61, 62, 63, 64, 65, 66, 67, 68, 69, 70, 71, 72, 73, 74, 75, 76] (by decide +kernel) (by decide +kernel)
set_option maxRecDepth 20000 in
theorem gX5_bestLaid_X5_raise : GoodIn wsX5_bestLaid (wsV RX5 108 RX5 yX5_raise wsX5_raise) := goodIn_app (goodIn_of _ (by decide +kernel)) ggX5_bestLaid_X5_raise
set_option maxRecDepth 20000 in
theorem ggX5_bestLaid_X5_guessedTop : GoodIn wsX5_bestLaid wsX5_guessedTop := goodIn_r _ [50, 13, 2, 56, 57, 58, 59, 60, 61, 62, 63, 64, 65, 66, 67, 68, 69, 70] (by decide +kernel) (by decide +kernel)
set_option maxRecDepth 20000 in
theorem gX5_bestLaid_X5_guessedTop : GoodIn wsX5_bestLaid (wsV RX5 138 RX5 yX5_guessedTop wsX5_guessedTop) := goodIn_app (goodIn_of _ (by decide +kernel)) ggX5_bestLaid_X5_guessedTop
set_option maxRecDepth 20000 in
theorem ggX5_bestLaid_X10_asNumber : GoodIn wsX5_bestLaid wsX10_asNumber := goodIn_r _ [53] (by decide +kernel) (by decide +kernel)
set_option maxRecDepth 20000 in
theorem gX5_bestLaid_X10_asNumber_n145 : GoodIn wsX5_bestLaid (wsX10_asNumber) := ggX5_bestLaid_X10_asNumber
set_option maxRecDepth 20000 in
theorem ggX5_bestLaid_X5_bestLaid : GoodIn wsX5_bestLaid wsX5_bestLaid := goodIn_r _ [0, 1, 2, 3, 4, 5, 6, 7, 8, 9, 10, 11, 12, 13, 14, 15, 16, 17, 18, 19, 20, 21, 22, 23, 24, 25, 26, 27, 28, 29, 30, 31, 32, 33, 34, 35, 36, 37, 38, 39, 40, 41, 42, 43, 44, 45, 46, 47, 48, 49, 50, 51, 52, 53, 54, 55, 56, 57, 58, 59, 60, 61, 62, 63, 64, 65, 66, 67, 68, 69, 70, 71, 72, 73, 74, 75, 76] (by decide +kernel) (by decide +kernel)
set_option maxRecDepth 20000 in
theorem gX5_bestLaid_X5_bestLaid : GoodIn wsX5_bestLaid (va_wsS RX5 141 yX5_bestLaid wsX5_bestLaid) := goodIn_app (goodIn_of _ (by decide +kernel)) ggX5_bestLaid_X5_bestLaid
theorem dX5_bestLaid_0 : decode cX5_bestLaid 0 = .ok (.iload_n 1, 1) := by decide +kernel
theorem dX5_bestLaid_1 : decode cX5_bestLaid 1 = .ok (.aload_n 0, 1) := by decide +kernel
theorem dX5_bestLaid_2 : decode cX5_bestLaid 2 = .ok (.getfield 15, 3) := by decide +kernel
theorem dX5_bestLaid_5 : decode cX5_bestLaid 5 = .ok (.if_icmp .lt 38, 3) := by decide +kernel
theorem dX5_bestLaid_8 : decode cX5_bestLaid 8 = .ok (.aload_n 0, 1) := by decide +kernel
theorem dX5_bestLaid_9 : decode cX5_bestLaid 9 = .ok (.aload_n 0, 1) := by decide +kernel
theorem dX5_bestLaid_10 : decode cX5_bestLaid 10 = .ok (.getfield 41, 3) := by decide +kernel
theorem dX5_bestLaid_13 : decode cX5_bestLaid 13 = .ok (.invokevirtual 108, 3) := by decide +kernel
theorem dX5_bestLaid_16 : decode cX5_bestLaid 16 = .ok (.aload_n 0, 1) := by decide +kernel
theorem dX5_bestLaid_17 : decode cX5_bestLaid 17 = .ok (.invokevirtual 138, 3) := by decide +kernel
theorem dX5_bestLaid_20 : decode cX5_bestLaid 20 = .ok (.sipush 10000, 3) := by decide +kernel
theorem dX5_bestLaid_23 : decode cX5_bestLaid 23 = .ok (.imul, 1) := by decide +kernel
theorem dX5_bestLaid_24 : decode cX5_bestLaid 24 = .ok (.sipush 10000, 3) := by decide +kernel
theorem dX5_bestLaid_27 : decode cX5_bestLaid 27 = .ok (.iadd, 1) := by decide +kernel
theorem dX5_bestLaid_28 : decode cX5_bestLaid 28 = .ok (.iconst 1, 1) := by decide +kernel
theorem dX5_bestLaid_29 : decode cX5_bestLaid 29 = .ok (.isub, 1) := by decide +kernel
theorem dX5_bestLaid_30 : decode cX5_bestLaid 30 = .ok (.aload_n 0, 1) := by decide +kernel
theorem dX5_bestLaid_31 : decode cX5_bestLaid 31 = .ok (.getfield 41, 3) := by decide +kernel
theorem dX5_bestLaid_34 : decode cX5_bestLaid 34 = .ok (.aload_n 0, 1) := by decide +kernel
theorem dX5_bestLaid_35 : decode cX5_bestLaid 35 = .ok (.getfield 15, 3) := by decide +kernel
theorem dX5_bestLaid_38 : decode cX5_bestLaid 38 = .ok (.invokestatic 145, 3) := by decide +kernel
theorem dX5_bestLaid_41 : decode cX5_bestLaid 41 = .ok (.isub, 1) := by decide +kernel
theorem dX5_bestLaid_42 : decode cX5_bestLaid 42 = .ok (.ireturn, 1) := by decide +kernel
theorem dX5_bestLaid_43 : decode cX5_bestLaid 43 = .ok (.iconst 0, 1) := by decide +kernel
theorem dX5_bestLaid_44 : decode cX5_bestLaid 44 = .ok (.istore_n 3, 1) := by decide +kernel
theorem dX5_bestLaid_45 : decode cX5_bestLaid 45 = .ok (.iconst 0, 1) := by decide +kernel
theorem dX5_bestLaid_46 : decode cX5_bestLaid 46 = .ok (.istore 4, 2) := by decide +kernel
theorem dX5_bestLaid_48 : decode cX5_bestLaid 48 = .ok (.iload 4, 2) := by decide +kernel
theorem dX5_bestLaid_50 : decode cX5_bestLaid 50 = .ok (.aload_n 0, 1) := by decide +kernel
theorem dX5_bestLaid_51 : decode cX5_bestLaid 51 = .ok (.getfield 15, 3) := by decide +kernel
theorem dX5_bestLaid_54 : decode cX5_bestLaid 54 = .ok (.if_icmp .ge 52, 3) := by decide +kernel
theorem dX5_bestLaid_57 : decode cX5_bestLaid 57 = .ok (.iload_n 2, 1) := by decide +kernel
theorem dX5_bestLaid_58 : decode cX5_bestLaid 58 = .ok (.iload 4, 2) := by decide +kernel
theorem dX5_bestLaid_60 : decode cX5_bestLaid 60 = .ok (.ishr, 1) := by decide +kernel
theorem dX5_bestLaid_61 : decode cX5_bestLaid 61 = .ok (.iconst 1, 1) := by decide +kernel
theorem dX5_bestLaid_62 : decode cX5_bestLaid 62 = .ok (.iand, 1) := by decide +kernel
theorem dX5_bestLaid_63 : decode cX5_bestLaid 63 = .ok (.ifCond .ne 37, 3) := by decide +kernel
theorem dX5_bestLaid_66 : decode cX5_bestLaid 66 = .ok (.aload_n 0, 1) := by decide +kernel
theorem dX5_bestLaid_67 : decode cX5_bestLaid 67 = .ok (.getfield 41, 3) := by decide +kernel
theorem dX5_bestLaid_70 : decode cX5_bestLaid 70 = .ok (.iload_n 1, 1) := by decide +kernel
theorem dX5_bestLaid_71 : decode cX5_bestLaid 71 = .ok (.aload_n 0, 1) := by decide +kernel
theorem dX5_bestLaid_72 : decode cX5_bestLaid 72 = .ok (.getfield 31, 3) := by decide +kernel
theorem dX5_bestLaid_75 : decode cX5_bestLaid 75 = .ok (.getfield 98, 3) := by decide +kernel
theorem dX5_bestLaid_78 : decode cX5_bestLaid 78 = .ok (.iload 4, 2) := by decide +kernel
theorem dX5_bestLaid_80 : decode cX5_bestLaid 80 = .ok (.iaload, 1) := by decide +kernel
theorem dX5_bestLaid_81 : decode cX5_bestLaid 81 = .ok (.iastore, 1) := by decide +kernel
theorem dX5_bestLaid_82 : decode cX5_bestLaid 82 = .ok (.iload_n 3, 1) := by decide +kernel
theorem dX5_bestLaid_83 : decode cX5_bestLaid 83 = .ok (.aload_n 0, 1) := by decide +kernel
theorem dX5_bestLaid_84 : decode cX5_bestLaid 84 = .ok (.iload_n 1, 1) := by decide +kernel
theorem dX5_bestLaid_85 : decode cX5_bestLaid 85 = .ok (.iconst 1, 1) := by decide +kernel
theorem dX5_bestLaid_86 : decode cX5_bestLaid 86 = .ok (.iadd, 1) := by decide +kernel
theorem dX5_bestLaid_87 : decode cX5_bestLaid 87 = .ok (.iload_n 2, 1) := by decide +kernel
theorem dX5_bestLaid_88 : decode cX5_bestLaid 88 = .ok (.iconst 1, 1) := by decide +kernel
theorem dX5_bestLaid_89 : decode cX5_bestLaid 89 = .ok (.iload 4, 2) := by decide +kernel
theorem dX5_bestLaid_91 : decode cX5_bestLaid 91 = .ok (.ishl, 1) := by decide +kernel
theorem dX5_bestLaid_92 : decode cX5_bestLaid 92 = .ok (.ior, 1) := by decide +kernel
theorem dX5_bestLaid_93 : decode cX5_bestLaid 93 = .ok (.invokestatic 141, 3) := by decide +kernel
theorem dX5_bestLaid_96 : decode cX5_bestLaid 96 = .ok (.invokestatic 149, 3) := by decide +kernel
theorem dX5_bestLaid_99 : decode cX5_bestLaid 99 = .ok (.istore_n 3, 1) := by decide +kernel
theorem dX5_bestLaid_100 : decode cX5_bestLaid 100 = .ok (.iinc 4 1, 3) := by decide +kernel
theorem dX5_bestLaid_103 : decode cX5_bestLaid 103 = .ok (.goto (-55), 3) := by decide +kernel
theorem dX5_bestLaid_106 : decode cX5_bestLaid 106 = .ok (.iload_n 3, 1) := by decide +kernel
theorem dX5_bestLaid_107 : decode cX5_bestLaid 107 = .ok (.ireturn, 1) := by decide +kernel
set_option maxRecDepth 20000 in
theorem ggX5_nearestWithTop_X6_start : GoodIn wsX5_nearestWithTop wsX6_start := goodIn_r _ [12, 13, 14, 15, 16, 94, 95, 96, 97, 98, 99] (by decide +kernel) (by decide +kernel)
set_option maxRecDepth 20000 in
theorem gX5_nearestWithTop_X6_start : GoodIn wsX5_nearestWithTop (wsV RX5 154 RX6 yX6_start wsX6_start) := goodIn_app (goodIn_of _ (by decide +kernel)) ggX5_nearestWithTop_X6_start
set_option maxRecDepth 20000 in
theorem ggX5_nearestWithTop_X6_next : GoodIn wsX5_nearestWithTop wsX6_next := goodIn_r _ [20, 21, 16, 15, 14, 22, 23, 24, 11, 25, 26, 27, 28, 29, 30, 31, 13, 32, 33, 34, 35, 36, 37, 38, 39, 40, 41, 42, 43, 44, 45, 6, 46, 47, 48, 49, 50, 51, 52, 53, 54, 55, 56, 57, 58, 59, 60, 61, 62, 63, 64, 94, 95, 96, 97, 98, 99] (by decide +kernel) (by decide +kernel)
set_option maxRecDepth 20000 in
theorem gX5_nearestWithTop_X6_next : GoodIn wsX5_nearestWithTop (wsV RX5 157 RX6 yX6_next wsX6_next) := goodIn_app (goodIn_of _ (by decide +kernel)) ggX5_nearestWithTop_X6_next
set_option maxRecDepth 20000 in
theorem ggX5_nearestWithTop_X5_changesTo : GoodIn wsX5_nearestWithTop wsX5_changesTo := goodIn_r _ [69, 70, 71, 79, 80, 81, 82, 83, 84, 85, 86, 87, 88, 89, 90, 91, 92, 93, 100, 101, 102, 103, 104, 105] (by decide +kernel) (by decide +kernel)
set_option maxRecDepth 20000 in
theorem gX5_nearestWithTop_X5_changesTo : GoodIn wsX5_nearestWithTop (wsV RX5 162 RX5 yX5_changesTo wsX5_changesTo) := goodIn_app (goodIn_of _ (by decide +kernel)) ggX5_nearestWithTop_X5_changesTo
set_option maxRecDepth 20000 in
theorem ggX5_nearestWithTop_X6_number : GoodIn wsX5_nearestWithTop wsX6_number := goodIn_r _ [75, 15, 14, 76, 77, 78, 94, 95, 96, 97, 98, 99] (by decide +kernel) (by decide +kernel)
set_option maxRecDepth 20000 in
theorem gX5_nearestWithTop_X6_number : GoodIn wsX5_nearestWithTop (wsV RX5 166 RX6 yX6_number wsX6_number) := goodIn_app (goodIn_of _ (by decide +kernel)) ggX5_nearestWithTop_X6_number
theorem dX5_nearestWithTop_0 : decode cX5_nearestWithTop 0 = .ok (.aload_n 0, 1) := by decide +kernel
theorem dX5_nearestWithTop_1 : decode cX5_nearestWithTop 1 = .ok (.getfield 19, 3) := by decide +kernel
theorem dX5_nearestWithTop_4 : decode cX5_nearestWithTop 4 = .ok (.ifCond .le 15, 3) := by decide +kernel
theorem dX5_nearestWithTop_7 : decode cX5_nearestWithTop 7 = .ok (.aload_n 0, 1) := by decide +kernel
theorem dX5_nearestWithTop_8 : decode cX5_nearestWithTop 8 = .ok (.getfield 66, 3) := by decide +kernel
theorem dX5_nearestWithTop_11 : decode cX5_nearestWithTop 11 = .ok (.aload_n 0, 1) := by decide +kernel
theorem dX5_nearestWithTop_12 : decode cX5_nearestWithTop 12 = .ok (.getfield 19, 3) := by decide +kernel
theorem dX5_nearestWithTop_15 : decode cX5_nearestWithTop 15 = .ok (.iconst 1, 1) := by decide +kernel
theorem dX5_nearestWithTop_16 : decode cX5_nearestWithTop 16 = .ok (.isub, 1) := by decide +kernel
theorem dX5_nearestWithTop_17 : decode cX5_nearestWithTop 17 = .ok (.iload_n 1, 1) := by decide +kernel
theorem dX5_nearestWithTop_18 : decode cX5_nearestWithTop 18 = .ok (.iastore, 1) := by decide +kernel
theorem dX5_nearestWithTop_19 : decode cX5_nearestWithTop 19 = .ok (.iconst (-1), 1) := by decide +kernel
theorem dX5_nearestWithTop_20 : decode cX5_nearestWithTop 20 = .ok (.istore_n 2, 1) := by decide +kernel
theorem dX5_nearestWithTop_21 : decode cX5_nearestWithTop 21 = .ok (.aload_n 0, 1) := by decide +kernel
theorem dX5_nearestWithTop_22 : decode cX5_nearestWithTop 22 = .ok (.getfield 55, 3) := by decide +kernel
theorem dX5_nearestWithTop_25 : decode cX5_nearestWithTop 25 = .ok (.aload_n 0, 1) := by decide +kernel
theorem dX5_nearestWithTop_26 : decode cX5_nearestWithTop 26 = .ok (.getfield 66, 3) := by decide +kernel
theorem dX5_nearestWithTop_29 : decode cX5_nearestWithTop 29 = .ok (.invokevirtual 154, 3) := by decide +kernel
theorem dX5_nearestWithTop_32 : decode cX5_nearestWithTop 32 = .ok (.iconst 0, 1) := by decide +kernel
theorem dX5_nearestWithTop_33 : decode cX5_nearestWithTop 33 = .ok (.istore_n 3, 1) := by decide +kernel
theorem dX5_nearestWithTop_34 : decode cX5_nearestWithTop 34 = .ok (.iload_n 3, 1) := by decide +kernel
theorem dX5_nearestWithTop_35 : decode cX5_nearestWithTop 35 = .ok (.sipush 10000, 3) := by decide +kernel
theorem dX5_nearestWithTop_38 : decode cX5_nearestWithTop 38 = .ok (.if_icmp .ge 61, 3) := by decide +kernel
theorem dX5_nearestWithTop_41 : decode cX5_nearestWithTop 41 = .ok (.aload_n 0, 1) := by decide +kernel
theorem dX5_nearestWithTop_42 : decode cX5_nearestWithTop 42 = .ok (.getfield 55, 3) := by decide +kernel
theorem dX5_nearestWithTop_45 : decode cX5_nearestWithTop 45 = .ok (.invokevirtual 157, 3) := by decide +kernel
theorem dX5_nearestWithTop_48 : decode cX5_nearestWithTop 48 = .ok (.ifCond .eq 51, 3) := by decide +kernel
theorem dX5_nearestWithTop_51 : decode cX5_nearestWithTop 51 = .ok (.aload_n 0, 1) := by decide +kernel
theorem dX5_nearestWithTop_52 : decode cX5_nearestWithTop 52 = .ok (.aload_n 0, 1) := by decide +kernel
theorem dX5_nearestWithTop_53 : decode cX5_nearestWithTop 53 = .ok (.getfield 55, 3) := by decide +kernel
theorem dX5_nearestWithTop_56 : decode cX5_nearestWithTop 56 = .ok (.getfield 161, 3) := by decide +kernel
theorem dX5_nearestWithTop_59 : decode cX5_nearestWithTop 59 = .ok (.invokevirtual 162, 3) := by decide +kernel
theorem dX5_nearestWithTop_62 : decode cX5_nearestWithTop 62 = .ok (.sipush 10000, 3) := by decide +kernel
theorem dX5_nearestWithTop_65 : decode cX5_nearestWithTop 65 = .ok (.imul, 1) := by decide +kernel
theorem dX5_nearestWithTop_66 : decode cX5_nearestWithTop 66 = .ok (.aload_n 0, 1) := by decide +kernel
theorem dX5_nearestWithTop_67 : decode cX5_nearestWithTop 67 = .ok (.getfield 55, 3) := by decide +kernel
theorem dX5_nearestWithTop_70 : decode cX5_nearestWithTop 70 = .ok (.invokevirtual 166, 3) := by decide +kernel
theorem dX5_nearestWithTop_73 : decode cX5_nearestWithTop 73 = .ok (.iadd, 1) := by decide +kernel
theorem dX5_nearestWithTop_74 : decode cX5_nearestWithTop 74 = .ok (.istore 4, 2) := by decide +kernel
theorem dX5_nearestWithTop_76 : decode cX5_nearestWithTop 76 = .ok (.iload_n 2, 1) := by decide +kernel
theorem dX5_nearestWithTop_77 : decode cX5_nearestWithTop 77 = .ok (.iconst (-1), 1) := by decide +kernel
theorem dX5_nearestWithTop_78 : decode cX5_nearestWithTop 78 = .ok (.if_icmp .ne 8, 3) := by decide +kernel
theorem dX5_nearestWithTop_81 : decode cX5_nearestWithTop 81 = .ok (.iload 4, 2) := by decide +kernel
theorem dX5_nearestWithTop_83 : decode cX5_nearestWithTop 83 = .ok (.goto 9, 3) := by decide +kernel
theorem dX5_nearestWithTop_86 : decode cX5_nearestWithTop 86 = .ok (.iload_n 2, 1) := by decide +kernel
theorem dX5_nearestWithTop_87 : decode cX5_nearestWithTop 87 = .ok (.iload 4, 2) := by decide +kernel
theorem dX5_nearestWithTop_89 : decode cX5_nearestWithTop 89 = .ok (.invokestatic 169, 3) := by decide +kernel
theorem dX5_nearestWithTop_92 : decode cX5_nearestWithTop 92 = .ok (.istore_n 2, 1) := by decide +kernel
theorem dX5_nearestWithTop_93 : decode cX5_nearestWithTop 93 = .ok (.iinc 3 1, 3) := by decide +kernel
theorem dX5_nearestWithTop_96 : decode cX5_nearestWithTop 96 = .ok (.goto (-62), 3) := by decide +kernel
theorem dX5_nearestWithTop_99 : decode cX5_nearestWithTop 99 = .ok (.iload_n 2, 1) := by decide +kernel
theorem dX5_nearestWithTop_100 : decode cX5_nearestWithTop 100 = .ok (.ireturn, 1) := by decide +kernel
theorem dX5_changesTo_0 : decode cX5_changesTo 0 = .ok (.iconst 0, 1) := by decide +kernel
theorem dX5_changesTo_1 : decode cX5_changesTo 1 = .ok (.istore_n 2, 1) := by decide +kernel
theorem dX5_changesTo_2 : decode cX5_changesTo 2 = .ok (.iconst 0, 1) := by decide +kernel
theorem dX5_changesTo_3 : decode cX5_changesTo 3 = .ok (.istore_n 3, 1) := by decide +kernel
theorem dX5_changesTo_4 : decode cX5_changesTo 4 = .ok (.iload_n 3, 1) := by decide +kernel
theorem dX5_changesTo_5 : decode cX5_changesTo 5 = .ok (.aload_n 0, 1) := by decide +kernel
theorem dX5_changesTo_6 : decode cX5_changesTo 6 = .ok (.getfield 15, 3) := by decide +kernel
theorem dX5_changesTo_9 : decode cX5_changesTo 9 = .ok (.if_icmp .ge 32, 3) := by decide +kernel
theorem dX5_changesTo_12 : decode cX5_changesTo 12 = .ok (.iload_n 2, 1) := by decide +kernel
theorem dX5_changesTo_13 : decode cX5_changesTo 13 = .ok (.aload_n 1, 1) := by decide +kernel
theorem dX5_changesTo_14 : decode cX5_changesTo 14 = .ok (.iload_n 3, 1) := by decide +kernel
theorem dX5_changesTo_15 : decode cX5_changesTo 15 = .ok (.iaload, 1) := by decide +kernel
theorem dX5_changesTo_16 : decode cX5_changesTo 16 = .ok (.aload_n 0, 1) := by decide +kernel
theorem dX5_changesTo_17 : decode cX5_changesTo 17 = .ok (.getfield 31, 3) := by decide +kernel
theorem dX5_changesTo_20 : decode cX5_changesTo 20 = .ok (.getfield 98, 3) := by decide +kernel
theorem dX5_changesTo_23 : decode cX5_changesTo 23 = .ok (.iload_n 3, 1) := by decide +kernel
theorem dX5_changesTo_24 : decode cX5_changesTo 24 = .ok (.iaload, 1) := by decide +kernel
theorem dX5_changesTo_25 : decode cX5_changesTo 25 = .ok (.if_icmp .ne 7, 3) := by decide +kernel
theorem dX5_changesTo_28 : decode cX5_changesTo 28 = .ok (.iconst 0, 1) := by decide +kernel
theorem dX5_changesTo_29 : decode cX5_changesTo 29 = .ok (.goto 4, 3) := by decide +kernel
theorem dX5_changesTo_32 : decode cX5_changesTo 32 = .ok (.iconst 1, 1) := by decide +kernel
theorem dX5_changesTo_33 : decode cX5_changesTo 33 = .ok (.iadd, 1) := by decide +kernel
theorem dX5_changesTo_34 : decode cX5_changesTo 34 = .ok (.istore_n 2, 1) := by decide +kernel
theorem dX5_changesTo_35 : decode cX5_changesTo 35 = .ok (.iinc 3 1, 3) := by decide +kernel
theorem dX5_changesTo_38 : decode cX5_changesTo 38 = .ok (.goto (-34), 3) := by decide +kernel
theorem dX5_changesTo_41 : decode cX5_changesTo 41 = .ok (.iload_n 2, 1) := by decide +kernel
theorem dX5_changesTo_42 : decode cX5_changesTo 42 = .ok (.ireturn, 1) := by decide +kernel
set_option maxRecDepth 20000 in
theorem ggX5_fitting_J7_fill_53178 : GoodIn wsX5_fitting wsJ7_fill_53178 := goodIn_r _ [10] (by decide +kernel) (by decide +kernel)
set_option maxRecDepth 20000 in
theorem gX5_fitting_J7_fill_53178 : GoodIn wsX5_fitting (va_wsS RX5 69 yJ7_fill_53178 wsJ7_fill_53178) := goodIn_app (goodIn_of _ (by decide +kernel)) ggX5_fitting_J7_fill_53178
set_option maxRecDepth 20000 in
theorem ggX5_fitting_X6_start : GoodIn wsX5_fitting wsX6_start := goodIn_r _ [15, 16, 17, 18, 19, 90, 91, 92, 93, 94, 95] (by decide +kernel) (by decide +kernel)
set_option maxRecDepth 20000 in
theorem gX5_fitting_X6_start : GoodIn wsX5_fitting (wsV RX5 154 RX6 yX6_start wsX6_start) := goodIn_app (goodIn_of _ (by decide +kernel)) ggX5_fitting_X6_start
set_option maxRecDepth 20000 in
theorem ggX5_fitting_X6_next : GoodIn wsX5_fitting wsX6_next := goodIn_r _ [23, 24, 19, 18, 17, 25, 26, 27, 14, 28, 29, 30, 31, 32, 33, 34, 16, 35, 36, 37, 38, 39, 40, 41, 42, 43, 44, 45, 46, 47, 48, 49, 50, 51, 52, 53, 54, 55, 56, 57, 58, 59, 60, 61, 62, 63, 64, 65, 66, 67, 68, 90, 91, 92, 93, 94, 95] (by decide +kernel) (by decide +kernel)
set_option maxRecDepth 20000 in
theorem gX5_fitting_X6_next : GoodIn wsX5_fitting (wsV RX5 157 RX6 yX6_next wsX6_next) := goodIn_app (goodIn_of _ (by decide +kernel)) ggX5_fitting_X6_next
theorem dX5_fitting_0 : decode cX5_fitting 0 = .ok (.aload_n 0, 1) := by decide +kernel
theorem dX5_fitting_1 : decode cX5_fitting 1 = .ok (.getfield 127, 3) := by decide +kernel
theorem dX5_fitting_4 : decode cX5_fitting 4 = .ok (.ifCond .eq 8, 3) := by decide +kernel
theorem dX5_fitting_7 : decode cX5_fitting 7 = .ok (.aload_n 0, 1) := by decide +kernel
theorem dX5_fitting_8 : decode cX5_fitting 8 = .ok (.getfield 172, 3) := by decide +kernel
theorem dX5_fitting_11 : decode cX5_fitting 11 = .ok (.ireturn, 1) := by decide +kernel
theorem dX5_fitting_12 : decode cX5_fitting 12 = .ok (.aload_n 0, 1) := by decide +kernel
theorem dX5_fitting_13 : decode cX5_fitting 13 = .ok (.iconst 0, 1) := by decide +kernel
theorem dX5_fitting_14 : decode cX5_fitting 14 = .ok (.putfield 172, 3) := by decide +kernel
theorem dX5_fitting_17 : decode cX5_fitting 17 = .ok (.aload_n 0, 1) := by decide +kernel
theorem dX5_fitting_18 : decode cX5_fitting 18 = .ok (.getfield 44, 3) := by decide +kernel
theorem dX5_fitting_21 : decode cX5_fitting 21 = .ok (.iconst 0, 1) := by decide +kernel
theorem dX5_fitting_22 : decode cX5_fitting 22 = .ok (.invokestatic 69, 3) := by decide +kernel
theorem dX5_fitting_25 : decode cX5_fitting 25 = .ok (.aload_n 0, 1) := by decide +kernel
theorem dX5_fitting_26 : decode cX5_fitting 26 = .ok (.getfield 55, 3) := by decide +kernel
theorem dX5_fitting_29 : decode cX5_fitting 29 = .ok (.aload_n 0, 1) := by decide +kernel
theorem dX5_fitting_30 : decode cX5_fitting 30 = .ok (.getfield 31, 3) := by decide +kernel
theorem dX5_fitting_33 : decode cX5_fitting 33 = .ok (.getfield 118, 3) := by decide +kernel
theorem dX5_fitting_36 : decode cX5_fitting 36 = .ok (.invokevirtual 154, 3) := by decide +kernel
theorem dX5_fitting_39 : decode cX5_fitting 39 = .ok (.iconst 0, 1) := by decide +kernel
theorem dX5_fitting_40 : decode cX5_fitting 40 = .ok (.istore_n 1, 1) := by decide +kernel
theorem dX5_fitting_41 : decode cX5_fitting 41 = .ok (.iload_n 1, 1) := by decide +kernel
theorem dX5_fitting_42 : decode cX5_fitting 42 = .ok (.sipush 10000, 3) := by decide +kernel
theorem dX5_fitting_45 : decode cX5_fitting 45 = .ok (.if_icmp .ge 68, 3) := by decide +kernel
theorem dX5_fitting_48 : decode cX5_fitting 48 = .ok (.aload_n 0, 1) := by decide +kernel
theorem dX5_fitting_49 : decode cX5_fitting 49 = .ok (.getfield 55, 3) := by decide +kernel
theorem dX5_fitting_52 : decode cX5_fitting 52 = .ok (.invokevirtual 157, 3) := by decide +kernel
theorem dX5_fitting_55 : decode cX5_fitting 55 = .ok (.ifCond .eq 58, 3) := by decide +kernel
theorem dX5_fitting_58 : decode cX5_fitting 58 = .ok (.aload_n 0, 1) := by decide +kernel
theorem dX5_fitting_59 : decode cX5_fitting 59 = .ok (.dup, 1) := by decide +kernel
theorem dX5_fitting_60 : decode cX5_fitting 60 = .ok (.getfield 172, 3) := by decide +kernel
theorem dX5_fitting_63 : decode cX5_fitting 63 = .ok (.iconst 1, 1) := by decide +kernel
theorem dX5_fitting_64 : decode cX5_fitting 64 = .ok (.iadd, 1) := by decide +kernel
theorem dX5_fitting_65 : decode cX5_fitting 65 = .ok (.putfield 172, 3) := by decide +kernel
theorem dX5_fitting_68 : decode cX5_fitting 68 = .ok (.iconst 0, 1) := by decide +kernel
theorem dX5_fitting_69 : decode cX5_fitting 69 = .ok (.istore_n 2, 1) := by decide +kernel
theorem dX5_fitting_70 : decode cX5_fitting 70 = .ok (.iload_n 2, 1) := by decide +kernel
theorem dX5_fitting_71 : decode cX5_fitting 71 = .ok (.aload_n 0, 1) := by decide +kernel
theorem dX5_fitting_72 : decode cX5_fitting 72 = .ok (.getfield 15, 3) := by decide +kernel
theorem dX5_fitting_75 : decode cX5_fitting 75 = .ok (.if_icmp .ge 32, 3) := by decide +kernel
theorem dX5_fitting_78 : decode cX5_fitting 78 = .ok (.aload_n 0, 1) := by decide +kernel
theorem dX5_fitting_79 : decode cX5_fitting 79 = .ok (.getfield 44, 3) := by decide +kernel
theorem dX5_fitting_82 : decode cX5_fitting 82 = .ok (.iload_n 2, 1) := by decide +kernel
theorem dX5_fitting_83 : decode cX5_fitting 83 = .ok (.bipush 10, 2) := by decide +kernel
theorem dX5_fitting_85 : decode cX5_fitting 85 = .ok (.imul, 1) := by decide +kernel
theorem dX5_fitting_86 : decode cX5_fitting 86 = .ok (.aload_n 0, 1) := by decide +kernel
theorem dX5_fitting_87 : decode cX5_fitting 87 = .ok (.getfield 55, 3) := by decide +kernel
theorem dX5_fitting_90 : decode cX5_fitting 90 = .ok (.getfield 161, 3) := by decide +kernel
theorem dX5_fitting_93 : decode cX5_fitting 93 = .ok (.iload_n 2, 1) := by decide +kernel
theorem dX5_fitting_94 : decode cX5_fitting 94 = .ok (.iaload, 1) := by decide +kernel
theorem dX5_fitting_95 : decode cX5_fitting 95 = .ok (.iadd, 1) := by decide +kernel
theorem dX5_fitting_96 : decode cX5_fitting 96 = .ok (.dup2, 1) := by decide +kernel
theorem dX5_fitting_97 : decode cX5_fitting 97 = .ok (.iaload, 1) := by decide +kernel
theorem dX5_fitting_98 : decode cX5_fitting 98 = .ok (.iconst 1, 1) := by decide +kernel
theorem dX5_fitting_99 : decode cX5_fitting 99 = .ok (.iadd, 1) := by decide +kernel
theorem dX5_fitting_100 : decode cX5_fitting 100 = .ok (.iastore, 1) := by decide +kernel
theorem dX5_fitting_101 : decode cX5_fitting 101 = .ok (.iinc 2 1, 3) := by decide +kernel
theorem dX5_fitting_104 : decode cX5_fitting 104 = .ok (.goto (-34), 3) := by decide +kernel
theorem dX5_fitting_107 : decode cX5_fitting 107 = .ok (.iinc 1 1, 3) := by decide +kernel
theorem dX5_fitting_110 : decode cX5_fitting 110 = .ok (.goto (-69), 3) := by decide +kernel
theorem dX5_fitting_113 : decode cX5_fitting 113 = .ok (.aload_n 0, 1) := by decide +kernel
theorem dX5_fitting_114 : decode cX5_fitting 114 = .ok (.iconst 1, 1) := by decide +kernel
theorem dX5_fitting_115 : decode cX5_fitting 115 = .ok (.putfield 127, 3) := by decide +kernel
theorem dX5_fitting_118 : decode cX5_fitting 118 = .ok (.aload_n 0, 1) := by decide +kernel
theorem dX5_fitting_119 : decode cX5_fitting 119 = .ok (.getfield 172, 3) := by decide +kernel
theorem dX5_fitting_122 : decode cX5_fitting 122 = .ok (.ireturn, 1) := by decide +kernel
set_option maxRecDepth 20000 in
theorem ggX5_fittingRow_X6_start : GoodIn wsX5_fittingRow wsX6_start := goodIn_r _ [7, 8, 9, 10, 11, 89, 90, 91, 92, 93, 94] (by decide +kernel) (by decide +kernel)
set_option maxRecDepth 20000 in
theorem gX5_fittingRow_X6_start : GoodIn wsX5_fittingRow (wsV RX5 154 RX6 yX6_start wsX6_start) := goodIn_app (goodIn_of _ (by decide +kernel)) ggX5_fittingRow_X6_start
set_option maxRecDepth 20000 in
theorem ggX5_fittingRow_X6_next : GoodIn wsX5_fittingRow wsX6_next := goodIn_r _ [15, 16, 11, 10, 9, 17, 18, 19, 6, 20, 21, 22, 23, 24, 25, 26, 8, 27, 28, 29, 30, 31, 32, 33, 34, 35, 36, 37, 38, 39, 40, 41, 42, 43, 44, 45, 46, 47, 48, 49, 50, 51, 52, 53, 54, 55, 56, 57, 58, 59, 60, 89, 90, 91, 92, 93, 94] (by decide +kernel) (by decide +kernel)
set_option maxRecDepth 20000 in
theorem gX5_fittingRow_X6_next : GoodIn wsX5_fittingRow (wsV RX5 157 RX6 yX6_next wsX6_next) := goodIn_app (goodIn_of _ (by decide +kernel)) ggX5_fittingRow_X6_next
set_option maxRecDepth 20000 in
theorem ggX5_fittingRow_X6_number : GoodIn wsX5_fittingRow wsX6_number := goodIn_r _ [64, 10, 9, 65, 66, 67, 89, 90, 91, 92, 93, 94] (by decide +kernel) (by decide +kernel)
set_option maxRecDepth 20000 in
theorem gX5_fittingRow_X6_number : GoodIn wsX5_fittingRow (wsV RX5 166 RX6 yX6_number wsX6_number) := goodIn_app (goodIn_of _ (by decide +kernel)) ggX5_fittingRow_X6_number
theorem dX5_fittingRow_0 : decode cX5_fittingRow 0 = .ok (.aload_n 0, 1) := by decide +kernel
theorem dX5_fittingRow_1 : decode cX5_fittingRow 1 = .ok (.getfield 55, 3) := by decide +kernel
theorem dX5_fittingRow_4 : decode cX5_fittingRow 4 = .ok (.aload_n 0, 1) := by decide +kernel
theorem dX5_fittingRow_5 : decode cX5_fittingRow 5 = .ok (.getfield 31, 3) := by decide +kernel
theorem dX5_fittingRow_8 : decode cX5_fittingRow 8 = .ok (.getfield 118, 3) := by decide +kernel
theorem dX5_fittingRow_11 : decode cX5_fittingRow 11 = .ok (.invokevirtual 154, 3) := by decide +kernel
theorem dX5_fittingRow_14 : decode cX5_fittingRow 14 = .ok (.iconst 0, 1) := by decide +kernel
theorem dX5_fittingRow_15 : decode cX5_fittingRow 15 = .ok (.istore_n 2, 1) := by decide +kernel
theorem dX5_fittingRow_16 : decode cX5_fittingRow 16 = .ok (.iload_n 2, 1) := by decide +kernel
theorem dX5_fittingRow_17 : decode cX5_fittingRow 17 = .ok (.iload_n 1, 1) := by decide +kernel
theorem dX5_fittingRow_18 : decode cX5_fittingRow 18 = .ok (.if_icmp .gt 28, 3) := by decide +kernel
theorem dX5_fittingRow_21 : decode cX5_fittingRow 21 = .ok (.iload_n 2, 1) := by decide +kernel
theorem dX5_fittingRow_22 : decode cX5_fittingRow 22 = .ok (.sipush 10000, 3) := by decide +kernel
theorem dX5_fittingRow_25 : decode cX5_fittingRow 25 = .ok (.if_icmp .ge 21, 3) := by decide +kernel
theorem dX5_fittingRow_28 : decode cX5_fittingRow 28 = .ok (.aload_n 0, 1) := by decide +kernel
theorem dX5_fittingRow_29 : decode cX5_fittingRow 29 = .ok (.getfield 55, 3) := by decide +kernel
theorem dX5_fittingRow_32 : decode cX5_fittingRow 32 = .ok (.invokevirtual 157, 3) := by decide +kernel
theorem dX5_fittingRow_35 : decode cX5_fittingRow 35 = .ok (.ifCond .ne 5, 3) := by decide +kernel
theorem dX5_fittingRow_38 : decode cX5_fittingRow 38 = .ok (.iconst (-1), 1) := by decide +kernel
theorem dX5_fittingRow_39 : decode cX5_fittingRow 39 = .ok (.ireturn, 1) := by decide +kernel
theorem dX5_fittingRow_40 : decode cX5_fittingRow 40 = .ok (.iinc 2 1, 3) := by decide +kernel
theorem dX5_fittingRow_43 : decode cX5_fittingRow 43 = .ok (.goto (-27), 3) := by decide +kernel
theorem dX5_fittingRow_46 : decode cX5_fittingRow 46 = .ok (.aload_n 0, 1) := by decide +kernel
theorem dX5_fittingRow_47 : decode cX5_fittingRow 47 = .ok (.getfield 55, 3) := by decide +kernel
theorem dX5_fittingRow_50 : decode cX5_fittingRow 50 = .ok (.invokevirtual 166, 3) := by decide +kernel
theorem dX5_fittingRow_53 : decode cX5_fittingRow 53 = .ok (.ireturn, 1) := by decide +kernel
set_option maxRecDepth 20000 in
theorem ggX5_nextLook_X5_fitting : GoodIn wsX5_nextLook wsX5_fitting := goodIn_r _ [8, 9, 10, 11, 12, 3, 13, 14, 15, 16, 17, 18, 19, 20, 21, 22, 23, 24, 25, 26, 27, 28, 29, 30, 31, 32, 33, 34, 35, 36, 37, 38, 39, 40, 41, 42, 43, 44, 45, 46, 47, 48, 49, 50, 51, 52, 53, 54, 55, 56, 57, 58, 59, 60, 61, 62, 63, 64, 65, 66, 67, 68, 69, 70, 71, 72, 73, 74, 75, 100, 101, 102, 103, 104, 105, 106, 107, 108, 109, 110, 111, 112, 113, 114, 115, 116, 117, 118, 119, 120, 121, 122, 123, 124, 125, 126] (by decide +kernel) (by decide +kernel)
set_option maxRecDepth 20000 in
theorem gX5_nextLook_X5_fitting : GoodIn wsX5_nextLook (wsV RX5 175 RX5 yX5_fitting wsX5_fitting) := goodIn_app (goodIn_of _ (by decide +kernel)) ggX5_nextLook_X5_fitting
set_option maxRecDepth 20000 in
theorem ggX5_nextLook_X5_tallyFitting : GoodIn wsX5_nextLook wsX5_tallyFitting := goodIn_r _ [79, 2, 12, 3, 80, 81, 82, 83, 84, 85, 86, 15, 16, 17, 18, 19, 20, 21, 22, 23, 24, 25, 26, 27, 28, 29, 30, 31, 32, 33, 34, 35, 36, 37, 38, 39, 40, 41, 42, 43, 44, 45, 46, 47, 48, 49, 50, 51, 52, 53, 54, 55, 56, 57, 58, 59, 60, 61, 62, 63, 64, 65, 66, 67, 68, 69, 70, 71, 72, 73, 74, 75, 87, 88, 89, 90, 91, 92, 93, 94, 100, 101, 102, 103, 104, 105, 106, 107, 108, 109, 110, 111, 112, 113, 114, 115, 116, 117, 118, 119, 120, 121, 122, 123, 124, 125, 126, 127, 128] (by decide +kernel) (by decide +kernel)
set_option maxRecDepth 20000 in
theorem gX5_nextLook_X5_tallyFitting : GoodIn wsX5_nextLook (wsV RX5 177 RX5 yX5_tallyFitting wsX5_tallyFitting) := goodIn_app (goodIn_of _ (by decide +kernel)) ggX5_nextLook_X5_tallyFitting
set_option maxRecDepth 20000 in
theorem ggX5_nextLook_X12_worst : GoodIn wsX5_nextLook wsX12_worst := goodIn_r _ [98, 91, 85, 99, 73, 56, 74, 127, 128] (by decide +kernel) (by decide +kernel)
set_option maxRecDepth 20000 in
theorem gX5_nextLook_X12_worst : GoodIn wsX5_nextLook (wsV RX5 180 RX12 yX12_worst wsX12_worst) := goodIn_app (goodIn_of _ (by decide +kernel)) ggX5_nextLook_X12_worst
theorem dX5_nextLook_0 : decode cX5_nextLook 0 = .ok (.aload_n 0, 1) := by decide +kernel
theorem dX5_nextLook_1 : decode cX5_nextLook 1 = .ok (.invokevirtual 175, 3) := by decide +kernel
theorem dX5_nextLook_4 : decode cX5_nextLook 4 = .ok (.ifCond .ne 5, 3) := by decide +kernel
theorem dX5_nextLook_7 : decode cX5_nextLook 7 = .ok (.iconst (-1), 1) := by decide +kernel
theorem dX5_nextLook_8 : decode cX5_nextLook 8 = .ok (.ireturn, 1) := by decide +kernel
theorem dX5_nextLook_9 : decode cX5_nextLook 9 = .ok (.aload_n 0, 1) := by decide +kernel
theorem dX5_nextLook_10 : decode cX5_nextLook 10 = .ok (.invokevirtual 177, 3) := by decide +kernel
theorem dX5_nextLook_13 : decode cX5_nextLook 13 = .ok (.iconst (-1), 1) := by decide +kernel
theorem dX5_nextLook_14 : decode cX5_nextLook 14 = .ok (.istore_n 1, 1) := by decide +kernel
theorem dX5_nextLook_15 : decode cX5_nextLook 15 = .ok (.sipush 10001, 3) := by decide +kernel
theorem dX5_nextLook_18 : decode cX5_nextLook 18 = .ok (.istore_n 2, 1) := by decide +kernel
theorem dX5_nextLook_19 : decode cX5_nextLook 19 = .ok (.iconst 0, 1) := by decide +kernel
theorem dX5_nextLook_20 : decode cX5_nextLook 20 = .ok (.istore_n 3, 1) := by decide +kernel
theorem dX5_nextLook_21 : decode cX5_nextLook 21 = .ok (.iload_n 3, 1) := by decide +kernel
theorem dX5_nextLook_22 : decode cX5_nextLook 22 = .ok (.aload_n 0, 1) := by decide +kernel
theorem dX5_nextLook_23 : decode cX5_nextLook 23 = .ok (.getfield 19, 3) := by decide +kernel
theorem dX5_nextLook_26 : decode cX5_nextLook 26 = .ok (.if_icmp .ge 43, 3) := by decide +kernel
theorem dX5_nextLook_29 : decode cX5_nextLook 29 = .ok (.aload_n 0, 1) := by decide +kernel
theorem dX5_nextLook_30 : decode cX5_nextLook 30 = .ok (.getfield 62, 3) := by decide +kernel
theorem dX5_nextLook_33 : decode cX5_nextLook 33 = .ok (.iload_n 3, 1) := by decide +kernel
theorem dX5_nextLook_34 : decode cX5_nextLook 34 = .ok (.invokevirtual 180, 3) := by decide +kernel
theorem dX5_nextLook_37 : decode cX5_nextLook 37 = .ok (.istore 4, 2) := by decide +kernel
theorem dX5_nextLook_39 : decode cX5_nextLook 39 = .ok (.aload_n 0, 1) := by decide +kernel
theorem dX5_nextLook_40 : decode cX5_nextLook 40 = .ok (.getfield 31, 3) := by decide +kernel
theorem dX5_nextLook_43 : decode cX5_nextLook 43 = .ok (.getfield 118, 3) := by decide +kernel
theorem dX5_nextLook_46 : decode cX5_nextLook 46 = .ok (.iload_n 3, 1) := by decide +kernel
theorem dX5_nextLook_47 : decode cX5_nextLook 47 = .ok (.iaload, 1) := by decide +kernel
theorem dX5_nextLook_48 : decode cX5_nextLook 48 = .ok (.iconst (-1), 1) := by decide +kernel
theorem dX5_nextLook_49 : decode cX5_nextLook 49 = .ok (.if_icmp .ne 14, 3) := by decide +kernel
theorem dX5_nextLook_52 : decode cX5_nextLook 52 = .ok (.iload 4, 2) := by decide +kernel
theorem dX5_nextLook_54 : decode cX5_nextLook 54 = .ok (.iload_n 2, 1) := by decide +kernel
theorem dX5_nextLook_55 : decode cX5_nextLook 55 = .ok (.if_icmp .ge 8, 3) := by decide +kernel
theorem dX5_nextLook_58 : decode cX5_nextLook 58 = .ok (.iload 4, 2) := by decide +kernel
theorem dX5_nextLook_60 : decode cX5_nextLook 60 = .ok (.istore_n 2, 1) := by decide +kernel
theorem dX5_nextLook_61 : decode cX5_nextLook 61 = .ok (.iload_n 3, 1) := by decide +kernel
theorem dX5_nextLook_62 : decode cX5_nextLook 62 = .ok (.istore_n 1, 1) := by decide +kernel
theorem dX5_nextLook_63 : decode cX5_nextLook 63 = .ok (.iinc 3 1, 3) := by decide +kernel
theorem dX5_nextLook_66 : decode cX5_nextLook 66 = .ok (.goto (-45), 3) := by decide +kernel
theorem dX5_nextLook_69 : decode cX5_nextLook 69 = .ok (.iload_n 1, 1) := by decide +kernel
theorem dX5_nextLook_70 : decode cX5_nextLook 70 = .ok (.ireturn, 1) := by decide +kernel
set_option maxRecDepth 20000 in
theorem ggX5_tallyFitting_X12_clear : GoodIn wsX5_tallyFitting wsX12_clear := goodIn_r _ [8, 9, 10, 11, 12, 13, 107, 108] (by decide +kernel) (by decide +kernel)
set_option maxRecDepth 20000 in
theorem gX5_tallyFitting_X12_clear : GoodIn wsX5_tallyFitting (wsV RX5 183 RX12 yX12_clear wsX12_clear) := goodIn_app (goodIn_of _ (by decide +kernel)) ggX5_tallyFitting_X12_clear
set_option maxRecDepth 20000 in
theorem ggX5_tallyFitting_X6_start : GoodIn wsX5_tallyFitting wsX6_start := goodIn_r _ [18, 19, 20, 21, 22, 101, 102, 103, 104, 105, 106] (by decide +kernel) (by decide +kernel)
set_option maxRecDepth 20000 in
theorem gX5_tallyFitting_X6_start : GoodIn wsX5_tallyFitting (wsV RX5 154 RX6 yX6_start wsX6_start) := goodIn_app (goodIn_of _ (by decide +kernel)) ggX5_tallyFitting_X6_start
set_option maxRecDepth 20000 in
theorem ggX5_tallyFitting_X6_next : GoodIn wsX5_tallyFitting wsX6_next := goodIn_r _ [26, 27, 22, 21, 20, 28, 29, 30, 17, 31, 32, 33, 34, 35, 36, 37, 19, 38, 39, 40, 41, 42, 43, 44, 45, 46, 47, 48, 49, 50, 51, 52, 53, 54, 55, 56, 57, 58, 59, 60, 61, 62, 63, 64, 65, 66, 67, 68, 69, 70, 71, 101, 102, 103, 104, 105, 106] (by decide +kernel) (by decide +kernel)
set_option maxRecDepth 20000 in
theorem gX5_tallyFitting_X6_next : GoodIn wsX5_tallyFitting (wsV RX5 157 RX6 yX6_next wsX6_next) := goodIn_app (goodIn_of _ (by decide +kernel)) ggX5_tallyFitting_X6_next
set_option maxRecDepth 20000 in
theorem ggX5_tallyFitting_X12_add : GoodIn wsX5_tallyFitting wsX12_add := goodIn_r _ [75, 76, 9, 77, 78, 79, 107, 108] (by decide +kernel) (by decide +kernel)
set_option maxRecDepth 20000 in
theorem gX5_tallyFitting_X12_add : GoodIn wsX5_tallyFitting (wsV RX5 186 RX12 yX12_add wsX12_add) := goodIn_app (goodIn_of _ (by decide +kernel)) ggX5_tallyFitting_X12_add
theorem dX5_tallyFitting_0 : decode cX5_tallyFitting 0 = .ok (.aload_n 0, 1) := by decide +kernel
theorem dX5_tallyFitting_1 : decode cX5_tallyFitting 1 = .ok (.getfield 62, 3) := by decide +kernel
theorem dX5_tallyFitting_4 : decode cX5_tallyFitting 4 = .ok (.invokevirtual 183, 3) := by decide +kernel
theorem dX5_tallyFitting_7 : decode cX5_tallyFitting 7 = .ok (.aload_n 0, 1) := by decide +kernel
theorem dX5_tallyFitting_8 : decode cX5_tallyFitting 8 = .ok (.getfield 55, 3) := by decide +kernel
theorem dX5_tallyFitting_11 : decode cX5_tallyFitting 11 = .ok (.aload_n 0, 1) := by decide +kernel
theorem dX5_tallyFitting_12 : decode cX5_tallyFitting 12 = .ok (.getfield 31, 3) := by decide +kernel
theorem dX5_tallyFitting_15 : decode cX5_tallyFitting 15 = .ok (.getfield 118, 3) := by decide +kernel
theorem dX5_tallyFitting_18 : decode cX5_tallyFitting 18 = .ok (.invokevirtual 154, 3) := by decide +kernel
theorem dX5_tallyFitting_21 : decode cX5_tallyFitting 21 = .ok (.iconst 0, 1) := by decide +kernel
theorem dX5_tallyFitting_22 : decode cX5_tallyFitting 22 = .ok (.istore_n 1, 1) := by decide +kernel
theorem dX5_tallyFitting_23 : decode cX5_tallyFitting 23 = .ok (.iload_n 1, 1) := by decide +kernel
theorem dX5_tallyFitting_24 : decode cX5_tallyFitting 24 = .ok (.sipush 10000, 3) := by decide +kernel
theorem dX5_tallyFitting_27 : decode cX5_tallyFitting 27 = .ok (.if_icmp .ge 33, 3) := by decide +kernel
theorem dX5_tallyFitting_30 : decode cX5_tallyFitting 30 = .ok (.aload_n 0, 1) := by decide +kernel
theorem dX5_tallyFitting_31 : decode cX5_tallyFitting 31 = .ok (.getfield 55, 3) := by decide +kernel
theorem dX5_tallyFitting_34 : decode cX5_tallyFitting 34 = .ok (.invokevirtual 157, 3) := by decide +kernel
theorem dX5_tallyFitting_37 : decode cX5_tallyFitting 37 = .ok (.ifCond .eq 23, 3) := by decide +kernel
theorem dX5_tallyFitting_40 : decode cX5_tallyFitting 40 = .ok (.aload_n 0, 1) := by decide +kernel
theorem dX5_tallyFitting_41 : decode cX5_tallyFitting 41 = .ok (.getfield 62, 3) := by decide +kernel
theorem dX5_tallyFitting_44 : decode cX5_tallyFitting 44 = .ok (.aload_n 0, 1) := by decide +kernel
theorem dX5_tallyFitting_45 : decode cX5_tallyFitting 45 = .ok (.getfield 55, 3) := by decide +kernel
theorem dX5_tallyFitting_48 : decode cX5_tallyFitting 48 = .ok (.getfield 161, 3) := by decide +kernel
theorem dX5_tallyFitting_51 : decode cX5_tallyFitting 51 = .ok (.invokevirtual 186, 3) := by decide +kernel
theorem dX5_tallyFitting_54 : decode cX5_tallyFitting 54 = .ok (.iinc 1 1, 3) := by decide +kernel
theorem dX5_tallyFitting_57 : decode cX5_tallyFitting 57 = .ok (.goto (-34), 3) := by decide +kernel
theorem dX5_tallyFitting_60 : decode cX5_tallyFitting 60 = .ok (.return_, 1) := by decide +kernel
set_option maxRecDepth 20000 in
theorem ggX5_sorts_X5_canBe : GoodIn wsX5_sorts wsX5_canBe := goodIn_r _ [6, 7, 8, 9, 10, 11, 12, 13, 14, 15, 16, 17, 18, 19, 20, 21, 22, 23, 24, 25, 26, 27, 28, 29, 30, 31, 32, 33, 34, 35, 36, 37, 38, 39, 40, 41, 42, 43, 44, 45, 46, 47, 48, 49, 50, 51, 52, 53, 54, 55, 56, 57, 58, 59, 60, 61, 62, 63, 64, 65, 66, 67, 68, 69, 70, 71, 72, 73, 74, 75, 76, 77, 78, 79] (by decide +kernel) (by decide +kernel)
set_option maxRecDepth 20000 in
theorem gX5_sorts_X5_canBe : GoodIn wsX5_sorts (wsV RX5 189 RX5 yX5_canBe wsX5_canBe) := goodIn_app (goodIn_of _ (by decide +kernel)) ggX5_sorts_X5_canBe
theorem dX5_sorts_0 : decode cX5_sorts 0 = .ok (.iconst 0, 1) := by decide +kernel
theorem dX5_sorts_1 : decode cX5_sorts 1 = .ok (.istore_n 2, 1) := by decide +kernel
theorem dX5_sorts_2 : decode cX5_sorts 2 = .ok (.iconst 0, 1) := by decide +kernel
theorem dX5_sorts_3 : decode cX5_sorts 3 = .ok (.istore_n 3, 1) := by decide +kernel
theorem dX5_sorts_4 : decode cX5_sorts 4 = .ok (.iload_n 3, 1) := by decide +kernel
theorem dX5_sorts_5 : decode cX5_sorts 5 = .ok (.aload_n 0, 1) := by decide +kernel
theorem dX5_sorts_6 : decode cX5_sorts 6 = .ok (.getfield 9, 3) := by decide +kernel
theorem dX5_sorts_9 : decode cX5_sorts 9 = .ok (.arraylength, 1) := by decide +kernel
theorem dX5_sorts_10 : decode cX5_sorts 10 = .ok (.if_icmp .ge 29, 3) := by decide +kernel
theorem dX5_sorts_13 : decode cX5_sorts 13 = .ok (.aload_n 0, 1) := by decide +kernel
theorem dX5_sorts_14 : decode cX5_sorts 14 = .ok (.iload_n 1, 1) := by decide +kernel
theorem dX5_sorts_15 : decode cX5_sorts 15 = .ok (.aload_n 0, 1) := by decide +kernel
theorem dX5_sorts_16 : decode cX5_sorts 16 = .ok (.getfield 9, 3) := by decide +kernel
theorem dX5_sorts_19 : decode cX5_sorts 19 = .ok (.iload_n 3, 1) := by decide +kernel
theorem dX5_sorts_20 : decode cX5_sorts 20 = .ok (.aaload, 1) := by decide +kernel
theorem dX5_sorts_21 : decode cX5_sorts 21 = .ok (.invokevirtual 189, 3) := by decide +kernel
theorem dX5_sorts_24 : decode cX5_sorts 24 = .ok (.ifCond .eq 9, 3) := by decide +kernel
theorem dX5_sorts_27 : decode cX5_sorts 27 = .ok (.iload_n 2, 1) := by decide +kernel
theorem dX5_sorts_28 : decode cX5_sorts 28 = .ok (.iconst 1, 1) := by decide +kernel
theorem dX5_sorts_29 : decode cX5_sorts 29 = .ok (.iload_n 3, 1) := by decide +kernel
theorem dX5_sorts_30 : decode cX5_sorts 30 = .ok (.ishl, 1) := by decide +kernel
theorem dX5_sorts_31 : decode cX5_sorts 31 = .ok (.ior, 1) := by decide +kernel
theorem dX5_sorts_32 : decode cX5_sorts 32 = .ok (.istore_n 2, 1) := by decide +kernel
theorem dX5_sorts_33 : decode cX5_sorts 33 = .ok (.iinc 3 1, 3) := by decide +kernel
theorem dX5_sorts_36 : decode cX5_sorts 36 = .ok (.goto (-32), 3) := by decide +kernel
theorem dX5_sorts_39 : decode cX5_sorts 39 = .ok (.iload_n 2, 1) := by decide +kernel
theorem dX5_sorts_40 : decode cX5_sorts 40 = .ok (.ireturn, 1) := by decide +kernel
set_option maxRecDepth 20000 in
theorem ggX5_canBe_X7_isOf : GoodIn wsX5_canBe wsX7_isOf := goodIn_r _ [6, 7, 70, 71, 72, 73] (by decide +kernel) (by decide +kernel)
set_option maxRecDepth 20000 in
theorem gX5_canBe_X7_isOf : GoodIn wsX5_canBe (wsV RX5 200 RX7 yX7_isOf wsX7_isOf) := goodIn_app (goodIn_of _ (by decide +kernel)) ggX5_canBe_X7_isOf
set_option maxRecDepth 20000 in
theorem ggX5_canBe_X7_allows : GoodIn wsX5_canBe wsX7_allows := goodIn_r _ [11, 12, 13, 14, 15, 16, 17, 18, 19, 20, 21, 22, 23, 24, 25, 26, 27, 28, 29, 30, 31, 32, 33, 34, 35, 36, 37, 38, 39, 40, 41, 42, 43, 44, 45, 46, 47, 48, 70, 71, 72, 73] (by decide +kernel) (by decide +kernel)
set_option maxRecDepth 20000 in
theorem gX5_canBe_X7_allows : GoodIn wsX5_canBe (wsV RX5 205 RX7 yX7_allows wsX7_allows) := goodIn_app (goodIn_of _ (by decide +kernel)) ggX5_canBe_X7_allows
theorem dX5_canBe_0 : decode cX5_canBe 0 = .ok (.iconst 0, 1) := by decide +kernel
theorem dX5_canBe_1 : decode cX5_canBe 1 = .ok (.istore_n 3, 1) := by decide +kernel
theorem dX5_canBe_2 : decode cX5_canBe 2 = .ok (.iload_n 3, 1) := by decide +kernel
theorem dX5_canBe_3 : decode cX5_canBe 3 = .ok (.aload_n 0, 1) := by decide +kernel
theorem dX5_canBe_4 : decode cX5_canBe 4 = .ok (.getfield 31, 3) := by decide +kernel
theorem dX5_canBe_7 : decode cX5_canBe 7 = .ok (.getfield 193, 3) := by decide +kernel
theorem dX5_canBe_10 : decode cX5_canBe 10 = .ok (.if_icmp .ge 57, 3) := by decide +kernel
theorem dX5_canBe_13 : decode cX5_canBe 13 = .ok (.iload_n 3, 1) := by decide +kernel
theorem dX5_canBe_14 : decode cX5_canBe 14 = .ok (.aload_n 0, 1) := by decide +kernel
theorem dX5_canBe_15 : decode cX5_canBe 15 = .ok (.getfield 31, 3) := by decide +kernel
theorem dX5_canBe_18 : decode cX5_canBe 18 = .ok (.getfield 196, 3) := by decide +kernel
theorem dX5_canBe_21 : decode cX5_canBe 21 = .ok (.arraylength, 1) := by decide +kernel
theorem dX5_canBe_22 : decode cX5_canBe 22 = .ok (.if_icmp .ge 45, 3) := by decide +kernel
theorem dX5_canBe_25 : decode cX5_canBe 25 = .ok (.aload_n 0, 1) := by decide +kernel
theorem dX5_canBe_26 : decode cX5_canBe 26 = .ok (.getfield 31, 3) := by decide +kernel
theorem dX5_canBe_29 : decode cX5_canBe 29 = .ok (.getfield 196, 3) := by decide +kernel
theorem dX5_canBe_32 : decode cX5_canBe 32 = .ok (.iload_n 3, 1) := by decide +kernel
theorem dX5_canBe_33 : decode cX5_canBe 33 = .ok (.aaload, 1) := by decide +kernel
theorem dX5_canBe_34 : decode cX5_canBe 34 = .ok (.astore 4, 2) := by decide +kernel
theorem dX5_canBe_36 : decode cX5_canBe 36 = .ok (.aload 4, 2) := by decide +kernel
theorem dX5_canBe_38 : decode cX5_canBe 38 = .ok (.ifnull 23, 3) := by decide +kernel
theorem dX5_canBe_41 : decode cX5_canBe 41 = .ok (.aload 4, 2) := by decide +kernel
theorem dX5_canBe_43 : decode cX5_canBe 43 = .ok (.iload_n 1, 1) := by decide +kernel
theorem dX5_canBe_44 : decode cX5_canBe 44 = .ok (.invokevirtual 200, 3) := by decide +kernel
theorem dX5_canBe_47 : decode cX5_canBe 47 = .ok (.ifCond .eq 14, 3) := by decide +kernel
theorem dX5_canBe_50 : decode cX5_canBe 50 = .ok (.aload 4, 2) := by decide +kernel
theorem dX5_canBe_52 : decode cX5_canBe 52 = .ok (.aload_n 2, 1) := by decide +kernel
theorem dX5_canBe_53 : decode cX5_canBe 53 = .ok (.invokevirtual 205, 3) := by decide +kernel
theorem dX5_canBe_56 : decode cX5_canBe 56 = .ok (.ifCond .ne 5, 3) := by decide +kernel
theorem dX5_canBe_59 : decode cX5_canBe 59 = .ok (.iconst 0, 1) := by decide +kernel
theorem dX5_canBe_60 : decode cX5_canBe 60 = .ok (.ireturn, 1) := by decide +kernel
theorem dX5_canBe_61 : decode cX5_canBe 61 = .ok (.iinc 3 1, 3) := by decide +kernel
theorem dX5_canBe_64 : decode cX5_canBe 64 = .ok (.goto (-62), 3) := by decide +kernel
theorem dX5_canBe_67 : decode cX5_canBe 67 = .ok (.iconst 1, 1) := by decide +kernel
theorem dX5_canBe_68 : decode cX5_canBe 68 = .ok (.ireturn, 1) := by decide +kernel
set_option maxRecDepth 20000 in
theorem ggX5_nextTry_X5_mostAlike : GoodIn wsX5_nextTry wsX5_mostAlike := goodIn_r _ [5, 6, 7, 8, 9, 10, 11, 12, 13, 14, 15, 16, 17, 18, 19, 20, 21, 22, 23, 24, 25, 26, 27, 28, 29, 30, 31, 32, 33, 34, 35, 36, 37, 38, 39, 40, 41, 42, 43, 44, 4, 45, 46, 47, 48, 49, 50, 51, 52, 53, 54, 55, 56, 57, 58, 59, 60] (by decide +kernel) (by decide +kernel)
set_option maxRecDepth 20000 in
theorem gX5_nextTry_X5_mostAlike : GoodIn wsX5_nextTry (wsV RX5 209 RX5 yX5_mostAlike wsX5_mostAlike) := goodIn_app (goodIn_of _ (by decide +kernel)) ggX5_nextTry_X5_mostAlike
theorem dX5_nextTry_0 : decode cX5_nextTry 0 = .ok (.iload_n 1, 1) := by decide +kernel
theorem dX5_nextTry_1 : decode cX5_nextTry 1 = .ok (.ifCond .ne 5, 3) := by decide +kernel
theorem dX5_nextTry_4 : decode cX5_nextTry 4 = .ok (.iconst (-1), 1) := by decide +kernel
theorem dX5_nextTry_5 : decode cX5_nextTry 5 = .ok (.ireturn, 1) := by decide +kernel
theorem dX5_nextTry_6 : decode cX5_nextTry 6 = .ok (.iconst (-1), 1) := by decide +kernel
theorem dX5_nextTry_7 : decode cX5_nextTry 7 = .ok (.istore_n 2, 1) := by decide +kernel
theorem dX5_nextTry_8 : decode cX5_nextTry 8 = .ok (.bipush 6, 2) := by decide +kernel
theorem dX5_nextTry_10 : decode cX5_nextTry 10 = .ok (.istore_n 3, 1) := by decide +kernel
theorem dX5_nextTry_11 : decode cX5_nextTry 11 = .ok (.iconst 0, 1) := by decide +kernel
theorem dX5_nextTry_12 : decode cX5_nextTry 12 = .ok (.istore 4, 2) := by decide +kernel
theorem dX5_nextTry_14 : decode cX5_nextTry 14 = .ok (.iload 4, 2) := by decide +kernel
theorem dX5_nextTry_16 : decode cX5_nextTry 16 = .ok (.bipush 100, 2) := by decide +kernel
theorem dX5_nextTry_18 : decode cX5_nextTry 18 = .ok (.if_icmp .ge 43, 3) := by decide +kernel
theorem dX5_nextTry_21 : decode cX5_nextTry 21 = .ok (.iload_n 3, 1) := by decide +kernel
theorem dX5_nextTry_22 : decode cX5_nextTry 22 = .ok (.iconst 1, 1) := by decide +kernel
theorem dX5_nextTry_23 : decode cX5_nextTry 23 = .ok (.if_icmp .le 38, 3) := by decide +kernel
theorem dX5_nextTry_26 : decode cX5_nextTry 26 = .ok (.aload_n 0, 1) := by decide +kernel
theorem dX5_nextTry_27 : decode cX5_nextTry 27 = .ok (.iload_n 1, 1) := by decide +kernel
theorem dX5_nextTry_28 : decode cX5_nextTry 28 = .ok (.iload 4, 2) := by decide +kernel
theorem dX5_nextTry_30 : decode cX5_nextTry 30 = .ok (.bipush 10, 2) := by decide +kernel
theorem dX5_nextTry_32 : decode cX5_nextTry 32 = .ok (.idiv, 1) := by decide +kernel
theorem dX5_nextTry_33 : decode cX5_nextTry 33 = .ok (.iload 4, 2) := by decide +kernel
theorem dX5_nextTry_35 : decode cX5_nextTry 35 = .ok (.bipush 10, 2) := by decide +kernel
theorem dX5_nextTry_37 : decode cX5_nextTry 37 = .ok (.irem, 1) := by decide +kernel
theorem dX5_nextTry_38 : decode cX5_nextTry 38 = .ok (.invokevirtual 209, 3) := by decide +kernel
theorem dX5_nextTry_41 : decode cX5_nextTry 41 = .ok (.istore 5, 2) := by decide +kernel
theorem dX5_nextTry_43 : decode cX5_nextTry 43 = .ok (.iload 5, 2) := by decide +kernel
theorem dX5_nextTry_45 : decode cX5_nextTry 45 = .ok (.iload_n 3, 1) := by decide +kernel
theorem dX5_nextTry_46 : decode cX5_nextTry 46 = .ok (.if_icmp .ge 9, 3) := by decide +kernel
theorem dX5_nextTry_49 : decode cX5_nextTry 49 = .ok (.iload 5, 2) := by decide +kernel
theorem dX5_nextTry_51 : decode cX5_nextTry 51 = .ok (.istore_n 3, 1) := by decide +kernel
theorem dX5_nextTry_52 : decode cX5_nextTry 52 = .ok (.iload 4, 2) := by decide +kernel
theorem dX5_nextTry_54 : decode cX5_nextTry 54 = .ok (.istore_n 2, 1) := by decide +kernel
theorem dX5_nextTry_55 : decode cX5_nextTry 55 = .ok (.iinc 4 1, 3) := by decide +kernel
theorem dX5_nextTry_58 : decode cX5_nextTry 58 = .ok (.goto (-44), 3) := by decide +kernel
theorem dX5_nextTry_61 : decode cX5_nextTry 61 = .ok (.iload_n 2, 1) := by decide +kernel
theorem dX5_nextTry_62 : decode cX5_nextTry 62 = .ok (.ireturn, 1) := by decide +kernel
set_option maxRecDepth 20000 in
theorem ggX5_mostAlike_X0_made : GoodIn wsX5_mostAlike wsX0_made := goodIn_r _ [10] (by decide +kernel) (by decide +kernel)
set_option maxRecDepth 20000 in
theorem gX5_mostAlike_X0_made : GoodIn wsX5_mostAlike (wsV RX5 112 RX0 yX0_made wsX0_made) := goodIn_app (goodIn_of _ (by decide +kernel)) ggX5_mostAlike_X0_made
set_option maxRecDepth 20000 in
theorem ggX5_mostAlike_X1_made : GoodIn wsX5_mostAlike wsX1_made := goodIn_r _ [17, 18, 19, 4, 20] (by decide +kernel) (by decide +kernel)
set_option maxRecDepth 20000 in
theorem gX5_mostAlike_X1_made_u112X1 : GoodIn wsX5_mostAlike (va_wsO RX5 112 RX1 "NumberPile$Brick" ⟨"NumberPile$Brick", "made", "(II)I"⟩ yX1_made wsX1_made) := goodIn_app (goodIn_of _ (by decide +kernel)) ggX5_mostAlike_X1_made
set_option maxRecDepth 20000 in
theorem ggX5_mostAlike_X2_made : GoodIn wsX5_mostAlike wsX2_made := goodIn_r _ [24, 25, 26, 27, 28, 29, 30] (by decide +kernel) (by decide +kernel)
set_option maxRecDepth 20000 in
theorem gX5_mostAlike_X2_made_u112X2 : GoodIn wsX5_mostAlike (va_wsO RX5 112 RX2 "NumberPile$Brick" ⟨"NumberPile$Brick", "made", "(II)I"⟩ yX2_made wsX2_made) := goodIn_app (goodIn_of _ (by decide +kernel)) ggX5_mostAlike_X2_made
set_option maxRecDepth 20000 in
theorem ggX5_mostAlike_X3_made : GoodIn wsX5_mostAlike wsX3_made := goodIn_r _ [34, 35, 3, 4, 5] (by decide +kernel) (by decide +kernel)
set_option maxRecDepth 20000 in
theorem gX5_mostAlike_X3_made_u112X3 : GoodIn wsX5_mostAlike (va_wsO RX5 112 RX3 "NumberPile$Brick" ⟨"NumberPile$Brick", "made", "(II)I"⟩ yX3_made wsX3_made) := goodIn_app (goodIn_of _ (by decide +kernel)) ggX5_mostAlike_X3_made
set_option maxRecDepth 20000 in
theorem ggX5_mostAlike_X9_made : GoodIn wsX5_mostAlike wsX9_made := goodIn_r _ [30] (by decide +kernel) (by decide +kernel)
set_option maxRecDepth 20000 in
theorem gX5_mostAlike_X9_made_u112X9 : GoodIn wsX5_mostAlike (va_wsO RX5 112 RX9 "NumberPile$Brick" ⟨"NumberPile$Brick", "made", "(II)I"⟩ yX9_made wsX9_made) := goodIn_app (goodIn_of _ (by decide +kernel)) ggX5_mostAlike_X9_made
set_option maxRecDepth 20000 in
theorem ggX5_mostAlike_X5_manyMaking : GoodIn wsX5_mostAlike wsX5_manyMaking := goodIn_r _ [41, 1, 6, 7, 8, 9, 10, 11, 12, 13, 14, 15, 16, 17, 18, 19, 4, 20, 21, 22, 23, 24, 25, 26, 27, 28, 29, 30, 31, 32, 33, 34, 35, 3, 5, 36, 42, 43, 44, 45, 46, 47, 48, 49, 50, 51, 52, 53, 54, 55, 56] (by decide +kernel) (by decide +kernel)
set_option maxRecDepth 20000 in
theorem gX5_mostAlike_X5_manyMaking : GoodIn wsX5_mostAlike (wsV RX5 213 RX5 yX5_manyMaking wsX5_manyMaking) := goodIn_app (goodIn_of _ (by decide +kernel)) ggX5_mostAlike_X5_manyMaking
theorem dX5_mostAlike_0 : decode cX5_mostAlike 0 = .ok (.iconst 0, 1) := by decide +kernel
theorem dX5_mostAlike_1 : decode cX5_mostAlike 1 = .ok (.istore 4, 2) := by decide +kernel
theorem dX5_mostAlike_3 : decode cX5_mostAlike 3 = .ok (.iconst 0, 1) := by decide +kernel
theorem dX5_mostAlike_4 : decode cX5_mostAlike 4 = .ok (.istore 5, 2) := by decide +kernel
theorem dX5_mostAlike_6 : decode cX5_mostAlike 6 = .ok (.iload 5, 2) := by decide +kernel
theorem dX5_mostAlike_8 : decode cX5_mostAlike 8 = .ok (.aload_n 0, 1) := by decide +kernel
theorem dX5_mostAlike_9 : decode cX5_mostAlike 9 = .ok (.getfield 9, 3) := by decide +kernel
theorem dX5_mostAlike_12 : decode cX5_mostAlike 12 = .ok (.arraylength, 1) := by decide +kernel
theorem dX5_mostAlike_13 : decode cX5_mostAlike 13 = .ok (.if_icmp .ge 44, 3) := by decide +kernel
theorem dX5_mostAlike_16 : decode cX5_mostAlike 16 = .ok (.iload_n 1, 1) := by decide +kernel
theorem dX5_mostAlike_17 : decode cX5_mostAlike 17 = .ok (.iload 5, 2) := by decide +kernel
theorem dX5_mostAlike_19 : decode cX5_mostAlike 19 = .ok (.ishr, 1) := by decide +kernel
theorem dX5_mostAlike_20 : decode cX5_mostAlike 20 = .ok (.iconst 1, 1) := by decide +kernel
theorem dX5_mostAlike_21 : decode cX5_mostAlike 21 = .ok (.iand, 1) := by decide +kernel
theorem dX5_mostAlike_22 : decode cX5_mostAlike 22 = .ok (.ifCond .eq 29, 3) := by decide +kernel
theorem dX5_mostAlike_25 : decode cX5_mostAlike 25 = .ok (.iload 4, 2) := by decide +kernel
theorem dX5_mostAlike_27 : decode cX5_mostAlike 27 = .ok (.aload_n 0, 1) := by decide +kernel
theorem dX5_mostAlike_28 : decode cX5_mostAlike 28 = .ok (.iload_n 1, 1) := by decide +kernel
theorem dX5_mostAlike_29 : decode cX5_mostAlike 29 = .ok (.iload_n 2, 1) := by decide +kernel
theorem dX5_mostAlike_30 : decode cX5_mostAlike 30 = .ok (.iload_n 3, 1) := by decide +kernel
theorem dX5_mostAlike_31 : decode cX5_mostAlike 31 = .ok (.aload_n 0, 1) := by decide +kernel
theorem dX5_mostAlike_32 : decode cX5_mostAlike 32 = .ok (.getfield 9, 3) := by decide +kernel
theorem dX5_mostAlike_35 : decode cX5_mostAlike 35 = .ok (.iload 5, 2) := by decide +kernel
theorem dX5_mostAlike_37 : decode cX5_mostAlike 37 = .ok (.aaload, 1) := by decide +kernel
theorem dX5_mostAlike_38 : decode cX5_mostAlike 38 = .ok (.iload_n 2, 1) := by decide +kernel
theorem dX5_mostAlike_39 : decode cX5_mostAlike 39 = .ok (.iload_n 3, 1) := by decide +kernel
theorem dX5_mostAlike_40 : decode cX5_mostAlike 40 = .ok (.invokevirtual 112, 3) := by decide +kernel
theorem dX5_mostAlike_43 : decode cX5_mostAlike 43 = .ok (.invokevirtual 213, 3) := by decide +kernel
theorem dX5_mostAlike_46 : decode cX5_mostAlike 46 = .ok (.invokestatic 149, 3) := by decide +kernel
theorem dX5_mostAlike_49 : decode cX5_mostAlike 49 = .ok (.istore 4, 2) := by decide +kernel
theorem dX5_mostAlike_51 : decode cX5_mostAlike 51 = .ok (.iinc 5 1, 3) := by decide +kernel
theorem dX5_mostAlike_54 : decode cX5_mostAlike 54 = .ok (.goto (-48), 3) := by decide +kernel
theorem dX5_mostAlike_57 : decode cX5_mostAlike 57 = .ok (.iload 4, 2) := by decide +kernel
theorem dX5_mostAlike_59 : decode cX5_mostAlike 59 = .ok (.ireturn, 1) := by decide +kernel
set_option maxRecDepth 20000 in
theorem ggX5_manyMaking_X0_made : GoodIn wsX5_manyMaking wsX0_made := goodIn_r _ [6] (by decide +kernel) (by decide +kernel)
set_option maxRecDepth 20000 in
theorem gX5_manyMaking_X0_made : GoodIn wsX5_manyMaking (wsV RX5 112 RX0 yX0_made wsX0_made) := goodIn_app (goodIn_of _ (by decide +kernel)) ggX5_manyMaking_X0_made
set_option maxRecDepth 20000 in
theorem ggX5_manyMaking_X1_made : GoodIn wsX5_manyMaking wsX1_made := goodIn_r _ [13, 14, 15, 16, 17] (by decide +kernel) (by decide +kernel)
set_option maxRecDepth 20000 in
theorem gX5_manyMaking_X1_made_u112X1 : GoodIn wsX5_manyMaking (va_wsO RX5 112 RX1 "NumberPile$Brick" ⟨"NumberPile$Brick", "made", "(II)I"⟩ yX1_made wsX1_made) := goodIn_app (goodIn_of _ (by decide +kernel)) ggX5_manyMaking_X1_made
set_option maxRecDepth 20000 in
theorem ggX5_manyMaking_X2_made : GoodIn wsX5_manyMaking wsX2_made := goodIn_r _ [21, 22, 23, 24, 25, 26, 27] (by decide +kernel) (by decide +kernel)
set_option maxRecDepth 20000 in
theorem gX5_manyMaking_X2_made_u112X2 : GoodIn wsX5_manyMaking (va_wsO RX5 112 RX2 "NumberPile$Brick" ⟨"NumberPile$Brick", "made", "(II)I"⟩ yX2_made wsX2_made) := goodIn_app (goodIn_of _ (by decide +kernel)) ggX5_manyMaking_X2_made
set_option maxRecDepth 20000 in
theorem ggX5_manyMaking_X3_made : GoodIn wsX5_manyMaking wsX3_made := goodIn_r _ [31, 32, 33, 16, 34] (by decide +kernel) (by decide +kernel)
set_option maxRecDepth 20000 in
theorem gX5_manyMaking_X3_made_u112X3 : GoodIn wsX5_manyMaking (va_wsO RX5 112 RX3 "NumberPile$Brick" ⟨"NumberPile$Brick", "made", "(II)I"⟩ yX3_made wsX3_made) := goodIn_app (goodIn_of _ (by decide +kernel)) ggX5_manyMaking_X3_made
set_option maxRecDepth 20000 in
theorem ggX5_manyMaking_X9_made : GoodIn wsX5_manyMaking wsX9_made := goodIn_r _ [27] (by decide +kernel) (by decide +kernel)
set_option maxRecDepth 20000 in
theorem gX5_manyMaking_X9_made_u112X9 : GoodIn wsX5_manyMaking (va_wsO RX5 112 RX9 "NumberPile$Brick" ⟨"NumberPile$Brick", "made", "(II)I"⟩ yX9_made wsX9_made) := goodIn_app (goodIn_of _ (by decide +kernel)) ggX5_manyMaking_X9_made
theorem dX5_manyMaking_0 : decode cX5_manyMaking 0 = .ok (.iconst 0, 1) := by decide +kernel
theorem dX5_manyMaking_1 : decode cX5_manyMaking 1 = .ok (.istore 5, 2) := by decide +kernel
theorem dX5_manyMaking_3 : decode cX5_manyMaking 3 = .ok (.iconst 0, 1) := by decide +kernel
theorem dX5_manyMaking_4 : decode cX5_manyMaking 4 = .ok (.istore 6, 2) := by decide +kernel
theorem dX5_manyMaking_6 : decode cX5_manyMaking 6 = .ok (.iload 6, 2) := by decide +kernel
theorem dX5_manyMaking_8 : decode cX5_manyMaking 8 = .ok (.aload_n 0, 1) := by decide +kernel
theorem dX5_manyMaking_9 : decode cX5_manyMaking 9 = .ok (.getfield 9, 3) := by decide +kernel
theorem dX5_manyMaking_12 : decode cX5_manyMaking 12 = .ok (.arraylength, 1) := by decide +kernel
theorem dX5_manyMaking_13 : decode cX5_manyMaking 13 = .ok (.if_icmp .ge 38, 3) := by decide +kernel
theorem dX5_manyMaking_16 : decode cX5_manyMaking 16 = .ok (.iload_n 1, 1) := by decide +kernel
theorem dX5_manyMaking_17 : decode cX5_manyMaking 17 = .ok (.iload 6, 2) := by decide +kernel
theorem dX5_manyMaking_19 : decode cX5_manyMaking 19 = .ok (.ishr, 1) := by decide +kernel
theorem dX5_manyMaking_20 : decode cX5_manyMaking 20 = .ok (.iconst 1, 1) := by decide +kernel
theorem dX5_manyMaking_21 : decode cX5_manyMaking 21 = .ok (.iand, 1) := by decide +kernel
theorem dX5_manyMaking_22 : decode cX5_manyMaking 22 = .ok (.ifCond .eq 23, 3) := by decide +kernel
theorem dX5_manyMaking_25 : decode cX5_manyMaking 25 = .ok (.aload_n 0, 1) := by decide +kernel
theorem dX5_manyMaking_26 : decode cX5_manyMaking 26 = .ok (.getfield 9, 3) := by decide +kernel
theorem dX5_manyMaking_29 : decode cX5_manyMaking 29 = .ok (.iload 6, 2) := by decide +kernel
theorem dX5_manyMaking_31 : decode cX5_manyMaking 31 = .ok (.aaload, 1) := by decide +kernel
theorem dX5_manyMaking_32 : decode cX5_manyMaking 32 = .ok (.iload_n 2, 1) := by decide +kernel
theorem dX5_manyMaking_33 : decode cX5_manyMaking 33 = .ok (.iload_n 3, 1) := by decide +kernel
theorem dX5_manyMaking_34 : decode cX5_manyMaking 34 = .ok (.invokevirtual 112, 3) := by decide +kernel
theorem dX5_manyMaking_37 : decode cX5_manyMaking 37 = .ok (.iload 4, 2) := by decide +kernel
theorem dX5_manyMaking_39 : decode cX5_manyMaking 39 = .ok (.if_icmp .ne 6, 3) := by decide +kernel
theorem dX5_manyMaking_42 : decode cX5_manyMaking 42 = .ok (.iinc 5 1, 3) := by decide +kernel
theorem dX5_manyMaking_45 : decode cX5_manyMaking 45 = .ok (.iinc 6 1, 3) := by decide +kernel
theorem dX5_manyMaking_48 : decode cX5_manyMaking 48 = .ok (.goto (-42), 3) := by decide +kernel
theorem dX5_manyMaking_51 : decode cX5_manyMaking 51 = .ok (.iload 5, 2) := by decide +kernel
theorem dX5_manyMaking_53 : decode cX5_manyMaking 53 = .ok (.ireturn, 1) := by decide +kernel
set_option maxRecDepth 20000 in
theorem ggX5_draw_X5_raise : GoodIn wsX5_draw wsX5_raise := goodIn_r _ [11, 1, 12, 13, 14, 15, 16, 17, 18, 19, 20, 21, 22, 23, 24, 25, 26, 27, 28, 29, 30, 31, 32, 33, 34, 35, 36, 37, 38, 39, 40, 41, 42, 43, 44, 45, 46, 47, 48, 49, 50, 51, 52, 53, 54, 55, 56, 57, 58, 59, 60, 61, 62, 63, 64, 65, 66, 67, 68, 69, 70] (by decide +kernel) (by decide +kernel)
set_option maxRecDepth 20000 in
theorem gX5_draw_X5_raise : GoodIn wsX5_draw (wsV RX5 108 RX5 yX5_raise wsX5_raise) := goodIn_app (goodIn_of _ (by decide +kernel)) ggX5_draw_X5_raise
theorem dX5_draw_0 : decode cX5_draw 0 = .ok (.iload_n 1, 1) := by decide +kernel
theorem dX5_draw_1 : decode cX5_draw 1 = .ok (.istore_n 2, 1) := by decide +kernel
theorem dX5_draw_2 : decode cX5_draw 2 = .ok (.iconst 0, 1) := by decide +kernel
theorem dX5_draw_3 : decode cX5_draw 3 = .ok (.istore_n 3, 1) := by decide +kernel
theorem dX5_draw_4 : decode cX5_draw 4 = .ok (.iload_n 3, 1) := by decide +kernel
theorem dX5_draw_5 : decode cX5_draw 5 = .ok (.aload_n 0, 1) := by decide +kernel
theorem dX5_draw_6 : decode cX5_draw 6 = .ok (.getfield 15, 3) := by decide +kernel
theorem dX5_draw_9 : decode cX5_draw 9 = .ok (.if_icmp .ge 38, 3) := by decide +kernel
theorem dX5_draw_12 : decode cX5_draw 12 = .ok (.ldc2_w 217, 3) := by decide +kernel
theorem dX5_draw_15 : decode cX5_draw 15 = .ok (.iload_n 2, 1) := by decide +kernel
theorem dX5_draw_16 : decode cX5_draw 16 = .ok (.i2l, 1) := by decide +kernel
theorem dX5_draw_17 : decode cX5_draw 17 = .ok (.lmul, 1) := by decide +kernel
theorem dX5_draw_18 : decode cX5_draw 18 = .ok (.ldc2_w 219, 3) := by decide +kernel
theorem dX5_draw_21 : decode cX5_draw 21 = .ok (.ladd, 1) := by decide +kernel
theorem dX5_draw_22 : decode cX5_draw 22 = .ok (.ldc2_w 223, 3) := by decide +kernel
theorem dX5_draw_25 : decode cX5_draw 25 = .ok (.land, 1) := by decide +kernel
theorem dX5_draw_26 : decode cX5_draw 26 = .ok (.l2i, 1) := by decide +kernel
theorem dX5_draw_27 : decode cX5_draw 27 = .ok (.istore_n 2, 1) := by decide +kernel
theorem dX5_draw_28 : decode cX5_draw 28 = .ok (.aload_n 0, 1) := by decide +kernel
theorem dX5_draw_29 : decode cX5_draw 29 = .ok (.getfield 41, 3) := by decide +kernel
theorem dX5_draw_32 : decode cX5_draw 32 = .ok (.iload_n 3, 1) := by decide +kernel
theorem dX5_draw_33 : decode cX5_draw 33 = .ok (.iload_n 2, 1) := by decide +kernel
theorem dX5_draw_34 : decode cX5_draw 34 = .ok (.ldc 225, 2) := by decide +kernel
theorem dX5_draw_36 : decode cX5_draw 36 = .ok (.idiv, 1) := by decide +kernel
theorem dX5_draw_37 : decode cX5_draw 37 = .ok (.bipush 10, 2) := by decide +kernel
theorem dX5_draw_39 : decode cX5_draw 39 = .ok (.irem, 1) := by decide +kernel
theorem dX5_draw_40 : decode cX5_draw 40 = .ok (.iastore, 1) := by decide +kernel
theorem dX5_draw_41 : decode cX5_draw 41 = .ok (.iinc 3 1, 3) := by decide +kernel
theorem dX5_draw_44 : decode cX5_draw 44 = .ok (.goto (-40), 3) := by decide +kernel
theorem dX5_draw_47 : decode cX5_draw 47 = .ok (.aload_n 0, 1) := by decide +kernel
theorem dX5_draw_48 : decode cX5_draw 48 = .ok (.aload_n 0, 1) := by decide +kernel
theorem dX5_draw_49 : decode cX5_draw 49 = .ok (.getfield 41, 3) := by decide +kernel
theorem dX5_draw_52 : decode cX5_draw 52 = .ok (.invokevirtual 108, 3) := by decide +kernel
theorem dX5_draw_55 : decode cX5_draw 55 = .ok (.iload_n 2, 1) := by decide +kernel
theorem dX5_draw_56 : decode cX5_draw 56 = .ok (.ireturn, 1) := by decide +kernel
theorem dX6_init_0 : decode cX6_init 0 = .ok (.aload_n 0, 1) := by decide +kernel
theorem dX6_init_1 : decode cX6_init 1 = .ok (.invokespecial 3, 3) := by decide +kernel
theorem dX6_init_4 : decode cX6_init 4 = .ok (.aload_n 0, 1) := by decide +kernel
theorem dX6_init_5 : decode cX6_init 5 = .ok (.iload_n 1, 1) := by decide +kernel
theorem dX6_init_6 : decode cX6_init 6 = .ok (.putfield 9, 3) := by decide +kernel
theorem dX6_init_9 : decode cX6_init 9 = .ok (.aload_n 0, 1) := by decide +kernel
theorem dX6_init_10 : decode cX6_init 10 = .ok (.aload_n 2, 1) := by decide +kernel
theorem dX6_init_11 : decode cX6_init 11 = .ok (.putfield 15, 3) := by decide +kernel
theorem dX6_init_14 : decode cX6_init 14 = .ok (.aload_n 0, 1) := by decide +kernel
theorem dX6_init_15 : decode cX6_init 15 = .ok (.aload_n 3, 1) := by decide +kernel
theorem dX6_init_16 : decode cX6_init 16 = .ok (.putfield 19, 3) := by decide +kernel
theorem dX6_init_19 : decode cX6_init 19 = .ok (.aload_n 0, 1) := by decide +kernel
theorem dX6_init_20 : decode cX6_init 20 = .ok (.iload_n 1, 1) := by decide +kernel
theorem dX6_init_21 : decode cX6_init 21 = .ok (.aload_n 3, 1) := by decide +kernel
theorem dX6_init_22 : decode cX6_init 22 = .ok (.arraylength, 1) := by decide +kernel
theorem dX6_init_23 : decode cX6_init 23 = .ok (.iadd, 1) := by decide +kernel
theorem dX6_init_24 : decode cX6_init 24 = .ok (.newarray .int, 2) := by decide +kernel
theorem dX6_init_26 : decode cX6_init 26 = .ok (.putfield 23, 3) := by decide +kernel
theorem dX6_init_29 : decode cX6_init 29 = .ok (.aload_n 0, 1) := by decide +kernel
theorem dX6_init_30 : decode cX6_init 30 = .ok (.aload_n 0, 1) := by decide +kernel
theorem dX6_init_31 : decode cX6_init 31 = .ok (.getfield 23, 3) := by decide +kernel
theorem dX6_init_34 : decode cX6_init 34 = .ok (.putfield 26, 3) := by decide +kernel
theorem dX6_init_37 : decode cX6_init 37 = .ok (.aload_n 0, 1) := by decide +kernel
theorem dX6_init_38 : decode cX6_init 38 = .ok (.iconst (-1), 1) := by decide +kernel
theorem dX6_init_39 : decode cX6_init 39 = .ok (.putfield 29, 3) := by decide +kernel
theorem dX6_init_42 : decode cX6_init 42 = .ok (.return_, 1) := by decide +kernel
theorem dX6_start_0 : decode cX6_start 0 = .ok (.aload_n 0, 1) := by decide +kernel
theorem dX6_start_1 : decode cX6_start 1 = .ok (.aload_n 1, 1) := by decide +kernel
theorem dX6_start_2 : decode cX6_start 2 = .ok (.putfield 26, 3) := by decide +kernel
theorem dX6_start_5 : decode cX6_start 5 = .ok (.aload_n 0, 1) := by decide +kernel
theorem dX6_start_6 : decode cX6_start 6 = .ok (.aload_n 0, 1) := by decide +kernel
theorem dX6_start_7 : decode cX6_start 7 = .ok (.getfield 9, 3) := by decide +kernel
theorem dX6_start_10 : decode cX6_start 10 = .ok (.ifCond .le 20, 3) := by decide +kernel
theorem dX6_start_13 : decode cX6_start 13 = .ok (.aload_n 0, 1) := by decide +kernel
theorem dX6_start_14 : decode cX6_start 14 = .ok (.getfield 26, 3) := by decide +kernel
theorem dX6_start_17 : decode cX6_start 17 = .ok (.arraylength, 1) := by decide +kernel
theorem dX6_start_18 : decode cX6_start 18 = .ok (.aload_n 0, 1) := by decide +kernel
theorem dX6_start_19 : decode cX6_start 19 = .ok (.getfield 23, 3) := by decide +kernel
theorem dX6_start_22 : decode cX6_start 22 = .ok (.arraylength, 1) := by decide +kernel
theorem dX6_start_23 : decode cX6_start 23 = .ok (.if_icmp .ne 7, 3) := by decide +kernel
theorem dX6_start_26 : decode cX6_start 26 = .ok (.iconst 0, 1) := by decide +kernel
theorem dX6_start_27 : decode cX6_start 27 = .ok (.goto 4, 3) := by decide +kernel
theorem dX6_start_30 : decode cX6_start 30 = .ok (.iconst (-1), 1) := by decide +kernel
theorem dX6_start_31 : decode cX6_start 31 = .ok (.putfield 29, 3) := by decide +kernel
theorem dX6_start_34 : decode cX6_start 34 = .ok (.aload_n 0, 1) := by decide +kernel
theorem dX6_start_35 : decode cX6_start 35 = .ok (.getfield 29, 3) := by decide +kernel
theorem dX6_start_38 : decode cX6_start 38 = .ok (.ifCond .ne 10, 3) := by decide +kernel
theorem dX6_start_41 : decode cX6_start 41 = .ok (.aload_n 0, 1) := by decide +kernel
theorem dX6_start_42 : decode cX6_start 42 = .ok (.getfield 23, 3) := by decide +kernel
theorem dX6_start_45 : decode cX6_start 45 = .ok (.iconst 0, 1) := by decide +kernel
theorem dX6_start_46 : decode cX6_start 46 = .ok (.iconst (-1), 1) := by decide +kernel
theorem dX6_start_47 : decode cX6_start 47 = .ok (.iastore, 1) := by decide +kernel
theorem dX6_start_48 : decode cX6_start 48 = .ok (.return_, 1) := by decide +kernel
set_option maxRecDepth 20000 in
theorem ggX6_next_X6_holds : GoodIn wsX6_next wsX6_holds := goodIn_r _ [9, 2, 4, 3, 10, 11, 12, 13, 14, 8, 15, 16, 17, 18, 19, 20, 21, 22, 23, 24, 25, 26, 27, 28, 29, 30, 31, 32, 33, 34, 35, 36, 37, 38, 39, 40, 41, 42, 43, 44, 45, 46, 47, 48, 49, 50, 51, 52, 53, 54, 55, 56] (by decide +kernel) (by decide +kernel)
set_option maxRecDepth 20000 in
theorem gX6_next_X6_holds : GoodIn wsX6_next (wsV RX6 33 RX6 yX6_holds wsX6_holds) := goodIn_app (goodIn_of _ (by decide +kernel)) ggX6_next_X6_holds
theorem dX6_next_0 : decode cX6_next 0 = .ok (.iconst 0, 1) := by decide +kernel
theorem dX6_next_1 : decode cX6_next 1 = .ok (.istore_n 1, 1) := by decide +kernel
theorem dX6_next_2 : decode cX6_next 2 = .ok (.iload_n 1, 1) := by decide +kernel
theorem dX6_next_3 : decode cX6_next 3 = .ok (.ldc 32, 2) := by decide +kernel
theorem dX6_next_5 : decode cX6_next 5 = .ok (.if_icmp .ge 101, 3) := by decide +kernel
theorem dX6_next_8 : decode cX6_next 8 = .ok (.aload_n 0, 1) := by decide +kernel
theorem dX6_next_9 : decode cX6_next 9 = .ok (.getfield 29, 3) := by decide +kernel
theorem dX6_next_12 : decode cX6_next 12 = .ok (.ifCond .lt 94, 3) := by decide +kernel
theorem dX6_next_15 : decode cX6_next 15 = .ok (.aload_n 0, 1) := by decide +kernel
theorem dX6_next_16 : decode cX6_next 16 = .ok (.getfield 23, 3) := by decide +kernel
theorem dX6_next_19 : decode cX6_next 19 = .ok (.aload_n 0, 1) := by decide +kernel
theorem dX6_next_20 : decode cX6_next 20 = .ok (.getfield 29, 3) := by decide +kernel
theorem dX6_next_23 : decode cX6_next 23 = .ok (.iaload, 1) := by decide +kernel
theorem dX6_next_24 : decode cX6_next 24 = .ok (.bipush 9, 2) := by decide +kernel
theorem dX6_next_26 : decode cX6_next 26 = .ok (.if_icmp .lt 16, 3) := by decide +kernel
theorem dX6_next_29 : decode cX6_next 29 = .ok (.aload_n 0, 1) := by decide +kernel
theorem dX6_next_30 : decode cX6_next 30 = .ok (.dup, 1) := by decide +kernel
theorem dX6_next_31 : decode cX6_next 31 = .ok (.getfield 29, 3) := by decide +kernel
theorem dX6_next_34 : decode cX6_next 34 = .ok (.iconst 1, 1) := by decide +kernel
theorem dX6_next_35 : decode cX6_next 35 = .ok (.isub, 1) := by decide +kernel
theorem dX6_next_36 : decode cX6_next 36 = .ok (.putfield 29, 3) := by decide +kernel
theorem dX6_next_39 : decode cX6_next 39 = .ok (.goto 61, 3) := by decide +kernel
theorem dX6_next_42 : decode cX6_next 42 = .ok (.aload_n 0, 1) := by decide +kernel
theorem dX6_next_43 : decode cX6_next 43 = .ok (.getfield 23, 3) := by decide +kernel
theorem dX6_next_46 : decode cX6_next 46 = .ok (.aload_n 0, 1) := by decide +kernel
theorem dX6_next_47 : decode cX6_next 47 = .ok (.getfield 29, 3) := by decide +kernel
theorem dX6_next_50 : decode cX6_next 50 = .ok (.dup2, 1) := by decide +kernel
theorem dX6_next_51 : decode cX6_next 51 = .ok (.iaload, 1) := by decide +kernel
theorem dX6_next_52 : decode cX6_next 52 = .ok (.iconst 1, 1) := by decide +kernel
theorem dX6_next_53 : decode cX6_next 53 = .ok (.iadd, 1) := by decide +kernel
theorem dX6_next_54 : decode cX6_next 54 = .ok (.iastore, 1) := by decide +kernel
theorem dX6_next_55 : decode cX6_next 55 = .ok (.aload_n 0, 1) := by decide +kernel
theorem dX6_next_56 : decode cX6_next 56 = .ok (.invokevirtual 33, 3) := by decide +kernel
theorem dX6_next_59 : decode cX6_next 59 = .ok (.ifCond .ne 6, 3) := by decide +kernel
theorem dX6_next_62 : decode cX6_next 62 = .ok (.goto 38, 3) := by decide +kernel
theorem dX6_next_65 : decode cX6_next 65 = .ok (.aload_n 0, 1) := by decide +kernel
theorem dX6_next_66 : decode cX6_next 66 = .ok (.getfield 29, 3) := by decide +kernel
theorem dX6_next_69 : decode cX6_next 69 = .ok (.aload_n 0, 1) := by decide +kernel
theorem dX6_next_70 : decode cX6_next 70 = .ok (.getfield 9, 3) := by decide +kernel
theorem dX6_next_73 : decode cX6_next 73 = .ok (.iconst 1, 1) := by decide +kernel
theorem dX6_next_74 : decode cX6_next 74 = .ok (.isub, 1) := by decide +kernel
theorem dX6_next_75 : decode cX6_next 75 = .ok (.if_icmp .ne 5, 3) := by decide +kernel
theorem dX6_next_78 : decode cX6_next 78 = .ok (.iconst 1, 1) := by decide +kernel
theorem dX6_next_79 : decode cX6_next 79 = .ok (.ireturn, 1) := by decide +kernel
theorem dX6_next_80 : decode cX6_next 80 = .ok (.aload_n 0, 1) := by decide +kernel
theorem dX6_next_81 : decode cX6_next 81 = .ok (.dup, 1) := by decide +kernel
theorem dX6_next_82 : decode cX6_next 82 = .ok (.getfield 29, 3) := by decide +kernel
theorem dX6_next_85 : decode cX6_next 85 = .ok (.iconst 1, 1) := by decide +kernel
theorem dX6_next_86 : decode cX6_next 86 = .ok (.iadd, 1) := by decide +kernel
theorem dX6_next_87 : decode cX6_next 87 = .ok (.putfield 29, 3) := by decide +kernel
theorem dX6_next_90 : decode cX6_next 90 = .ok (.aload_n 0, 1) := by decide +kernel
theorem dX6_next_91 : decode cX6_next 91 = .ok (.getfield 23, 3) := by decide +kernel
theorem dX6_next_94 : decode cX6_next 94 = .ok (.aload_n 0, 1) := by decide +kernel
theorem dX6_next_95 : decode cX6_next 95 = .ok (.getfield 29, 3) := by decide +kernel
theorem dX6_next_98 : decode cX6_next 98 = .ok (.iconst (-1), 1) := by decide +kernel
theorem dX6_next_99 : decode cX6_next 99 = .ok (.iastore, 1) := by decide +kernel
theorem dX6_next_100 : decode cX6_next 100 = .ok (.iinc 1 1, 3) := by decide +kernel
theorem dX6_next_103 : decode cX6_next 103 = .ok (.goto (-101), 3) := by decide +kernel
theorem dX6_next_106 : decode cX6_next 106 = .ok (.iconst 0, 1) := by decide +kernel
theorem dX6_next_107 : decode cX6_next 107 = .ok (.ireturn, 1) := by decide +kernel
set_option maxRecDepth 20000 in
theorem ggX6_number_X10_asNumber : GoodIn wsX6_number wsX10_asNumber := goodIn_r _ [5] (by decide +kernel) (by decide +kernel)
set_option maxRecDepth 20000 in
theorem gX6_number_X10_asNumber_n37 : GoodIn wsX6_number (wsX10_asNumber) := ggX6_number_X10_asNumber
theorem dX6_number_0 : decode cX6_number 0 = .ok (.aload_n 0, 1) := by decide +kernel
theorem dX6_number_1 : decode cX6_number 1 = .ok (.getfield 23, 3) := by decide +kernel
theorem dX6_number_4 : decode cX6_number 4 = .ok (.aload_n 0, 1) := by decide +kernel
theorem dX6_number_5 : decode cX6_number 5 = .ok (.getfield 9, 3) := by decide +kernel
theorem dX6_number_8 : decode cX6_number 8 = .ok (.invokestatic 37, 3) := by decide +kernel
theorem dX6_number_11 : decode cX6_number 11 = .ok (.ireturn, 1) := by decide +kernel
set_option maxRecDepth 20000 in
theorem ggX6_holds_X6_isOtherThanTold : GoodIn wsX6_holds wsX6_isOtherThanTold := goodIn_r _ [10, 11, 3, 46, 47, 48, 49, 50, 51] (by decide +kernel) (by decide +kernel)
set_option maxRecDepth 20000 in
theorem gX6_holds_X6_isOtherThanTold : GoodIn wsX6_holds (wsV RX6 41 RX6 yX6_isOtherThanTold wsX6_isOtherThanTold) := goodIn_app (goodIn_of _ (by decide +kernel)) ggX6_holds_X6_isOtherThanTold
set_option maxRecDepth 20000 in
theorem ggX6_holds_X0_made : GoodIn wsX6_holds wsX0_made := goodIn_r _ [16] (by decide +kernel) (by decide +kernel)
set_option maxRecDepth 20000 in
theorem gX6_holds_X0_made : GoodIn wsX6_holds (wsV RX6 45 RX0 yX0_made wsX0_made) := goodIn_app (goodIn_of _ (by decide +kernel)) ggX6_holds_X0_made
set_option maxRecDepth 20000 in
theorem ggX6_holds_X1_made : GoodIn wsX6_holds wsX1_made := goodIn_r _ [23, 24, 25, 26, 27] (by decide +kernel) (by decide +kernel)
set_option maxRecDepth 20000 in
theorem gX6_holds_X1_made_u45X1 : GoodIn wsX6_holds (va_wsO RX6 45 RX1 "NumberPile$Brick" ⟨"NumberPile$Brick", "made", "(II)I"⟩ yX1_made wsX1_made) := goodIn_app (goodIn_of _ (by decide +kernel)) ggX6_holds_X1_made
set_option maxRecDepth 20000 in
theorem ggX6_holds_X2_made : GoodIn wsX6_holds wsX2_made := goodIn_r _ [31, 32, 33, 34, 35, 36, 37] (by decide +kernel) (by decide +kernel)
set_option maxRecDepth 20000 in
theorem gX6_holds_X2_made_u45X2 : GoodIn wsX6_holds (va_wsO RX6 45 RX2 "NumberPile$Brick" ⟨"NumberPile$Brick", "made", "(II)I"⟩ yX2_made wsX2_made) := goodIn_app (goodIn_of _ (by decide +kernel)) ggX6_holds_X2_made
set_option maxRecDepth 20000 in
theorem ggX6_holds_X3_made : GoodIn wsX6_holds wsX3_made := goodIn_r _ [41, 42, 43, 26, 44] (by decide +kernel) (by decide +kernel)
set_option maxRecDepth 20000 in
theorem gX6_holds_X3_made_u45X3 : GoodIn wsX6_holds (va_wsO RX6 45 RX3 "NumberPile$Brick" ⟨"NumberPile$Brick", "made", "(II)I"⟩ yX3_made wsX3_made) := goodIn_app (goodIn_of _ (by decide +kernel)) ggX6_holds_X3_made
set_option maxRecDepth 20000 in
theorem ggX6_holds_X9_made : GoodIn wsX6_holds wsX9_made := goodIn_r _ [37] (by decide +kernel) (by decide +kernel)
set_option maxRecDepth 20000 in
theorem gX6_holds_X9_made_u45X9 : GoodIn wsX6_holds (va_wsO RX6 45 RX9 "NumberPile$Brick" ⟨"NumberPile$Brick", "made", "(II)I"⟩ yX9_made wsX9_made) := goodIn_app (goodIn_of _ (by decide +kernel)) ggX6_holds_X9_made
theorem dX6_holds_0 : decode cX6_holds 0 = .ok (.aload_n 0, 1) := by decide +kernel
theorem dX6_holds_1 : decode cX6_holds 1 = .ok (.aload_n 0, 1) := by decide +kernel
theorem dX6_holds_2 : decode cX6_holds 2 = .ok (.getfield 29, 3) := by decide +kernel
theorem dX6_holds_5 : decode cX6_holds 5 = .ok (.invokevirtual 41, 3) := by decide +kernel
theorem dX6_holds_8 : decode cX6_holds 8 = .ok (.ifCond .eq 5, 3) := by decide +kernel
theorem dX6_holds_11 : decode cX6_holds 11 = .ok (.iconst 0, 1) := by decide +kernel
theorem dX6_holds_12 : decode cX6_holds 12 = .ok (.ireturn, 1) := by decide +kernel
theorem dX6_holds_13 : decode cX6_holds 13 = .ok (.aload_n 0, 1) := by decide +kernel
theorem dX6_holds_14 : decode cX6_holds 14 = .ok (.getfield 29, 3) := by decide +kernel
theorem dX6_holds_17 : decode cX6_holds 17 = .ok (.istore_n 1, 1) := by decide +kernel
theorem dX6_holds_18 : decode cX6_holds 18 = .ok (.iconst 0, 1) := by decide +kernel
theorem dX6_holds_19 : decode cX6_holds 19 = .ok (.istore_n 2, 1) := by decide +kernel
theorem dX6_holds_20 : decode cX6_holds 20 = .ok (.iload_n 2, 1) := by decide +kernel
theorem dX6_holds_21 : decode cX6_holds 21 = .ok (.aload_n 0, 1) := by decide +kernel
theorem dX6_holds_22 : decode cX6_holds 22 = .ok (.getfield 29, 3) := by decide +kernel
theorem dX6_holds_25 : decode cX6_holds 25 = .ok (.if_icmp .ge 71, 3) := by decide +kernel
theorem dX6_holds_28 : decode cX6_holds 28 = .ok (.iload_n 1, 1) := by decide +kernel
theorem dX6_holds_29 : decode cX6_holds 29 = .ok (.aload_n 0, 1) := by decide +kernel
theorem dX6_holds_30 : decode cX6_holds 30 = .ok (.getfield 9, 3) := by decide +kernel
theorem dX6_holds_33 : decode cX6_holds 33 = .ok (.iadd, 1) := by decide +kernel
theorem dX6_holds_34 : decode cX6_holds 34 = .ok (.iload_n 2, 1) := by decide +kernel
theorem dX6_holds_35 : decode cX6_holds 35 = .ok (.isub, 1) := by decide +kernel
theorem dX6_holds_36 : decode cX6_holds 36 = .ok (.iconst 1, 1) := by decide +kernel
theorem dX6_holds_37 : decode cX6_holds 37 = .ok (.isub, 1) := by decide +kernel
theorem dX6_holds_38 : decode cX6_holds 38 = .ok (.istore_n 3, 1) := by decide +kernel
theorem dX6_holds_39 : decode cX6_holds 39 = .ok (.aload_n 0, 1) := by decide +kernel
theorem dX6_holds_40 : decode cX6_holds 40 = .ok (.getfield 23, 3) := by decide +kernel
theorem dX6_holds_43 : decode cX6_holds 43 = .ok (.iload_n 3, 1) := by decide +kernel
theorem dX6_holds_44 : decode cX6_holds 44 = .ok (.aload_n 0, 1) := by decide +kernel
theorem dX6_holds_45 : decode cX6_holds 45 = .ok (.getfield 15, 3) := by decide +kernel
theorem dX6_holds_48 : decode cX6_holds 48 = .ok (.aload_n 0, 1) := by decide +kernel
theorem dX6_holds_49 : decode cX6_holds 49 = .ok (.getfield 19, 3) := by decide +kernel
theorem dX6_holds_52 : decode cX6_holds 52 = .ok (.iload_n 3, 1) := by decide +kernel
theorem dX6_holds_53 : decode cX6_holds 53 = .ok (.aload_n 0, 1) := by decide +kernel
theorem dX6_holds_54 : decode cX6_holds 54 = .ok (.getfield 9, 3) := by decide +kernel
theorem dX6_holds_57 : decode cX6_holds 57 = .ok (.isub, 1) := by decide +kernel
theorem dX6_holds_58 : decode cX6_holds 58 = .ok (.iaload, 1) := by decide +kernel
theorem dX6_holds_59 : decode cX6_holds 59 = .ok (.aaload, 1) := by decide +kernel
theorem dX6_holds_60 : decode cX6_holds 60 = .ok (.aload_n 0, 1) := by decide +kernel
theorem dX6_holds_61 : decode cX6_holds 61 = .ok (.getfield 23, 3) := by decide +kernel
theorem dX6_holds_64 : decode cX6_holds 64 = .ok (.iload_n 1, 1) := by decide +kernel
theorem dX6_holds_65 : decode cX6_holds 65 = .ok (.iconst 1, 1) := by decide +kernel
theorem dX6_holds_66 : decode cX6_holds 66 = .ok (.isub, 1) := by decide +kernel
theorem dX6_holds_67 : decode cX6_holds 67 = .ok (.iaload, 1) := by decide +kernel
theorem dX6_holds_68 : decode cX6_holds 68 = .ok (.aload_n 0, 1) := by decide +kernel
theorem dX6_holds_69 : decode cX6_holds 69 = .ok (.getfield 23, 3) := by decide +kernel
theorem dX6_holds_72 : decode cX6_holds 72 = .ok (.iload_n 1, 1) := by decide +kernel
theorem dX6_holds_73 : decode cX6_holds 73 = .ok (.iaload, 1) := by decide +kernel
theorem dX6_holds_74 : decode cX6_holds 74 = .ok (.invokevirtual 45, 3) := by decide +kernel
theorem dX6_holds_77 : decode cX6_holds 77 = .ok (.iastore, 1) := by decide +kernel
theorem dX6_holds_78 : decode cX6_holds 78 = .ok (.aload_n 0, 1) := by decide +kernel
theorem dX6_holds_79 : decode cX6_holds 79 = .ok (.iload_n 3, 1) := by decide +kernel
theorem dX6_holds_80 : decode cX6_holds 80 = .ok (.invokevirtual 41, 3) := by decide +kernel
theorem dX6_holds_83 : decode cX6_holds 83 = .ok (.ifCond .eq 5, 3) := by decide +kernel
theorem dX6_holds_86 : decode cX6_holds 86 = .ok (.iconst 0, 1) := by decide +kernel
theorem dX6_holds_87 : decode cX6_holds 87 = .ok (.ireturn, 1) := by decide +kernel
theorem dX6_holds_88 : decode cX6_holds 88 = .ok (.iload_n 3, 1) := by decide +kernel
theorem dX6_holds_89 : decode cX6_holds 89 = .ok (.istore_n 1, 1) := by decide +kernel
theorem dX6_holds_90 : decode cX6_holds 90 = .ok (.iinc 2 1, 3) := by decide +kernel
theorem dX6_holds_93 : decode cX6_holds 93 = .ok (.goto (-73), 3) := by decide +kernel
theorem dX6_holds_96 : decode cX6_holds 96 = .ok (.iconst 1, 1) := by decide +kernel
theorem dX6_holds_97 : decode cX6_holds 97 = .ok (.ireturn, 1) := by decide +kernel
theorem dX6_isOtherThanTold_0 : decode cX6_isOtherThanTold 0 = .ok (.aload_n 0, 1) := by decide +kernel
theorem dX6_isOtherThanTold_1 : decode cX6_isOtherThanTold 1 = .ok (.getfield 26, 3) := by decide +kernel
theorem dX6_isOtherThanTold_4 : decode cX6_isOtherThanTold 4 = .ok (.iload_n 1, 1) := by decide +kernel
theorem dX6_isOtherThanTold_5 : decode cX6_isOtherThanTold 5 = .ok (.iaload, 1) := by decide +kernel
theorem dX6_isOtherThanTold_6 : decode cX6_isOtherThanTold 6 = .ok (.iconst (-1), 1) := by decide +kernel
theorem dX6_isOtherThanTold_7 : decode cX6_isOtherThanTold 7 = .ok (.if_icmp .eq 22, 3) := by decide +kernel
theorem dX6_isOtherThanTold_10 : decode cX6_isOtherThanTold 10 = .ok (.aload_n 0, 1) := by decide +kernel
theorem dX6_isOtherThanTold_11 : decode cX6_isOtherThanTold 11 = .ok (.getfield 26, 3) := by decide +kernel
theorem dX6_isOtherThanTold_14 : decode cX6_isOtherThanTold 14 = .ok (.iload_n 1, 1) := by decide +kernel
theorem dX6_isOtherThanTold_15 : decode cX6_isOtherThanTold 15 = .ok (.iaload, 1) := by decide +kernel
theorem dX6_isOtherThanTold_16 : decode cX6_isOtherThanTold 16 = .ok (.aload_n 0, 1) := by decide +kernel
theorem dX6_isOtherThanTold_17 : decode cX6_isOtherThanTold 17 = .ok (.getfield 23, 3) := by decide +kernel
theorem dX6_isOtherThanTold_20 : decode cX6_isOtherThanTold 20 = .ok (.iload_n 1, 1) := by decide +kernel
theorem dX6_isOtherThanTold_21 : decode cX6_isOtherThanTold 21 = .ok (.iaload, 1) := by decide +kernel
theorem dX6_isOtherThanTold_22 : decode cX6_isOtherThanTold 22 = .ok (.if_icmp .eq 7, 3) := by decide +kernel
theorem dX6_isOtherThanTold_25 : decode cX6_isOtherThanTold 25 = .ok (.iconst 1, 1) := by decide +kernel
theorem dX6_isOtherThanTold_26 : decode cX6_isOtherThanTold 26 = .ok (.goto 4, 3) := by decide +kernel
theorem dX6_isOtherThanTold_29 : decode cX6_isOtherThanTold 29 = .ok (.iconst 0, 1) := by decide +kernel
theorem dX6_isOtherThanTold_30 : decode cX6_isOtherThanTold 30 = .ok (.ireturn, 1) := by decide +kernel
theorem dX7_init_0 : decode cX7_init 0 = .ok (.aload_n 0, 1) := by decide +kernel
theorem dX7_init_1 : decode cX7_init 1 = .ok (.invokespecial 1, 3) := by decide +kernel
theorem dX7_init_4 : decode cX7_init 4 = .ok (.aload_n 0, 1) := by decide +kernel
theorem dX7_init_5 : decode cX7_init 5 = .ok (.iload_n 1, 1) := by decide +kernel
theorem dX7_init_6 : decode cX7_init 6 = .ok (.putfield 7, 3) := by decide +kernel
theorem dX7_init_9 : decode cX7_init 9 = .ok (.aload_n 0, 1) := by decide +kernel
theorem dX7_init_10 : decode cX7_init 10 = .ok (.iload_n 2, 1) := by decide +kernel
theorem dX7_init_11 : decode cX7_init 11 = .ok (.putfield 13, 3) := by decide +kernel
theorem dX7_init_14 : decode cX7_init 14 = .ok (.aload_n 0, 1) := by decide +kernel
theorem dX7_init_15 : decode cX7_init 15 = .ok (.iload_n 3, 1) := by decide +kernel
theorem dX7_init_16 : decode cX7_init 16 = .ok (.putfield 16, 3) := by decide +kernel
theorem dX7_init_19 : decode cX7_init 19 = .ok (.aload_n 0, 1) := by decide +kernel
theorem dX7_init_20 : decode cX7_init 20 = .ok (.iload 4, 2) := by decide +kernel
theorem dX7_init_22 : decode cX7_init 22 = .ok (.putfield 19, 3) := by decide +kernel
theorem dX7_init_25 : decode cX7_init 25 = .ok (.return_, 1) := by decide +kernel
theorem dX7_isOf_0 : decode cX7_isOf 0 = .ok (.aload_n 0, 1) := by decide +kernel
theorem dX7_isOf_1 : decode cX7_isOf 1 = .ok (.getfield 7, 3) := by decide +kernel
theorem dX7_isOf_4 : decode cX7_isOf 4 = .ok (.iload_n 1, 1) := by decide +kernel
theorem dX7_isOf_5 : decode cX7_isOf 5 = .ok (.if_icmp .ne 7, 3) := by decide +kernel
theorem dX7_isOf_8 : decode cX7_isOf 8 = .ok (.iconst 1, 1) := by decide +kernel
theorem dX7_isOf_9 : decode cX7_isOf 9 = .ok (.goto 4, 3) := by decide +kernel
theorem dX7_isOf_12 : decode cX7_isOf 12 = .ok (.iconst 0, 1) := by decide +kernel
theorem dX7_isOf_13 : decode cX7_isOf 13 = .ok (.ireturn, 1) := by decide +kernel
set_option maxRecDepth 20000 in
theorem ggX7_allows_X0_made : GoodIn wsX7_allows wsX0_made := goodIn_r _ [8] (by decide +kernel) (by decide +kernel)
set_option maxRecDepth 20000 in
theorem gX7_allows_X0_made : GoodIn wsX7_allows (wsV RX7 22 RX0 yX0_made wsX0_made) := goodIn_app (goodIn_of _ (by decide +kernel)) ggX7_allows_X0_made
set_option maxRecDepth 20000 in
theorem ggX7_allows_X1_made : GoodIn wsX7_allows wsX1_made := goodIn_r _ [15, 16, 17, 18, 19] (by decide +kernel) (by decide +kernel)
set_option maxRecDepth 20000 in
theorem gX7_allows_X1_made_u22X1 : GoodIn wsX7_allows (va_wsO RX7 22 RX1 "NumberPile$Brick" ⟨"NumberPile$Brick", "made", "(II)I"⟩ yX1_made wsX1_made) := goodIn_app (goodIn_of _ (by decide +kernel)) ggX7_allows_X1_made
set_option maxRecDepth 20000 in
theorem ggX7_allows_X2_made : GoodIn wsX7_allows wsX2_made := goodIn_r _ [23, 24, 25, 26, 27, 28, 29] (by decide +kernel) (by decide +kernel)
set_option maxRecDepth 20000 in
theorem gX7_allows_X2_made_u22X2 : GoodIn wsX7_allows (va_wsO RX7 22 RX2 "NumberPile$Brick" ⟨"NumberPile$Brick", "made", "(II)I"⟩ yX2_made wsX2_made) := goodIn_app (goodIn_of _ (by decide +kernel)) ggX7_allows_X2_made
set_option maxRecDepth 20000 in
theorem ggX7_allows_X3_made : GoodIn wsX7_allows wsX3_made := goodIn_r _ [33, 34, 35, 18, 36] (by decide +kernel) (by decide +kernel)
set_option maxRecDepth 20000 in
theorem gX7_allows_X3_made_u22X3 : GoodIn wsX7_allows (va_wsO RX7 22 RX3 "NumberPile$Brick" ⟨"NumberPile$Brick", "made", "(II)I"⟩ yX3_made wsX3_made) := goodIn_app (goodIn_of _ (by decide +kernel)) ggX7_allows_X3_made
set_option maxRecDepth 20000 in
theorem ggX7_allows_X9_made : GoodIn wsX7_allows wsX9_made := goodIn_r _ [29] (by decide +kernel) (by decide +kernel)
set_option maxRecDepth 20000 in
theorem gX7_allows_X9_made_u22X9 : GoodIn wsX7_allows (va_wsO RX7 22 RX9 "NumberPile$Brick" ⟨"NumberPile$Brick", "made", "(II)I"⟩ yX9_made wsX9_made) := goodIn_app (goodIn_of _ (by decide +kernel)) ggX7_allows_X9_made
theorem dX7_allows_0 : decode cX7_allows 0 = .ok (.aload_n 1, 1) := by decide +kernel
theorem dX7_allows_1 : decode cX7_allows 1 = .ok (.aload_n 0, 1) := by decide +kernel
theorem dX7_allows_2 : decode cX7_allows 2 = .ok (.getfield 13, 3) := by decide +kernel
theorem dX7_allows_5 : decode cX7_allows 5 = .ok (.aload_n 0, 1) := by decide +kernel
theorem dX7_allows_6 : decode cX7_allows 6 = .ok (.getfield 16, 3) := by decide +kernel
theorem dX7_allows_9 : decode cX7_allows 9 = .ok (.invokevirtual 22, 3) := by decide +kernel
theorem dX7_allows_12 : decode cX7_allows 12 = .ok (.aload_n 0, 1) := by decide +kernel
theorem dX7_allows_13 : decode cX7_allows 13 = .ok (.getfield 19, 3) := by decide +kernel
theorem dX7_allows_16 : decode cX7_allows 16 = .ok (.if_icmp .ne 7, 3) := by decide +kernel
theorem dX7_allows_19 : decode cX7_allows 19 = .ok (.iconst 1, 1) := by decide +kernel
theorem dX7_allows_20 : decode cX7_allows 20 = .ok (.goto 4, 3) := by decide +kernel
theorem dX7_allows_23 : decode cX7_allows 23 = .ok (.iconst 0, 1) := by decide +kernel
theorem dX7_allows_24 : decode cX7_allows 24 = .ok (.ireturn, 1) := by decide +kernel
set_option maxRecDepth 20000 in
theorem ggX8_init_J7_fill_53178 : GoodIn wsX8_init wsJ7_fill_53178 := goodIn_r _ [13] (by decide +kernel) (by decide +kernel)
set_option maxRecDepth 20000 in
theorem gX8_init_J7_fill_53178 : GoodIn wsX8_init (va_wsS RX8 21 yJ7_fill_53178 wsJ7_fill_53178) := goodIn_app (goodIn_of _ (by decide +kernel)) ggX8_init_J7_fill_53178
theorem dX8_init_0 : decode cX8_init 0 = .ok (.aload_n 0, 1) := by decide +kernel
theorem dX8_init_1 : decode cX8_init 1 = .ok (.invokespecial 3, 3) := by decide +kernel
theorem dX8_init_4 : decode cX8_init 4 = .ok (.aload_n 0, 1) := by decide +kernel
theorem dX8_init_5 : decode cX8_init 5 = .ok (.iload_n 2, 1) := by decide +kernel
theorem dX8_init_6 : decode cX8_init 6 = .ok (.iload_n 1, 1) := by decide +kernel
theorem dX8_init_7 : decode cX8_init 7 = .ok (.isub, 1) := by decide +kernel
theorem dX8_init_8 : decode cX8_init 8 = .ok (.newarray .int, 2) := by decide +kernel
theorem dX8_init_10 : decode cX8_init 10 = .ok (.putfield 9, 3) := by decide +kernel
theorem dX8_init_13 : decode cX8_init 13 = .ok (.aload_n 0, 1) := by decide +kernel
theorem dX8_init_14 : decode cX8_init 14 = .ok (.iload_n 1, 1) := by decide +kernel
theorem dX8_init_15 : decode cX8_init 15 = .ok (.newarray .int, 2) := by decide +kernel
theorem dX8_init_17 : decode cX8_init 17 = .ok (.putfield 15, 3) := by decide +kernel
theorem dX8_init_20 : decode cX8_init 20 = .ok (.aload_n 0, 1) := by decide +kernel
theorem dX8_init_21 : decode cX8_init 21 = .ok (.iload_n 2, 1) := by decide +kernel
theorem dX8_init_22 : decode cX8_init 22 = .ok (.newarray .int, 2) := by decide +kernel
theorem dX8_init_24 : decode cX8_init 24 = .ok (.putfield 18, 3) := by decide +kernel
theorem dX8_init_27 : decode cX8_init 27 = .ok (.aload_n 0, 1) := by decide +kernel
theorem dX8_init_28 : decode cX8_init 28 = .ok (.getfield 18, 3) := by decide +kernel
theorem dX8_init_31 : decode cX8_init 31 = .ok (.iconst (-1), 1) := by decide +kernel
theorem dX8_init_32 : decode cX8_init 32 = .ok (.invokestatic 21, 3) := by decide +kernel
theorem dX8_init_35 : decode cX8_init 35 = .ok (.aload_n 0, 1) := by decide +kernel
theorem dX8_init_36 : decode cX8_init 36 = .ok (.bipush 6, 2) := by decide +kernel
theorem dX8_init_38 : decode cX8_init 38 = .ok (.anewarray 27, 3) := by decide +kernel
theorem dX8_init_41 : decode cX8_init 41 = .ok (.putfield 29, 3) := by decide +kernel
theorem dX8_init_44 : decode cX8_init 44 = .ok (.return_, 1) := by decide +kernel
theorem dX8_addSight_0 : decode cX8_addSight 0 = .ok (.aload_n 0, 1) := by decide +kernel
theorem dX8_addSight_1 : decode cX8_addSight 1 = .ok (.getfield 33, 3) := by decide +kernel
theorem dX8_addSight_4 : decode cX8_addSight 4 = .ok (.aload_n 0, 1) := by decide +kernel
theorem dX8_addSight_5 : decode cX8_addSight 5 = .ok (.getfield 29, 3) := by decide +kernel
theorem dX8_addSight_8 : decode cX8_addSight 8 = .ok (.arraylength, 1) := by decide +kernel
theorem dX8_addSight_9 : decode cX8_addSight 9 = .ok (.if_icmp .ge 23, 3) := by decide +kernel
theorem dX8_addSight_12 : decode cX8_addSight 12 = .ok (.aload_n 0, 1) := by decide +kernel
theorem dX8_addSight_13 : decode cX8_addSight 13 = .ok (.getfield 29, 3) := by decide +kernel
theorem dX8_addSight_16 : decode cX8_addSight 16 = .ok (.aload_n 0, 1) := by decide +kernel
theorem dX8_addSight_17 : decode cX8_addSight 17 = .ok (.getfield 33, 3) := by decide +kernel
theorem dX8_addSight_20 : decode cX8_addSight 20 = .ok (.aload_n 1, 1) := by decide +kernel
theorem dX8_addSight_21 : decode cX8_addSight 21 = .ok (.aastore, 1) := by decide +kernel
theorem dX8_addSight_22 : decode cX8_addSight 22 = .ok (.aload_n 0, 1) := by decide +kernel
theorem dX8_addSight_23 : decode cX8_addSight 23 = .ok (.dup, 1) := by decide +kernel
theorem dX8_addSight_24 : decode cX8_addSight 24 = .ok (.getfield 33, 3) := by decide +kernel
theorem dX8_addSight_27 : decode cX8_addSight 27 = .ok (.iconst 1, 1) := by decide +kernel
theorem dX8_addSight_28 : decode cX8_addSight 28 = .ok (.iadd, 1) := by decide +kernel
theorem dX8_addSight_29 : decode cX8_addSight 29 = .ok (.putfield 33, 3) := by decide +kernel
theorem dX8_addSight_32 : decode cX8_addSight 32 = .ok (.return_, 1) := by decide +kernel
set_option maxRecDepth 20000 in
theorem ggX8_takeFrom_X10_copy : GoodIn wsX8_takeFrom wsX10_copy := goodIn_r _ [9, 10, 11, 12, 13, 14, 15, 16, 17] (by decide +kernel) (by decide +kernel)
set_option maxRecDepth 20000 in
theorem gX8_takeFrom_X10_copy_n37 : GoodIn wsX8_takeFrom (wsX10_copy) := ggX8_takeFrom_X10_copy
theorem dX8_takeFrom_0 : decode cX8_takeFrom 0 = .ok (.iconst 0, 1) := by decide +kernel
theorem dX8_takeFrom_1 : decode cX8_takeFrom 1 = .ok (.istore_n 2, 1) := by decide +kernel
theorem dX8_takeFrom_2 : decode cX8_takeFrom 2 = .ok (.iload_n 2, 1) := by decide +kernel
theorem dX8_takeFrom_3 : decode cX8_takeFrom 3 = .ok (.aload_n 0, 1) := by decide +kernel
theorem dX8_takeFrom_4 : decode cX8_takeFrom 4 = .ok (.getfield 29, 3) := by decide +kernel
theorem dX8_takeFrom_7 : decode cX8_takeFrom 7 = .ok (.arraylength, 1) := by decide +kernel
theorem dX8_takeFrom_8 : decode cX8_takeFrom 8 = .ok (.if_icmp .ge 30, 3) := by decide +kernel
theorem dX8_takeFrom_11 : decode cX8_takeFrom 11 = .ok (.iload_n 2, 1) := by decide +kernel
theorem dX8_takeFrom_12 : decode cX8_takeFrom 12 = .ok (.aload_n 1, 1) := by decide +kernel
theorem dX8_takeFrom_13 : decode cX8_takeFrom 13 = .ok (.getfield 29, 3) := by decide +kernel
theorem dX8_takeFrom_16 : decode cX8_takeFrom 16 = .ok (.arraylength, 1) := by decide +kernel
theorem dX8_takeFrom_17 : decode cX8_takeFrom 17 = .ok (.if_icmp .ge 21, 3) := by decide +kernel
theorem dX8_takeFrom_20 : decode cX8_takeFrom 20 = .ok (.aload_n 0, 1) := by decide +kernel
theorem dX8_takeFrom_21 : decode cX8_takeFrom 21 = .ok (.getfield 29, 3) := by decide +kernel
theorem dX8_takeFrom_24 : decode cX8_takeFrom 24 = .ok (.iload_n 2, 1) := by decide +kernel
theorem dX8_takeFrom_25 : decode cX8_takeFrom 25 = .ok (.aload_n 1, 1) := by decide +kernel
theorem dX8_takeFrom_26 : decode cX8_takeFrom 26 = .ok (.getfield 29, 3) := by decide +kernel
theorem dX8_takeFrom_29 : decode cX8_takeFrom 29 = .ok (.iload_n 2, 1) := by decide +kernel
theorem dX8_takeFrom_30 : decode cX8_takeFrom 30 = .ok (.aaload, 1) := by decide +kernel
theorem dX8_takeFrom_31 : decode cX8_takeFrom 31 = .ok (.aastore, 1) := by decide +kernel
theorem dX8_takeFrom_32 : decode cX8_takeFrom 32 = .ok (.iinc 2 1, 3) := by decide +kernel
theorem dX8_takeFrom_35 : decode cX8_takeFrom 35 = .ok (.goto (-33), 3) := by decide +kernel
theorem dX8_takeFrom_38 : decode cX8_takeFrom 38 = .ok (.aload_n 1, 1) := by decide +kernel
theorem dX8_takeFrom_39 : decode cX8_takeFrom 39 = .ok (.getfield 9, 3) := by decide +kernel
theorem dX8_takeFrom_42 : decode cX8_takeFrom 42 = .ok (.aload_n 0, 1) := by decide +kernel
theorem dX8_takeFrom_43 : decode cX8_takeFrom 43 = .ok (.getfield 9, 3) := by decide +kernel
theorem dX8_takeFrom_46 : decode cX8_takeFrom 46 = .ok (.invokestatic 37, 3) := by decide +kernel
theorem dX8_takeFrom_49 : decode cX8_takeFrom 49 = .ok (.aload_n 1, 1) := by decide +kernel
theorem dX8_takeFrom_50 : decode cX8_takeFrom 50 = .ok (.getfield 15, 3) := by decide +kernel
theorem dX8_takeFrom_53 : decode cX8_takeFrom 53 = .ok (.aload_n 0, 1) := by decide +kernel
theorem dX8_takeFrom_54 : decode cX8_takeFrom 54 = .ok (.getfield 15, 3) := by decide +kernel
theorem dX8_takeFrom_57 : decode cX8_takeFrom 57 = .ok (.invokestatic 37, 3) := by decide +kernel
theorem dX8_takeFrom_60 : decode cX8_takeFrom 60 = .ok (.aload_n 1, 1) := by decide +kernel
theorem dX8_takeFrom_61 : decode cX8_takeFrom 61 = .ok (.getfield 18, 3) := by decide +kernel
theorem dX8_takeFrom_64 : decode cX8_takeFrom 64 = .ok (.aload_n 0, 1) := by decide +kernel
theorem dX8_takeFrom_65 : decode cX8_takeFrom 65 = .ok (.getfield 18, 3) := by decide +kernel
theorem dX8_takeFrom_68 : decode cX8_takeFrom 68 = .ok (.invokestatic 37, 3) := by decide +kernel
theorem dX8_takeFrom_71 : decode cX8_takeFrom 71 = .ok (.aload_n 0, 1) := by decide +kernel
theorem dX8_takeFrom_72 : decode cX8_takeFrom 72 = .ok (.aload_n 1, 1) := by decide +kernel
theorem dX8_takeFrom_73 : decode cX8_takeFrom 73 = .ok (.getfield 33, 3) := by decide +kernel
theorem dX8_takeFrom_76 : decode cX8_takeFrom 76 = .ok (.putfield 33, 3) := by decide +kernel
theorem dX8_takeFrom_79 : decode cX8_takeFrom 79 = .ok (.aload_n 0, 1) := by decide +kernel
theorem dX8_takeFrom_80 : decode cX8_takeFrom 80 = .ok (.aload_n 1, 1) := by decide +kernel
theorem dX8_takeFrom_81 : decode cX8_takeFrom 81 = .ok (.getfield 41, 3) := by decide +kernel
theorem dX8_takeFrom_84 : decode cX8_takeFrom 84 = .ok (.putfield 41, 3) := by decide +kernel
theorem dX8_takeFrom_87 : decode cX8_takeFrom 87 = .ok (.return_, 1) := by decide +kernel
theorem dX12_init_0 : decode cX12_init 0 = .ok (.aload_n 0, 1) := by decide +kernel
theorem dX12_init_1 : decode cX12_init 1 = .ok (.invokespecial 3, 3) := by decide +kernel
theorem dX12_init_4 : decode cX12_init 4 = .ok (.aload_n 0, 1) := by decide +kernel
theorem dX12_init_5 : decode cX12_init 5 = .ok (.iload_n 2, 1) := by decide +kernel
theorem dX12_init_6 : decode cX12_init 6 = .ok (.iconst 1, 1) := by decide +kernel
theorem dX12_init_7 : decode cX12_init 7 = .ok (.iadd, 1) := by decide +kernel
theorem dX12_init_8 : decode cX12_init 8 = .ok (.newarray .int, 2) := by decide +kernel
theorem dX12_init_10 : decode cX12_init 10 = .ok (.putfield 9, 3) := by decide +kernel
theorem dX12_init_13 : decode cX12_init 13 = .ok (.iconst 0, 1) := by decide +kernel
theorem dX12_init_14 : decode cX12_init 14 = .ok (.istore_n 3, 1) := by decide +kernel
theorem dX12_init_15 : decode cX12_init 15 = .ok (.bipush 9, 2) := by decide +kernel
theorem dX12_init_17 : decode cX12_init 17 = .ok (.istore 4, 2) := by decide +kernel
theorem dX12_init_19 : decode cX12_init 19 = .ok (.iload_n 1, 1) := by decide +kernel
theorem dX12_init_20 : decode cX12_init 20 = .ok (.istore 5, 2) := by decide +kernel
theorem dX12_init_22 : decode cX12_init 22 = .ok (.iload 5, 2) := by decide +kernel
theorem dX12_init_24 : decode cX12_init 24 = .ok (.ifCond .le 58, 3) := by decide +kernel
theorem dX12_init_27 : decode cX12_init 27 = .ok (.iconst 0, 1) := by decide +kernel
theorem dX12_init_28 : decode cX12_init 28 = .ok (.istore 6, 2) := by decide +kernel
theorem dX12_init_30 : decode cX12_init 30 = .ok (.iload 6, 2) := by decide +kernel
theorem dX12_init_32 : decode cX12_init 32 = .ok (.iload 5, 2) := by decide +kernel
theorem dX12_init_34 : decode cX12_init 34 = .ok (.if_icmp .ge 36, 3) := by decide +kernel
theorem dX12_init_37 : decode cX12_init 37 = .ok (.iload_n 3, 1) := by decide +kernel
theorem dX12_init_38 : decode cX12_init 38 = .ok (.iload_n 2, 1) := by decide +kernel
theorem dX12_init_39 : decode cX12_init 39 = .ok (.if_icmp .ge 31, 3) := by decide +kernel
theorem dX12_init_42 : decode cX12_init 42 = .ok (.aload_n 0, 1) := by decide +kernel
theorem dX12_init_43 : decode cX12_init 43 = .ok (.getfield 9, 3) := by decide +kernel
theorem dX12_init_46 : decode cX12_init 46 = .ok (.iload_n 3, 1) := by decide +kernel
theorem dX12_init_47 : decode cX12_init 47 = .ok (.iconst 1, 1) := by decide +kernel
theorem dX12_init_48 : decode cX12_init 48 = .ok (.iadd, 1) := by decide +kernel
theorem dX12_init_49 : decode cX12_init 49 = .ok (.aload_n 0, 1) := by decide +kernel
theorem dX12_init_50 : decode cX12_init 50 = .ok (.getfield 9, 3) := by decide +kernel
theorem dX12_init_53 : decode cX12_init 53 = .ok (.iload_n 3, 1) := by decide +kernel
theorem dX12_init_54 : decode cX12_init 54 = .ok (.iaload, 1) := by decide +kernel
theorem dX12_init_55 : decode cX12_init 55 = .ok (.iload 4, 2) := by decide +kernel
theorem dX12_init_57 : decode cX12_init 57 = .ok (.iadd, 1) := by decide +kernel
theorem dX12_init_58 : decode cX12_init 58 = .ok (.iconst 1, 1) := by decide +kernel
theorem dX12_init_59 : decode cX12_init 59 = .ok (.iadd, 1) := by decide +kernel
theorem dX12_init_60 : decode cX12_init 60 = .ok (.iastore, 1) := by decide +kernel
theorem dX12_init_61 : decode cX12_init 61 = .ok (.iinc 3 1, 3) := by decide +kernel
theorem dX12_init_64 : decode cX12_init 64 = .ok (.iinc 6 1, 3) := by decide +kernel
theorem dX12_init_67 : decode cX12_init 67 = .ok (.goto (-37), 3) := by decide +kernel
theorem dX12_init_70 : decode cX12_init 70 = .ok (.iload 4, 2) := by decide +kernel
theorem dX12_init_72 : decode cX12_init 72 = .ok (.iconst 3, 1) := by decide +kernel
theorem dX12_init_73 : decode cX12_init 73 = .ok (.imul, 1) := by decide +kernel
theorem dX12_init_74 : decode cX12_init 74 = .ok (.istore 4, 2) := by decide +kernel
theorem dX12_init_76 : decode cX12_init 76 = .ok (.iinc 5 (-1), 3) := by decide +kernel
theorem dX12_init_79 : decode cX12_init 79 = .ok (.goto (-57), 3) := by decide +kernel
theorem dX12_init_82 : decode cX12_init 82 = .ok (.aload_n 0, 1) := by decide +kernel
theorem dX12_init_83 : decode cX12_init 83 = .ok (.aload_n 0, 1) := by decide +kernel
theorem dX12_init_84 : decode cX12_init 84 = .ok (.getfield 9, 3) := by decide +kernel
theorem dX12_init_87 : decode cX12_init 87 = .ok (.iload_n 2, 1) := by decide +kernel
theorem dX12_init_88 : decode cX12_init 88 = .ok (.iaload, 1) := by decide +kernel
theorem dX12_init_89 : decode cX12_init 89 = .ok (.newarray .int, 2) := by decide +kernel
theorem dX12_init_91 : decode cX12_init 91 = .ok (.putfield 15, 3) := by decide +kernel
theorem dX12_init_94 : decode cX12_init 94 = .ok (.return_, 1) := by decide +kernel
set_option maxRecDepth 20000 in
theorem ggX12_clear_J7_fill_53178 : GoodIn wsX12_clear wsJ7_fill_53178 := goodIn_r _ [5] (by decide +kernel) (by decide +kernel)
set_option maxRecDepth 20000 in
theorem gX12_clear_J7_fill_53178 : GoodIn wsX12_clear (va_wsS RX12 18 yJ7_fill_53178 wsJ7_fill_53178) := goodIn_app (goodIn_of _ (by decide +kernel)) ggX12_clear_J7_fill_53178
theorem dX12_clear_0 : decode cX12_clear 0 = .ok (.aload_n 0, 1) := by decide +kernel
theorem dX12_clear_1 : decode cX12_clear 1 = .ok (.getfield 15, 3) := by decide +kernel
theorem dX12_clear_4 : decode cX12_clear 4 = .ok (.iconst 0, 1) := by decide +kernel
theorem dX12_clear_5 : decode cX12_clear 5 = .ok (.invokestatic 18, 3) := by decide +kernel
theorem dX12_clear_8 : decode cX12_clear 8 = .ok (.return_, 1) := by decide +kernel
set_option maxRecDepth 20000 in
theorem ggX12_add_X10_isWithin : GoodIn wsX12_add wsX10_isWithin := goodIn_r _ [5] (by decide +kernel) (by decide +kernel)
set_option maxRecDepth 20000 in
theorem gX12_add_X10_isWithin_n24 : GoodIn wsX12_add (wsX10_isWithin) := ggX12_add_X10_isWithin
theorem dX12_add_0 : decode cX12_add 0 = .ok (.iconst 0, 1) := by decide +kernel
theorem dX12_add_1 : decode cX12_add 1 = .ok (.istore_n 2, 1) := by decide +kernel
theorem dX12_add_2 : decode cX12_add 2 = .ok (.iload_n 2, 1) := by decide +kernel
theorem dX12_add_3 : decode cX12_add 3 = .ok (.aload_n 0, 1) := by decide +kernel
theorem dX12_add_4 : decode cX12_add 4 = .ok (.getfield 9, 3) := by decide +kernel
theorem dX12_add_7 : decode cX12_add 7 = .ok (.arraylength, 1) := by decide +kernel
theorem dX12_add_8 : decode cX12_add 8 = .ok (.iconst 1, 1) := by decide +kernel
theorem dX12_add_9 : decode cX12_add 9 = .ok (.isub, 1) := by decide +kernel
theorem dX12_add_10 : decode cX12_add 10 = .ok (.if_icmp .ge 59, 3) := by decide +kernel
theorem dX12_add_13 : decode cX12_add 13 = .ok (.iload_n 2, 1) := by decide +kernel
theorem dX12_add_14 : decode cX12_add 14 = .ok (.aload_n 1, 1) := by decide +kernel
theorem dX12_add_15 : decode cX12_add 15 = .ok (.arraylength, 1) := by decide +kernel
theorem dX12_add_16 : decode cX12_add 16 = .ok (.if_icmp .ge 53, 3) := by decide +kernel
theorem dX12_add_19 : decode cX12_add 19 = .ok (.aload_n 0, 1) := by decide +kernel
theorem dX12_add_20 : decode cX12_add 20 = .ok (.getfield 9, 3) := by decide +kernel
theorem dX12_add_23 : decode cX12_add 23 = .ok (.iload_n 2, 1) := by decide +kernel
theorem dX12_add_24 : decode cX12_add 24 = .ok (.iaload, 1) := by decide +kernel
theorem dX12_add_25 : decode cX12_add 25 = .ok (.aload_n 1, 1) := by decide +kernel
theorem dX12_add_26 : decode cX12_add 26 = .ok (.iload_n 2, 1) := by decide +kernel
theorem dX12_add_27 : decode cX12_add 27 = .ok (.iaload, 1) := by decide +kernel
theorem dX12_add_28 : decode cX12_add 28 = .ok (.iadd, 1) := by decide +kernel
theorem dX12_add_29 : decode cX12_add 29 = .ok (.istore_n 3, 1) := by decide +kernel
theorem dX12_add_30 : decode cX12_add 30 = .ok (.iload_n 3, 1) := by decide +kernel
theorem dX12_add_31 : decode cX12_add 31 = .ok (.aload_n 0, 1) := by decide +kernel
theorem dX12_add_32 : decode cX12_add 32 = .ok (.getfield 9, 3) := by decide +kernel
theorem dX12_add_35 : decode cX12_add 35 = .ok (.iload_n 2, 1) := by decide +kernel
theorem dX12_add_36 : decode cX12_add 36 = .ok (.iaload, 1) := by decide +kernel
theorem dX12_add_37 : decode cX12_add 37 = .ok (.aload_n 0, 1) := by decide +kernel
theorem dX12_add_38 : decode cX12_add 38 = .ok (.getfield 9, 3) := by decide +kernel
theorem dX12_add_41 : decode cX12_add 41 = .ok (.iload_n 2, 1) := by decide +kernel
theorem dX12_add_42 : decode cX12_add 42 = .ok (.iconst 1, 1) := by decide +kernel
theorem dX12_add_43 : decode cX12_add 43 = .ok (.iadd, 1) := by decide +kernel
theorem dX12_add_44 : decode cX12_add 44 = .ok (.iaload, 1) := by decide +kernel
theorem dX12_add_45 : decode cX12_add 45 = .ok (.iconst 1, 1) := by decide +kernel
theorem dX12_add_46 : decode cX12_add 46 = .ok (.isub, 1) := by decide +kernel
theorem dX12_add_47 : decode cX12_add 47 = .ok (.invokestatic 24, 3) := by decide +kernel
theorem dX12_add_50 : decode cX12_add 50 = .ok (.ifCond .eq 13, 3) := by decide +kernel
theorem dX12_add_53 : decode cX12_add 53 = .ok (.aload_n 0, 1) := by decide +kernel
theorem dX12_add_54 : decode cX12_add 54 = .ok (.getfield 15, 3) := by decide +kernel
theorem dX12_add_57 : decode cX12_add 57 = .ok (.iload_n 3, 1) := by decide +kernel
theorem dX12_add_58 : decode cX12_add 58 = .ok (.dup2, 1) := by decide +kernel
theorem dX12_add_59 : decode cX12_add 59 = .ok (.iaload, 1) := by decide +kernel
theorem dX12_add_60 : decode cX12_add 60 = .ok (.iconst 1, 1) := by decide +kernel
theorem dX12_add_61 : decode cX12_add 61 = .ok (.iadd, 1) := by decide +kernel
theorem dX12_add_62 : decode cX12_add 62 = .ok (.iastore, 1) := by decide +kernel
theorem dX12_add_63 : decode cX12_add 63 = .ok (.iinc 2 1, 3) := by decide +kernel
theorem dX12_add_66 : decode cX12_add 66 = .ok (.goto (-64), 3) := by decide +kernel
theorem dX12_add_69 : decode cX12_add 69 = .ok (.return_, 1) := by decide +kernel
theorem dX12_worst_0 : decode cX12_worst 0 = .ok (.iconst 0, 1) := by decide +kernel
theorem dX12_worst_1 : decode cX12_worst 1 = .ok (.istore_n 2, 1) := by decide +kernel
theorem dX12_worst_2 : decode cX12_worst 2 = .ok (.aload_n 0, 1) := by decide +kernel
theorem dX12_worst_3 : decode cX12_worst 3 = .ok (.getfield 9, 3) := by decide +kernel
theorem dX12_worst_6 : decode cX12_worst 6 = .ok (.iload_n 1, 1) := by decide +kernel
theorem dX12_worst_7 : decode cX12_worst 7 = .ok (.iaload, 1) := by decide +kernel
theorem dX12_worst_8 : decode cX12_worst 8 = .ok (.istore_n 3, 1) := by decide +kernel
theorem dX12_worst_9 : decode cX12_worst 9 = .ok (.iload_n 3, 1) := by decide +kernel
theorem dX12_worst_10 : decode cX12_worst 10 = .ok (.aload_n 0, 1) := by decide +kernel
theorem dX12_worst_11 : decode cX12_worst 11 = .ok (.getfield 9, 3) := by decide +kernel
theorem dX12_worst_14 : decode cX12_worst 14 = .ok (.iload_n 1, 1) := by decide +kernel
theorem dX12_worst_15 : decode cX12_worst 15 = .ok (.iconst 1, 1) := by decide +kernel
theorem dX12_worst_16 : decode cX12_worst 16 = .ok (.iadd, 1) := by decide +kernel
theorem dX12_worst_17 : decode cX12_worst 17 = .ok (.iaload, 1) := by decide +kernel
theorem dX12_worst_18 : decode cX12_worst 18 = .ok (.if_icmp .ge 20, 3) := by decide +kernel
theorem dX12_worst_21 : decode cX12_worst 21 = .ok (.iload_n 2, 1) := by decide +kernel
theorem dX12_worst_22 : decode cX12_worst 22 = .ok (.aload_n 0, 1) := by decide +kernel
theorem dX12_worst_23 : decode cX12_worst 23 = .ok (.getfield 15, 3) := by decide +kernel
theorem dX12_worst_26 : decode cX12_worst 26 = .ok (.iload_n 3, 1) := by decide +kernel
theorem dX12_worst_27 : decode cX12_worst 27 = .ok (.iaload, 1) := by decide +kernel
theorem dX12_worst_28 : decode cX12_worst 28 = .ok (.invokestatic 28, 3) := by decide +kernel
theorem dX12_worst_31 : decode cX12_worst 31 = .ok (.istore_n 2, 1) := by decide +kernel
theorem dX12_worst_32 : decode cX12_worst 32 = .ok (.iinc 3 1, 3) := by decide +kernel
theorem dX12_worst_35 : decode cX12_worst 35 = .ok (.goto (-26), 3) := by decide +kernel
theorem dX12_worst_38 : decode cX12_worst 38 = .ok (.iload_n 2, 1) := by decide +kernel
theorem dX12_worst_39 : decode cX12_worst 39 = .ok (.ireturn, 1) := by decide +kernel
set_option maxRecDepth 20000 in
theorem ggX9_init_X0_init : GoodIn wsX9_init wsX0_init := goodIn_r _ [3, 4, 5, 6] (by decide +kernel) (by decide +kernel)
set_option maxRecDepth 20000 in
theorem gX9_init_X0_init_n1 : GoodIn wsX9_init (wsX0_init) := ggX9_init_X0_init
theorem dX9_init_0 : decode cX9_init 0 = .ok (.aload_n 0, 1) := by decide +kernel
theorem dX9_init_1 : decode cX9_init 1 = .ok (.invokespecial 1, 3) := by decide +kernel
theorem dX9_init_4 : decode cX9_init 4 = .ok (.return_, 1) := by decide +kernel
theorem dX9_made_0 : decode cX9_made 0 = .ok (.iconst 2, 1) := by decide +kernel
theorem dX9_made_1 : decode cX9_made 1 = .ok (.iload_n 1, 1) := by decide +kernel
theorem dX9_made_2 : decode cX9_made 2 = .ok (.imul, 1) := by decide +kernel
theorem dX9_made_3 : decode cX9_made 3 = .ok (.iload_n 2, 1) := by decide +kernel
theorem dX9_made_4 : decode cX9_made 4 = .ok (.iadd, 1) := by decide +kernel
theorem dX9_made_5 : decode cX9_made 5 = .ok (.ireturn, 1) := by decide +kernel
