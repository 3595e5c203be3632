theorem dX0_init_0 : decode cX0_init 0 = .ok (.aload_n 0, 1) := by decide +kernel
theorem dX0_init_1 : decode cX0_init 1 = .ok (.invokespecial 1, 3) := by decide +kernel
theorem dX0_init_4 : decode cX0_init 4 = .ok (.return_, 1) := by decide +kernel
theorem dX0_number_0 : decode cX0_number 0 = .ok (.iconst 0, 1) := by decide +kernel
theorem dX0_number_1 : decode cX0_number 1 = .ok (.ireturn, 1) := by decide +kernel
theorem dX0_made_0 : decode cX0_made 0 = .ok (.iload_n 1, 1) := by decide +kernel
theorem dX0_made_1 : decode cX0_made 1 = .ok (.iload_n 2, 1) := by decide +kernel
theorem dX0_made_2 : decode cX0_made 2 = .ok (.iadd, 1) := by decide +kernel
theorem dX0_made_3 : decode cX0_made 3 = .ok (.ireturn, 1) := by decide +kernel
set_option maxRecDepth 20000 in
theorem ggX1_init_X0_init : GoodIn wsX1_init wsX0_init := goodIn_r _ [3, 4, 5, 6] (by decide +kernel) (by decide +kernel)
set_option maxRecDepth 20000 in
theorem gX1_init_X0_init_n3 : GoodIn wsX1_init (wsX0_init) := ggX1_init_X0_init
theorem dX1_init_0 : decode cX1_init 0 = .ok (.aload_n 0, 1) := by decide +kernel
theorem dX1_init_1 : decode cX1_init 1 = .ok (.invokespecial 3, 3) := by decide +kernel
theorem dX1_init_4 : decode cX1_init 4 = .ok (.return_, 1) := by decide +kernel
theorem dX1_number_0 : decode cX1_number 0 = .ok (.iconst 1, 1) := by decide +kernel
theorem dX1_number_1 : decode cX1_number 1 = .ok (.ireturn, 1) := by decide +kernel
theorem dX1_made_0 : decode cX1_made 0 = .ok (.iload_n 1, 1) := by decide +kernel
theorem dX1_made_1 : decode cX1_made 1 = .ok (.iload_n 2, 1) := by decide +kernel
theorem dX1_made_2 : decode cX1_made 2 = .ok (.isub, 1) := by decide +kernel
theorem dX1_made_3 : decode cX1_made 3 = .ok (.invokestatic 9, 3) := by decide +kernel
theorem dX1_made_6 : decode cX1_made 6 = .ok (.ireturn, 1) := by decide +kernel
set_option maxRecDepth 20000 in
theorem ggX2_init_X9_init : GoodIn wsX2_init wsX9_init := goodIn_r _ [3, 4, 5, 6, 7, 8, 9] (by decide +kernel) (by decide +kernel)
set_option maxRecDepth 20000 in
theorem gX2_init_X9_init_n3 : GoodIn wsX2_init (wsX9_init) := ggX2_init_X9_init
theorem dX2_init_0 : decode cX2_init 0 = .ok (.aload_n 0, 1) := by decide +kernel
theorem dX2_init_1 : decode cX2_init 1 = .ok (.invokespecial 3, 3) := by decide +kernel
theorem dX2_init_4 : decode cX2_init 4 = .ok (.return_, 1) := by decide +kernel
theorem dX2_number_0 : decode cX2_number 0 = .ok (.iconst 4, 1) := by decide +kernel
theorem dX2_number_1 : decode cX2_number 1 = .ok (.ireturn, 1) := by decide +kernel
set_option maxRecDepth 20000 in
theorem ggX2_made_X9_made : GoodIn wsX2_made wsX9_made := goodIn_r _ [6] (by decide +kernel) (by decide +kernel)
set_option maxRecDepth 20000 in
theorem gX2_made_X9_made_s9 : GoodIn wsX2_made (va_wsSU RX2 9 yX9_made wsX9_made) := goodIn_app (goodIn_of _ (by decide +kernel)) ggX2_made_X9_made
theorem dX2_made_0 : decode cX2_made 0 = .ok (.aload_n 0, 1) := by decide +kernel
theorem dX2_made_1 : decode cX2_made 1 = .ok (.iload_n 1, 1) := by decide +kernel
theorem dX2_made_2 : decode cX2_made 2 = .ok (.iload_n 2, 1) := by decide +kernel
theorem dX2_made_3 : decode cX2_made 3 = .ok (.invokespecial 9, 3) := by decide +kernel
theorem dX2_made_6 : decode cX2_made 6 = .ok (.bipush 10, 2) := by decide +kernel
theorem dX2_made_8 : decode cX2_made 8 = .ok (.irem, 1) := by decide +kernel
theorem dX2_made_9 : decode cX2_made 9 = .ok (.ireturn, 1) := by decide +kernel
set_option maxRecDepth 20000 in
theorem ggX3_init_X0_init : GoodIn wsX3_init wsX0_init := goodIn_r _ [3, 4, 5, 6] (by decide +kernel) (by decide +kernel)
set_option maxRecDepth 20000 in
theorem gX3_init_X0_init_n3 : GoodIn wsX3_init (wsX0_init) := ggX3_init_X0_init
theorem dX3_init_0 : decode cX3_init 0 = .ok (.aload_n 0, 1) := by decide +kernel
theorem dX3_init_1 : decode cX3_init 1 = .ok (.invokespecial 3, 3) := by decide +kernel
theorem dX3_init_4 : decode cX3_init 4 = .ok (.return_, 1) := by decide +kernel
theorem dX3_number_0 : decode cX3_number 0 = .ok (.iconst 2, 1) := by decide +kernel
theorem dX3_number_1 : decode cX3_number 1 = .ok (.ireturn, 1) := by decide +kernel
theorem dX3_made_0 : decode cX3_made 0 = .ok (.iload_n 1, 1) := by decide +kernel
theorem dX3_made_1 : decode cX3_made 1 = .ok (.iload_n 2, 1) := by decide +kernel
theorem dX3_made_2 : decode cX3_made 2 = .ok (.invokestatic 9, 3) := by decide +kernel
theorem dX3_made_5 : decode cX3_made 5 = .ok (.ireturn, 1) := by decide +kernel
set_option maxRecDepth 20000 in
theorem ggX4_init_J4_init_da8c8 : GoodIn wsX4_init wsJ4_init_da8c8 := goodIn_r _ [10, 11, 12, 13, 14, 15, 2, 3, 16, 17, 18, 19, 20, 21, 22, 23, 24, 25, 26, 27, 28, 29, 30, 31] (by decide +kernel) (by decide +kernel)
set_option maxRecDepth 20000 in
theorem gX4_init_J4_init_da8c8 : GoodIn wsX4_init (wsJ4_init_da8c8) := ggX4_init_J4_init_da8c8
theorem dX4_init_0 : decode cX4_init 0 = .ok (.aload_n 0, 1) := by decide +kernel
theorem dX4_init_1 : decode cX4_init 1 = .ok (.invokespecial 3, 3) := by decide +kernel
theorem dX4_init_4 : decode cX4_init 4 = .ok (.aload_n 0, 1) := by decide +kernel
theorem dX4_init_5 : decode cX4_init 5 = .ok (.new 9, 3) := by decide +kernel
theorem dX4_init_8 : decode cX4_init 8 = .ok (.dup, 1) := by decide +kernel
theorem dX4_init_9 : decode cX4_init 9 = .ok (.invokespecial 11, 3) := by decide +kernel
theorem dX4_init_12 : decode cX4_init 12 = .ok (.putfield 12, 3) := by decide +kernel
theorem dX4_init_15 : decode cX4_init 15 = .ok (.return_, 1) := by decide +kernel
set_option maxRecDepth 20000 in
theorem ggX4_length_J4_length_8abf5 : GoodIn wsX4_length wsJ4_length_8abf5 := goodIn_r _ [6, 7, 8, 9, 10, 11, 12, 13, 15, 16, 17, 18] (by decide +kernel) (by decide +kernel)
set_option maxRecDepth 20000 in
theorem gX4_length_J4_length_8abf5 : GoodIn wsX4_length (wsV RX4 18 RJ4 yJ4_length_8abf5 wsJ4_length_8abf5) := goodIn_app (goodIn_of _ (by decide +kernel)) ggX4_length_J4_length_8abf5
theorem dX4_length_0 : decode cX4_length 0 = .ok (.aload_n 0, 1) := by decide +kernel
theorem dX4_length_1 : decode cX4_length 1 = .ok (.getfield 12, 3) := by decide +kernel
theorem dX4_length_4 : decode cX4_length 4 = .ok (.invokevirtual 18, 3) := by decide +kernel
theorem dX4_length_7 : decode cX4_length 7 = .ok (.ireturn, 1) := by decide +kernel
set_option maxRecDepth 20000 in
theorem ggX4_letterAt_J4_length_8abf5 : GoodIn wsX4_letterAt wsJ4_length_8abf5 := goodIn_r _ [6, 7, 8, 9, 10, 11, 12, 13, 51, 52, 53, 54] (by decide +kernel) (by decide +kernel)
set_option maxRecDepth 20000 in
theorem gX4_letterAt_J4_length_8abf5 : GoodIn wsX4_letterAt (wsV RX4 18 RJ4 yJ4_length_8abf5 wsJ4_length_8abf5) := goodIn_app (goodIn_of _ (by decide +kernel)) ggX4_letterAt_J4_length_8abf5
set_option maxRecDepth 20000 in
theorem ggX4_letterAt_X10_isWithin : GoodIn wsX4_letterAt wsX10_isWithin := goodIn_r _ [16] (by decide +kernel) (by decide +kernel)
set_option maxRecDepth 20000 in
theorem gX4_letterAt_X10_isWithin_n22 : GoodIn wsX4_letterAt (wsX10_isWithin) := ggX4_letterAt_X10_isWithin
set_option maxRecDepth 20000 in
theorem ggX4_letterAt_J4_charAt_5068e : GoodIn wsX4_letterAt wsJ4_charAt_5068e := goodIn_r _ [20, 21, 22, 9, 23, 11, 24, 25, 26, 13, 27, 28, 29, 30, 31, 32, 33, 34, 35, 36, 37, 38, 39, 40, 41, 42, 43, 44, 45, 46, 47, 48, 49, 51, 52, 53, 54] (by decide +kernel) (by decide +kernel)
set_option maxRecDepth 20000 in
theorem gX4_letterAt_J4_charAt_5068e : GoodIn wsX4_letterAt (wsV RX4 26 RJ4 yJ4_charAt_5068e wsJ4_charAt_5068e) := goodIn_app (goodIn_of _ (by decide +kernel)) ggX4_letterAt_J4_charAt_5068e
theorem dX4_letterAt_0 : decode cX4_letterAt 0 = .ok (.iload_n 1, 1) := by decide +kernel
theorem dX4_letterAt_1 : decode cX4_letterAt 1 = .ok (.iconst 0, 1) := by decide +kernel
theorem dX4_letterAt_2 : decode cX4_letterAt 2 = .ok (.aload_n 0, 1) := by decide +kernel
theorem dX4_letterAt_3 : decode cX4_letterAt 3 = .ok (.getfield 12, 3) := by decide +kernel
theorem dX4_letterAt_6 : decode cX4_letterAt 6 = .ok (.invokevirtual 18, 3) := by decide +kernel
theorem dX4_letterAt_9 : decode cX4_letterAt 9 = .ok (.iconst 1, 1) := by decide +kernel
theorem dX4_letterAt_10 : decode cX4_letterAt 10 = .ok (.isub, 1) := by decide +kernel
theorem dX4_letterAt_11 : decode cX4_letterAt 11 = .ok (.invokestatic 22, 3) := by decide +kernel
theorem dX4_letterAt_14 : decode cX4_letterAt 14 = .ok (.ifCond .eq 14, 3) := by decide +kernel
theorem dX4_letterAt_17 : decode cX4_letterAt 17 = .ok (.aload_n 0, 1) := by decide +kernel
theorem dX4_letterAt_18 : decode cX4_letterAt 18 = .ok (.getfield 12, 3) := by decide +kernel
theorem dX4_letterAt_21 : decode cX4_letterAt 21 = .ok (.iload_n 1, 1) := by decide +kernel
theorem dX4_letterAt_22 : decode cX4_letterAt 22 = .ok (.invokevirtual 26, 3) := by decide +kernel
theorem dX4_letterAt_25 : decode cX4_letterAt 25 = .ok (.goto 4, 3) := by decide +kernel
theorem dX4_letterAt_28 : decode cX4_letterAt 28 = .ok (.iconst 0, 1) := by decide +kernel
theorem dX4_letterAt_29 : decode cX4_letterAt 29 = .ok (.ireturn, 1) := by decide +kernel
set_option maxRecDepth 20000 in
theorem ggX4_add_J4_append_cf468 : GoodIn wsX4_add wsJ4_append_cf468 := goodIn_r _ [6, 7, 8, 9, 10, 11, 12, 13, 14, 15, 16, 17, 18, 19, 20, 21, 22, 23, 24, 25, 26, 27, 28, 29, 30, 31, 32, 33, 34, 35, 36, 37, 38, 39, 40, 41, 42, 43, 44, 45, 46, 47, 48, 49, 50, 51, 52, 53, 54, 55, 56, 57, 58, 59, 60, 61, 62, 63, 64, 65, 66, 67, 68, 69, 70, 71, 72, 73, 74, 75, 76, 77, 78, 79, 80, 81, 82, 83, 84, 85, 86, 87, 88, 89, 90, 91, 92, 93, 94, 95, 96, 97, 98, 99, 100, 101, 102, 103, 104, 105, 106, 107, 108, 109, 110, 111, 112, 113, 114, 115, 116, 117, 118, 120, 121, 122, 123] (by decide +kernel) (by decide +kernel)
set_option maxRecDepth 20000 in
theorem gX4_add_J4_append_cf468 : GoodIn wsX4_add (wsV RX4 30 RJ4 yJ4_append_cf468 wsJ4_append_cf468) := goodIn_app (goodIn_of _ (by decide +kernel)) ggX4_add_J4_append_cf468
theorem dX4_add_0 : decode cX4_add 0 = .ok (.aload_n 0, 1) := by decide +kernel
theorem dX4_add_1 : decode cX4_add 1 = .ok (.getfield 12, 3) := by decide +kernel
theorem dX4_add_4 : decode cX4_add 4 = .ok (.iload_n 1, 1) := by decide +kernel
theorem dX4_add_5 : decode cX4_add 5 = .ok (.invokevirtual 30, 3) := by decide +kernel
theorem dX4_add_8 : decode cX4_add 8 = .ok (.pop, 1) := by decide +kernel
theorem dX4_add_9 : decode cX4_add 9 = .ok (.return_, 1) := by decide +kernel
set_option maxRecDepth 20000 in
theorem ggX4_clear_J4_setLength_d00df : GoodIn wsX4_clear wsJ4_setLength_d00df := goodIn_r _ [6, 7, 8, 9, 10, 11, 12, 13, 14, 15, 16, 17, 18, 19, 20, 21, 22, 23, 24, 25, 26, 27, 28, 29, 30, 31, 32, 33, 34, 35, 36, 37, 38, 39, 40, 41, 42, 43, 44, 45, 46, 47, 48, 49, 50, 51, 52, 53, 54, 55, 56, 57, 58, 59, 60, 61, 62, 63, 64, 65, 66, 67, 68, 69, 70, 71, 72, 73, 74, 75, 76, 77, 78, 80, 81, 82, 83] (by decide +kernel) (by decide +kernel)
set_option maxRecDepth 20000 in
theorem gX4_clear_J4_setLength_d00df : GoodIn wsX4_clear (wsV RX4 34 RJ4 yJ4_setLength_d00df wsJ4_setLength_d00df) := goodIn_app (goodIn_of _ (by decide +kernel)) ggX4_clear_J4_setLength_d00df
theorem dX4_clear_0 : decode cX4_clear 0 = .ok (.aload_n 0, 1) := by decide +kernel
theorem dX4_clear_1 : decode cX4_clear 1 = .ok (.getfield 12, 3) := by decide +kernel
theorem dX4_clear_4 : decode cX4_clear 4 = .ok (.iconst 0, 1) := by decide +kernel
theorem dX4_clear_5 : decode cX4_clear 5 = .ok (.invokevirtual 34, 3) := by decide +kernel
theorem dX4_clear_8 : decode cX4_clear 8 = .ok (.return_, 1) := by decide +kernel
set_option maxRecDepth 20000 in
theorem ggX4_text_J4_toString_0e30d : GoodIn wsX4_text wsJ4_toString_0e30d := goodIn_r _ [6, 7, 8, 9, 10, 11, 12, 13, 14, 15, 16, 17, 18, 19, 20, 21, 22, 23, 24, 25, 26, 27, 28, 29, 30, 31, 32, 33, 34, 5, 35, 36, 37, 38, 39, 40, 41, 42, 43, 44, 45, 46, 47, 48, 49, 50, 51, 52, 53, 54, 55, 56, 57, 58, 59, 60, 61, 62, 63, 64, 65, 66, 67, 68, 69, 70, 71, 72, 73, 74, 75, 76, 77, 78, 79, 80, 81, 82, 83, 84, 85, 86, 87, 88, 89, 90, 91, 92, 93, 94, 95, 96, 97, 98, 99, 100, 101, 102, 103, 104, 105, 106, 107, 109, 110, 111, 112, 113, 114, 115, 116] (by decide +kernel) (by decide +kernel)
set_option maxRecDepth 20000 in
theorem gX4_text_J4_toString_0e30d : GoodIn wsX4_text (wsV RX4 38 RJ4 yJ4_toString_0e30d wsJ4_toString_0e30d) := goodIn_app (goodIn_of _ (by decide +kernel)) ggX4_text_J4_toString_0e30d
theorem dX4_text_0 : decode cX4_text 0 = .ok (.aload_n 0, 1) := by decide +kernel
theorem dX4_text_1 : decode cX4_text 1 = .ok (.getfield 12, 3) := by decide +kernel
theorem dX4_text_4 : decode cX4_text 4 = .ok (.invokevirtual 38, 3) := by decide +kernel
theorem dX4_text_7 : decode cX4_text 7 = .ok (.areturn, 1) := by decide +kernel
set_option maxRecDepth 20000 in
theorem ggX4_wide_X4_form : GoodIn wsX4_wide wsX4_form := goodIn_r _ [5, 6, 7, 8, 4, 9, 10, 11, 12, 13, 14, 15, 16, 17, 18, 19, 20, 21, 22, 23, 24, 25, 26, 27, 28, 29, 30, 31, 32, 33, 34, 35, 36, 37, 38, 39, 40, 41, 42, 43, 44, 45, 46, 47, 48, 49, 50, 51, 52, 53, 54, 55, 56, 57, 58, 64, 65, 66, 67, 68] (by decide +kernel) (by decide +kernel)
set_option maxRecDepth 20000 in
theorem gX4_wide_X4_form : GoodIn wsX4_wide (wsV RX4 42 RX4 yX4_form wsX4_form) := goodIn_app (goodIn_of _ (by decide +kernel)) ggX4_wide_X4_form
set_option maxRecDepth 20000 in
theorem ggX4_wide_J0_isEmpty_aae02 : GoodIn wsX4_wide wsJ0_isEmpty_aae02 := goodIn_r _ [62, 63, 69, 70, 71, 72] (by decide +kernel) (by decide +kernel)
set_option maxRecDepth 20000 in
theorem gX4_wide_J0_isEmpty_aae02 : GoodIn wsX4_wide (wsV RX4 45 RJ0 yJ0_isEmpty_aae02 wsJ0_isEmpty_aae02) := goodIn_app (goodIn_of _ (by decide +kernel)) ggX4_wide_J0_isEmpty_aae02
set_option maxRecDepth 20000 in
theorem ggX4_wide_X4_letterAt : GoodIn wsX4_wide wsX4_letterAt := goodIn_r _ [9, 10, 11, 12, 13, 14, 15, 16, 17, 18, 19, 20, 21, 22, 23, 24, 25, 26, 27, 28, 29, 30, 31, 32, 33, 34, 35, 36, 37, 38, 39, 40, 41, 42, 43, 44, 45, 46, 47, 48, 49, 50, 51, 52, 53, 54, 55, 56, 57, 58, 64, 65, 66, 67, 68] (by decide +kernel) (by decide +kernel)
set_option maxRecDepth 20000 in
theorem gX4_wide_X4_letterAt : GoodIn wsX4_wide (wsV RX4 51 RX4 yX4_letterAt wsX4_letterAt) := goodIn_app (goodIn_of _ (by decide +kernel)) ggX4_wide_X4_letterAt
theorem dX4_wide_0 : decode cX4_wide 0 = .ok (.aload_n 0, 1) := by decide +kernel
theorem dX4_wide_1 : decode cX4_wide 1 = .ok (.invokevirtual 42, 3) := by decide +kernel
theorem dX4_wide_4 : decode cX4_wide 4 = .ok (.invokevirtual 45, 3) := by decide +kernel
theorem dX4_wide_7 : decode cX4_wide 7 = .ok (.ifCond .eq 7, 3) := by decide +kernel
theorem dX4_wide_10 : decode cX4_wide 10 = .ok (.iconst 0, 1) := by decide +kernel
theorem dX4_wide_11 : decode cX4_wide 11 = .ok (.goto 11, 3) := by decide +kernel
theorem dX4_wide_14 : decode cX4_wide 14 = .ok (.aload_n 0, 1) := by decide +kernel
theorem dX4_wide_15 : decode cX4_wide 15 = .ok (.iconst 0, 1) := by decide +kernel
theorem dX4_wide_16 : decode cX4_wide 16 = .ok (.invokevirtual 51, 3) := by decide +kernel
theorem dX4_wide_19 : decode cX4_wide 19 = .ok (.bipush 48, 2) := by decide +kernel
theorem dX4_wide_21 : decode cX4_wide 21 = .ok (.isub, 1) := by decide +kernel
theorem dX4_wide_22 : decode cX4_wide 22 = .ok (.ireturn, 1) := by decide +kernel
set_option maxRecDepth 20000 in
theorem ggX4_isPile_J4_length_8abf5 : GoodIn wsX4_isPile wsJ4_length_8abf5 := goodIn_r _ [6, 7, 8, 9, 10, 11, 12, 13, 160, 161, 162, 163] (by decide +kernel) (by decide +kernel)
set_option maxRecDepth 20000 in
theorem gX4_isPile_J4_length_8abf5 : GoodIn wsX4_isPile (wsV RX4 18 RJ4 yJ4_length_8abf5 wsJ4_length_8abf5) := goodIn_app (goodIn_of _ (by decide +kernel)) ggX4_isPile_J4_length_8abf5
set_option maxRecDepth 20000 in
theorem ggX4_isPile_X4_form : GoodIn wsX4_isPile wsX4_form := goodIn_r _ [18, 19, 20, 21, 17, 22, 1, 2, 3, 4, 5, 6, 7, 8, 9, 10, 11, 12, 13, 23, 24, 25, 26, 27, 28, 29, 30, 31, 32, 33, 34, 35, 36, 37, 38, 39, 40, 41, 42, 43, 44, 45, 46, 47, 48, 49, 50, 51, 52, 53, 54, 55, 56, 57, 58, 159, 160, 161, 162, 163] (by decide +kernel) (by decide +kernel)
set_option maxRecDepth 20000 in
theorem gX4_isPile_X4_form : GoodIn wsX4_isPile (wsV RX4 42 RX4 yX4_form wsX4_form) := goodIn_app (goodIn_of _ (by decide +kernel)) ggX4_isPile_X4_form
set_option maxRecDepth 20000 in
theorem ggX4_isPile_J0_length_8abf5 : GoodIn wsX4_isPile wsJ0_length_8abf5 := goodIn_r _ [62, 63, 64, 65, 66, 42, 67, 68, 69, 164, 165, 166, 167] (by decide +kernel) (by decide +kernel)
set_option maxRecDepth 20000 in
theorem gX4_isPile_J0_length_8abf5 : GoodIn wsX4_isPile (wsV RX4 55 RJ0 yJ0_length_8abf5 wsJ0_length_8abf5) := goodIn_app (goodIn_of _ (by decide +kernel)) ggX4_isPile_J0_length_8abf5
set_option maxRecDepth 20000 in
theorem ggX4_isPile_X4_firstFault : GoodIn wsX4_isPile wsX4_firstFault := goodIn_r _ [73, 1, 14, 15, 16, 17, 18, 19, 20, 21, 22, 2, 3, 4, 5, 6, 7, 8, 9, 10, 11, 12, 13, 23, 24, 25, 26, 27, 28, 29, 30, 31, 32, 33, 34, 35, 36, 37, 38, 39, 40, 41, 42, 43, 44, 45, 46, 47, 48, 49, 50, 51, 52, 53, 54, 55, 56, 57, 58, 59, 60, 61, 62, 63, 64, 65, 66, 67, 68, 69, 74, 75, 76, 77, 78, 79, 80, 81, 82, 83, 84, 85, 86, 87, 88, 89, 90, 91, 92, 93, 94, 95, 96, 97, 98, 99, 100, 101, 102, 103, 104, 105, 106, 107, 108, 109, 110, 111, 112, 113, 114, 115, 116, 117, 118, 119, 120, 121, 122, 123, 124, 125, 126, 127, 128, 129, 130, 131, 132, 133, 134, 135, 136, 137, 138, 139, 140, 141, 142, 143, 144, 145, 146, 147, 148, 149, 150, 151, 152, 153, 154, 155, 156, 157, 158, 159, 160, 161, 162, 163, 164, 165, 166, 167] (by decide +kernel) (by decide +kernel)
set_option maxRecDepth 20000 in
theorem gX4_isPile_X4_firstFault : GoodIn wsX4_isPile (wsV RX4 56 RX4 yX4_firstFault wsX4_firstFault) := goodIn_app (goodIn_of _ (by decide +kernel)) ggX4_isPile_X4_firstFault
theorem dX4_isPile_0 : decode cX4_isPile 0 = .ok (.aload_n 0, 1) := by decide +kernel
theorem dX4_isPile_1 : decode cX4_isPile 1 = .ok (.getfield 12, 3) := by decide +kernel
theorem dX4_isPile_4 : decode cX4_isPile 4 = .ok (.invokevirtual 18, 3) := by decide +kernel
theorem dX4_isPile_7 : decode cX4_isPile 7 = .ok (.istore_n 1, 1) := by decide +kernel
theorem dX4_isPile_8 : decode cX4_isPile 8 = .ok (.iload_n 1, 1) := by decide +kernel
theorem dX4_isPile_9 : decode cX4_isPile 9 = .ok (.ifCond .le 26, 3) := by decide +kernel
theorem dX4_isPile_12 : decode cX4_isPile 12 = .ok (.iload_n 1, 1) := by decide +kernel
theorem dX4_isPile_13 : decode cX4_isPile 13 = .ok (.aload_n 0, 1) := by decide +kernel
theorem dX4_isPile_14 : decode cX4_isPile 14 = .ok (.invokevirtual 42, 3) := by decide +kernel
theorem dX4_isPile_17 : decode cX4_isPile 17 = .ok (.invokevirtual 55, 3) := by decide +kernel
theorem dX4_isPile_20 : decode cX4_isPile 20 = .ok (.if_icmp .ne 15, 3) := by decide +kernel
theorem dX4_isPile_23 : decode cX4_isPile 23 = .ok (.aload_n 0, 1) := by decide +kernel
theorem dX4_isPile_24 : decode cX4_isPile 24 = .ok (.invokevirtual 56, 3) := by decide +kernel
theorem dX4_isPile_27 : decode cX4_isPile 27 = .ok (.iload_n 1, 1) := by decide +kernel
theorem dX4_isPile_28 : decode cX4_isPile 28 = .ok (.if_icmp .ne 7, 3) := by decide +kernel
theorem dX4_isPile_31 : decode cX4_isPile 31 = .ok (.iconst 1, 1) := by decide +kernel
theorem dX4_isPile_32 : decode cX4_isPile 32 = .ok (.goto 4, 3) := by decide +kernel
theorem dX4_isPile_35 : decode cX4_isPile 35 = .ok (.iconst 0, 1) := by decide +kernel
theorem dX4_isPile_36 : decode cX4_isPile 36 = .ok (.ireturn, 1) := by decide +kernel
set_option maxRecDepth 20000 in
theorem ggX4_firstFault_X4_form : GoodIn wsX4_firstFault wsX4_form := goodIn_r _ [6, 7, 8, 9, 5, 10, 1, 11, 12, 13, 14, 15, 16, 17, 18, 19, 20, 21, 22, 23, 24, 25, 26, 27, 28, 29, 30, 31, 32, 33, 34, 35, 36, 37, 38, 39, 40, 41, 42, 43, 44, 45, 46, 47, 48, 49, 50, 51, 52, 53, 54, 55, 56, 57, 58, 155, 156, 157, 158, 159] (by decide +kernel) (by decide +kernel)
set_option maxRecDepth 20000 in
theorem gX4_firstFault_X4_form : GoodIn wsX4_firstFault (wsV RX4 42 RX4 yX4_form wsX4_form) := goodIn_app (goodIn_of _ (by decide +kernel)) ggX4_firstFault_X4_form
set_option maxRecDepth 20000 in
theorem ggX4_firstFault_J4_length_8abf5 : GoodIn wsX4_firstFault wsJ4_length_8abf5 := goodIn_r _ [15, 16, 17, 18, 19, 20, 21, 22, 156, 157, 158, 159] (by decide +kernel) (by decide +kernel)
set_option maxRecDepth 20000 in
theorem gX4_firstFault_J4_length_8abf5 : GoodIn wsX4_firstFault (wsV RX4 18 RJ4 yJ4_length_8abf5 wsJ4_length_8abf5) := goodIn_app (goodIn_of _ (by decide +kernel)) ggX4_firstFault_J4_length_8abf5
set_option maxRecDepth 20000 in
theorem ggX4_firstFault_J0_length_8abf5 : GoodIn wsX4_firstFault wsJ0_length_8abf5 := goodIn_r _ [62, 63, 64, 65, 66, 42, 67, 68, 69, 160, 161, 162, 163] (by decide +kernel) (by decide +kernel)
set_option maxRecDepth 20000 in
theorem gX4_firstFault_J0_length_8abf5 : GoodIn wsX4_firstFault (wsV RX4 55 RJ0 yJ0_length_8abf5 wsJ0_length_8abf5) := goodIn_app (goodIn_of _ (by decide +kernel)) ggX4_firstFault_J0_length_8abf5
set_option maxRecDepth 20000 in
theorem ggX4_firstFault_J4_charAt_5068e : GoodIn wsX4_firstFault wsJ4_charAt_5068e := goodIn_r _ [29, 30, 31, 18, 32, 20, 33, 34, 35, 22, 36, 37, 38, 39, 40, 41, 42, 43, 44, 45, 46, 47, 48, 49, 50, 51, 52, 53, 54, 55, 56, 57, 58, 156, 157, 158, 159] (by decide +kernel) (by decide +kernel)
set_option maxRecDepth 20000 in
theorem gX4_firstFault_J4_charAt_5068e : GoodIn wsX4_firstFault (wsV RX4 26 RJ4 yJ4_charAt_5068e wsJ4_charAt_5068e) := goodIn_app (goodIn_of _ (by decide +kernel)) ggX4_firstFault_J4_charAt_5068e
set_option maxRecDepth 20000 in
theorem ggX4_firstFault_J0_charAt_5068e : GoodIn wsX4_firstFault wsJ0_charAt_5068e := goodIn_r _ [73, 63, 74, 75, 76, 42, 77, 68, 69, 78, 79, 80, 81, 82, 41, 43, 44, 45, 46, 47, 48, 83, 84, 51, 85, 86, 87, 88, 56, 57, 58, 89, 90, 50, 52, 53, 54, 55, 160, 161, 162, 163] (by decide +kernel) (by decide +kernel)
set_option maxRecDepth 20000 in
theorem gX4_firstFault_J0_charAt_5068e : GoodIn wsX4_firstFault (wsV RX4 59 RJ0 yJ0_charAt_5068e wsJ0_charAt_5068e) := goodIn_app (goodIn_of _ (by decide +kernel)) ggX4_firstFault_J0_charAt_5068e
set_option maxRecDepth 20000 in
theorem ggX4_firstFault_X4_suits : GoodIn wsX4_firstFault wsX4_suits := goodIn_r _ [93, 94, 95, 96, 42, 97, 98, 99, 100, 101, 63, 74, 75, 76, 77, 68, 69, 102, 60, 61, 62, 64, 65, 66, 67, 103, 104, 80, 105, 106, 107, 38, 108, 109, 37, 39, 110, 111, 112, 113, 114, 115, 116, 117, 51, 118, 119, 120, 121, 122, 123, 124, 125, 126, 127, 56, 57, 58, 128, 129, 130, 44, 131, 132, 47, 133, 134, 135, 136, 90, 50, 52, 53, 54, 55, 137, 138, 139, 140, 141, 142, 143, 144, 145, 146, 147, 148, 149, 150, 151, 152, 24, 153, 154, 23, 25, 160, 161, 162, 163] (by decide +kernel) (by decide +kernel)
set_option maxRecDepth 20000 in
theorem gX4_firstFault_X4_suits : GoodIn wsX4_firstFault (va_wsS RX4 60 yX4_suits wsX4_suits) := goodIn_app (goodIn_of _ (by decide +kernel)) ggX4_firstFault_X4_suits
theorem dX4_firstFault_0 : decode cX4_firstFault 0 = .ok (.aload_n 0, 1) := by decide +kernel
theorem dX4_firstFault_1 : decode cX4_firstFault 1 = .ok (.invokevirtual 42, 3) := by decide +kernel
theorem dX4_firstFault_4 : decode cX4_firstFault 4 = .ok (.astore_n 1, 1) := by decide +kernel
theorem dX4_firstFault_5 : decode cX4_firstFault 5 = .ok (.iconst 0, 1) := by decide +kernel
theorem dX4_firstFault_6 : decode cX4_firstFault 6 = .ok (.istore_n 2, 1) := by decide +kernel
theorem dX4_firstFault_7 : decode cX4_firstFault 7 = .ok (.iload_n 2, 1) := by decide +kernel
theorem dX4_firstFault_8 : decode cX4_firstFault 8 = .ok (.aload_n 0, 1) := by decide +kernel
theorem dX4_firstFault_9 : decode cX4_firstFault 9 = .ok (.getfield 12, 3) := by decide +kernel
theorem dX4_firstFault_12 : decode cX4_firstFault 12 = .ok (.invokevirtual 18, 3) := by decide +kernel
theorem dX4_firstFault_15 : decode cX4_firstFault 15 = .ok (.if_icmp .ge 38, 3) := by decide +kernel
theorem dX4_firstFault_18 : decode cX4_firstFault 18 = .ok (.iload_n 2, 1) := by decide +kernel
theorem dX4_firstFault_19 : decode cX4_firstFault 19 = .ok (.aload_n 1, 1) := by decide +kernel
theorem dX4_firstFault_20 : decode cX4_firstFault 20 = .ok (.invokevirtual 55, 3) := by decide +kernel
theorem dX4_firstFault_23 : decode cX4_firstFault 23 = .ok (.if_icmp .ge 22, 3) := by decide +kernel
theorem dX4_firstFault_26 : decode cX4_firstFault 26 = .ok (.aload_n 0, 1) := by decide +kernel
theorem dX4_firstFault_27 : decode cX4_firstFault 27 = .ok (.getfield 12, 3) := by decide +kernel
theorem dX4_firstFault_30 : decode cX4_firstFault 30 = .ok (.iload_n 2, 1) := by decide +kernel
theorem dX4_firstFault_31 : decode cX4_firstFault 31 = .ok (.invokevirtual 26, 3) := by decide +kernel
theorem dX4_firstFault_34 : decode cX4_firstFault 34 = .ok (.aload_n 1, 1) := by decide +kernel
theorem dX4_firstFault_35 : decode cX4_firstFault 35 = .ok (.iload_n 2, 1) := by decide +kernel
theorem dX4_firstFault_36 : decode cX4_firstFault 36 = .ok (.invokevirtual 59, 3) := by decide +kernel
theorem dX4_firstFault_39 : decode cX4_firstFault 39 = .ok (.invokestatic 60, 3) := by decide +kernel
theorem dX4_firstFault_42 : decode cX4_firstFault 42 = .ok (.ifCond .ne 5, 3) := by decide +kernel
theorem dX4_firstFault_45 : decode cX4_firstFault 45 = .ok (.iload_n 2, 1) := by decide +kernel
theorem dX4_firstFault_46 : decode cX4_firstFault 46 = .ok (.ireturn, 1) := by decide +kernel
theorem dX4_firstFault_47 : decode cX4_firstFault 47 = .ok (.iinc 2 1, 3) := by decide +kernel
theorem dX4_firstFault_50 : decode cX4_firstFault 50 = .ok (.goto (-43), 3) := by decide +kernel
theorem dX4_firstFault_53 : decode cX4_firstFault 53 = .ok (.aload_n 0, 1) := by decide +kernel
theorem dX4_firstFault_54 : decode cX4_firstFault 54 = .ok (.getfield 12, 3) := by decide +kernel
theorem dX4_firstFault_57 : decode cX4_firstFault 57 = .ok (.invokevirtual 18, 3) := by decide +kernel
theorem dX4_firstFault_60 : decode cX4_firstFault 60 = .ok (.ireturn, 1) := by decide +kernel
set_option maxRecDepth 20000 in
theorem ggX4_form_X4_letterAt : GoodIn wsX4_form wsX4_letterAt := goodIn_r _ [5, 6, 7, 8, 9, 10, 11, 12, 13, 14, 15, 16, 17, 18, 19, 20, 21, 22, 23, 24, 25, 26, 27, 28, 29, 30, 31, 32, 33, 34, 35, 36, 37, 38, 39, 40, 41, 42, 43, 44, 45, 46, 47, 48, 49, 50, 51, 52, 53, 54, 55, 56, 57, 58, 59] (by decide +kernel) (by decide +kernel)
set_option maxRecDepth 20000 in
theorem gX4_form_X4_letterAt : GoodIn wsX4_form (wsV RX4 51 RX4 yX4_letterAt wsX4_letterAt) := goodIn_app (goodIn_of _ (by decide +kernel)) ggX4_form_X4_letterAt
theorem dX4_form_0 : decode cX4_form 0 = .ok (.aload_n 0, 1) := by decide +kernel
theorem dX4_form_1 : decode cX4_form 1 = .ok (.iconst 0, 1) := by decide +kernel
theorem dX4_form_2 : decode cX4_form 2 = .ok (.invokevirtual 51, 3) := by decide +kernel
theorem dX4_form_5 : decode cX4_form 5 = .ok (.tableswitch 36 50 52 #[27, 30, 33], 27) := by decide +kernel
theorem dX4_form_32 : decode cX4_form 32 = .ok (.ldc 64, 2) := by decide +kernel
theorem dX4_form_34 : decode cX4_form 34 = .ok (.areturn, 1) := by decide +kernel
theorem dX4_form_35 : decode cX4_form 35 = .ok (.ldc 66, 2) := by decide +kernel
theorem dX4_form_37 : decode cX4_form 37 = .ok (.areturn, 1) := by decide +kernel
theorem dX4_form_38 : decode cX4_form 38 = .ok (.ldc 68, 2) := by decide +kernel
theorem dX4_form_40 : decode cX4_form 40 = .ok (.areturn, 1) := by decide +kernel
theorem dX4_form_41 : decode cX4_form 41 = .ok (.ldc 70, 2) := by decide +kernel
theorem dX4_form_43 : decode cX4_form 43 = .ok (.areturn, 1) := by decide +kernel
set_option maxRecDepth 20000 in
theorem ggX4_suits_J0_indexOf_0f7a4 : GoodIn wsX4_suits wsJ0_indexOf_0f7a4 := goodIn_r _ [5, 6, 7, 8, 4, 9, 10, 11, 12, 13, 14, 15, 16, 17, 18, 19, 20, 21, 22, 23, 24, 25, 26, 27, 28, 29, 30, 31, 32, 33, 34, 35, 36, 37, 38, 39, 40, 41, 42, 43, 44, 45, 46, 47, 48, 49, 50, 51, 52, 53, 54, 55, 56, 57, 58, 59, 60, 61, 62, 63, 64, 65, 66, 67, 68, 69, 70, 71, 72, 73, 74, 75, 76, 77, 78, 79, 80, 81, 82, 83, 84, 85, 86, 87, 88, 89, 96, 97, 98, 99] (by decide +kernel) (by decide +kernel)
set_option maxRecDepth 20000 in
theorem gX4_suits_J0_indexOf_0f7a4 : GoodIn wsX4_suits (wsV RX4 74 RJ0 yJ0_indexOf_0f7a4 wsJ0_indexOf_0f7a4) := goodIn_app (goodIn_of _ (by decide +kernel)) ggX4_suits_J0_indexOf_0f7a4
set_option maxRecDepth 20000 in
theorem ggX4_suits_X10_isDigit : GoodIn wsX4_suits wsX10_isDigit := goodIn_r _ [92, 93, 94, 91, 95] (by decide +kernel) (by decide +kernel)
set_option maxRecDepth 20000 in
theorem gX4_suits_X10_isDigit_n77 : GoodIn wsX4_suits (wsX10_isDigit) := ggX4_suits_X10_isDigit
theorem dX4_suits_0 : decode cX4_suits 0 = .ok (.iload_n 1, 1) := by decide +kernel
theorem dX4_suits_1 : decode cX4_suits 1 = .ok (.bipush 75, 2) := by decide +kernel
theorem dX4_suits_3 : decode cX4_suits 3 = .ok (.if_icmp .ne 18, 3) := by decide +kernel
theorem dX4_suits_6 : decode cX4_suits 6 = .ok (.ldc 72, 2) := by decide +kernel
theorem dX4_suits_8 : decode cX4_suits 8 = .ok (.iload_n 0, 1) := by decide +kernel
theorem dX4_suits_9 : decode cX4_suits 9 = .ok (.invokevirtual 74, 3) := by decide +kernel
theorem dX4_suits_12 : decode cX4_suits 12 = .ok (.ifCond .lt 7, 3) := by decide +kernel
theorem dX4_suits_15 : decode cX4_suits 15 = .ok (.iconst 1, 1) := by decide +kernel
theorem dX4_suits_16 : decode cX4_suits 16 = .ok (.goto 4, 3) := by decide +kernel
theorem dX4_suits_19 : decode cX4_suits 19 = .ok (.iconst 0, 1) := by decide +kernel
theorem dX4_suits_20 : decode cX4_suits 20 = .ok (.ireturn, 1) := by decide +kernel
theorem dX4_suits_21 : decode cX4_suits 21 = .ok (.iload_n 1, 1) := by decide +kernel
theorem dX4_suits_22 : decode cX4_suits 22 = .ok (.bipush 68, 2) := by decide +kernel
theorem dX4_suits_24 : decode cX4_suits 24 = .ok (.if_icmp .ne 11, 3) := by decide +kernel
theorem dX4_suits_27 : decode cX4_suits 27 = .ok (.iload_n 0, 1) := by decide +kernel
theorem dX4_suits_28 : decode cX4_suits 28 = .ok (.bipush 48, 2) := by decide +kernel
theorem dX4_suits_30 : decode cX4_suits 30 = .ok (.isub, 1) := by decide +kernel
theorem dX4_suits_31 : decode cX4_suits 31 = .ok (.invokestatic 77, 3) := by decide +kernel
theorem dX4_suits_34 : decode cX4_suits 34 = .ok (.ireturn, 1) := by decide +kernel
theorem dX4_suits_35 : decode cX4_suits 35 = .ok (.iload_n 0, 1) := by decide +kernel
theorem dX4_suits_36 : decode cX4_suits 36 = .ok (.iload_n 1, 1) := by decide +kernel
theorem dX4_suits_37 : decode cX4_suits 37 = .ok (.if_icmp .ne 7, 3) := by decide +kernel
theorem dX4_suits_40 : decode cX4_suits 40 = .ok (.iconst 1, 1) := by decide +kernel
theorem dX4_suits_41 : decode cX4_suits 41 = .ok (.goto 4, 3) := by decide +kernel
theorem dX4_suits_44 : decode cX4_suits 44 = .ok (.iconst 0, 1) := by decide +kernel
theorem dX4_suits_45 : decode cX4_suits 45 = .ok (.ireturn, 1) := by decide +kernel
set_option maxRecDepth 20000 in
theorem ggX5_init_X8_init : GoodIn wsX5_init wsX8_init := goodIn_r _ [23, 24, 2, 3, 25, 26, 7, 27, 28, 29, 30, 31, 32, 33, 34, 63, 64, 65, 66, 67, 68] (by decide +kernel) (by decide +kernel)
set_option maxRecDepth 20000 in
theorem gX5_init_X8_init : GoodIn wsX5_init (wsX8_init) := ggX5_init_X8_init
set_option maxRecDepth 20000 in
theorem ggX5_init_X6_init : GoodIn wsX5_init wsX6_init := goodIn_r _ [37, 38, 2, 3, 39, 40, 7, 41, 42, 43, 69, 70, 71, 72, 73] (by decide +kernel) (by decide +kernel)
set_option maxRecDepth 20000 in
theorem gX5_init_X6_init : GoodIn wsX5_init (wsX6_init) := ggX5_init_X6_init
set_option maxRecDepth 20000 in
theorem ggX5_init_X5_setLeftBelow : GoodIn wsX5_init wsX5_setLeftBelow := goodIn_r _ [48, 8, 5, 6, 49, 32, 33, 34, 50, 51, 52, 53, 54, 55, 56, 57, 58, 59, 60, 61, 62] (by decide +kernel) (by decide +kernel)
set_option maxRecDepth 20000 in
theorem gX5_init_X5_setLeftBelow : GoodIn wsX5_init (wsV RX5 59 RX5 yX5_setLeftBelow wsX5_setLeftBelow) := goodIn_app (goodIn_of _ (by decide +kernel)) ggX5_init_X5_setLeftBelow
theorem dX5_init_0 : decode cX5_init 0 = .ok (.aload_n 0, 1) := by decide +kernel
theorem dX5_init_1 : decode cX5_init 1 = .ok (.invokespecial 3, 3) := by decide +kernel
theorem dX5_init_4 : decode cX5_init 4 = .ok (.aload_n 0, 1) := by decide +kernel
theorem dX5_init_5 : decode cX5_init 5 = .ok (.aload_n 2, 1) := by decide +kernel
theorem dX5_init_6 : decode cX5_init 6 = .ok (.putfield 9, 3) := by decide +kernel
theorem dX5_init_9 : decode cX5_init 9 = .ok (.aload_n 0, 1) := by decide +kernel
theorem dX5_init_10 : decode cX5_init 10 = .ok (.iload_n 1, 1) := by decide +kernel
theorem dX5_init_11 : decode cX5_init 11 = .ok (.putfield 15, 3) := by decide +kernel
theorem dX5_init_14 : decode cX5_init 14 = .ok (.aload_n 0, 1) := by decide +kernel
theorem dX5_init_15 : decode cX5_init 15 = .ok (.iload_n 1, 1) := by decide +kernel
theorem dX5_init_16 : decode cX5_init 16 = .ok (.iload_n 1, 1) := by decide +kernel
theorem dX5_init_17 : decode cX5_init 17 = .ok (.iconst 1, 1) := by decide +kernel
theorem dX5_init_18 : decode cX5_init 18 = .ok (.iadd, 1) := by decide +kernel
theorem dX5_init_19 : decode cX5_init 19 = .ok (.imul, 1) := by decide +kernel
theorem dX5_init_20 : decode cX5_init 20 = .ok (.iconst 2, 1) := by decide +kernel
theorem dX5_init_21 : decode cX5_init 21 = .ok (.idiv, 1) := by decide +kernel
theorem dX5_init_22 : decode cX5_init 22 = .ok (.putfield 19, 3) := by decide +kernel
theorem dX5_init_25 : decode cX5_init 25 = .ok (.aload_n 0, 1) := by decide +kernel
theorem dX5_init_26 : decode cX5_init 26 = .ok (.aload_n 0, 1) := by decide +kernel
theorem dX5_init_27 : decode cX5_init 27 = .ok (.getfield 19, 3) := by decide +kernel
theorem dX5_init_30 : decode cX5_init 30 = .ok (.newarray .int, 2) := by decide +kernel
theorem dX5_init_32 : decode cX5_init 32 = .ok (.putfield 22, 3) := by decide +kernel
theorem dX5_init_35 : decode cX5_init 35 = .ok (.aload_n 0, 1) := by decide +kernel
theorem dX5_init_36 : decode cX5_init 36 = .ok (.new 26, 3) := by decide +kernel
theorem dX5_init_39 : decode cX5_init 39 = .ok (.dup, 1) := by decide +kernel
theorem dX5_init_40 : decode cX5_init 40 = .ok (.iload_n 1, 1) := by decide +kernel
theorem dX5_init_41 : decode cX5_init 41 = .ok (.aload_n 0, 1) := by decide +kernel
theorem dX5_init_42 : decode cX5_init 42 = .ok (.getfield 19, 3) := by decide +kernel
theorem dX5_init_45 : decode cX5_init 45 = .ok (.invokespecial 28, 3) := by decide +kernel
theorem dX5_init_48 : decode cX5_init 48 = .ok (.putfield 31, 3) := by decide +kernel
theorem dX5_init_51 : decode cX5_init 51 = .ok (.aload_n 0, 1) := by decide +kernel
theorem dX5_init_52 : decode cX5_init 52 = .ok (.new 26, 3) := by decide +kernel
theorem dX5_init_55 : decode cX5_init 55 = .ok (.dup, 1) := by decide +kernel
theorem dX5_init_56 : decode cX5_init 56 = .ok (.iload_n 1, 1) := by decide +kernel
theorem dX5_init_57 : decode cX5_init 57 = .ok (.aload_n 0, 1) := by decide +kernel
theorem dX5_init_58 : decode cX5_init 58 = .ok (.getfield 19, 3) := by decide +kernel
theorem dX5_init_61 : decode cX5_init 61 = .ok (.invokespecial 28, 3) := by decide +kernel
theorem dX5_init_64 : decode cX5_init 64 = .ok (.putfield 35, 3) := by decide +kernel
theorem dX5_init_67 : decode cX5_init 67 = .ok (.aload_n 0, 1) := by decide +kernel
theorem dX5_init_68 : decode cX5_init 68 = .ok (.aload_n 0, 1) := by decide +kernel
theorem dX5_init_69 : decode cX5_init 69 = .ok (.getfield 19, 3) := by decide +kernel
theorem dX5_init_72 : decode cX5_init 72 = .ok (.newarray .int, 2) := by decide +kernel
theorem dX5_init_74 : decode cX5_init 74 = .ok (.putfield 38, 3) := by decide +kernel
theorem dX5_init_77 : decode cX5_init 77 = .ok (.aload_n 0, 1) := by decide +kernel
theorem dX5_init_78 : decode cX5_init 78 = .ok (.aload_n 0, 1) := by decide +kernel
theorem dX5_init_79 : decode cX5_init 79 = .ok (.getfield 19, 3) := by decide +kernel
theorem dX5_init_82 : decode cX5_init 82 = .ok (.newarray .int, 2) := by decide +kernel
theorem dX5_init_84 : decode cX5_init 84 = .ok (.putfield 41, 3) := by decide +kernel
theorem dX5_init_87 : decode cX5_init 87 = .ok (.aload_n 0, 1) := by decide +kernel
theorem dX5_init_88 : decode cX5_init 88 = .ok (.iload_n 1, 1) := by decide +kernel
theorem dX5_init_89 : decode cX5_init 89 = .ok (.bipush 10, 2) := by decide +kernel
theorem dX5_init_91 : decode cX5_init 91 = .ok (.imul, 1) := by decide +kernel
theorem dX5_init_92 : decode cX5_init 92 = .ok (.newarray .int, 2) := by decide +kernel
theorem dX5_init_94 : decode cX5_init 94 = .ok (.putfield 44, 3) := by decide +kernel
theorem dX5_init_97 : decode cX5_init 97 = .ok (.aload_n 0, 1) := by decide +kernel
theorem dX5_init_98 : decode cX5_init 98 = .ok (.new 47, 3) := by decide +kernel
theorem dX5_init_101 : decode cX5_init 101 = .ok (.dup, 1) := by decide +kernel
theorem dX5_init_102 : decode cX5_init 102 = .ok (.iload_n 1, 1) := by decide +kernel
theorem dX5_init_103 : decode cX5_init 103 = .ok (.aload_n 0, 1) := by decide +kernel
theorem dX5_init_104 : decode cX5_init 104 = .ok (.getfield 31, 3) := by decide +kernel
theorem dX5_init_107 : decode cX5_init 107 = .ok (.getfield 49, 3) := by decide +kernel
theorem dX5_init_110 : decode cX5_init 110 = .ok (.invokespecial 52, 3) := by decide +kernel
theorem dX5_init_113 : decode cX5_init 113 = .ok (.putfield 55, 3) := by decide +kernel
theorem dX5_init_116 : decode cX5_init 116 = .ok (.aload_n 0, 1) := by decide +kernel
theorem dX5_init_117 : decode cX5_init 117 = .ok (.invokevirtual 59, 3) := by decide +kernel
theorem dX5_init_120 : decode cX5_init 120 = .ok (.return_, 1) := by decide +kernel
set_option maxRecDepth 20000 in
theorem ggX5_setLeftBelow_J7_fill_53178 : GoodIn wsX5_setLeftBelow wsJ7_fill_53178 := goodIn_r _ [7] (by decide +kernel) (by decide +kernel)
set_option maxRecDepth 20000 in
theorem gX5_setLeftBelow_J7_fill_53178 : GoodIn wsX5_setLeftBelow (va_wsS RX5 62 yJ7_fill_53178 wsJ7_fill_53178) := goodIn_app (goodIn_of _ (by decide +kernel)) ggX5_setLeftBelow_J7_fill_53178
theorem dX5_setLeftBelow_0 : decode cX5_setLeftBelow 0 = .ok (.aload_n 0, 1) := by decide +kernel
theorem dX5_setLeftBelow_1 : decode cX5_setLeftBelow 1 = .ok (.getfield 22, 3) := by decide +kernel
theorem dX5_setLeftBelow_4 : decode cX5_setLeftBelow 4 = .ok (.iconst (-1), 1) := by decide +kernel
theorem dX5_setLeftBelow_5 : decode cX5_setLeftBelow 5 = .ok (.invokestatic 62, 3) := by decide +kernel
theorem dX5_setLeftBelow_8 : decode cX5_setLeftBelow 8 = .ok (.aload_n 0, 1) := by decide +kernel
theorem dX5_setLeftBelow_9 : decode cX5_setLeftBelow 9 = .ok (.getfield 15, 3) := by decide +kernel
theorem dX5_setLeftBelow_12 : decode cX5_setLeftBelow 12 = .ok (.istore_n 1, 1) := by decide +kernel
theorem dX5_setLeftBelow_13 : decode cX5_setLeftBelow 13 = .ok (.aload_n 0, 1) := by decide +kernel
theorem dX5_setLeftBelow_14 : decode cX5_setLeftBelow 14 = .ok (.getfield 15, 3) := by decide +kernel
theorem dX5_setLeftBelow_17 : decode cX5_setLeftBelow 17 = .ok (.iconst 1, 1) := by decide +kernel
theorem dX5_setLeftBelow_18 : decode cX5_setLeftBelow 18 = .ok (.isub, 1) := by decide +kernel
theorem dX5_setLeftBelow_19 : decode cX5_setLeftBelow 19 = .ok (.istore_n 2, 1) := by decide +kernel
theorem dX5_setLeftBelow_20 : decode cX5_setLeftBelow 20 = .ok (.iload_n 2, 1) := by decide +kernel
theorem dX5_setLeftBelow_21 : decode cX5_setLeftBelow 21 = .ok (.ifCond .le 44, 3) := by decide +kernel
theorem dX5_setLeftBelow_24 : decode cX5_setLeftBelow 24 = .ok (.iconst 0, 1) := by decide +kernel
theorem dX5_setLeftBelow_25 : decode cX5_setLeftBelow 25 = .ok (.istore_n 3, 1) := by decide +kernel
theorem dX5_setLeftBelow_26 : decode cX5_setLeftBelow 26 = .ok (.iload_n 3, 1) := by decide +kernel
theorem dX5_setLeftBelow_27 : decode cX5_setLeftBelow 27 = .ok (.iload_n 2, 1) := by decide +kernel
theorem dX5_setLeftBelow_28 : decode cX5_setLeftBelow 28 = .ok (.if_icmp .ge 31, 3) := by decide +kernel
theorem dX5_setLeftBelow_31 : decode cX5_setLeftBelow 31 = .ok (.iload_n 1, 1) := by decide +kernel
theorem dX5_setLeftBelow_32 : decode cX5_setLeftBelow 32 = .ok (.aload_n 0, 1) := by decide +kernel
theorem dX5_setLeftBelow_33 : decode cX5_setLeftBelow 33 = .ok (.getfield 19, 3) := by decide +kernel
theorem dX5_setLeftBelow_36 : decode cX5_setLeftBelow 36 = .ok (.if_icmp .ge 23, 3) := by decide +kernel
theorem dX5_setLeftBelow_39 : decode cX5_setLeftBelow 39 = .ok (.aload_n 0, 1) := by decide +kernel
theorem dX5_setLeftBelow_40 : decode cX5_setLeftBelow 40 = .ok (.getfield 22, 3) := by decide +kernel
theorem dX5_setLeftBelow_43 : decode cX5_setLeftBelow 43 = .ok (.iload_n 1, 1) := by decide +kernel
theorem dX5_setLeftBelow_44 : decode cX5_setLeftBelow 44 = .ok (.iload_n 1, 1) := by decide +kernel
theorem dX5_setLeftBelow_45 : decode cX5_setLeftBelow 45 = .ok (.iload_n 2, 1) := by decide +kernel
theorem dX5_setLeftBelow_46 : decode cX5_setLeftBelow 46 = .ok (.isub, 1) := by decide +kernel
theorem dX5_setLeftBelow_47 : decode cX5_setLeftBelow 47 = .ok (.iconst 1, 1) := by decide +kernel
theorem dX5_setLeftBelow_48 : decode cX5_setLeftBelow 48 = .ok (.isub, 1) := by decide +kernel
theorem dX5_setLeftBelow_49 : decode cX5_setLeftBelow 49 = .ok (.iastore, 1) := by decide +kernel
theorem dX5_setLeftBelow_50 : decode cX5_setLeftBelow 50 = .ok (.iinc 1 1, 3) := by decide +kernel
theorem dX5_setLeftBelow_53 : decode cX5_setLeftBelow 53 = .ok (.iinc 3 1, 3) := by decide +kernel
theorem dX5_setLeftBelow_56 : decode cX5_setLeftBelow 56 = .ok (.goto (-30), 3) := by decide +kernel
theorem dX5_setLeftBelow_59 : decode cX5_setLeftBelow 59 = .ok (.iinc 2 (-1), 3) := by decide +kernel
theorem dX5_setLeftBelow_62 : decode cX5_setLeftBelow 62 = .ok (.goto (-42), 3) := by decide +kernel
theorem dX5_setLeftBelow_65 : decode cX5_setLeftBelow 65 = .ok (.return_, 1) := by decide +kernel
set_option maxRecDepth 20000 in
theorem ggX5_read_J0_length_8abf5 : GoodIn wsX5_read wsJ0_length_8abf5 := goodIn_r _ [8, 9, 10, 11, 12, 7, 13, 14, 15, 186, 187, 188, 189] (by decide +kernel) (by decide +kernel)
set_option maxRecDepth 20000 in
theorem gX5_read_J0_length_8abf5 : GoodIn wsX5_read (wsV RX5 68 RJ0 yJ0_length_8abf5 wsJ0_length_8abf5) := goodIn_app (goodIn_of _ (by decide +kernel)) ggX5_read_J0_length_8abf5
set_option maxRecDepth 20000 in
theorem ggX5_read_J0_charAt_5068e : GoodIn wsX5_read wsJ0_charAt_5068e := goodIn_r _ [19, 9, 20, 21, 22, 7, 23, 14, 15, 24, 25, 26, 27, 28, 29, 30, 31, 32, 33, 34, 35, 36, 37, 38, 39, 40, 41, 42, 43, 44, 45, 46, 47, 48, 49, 50, 51, 52, 186, 187, 188, 189] (by decide +kernel) (by decide +kernel)
set_option maxRecDepth 20000 in
theorem gX5_read_J0_charAt_5068e : GoodIn wsX5_read (wsV RX5 76 RJ0 yJ0_charAt_5068e wsJ0_charAt_5068e) := goodIn_app (goodIn_of _ (by decide +kernel)) ggX5_read_J0_charAt_5068e
set_option maxRecDepth 20000 in
theorem ggX5_read_J0_indexOf_0f7a4 : GoodIn wsX5_read wsJ0_indexOf_0f7a4 := goodIn_r _ [56, 57, 58, 59, 7, 60, 9, 20, 21, 22, 23, 14, 15, 61, 5, 6, 8, 10, 11, 12, 13, 62, 63, 26, 64, 65, 66, 67, 68, 69, 70, 71, 72, 73, 74, 75, 76, 77, 78, 79, 38, 80, 81, 82, 83, 84, 85, 86, 87, 88, 89, 43, 44, 45, 90, 91, 92, 31, 93, 94, 34, 95, 96, 97, 98, 47, 48, 49, 50, 51, 52, 99, 100, 101, 102, 103, 104, 105, 106, 107, 108, 109, 110, 111, 112, 113, 186, 187, 188, 189] (by decide +kernel) (by decide +kernel)
set_option maxRecDepth 20000 in
theorem gX5_read_J0_indexOf_0f7a4 : GoodIn wsX5_read (wsV RX5 80 RJ0 yJ0_indexOf_0f7a4 wsJ0_indexOf_0f7a4) := goodIn_app (goodIn_of _ (by decide +kernel)) ggX5_read_J0_indexOf_0f7a4
set_option maxRecDepth 20000 in
theorem ggX5_read_X10_isDigit : GoodIn wsX5_read wsX10_isDigit := goodIn_r _ [116, 117, 118, 115, 119] (by decide +kernel) (by decide +kernel)
set_option maxRecDepth 20000 in
theorem gX5_read_X10_isDigit_n84 : GoodIn wsX5_read (wsX10_isDigit) := ggX5_read_X10_isDigit
set_option maxRecDepth 20000 in
theorem ggX5_read_X5_build : GoodIn wsX5_read wsX5_build := goodIn_r _ [124, 2, 125, 3, 126, 127, 128, 129, 130, 131, 132, 123, 133, 134, 135, 136, 137, 138, 139, 140, 141, 142, 143, 144, 145, 146, 147, 148, 149, 67, 150, 151, 152, 153, 154, 155, 156, 157, 158, 159, 160, 161, 162, 163, 164, 165, 66, 68, 166, 167, 168, 169, 170, 171, 172, 173, 174, 175, 176, 177, 178, 179, 180, 181, 182, 183, 184, 185] (by decide +kernel) (by decide +kernel)
set_option maxRecDepth 20000 in
theorem gX5_read_X5_build : GoodIn wsX5_read (wsV RX5 91 RX5 yX5_build wsX5_build) := goodIn_app (goodIn_of _ (by decide +kernel)) ggX5_read_X5_build
theorem dX5_read_0 : decode cX5_read 0 = .ok (.iconst 0, 1) := by decide +kernel
theorem dX5_read_1 : decode cX5_read 1 = .ok (.istore_n 2, 1) := by decide +kernel
theorem dX5_read_2 : decode cX5_read 2 = .ok (.iconst 0, 1) := by decide +kernel
theorem dX5_read_3 : decode cX5_read 3 = .ok (.istore_n 3, 1) := by decide +kernel
theorem dX5_read_4 : decode cX5_read 4 = .ok (.iconst 1, 1) := by decide +kernel
theorem dX5_read_5 : decode cX5_read 5 = .ok (.istore 4, 2) := by decide +kernel
theorem dX5_read_7 : decode cX5_read 7 = .ok (.iload 4, 2) := by decide +kernel
theorem dX5_read_9 : decode cX5_read 9 = .ok (.aload_n 1, 1) := by decide +kernel
theorem dX5_read_10 : decode cX5_read 10 = .ok (.invokevirtual 68, 3) := by decide +kernel
theorem dX5_read_13 : decode cX5_read 13 = .ok (.if_icmp .ge 112, 3) := by decide +kernel
theorem dX5_read_16 : decode cX5_read 16 = .ok (.ldc 74, 2) := by decide +kernel
theorem dX5_read_18 : decode cX5_read 18 = .ok (.aload_n 1, 1) := by decide +kernel
theorem dX5_read_19 : decode cX5_read 19 = .ok (.iload 4, 2) := by decide +kernel
theorem dX5_read_21 : decode cX5_read 21 = .ok (.invokevirtual 76, 3) := by decide +kernel
theorem dX5_read_24 : decode cX5_read 24 = .ok (.invokevirtual 80, 3) := by decide +kernel
theorem dX5_read_27 : decode cX5_read 27 = .ok (.istore 5, 2) := by decide +kernel
theorem dX5_read_29 : decode cX5_read 29 = .ok (.aload_n 1, 1) := by decide +kernel
theorem dX5_read_30 : decode cX5_read 30 = .ok (.iload 4, 2) := by decide +kernel
theorem dX5_read_32 : decode cX5_read 32 = .ok (.invokevirtual 76, 3) := by decide +kernel
theorem dX5_read_35 : decode cX5_read 35 = .ok (.bipush 48, 2) := by decide +kernel
theorem dX5_read_37 : decode cX5_read 37 = .ok (.isub, 1) := by decide +kernel
theorem dX5_read_38 : decode cX5_read 38 = .ok (.istore 6, 2) := by decide +kernel
theorem dX5_read_40 : decode cX5_read 40 = .ok (.iload 5, 2) := by decide +kernel
theorem dX5_read_42 : decode cX5_read 42 = .ok (.ifCond .lt 47, 3) := by decide +kernel
theorem dX5_read_45 : decode cX5_read 45 = .ok (.iload 5, 2) := by decide +kernel
theorem dX5_read_47 : decode cX5_read 47 = .ok (.aload_n 0, 1) := by decide +kernel
theorem dX5_read_48 : decode cX5_read 48 = .ok (.getfield 9, 3) := by decide +kernel
theorem dX5_read_51 : decode cX5_read 51 = .ok (.arraylength, 1) := by decide +kernel
theorem dX5_read_52 : decode cX5_read 52 = .ok (.if_icmp .ge 37, 3) := by decide +kernel
theorem dX5_read_55 : decode cX5_read 55 = .ok (.iload_n 2, 1) := by decide +kernel
theorem dX5_read_56 : decode cX5_read 56 = .ok (.aload_n 0, 1) := by decide +kernel
theorem dX5_read_57 : decode cX5_read 57 = .ok (.getfield 31, 3) := by decide +kernel
theorem dX5_read_60 : decode cX5_read 60 = .ok (.getfield 49, 3) := by decide +kernel
theorem dX5_read_63 : decode cX5_read 63 = .ok (.arraylength, 1) := by decide +kernel
theorem dX5_read_64 : decode cX5_read 64 = .ok (.if_icmp .ge 25, 3) := by decide +kernel
theorem dX5_read_67 : decode cX5_read 67 = .ok (.aload_n 0, 1) := by decide +kernel
theorem dX5_read_68 : decode cX5_read 68 = .ok (.getfield 31, 3) := by decide +kernel
theorem dX5_read_71 : decode cX5_read 71 = .ok (.getfield 49, 3) := by decide +kernel
theorem dX5_read_74 : decode cX5_read 74 = .ok (.iload_n 2, 1) := by decide +kernel
theorem dX5_read_75 : decode cX5_read 75 = .ok (.aload_n 0, 1) := by decide +kernel
theorem dX5_read_76 : decode cX5_read 76 = .ok (.getfield 9, 3) := by decide +kernel
theorem dX5_read_79 : decode cX5_read 79 = .ok (.iload 5, 2) := by decide +kernel
theorem dX5_read_81 : decode cX5_read 81 = .ok (.aaload, 1) := by decide +kernel
theorem dX5_read_82 : decode cX5_read 82 = .ok (.aastore, 1) := by decide +kernel
theorem dX5_read_83 : decode cX5_read 83 = .ok (.iinc 2 1, 3) := by decide +kernel
theorem dX5_read_86 : decode cX5_read 86 = .ok (.goto 33, 3) := by decide +kernel
theorem dX5_read_89 : decode cX5_read 89 = .ok (.iload 6, 2) := by decide +kernel
theorem dX5_read_91 : decode cX5_read 91 = .ok (.invokestatic 84, 3) := by decide +kernel
theorem dX5_read_94 : decode cX5_read 94 = .ok (.ifCond .eq 25, 3) := by decide +kernel
theorem dX5_read_97 : decode cX5_read 97 = .ok (.iload_n 3, 1) := by decide +kernel
theorem dX5_read_98 : decode cX5_read 98 = .ok (.aload_n 0, 1) := by decide +kernel
theorem dX5_read_99 : decode cX5_read 99 = .ok (.getfield 15, 3) := by decide +kernel
theorem dX5_read_102 : decode cX5_read 102 = .ok (.if_icmp .ge 17, 3) := by decide +kernel
theorem dX5_read_105 : decode cX5_read 105 = .ok (.aload_n 0, 1) := by decide +kernel
theorem dX5_read_106 : decode cX5_read 106 = .ok (.getfield 31, 3) := by decide +kernel
theorem dX5_read_109 : decode cX5_read 109 = .ok (.getfield 88, 3) := by decide +kernel
theorem dX5_read_112 : decode cX5_read 112 = .ok (.iload_n 3, 1) := by decide +kernel
theorem dX5_read_113 : decode cX5_read 113 = .ok (.iload 6, 2) := by decide +kernel
theorem dX5_read_115 : decode cX5_read 115 = .ok (.iastore, 1) := by decide +kernel
theorem dX5_read_116 : decode cX5_read 116 = .ok (.iinc 3 1, 3) := by decide +kernel
theorem dX5_read_119 : decode cX5_read 119 = .ok (.iinc 4 1, 3) := by decide +kernel
theorem dX5_read_122 : decode cX5_read 122 = .ok (.goto (-115), 3) := by decide +kernel
theorem dX5_read_125 : decode cX5_read 125 = .ok (.aload_n 0, 1) := by decide +kernel
theorem dX5_read_126 : decode cX5_read 126 = .ok (.invokevirtual 91, 3) := by decide +kernel
theorem dX5_read_129 : decode cX5_read 129 = .ok (.return_, 1) := by decide +kernel
set_option maxRecDepth 20000 in
theorem ggX5_build_X5_raise : GoodIn wsX5_build wsX5_raise := goodIn_r _ [12, 3, 13, 14, 1, 15, 16, 17, 18, 19, 20, 21, 22, 23, 24, 25, 26, 27, 28, 29, 30, 31, 32, 33, 34, 35, 36, 37, 38, 39, 40, 41, 42, 43, 44, 45, 46, 47, 48, 49, 50, 51, 52, 53, 54, 55, 56, 57, 58, 59, 60, 61, 62, 63, 64, 65, 66, 67] (by decide +kernel) (by decide +kernel)
set_option maxRecDepth 20000 in
theorem gX5_build_X5_raise : GoodIn wsX5_build (wsV RX5 100 RX5 yX5_raise wsX5_raise) := goodIn_app (goodIn_of _ (by decide +kernel)) ggX5_build_X5_raise
theorem dX5_build_0 : decode cX5_build 0 = .ok (.aload_n 0, 1) := by decide +kernel
theorem dX5_build_1 : decode cX5_build 1 = .ok (.getfield 31, 3) := by decide +kernel
theorem dX5_build_4 : decode cX5_build 4 = .ok (.getfield 88, 3) := by decide +kernel
theorem dX5_build_7 : decode cX5_build 7 = .ok (.iconst 0, 1) := by decide +kernel
theorem dX5_build_8 : decode cX5_build 8 = .ok (.aload_n 0, 1) := by decide +kernel
theorem dX5_build_9 : decode cX5_build 9 = .ok (.getfield 38, 3) := by decide +kernel
theorem dX5_build_12 : decode cX5_build 12 = .ok (.iconst 0, 1) := by decide +kernel
theorem dX5_build_13 : decode cX5_build 13 = .ok (.aload_n 0, 1) := by decide +kernel
theorem dX5_build_14 : decode cX5_build 14 = .ok (.getfield 15, 3) := by decide +kernel
theorem dX5_build_17 : decode cX5_build 17 = .ok (.invokestatic 94, 3) := by decide +kernel
theorem dX5_build_20 : decode cX5_build 20 = .ok (.aload_n 0, 1) := by decide +kernel
theorem dX5_build_21 : decode cX5_build 21 = .ok (.aload_n 0, 1) := by decide +kernel
theorem dX5_build_22 : decode cX5_build 22 = .ok (.getfield 38, 3) := by decide +kernel
theorem dX5_build_25 : decode cX5_build 25 = .ok (.invokevirtual 100, 3) := by decide +kernel
theorem dX5_build_28 : decode cX5_build 28 = .ok (.return_, 1) := by decide +kernel
set_option maxRecDepth 20000 in
theorem ggX5_raise_X0_made : GoodIn wsX5_raise wsX0_made := goodIn_r _ [9] (by decide +kernel) (by decide +kernel)
set_option maxRecDepth 20000 in
theorem gX5_raise_X0_made : GoodIn wsX5_raise (wsV RX5 104 RX0 yX0_made wsX0_made) := goodIn_app (goodIn_of _ (by decide +kernel)) ggX5_raise_X0_made
set_option maxRecDepth 20000 in
theorem ggX5_raise_X1_made : GoodIn wsX5_raise wsX1_made := goodIn_r _ [16, 17, 18, 19, 20] (by decide +kernel) (by decide +kernel)
set_option maxRecDepth 20000 in
theorem gX5_raise_X1_made_u104X1 : GoodIn wsX5_raise (va_wsO RX5 104 RX1 "NumberPile$Brick" ⟨"NumberPile$Brick", "made", "(II)I"⟩ yX1_made wsX1_made) := goodIn_app (goodIn_of _ (by decide +kernel)) ggX5_raise_X1_made
set_option maxRecDepth 20000 in
theorem ggX5_raise_X2_made : GoodIn wsX5_raise wsX2_made := goodIn_r _ [24, 25, 26, 27, 28, 29, 30] (by decide +kernel) (by decide +kernel)
set_option maxRecDepth 20000 in
theorem gX5_raise_X2_made_u104X2 : GoodIn wsX5_raise (va_wsO RX5 104 RX2 "NumberPile$Brick" ⟨"NumberPile$Brick", "made", "(II)I"⟩ yX2_made wsX2_made) := goodIn_app (goodIn_of _ (by decide +kernel)) ggX5_raise_X2_made
set_option maxRecDepth 20000 in
theorem ggX5_raise_X3_made : GoodIn wsX5_raise wsX3_made := goodIn_r _ [34, 35, 36, 19, 37] (by decide +kernel) (by decide +kernel)
set_option maxRecDepth 20000 in
theorem gX5_raise_X3_made_u104X3 : GoodIn wsX5_raise (va_wsO RX5 104 RX3 "NumberPile$Brick" ⟨"NumberPile$Brick", "made", "(II)I"⟩ yX3_made wsX3_made) := goodIn_app (goodIn_of _ (by decide +kernel)) ggX5_raise_X3_made
set_option maxRecDepth 20000 in
theorem ggX5_raise_X9_made : GoodIn wsX5_raise wsX9_made := goodIn_r _ [30] (by decide +kernel) (by decide +kernel)
set_option maxRecDepth 20000 in
theorem gX5_raise_X9_made_u104X9 : GoodIn wsX5_raise (va_wsO RX5 104 RX9 "NumberPile$Brick" ⟨"NumberPile$Brick", "made", "(II)I"⟩ yX9_made wsX9_made) := goodIn_app (goodIn_of _ (by decide +kernel)) ggX5_raise_X9_made
theorem dX5_raise_0 : decode cX5_raise 0 = .ok (.aload_n 0, 1) := by decide +kernel
theorem dX5_raise_1 : decode cX5_raise 1 = .ok (.getfield 15, 3) := by decide +kernel
theorem dX5_raise_4 : decode cX5_raise 4 = .ok (.istore_n 2, 1) := by decide +kernel
theorem dX5_raise_5 : decode cX5_raise 5 = .ok (.iload_n 2, 1) := by decide +kernel
theorem dX5_raise_6 : decode cX5_raise 6 = .ok (.aload_n 0, 1) := by decide +kernel
theorem dX5_raise_7 : decode cX5_raise 7 = .ok (.getfield 19, 3) := by decide +kernel
theorem dX5_raise_10 : decode cX5_raise 10 = .ok (.if_icmp .ge 44, 3) := by decide +kernel
theorem dX5_raise_13 : decode cX5_raise 13 = .ok (.aload_n 0, 1) := by decide +kernel
theorem dX5_raise_14 : decode cX5_raise 14 = .ok (.getfield 22, 3) := by decide +kernel
theorem dX5_raise_17 : decode cX5_raise 17 = .ok (.iload_n 2, 1) := by decide +kernel
theorem dX5_raise_18 : decode cX5_raise 18 = .ok (.iaload, 1) := by decide +kernel
theorem dX5_raise_19 : decode cX5_raise 19 = .ok (.istore_n 3, 1) := by decide +kernel
theorem dX5_raise_20 : decode cX5_raise 20 = .ok (.aload_n 1, 1) := by decide +kernel
theorem dX5_raise_21 : decode cX5_raise 21 = .ok (.iload_n 2, 1) := by decide +kernel
theorem dX5_raise_22 : decode cX5_raise 22 = .ok (.aload_n 0, 1) := by decide +kernel
theorem dX5_raise_23 : decode cX5_raise 23 = .ok (.getfield 31, 3) := by decide +kernel
theorem dX5_raise_26 : decode cX5_raise 26 = .ok (.getfield 49, 3) := by decide +kernel
theorem dX5_raise_29 : decode cX5_raise 29 = .ok (.iload_n 2, 1) := by decide +kernel
theorem dX5_raise_30 : decode cX5_raise 30 = .ok (.aload_n 0, 1) := by decide +kernel
theorem dX5_raise_31 : decode cX5_raise 31 = .ok (.getfield 15, 3) := by decide +kernel
theorem dX5_raise_34 : decode cX5_raise 34 = .ok (.isub, 1) := by decide +kernel
theorem dX5_raise_35 : decode cX5_raise 35 = .ok (.aaload, 1) := by decide +kernel
theorem dX5_raise_36 : decode cX5_raise 36 = .ok (.aload_n 1, 1) := by decide +kernel
theorem dX5_raise_37 : decode cX5_raise 37 = .ok (.iload_n 3, 1) := by decide +kernel
theorem dX5_raise_38 : decode cX5_raise 38 = .ok (.iaload, 1) := by decide +kernel
theorem dX5_raise_39 : decode cX5_raise 39 = .ok (.aload_n 1, 1) := by decide +kernel
theorem dX5_raise_40 : decode cX5_raise 40 = .ok (.iload_n 3, 1) := by decide +kernel
theorem dX5_raise_41 : decode cX5_raise 41 = .ok (.iconst 1, 1) := by decide +kernel
theorem dX5_raise_42 : decode cX5_raise 42 = .ok (.iadd, 1) := by decide +kernel
theorem dX5_raise_43 : decode cX5_raise 43 = .ok (.iaload, 1) := by decide +kernel
theorem dX5_raise_44 : decode cX5_raise 44 = .ok (.invokevirtual 104, 3) := by decide +kernel
theorem dX5_raise_47 : decode cX5_raise 47 = .ok (.iastore, 1) := by decide +kernel
theorem dX5_raise_48 : decode cX5_raise 48 = .ok (.iinc 2 1, 3) := by decide +kernel
theorem dX5_raise_51 : decode cX5_raise 51 = .ok (.goto (-46), 3) := by decide +kernel
theorem dX5_raise_54 : decode cX5_raise 54 = .ok (.return_, 1) := by decide +kernel
theorem dX5_kindOf_0 : decode cX5_kindOf 0 = .ok (.aload_n 0, 1) := by decide +kernel
theorem dX5_kindOf_1 : decode cX5_kindOf 1 = .ok (.getfield 31, 3) := by decide +kernel
theorem dX5_kindOf_4 : decode cX5_kindOf 4 = .ok (.getfield 49, 3) := by decide +kernel
theorem dX5_kindOf_7 : decode cX5_kindOf 7 = .ok (.iload_n 1, 1) := by decide +kernel
theorem dX5_kindOf_8 : decode cX5_kindOf 8 = .ok (.aload_n 0, 1) := by decide +kernel
theorem dX5_kindOf_9 : decode cX5_kindOf 9 = .ok (.getfield 15, 3) := by decide +kernel
theorem dX5_kindOf_12 : decode cX5_kindOf 12 = .ok (.isub, 1) := by decide +kernel
theorem dX5_kindOf_13 : decode cX5_kindOf 13 = .ok (.aaload, 1) := by decide +kernel
theorem dX5_kindOf_14 : decode cX5_kindOf 14 = .ok (.areturn, 1) := by decide +kernel
theorem dX5_top_0 : decode cX5_top 0 = .ok (.aload_n 0, 1) := by decide +kernel
theorem dX5_top_1 : decode cX5_top 1 = .ok (.getfield 19, 3) := by decide +kernel
theorem dX5_top_4 : decode cX5_top 4 = .ok (.ifCond .le 17, 3) := by decide +kernel
theorem dX5_top_7 : decode cX5_top 7 = .ok (.aload_n 0, 1) := by decide +kernel
theorem dX5_top_8 : decode cX5_top 8 = .ok (.getfield 38, 3) := by decide +kernel
theorem dX5_top_11 : decode cX5_top 11 = .ok (.aload_n 0, 1) := by decide +kernel
theorem dX5_top_12 : decode cX5_top 12 = .ok (.getfield 19, 3) := by decide +kernel
theorem dX5_top_15 : decode cX5_top 15 = .ok (.iconst 1, 1) := by decide +kernel
theorem dX5_top_16 : decode cX5_top 16 = .ok (.isub, 1) := by decide +kernel
theorem dX5_top_17 : decode cX5_top 17 = .ok (.iaload, 1) := by decide +kernel
theorem dX5_top_18 : decode cX5_top 18 = .ok (.goto 4, 3) := by decide +kernel
theorem dX5_top_21 : decode cX5_top 21 = .ok (.iconst (-1), 1) := by decide +kernel
theorem dX5_top_22 : decode cX5_top 22 = .ok (.ireturn, 1) := by decide +kernel
theorem dX5_guessedTop_0 : decode cX5_guessedTop 0 = .ok (.aload_n 0, 1) := by decide +kernel
theorem dX5_guessedTop_1 : decode cX5_guessedTop 1 = .ok (.getfield 19, 3) := by decide +kernel
theorem dX5_guessedTop_4 : decode cX5_guessedTop 4 = .ok (.ifCond .le 17, 3) := by decide +kernel
theorem dX5_guessedTop_7 : decode cX5_guessedTop 7 = .ok (.aload_n 0, 1) := by decide +kernel
theorem dX5_guessedTop_8 : decode cX5_guessedTop 8 = .ok (.getfield 41, 3) := by decide +kernel
theorem dX5_guessedTop_11 : decode cX5_guessedTop 11 = .ok (.aload_n 0, 1) := by decide +kernel
theorem dX5_guessedTop_12 : decode cX5_guessedTop 12 = .ok (.getfield 19, 3) := by decide +kernel
theorem dX5_guessedTop_15 : decode cX5_guessedTop 15 = .ok (.iconst 1, 1) := by decide +kernel
theorem dX5_guessedTop_16 : decode cX5_guessedTop 16 = .ok (.isub, 1) := by decide +kernel
theorem dX5_guessedTop_17 : decode cX5_guessedTop 17 = .ok (.iaload, 1) := by decide +kernel
theorem dX5_guessedTop_18 : decode cX5_guessedTop 18 = .ok (.goto 4, 3) := by decide +kernel
theorem dX5_guessedTop_21 : decode cX5_guessedTop 21 = .ok (.iconst (-1), 1) := by decide +kernel
theorem dX5_guessedTop_22 : decode cX5_guessedTop 22 = .ok (.ireturn, 1) := by decide +kernel
theorem dX5_sum_0 : decode cX5_sum 0 = .ok (.iconst 0, 1) := by decide +kernel
theorem dX5_sum_1 : decode cX5_sum 1 = .ok (.istore_n 1, 1) := by decide +kernel
theorem dX5_sum_2 : decode cX5_sum 2 = .ok (.aload_n 0, 1) := by decide +kernel
theorem dX5_sum_3 : decode cX5_sum 3 = .ok (.getfield 38, 3) := by decide +kernel
theorem dX5_sum_6 : decode cX5_sum 6 = .ok (.astore_n 2, 1) := by decide +kernel
theorem dX5_sum_7 : decode cX5_sum 7 = .ok (.aload_n 2, 1) := by decide +kernel
theorem dX5_sum_8 : decode cX5_sum 8 = .ok (.arraylength, 1) := by decide +kernel
theorem dX5_sum_9 : decode cX5_sum 9 = .ok (.istore_n 3, 1) := by decide +kernel
theorem dX5_sum_10 : decode cX5_sum 10 = .ok (.iconst 0, 1) := by decide +kernel
theorem dX5_sum_11 : decode cX5_sum 11 = .ok (.istore 4, 2) := by decide +kernel
theorem dX5_sum_13 : decode cX5_sum 13 = .ok (.iload 4, 2) := by decide +kernel
theorem dX5_sum_15 : decode cX5_sum 15 = .ok (.iload_n 3, 1) := by decide +kernel
theorem dX5_sum_16 : decode cX5_sum 16 = .ok (.if_icmp .ge 20, 3) := by decide +kernel
theorem dX5_sum_19 : decode cX5_sum 19 = .ok (.aload_n 2, 1) := by decide +kernel
theorem dX5_sum_20 : decode cX5_sum 20 = .ok (.iload 4, 2) := by decide +kernel
theorem dX5_sum_22 : decode cX5_sum 22 = .ok (.iaload, 1) := by decide +kernel
theorem dX5_sum_23 : decode cX5_sum 23 = .ok (.istore 5, 2) := by decide +kernel
theorem dX5_sum_25 : decode cX5_sum 25 = .ok (.iload_n 1, 1) := by decide +kernel
theorem dX5_sum_26 : decode cX5_sum 26 = .ok (.iload 5, 2) := by decide +kernel
theorem dX5_sum_28 : decode cX5_sum 28 = .ok (.iadd, 1) := by decide +kernel
theorem dX5_sum_29 : decode cX5_sum 29 = .ok (.istore_n 1, 1) := by decide +kernel
theorem dX5_sum_30 : decode cX5_sum 30 = .ok (.iinc 4 1, 3) := by decide +kernel
theorem dX5_sum_33 : decode cX5_sum 33 = .ok (.goto (-20), 3) := by decide +kernel
theorem dX5_sum_36 : decode cX5_sum 36 = .ok (.iload_n 1, 1) := by decide +kernel
theorem dX5_sum_37 : decode cX5_sum 37 = .ok (.ireturn, 1) := by decide +kernel
theorem dX5_countTold_0 : decode cX5_countTold 0 = .ok (.iconst 0, 1) := by decide +kernel
theorem dX5_countTold_1 : decode cX5_countTold 1 = .ok (.istore_n 1, 1) := by decide +kernel
theorem dX5_countTold_2 : decode cX5_countTold 2 = .ok (.aload_n 0, 1) := by decide +kernel
theorem dX5_countTold_3 : decode cX5_countTold 3 = .ok (.getfield 31, 3) := by decide +kernel
theorem dX5_countTold_6 : decode cX5_countTold 6 = .ok (.getfield 110, 3) := by decide +kernel
theorem dX5_countTold_9 : decode cX5_countTold 9 = .ok (.astore_n 2, 1) := by decide +kernel
theorem dX5_countTold_10 : decode cX5_countTold 10 = .ok (.aload_n 2, 1) := by decide +kernel
theorem dX5_countTold_11 : decode cX5_countTold 11 = .ok (.arraylength, 1) := by decide +kernel
theorem dX5_countTold_12 : decode cX5_countTold 12 = .ok (.istore_n 3, 1) := by decide +kernel
theorem dX5_countTold_13 : decode cX5_countTold 13 = .ok (.iconst 0, 1) := by decide +kernel
theorem dX5_countTold_14 : decode cX5_countTold 14 = .ok (.istore 4, 2) := by decide +kernel
theorem dX5_countTold_16 : decode cX5_countTold 16 = .ok (.iload 4, 2) := by decide +kernel
theorem dX5_countTold_18 : decode cX5_countTold 18 = .ok (.iload_n 3, 1) := by decide +kernel
theorem dX5_countTold_19 : decode cX5_countTold 19 = .ok (.if_icmp .ge 29, 3) := by decide +kernel
theorem dX5_countTold_22 : decode cX5_countTold 22 = .ok (.aload_n 2, 1) := by decide +kernel
theorem dX5_countTold_23 : decode cX5_countTold 23 = .ok (.iload 4, 2) := by decide +kernel
theorem dX5_countTold_25 : decode cX5_countTold 25 = .ok (.iaload, 1) := by decide +kernel
theorem dX5_countTold_26 : decode cX5_countTold 26 = .ok (.istore 5, 2) := by decide +kernel
theorem dX5_countTold_28 : decode cX5_countTold 28 = .ok (.iload_n 1, 1) := by decide +kernel
theorem dX5_countTold_29 : decode cX5_countTold 29 = .ok (.iload 5, 2) := by decide +kernel
theorem dX5_countTold_31 : decode cX5_countTold 31 = .ok (.iconst (-1), 1) := by decide +kernel
theorem dX5_countTold_32 : decode cX5_countTold 32 = .ok (.if_icmp .ne 7, 3) := by decide +kernel
theorem dX5_countTold_35 : decode cX5_countTold 35 = .ok (.iconst 0, 1) := by decide +kernel
theorem dX5_countTold_36 : decode cX5_countTold 36 = .ok (.goto 4, 3) := by decide +kernel
theorem dX5_countTold_39 : decode cX5_countTold 39 = .ok (.iconst 1, 1) := by decide +kernel
theorem dX5_countTold_40 : decode cX5_countTold 40 = .ok (.iadd, 1) := by decide +kernel
theorem dX5_countTold_41 : decode cX5_countTold 41 = .ok (.istore_n 1, 1) := by decide +kernel
theorem dX5_countTold_42 : decode cX5_countTold 42 = .ok (.iinc 4 1, 3) := by decide +kernel
theorem dX5_countTold_45 : decode cX5_countTold 45 = .ok (.goto (-29), 3) := by decide +kernel
theorem dX5_countTold_48 : decode cX5_countTold 48 = .ok (.iload_n 1, 1) := by decide +kernel
theorem dX5_countTold_49 : decode cX5_countTold 49 = .ok (.ireturn, 1) := by decide +kernel
theorem dX5_countTrue_0 : decode cX5_countTrue 0 = .ok (.iconst 0, 1) := by decide +kernel
theorem dX5_countTrue_1 : decode cX5_countTrue 1 = .ok (.istore_n 1, 1) := by decide +kernel
theorem dX5_countTrue_2 : decode cX5_countTrue 2 = .ok (.iconst 0, 1) := by decide +kernel
theorem dX5_countTrue_3 : decode cX5_countTrue 3 = .ok (.istore_n 2, 1) := by decide +kernel
theorem dX5_countTrue_4 : decode cX5_countTrue 4 = .ok (.iload_n 2, 1) := by decide +kernel
theorem dX5_countTrue_5 : decode cX5_countTrue 5 = .ok (.aload_n 0, 1) := by decide +kernel
theorem dX5_countTrue_6 : decode cX5_countTrue 6 = .ok (.getfield 19, 3) := by decide +kernel
theorem dX5_countTrue_9 : decode cX5_countTrue 9 = .ok (.if_icmp .ge 35, 3) := by decide +kernel
theorem dX5_countTrue_12 : decode cX5_countTrue 12 = .ok (.iload_n 1, 1) := by decide +kernel
theorem dX5_countTrue_13 : decode cX5_countTrue 13 = .ok (.aload_n 0, 1) := by decide +kernel
theorem dX5_countTrue_14 : decode cX5_countTrue 14 = .ok (.getfield 31, 3) := by decide +kernel
theorem dX5_countTrue_17 : decode cX5_countTrue 17 = .ok (.getfield 110, 3) := by decide +kernel
theorem dX5_countTrue_20 : decode cX5_countTrue 20 = .ok (.iload_n 2, 1) := by decide +kernel
theorem dX5_countTrue_21 : decode cX5_countTrue 21 = .ok (.iaload, 1) := by decide +kernel
theorem dX5_countTrue_22 : decode cX5_countTrue 22 = .ok (.aload_n 0, 1) := by decide +kernel
theorem dX5_countTrue_23 : decode cX5_countTrue 23 = .ok (.getfield 38, 3) := by decide +kernel
theorem dX5_countTrue_26 : decode cX5_countTrue 26 = .ok (.iload_n 2, 1) := by decide +kernel
theorem dX5_countTrue_27 : decode cX5_countTrue 27 = .ok (.iaload, 1) := by decide +kernel
theorem dX5_countTrue_28 : decode cX5_countTrue 28 = .ok (.if_icmp .ne 7, 3) := by decide +kernel
theorem dX5_countTrue_31 : decode cX5_countTrue 31 = .ok (.iconst 1, 1) := by decide +kernel
theorem dX5_countTrue_32 : decode cX5_countTrue 32 = .ok (.goto 4, 3) := by decide +kernel
theorem dX5_countTrue_35 : decode cX5_countTrue 35 = .ok (.iconst 0, 1) := by decide +kernel
theorem dX5_countTrue_36 : decode cX5_countTrue 36 = .ok (.iadd, 1) := by decide +kernel
theorem dX5_countTrue_37 : decode cX5_countTrue 37 = .ok (.istore_n 1, 1) := by decide +kernel
theorem dX5_countTrue_38 : decode cX5_countTrue 38 = .ok (.iinc 2 1, 3) := by decide +kernel
theorem dX5_countTrue_41 : decode cX5_countTrue 41 = .ok (.goto (-37), 3) := by decide +kernel
theorem dX5_countTrue_44 : decode cX5_countTrue 44 = .ok (.iload_n 1, 1) := by decide +kernel
theorem dX5_countTrue_45 : decode cX5_countTrue 45 = .ok (.ireturn, 1) := by decide +kernel
set_option maxRecDepth 20000 in
theorem ggX5_figuresChanged_X5_build : GoodIn wsX5_figuresChanged wsX5_build := goodIn_r _ [6, 1, 7, 8, 9, 10, 11, 12, 13, 14, 15, 5, 16, 17, 18, 19, 20, 21, 22, 23, 24, 25, 26, 27, 28, 29, 30, 31, 32, 33, 34, 35, 36, 37, 38, 39, 40, 41, 42, 43, 44, 45, 46, 47, 48, 49, 50, 51, 52, 57, 58, 59, 60, 61, 62, 63, 64, 65, 66, 67, 68, 69, 70, 71, 72, 73, 74, 75] (by decide +kernel) (by decide +kernel)
set_option maxRecDepth 20000 in
theorem gX5_figuresChanged_X5_build : GoodIn wsX5_figuresChanged (wsV RX5 91 RX5 yX5_build wsX5_build) := goodIn_app (goodIn_of _ (by decide +kernel)) ggX5_figuresChanged_X5_build
set_option maxRecDepth 20000 in
theorem ggX5_figuresChanged_X5_top : GoodIn wsX5_figuresChanged wsX5_top := goodIn_r _ [56, 17, 7, 57, 58, 59, 60, 61, 62, 63, 64, 65, 66, 67, 68, 69] (by decide +kernel) (by decide +kernel)
set_option maxRecDepth 20000 in
theorem gX5_figuresChanged_X5_top : GoodIn wsX5_figuresChanged (wsV RX5 116 RX5 yX5_top wsX5_top) := goodIn_app (goodIn_of _ (by decide +kernel)) ggX5_figuresChanged_X5_top
theorem dX5_figuresChanged_0 : decode cX5_figuresChanged 0 = .ok (.aload_n 0, 1) := by decide +kernel
theorem dX5_figuresChanged_1 : decode cX5_figuresChanged 1 = .ok (.getfield 31, 3) := by decide +kernel
theorem dX5_figuresChanged_4 : decode cX5_figuresChanged 4 = .ok (.dup, 1) := by decide +kernel
theorem dX5_figuresChanged_5 : decode cX5_figuresChanged 5 = .ok (.getfield 113, 3) := by decide +kernel
theorem dX5_figuresChanged_8 : decode cX5_figuresChanged 8 = .ok (.iconst 1, 1) := by decide +kernel
theorem dX5_figuresChanged_9 : decode cX5_figuresChanged 9 = .ok (.iadd, 1) := by decide +kernel
theorem dX5_figuresChanged_10 : decode cX5_figuresChanged 10 = .ok (.putfield 113, 3) := by decide +kernel
theorem dX5_figuresChanged_13 : decode cX5_figuresChanged 13 = .ok (.aload_n 0, 1) := by decide +kernel
theorem dX5_figuresChanged_14 : decode cX5_figuresChanged 14 = .ok (.invokevirtual 91, 3) := by decide +kernel
theorem dX5_figuresChanged_17 : decode cX5_figuresChanged 17 = .ok (.aload_n 0, 1) := by decide +kernel
theorem dX5_figuresChanged_18 : decode cX5_figuresChanged 18 = .ok (.invokevirtual 116, 3) := by decide +kernel
theorem dX5_figuresChanged_21 : decode cX5_figuresChanged 21 = .ok (.ireturn, 1) := by decide +kernel
set_option maxRecDepth 20000 in
theorem ggX5_setKind_X5_build : GoodIn wsX5_setKind wsX5_build := goodIn_r _ [9, 1, 10, 2, 11, 12, 13, 14, 15, 16, 17, 8, 18, 19, 20, 21, 22, 23, 24, 25, 26, 27, 28, 29, 30, 31, 32, 33, 34, 35, 36, 37, 38, 39, 40, 41, 42, 43, 44, 45, 46, 47, 48, 49, 50, 51, 52, 53, 54, 55, 56, 57, 58, 59, 60, 61, 62, 63, 64, 65, 66, 67, 68, 69, 70, 71, 72, 73] (by decide +kernel) (by decide +kernel)
set_option maxRecDepth 20000 in
theorem gX5_setKind_X5_build : GoodIn wsX5_setKind (wsV RX5 91 RX5 yX5_build wsX5_build) := goodIn_app (goodIn_of _ (by decide +kernel)) ggX5_setKind_X5_build
theorem dX5_setKind_0 : decode cX5_setKind 0 = .ok (.aload_n 0, 1) := by decide +kernel
theorem dX5_setKind_1 : decode cX5_setKind 1 = .ok (.getfield 31, 3) := by decide +kernel
theorem dX5_setKind_4 : decode cX5_setKind 4 = .ok (.getfield 49, 3) := by decide +kernel
theorem dX5_setKind_7 : decode cX5_setKind 7 = .ok (.iload_n 1, 1) := by decide +kernel
theorem dX5_setKind_8 : decode cX5_setKind 8 = .ok (.aload_n 0, 1) := by decide +kernel
theorem dX5_setKind_9 : decode cX5_setKind 9 = .ok (.getfield 15, 3) := by decide +kernel
theorem dX5_setKind_12 : decode cX5_setKind 12 = .ok (.isub, 1) := by decide +kernel
theorem dX5_setKind_13 : decode cX5_setKind 13 = .ok (.aload_n 0, 1) := by decide +kernel
theorem dX5_setKind_14 : decode cX5_setKind 14 = .ok (.getfield 9, 3) := by decide +kernel
theorem dX5_setKind_17 : decode cX5_setKind 17 = .ok (.iload_n 2, 1) := by decide +kernel
theorem dX5_setKind_18 : decode cX5_setKind 18 = .ok (.aaload, 1) := by decide +kernel
theorem dX5_setKind_19 : decode cX5_setKind 19 = .ok (.aastore, 1) := by decide +kernel
theorem dX5_setKind_20 : decode cX5_setKind 20 = .ok (.aload_n 0, 1) := by decide +kernel
theorem dX5_setKind_21 : decode cX5_setKind 21 = .ok (.iconst 0, 1) := by decide +kernel
theorem dX5_setKind_22 : decode cX5_setKind 22 = .ok (.putfield 119, 3) := by decide +kernel
theorem dX5_setKind_25 : decode cX5_setKind 25 = .ok (.aload_n 0, 1) := by decide +kernel
theorem dX5_setKind_26 : decode cX5_setKind 26 = .ok (.invokevirtual 91, 3) := by decide +kernel
theorem dX5_setKind_29 : decode cX5_setKind 29 = .ok (.return_, 1) := by decide +kernel
theorem dX5_setTold_0 : decode cX5_setTold 0 = .ok (.aload_n 0, 1) := by decide +kernel
theorem dX5_setTold_1 : decode cX5_setTold 1 = .ok (.getfield 31, 3) := by decide +kernel
theorem dX5_setTold_4 : decode cX5_setTold 4 = .ok (.getfield 110, 3) := by decide +kernel
theorem dX5_setTold_7 : decode cX5_setTold 7 = .ok (.iload_n 1, 1) := by decide +kernel
theorem dX5_setTold_8 : decode cX5_setTold 8 = .ok (.iload_n 2, 1) := by decide +kernel
theorem dX5_setTold_9 : decode cX5_setTold 9 = .ok (.iastore, 1) := by decide +kernel
theorem dX5_setTold_10 : decode cX5_setTold 10 = .ok (.aload_n 0, 1) := by decide +kernel
theorem dX5_setTold_11 : decode cX5_setTold 11 = .ok (.iconst 0, 1) := by decide +kernel
theorem dX5_setTold_12 : decode cX5_setTold 12 = .ok (.putfield 119, 3) := by decide +kernel
theorem dX5_setTold_15 : decode cX5_setTold 15 = .ok (.return_, 1) := by decide +kernel
set_option maxRecDepth 20000 in
theorem ggX5_keepImage_X8_takeFrom : GoodIn wsX5_keepImage wsX8_takeFrom := goodIn_r _ [8, 9, 10, 11, 12, 13, 14, 15, 16, 17, 18, 32, 33, 34, 35, 36, 37] (by decide +kernel) (by decide +kernel)
set_option maxRecDepth 20000 in
theorem gX5_keepImage_X8_takeFrom : GoodIn wsX5_keepImage (wsV RX5 123 RX8 yX8_takeFrom wsX8_takeFrom) := goodIn_app (goodIn_of _ (by decide +kernel)) ggX5_keepImage_X8_takeFrom
theorem dX5_keepImage_0 : decode cX5_keepImage 0 = .ok (.aload_n 0, 1) := by decide +kernel
theorem dX5_keepImage_1 : decode cX5_keepImage 1 = .ok (.getfield 35, 3) := by decide +kernel
theorem dX5_keepImage_4 : decode cX5_keepImage 4 = .ok (.aload_n 0, 1) := by decide +kernel
theorem dX5_keepImage_5 : decode cX5_keepImage 5 = .ok (.getfield 31, 3) := by decide +kernel
theorem dX5_keepImage_8 : decode cX5_keepImage 8 = .ok (.invokevirtual 123, 3) := by decide +kernel
theorem dX5_keepImage_11 : decode cX5_keepImage 11 = .ok (.aload_n 0, 1) := by decide +kernel
theorem dX5_keepImage_12 : decode cX5_keepImage 12 = .ok (.iconst 1, 1) := by decide +kernel
theorem dX5_keepImage_13 : decode cX5_keepImage 13 = .ok (.putfield 127, 3) := by decide +kernel
theorem dX5_keepImage_16 : decode cX5_keepImage 16 = .ok (.return_, 1) := by decide +kernel
set_option maxRecDepth 20000 in
theorem ggX5_goBackToImage_X8_takeFrom : GoodIn wsX5_goBackToImage wsX8_takeFrom := goodIn_r _ [8, 9, 10, 11, 12, 13, 14, 15, 16, 17, 18, 80, 81, 82, 83, 84, 85] (by decide +kernel) (by decide +kernel)
set_option maxRecDepth 20000 in
theorem gX5_goBackToImage_X8_takeFrom : GoodIn wsX5_goBackToImage (wsV RX5 123 RX8 yX8_takeFrom wsX8_takeFrom) := goodIn_app (goodIn_of _ (by decide +kernel)) ggX5_goBackToImage_X8_takeFrom
set_option maxRecDepth 20000 in
theorem ggX5_goBackToImage_X5_build : GoodIn wsX5_goBackToImage wsX5_build := goodIn_r _ [23, 1, 24, 25, 26, 13, 14, 15, 27, 28, 29, 22, 30, 31, 32, 33, 34, 35, 36, 37, 38, 39, 40, 41, 42, 43, 44, 45, 46, 47, 48, 49, 50, 51, 52, 53, 54, 55, 56, 57, 58, 59, 60, 61, 62, 63, 64, 65, 66, 67, 68, 69, 70, 71, 72, 73, 74, 75, 76, 77, 78, 79, 80, 81, 82, 83, 84, 85] (by decide +kernel) (by decide +kernel)
set_option maxRecDepth 20000 in
theorem gX5_goBackToImage_X5_build : GoodIn wsX5_goBackToImage (wsV RX5 91 RX5 yX5_build wsX5_build) := goodIn_app (goodIn_of _ (by decide +kernel)) ggX5_goBackToImage_X5_build
theorem dX5_goBackToImage_0 : decode cX5_goBackToImage 0 = .ok (.aload_n 0, 1) := by decide +kernel
theorem dX5_goBackToImage_1 : decode cX5_goBackToImage 1 = .ok (.getfield 31, 3) := by decide +kernel
theorem dX5_goBackToImage_4 : decode cX5_goBackToImage 4 = .ok (.aload_n 0, 1) := by decide +kernel
theorem dX5_goBackToImage_5 : decode cX5_goBackToImage 5 = .ok (.getfield 35, 3) := by decide +kernel
theorem dX5_goBackToImage_8 : decode cX5_goBackToImage 8 = .ok (.invokevirtual 123, 3) := by decide +kernel
theorem dX5_goBackToImage_11 : decode cX5_goBackToImage 11 = .ok (.aload_n 0, 1) := by decide +kernel
theorem dX5_goBackToImage_12 : decode cX5_goBackToImage 12 = .ok (.iconst 0, 1) := by decide +kernel
theorem dX5_goBackToImage_13 : decode cX5_goBackToImage 13 = .ok (.putfield 119, 3) := by decide +kernel
theorem dX5_goBackToImage_16 : decode cX5_goBackToImage 16 = .ok (.aload_n 0, 1) := by decide +kernel
theorem dX5_goBackToImage_17 : decode cX5_goBackToImage 17 = .ok (.invokevirtual 91, 3) := by decide +kernel
theorem dX5_goBackToImage_20 : decode cX5_goBackToImage 20 = .ok (.return_, 1) := by decide +kernel
set_option maxRecDepth 20000 in
theorem ggX5_swingOf_X5_raise : GoodIn wsX5_swingOf wsX5_raise := goodIn_r _ [12, 3, 13, 14, 1, 15, 16, 17, 18, 19, 20, 21, 22, 23, 24, 25, 26, 27, 28, 29, 30, 31, 32, 33, 34, 35, 36, 37, 38, 39, 40, 41, 42, 43, 44, 45, 46, 47, 48, 58, 59, 60, 61, 62, 63, 64, 65, 66, 67, 68, 69, 70, 71, 72, 73, 74, 75, 76] (by decide +kernel) (by decide +kernel)
set_option maxRecDepth 20000 in
theorem gX5_swingOf_X5_raise : GoodIn wsX5_swingOf (wsV RX5 100 RX5 yX5_raise wsX5_raise) := goodIn_app (goodIn_of _ (by decide +kernel)) ggX5_swingOf_X5_raise
set_option maxRecDepth 20000 in
theorem ggX5_swingOf_X5_guessedTop : GoodIn wsX5_swingOf wsX5_guessedTop := goodIn_r _ [52, 13, 2, 58, 59, 60, 61, 62, 63, 64, 65, 66, 67, 68, 69, 70] (by decide +kernel) (by decide +kernel)
set_option maxRecDepth 20000 in
theorem gX5_swingOf_X5_guessedTop : GoodIn wsX5_swingOf (wsV RX5 130 RX5 yX5_guessedTop wsX5_guessedTop) := goodIn_app (goodIn_of _ (by decide +kernel)) ggX5_swingOf_X5_guessedTop
set_option maxRecDepth 20000 in
theorem ggX5_swingOf_X5_top : GoodIn wsX5_swingOf wsX5_top := goodIn_r _ [56, 13, 57, 58, 59, 60, 61, 62, 63, 64, 65, 66, 67, 68, 69, 70] (by decide +kernel) (by decide +kernel)
set_option maxRecDepth 20000 in
theorem gX5_swingOf_X5_top : GoodIn wsX5_swingOf (wsV RX5 116 RX5 yX5_top wsX5_top) := goodIn_app (goodIn_of _ (by decide +kernel)) ggX5_swingOf_X5_top
theorem dX5_swingOf_0 : decode cX5_swingOf 0 = .ok (.aload_n 0, 1) := by decide +kernel
theorem dX5_swingOf_1 : decode cX5_swingOf 1 = .ok (.getfield 31, 3) := by decide +kernel
theorem dX5_swingOf_4 : decode cX5_swingOf 4 = .ok (.getfield 88, 3) := by decide +kernel
theorem dX5_swingOf_7 : decode cX5_swingOf 7 = .ok (.iload_n 1, 1) := by decide +kernel
theorem dX5_swingOf_8 : decode cX5_swingOf 8 = .ok (.iaload, 1) := by decide +kernel
theorem dX5_swingOf_9 : decode cX5_swingOf 9 = .ok (.bipush 9, 2) := by decide +kernel
theorem dX5_swingOf_11 : decode cX5_swingOf 11 = .ok (.if_icmp .ne 5, 3) := by decide +kernel
theorem dX5_swingOf_14 : decode cX5_swingOf 14 = .ok (.iconst (-1), 1) := by decide +kernel
theorem dX5_swingOf_15 : decode cX5_swingOf 15 = .ok (.ireturn, 1) := by decide +kernel
theorem dX5_swingOf_16 : decode cX5_swingOf 16 = .ok (.aload_n 0, 1) := by decide +kernel
theorem dX5_swingOf_17 : decode cX5_swingOf 17 = .ok (.getfield 31, 3) := by decide +kernel
theorem dX5_swingOf_20 : decode cX5_swingOf 20 = .ok (.getfield 88, 3) := by decide +kernel
theorem dX5_swingOf_23 : decode cX5_swingOf 23 = .ok (.iconst 0, 1) := by decide +kernel
theorem dX5_swingOf_24 : decode cX5_swingOf 24 = .ok (.aload_n 0, 1) := by decide +kernel
theorem dX5_swingOf_25 : decode cX5_swingOf 25 = .ok (.getfield 41, 3) := by decide +kernel
theorem dX5_swingOf_28 : decode cX5_swingOf 28 = .ok (.iconst 0, 1) := by decide +kernel
theorem dX5_swingOf_29 : decode cX5_swingOf 29 = .ok (.aload_n 0, 1) := by decide +kernel
theorem dX5_swingOf_30 : decode cX5_swingOf 30 = .ok (.getfield 15, 3) := by decide +kernel
theorem dX5_swingOf_33 : decode cX5_swingOf 33 = .ok (.invokestatic 94, 3) := by decide +kernel
theorem dX5_swingOf_36 : decode cX5_swingOf 36 = .ok (.aload_n 0, 1) := by decide +kernel
theorem dX5_swingOf_37 : decode cX5_swingOf 37 = .ok (.getfield 41, 3) := by decide +kernel
theorem dX5_swingOf_40 : decode cX5_swingOf 40 = .ok (.iload_n 1, 1) := by decide +kernel
theorem dX5_swingOf_41 : decode cX5_swingOf 41 = .ok (.dup2, 1) := by decide +kernel
theorem dX5_swingOf_42 : decode cX5_swingOf 42 = .ok (.iaload, 1) := by decide +kernel
theorem dX5_swingOf_43 : decode cX5_swingOf 43 = .ok (.iconst 1, 1) := by decide +kernel
theorem dX5_swingOf_44 : decode cX5_swingOf 44 = .ok (.iadd, 1) := by decide +kernel
theorem dX5_swingOf_45 : decode cX5_swingOf 45 = .ok (.iastore, 1) := by decide +kernel
theorem dX5_swingOf_46 : decode cX5_swingOf 46 = .ok (.aload_n 0, 1) := by decide +kernel
theorem dX5_swingOf_47 : decode cX5_swingOf 47 = .ok (.aload_n 0, 1) := by decide +kernel
theorem dX5_swingOf_48 : decode cX5_swingOf 48 = .ok (.getfield 41, 3) := by decide +kernel
theorem dX5_swingOf_51 : decode cX5_swingOf 51 = .ok (.invokevirtual 100, 3) := by decide +kernel
theorem dX5_swingOf_54 : decode cX5_swingOf 54 = .ok (.sipush 1000, 3) := by decide +kernel
theorem dX5_swingOf_57 : decode cX5_swingOf 57 = .ok (.aload_n 0, 1) := by decide +kernel
theorem dX5_swingOf_58 : decode cX5_swingOf 58 = .ok (.invokevirtual 130, 3) := by decide +kernel
theorem dX5_swingOf_61 : decode cX5_swingOf 61 = .ok (.iadd, 1) := by decide +kernel
theorem dX5_swingOf_62 : decode cX5_swingOf 62 = .ok (.aload_n 0, 1) := by decide +kernel
theorem dX5_swingOf_63 : decode cX5_swingOf 63 = .ok (.invokevirtual 116, 3) := by decide +kernel
theorem dX5_swingOf_66 : decode cX5_swingOf 66 = .ok (.isub, 1) := by decide +kernel
theorem dX5_swingOf_67 : decode cX5_swingOf 67 = .ok (.ireturn, 1) := by decide +kernel
set_option maxRecDepth 20000 in
theorem ggX5_bestTop_X5_bestLaid : GoodIn wsX5_bestTop wsX5_bestLaid := goodIn_r _ [4, 5, 6, 7, 8, 9, 10, 11, 12, 13, 14, 3, 15, 16, 17, 18, 19, 20, 21, 22, 23, 24, 25, 26, 27, 28, 29, 30, 31, 32, 33, 34, 35, 36, 37, 38, 39, 40, 41, 42, 43, 44, 45, 46, 47, 48, 49, 50, 51, 52, 53, 54, 55, 1, 2, 56, 57, 58, 59, 60, 61, 62, 63, 64, 65, 66, 67, 68, 69, 70, 71, 72, 73, 74] (by decide +kernel) (by decide +kernel)
set_option maxRecDepth 20000 in
theorem gX5_bestTop_X5_bestLaid : GoodIn wsX5_bestTop (va_wsS RX5 133 yX5_bestLaid wsX5_bestLaid) := goodIn_app (goodIn_of _ (by decide +kernel)) ggX5_bestTop_X5_bestLaid
theorem dX5_bestTop_0 : decode cX5_bestTop 0 = .ok (.aload_n 0, 1) := by decide +kernel
theorem dX5_bestTop_1 : decode cX5_bestTop 1 = .ok (.iconst 0, 1) := by decide +kernel
theorem dX5_bestTop_2 : decode cX5_bestTop 2 = .ok (.iconst 0, 1) := by decide +kernel
theorem dX5_bestTop_3 : decode cX5_bestTop 3 = .ok (.invokestatic 133, 3) := by decide +kernel
theorem dX5_bestTop_6 : decode cX5_bestTop 6 = .ok (.sipush 10000, 3) := by decide +kernel
theorem dX5_bestTop_9 : decode cX5_bestTop 9 = .ok (.idiv, 1) := by decide +kernel
theorem dX5_bestTop_10 : decode cX5_bestTop 10 = .ok (.ireturn, 1) := by decide +kernel
set_option maxRecDepth 20000 in
theorem ggX5_bestOrder_X5_bestLaid : GoodIn wsX5_bestOrder wsX5_bestLaid := goodIn_r _ [4, 5, 6, 7, 8, 9, 10, 11, 12, 13, 14, 3, 15, 16, 17, 18, 19, 20, 21, 22, 23, 24, 25, 26, 27, 28, 29, 30, 31, 32, 33, 34, 35, 36, 37, 38, 39, 40, 41, 42, 43, 44, 45, 46, 47, 48, 49, 50, 51, 52, 53, 54, 55, 1, 2, 56, 57, 58, 59, 60, 61, 62, 63, 64, 65, 66, 67, 68, 69, 70, 71, 72, 73, 74] (by decide +kernel) (by decide +kernel)
set_option maxRecDepth 20000 in
theorem gX5_bestOrder_X5_bestLaid : GoodIn wsX5_bestOrder (va_wsS RX5 133 yX5_bestLaid wsX5_bestLaid) := goodIn_app (goodIn_of _ (by decide +kernel)) ggX5_bestOrder_X5_bestLaid
theorem dX5_bestOrder_0 : decode cX5_bestOrder 0 = .ok (.sipush 9999, 3) := by decide +kernel
theorem dX5_bestOrder_3 : decode cX5_bestOrder 3 = .ok (.aload_n 0, 1) := by decide +kernel
theorem dX5_bestOrder_4 : decode cX5_bestOrder 4 = .ok (.iconst 0, 1) := by decide +kernel
theorem dX5_bestOrder_5 : decode cX5_bestOrder 5 = .ok (.iconst 0, 1) := by decide +kernel
theorem dX5_bestOrder_6 : decode cX5_bestOrder 6 = .ok (.invokestatic 133, 3) := by decide +kernel
theorem dX5_bestOrder_9 : decode cX5_bestOrder 9 = .ok (.sipush 10000, 3) := by decide +kernel
theorem dX5_bestOrder_12 : decode cX5_bestOrder 12 = .ok (.irem, 1) := by decide +kernel
theorem dX5_bestOrder_13 : decode cX5_bestOrder 13 = .ok (.isub, 1) := by decide +kernel
theorem dX5_bestOrder_14 : decode cX5_bestOrder 14 = .ok (.ireturn, 1) := by decide +kernel
set_option maxRecDepth 20000 in
theorem ggX5_bestLaid_X5_raise : GoodIn wsX5_bestLaid wsX5_raise := goodIn_r _ [12, 1, 13, 14, 3, 15, 16, 17, 18, 19, 20, 21, 22, 23, 24, 25, 26, 27, 28, 6, 29, 30, 31, 32, 33, 34, 35, 36, 37, 38, 39, 40, 41, 42, 43, 44, 5, 7, 45, 55, 56, 57, 58, 59, 60, 61, 62, 63, 64, 65, 66, 67, 68, 69, 70, 71, 72, 73] (by decide +kernel) (by decide +kernel)
set_option maxRecDepth 20000 in
theorem gX5_bestLaid_X5_raise : GoodIn wsX5_bestLaid (wsV RX5 100 RX5 yX5_raise wsX5_raise) := goodIn_app (goodIn_of _ (by decide +kernel)) ggX5_bestLaid_X5_raise
set_option maxRecDepth 20000 in
theorem ggX5_bestLaid_X5_guessedTop : GoodIn wsX5_bestLaid wsX5_guessedTop := goodIn_r _ [49, 13, 2, 55, 56, 57, 58, 59, 60, 61, 62, 63, 64, 65, 66, 67] (by decide +kernel) (by decide +kernel)
set_option maxRecDepth 20000 in
theorem gX5_bestLaid_X5_guessedTop : GoodIn wsX5_bestLaid (wsV RX5 130 RX5 yX5_guessedTop wsX5_guessedTop) := goodIn_app (goodIn_of _ (by decide +kernel)) ggX5_bestLaid_X5_guessedTop
set_option maxRecDepth 20000 in
theorem ggX5_bestLaid_X10_asNumber : GoodIn wsX5_bestLaid wsX10_asNumber := goodIn_r _ [52] (by decide +kernel) (by decide +kernel)
set_option maxRecDepth 20000 in
theorem gX5_bestLaid_X10_asNumber_n137 : GoodIn wsX5_bestLaid (wsX10_asNumber) := ggX5_bestLaid_X10_asNumber
set_option maxRecDepth 20000 in
theorem ggX5_bestLaid_X5_bestLaid : GoodIn wsX5_bestLaid wsX5_bestLaid := goodIn_r _ [0, 1, 2, 3, 4, 5, 6, 7, 8, 9, 10, 11, 12, 13, 14, 15, 16, 17, 18, 19, 20, 21, 22, 23, 24, 25, 26, 27, 28, 29, 30, 31, 32, 33, 34, 35, 36, 37, 38, 39, 40, 41, 42, 43, 44, 45, 46, 47, 48, 49, 50, 51, 52, 53, 54, 55, 56, 57, 58, 59, 60, 61, 62, 63, 64, 65, 66, 67, 68, 69, 70, 71, 72, 73] (by decide +kernel) (by decide +kernel)
set_option maxRecDepth 20000 in
theorem gX5_bestLaid_X5_bestLaid : GoodIn wsX5_bestLaid (va_wsS RX5 133 yX5_bestLaid wsX5_bestLaid) := goodIn_app (goodIn_of _ (by decide +kernel)) ggX5_bestLaid_X5_bestLaid
theorem dX5_bestLaid_0 : decode cX5_bestLaid 0 = .ok (.iload_n 1, 1) := by decide +kernel
theorem dX5_bestLaid_1 : decode cX5_bestLaid 1 = .ok (.aload_n 0, 1) := by decide +kernel
theorem dX5_bestLaid_2 : decode cX5_bestLaid 2 = .ok (.getfield 15, 3) := by decide +kernel
theorem dX5_bestLaid_5 : decode cX5_bestLaid 5 = .ok (.if_icmp .lt 38, 3) := by decide +kernel
theorem dX5_bestLaid_8 : decode cX5_bestLaid 8 = .ok (.aload_n 0, 1) := by decide +kernel
theorem dX5_bestLaid_9 : decode cX5_bestLaid 9 = .ok (.aload_n 0, 1) := by decide +kernel
theorem dX5_bestLaid_10 : decode cX5_bestLaid 10 = .ok (.getfield 41, 3) := by decide +kernel
theorem dX5_bestLaid_13 : decode cX5_bestLaid 13 = .ok (.invokevirtual 100, 3) := by decide +kernel
theorem dX5_bestLaid_16 : decode cX5_bestLaid 16 = .ok (.aload_n 0, 1) := by decide +kernel
theorem dX5_bestLaid_17 : decode cX5_bestLaid 17 = .ok (.invokevirtual 130, 3) := by decide +kernel
theorem dX5_bestLaid_20 : decode cX5_bestLaid 20 = .ok (.sipush 10000, 3) := by decide +kernel
theorem dX5_bestLaid_23 : decode cX5_bestLaid 23 = .ok (.imul, 1) := by decide +kernel
theorem dX5_bestLaid_24 : decode cX5_bestLaid 24 = .ok (.sipush 10000, 3) := by decide +kernel
theorem dX5_bestLaid_27 : decode cX5_bestLaid 27 = .ok (.iadd, 1) := by decide +kernel
theorem dX5_bestLaid_28 : decode cX5_bestLaid 28 = .ok (.iconst 1, 1) := by decide +kernel
theorem dX5_bestLaid_29 : decode cX5_bestLaid 29 = .ok (.isub, 1) := by decide +kernel
theorem dX5_bestLaid_30 : decode cX5_bestLaid 30 = .ok (.aload_n 0, 1) := by decide +kernel
theorem dX5_bestLaid_31 : decode cX5_bestLaid 31 = .ok (.getfield 41, 3) := by decide +kernel
theorem dX5_bestLaid_34 : decode cX5_bestLaid 34 = .ok (.aload_n 0, 1) := by decide +kernel
theorem dX5_bestLaid_35 : decode cX5_bestLaid 35 = .ok (.getfield 15, 3) := by decide +kernel
theorem dX5_bestLaid_38 : decode cX5_bestLaid 38 = .ok (.invokestatic 137, 3) := by decide +kernel
theorem dX5_bestLaid_41 : decode cX5_bestLaid 41 = .ok (.isub, 1) := by decide +kernel
theorem dX5_bestLaid_42 : decode cX5_bestLaid 42 = .ok (.ireturn, 1) := by decide +kernel
theorem dX5_bestLaid_43 : decode cX5_bestLaid 43 = .ok (.iconst 0, 1) := by decide +kernel
theorem dX5_bestLaid_44 : decode cX5_bestLaid 44 = .ok (.istore_n 3, 1) := by decide +kernel
theorem dX5_bestLaid_45 : decode cX5_bestLaid 45 = .ok (.iconst 0, 1) := by decide +kernel
theorem dX5_bestLaid_46 : decode cX5_bestLaid 46 = .ok (.istore 4, 2) := by decide +kernel
theorem dX5_bestLaid_48 : decode cX5_bestLaid 48 = .ok (.iload 4, 2) := by decide +kernel
theorem dX5_bestLaid_50 : decode cX5_bestLaid 50 = .ok (.aload_n 0, 1) := by decide +kernel
theorem dX5_bestLaid_51 : decode cX5_bestLaid 51 = .ok (.getfield 15, 3) := by decide +kernel
theorem dX5_bestLaid_54 : decode cX5_bestLaid 54 = .ok (.if_icmp .ge 52, 3) := by decide +kernel
theorem dX5_bestLaid_57 : decode cX5_bestLaid 57 = .ok (.iload_n 2, 1) := by decide +kernel
theorem dX5_bestLaid_58 : decode cX5_bestLaid 58 = .ok (.iload 4, 2) := by decide +kernel
theorem dX5_bestLaid_60 : decode cX5_bestLaid 60 = .ok (.ishr, 1) := by decide +kernel
theorem dX5_bestLaid_61 : decode cX5_bestLaid 61 = .ok (.iconst 1, 1) := by decide +kernel
theorem dX5_bestLaid_62 : decode cX5_bestLaid 62 = .ok (.iand, 1) := by decide +kernel
theorem dX5_bestLaid_63 : decode cX5_bestLaid 63 = .ok (.ifCond .ne 37, 3) := by decide +kernel
theorem dX5_bestLaid_66 : decode cX5_bestLaid 66 = .ok (.aload_n 0, 1) := by decide +kernel
theorem dX5_bestLaid_67 : decode cX5_bestLaid 67 = .ok (.getfield 41, 3) := by decide +kernel
theorem dX5_bestLaid_70 : decode cX5_bestLaid 70 = .ok (.iload_n 1, 1) := by decide +kernel
theorem dX5_bestLaid_71 : decode cX5_bestLaid 71 = .ok (.aload_n 0, 1) := by decide +kernel
theorem dX5_bestLaid_72 : decode cX5_bestLaid 72 = .ok (.getfield 31, 3) := by decide +kernel
theorem dX5_bestLaid_75 : decode cX5_bestLaid 75 = .ok (.getfield 88, 3) := by decide +kernel
theorem dX5_bestLaid_78 : decode cX5_bestLaid 78 = .ok (.iload 4, 2) := by decide +kernel
theorem dX5_bestLaid_80 : decode cX5_bestLaid 80 = .ok (.iaload, 1) := by decide +kernel
theorem dX5_bestLaid_81 : decode cX5_bestLaid 81 = .ok (.iastore, 1) := by decide +kernel
theorem dX5_bestLaid_82 : decode cX5_bestLaid 82 = .ok (.iload_n 3, 1) := by decide +kernel
theorem dX5_bestLaid_83 : decode cX5_bestLaid 83 = .ok (.aload_n 0, 1) := by decide +kernel
theorem dX5_bestLaid_84 : decode cX5_bestLaid 84 = .ok (.iload_n 1, 1) := by decide +kernel
theorem dX5_bestLaid_85 : decode cX5_bestLaid 85 = .ok (.iconst 1, 1) := by decide +kernel
theorem dX5_bestLaid_86 : decode cX5_bestLaid 86 = .ok (.iadd, 1) := by decide +kernel
theorem dX5_bestLaid_87 : decode cX5_bestLaid 87 = .ok (.iload_n 2, 1) := by decide +kernel
theorem dX5_bestLaid_88 : decode cX5_bestLaid 88 = .ok (.iconst 1, 1) := by decide +kernel
theorem dX5_bestLaid_89 : decode cX5_bestLaid 89 = .ok (.iload 4, 2) := by decide +kernel
theorem dX5_bestLaid_91 : decode cX5_bestLaid 91 = .ok (.ishl, 1) := by decide +kernel
theorem dX5_bestLaid_92 : decode cX5_bestLaid 92 = .ok (.ior, 1) := by decide +kernel
theorem dX5_bestLaid_93 : decode cX5_bestLaid 93 = .ok (.invokestatic 133, 3) := by decide +kernel
theorem dX5_bestLaid_96 : decode cX5_bestLaid 96 = .ok (.invokestatic 141, 3) := by decide +kernel
theorem dX5_bestLaid_99 : decode cX5_bestLaid 99 = .ok (.istore_n 3, 1) := by decide +kernel
theorem dX5_bestLaid_100 : decode cX5_bestLaid 100 = .ok (.iinc 4 1, 3) := by decide +kernel
theorem dX5_bestLaid_103 : decode cX5_bestLaid 103 = .ok (.goto (-55), 3) := by decide +kernel
theorem dX5_bestLaid_106 : decode cX5_bestLaid 106 = .ok (.iload_n 3, 1) := by decide +kernel
theorem dX5_bestLaid_107 : decode cX5_bestLaid 107 = .ok (.ireturn, 1) := by decide +kernel
set_option maxRecDepth 20000 in
theorem ggX5_nearestWithTop_J7_fill_53178 : GoodIn wsX5_nearestWithTop wsJ7_fill_53178 := goodIn_r _ [11] (by decide +kernel) (by decide +kernel)
set_option maxRecDepth 20000 in
theorem gX5_nearestWithTop_J7_fill_53178 : GoodIn wsX5_nearestWithTop (va_wsS RX5 62 yJ7_fill_53178 wsJ7_fill_53178) := goodIn_app (goodIn_of _ (by decide +kernel)) ggX5_nearestWithTop_J7_fill_53178
set_option maxRecDepth 20000 in
theorem ggX5_nearestWithTop_X6_start : GoodIn wsX5_nearestWithTop wsX6_start := goodIn_r _ [16, 17, 18, 19, 20, 95, 96, 97, 98, 99] (by decide +kernel) (by decide +kernel)
set_option maxRecDepth 20000 in
theorem gX5_nearestWithTop_X6_start : GoodIn wsX5_nearestWithTop (wsV RX5 146 RX6 yX6_start wsX6_start) := goodIn_app (goodIn_of _ (by decide +kernel)) ggX5_nearestWithTop_X6_start
set_option maxRecDepth 20000 in
theorem ggX5_nearestWithTop_X6_next : GoodIn wsX5_nearestWithTop wsX6_next := goodIn_r _ [24, 25, 20, 19, 18, 26, 27, 28, 15, 29, 30, 31, 32, 33, 34, 17, 35, 36, 37, 38, 39, 40, 41, 42, 43, 44, 45, 46, 47, 48, 6, 49, 50, 51, 52, 53, 54, 55, 56, 57, 58, 59, 60, 61, 62, 63, 64, 65, 66, 67, 95, 96, 97, 98, 99] (by decide +kernel) (by decide +kernel)
set_option maxRecDepth 20000 in
theorem gX5_nearestWithTop_X6_next : GoodIn wsX5_nearestWithTop (wsV RX5 149 RX6 yX6_next wsX6_next) := goodIn_app (goodIn_of _ (by decide +kernel)) ggX5_nearestWithTop_X6_next
set_option maxRecDepth 20000 in
theorem ggX5_nearestWithTop_X5_changesTo : GoodIn wsX5_nearestWithTop wsX5_changesTo := goodIn_r _ [72, 73, 74, 82, 83, 84, 85, 86, 87, 88, 89, 90, 91, 92, 93, 94, 100, 101, 102, 103, 104, 105] (by decide +kernel) (by decide +kernel)
set_option maxRecDepth 20000 in
theorem gX5_nearestWithTop_X5_changesTo : GoodIn wsX5_nearestWithTop (wsV RX5 154 RX5 yX5_changesTo wsX5_changesTo) := goodIn_app (goodIn_of _ (by decide +kernel)) ggX5_nearestWithTop_X5_changesTo
set_option maxRecDepth 20000 in
theorem ggX5_nearestWithTop_X6_number : GoodIn wsX5_nearestWithTop wsX6_number := goodIn_r _ [78, 19, 18, 79, 80, 81, 95, 96, 97, 98, 99] (by decide +kernel) (by decide +kernel)
set_option maxRecDepth 20000 in
theorem gX5_nearestWithTop_X6_number : GoodIn wsX5_nearestWithTop (wsV RX5 158 RX6 yX6_number wsX6_number) := goodIn_app (goodIn_of _ (by decide +kernel)) ggX5_nearestWithTop_X6_number
theorem dX5_nearestWithTop_0 : decode cX5_nearestWithTop 0 = .ok (.aload_n 0, 1) := by decide +kernel
theorem dX5_nearestWithTop_1 : decode cX5_nearestWithTop 1 = .ok (.getfield 19, 3) := by decide +kernel
theorem dX5_nearestWithTop_4 : decode cX5_nearestWithTop 4 = .ok (.newarray .int, 2) := by decide +kernel
theorem dX5_nearestWithTop_6 : decode cX5_nearestWithTop 6 = .ok (.astore_n 2, 1) := by decide +kernel
theorem dX5_nearestWithTop_7 : decode cX5_nearestWithTop 7 = .ok (.aload_n 2, 1) := by decide +kernel
theorem dX5_nearestWithTop_8 : decode cX5_nearestWithTop 8 = .ok (.iconst (-1), 1) := by decide +kernel
theorem dX5_nearestWithTop_9 : decode cX5_nearestWithTop 9 = .ok (.invokestatic 62, 3) := by decide +kernel
theorem dX5_nearestWithTop_12 : decode cX5_nearestWithTop 12 = .ok (.aload_n 0, 1) := by decide +kernel
theorem dX5_nearestWithTop_13 : decode cX5_nearestWithTop 13 = .ok (.getfield 19, 3) := by decide +kernel
theorem dX5_nearestWithTop_16 : decode cX5_nearestWithTop 16 = .ok (.ifCond .le 12, 3) := by decide +kernel
theorem dX5_nearestWithTop_19 : decode cX5_nearestWithTop 19 = .ok (.aload_n 2, 1) := by decide +kernel
theorem dX5_nearestWithTop_20 : decode cX5_nearestWithTop 20 = .ok (.aload_n 0, 1) := by decide +kernel
theorem dX5_nearestWithTop_21 : decode cX5_nearestWithTop 21 = .ok (.getfield 19, 3) := by decide +kernel
theorem dX5_nearestWithTop_24 : decode cX5_nearestWithTop 24 = .ok (.iconst 1, 1) := by decide +kernel
theorem dX5_nearestWithTop_25 : decode cX5_nearestWithTop 25 = .ok (.isub, 1) := by decide +kernel
theorem dX5_nearestWithTop_26 : decode cX5_nearestWithTop 26 = .ok (.iload_n 1, 1) := by decide +kernel
theorem dX5_nearestWithTop_27 : decode cX5_nearestWithTop 27 = .ok (.iastore, 1) := by decide +kernel
theorem dX5_nearestWithTop_28 : decode cX5_nearestWithTop 28 = .ok (.iconst (-1), 1) := by decide +kernel
theorem dX5_nearestWithTop_29 : decode cX5_nearestWithTop 29 = .ok (.istore_n 3, 1) := by decide +kernel
theorem dX5_nearestWithTop_30 : decode cX5_nearestWithTop 30 = .ok (.aload_n 0, 1) := by decide +kernel
theorem dX5_nearestWithTop_31 : decode cX5_nearestWithTop 31 = .ok (.getfield 55, 3) := by decide +kernel
theorem dX5_nearestWithTop_34 : decode cX5_nearestWithTop 34 = .ok (.aload_n 2, 1) := by decide +kernel
theorem dX5_nearestWithTop_35 : decode cX5_nearestWithTop 35 = .ok (.invokevirtual 146, 3) := by decide +kernel
theorem dX5_nearestWithTop_38 : decode cX5_nearestWithTop 38 = .ok (.iconst 0, 1) := by decide +kernel
theorem dX5_nearestWithTop_39 : decode cX5_nearestWithTop 39 = .ok (.istore 4, 2) := by decide +kernel
theorem dX5_nearestWithTop_41 : decode cX5_nearestWithTop 41 = .ok (.iload 4, 2) := by decide +kernel
theorem dX5_nearestWithTop_43 : decode cX5_nearestWithTop 43 = .ok (.sipush 10000, 3) := by decide +kernel
theorem dX5_nearestWithTop_46 : decode cX5_nearestWithTop 46 = .ok (.if_icmp .ge 61, 3) := by decide +kernel
theorem dX5_nearestWithTop_49 : decode cX5_nearestWithTop 49 = .ok (.aload_n 0, 1) := by decide +kernel
theorem dX5_nearestWithTop_50 : decode cX5_nearestWithTop 50 = .ok (.getfield 55, 3) := by decide +kernel
theorem dX5_nearestWithTop_53 : decode cX5_nearestWithTop 53 = .ok (.invokevirtual 149, 3) := by decide +kernel
theorem dX5_nearestWithTop_56 : decode cX5_nearestWithTop 56 = .ok (.ifCond .eq 51, 3) := by decide +kernel
theorem dX5_nearestWithTop_59 : decode cX5_nearestWithTop 59 = .ok (.aload_n 0, 1) := by decide +kernel
theorem dX5_nearestWithTop_60 : decode cX5_nearestWithTop 60 = .ok (.aload_n 0, 1) := by decide +kernel
theorem dX5_nearestWithTop_61 : decode cX5_nearestWithTop 61 = .ok (.getfield 55, 3) := by decide +kernel
theorem dX5_nearestWithTop_64 : decode cX5_nearestWithTop 64 = .ok (.getfield 153, 3) := by decide +kernel
theorem dX5_nearestWithTop_67 : decode cX5_nearestWithTop 67 = .ok (.invokevirtual 154, 3) := by decide +kernel
theorem dX5_nearestWithTop_70 : decode cX5_nearestWithTop 70 = .ok (.sipush 10000, 3) := by decide +kernel
theorem dX5_nearestWithTop_73 : decode cX5_nearestWithTop 73 = .ok (.imul, 1) := by decide +kernel
theorem dX5_nearestWithTop_74 : decode cX5_nearestWithTop 74 = .ok (.aload_n 0, 1) := by decide +kernel
theorem dX5_nearestWithTop_75 : decode cX5_nearestWithTop 75 = .ok (.getfield 55, 3) := by decide +kernel
theorem dX5_nearestWithTop_78 : decode cX5_nearestWithTop 78 = .ok (.invokevirtual 158, 3) := by decide +kernel
theorem dX5_nearestWithTop_81 : decode cX5_nearestWithTop 81 = .ok (.iadd, 1) := by decide +kernel
theorem dX5_nearestWithTop_82 : decode cX5_nearestWithTop 82 = .ok (.istore 5, 2) := by decide +kernel
theorem dX5_nearestWithTop_84 : decode cX5_nearestWithTop 84 = .ok (.iload_n 3, 1) := by decide +kernel
theorem dX5_nearestWithTop_85 : decode cX5_nearestWithTop 85 = .ok (.iconst (-1), 1) := by decide +kernel
theorem dX5_nearestWithTop_86 : decode cX5_nearestWithTop 86 = .ok (.if_icmp .ne 8, 3) := by decide +kernel
theorem dX5_nearestWithTop_89 : decode cX5_nearestWithTop 89 = .ok (.iload 5, 2) := by decide +kernel
theorem dX5_nearestWithTop_91 : decode cX5_nearestWithTop 91 = .ok (.goto 9, 3) := by decide +kernel
theorem dX5_nearestWithTop_94 : decode cX5_nearestWithTop 94 = .ok (.iload_n 3, 1) := by decide +kernel
theorem dX5_nearestWithTop_95 : decode cX5_nearestWithTop 95 = .ok (.iload 5, 2) := by decide +kernel
theorem dX5_nearestWithTop_97 : decode cX5_nearestWithTop 97 = .ok (.invokestatic 161, 3) := by decide +kernel
theorem dX5_nearestWithTop_100 : decode cX5_nearestWithTop 100 = .ok (.istore_n 3, 1) := by decide +kernel
theorem dX5_nearestWithTop_101 : decode cX5_nearestWithTop 101 = .ok (.iinc 4 1, 3) := by decide +kernel
theorem dX5_nearestWithTop_104 : decode cX5_nearestWithTop 104 = .ok (.goto (-63), 3) := by decide +kernel
theorem dX5_nearestWithTop_107 : decode cX5_nearestWithTop 107 = .ok (.iload_n 3, 1) := by decide +kernel
theorem dX5_nearestWithTop_108 : decode cX5_nearestWithTop 108 = .ok (.ireturn, 1) := by decide +kernel
theorem dX5_changesTo_0 : decode cX5_changesTo 0 = .ok (.iconst 0, 1) := by decide +kernel
theorem dX5_changesTo_1 : decode cX5_changesTo 1 = .ok (.istore_n 2, 1) := by decide +kernel
theorem dX5_changesTo_2 : decode cX5_changesTo 2 = .ok (.iconst 0, 1) := by decide +kernel
theorem dX5_changesTo_3 : decode cX5_changesTo 3 = .ok (.istore_n 3, 1) := by decide +kernel
theorem dX5_changesTo_4 : decode cX5_changesTo 4 = .ok (.iload_n 3, 1) := by decide +kernel
theorem dX5_changesTo_5 : decode cX5_changesTo 5 = .ok (.aload_n 0, 1) := by decide +kernel
theorem dX5_changesTo_6 : decode cX5_changesTo 6 = .ok (.getfield 15, 3) := by decide +kernel
theorem dX5_changesTo_9 : decode cX5_changesTo 9 = .ok (.if_icmp .ge 32, 3) := by decide +kernel
theorem dX5_changesTo_12 : decode cX5_changesTo 12 = .ok (.iload_n 2, 1) := by decide +kernel
theorem dX5_changesTo_13 : decode cX5_changesTo 13 = .ok (.aload_n 1, 1) := by decide +kernel
theorem dX5_changesTo_14 : decode cX5_changesTo 14 = .ok (.iload_n 3, 1) := by decide +kernel
theorem dX5_changesTo_15 : decode cX5_changesTo 15 = .ok (.iaload, 1) := by decide +kernel
theorem dX5_changesTo_16 : decode cX5_changesTo 16 = .ok (.aload_n 0, 1) := by decide +kernel
theorem dX5_changesTo_17 : decode cX5_changesTo 17 = .ok (.getfield 31, 3) := by decide +kernel
theorem dX5_changesTo_20 : decode cX5_changesTo 20 = .ok (.getfield 88, 3) := by decide +kernel
theorem dX5_changesTo_23 : decode cX5_changesTo 23 = .ok (.iload_n 3, 1) := by decide +kernel
theorem dX5_changesTo_24 : decode cX5_changesTo 24 = .ok (.iaload, 1) := by decide +kernel
theorem dX5_changesTo_25 : decode cX5_changesTo 25 = .ok (.if_icmp .ne 7, 3) := by decide +kernel
theorem dX5_changesTo_28 : decode cX5_changesTo 28 = .ok (.iconst 0, 1) := by decide +kernel
theorem dX5_changesTo_29 : decode cX5_changesTo 29 = .ok (.goto 4, 3) := by decide +kernel
theorem dX5_changesTo_32 : decode cX5_changesTo 32 = .ok (.iconst 1, 1) := by decide +kernel
theorem dX5_changesTo_33 : decode cX5_changesTo 33 = .ok (.iadd, 1) := by decide +kernel
theorem dX5_changesTo_34 : decode cX5_changesTo 34 = .ok (.istore_n 2, 1) := by decide +kernel
theorem dX5_changesTo_35 : decode cX5_changesTo 35 = .ok (.iinc 3 1, 3) := by decide +kernel
theorem dX5_changesTo_38 : decode cX5_changesTo 38 = .ok (.goto (-34), 3) := by decide +kernel
theorem dX5_changesTo_41 : decode cX5_changesTo 41 = .ok (.iload_n 2, 1) := by decide +kernel
theorem dX5_changesTo_42 : decode cX5_changesTo 42 = .ok (.ireturn, 1) := by decide +kernel
set_option maxRecDepth 20000 in
theorem ggX5_fitting_J7_fill_53178 : GoodIn wsX5_fitting wsJ7_fill_53178 := goodIn_r _ [10] (by decide +kernel) (by decide +kernel)
set_option maxRecDepth 20000 in
theorem gX5_fitting_J7_fill_53178 : GoodIn wsX5_fitting (va_wsS RX5 62 yJ7_fill_53178 wsJ7_fill_53178) := goodIn_app (goodIn_of _ (by decide +kernel)) ggX5_fitting_J7_fill_53178
set_option maxRecDepth 20000 in
theorem ggX5_fitting_X6_start : GoodIn wsX5_fitting wsX6_start := goodIn_r _ [15, 16, 17, 18, 19, 87, 88, 89, 90, 91] (by decide +kernel) (by decide +kernel)
set_option maxRecDepth 20000 in
theorem gX5_fitting_X6_start : GoodIn wsX5_fitting (wsV RX5 146 RX6 yX6_start wsX6_start) := goodIn_app (goodIn_of _ (by decide +kernel)) ggX5_fitting_X6_start
set_option maxRecDepth 20000 in
theorem ggX5_fitting_X6_next : GoodIn wsX5_fitting wsX6_next := goodIn_r _ [23, 24, 19, 18, 17, 25, 26, 27, 14, 28, 29, 30, 31, 32, 33, 16, 34, 35, 36, 37, 38, 39, 40, 41, 42, 43, 44, 45, 46, 47, 48, 49, 50, 51, 52, 53, 54, 55, 56, 57, 58, 59, 60, 61, 62, 63, 64, 65, 66, 67, 87, 88, 89, 90, 91] (by decide +kernel) (by decide +kernel)
set_option maxRecDepth 20000 in
theorem gX5_fitting_X6_next : GoodIn wsX5_fitting (wsV RX5 149 RX6 yX6_next wsX6_next) := goodIn_app (goodIn_of _ (by decide +kernel)) ggX5_fitting_X6_next
theorem dX5_fitting_0 : decode cX5_fitting 0 = .ok (.aload_n 0, 1) := by decide +kernel
theorem dX5_fitting_1 : decode cX5_fitting 1 = .ok (.getfield 119, 3) := by decide +kernel
theorem dX5_fitting_4 : decode cX5_fitting 4 = .ok (.ifCond .eq 8, 3) := by decide +kernel
theorem dX5_fitting_7 : decode cX5_fitting 7 = .ok (.aload_n 0, 1) := by decide +kernel
theorem dX5_fitting_8 : decode cX5_fitting 8 = .ok (.getfield 164, 3) := by decide +kernel
theorem dX5_fitting_11 : decode cX5_fitting 11 = .ok (.ireturn, 1) := by decide +kernel
theorem dX5_fitting_12 : decode cX5_fitting 12 = .ok (.aload_n 0, 1) := by decide +kernel
theorem dX5_fitting_13 : decode cX5_fitting 13 = .ok (.iconst 0, 1) := by decide +kernel
theorem dX5_fitting_14 : decode cX5_fitting 14 = .ok (.putfield 164, 3) := by decide +kernel
theorem dX5_fitting_17 : decode cX5_fitting 17 = .ok (.aload_n 0, 1) := by decide +kernel
theorem dX5_fitting_18 : decode cX5_fitting 18 = .ok (.getfield 44, 3) := by decide +kernel
theorem dX5_fitting_21 : decode cX5_fitting 21 = .ok (.iconst 0, 1) := by decide +kernel
theorem dX5_fitting_22 : decode cX5_fitting 22 = .ok (.invokestatic 62, 3) := by decide +kernel
theorem dX5_fitting_25 : decode cX5_fitting 25 = .ok (.aload_n 0, 1) := by decide +kernel
theorem dX5_fitting_26 : decode cX5_fitting 26 = .ok (.getfield 55, 3) := by decide +kernel
theorem dX5_fitting_29 : decode cX5_fitting 29 = .ok (.aload_n 0, 1) := by decide +kernel
theorem dX5_fitting_30 : decode cX5_fitting 30 = .ok (.getfield 31, 3) := by decide +kernel
theorem dX5_fitting_33 : decode cX5_fitting 33 = .ok (.getfield 110, 3) := by decide +kernel
theorem dX5_fitting_36 : decode cX5_fitting 36 = .ok (.invokevirtual 146, 3) := by decide +kernel
theorem dX5_fitting_39 : decode cX5_fitting 39 = .ok (.iconst 0, 1) := by decide +kernel
theorem dX5_fitting_40 : decode cX5_fitting 40 = .ok (.istore_n 1, 1) := by decide +kernel
theorem dX5_fitting_41 : decode cX5_fitting 41 = .ok (.iload_n 1, 1) := by decide +kernel
theorem dX5_fitting_42 : decode cX5_fitting 42 = .ok (.sipush 10000, 3) := by decide +kernel
theorem dX5_fitting_45 : decode cX5_fitting 45 = .ok (.if_icmp .ge 68, 3) := by decide +kernel
theorem dX5_fitting_48 : decode cX5_fitting 48 = .ok (.aload_n 0, 1) := by decide +kernel
theorem dX5_fitting_49 : decode cX5_fitting 49 = .ok (.getfield 55, 3) := by decide +kernel
theorem dX5_fitting_52 : decode cX5_fitting 52 = .ok (.invokevirtual 149, 3) := by decide +kernel
theorem dX5_fitting_55 : decode cX5_fitting 55 = .ok (.ifCond .eq 58, 3) := by decide +kernel
theorem dX5_fitting_58 : decode cX5_fitting 58 = .ok (.aload_n 0, 1) := by decide +kernel
theorem dX5_fitting_59 : decode cX5_fitting 59 = .ok (.dup, 1) := by decide +kernel
theorem dX5_fitting_60 : decode cX5_fitting 60 = .ok (.getfield 164, 3) := by decide +kernel
theorem dX5_fitting_63 : decode cX5_fitting 63 = .ok (.iconst 1, 1) := by decide +kernel
theorem dX5_fitting_64 : decode cX5_fitting 64 = .ok (.iadd, 1) := by decide +kernel
theorem dX5_fitting_65 : decode cX5_fitting 65 = .ok (.putfield 164, 3) := by decide +kernel
theorem dX5_fitting_68 : decode cX5_fitting 68 = .ok (.iconst 0, 1) := by decide +kernel
theorem dX5_fitting_69 : decode cX5_fitting 69 = .ok (.istore_n 2, 1) := by decide +kernel
theorem dX5_fitting_70 : decode cX5_fitting 70 = .ok (.iload_n 2, 1) := by decide +kernel
theorem dX5_fitting_71 : decode cX5_fitting 71 = .ok (.aload_n 0, 1) := by decide +kernel
theorem dX5_fitting_72 : decode cX5_fitting 72 = .ok (.getfield 15, 3) := by decide +kernel
theorem dX5_fitting_75 : decode cX5_fitting 75 = .ok (.if_icmp .ge 32, 3) := by decide +kernel
theorem dX5_fitting_78 : decode cX5_fitting 78 = .ok (.aload_n 0, 1) := by decide +kernel
theorem dX5_fitting_79 : decode cX5_fitting 79 = .ok (.getfield 44, 3) := by decide +kernel
theorem dX5_fitting_82 : decode cX5_fitting 82 = .ok (.iload_n 2, 1) := by decide +kernel
theorem dX5_fitting_83 : decode cX5_fitting 83 = .ok (.bipush 10, 2) := by decide +kernel
theorem dX5_fitting_85 : decode cX5_fitting 85 = .ok (.imul, 1) := by decide +kernel
theorem dX5_fitting_86 : decode cX5_fitting 86 = .ok (.aload_n 0, 1) := by decide +kernel
theorem dX5_fitting_87 : decode cX5_fitting 87 = .ok (.getfield 55, 3) := by decide +kernel
theorem dX5_fitting_90 : decode cX5_fitting 90 = .ok (.getfield 153, 3) := by decide +kernel
theorem dX5_fitting_93 : decode cX5_fitting 93 = .ok (.iload_n 2, 1) := by decide +kernel
theorem dX5_fitting_94 : decode cX5_fitting 94 = .ok (.iaload, 1) := by decide +kernel
theorem dX5_fitting_95 : decode cX5_fitting 95 = .ok (.iadd, 1) := by decide +kernel
theorem dX5_fitting_96 : decode cX5_fitting 96 = .ok (.dup2, 1) := by decide +kernel
theorem dX5_fitting_97 : decode cX5_fitting 97 = .ok (.iaload, 1) := by decide +kernel
theorem dX5_fitting_98 : decode cX5_fitting 98 = .ok (.iconst 1, 1) := by decide +kernel
theorem dX5_fitting_99 : decode cX5_fitting 99 = .ok (.iadd, 1) := by decide +kernel
theorem dX5_fitting_100 : decode cX5_fitting 100 = .ok (.iastore, 1) := by decide +kernel
theorem dX5_fitting_101 : decode cX5_fitting 101 = .ok (.iinc 2 1, 3) := by decide +kernel
theorem dX5_fitting_104 : decode cX5_fitting 104 = .ok (.goto (-34), 3) := by decide +kernel
theorem dX5_fitting_107 : decode cX5_fitting 107 = .ok (.iinc 1 1, 3) := by decide +kernel
theorem dX5_fitting_110 : decode cX5_fitting 110 = .ok (.goto (-69), 3) := by decide +kernel
theorem dX5_fitting_113 : decode cX5_fitting 113 = .ok (.aload_n 0, 1) := by decide +kernel
theorem dX5_fitting_114 : decode cX5_fitting 114 = .ok (.iconst 1, 1) := by decide +kernel
theorem dX5_fitting_115 : decode cX5_fitting 115 = .ok (.putfield 119, 3) := by decide +kernel
theorem dX5_fitting_118 : decode cX5_fitting 118 = .ok (.aload_n 0, 1) := by decide +kernel
theorem dX5_fitting_119 : decode cX5_fitting 119 = .ok (.getfield 164, 3) := by decide +kernel
theorem dX5_fitting_122 : decode cX5_fitting 122 = .ok (.ireturn, 1) := by decide +kernel
set_option maxRecDepth 20000 in
theorem ggX5_fittingWith_X5_fitting : GoodIn wsX5_fittingWith wsX5_fitting := goodIn_r _ [6, 7, 8, 1, 9, 10, 11, 12, 13, 14, 15, 16, 17, 18, 19, 20, 21, 22, 23, 24, 25, 26, 27, 28, 29, 30, 31, 32, 33, 34, 35, 36, 37, 38, 39, 40, 41, 42, 43, 44, 45, 46, 47, 48, 49, 50, 51, 52, 53, 54, 55, 56, 57, 58, 59, 60, 61, 62, 63, 64, 65, 66, 67, 68, 69, 70, 71, 72, 73, 74, 75, 76, 77, 78, 79, 80, 81, 82, 83, 84, 85, 86, 87, 88, 89, 90, 91, 92, 93, 94, 95, 96] (by decide +kernel) (by decide +kernel)
set_option maxRecDepth 20000 in
theorem gX5_fittingWith_X5_fitting : GoodIn wsX5_fittingWith (wsV RX5 167 RX5 yX5_fitting wsX5_fitting) := goodIn_app (goodIn_of _ (by decide +kernel)) ggX5_fittingWith_X5_fitting
theorem dX5_fittingWith_0 : decode cX5_fittingWith 0 = .ok (.aload_n 0, 1) := by decide +kernel
theorem dX5_fittingWith_1 : decode cX5_fittingWith 1 = .ok (.invokevirtual 167, 3) := by decide +kernel
theorem dX5_fittingWith_4 : decode cX5_fittingWith 4 = .ok (.ifCond .ne 7, 3) := by decide +kernel
theorem dX5_fittingWith_7 : decode cX5_fittingWith 7 = .ok (.iconst 0, 1) := by decide +kernel
theorem dX5_fittingWith_8 : decode cX5_fittingWith 8 = .ok (.goto 14, 3) := by decide +kernel
theorem dX5_fittingWith_11 : decode cX5_fittingWith 11 = .ok (.aload_n 0, 1) := by decide +kernel
theorem dX5_fittingWith_12 : decode cX5_fittingWith 12 = .ok (.getfield 44, 3) := by decide +kernel
theorem dX5_fittingWith_15 : decode cX5_fittingWith 15 = .ok (.iload_n 1, 1) := by decide +kernel
theorem dX5_fittingWith_16 : decode cX5_fittingWith 16 = .ok (.bipush 10, 2) := by decide +kernel
theorem dX5_fittingWith_18 : decode cX5_fittingWith 18 = .ok (.imul, 1) := by decide +kernel
theorem dX5_fittingWith_19 : decode cX5_fittingWith 19 = .ok (.iload_n 2, 1) := by decide +kernel
theorem dX5_fittingWith_20 : decode cX5_fittingWith 20 = .ok (.iadd, 1) := by decide +kernel
theorem dX5_fittingWith_21 : decode cX5_fittingWith 21 = .ok (.iaload, 1) := by decide +kernel
theorem dX5_fittingWith_22 : decode cX5_fittingWith 22 = .ok (.ireturn, 1) := by decide +kernel
set_option maxRecDepth 20000 in
theorem ggX5_fittingRow_X5_fitting : GoodIn wsX5_fittingRow wsX5_fitting := goodIn_r _ [7, 8, 9, 10, 1, 2, 11, 12, 13, 14, 15, 16, 17, 18, 19, 20, 21, 22, 23, 24, 25, 26, 27, 28, 29, 30, 31, 32, 33, 34, 35, 36, 37, 38, 39, 40, 41, 42, 43, 44, 45, 46, 47, 48, 49, 50, 51, 52, 53, 54, 55, 56, 57, 58, 59, 60, 61, 62, 63, 64, 65, 66, 67, 68, 69, 70, 71, 72, 80, 81, 82, 83, 84, 85, 86, 87, 88, 89, 90, 91, 92, 93, 94, 95, 96, 97, 98, 99, 100, 101, 102, 103] (by decide +kernel) (by decide +kernel)
set_option maxRecDepth 20000 in
theorem gX5_fittingRow_X5_fitting : GoodIn wsX5_fittingRow (wsV RX5 167 RX5 yX5_fitting wsX5_fitting) := goodIn_app (goodIn_of _ (by decide +kernel)) ggX5_fittingRow_X5_fitting
set_option maxRecDepth 20000 in
theorem ggX5_fittingRow_X6_start : GoodIn wsX5_fittingRow wsX6_start := goodIn_r _ [20, 21, 22, 23, 24, 99, 100, 101, 102, 103] (by decide +kernel) (by decide +kernel)
set_option maxRecDepth 20000 in
theorem gX5_fittingRow_X6_start : GoodIn wsX5_fittingRow (wsV RX5 146 RX6 yX6_start wsX6_start) := goodIn_app (goodIn_of _ (by decide +kernel)) ggX5_fittingRow_X6_start
set_option maxRecDepth 20000 in
theorem ggX5_fittingRow_X6_next : GoodIn wsX5_fittingRow wsX6_next := goodIn_r _ [28, 29, 24, 23, 22, 30, 31, 32, 19, 33, 34, 35, 36, 37, 38, 21, 39, 40, 41, 42, 43, 44, 45, 46, 47, 48, 49, 50, 51, 52, 53, 54, 55, 56, 57, 58, 59, 60, 61, 62, 63, 64, 65, 66, 67, 68, 69, 70, 71, 72, 99, 100, 101, 102, 103] (by decide +kernel) (by decide +kernel)
set_option maxRecDepth 20000 in
theorem gX5_fittingRow_X6_next : GoodIn wsX5_fittingRow (wsV RX5 149 RX6 yX6_next wsX6_next) := goodIn_app (goodIn_of _ (by decide +kernel)) ggX5_fittingRow_X6_next
set_option maxRecDepth 20000 in
theorem ggX5_fittingRow_X6_number : GoodIn wsX5_fittingRow wsX6_number := goodIn_r _ [76, 23, 22, 77, 78, 79, 99, 100, 101, 102, 103] (by decide +kernel) (by decide +kernel)
set_option maxRecDepth 20000 in
theorem gX5_fittingRow_X6_number : GoodIn wsX5_fittingRow (wsV RX5 158 RX6 yX6_number wsX6_number) := goodIn_app (goodIn_of _ (by decide +kernel)) ggX5_fittingRow_X6_number
theorem dX5_fittingRow_0 : decode cX5_fittingRow 0 = .ok (.iload_n 1, 1) := by decide +kernel
theorem dX5_fittingRow_1 : decode cX5_fittingRow 1 = .ok (.aload_n 0, 1) := by decide +kernel
theorem dX5_fittingRow_2 : decode cX5_fittingRow 2 = .ok (.invokevirtual 167, 3) := by decide +kernel
theorem dX5_fittingRow_5 : decode cX5_fittingRow 5 = .ok (.if_icmp .lt 5, 3) := by decide +kernel
theorem dX5_fittingRow_8 : decode cX5_fittingRow 8 = .ok (.iconst (-1), 1) := by decide +kernel
theorem dX5_fittingRow_9 : decode cX5_fittingRow 9 = .ok (.ireturn, 1) := by decide +kernel
theorem dX5_fittingRow_10 : decode cX5_fittingRow 10 = .ok (.aload_n 0, 1) := by decide +kernel
theorem dX5_fittingRow_11 : decode cX5_fittingRow 11 = .ok (.getfield 55, 3) := by decide +kernel
theorem dX5_fittingRow_14 : decode cX5_fittingRow 14 = .ok (.aload_n 0, 1) := by decide +kernel
theorem dX5_fittingRow_15 : decode cX5_fittingRow 15 = .ok (.getfield 31, 3) := by decide +kernel
theorem dX5_fittingRow_18 : decode cX5_fittingRow 18 = .ok (.getfield 110, 3) := by decide +kernel
theorem dX5_fittingRow_21 : decode cX5_fittingRow 21 = .ok (.invokevirtual 146, 3) := by decide +kernel
theorem dX5_fittingRow_24 : decode cX5_fittingRow 24 = .ok (.iconst 0, 1) := by decide +kernel
theorem dX5_fittingRow_25 : decode cX5_fittingRow 25 = .ok (.istore_n 2, 1) := by decide +kernel
theorem dX5_fittingRow_26 : decode cX5_fittingRow 26 = .ok (.iload_n 2, 1) := by decide +kernel
theorem dX5_fittingRow_27 : decode cX5_fittingRow 27 = .ok (.iload_n 1, 1) := by decide +kernel
theorem dX5_fittingRow_28 : decode cX5_fittingRow 28 = .ok (.if_icmp .gt 28, 3) := by decide +kernel
theorem dX5_fittingRow_31 : decode cX5_fittingRow 31 = .ok (.iload_n 2, 1) := by decide +kernel
theorem dX5_fittingRow_32 : decode cX5_fittingRow 32 = .ok (.sipush 10000, 3) := by decide +kernel
theorem dX5_fittingRow_35 : decode cX5_fittingRow 35 = .ok (.if_icmp .ge 21, 3) := by decide +kernel
theorem dX5_fittingRow_38 : decode cX5_fittingRow 38 = .ok (.aload_n 0, 1) := by decide +kernel
theorem dX5_fittingRow_39 : decode cX5_fittingRow 39 = .ok (.getfield 55, 3) := by decide +kernel
theorem dX5_fittingRow_42 : decode cX5_fittingRow 42 = .ok (.invokevirtual 149, 3) := by decide +kernel
theorem dX5_fittingRow_45 : decode cX5_fittingRow 45 = .ok (.ifCond .ne 5, 3) := by decide +kernel
theorem dX5_fittingRow_48 : decode cX5_fittingRow 48 = .ok (.iconst (-1), 1) := by decide +kernel
theorem dX5_fittingRow_49 : decode cX5_fittingRow 49 = .ok (.ireturn, 1) := by decide +kernel
theorem dX5_fittingRow_50 : decode cX5_fittingRow 50 = .ok (.iinc 2 1, 3) := by decide +kernel
theorem dX5_fittingRow_53 : decode cX5_fittingRow 53 = .ok (.goto (-27), 3) := by decide +kernel
theorem dX5_fittingRow_56 : decode cX5_fittingRow 56 = .ok (.aload_n 0, 1) := by decide +kernel
theorem dX5_fittingRow_57 : decode cX5_fittingRow 57 = .ok (.getfield 55, 3) := by decide +kernel
theorem dX5_fittingRow_60 : decode cX5_fittingRow 60 = .ok (.invokevirtual 158, 3) := by decide +kernel
theorem dX5_fittingRow_63 : decode cX5_fittingRow 63 = .ok (.ireturn, 1) := by decide +kernel
set_option maxRecDepth 20000 in
theorem ggX5_nextLook_X5_fitting : GoodIn wsX5_nextLook wsX5_fitting := goodIn_r _ [7, 8, 9, 10, 11, 2, 12, 13, 14, 15, 16, 17, 18, 19, 20, 21, 22, 23, 24, 25, 26, 27, 28, 29, 30, 31, 32, 33, 34, 35, 36, 37, 38, 39, 40, 41, 42, 43, 44, 45, 46, 47, 48, 49, 50, 51, 52, 53, 54, 55, 56, 57, 58, 59, 60, 61, 62, 63, 64, 65, 66, 67, 68, 69, 70, 71, 72, 73, 87, 88, 89, 90, 91, 92, 93, 94, 95, 96, 97, 98, 99, 100, 101, 102, 103, 104, 105, 106, 107, 108, 109, 110] (by decide +kernel) (by decide +kernel)
set_option maxRecDepth 20000 in
theorem gX5_nextLook_X5_fitting : GoodIn wsX5_nextLook (wsV RX5 167 RX5 yX5_fitting wsX5_fitting) := goodIn_app (goodIn_of _ (by decide +kernel)) ggX5_nextLook_X5_fitting
set_option maxRecDepth 20000 in
theorem ggX5_nextLook_X5_tallyFitting : GoodIn wsX5_nextLook wsX5_tallyFitting := goodIn_r _ [77, 1, 78, 79, 11, 2, 17, 18, 19, 20, 21, 22, 23, 24, 25, 26, 27, 28, 29, 30, 31, 32, 33, 34, 35, 36, 37, 38, 39, 40, 41, 42, 43, 44, 45, 46, 47, 48, 49, 50, 51, 52, 53, 54, 55, 56, 57, 58, 59, 60, 61, 62, 63, 64, 65, 66, 67, 68, 69, 70, 71, 72, 73, 80, 81, 82, 87, 88, 89, 90, 91, 92, 93, 94, 95, 96, 97, 98, 99, 100, 101, 102, 103, 104, 105, 106, 107, 108, 109, 110] (by decide +kernel) (by decide +kernel)
set_option maxRecDepth 20000 in
theorem gX5_nextLook_X5_tallyFitting : GoodIn wsX5_nextLook (wsV RX5 169 RX5 yX5_tallyFitting wsX5_tallyFitting) := goodIn_app (goodIn_of _ (by decide +kernel)) ggX5_nextLook_X5_tallyFitting
set_option maxRecDepth 20000 in
theorem ggX5_nextLook_X5_greatest : GoodIn wsX5_nextLook wsX5_greatest := goodIn_r _ [85, 86, 71, 54, 72] (by decide +kernel) (by decide +kernel)
set_option maxRecDepth 20000 in
theorem gX5_nextLook_X5_greatest : GoodIn wsX5_nextLook (va_wsS RX5 173 yX5_greatest wsX5_greatest) := goodIn_app (goodIn_of _ (by decide +kernel)) ggX5_nextLook_X5_greatest
theorem dX5_nextLook_0 : decode cX5_nextLook 0 = .ok (.aload_n 0, 1) := by decide +kernel
theorem dX5_nextLook_1 : decode cX5_nextLook 1 = .ok (.invokevirtual 167, 3) := by decide +kernel
theorem dX5_nextLook_4 : decode cX5_nextLook 4 = .ok (.ifCond .ne 5, 3) := by decide +kernel
theorem dX5_nextLook_7 : decode cX5_nextLook 7 = .ok (.iconst (-1), 1) := by decide +kernel
theorem dX5_nextLook_8 : decode cX5_nextLook 8 = .ok (.ireturn, 1) := by decide +kernel
theorem dX5_nextLook_9 : decode cX5_nextLook 9 = .ok (.aload_n 0, 1) := by decide +kernel
theorem dX5_nextLook_10 : decode cX5_nextLook 10 = .ok (.invokevirtual 169, 3) := by decide +kernel
theorem dX5_nextLook_13 : decode cX5_nextLook 13 = .ok (.astore_n 1, 1) := by decide +kernel
theorem dX5_nextLook_14 : decode cX5_nextLook 14 = .ok (.iconst (-1), 1) := by decide +kernel
theorem dX5_nextLook_15 : decode cX5_nextLook 15 = .ok (.istore_n 2, 1) := by decide +kernel
theorem dX5_nextLook_16 : decode cX5_nextLook 16 = .ok (.sipush 10001, 3) := by decide +kernel
theorem dX5_nextLook_19 : decode cX5_nextLook 19 = .ok (.istore_n 3, 1) := by decide +kernel
theorem dX5_nextLook_20 : decode cX5_nextLook 20 = .ok (.iconst 0, 1) := by decide +kernel
theorem dX5_nextLook_21 : decode cX5_nextLook 21 = .ok (.istore 4, 2) := by decide +kernel
theorem dX5_nextLook_23 : decode cX5_nextLook 23 = .ok (.iload 4, 2) := by decide +kernel
theorem dX5_nextLook_25 : decode cX5_nextLook 25 = .ok (.aload_n 0, 1) := by decide +kernel
theorem dX5_nextLook_26 : decode cX5_nextLook 26 = .ok (.getfield 19, 3) := by decide +kernel
theorem dX5_nextLook_29 : decode cX5_nextLook 29 = .ok (.if_icmp .ge 44, 3) := by decide +kernel
theorem dX5_nextLook_32 : decode cX5_nextLook 32 = .ok (.aload_n 1, 1) := by decide +kernel
theorem dX5_nextLook_33 : decode cX5_nextLook 33 = .ok (.iload 4, 2) := by decide +kernel
theorem dX5_nextLook_35 : decode cX5_nextLook 35 = .ok (.aaload, 1) := by decide +kernel
theorem dX5_nextLook_36 : decode cX5_nextLook 36 = .ok (.invokestatic 173, 3) := by decide +kernel
theorem dX5_nextLook_39 : decode cX5_nextLook 39 = .ok (.istore 5, 2) := by decide +kernel
theorem dX5_nextLook_41 : decode cX5_nextLook 41 = .ok (.aload_n 0, 1) := by decide +kernel
theorem dX5_nextLook_42 : decode cX5_nextLook 42 = .ok (.getfield 31, 3) := by decide +kernel
theorem dX5_nextLook_45 : decode cX5_nextLook 45 = .ok (.getfield 110, 3) := by decide +kernel
theorem dX5_nextLook_48 : decode cX5_nextLook 48 = .ok (.iload 4, 2) := by decide +kernel
theorem dX5_nextLook_50 : decode cX5_nextLook 50 = .ok (.iaload, 1) := by decide +kernel
theorem dX5_nextLook_51 : decode cX5_nextLook 51 = .ok (.iconst (-1), 1) := by decide +kernel
theorem dX5_nextLook_52 : decode cX5_nextLook 52 = .ok (.if_icmp .ne 15, 3) := by decide +kernel
theorem dX5_nextLook_55 : decode cX5_nextLook 55 = .ok (.iload 5, 2) := by decide +kernel
theorem dX5_nextLook_57 : decode cX5_nextLook 57 = .ok (.iload_n 3, 1) := by decide +kernel
theorem dX5_nextLook_58 : decode cX5_nextLook 58 = .ok (.if_icmp .ge 9, 3) := by decide +kernel
theorem dX5_nextLook_61 : decode cX5_nextLook 61 = .ok (.iload 5, 2) := by decide +kernel
theorem dX5_nextLook_63 : decode cX5_nextLook 63 = .ok (.istore_n 3, 1) := by decide +kernel
theorem dX5_nextLook_64 : decode cX5_nextLook 64 = .ok (.iload 4, 2) := by decide +kernel
theorem dX5_nextLook_66 : decode cX5_nextLook 66 = .ok (.istore_n 2, 1) := by decide +kernel
theorem dX5_nextLook_67 : decode cX5_nextLook 67 = .ok (.iinc 4 1, 3) := by decide +kernel
theorem dX5_nextLook_70 : decode cX5_nextLook 70 = .ok (.goto (-47), 3) := by decide +kernel
theorem dX5_nextLook_73 : decode cX5_nextLook 73 = .ok (.iload_n 2, 1) := by decide +kernel
theorem dX5_nextLook_74 : decode cX5_nextLook 74 = .ok (.ireturn, 1) := by decide +kernel
set_option maxRecDepth 20000 in
theorem ggX5_tallyFitting_X6_start : GoodIn wsX5_tallyFitting wsX6_start := goodIn_r _ [10, 11, 12, 13, 14, 85, 86, 87, 88, 89] (by decide +kernel) (by decide +kernel)
set_option maxRecDepth 20000 in
theorem gX5_tallyFitting_X6_start : GoodIn wsX5_tallyFitting (wsV RX5 146 RX6 yX6_start wsX6_start) := goodIn_app (goodIn_of _ (by decide +kernel)) ggX5_tallyFitting_X6_start
set_option maxRecDepth 20000 in
theorem ggX5_tallyFitting_X6_next : GoodIn wsX5_tallyFitting wsX6_next := goodIn_r _ [18, 19, 14, 13, 12, 20, 21, 22, 9, 23, 24, 25, 26, 27, 28, 11, 29, 30, 31, 32, 33, 34, 35, 36, 37, 38, 39, 40, 41, 42, 43, 44, 45, 46, 47, 48, 49, 50, 51, 52, 53, 54, 55, 56, 57, 58, 59, 60, 61, 62, 85, 86, 87, 88, 89] (by decide +kernel) (by decide +kernel)
set_option maxRecDepth 20000 in
theorem gX5_tallyFitting_X6_next : GoodIn wsX5_tallyFitting (wsV RX5 149 RX6 yX6_next wsX6_next) := goodIn_app (goodIn_of _ (by decide +kernel)) ggX5_tallyFitting_X6_next
set_option maxRecDepth 20000 in
theorem ggX5_tallyFitting_X10_isWithin : GoodIn wsX5_tallyFitting wsX10_isWithin := goodIn_r _ [65] (by decide +kernel) (by decide +kernel)
set_option maxRecDepth 20000 in
theorem gX5_tallyFitting_X10_isWithin_n178 : GoodIn wsX5_tallyFitting (wsX10_isWithin) := ggX5_tallyFitting_X10_isWithin
theorem dX5_tallyFitting_0 : decode cX5_tallyFitting 0 = .ok (.aload_n 0, 1) := by decide +kernel
theorem dX5_tallyFitting_1 : decode cX5_tallyFitting 1 = .ok (.getfield 19, 3) := by decide +kernel
theorem dX5_tallyFitting_4 : decode cX5_tallyFitting 4 = .ok (.sipush 244, 3) := by decide +kernel
theorem dX5_tallyFitting_7 : decode cX5_tallyFitting 7 = .ok (.multianewarray 176 2, 4) := by decide +kernel
theorem dX5_tallyFitting_11 : decode cX5_tallyFitting 11 = .ok (.astore_n 1, 1) := by decide +kernel
theorem dX5_tallyFitting_12 : decode cX5_tallyFitting 12 = .ok (.aload_n 0, 1) := by decide +kernel
theorem dX5_tallyFitting_13 : decode cX5_tallyFitting 13 = .ok (.getfield 55, 3) := by decide +kernel
theorem dX5_tallyFitting_16 : decode cX5_tallyFitting 16 = .ok (.aload_n 0, 1) := by decide +kernel
theorem dX5_tallyFitting_17 : decode cX5_tallyFitting 17 = .ok (.getfield 31, 3) := by decide +kernel
theorem dX5_tallyFitting_20 : decode cX5_tallyFitting 20 = .ok (.getfield 110, 3) := by decide +kernel
theorem dX5_tallyFitting_23 : decode cX5_tallyFitting 23 = .ok (.invokevirtual 146, 3) := by decide +kernel
theorem dX5_tallyFitting_26 : decode cX5_tallyFitting 26 = .ok (.iconst 0, 1) := by decide +kernel
theorem dX5_tallyFitting_27 : decode cX5_tallyFitting 27 = .ok (.istore_n 2, 1) := by decide +kernel
theorem dX5_tallyFitting_28 : decode cX5_tallyFitting 28 = .ok (.iload_n 2, 1) := by decide +kernel
theorem dX5_tallyFitting_29 : decode cX5_tallyFitting 29 = .ok (.sipush 10000, 3) := by decide +kernel
theorem dX5_tallyFitting_32 : decode cX5_tallyFitting 32 = .ok (.if_icmp .ge 68, 3) := by decide +kernel
theorem dX5_tallyFitting_35 : decode cX5_tallyFitting 35 = .ok (.aload_n 0, 1) := by decide +kernel
theorem dX5_tallyFitting_36 : decode cX5_tallyFitting 36 = .ok (.getfield 55, 3) := by decide +kernel
theorem dX5_tallyFitting_39 : decode cX5_tallyFitting 39 = .ok (.invokevirtual 149, 3) := by decide +kernel
theorem dX5_tallyFitting_42 : decode cX5_tallyFitting 42 = .ok (.ifCond .eq 58, 3) := by decide +kernel
theorem dX5_tallyFitting_45 : decode cX5_tallyFitting 45 = .ok (.iconst 0, 1) := by decide +kernel
theorem dX5_tallyFitting_46 : decode cX5_tallyFitting 46 = .ok (.istore_n 3, 1) := by decide +kernel
theorem dX5_tallyFitting_47 : decode cX5_tallyFitting 47 = .ok (.iload_n 3, 1) := by decide +kernel
theorem dX5_tallyFitting_48 : decode cX5_tallyFitting 48 = .ok (.aload_n 0, 1) := by decide +kernel
theorem dX5_tallyFitting_49 : decode cX5_tallyFitting 49 = .ok (.getfield 19, 3) := by decide +kernel
theorem dX5_tallyFitting_52 : decode cX5_tallyFitting 52 = .ok (.if_icmp .ge 42, 3) := by decide +kernel
theorem dX5_tallyFitting_55 : decode cX5_tallyFitting 55 = .ok (.aload_n 0, 1) := by decide +kernel
theorem dX5_tallyFitting_56 : decode cX5_tallyFitting 56 = .ok (.getfield 55, 3) := by decide +kernel
theorem dX5_tallyFitting_59 : decode cX5_tallyFitting 59 = .ok (.getfield 153, 3) := by decide +kernel
theorem dX5_tallyFitting_62 : decode cX5_tallyFitting 62 = .ok (.iload_n 3, 1) := by decide +kernel
theorem dX5_tallyFitting_63 : decode cX5_tallyFitting 63 = .ok (.iaload, 1) := by decide +kernel
theorem dX5_tallyFitting_64 : decode cX5_tallyFitting 64 = .ok (.istore 4, 2) := by decide +kernel
theorem dX5_tallyFitting_66 : decode cX5_tallyFitting 66 = .ok (.iload 4, 2) := by decide +kernel
theorem dX5_tallyFitting_68 : decode cX5_tallyFitting 68 = .ok (.iconst 0, 1) := by decide +kernel
theorem dX5_tallyFitting_69 : decode cX5_tallyFitting 69 = .ok (.sipush 243, 3) := by decide +kernel
theorem dX5_tallyFitting_72 : decode cX5_tallyFitting 72 = .ok (.invokestatic 178, 3) := by decide +kernel
theorem dX5_tallyFitting_75 : decode cX5_tallyFitting 75 = .ok (.ifCond .eq 13, 3) := by decide +kernel
theorem dX5_tallyFitting_78 : decode cX5_tallyFitting 78 = .ok (.aload_n 1, 1) := by decide +kernel
theorem dX5_tallyFitting_79 : decode cX5_tallyFitting 79 = .ok (.iload_n 3, 1) := by decide +kernel
theorem dX5_tallyFitting_80 : decode cX5_tallyFitting 80 = .ok (.aaload, 1) := by decide +kernel
theorem dX5_tallyFitting_81 : decode cX5_tallyFitting 81 = .ok (.iload 4, 2) := by decide +kernel
theorem dX5_tallyFitting_83 : decode cX5_tallyFitting 83 = .ok (.dup2, 1) := by decide +kernel
theorem dX5_tallyFitting_84 : decode cX5_tallyFitting 84 = .ok (.iaload, 1) := by decide +kernel
theorem dX5_tallyFitting_85 : decode cX5_tallyFitting 85 = .ok (.iconst 1, 1) := by decide +kernel
theorem dX5_tallyFitting_86 : decode cX5_tallyFitting 86 = .ok (.iadd, 1) := by decide +kernel
theorem dX5_tallyFitting_87 : decode cX5_tallyFitting 87 = .ok (.iastore, 1) := by decide +kernel
theorem dX5_tallyFitting_88 : decode cX5_tallyFitting 88 = .ok (.iinc 3 1, 3) := by decide +kernel
theorem dX5_tallyFitting_91 : decode cX5_tallyFitting 91 = .ok (.goto (-44), 3) := by decide +kernel
theorem dX5_tallyFitting_94 : decode cX5_tallyFitting 94 = .ok (.iinc 2 1, 3) := by decide +kernel
theorem dX5_tallyFitting_97 : decode cX5_tallyFitting 97 = .ok (.goto (-69), 3) := by decide +kernel
theorem dX5_tallyFitting_100 : decode cX5_tallyFitting 100 = .ok (.aload_n 1, 1) := by decide +kernel
theorem dX5_tallyFitting_101 : decode cX5_tallyFitting 101 = .ok (.areturn, 1) := by decide +kernel
theorem dX5_greatest_0 : decode cX5_greatest 0 = .ok (.iconst 0, 1) := by decide +kernel
theorem dX5_greatest_1 : decode cX5_greatest 1 = .ok (.istore_n 1, 1) := by decide +kernel
theorem dX5_greatest_2 : decode cX5_greatest 2 = .ok (.aload_n 0, 1) := by decide +kernel
theorem dX5_greatest_3 : decode cX5_greatest 3 = .ok (.astore_n 2, 1) := by decide +kernel
theorem dX5_greatest_4 : decode cX5_greatest 4 = .ok (.aload_n 2, 1) := by decide +kernel
theorem dX5_greatest_5 : decode cX5_greatest 5 = .ok (.arraylength, 1) := by decide +kernel
theorem dX5_greatest_6 : decode cX5_greatest 6 = .ok (.istore_n 3, 1) := by decide +kernel
theorem dX5_greatest_7 : decode cX5_greatest 7 = .ok (.iconst 0, 1) := by decide +kernel
theorem dX5_greatest_8 : decode cX5_greatest 8 = .ok (.istore 4, 2) := by decide +kernel
theorem dX5_greatest_10 : decode cX5_greatest 10 = .ok (.iload 4, 2) := by decide +kernel
theorem dX5_greatest_12 : decode cX5_greatest 12 = .ok (.iload_n 3, 1) := by decide +kernel
theorem dX5_greatest_13 : decode cX5_greatest 13 = .ok (.if_icmp .ge 22, 3) := by decide +kernel
theorem dX5_greatest_16 : decode cX5_greatest 16 = .ok (.aload_n 2, 1) := by decide +kernel
theorem dX5_greatest_17 : decode cX5_greatest 17 = .ok (.iload 4, 2) := by decide +kernel
theorem dX5_greatest_19 : decode cX5_greatest 19 = .ok (.iaload, 1) := by decide +kernel
theorem dX5_greatest_20 : decode cX5_greatest 20 = .ok (.istore 5, 2) := by decide +kernel
theorem dX5_greatest_22 : decode cX5_greatest 22 = .ok (.iload_n 1, 1) := by decide +kernel
theorem dX5_greatest_23 : decode cX5_greatest 23 = .ok (.iload 5, 2) := by decide +kernel
theorem dX5_greatest_25 : decode cX5_greatest 25 = .ok (.invokestatic 141, 3) := by decide +kernel
theorem dX5_greatest_28 : decode cX5_greatest 28 = .ok (.istore_n 1, 1) := by decide +kernel
theorem dX5_greatest_29 : decode cX5_greatest 29 = .ok (.iinc 4 1, 3) := by decide +kernel
theorem dX5_greatest_32 : decode cX5_greatest 32 = .ok (.goto (-22), 3) := by decide +kernel
theorem dX5_greatest_35 : decode cX5_greatest 35 = .ok (.iload_n 1, 1) := by decide +kernel
theorem dX5_greatest_36 : decode cX5_greatest 36 = .ok (.ireturn, 1) := by decide +kernel
set_option maxRecDepth 20000 in
theorem ggX5_sorts_X5_canBe : GoodIn wsX5_sorts wsX5_canBe := goodIn_r _ [6, 7, 8, 9, 10, 11, 12, 13, 14, 15, 16, 17, 18, 19, 20, 21, 22, 23, 24, 25, 26, 27, 28, 29, 30, 31, 32, 33, 34, 35, 36, 37, 38, 39, 40, 41, 42, 43, 44, 45, 46, 47, 48, 49, 50, 51, 52, 53, 54, 55, 56, 57, 58, 59, 60, 61, 62, 63, 64, 65, 66, 67, 68, 69, 70, 71, 72, 73, 74, 75, 76, 77] (by decide +kernel) (by decide +kernel)
set_option maxRecDepth 20000 in
theorem gX5_sorts_X5_canBe : GoodIn wsX5_sorts (wsV RX5 182 RX5 yX5_canBe wsX5_canBe) := goodIn_app (goodIn_of _ (by decide +kernel)) ggX5_sorts_X5_canBe
theorem dX5_sorts_0 : decode cX5_sorts 0 = .ok (.iconst 0, 1) := by decide +kernel
theorem dX5_sorts_1 : decode cX5_sorts 1 = .ok (.istore_n 2, 1) := by decide +kernel
theorem dX5_sorts_2 : decode cX5_sorts 2 = .ok (.iconst 0, 1) := by decide +kernel
theorem dX5_sorts_3 : decode cX5_sorts 3 = .ok (.istore_n 3, 1) := by decide +kernel
theorem dX5_sorts_4 : decode cX5_sorts 4 = .ok (.iload_n 3, 1) := by decide +kernel
theorem dX5_sorts_5 : decode cX5_sorts 5 = .ok (.aload_n 0, 1) := by decide +kernel
theorem dX5_sorts_6 : decode cX5_sorts 6 = .ok (.getfield 9, 3) := by decide +kernel
theorem dX5_sorts_9 : decode cX5_sorts 9 = .ok (.arraylength, 1) := by decide +kernel
theorem dX5_sorts_10 : decode cX5_sorts 10 = .ok (.if_icmp .ge 29, 3) := by decide +kernel
theorem dX5_sorts_13 : decode cX5_sorts 13 = .ok (.aload_n 0, 1) := by decide +kernel
theorem dX5_sorts_14 : decode cX5_sorts 14 = .ok (.iload_n 1, 1) := by decide +kernel
theorem dX5_sorts_15 : decode cX5_sorts 15 = .ok (.aload_n 0, 1) := by decide +kernel
theorem dX5_sorts_16 : decode cX5_sorts 16 = .ok (.getfield 9, 3) := by decide +kernel
theorem dX5_sorts_19 : decode cX5_sorts 19 = .ok (.iload_n 3, 1) := by decide +kernel
theorem dX5_sorts_20 : decode cX5_sorts 20 = .ok (.aaload, 1) := by decide +kernel
theorem dX5_sorts_21 : decode cX5_sorts 21 = .ok (.invokevirtual 182, 3) := by decide +kernel
theorem dX5_sorts_24 : decode cX5_sorts 24 = .ok (.ifCond .eq 9, 3) := by decide +kernel
theorem dX5_sorts_27 : decode cX5_sorts 27 = .ok (.iload_n 2, 1) := by decide +kernel
theorem dX5_sorts_28 : decode cX5_sorts 28 = .ok (.iconst 1, 1) := by decide +kernel
theorem dX5_sorts_29 : decode cX5_sorts 29 = .ok (.iload_n 3, 1) := by decide +kernel
theorem dX5_sorts_30 : decode cX5_sorts 30 = .ok (.ishl, 1) := by decide +kernel
theorem dX5_sorts_31 : decode cX5_sorts 31 = .ok (.ior, 1) := by decide +kernel
theorem dX5_sorts_32 : decode cX5_sorts 32 = .ok (.istore_n 2, 1) := by decide +kernel
theorem dX5_sorts_33 : decode cX5_sorts 33 = .ok (.iinc 3 1, 3) := by decide +kernel
theorem dX5_sorts_36 : decode cX5_sorts 36 = .ok (.goto (-32), 3) := by decide +kernel
theorem dX5_sorts_39 : decode cX5_sorts 39 = .ok (.iload_n 2, 1) := by decide +kernel
theorem dX5_sorts_40 : decode cX5_sorts 40 = .ok (.ireturn, 1) := by decide +kernel
set_option maxRecDepth 20000 in
theorem ggX5_canBe_X7_isOf : GoodIn wsX5_canBe wsX7_isOf := goodIn_r _ [6, 7, 68, 69, 70, 71] (by decide +kernel) (by decide +kernel)
set_option maxRecDepth 20000 in
theorem gX5_canBe_X7_isOf : GoodIn wsX5_canBe (wsV RX5 193 RX7 yX7_isOf wsX7_isOf) := goodIn_app (goodIn_of _ (by decide +kernel)) ggX5_canBe_X7_isOf
set_option maxRecDepth 20000 in
theorem ggX5_canBe_X7_allows : GoodIn wsX5_canBe wsX7_allows := goodIn_r _ [11, 12, 13, 14, 15, 16, 17, 18, 19, 20, 21, 22, 23, 24, 25, 26, 27, 28, 29, 30, 31, 32, 33, 34, 35, 36, 37, 38, 39, 40, 41, 42, 43, 44, 45, 46, 47, 48, 68, 69, 70, 71] (by decide +kernel) (by decide +kernel)
set_option maxRecDepth 20000 in
theorem gX5_canBe_X7_allows : GoodIn wsX5_canBe (wsV RX5 198 RX7 yX7_allows wsX7_allows) := goodIn_app (goodIn_of _ (by decide +kernel)) ggX5_canBe_X7_allows
theorem dX5_canBe_0 : decode cX5_canBe 0 = .ok (.iconst 0, 1) := by decide +kernel
theorem dX5_canBe_1 : decode cX5_canBe 1 = .ok (.istore_n 3, 1) := by decide +kernel
theorem dX5_canBe_2 : decode cX5_canBe 2 = .ok (.iload_n 3, 1) := by decide +kernel
theorem dX5_canBe_3 : decode cX5_canBe 3 = .ok (.aload_n 0, 1) := by decide +kernel
theorem dX5_canBe_4 : decode cX5_canBe 4 = .ok (.getfield 31, 3) := by decide +kernel
theorem dX5_canBe_7 : decode cX5_canBe 7 = .ok (.getfield 186, 3) := by decide +kernel
theorem dX5_canBe_10 : decode cX5_canBe 10 = .ok (.if_icmp .ge 57, 3) := by decide +kernel
theorem dX5_canBe_13 : decode cX5_canBe 13 = .ok (.iload_n 3, 1) := by decide +kernel
theorem dX5_canBe_14 : decode cX5_canBe 14 = .ok (.aload_n 0, 1) := by decide +kernel
theorem dX5_canBe_15 : decode cX5_canBe 15 = .ok (.getfield 31, 3) := by decide +kernel
theorem dX5_canBe_18 : decode cX5_canBe 18 = .ok (.getfield 189, 3) := by decide +kernel
theorem dX5_canBe_21 : decode cX5_canBe 21 = .ok (.arraylength, 1) := by decide +kernel
theorem dX5_canBe_22 : decode cX5_canBe 22 = .ok (.if_icmp .ge 45, 3) := by decide +kernel
theorem dX5_canBe_25 : decode cX5_canBe 25 = .ok (.aload_n 0, 1) := by decide +kernel
theorem dX5_canBe_26 : decode cX5_canBe 26 = .ok (.getfield 31, 3) := by decide +kernel
theorem dX5_canBe_29 : decode cX5_canBe 29 = .ok (.getfield 189, 3) := by decide +kernel
theorem dX5_canBe_32 : decode cX5_canBe 32 = .ok (.iload_n 3, 1) := by decide +kernel
theorem dX5_canBe_33 : decode cX5_canBe 33 = .ok (.aaload, 1) := by decide +kernel
theorem dX5_canBe_34 : decode cX5_canBe 34 = .ok (.astore 4, 2) := by decide +kernel
theorem dX5_canBe_36 : decode cX5_canBe 36 = .ok (.aload 4, 2) := by decide +kernel
theorem dX5_canBe_38 : decode cX5_canBe 38 = .ok (.ifnull 23, 3) := by decide +kernel
theorem dX5_canBe_41 : decode cX5_canBe 41 = .ok (.aload 4, 2) := by decide +kernel
theorem dX5_canBe_43 : decode cX5_canBe 43 = .ok (.iload_n 1, 1) := by decide +kernel
theorem dX5_canBe_44 : decode cX5_canBe 44 = .ok (.invokevirtual 193, 3) := by decide +kernel
theorem dX5_canBe_47 : decode cX5_canBe 47 = .ok (.ifCond .eq 14, 3) := by decide +kernel
theorem dX5_canBe_50 : decode cX5_canBe 50 = .ok (.aload 4, 2) := by decide +kernel
theorem dX5_canBe_52 : decode cX5_canBe 52 = .ok (.aload_n 2, 1) := by decide +kernel
theorem dX5_canBe_53 : decode cX5_canBe 53 = .ok (.invokevirtual 198, 3) := by decide +kernel
theorem dX5_canBe_56 : decode cX5_canBe 56 = .ok (.ifCond .ne 5, 3) := by decide +kernel
theorem dX5_canBe_59 : decode cX5_canBe 59 = .ok (.iconst 0, 1) := by decide +kernel
theorem dX5_canBe_60 : decode cX5_canBe 60 = .ok (.ireturn, 1) := by decide +kernel
theorem dX5_canBe_61 : decode cX5_canBe 61 = .ok (.iinc 3 1, 3) := by decide +kernel
theorem dX5_canBe_64 : decode cX5_canBe 64 = .ok (.goto (-62), 3) := by decide +kernel
theorem dX5_canBe_67 : decode cX5_canBe 67 = .ok (.iconst 1, 1) := by decide +kernel
theorem dX5_canBe_68 : decode cX5_canBe 68 = .ok (.ireturn, 1) := by decide +kernel
set_option maxRecDepth 20000 in
theorem ggX5_nextTry_X5_sorts : GoodIn wsX5_nextTry wsX5_sorts := goodIn_r _ [5, 6, 7, 8, 9, 4, 10, 11, 12, 13, 14, 15, 16, 17, 18, 19, 20, 21, 22, 23, 24, 25, 26, 27, 28, 29, 30, 31, 32, 33, 34, 35, 36, 37, 38, 39, 40, 41, 42, 43, 44, 45, 46, 47, 48, 49, 50, 51, 52, 53, 54, 55, 56, 57, 58, 70, 71, 72, 73, 74, 75, 76, 77, 78, 79, 80, 81, 82, 83, 84, 85, 86, 87, 88, 89, 90, 91, 92] (by decide +kernel) (by decide +kernel)
set_option maxRecDepth 20000 in
theorem gX5_nextTry_X5_sorts : GoodIn wsX5_nextTry (wsV RX5 202 RX5 yX5_sorts wsX5_sorts) := goodIn_app (goodIn_of _ (by decide +kernel)) ggX5_nextTry_X5_sorts
set_option maxRecDepth 20000 in
theorem ggX5_nextTry_X5_mostAlike : GoodIn wsX5_nextTry wsX5_mostAlike := goodIn_r _ [62, 6, 63, 56, 39, 57, 64, 26, 27, 28, 29, 65, 31, 32, 33, 34, 35, 36, 37, 38, 40, 41, 42, 43, 44, 45, 46, 47, 48, 49, 50, 51, 52, 53, 54, 55, 58, 66, 67, 68, 4, 69, 70, 71, 72, 73, 74, 75, 76, 77, 78, 79, 80, 81, 82] (by decide +kernel) (by decide +kernel)
set_option maxRecDepth 20000 in
theorem gX5_nextTry_X5_mostAlike : GoodIn wsX5_nextTry (wsV RX5 205 RX5 yX5_mostAlike wsX5_mostAlike) := goodIn_app (goodIn_of _ (by decide +kernel)) ggX5_nextTry_X5_mostAlike
theorem dX5_nextTry_0 : decode cX5_nextTry 0 = .ok (.aload_n 0, 1) := by decide +kernel
theorem dX5_nextTry_1 : decode cX5_nextTry 1 = .ok (.iload_n 1, 1) := by decide +kernel
theorem dX5_nextTry_2 : decode cX5_nextTry 2 = .ok (.invokevirtual 202, 3) := by decide +kernel
theorem dX5_nextTry_5 : decode cX5_nextTry 5 = .ok (.istore_n 2, 1) := by decide +kernel
theorem dX5_nextTry_6 : decode cX5_nextTry 6 = .ok (.iload_n 2, 1) := by decide +kernel
theorem dX5_nextTry_7 : decode cX5_nextTry 7 = .ok (.ifCond .ne 5, 3) := by decide +kernel
theorem dX5_nextTry_10 : decode cX5_nextTry 10 = .ok (.iconst (-1), 1) := by decide +kernel
theorem dX5_nextTry_11 : decode cX5_nextTry 11 = .ok (.ireturn, 1) := by decide +kernel
theorem dX5_nextTry_12 : decode cX5_nextTry 12 = .ok (.iconst (-1), 1) := by decide +kernel
theorem dX5_nextTry_13 : decode cX5_nextTry 13 = .ok (.istore_n 3, 1) := by decide +kernel
theorem dX5_nextTry_14 : decode cX5_nextTry 14 = .ok (.bipush 6, 2) := by decide +kernel
theorem dX5_nextTry_16 : decode cX5_nextTry 16 = .ok (.istore 4, 2) := by decide +kernel
theorem dX5_nextTry_18 : decode cX5_nextTry 18 = .ok (.iconst 0, 1) := by decide +kernel
theorem dX5_nextTry_19 : decode cX5_nextTry 19 = .ok (.istore 5, 2) := by decide +kernel
theorem dX5_nextTry_21 : decode cX5_nextTry 21 = .ok (.iload 5, 2) := by decide +kernel
theorem dX5_nextTry_23 : decode cX5_nextTry 23 = .ok (.bipush 100, 2) := by decide +kernel
theorem dX5_nextTry_25 : decode cX5_nextTry 25 = .ok (.if_icmp .ge 46, 3) := by decide +kernel
theorem dX5_nextTry_28 : decode cX5_nextTry 28 = .ok (.iload 4, 2) := by decide +kernel
theorem dX5_nextTry_30 : decode cX5_nextTry 30 = .ok (.iconst 1, 1) := by decide +kernel
theorem dX5_nextTry_31 : decode cX5_nextTry 31 = .ok (.if_icmp .le 40, 3) := by decide +kernel
theorem dX5_nextTry_34 : decode cX5_nextTry 34 = .ok (.aload_n 0, 1) := by decide +kernel
theorem dX5_nextTry_35 : decode cX5_nextTry 35 = .ok (.iload_n 2, 1) := by decide +kernel
theorem dX5_nextTry_36 : decode cX5_nextTry 36 = .ok (.iload 5, 2) := by decide +kernel
theorem dX5_nextTry_38 : decode cX5_nextTry 38 = .ok (.bipush 10, 2) := by decide +kernel
theorem dX5_nextTry_40 : decode cX5_nextTry 40 = .ok (.idiv, 1) := by decide +kernel
theorem dX5_nextTry_41 : decode cX5_nextTry 41 = .ok (.iload 5, 2) := by decide +kernel
theorem dX5_nextTry_43 : decode cX5_nextTry 43 = .ok (.bipush 10, 2) := by decide +kernel
theorem dX5_nextTry_45 : decode cX5_nextTry 45 = .ok (.irem, 1) := by decide +kernel
theorem dX5_nextTry_46 : decode cX5_nextTry 46 = .ok (.invokevirtual 205, 3) := by decide +kernel
theorem dX5_nextTry_49 : decode cX5_nextTry 49 = .ok (.istore 6, 2) := by decide +kernel
theorem dX5_nextTry_51 : decode cX5_nextTry 51 = .ok (.iload 6, 2) := by decide +kernel
theorem dX5_nextTry_53 : decode cX5_nextTry 53 = .ok (.iload 4, 2) := by decide +kernel
theorem dX5_nextTry_55 : decode cX5_nextTry 55 = .ok (.if_icmp .ge 10, 3) := by decide +kernel
theorem dX5_nextTry_58 : decode cX5_nextTry 58 = .ok (.iload 6, 2) := by decide +kernel
theorem dX5_nextTry_60 : decode cX5_nextTry 60 = .ok (.istore 4, 2) := by decide +kernel
theorem dX5_nextTry_62 : decode cX5_nextTry 62 = .ok (.iload 5, 2) := by decide +kernel
theorem dX5_nextTry_64 : decode cX5_nextTry 64 = .ok (.istore_n 3, 1) := by decide +kernel
theorem dX5_nextTry_65 : decode cX5_nextTry 65 = .ok (.iinc 5 1, 3) := by decide +kernel
theorem dX5_nextTry_68 : decode cX5_nextTry 68 = .ok (.goto (-47), 3) := by decide +kernel
theorem dX5_nextTry_71 : decode cX5_nextTry 71 = .ok (.iload_n 3, 1) := by decide +kernel
theorem dX5_nextTry_72 : decode cX5_nextTry 72 = .ok (.ireturn, 1) := by decide +kernel
set_option maxRecDepth 20000 in
theorem ggX5_mostAlike_X0_made : GoodIn wsX5_mostAlike wsX0_made := goodIn_r _ [10] (by decide +kernel) (by decide +kernel)
set_option maxRecDepth 20000 in
theorem gX5_mostAlike_X0_made : GoodIn wsX5_mostAlike (wsV RX5 104 RX0 yX0_made wsX0_made) := goodIn_app (goodIn_of _ (by decide +kernel)) ggX5_mostAlike_X0_made
set_option maxRecDepth 20000 in
theorem ggX5_mostAlike_X1_made : GoodIn wsX5_mostAlike wsX1_made := goodIn_r _ [17, 18, 19, 4, 20] (by decide +kernel) (by decide +kernel)
set_option maxRecDepth 20000 in
theorem gX5_mostAlike_X1_made_u104X1 : GoodIn wsX5_mostAlike (va_wsO RX5 104 RX1 "NumberPile$Brick" ⟨"NumberPile$Brick", "made", "(II)I"⟩ yX1_made wsX1_made) := goodIn_app (goodIn_of _ (by decide +kernel)) ggX5_mostAlike_X1_made
set_option maxRecDepth 20000 in
theorem ggX5_mostAlike_X2_made : GoodIn wsX5_mostAlike wsX2_made := goodIn_r _ [24, 25, 26, 27, 28, 29, 30] (by decide +kernel) (by decide +kernel)
set_option maxRecDepth 20000 in
theorem gX5_mostAlike_X2_made_u104X2 : GoodIn wsX5_mostAlike (va_wsO RX5 104 RX2 "NumberPile$Brick" ⟨"NumberPile$Brick", "made", "(II)I"⟩ yX2_made wsX2_made) := goodIn_app (goodIn_of _ (by decide +kernel)) ggX5_mostAlike_X2_made
set_option maxRecDepth 20000 in
theorem ggX5_mostAlike_X3_made : GoodIn wsX5_mostAlike wsX3_made := goodIn_r _ [34, 35, 3, 4, 5] (by decide +kernel) (by decide +kernel)
set_option maxRecDepth 20000 in
theorem gX5_mostAlike_X3_made_u104X3 : GoodIn wsX5_mostAlike (va_wsO RX5 104 RX3 "NumberPile$Brick" ⟨"NumberPile$Brick", "made", "(II)I"⟩ yX3_made wsX3_made) := goodIn_app (goodIn_of _ (by decide +kernel)) ggX5_mostAlike_X3_made
set_option maxRecDepth 20000 in
theorem ggX5_mostAlike_X9_made : GoodIn wsX5_mostAlike wsX9_made := goodIn_r _ [30] (by decide +kernel) (by decide +kernel)
set_option maxRecDepth 20000 in
theorem gX5_mostAlike_X9_made_u104X9 : GoodIn wsX5_mostAlike (va_wsO RX5 104 RX9 "NumberPile$Brick" ⟨"NumberPile$Brick", "made", "(II)I"⟩ yX9_made wsX9_made) := goodIn_app (goodIn_of _ (by decide +kernel)) ggX5_mostAlike_X9_made
set_option maxRecDepth 20000 in
theorem ggX5_mostAlike_X5_manyMaking : GoodIn wsX5_mostAlike wsX5_manyMaking := goodIn_r _ [41, 1, 6, 7, 8, 9, 10, 11, 12, 13, 14, 15, 16, 17, 18, 19, 4, 20, 21, 22, 23, 24, 25, 26, 27, 28, 29, 30, 31, 32, 33, 34, 35, 3, 5, 36, 42, 43, 44, 45, 46, 47, 48, 49, 50, 51, 52, 53, 54] (by decide +kernel) (by decide +kernel)
set_option maxRecDepth 20000 in
theorem gX5_mostAlike_X5_manyMaking : GoodIn wsX5_mostAlike (wsV RX5 209 RX5 yX5_manyMaking wsX5_manyMaking) := goodIn_app (goodIn_of _ (by decide +kernel)) ggX5_mostAlike_X5_manyMaking
theorem dX5_mostAlike_0 : decode cX5_mostAlike 0 = .ok (.iconst 0, 1) := by decide +kernel
theorem dX5_mostAlike_1 : decode cX5_mostAlike 1 = .ok (.istore 4, 2) := by decide +kernel
theorem dX5_mostAlike_3 : decode cX5_mostAlike 3 = .ok (.iconst 0, 1) := by decide +kernel
theorem dX5_mostAlike_4 : decode cX5_mostAlike 4 = .ok (.istore 5, 2) := by decide +kernel
theorem dX5_mostAlike_6 : decode cX5_mostAlike 6 = .ok (.iload 5, 2) := by decide +kernel
theorem dX5_mostAlike_8 : decode cX5_mostAlike 8 = .ok (.aload_n 0, 1) := by decide +kernel
theorem dX5_mostAlike_9 : decode cX5_mostAlike 9 = .ok (.getfield 9, 3) := by decide +kernel
theorem dX5_mostAlike_12 : decode cX5_mostAlike 12 = .ok (.arraylength, 1) := by decide +kernel
theorem dX5_mostAlike_13 : decode cX5_mostAlike 13 = .ok (.if_icmp .ge 44, 3) := by decide +kernel
theorem dX5_mostAlike_16 : decode cX5_mostAlike 16 = .ok (.iload_n 1, 1) := by decide +kernel
theorem dX5_mostAlike_17 : decode cX5_mostAlike 17 = .ok (.iload 5, 2) := by decide +kernel
theorem dX5_mostAlike_19 : decode cX5_mostAlike 19 = .ok (.ishr, 1) := by decide +kernel
theorem dX5_mostAlike_20 : decode cX5_mostAlike 20 = .ok (.iconst 1, 1) := by decide +kernel
theorem dX5_mostAlike_21 : decode cX5_mostAlike 21 = .ok (.iand, 1) := by decide +kernel
theorem dX5_mostAlike_22 : decode cX5_mostAlike 22 = .ok (.ifCond .eq 29, 3) := by decide +kernel
theorem dX5_mostAlike_25 : decode cX5_mostAlike 25 = .ok (.iload 4, 2) := by decide +kernel
theorem dX5_mostAlike_27 : decode cX5_mostAlike 27 = .ok (.aload_n 0, 1) := by decide +kernel
theorem dX5_mostAlike_28 : decode cX5_mostAlike 28 = .ok (.iload_n 1, 1) := by decide +kernel
theorem dX5_mostAlike_29 : decode cX5_mostAlike 29 = .ok (.iload_n 2, 1) := by decide +kernel
theorem dX5_mostAlike_30 : decode cX5_mostAlike 30 = .ok (.iload_n 3, 1) := by decide +kernel
theorem dX5_mostAlike_31 : decode cX5_mostAlike 31 = .ok (.aload_n 0, 1) := by decide +kernel
theorem dX5_mostAlike_32 : decode cX5_mostAlike 32 = .ok (.getfield 9, 3) := by decide +kernel
theorem dX5_mostAlike_35 : decode cX5_mostAlike 35 = .ok (.iload 5, 2) := by decide +kernel
theorem dX5_mostAlike_37 : decode cX5_mostAlike 37 = .ok (.aaload, 1) := by decide +kernel
theorem dX5_mostAlike_38 : decode cX5_mostAlike 38 = .ok (.iload_n 2, 1) := by decide +kernel
theorem dX5_mostAlike_39 : decode cX5_mostAlike 39 = .ok (.iload_n 3, 1) := by decide +kernel
theorem dX5_mostAlike_40 : decode cX5_mostAlike 40 = .ok (.invokevirtual 104, 3) := by decide +kernel
theorem dX5_mostAlike_43 : decode cX5_mostAlike 43 = .ok (.invokevirtual 209, 3) := by decide +kernel
theorem dX5_mostAlike_46 : decode cX5_mostAlike 46 = .ok (.invokestatic 141, 3) := by decide +kernel
theorem dX5_mostAlike_49 : decode cX5_mostAlike 49 = .ok (.istore 4, 2) := by decide +kernel
theorem dX5_mostAlike_51 : decode cX5_mostAlike 51 = .ok (.iinc 5 1, 3) := by decide +kernel
theorem dX5_mostAlike_54 : decode cX5_mostAlike 54 = .ok (.goto (-48), 3) := by decide +kernel
theorem dX5_mostAlike_57 : decode cX5_mostAlike 57 = .ok (.iload 4, 2) := by decide +kernel
theorem dX5_mostAlike_59 : decode cX5_mostAlike 59 = .ok (.ireturn, 1) := by decide +kernel
set_option maxRecDepth 20000 in
theorem ggX5_manyMaking_X0_made : GoodIn wsX5_manyMaking wsX0_made := goodIn_r _ [6] (by decide +kernel) (by decide +kernel)
set_option maxRecDepth 20000 in
theorem gX5_manyMaking_X0_made : GoodIn wsX5_manyMaking (wsV RX5 104 RX0 yX0_made wsX0_made) := goodIn_app (goodIn_of _ (by decide +kernel)) ggX5_manyMaking_X0_made
set_option maxRecDepth 20000 in
theorem ggX5_manyMaking_X1_made : GoodIn wsX5_manyMaking wsX1_made := goodIn_r _ [13, 14, 15, 16, 17] (by decide +kernel) (by decide +kernel)
set_option maxRecDepth 20000 in
theorem gX5_manyMaking_X1_made_u104X1 : GoodIn wsX5_manyMaking (va_wsO RX5 104 RX1 "NumberPile$Brick" ⟨"NumberPile$Brick", "made", "(II)I"⟩ yX1_made wsX1_made) := goodIn_app (goodIn_of _ (by decide +kernel)) ggX5_manyMaking_X1_made
set_option maxRecDepth 20000 in
theorem ggX5_manyMaking_X2_made : GoodIn wsX5_manyMaking wsX2_made := goodIn_r _ [21, 22, 23, 24, 25, 26, 27] (by decide +kernel) (by decide +kernel)
set_option maxRecDepth 20000 in
theorem gX5_manyMaking_X2_made_u104X2 : GoodIn wsX5_manyMaking (va_wsO RX5 104 RX2 "NumberPile$Brick" ⟨"NumberPile$Brick", "made", "(II)I"⟩ yX2_made wsX2_made) := goodIn_app (goodIn_of _ (by decide +kernel)) ggX5_manyMaking_X2_made
set_option maxRecDepth 20000 in
theorem ggX5_manyMaking_X3_made : GoodIn wsX5_manyMaking wsX3_made := goodIn_r _ [31, 32, 33, 16, 34] (by decide +kernel) (by decide +kernel)
set_option maxRecDepth 20000 in
theorem gX5_manyMaking_X3_made_u104X3 : GoodIn wsX5_manyMaking (va_wsO RX5 104 RX3 "NumberPile$Brick" ⟨"NumberPile$Brick", "made", "(II)I"⟩ yX3_made wsX3_made) := goodIn_app (goodIn_of _ (by decide +kernel)) ggX5_manyMaking_X3_made
set_option maxRecDepth 20000 in
theorem ggX5_manyMaking_X9_made : GoodIn wsX5_manyMaking wsX9_made := goodIn_r _ [27] (by decide +kernel) (by decide +kernel)
set_option maxRecDepth 20000 in
theorem gX5_manyMaking_X9_made_u104X9 : GoodIn wsX5_manyMaking (va_wsO RX5 104 RX9 "NumberPile$Brick" ⟨"NumberPile$Brick", "made", "(II)I"⟩ yX9_made wsX9_made) := goodIn_app (goodIn_of _ (by decide +kernel)) ggX5_manyMaking_X9_made
theorem dX5_manyMaking_0 : decode cX5_manyMaking 0 = .ok (.iconst 0, 1) := by decide +kernel
theorem dX5_manyMaking_1 : decode cX5_manyMaking 1 = .ok (.istore 5, 2) := by decide +kernel
theorem dX5_manyMaking_3 : decode cX5_manyMaking 3 = .ok (.iconst 0, 1) := by decide +kernel
theorem dX5_manyMaking_4 : decode cX5_manyMaking 4 = .ok (.istore 6, 2) := by decide +kernel
theorem dX5_manyMaking_6 : decode cX5_manyMaking 6 = .ok (.iload 6, 2) := by decide +kernel
theorem dX5_manyMaking_8 : decode cX5_manyMaking 8 = .ok (.aload_n 0, 1) := by decide +kernel
theorem dX5_manyMaking_9 : decode cX5_manyMaking 9 = .ok (.getfield 9, 3) := by decide +kernel
theorem dX5_manyMaking_12 : decode cX5_manyMaking 12 = .ok (.arraylength, 1) := by decide +kernel
theorem dX5_manyMaking_13 : decode cX5_manyMaking 13 = .ok (.if_icmp .ge 38, 3) := by decide +kernel
theorem dX5_manyMaking_16 : decode cX5_manyMaking 16 = .ok (.iload_n 1, 1) := by decide +kernel
theorem dX5_manyMaking_17 : decode cX5_manyMaking 17 = .ok (.iload 6, 2) := by decide +kernel
theorem dX5_manyMaking_19 : decode cX5_manyMaking 19 = .ok (.ishr, 1) := by decide +kernel
theorem dX5_manyMaking_20 : decode cX5_manyMaking 20 = .ok (.iconst 1, 1) := by decide +kernel
theorem dX5_manyMaking_21 : decode cX5_manyMaking 21 = .ok (.iand, 1) := by decide +kernel
theorem dX5_manyMaking_22 : decode cX5_manyMaking 22 = .ok (.ifCond .eq 23, 3) := by decide +kernel
theorem dX5_manyMaking_25 : decode cX5_manyMaking 25 = .ok (.aload_n 0, 1) := by decide +kernel
theorem dX5_manyMaking_26 : decode cX5_manyMaking 26 = .ok (.getfield 9, 3) := by decide +kernel
theorem dX5_manyMaking_29 : decode cX5_manyMaking 29 = .ok (.iload 6, 2) := by decide +kernel
theorem dX5_manyMaking_31 : decode cX5_manyMaking 31 = .ok (.aaload, 1) := by decide +kernel
theorem dX5_manyMaking_32 : decode cX5_manyMaking 32 = .ok (.iload_n 2, 1) := by decide +kernel
theorem dX5_manyMaking_33 : decode cX5_manyMaking 33 = .ok (.iload_n 3, 1) := by decide +kernel
theorem dX5_manyMaking_34 : decode cX5_manyMaking 34 = .ok (.invokevirtual 104, 3) := by decide +kernel
theorem dX5_manyMaking_37 : decode cX5_manyMaking 37 = .ok (.iload 4, 2) := by decide +kernel
theorem dX5_manyMaking_39 : decode cX5_manyMaking 39 = .ok (.if_icmp .ne 6, 3) := by decide +kernel
theorem dX5_manyMaking_42 : decode cX5_manyMaking 42 = .ok (.iinc 5 1, 3) := by decide +kernel
theorem dX5_manyMaking_45 : decode cX5_manyMaking 45 = .ok (.iinc 6 1, 3) := by decide +kernel
theorem dX5_manyMaking_48 : decode cX5_manyMaking 48 = .ok (.goto (-42), 3) := by decide +kernel
theorem dX5_manyMaking_51 : decode cX5_manyMaking 51 = .ok (.iload 5, 2) := by decide +kernel
theorem dX5_manyMaking_53 : decode cX5_manyMaking 53 = .ok (.ireturn, 1) := by decide +kernel
set_option maxRecDepth 20000 in
theorem ggX5_draw_X5_raise : GoodIn wsX5_draw wsX5_raise := goodIn_r _ [11, 1, 12, 13, 14, 15, 16, 17, 18, 19, 20, 21, 22, 23, 24, 25, 26, 27, 28, 29, 30, 31, 32, 33, 34, 35, 36, 37, 38, 39, 40, 41, 42, 43, 44, 45, 46, 47, 48, 49, 50, 51, 52, 53, 54, 55, 56, 57, 58, 59, 60, 61, 62, 63, 64, 65, 66, 67] (by decide +kernel) (by decide +kernel)
set_option maxRecDepth 20000 in
theorem gX5_draw_X5_raise : GoodIn wsX5_draw (wsV RX5 100 RX5 yX5_raise wsX5_raise) := goodIn_app (goodIn_of _ (by decide +kernel)) ggX5_draw_X5_raise
theorem dX5_draw_0 : decode cX5_draw 0 = .ok (.iload_n 1, 1) := by decide +kernel
theorem dX5_draw_1 : decode cX5_draw 1 = .ok (.istore_n 2, 1) := by decide +kernel
theorem dX5_draw_2 : decode cX5_draw 2 = .ok (.iconst 0, 1) := by decide +kernel
theorem dX5_draw_3 : decode cX5_draw 3 = .ok (.istore_n 3, 1) := by decide +kernel
theorem dX5_draw_4 : decode cX5_draw 4 = .ok (.iload_n 3, 1) := by decide +kernel
theorem dX5_draw_5 : decode cX5_draw 5 = .ok (.aload_n 0, 1) := by decide +kernel
theorem dX5_draw_6 : decode cX5_draw 6 = .ok (.getfield 15, 3) := by decide +kernel
theorem dX5_draw_9 : decode cX5_draw 9 = .ok (.if_icmp .ge 38, 3) := by decide +kernel
theorem dX5_draw_12 : decode cX5_draw 12 = .ok (.ldc2_w 213, 3) := by decide +kernel
theorem dX5_draw_15 : decode cX5_draw 15 = .ok (.iload_n 2, 1) := by decide +kernel
theorem dX5_draw_16 : decode cX5_draw 16 = .ok (.i2l, 1) := by decide +kernel
theorem dX5_draw_17 : decode cX5_draw 17 = .ok (.lmul, 1) := by decide +kernel
theorem dX5_draw_18 : decode cX5_draw 18 = .ok (.ldc2_w 215, 3) := by decide +kernel
theorem dX5_draw_21 : decode cX5_draw 21 = .ok (.ladd, 1) := by decide +kernel
theorem dX5_draw_22 : decode cX5_draw 22 = .ok (.ldc2_w 219, 3) := by decide +kernel
theorem dX5_draw_25 : decode cX5_draw 25 = .ok (.land, 1) := by decide +kernel
theorem dX5_draw_26 : decode cX5_draw 26 = .ok (.l2i, 1) := by decide +kernel
theorem dX5_draw_27 : decode cX5_draw 27 = .ok (.istore_n 2, 1) := by decide +kernel
theorem dX5_draw_28 : decode cX5_draw 28 = .ok (.aload_n 0, 1) := by decide +kernel
theorem dX5_draw_29 : decode cX5_draw 29 = .ok (.getfield 41, 3) := by decide +kernel
theorem dX5_draw_32 : decode cX5_draw 32 = .ok (.iload_n 3, 1) := by decide +kernel
theorem dX5_draw_33 : decode cX5_draw 33 = .ok (.iload_n 2, 1) := by decide +kernel
theorem dX5_draw_34 : decode cX5_draw 34 = .ok (.ldc 221, 2) := by decide +kernel
theorem dX5_draw_36 : decode cX5_draw 36 = .ok (.idiv, 1) := by decide +kernel
theorem dX5_draw_37 : decode cX5_draw 37 = .ok (.bipush 10, 2) := by decide +kernel
theorem dX5_draw_39 : decode cX5_draw 39 = .ok (.irem, 1) := by decide +kernel
theorem dX5_draw_40 : decode cX5_draw 40 = .ok (.iastore, 1) := by decide +kernel
theorem dX5_draw_41 : decode cX5_draw 41 = .ok (.iinc 3 1, 3) := by decide +kernel
theorem dX5_draw_44 : decode cX5_draw 44 = .ok (.goto (-40), 3) := by decide +kernel
theorem dX5_draw_47 : decode cX5_draw 47 = .ok (.aload_n 0, 1) := by decide +kernel
theorem dX5_draw_48 : decode cX5_draw 48 = .ok (.aload_n 0, 1) := by decide +kernel
theorem dX5_draw_49 : decode cX5_draw 49 = .ok (.getfield 41, 3) := by decide +kernel
theorem dX5_draw_52 : decode cX5_draw 52 = .ok (.invokevirtual 100, 3) := by decide +kernel
theorem dX5_draw_55 : decode cX5_draw 55 = .ok (.iload_n 2, 1) := by decide +kernel
theorem dX5_draw_56 : decode cX5_draw 56 = .ok (.ireturn, 1) := by decide +kernel
theorem dX6_init_0 : decode cX6_init 0 = .ok (.aload_n 0, 1) := by decide +kernel
theorem dX6_init_1 : decode cX6_init 1 = .ok (.invokespecial 3, 3) := by decide +kernel
theorem dX6_init_4 : decode cX6_init 4 = .ok (.aload_n 0, 1) := by decide +kernel
theorem dX6_init_5 : decode cX6_init 5 = .ok (.iload_n 1, 1) := by decide +kernel
theorem dX6_init_6 : decode cX6_init 6 = .ok (.putfield 9, 3) := by decide +kernel
theorem dX6_init_9 : decode cX6_init 9 = .ok (.aload_n 0, 1) := by decide +kernel
theorem dX6_init_10 : decode cX6_init 10 = .ok (.aload_n 2, 1) := by decide +kernel
theorem dX6_init_11 : decode cX6_init 11 = .ok (.putfield 15, 3) := by decide +kernel
theorem dX6_init_14 : decode cX6_init 14 = .ok (.aload_n 0, 1) := by decide +kernel
theorem dX6_init_15 : decode cX6_init 15 = .ok (.iload_n 1, 1) := by decide +kernel
theorem dX6_init_16 : decode cX6_init 16 = .ok (.aload_n 2, 1) := by decide +kernel
theorem dX6_init_17 : decode cX6_init 17 = .ok (.arraylength, 1) := by decide +kernel
theorem dX6_init_18 : decode cX6_init 18 = .ok (.iadd, 1) := by decide +kernel
theorem dX6_init_19 : decode cX6_init 19 = .ok (.newarray .int, 2) := by decide +kernel
theorem dX6_init_21 : decode cX6_init 21 = .ok (.putfield 19, 3) := by decide +kernel
theorem dX6_init_24 : decode cX6_init 24 = .ok (.aload_n 0, 1) := by decide +kernel
theorem dX6_init_25 : decode cX6_init 25 = .ok (.aload_n 0, 1) := by decide +kernel
theorem dX6_init_26 : decode cX6_init 26 = .ok (.getfield 19, 3) := by decide +kernel
theorem dX6_init_29 : decode cX6_init 29 = .ok (.putfield 23, 3) := by decide +kernel
theorem dX6_init_32 : decode cX6_init 32 = .ok (.aload_n 0, 1) := by decide +kernel
theorem dX6_init_33 : decode cX6_init 33 = .ok (.iconst (-1), 1) := by decide +kernel
theorem dX6_init_34 : decode cX6_init 34 = .ok (.putfield 26, 3) := by decide +kernel
theorem dX6_init_37 : decode cX6_init 37 = .ok (.return_, 1) := by decide +kernel
theorem dX6_start_0 : decode cX6_start 0 = .ok (.aload_n 0, 1) := by decide +kernel
theorem dX6_start_1 : decode cX6_start 1 = .ok (.aload_n 1, 1) := by decide +kernel
theorem dX6_start_2 : decode cX6_start 2 = .ok (.putfield 23, 3) := by decide +kernel
theorem dX6_start_5 : decode cX6_start 5 = .ok (.aload_n 0, 1) := by decide +kernel
theorem dX6_start_6 : decode cX6_start 6 = .ok (.aload_n 0, 1) := by decide +kernel
theorem dX6_start_7 : decode cX6_start 7 = .ok (.getfield 9, 3) := by decide +kernel
theorem dX6_start_10 : decode cX6_start 10 = .ok (.ifCond .le 20, 3) := by decide +kernel
theorem dX6_start_13 : decode cX6_start 13 = .ok (.aload_n 0, 1) := by decide +kernel
theorem dX6_start_14 : decode cX6_start 14 = .ok (.getfield 23, 3) := by decide +kernel
theorem dX6_start_17 : decode cX6_start 17 = .ok (.arraylength, 1) := by decide +kernel
theorem dX6_start_18 : decode cX6_start 18 = .ok (.aload_n 0, 1) := by decide +kernel
theorem dX6_start_19 : decode cX6_start 19 = .ok (.getfield 19, 3) := by decide +kernel
theorem dX6_start_22 : decode cX6_start 22 = .ok (.arraylength, 1) := by decide +kernel
theorem dX6_start_23 : decode cX6_start 23 = .ok (.if_icmp .ne 7, 3) := by decide +kernel
theorem dX6_start_26 : decode cX6_start 26 = .ok (.iconst 0, 1) := by decide +kernel
theorem dX6_start_27 : decode cX6_start 27 = .ok (.goto 4, 3) := by decide +kernel
theorem dX6_start_30 : decode cX6_start 30 = .ok (.iconst (-1), 1) := by decide +kernel
theorem dX6_start_31 : decode cX6_start 31 = .ok (.putfield 26, 3) := by decide +kernel
theorem dX6_start_34 : decode cX6_start 34 = .ok (.aload_n 0, 1) := by decide +kernel
theorem dX6_start_35 : decode cX6_start 35 = .ok (.getfield 26, 3) := by decide +kernel
theorem dX6_start_38 : decode cX6_start 38 = .ok (.ifCond .ne 10, 3) := by decide +kernel
theorem dX6_start_41 : decode cX6_start 41 = .ok (.aload_n 0, 1) := by decide +kernel
theorem dX6_start_42 : decode cX6_start 42 = .ok (.getfield 19, 3) := by decide +kernel
theorem dX6_start_45 : decode cX6_start 45 = .ok (.iconst 0, 1) := by decide +kernel
theorem dX6_start_46 : decode cX6_start 46 = .ok (.iconst (-1), 1) := by decide +kernel
theorem dX6_start_47 : decode cX6_start 47 = .ok (.iastore, 1) := by decide +kernel
theorem dX6_start_48 : decode cX6_start 48 = .ok (.return_, 1) := by decide +kernel
set_option maxRecDepth 20000 in
theorem ggX6_next_X6_holds : GoodIn wsX6_next wsX6_holds := goodIn_r _ [9, 2, 4, 3, 10, 11, 12, 13, 8, 14, 15, 16, 17, 18, 19, 20, 21, 22, 23, 24, 25, 26, 27, 28, 29, 30, 31, 32, 33, 34, 35, 36, 37, 38, 39, 40, 41, 42, 43, 44, 45, 46, 47, 48, 49, 50, 51, 52, 53, 54] (by decide +kernel) (by decide +kernel)
set_option maxRecDepth 20000 in
theorem gX6_next_X6_holds : GoodIn wsX6_next (wsV RX6 30 RX6 yX6_holds wsX6_holds) := goodIn_app (goodIn_of _ (by decide +kernel)) ggX6_next_X6_holds
theorem dX6_next_0 : decode cX6_next 0 = .ok (.iconst 0, 1) := by decide +kernel
theorem dX6_next_1 : decode cX6_next 1 = .ok (.istore_n 1, 1) := by decide +kernel
theorem dX6_next_2 : decode cX6_next 2 = .ok (.iload_n 1, 1) := by decide +kernel
theorem dX6_next_3 : decode cX6_next 3 = .ok (.ldc 29, 2) := by decide +kernel
theorem dX6_next_5 : decode cX6_next 5 = .ok (.if_icmp .ge 101, 3) := by decide +kernel
theorem dX6_next_8 : decode cX6_next 8 = .ok (.aload_n 0, 1) := by decide +kernel
theorem dX6_next_9 : decode cX6_next 9 = .ok (.getfield 26, 3) := by decide +kernel
theorem dX6_next_12 : decode cX6_next 12 = .ok (.ifCond .lt 94, 3) := by decide +kernel
theorem dX6_next_15 : decode cX6_next 15 = .ok (.aload_n 0, 1) := by decide +kernel
theorem dX6_next_16 : decode cX6_next 16 = .ok (.getfield 19, 3) := by decide +kernel
theorem dX6_next_19 : decode cX6_next 19 = .ok (.aload_n 0, 1) := by decide +kernel
theorem dX6_next_20 : decode cX6_next 20 = .ok (.getfield 26, 3) := by decide +kernel
theorem dX6_next_23 : decode cX6_next 23 = .ok (.iaload, 1) := by decide +kernel
theorem dX6_next_24 : decode cX6_next 24 = .ok (.bipush 9, 2) := by decide +kernel
theorem dX6_next_26 : decode cX6_next 26 = .ok (.if_icmp .lt 16, 3) := by decide +kernel
theorem dX6_next_29 : decode cX6_next 29 = .ok (.aload_n 0, 1) := by decide +kernel
theorem dX6_next_30 : decode cX6_next 30 = .ok (.dup, 1) := by decide +kernel
theorem dX6_next_31 : decode cX6_next 31 = .ok (.getfield 26, 3) := by decide +kernel
theorem dX6_next_34 : decode cX6_next 34 = .ok (.iconst 1, 1) := by decide +kernel
theorem dX6_next_35 : decode cX6_next 35 = .ok (.isub, 1) := by decide +kernel
theorem dX6_next_36 : decode cX6_next 36 = .ok (.putfield 26, 3) := by decide +kernel
theorem dX6_next_39 : decode cX6_next 39 = .ok (.goto 61, 3) := by decide +kernel
theorem dX6_next_42 : decode cX6_next 42 = .ok (.aload_n 0, 1) := by decide +kernel
theorem dX6_next_43 : decode cX6_next 43 = .ok (.getfield 19, 3) := by decide +kernel
theorem dX6_next_46 : decode cX6_next 46 = .ok (.aload_n 0, 1) := by decide +kernel
theorem dX6_next_47 : decode cX6_next 47 = .ok (.getfield 26, 3) := by decide +kernel
theorem dX6_next_50 : decode cX6_next 50 = .ok (.dup2, 1) := by decide +kernel
theorem dX6_next_51 : decode cX6_next 51 = .ok (.iaload, 1) := by decide +kernel
theorem dX6_next_52 : decode cX6_next 52 = .ok (.iconst 1, 1) := by decide +kernel
theorem dX6_next_53 : decode cX6_next 53 = .ok (.iadd, 1) := by decide +kernel
theorem dX6_next_54 : decode cX6_next 54 = .ok (.iastore, 1) := by decide +kernel
theorem dX6_next_55 : decode cX6_next 55 = .ok (.aload_n 0, 1) := by decide +kernel
theorem dX6_next_56 : decode cX6_next 56 = .ok (.invokevirtual 30, 3) := by decide +kernel
theorem dX6_next_59 : decode cX6_next 59 = .ok (.ifCond .ne 6, 3) := by decide +kernel
theorem dX6_next_62 : decode cX6_next 62 = .ok (.goto 38, 3) := by decide +kernel
theorem dX6_next_65 : decode cX6_next 65 = .ok (.aload_n 0, 1) := by decide +kernel
theorem dX6_next_66 : decode cX6_next 66 = .ok (.getfield 26, 3) := by decide +kernel
theorem dX6_next_69 : decode cX6_next 69 = .ok (.aload_n 0, 1) := by decide +kernel
theorem dX6_next_70 : decode cX6_next 70 = .ok (.getfield 9, 3) := by decide +kernel
theorem dX6_next_73 : decode cX6_next 73 = .ok (.iconst 1, 1) := by decide +kernel
theorem dX6_next_74 : decode cX6_next 74 = .ok (.isub, 1) := by decide +kernel
theorem dX6_next_75 : decode cX6_next 75 = .ok (.if_icmp .ne 5, 3) := by decide +kernel
theorem dX6_next_78 : decode cX6_next 78 = .ok (.iconst 1, 1) := by decide +kernel
theorem dX6_next_79 : decode cX6_next 79 = .ok (.ireturn, 1) := by decide +kernel
theorem dX6_next_80 : decode cX6_next 80 = .ok (.aload_n 0, 1) := by decide +kernel
theorem dX6_next_81 : decode cX6_next 81 = .ok (.dup, 1) := by decide +kernel
theorem dX6_next_82 : decode cX6_next 82 = .ok (.getfield 26, 3) := by decide +kernel
theorem dX6_next_85 : decode cX6_next 85 = .ok (.iconst 1, 1) := by decide +kernel
theorem dX6_next_86 : decode cX6_next 86 = .ok (.iadd, 1) := by decide +kernel
theorem dX6_next_87 : decode cX6_next 87 = .ok (.putfield 26, 3) := by decide +kernel
theorem dX6_next_90 : decode cX6_next 90 = .ok (.aload_n 0, 1) := by decide +kernel
theorem dX6_next_91 : decode cX6_next 91 = .ok (.getfield 19, 3) := by decide +kernel
theorem dX6_next_94 : decode cX6_next 94 = .ok (.aload_n 0, 1) := by decide +kernel
theorem dX6_next_95 : decode cX6_next 95 = .ok (.getfield 26, 3) := by decide +kernel
theorem dX6_next_98 : decode cX6_next 98 = .ok (.iconst (-1), 1) := by decide +kernel
theorem dX6_next_99 : decode cX6_next 99 = .ok (.iastore, 1) := by decide +kernel
theorem dX6_next_100 : decode cX6_next 100 = .ok (.iinc 1 1, 3) := by decide +kernel
theorem dX6_next_103 : decode cX6_next 103 = .ok (.goto (-101), 3) := by decide +kernel
theorem dX6_next_106 : decode cX6_next 106 = .ok (.iconst 0, 1) := by decide +kernel
theorem dX6_next_107 : decode cX6_next 107 = .ok (.ireturn, 1) := by decide +kernel
set_option maxRecDepth 20000 in
theorem ggX6_number_X10_asNumber : GoodIn wsX6_number wsX10_asNumber := goodIn_r _ [5] (by decide +kernel) (by decide +kernel)
set_option maxRecDepth 20000 in
theorem gX6_number_X10_asNumber_n34 : GoodIn wsX6_number (wsX10_asNumber) := ggX6_number_X10_asNumber
theorem dX6_number_0 : decode cX6_number 0 = .ok (.aload_n 0, 1) := by decide +kernel
theorem dX6_number_1 : decode cX6_number 1 = .ok (.getfield 19, 3) := by decide +kernel
theorem dX6_number_4 : decode cX6_number 4 = .ok (.aload_n 0, 1) := by decide +kernel
theorem dX6_number_5 : decode cX6_number 5 = .ok (.getfield 9, 3) := by decide +kernel
theorem dX6_number_8 : decode cX6_number 8 = .ok (.invokestatic 34, 3) := by decide +kernel
theorem dX6_number_11 : decode cX6_number 11 = .ok (.ireturn, 1) := by decide +kernel
set_option maxRecDepth 20000 in
theorem ggX6_holds_X6_isOtherThanTold : GoodIn wsX6_holds wsX6_isOtherThanTold := goodIn_r _ [9, 10, 3, 45, 46, 47, 48, 49] (by decide +kernel) (by decide +kernel)
set_option maxRecDepth 20000 in
theorem gX6_holds_X6_isOtherThanTold : GoodIn wsX6_holds (wsV RX6 38 RX6 yX6_isOtherThanTold wsX6_isOtherThanTold) := goodIn_app (goodIn_of _ (by decide +kernel)) ggX6_holds_X6_isOtherThanTold
set_option maxRecDepth 20000 in
theorem ggX6_holds_X0_made : GoodIn wsX6_holds wsX0_made := goodIn_r _ [15] (by decide +kernel) (by decide +kernel)
set_option maxRecDepth 20000 in
theorem gX6_holds_X0_made : GoodIn wsX6_holds (wsV RX6 42 RX0 yX0_made wsX0_made) := goodIn_app (goodIn_of _ (by decide +kernel)) ggX6_holds_X0_made
set_option maxRecDepth 20000 in
theorem ggX6_holds_X1_made : GoodIn wsX6_holds wsX1_made := goodIn_r _ [22, 23, 24, 25, 26] (by decide +kernel) (by decide +kernel)
set_option maxRecDepth 20000 in
theorem gX6_holds_X1_made_u42X1 : GoodIn wsX6_holds (va_wsO RX6 42 RX1 "NumberPile$Brick" ⟨"NumberPile$Brick", "made", "(II)I"⟩ yX1_made wsX1_made) := goodIn_app (goodIn_of _ (by decide +kernel)) ggX6_holds_X1_made
set_option maxRecDepth 20000 in
theorem ggX6_holds_X2_made : GoodIn wsX6_holds wsX2_made := goodIn_r _ [30, 31, 32, 33, 34, 35, 36] (by decide +kernel) (by decide +kernel)
set_option maxRecDepth 20000 in
theorem gX6_holds_X2_made_u42X2 : GoodIn wsX6_holds (va_wsO RX6 42 RX2 "NumberPile$Brick" ⟨"NumberPile$Brick", "made", "(II)I"⟩ yX2_made wsX2_made) := goodIn_app (goodIn_of _ (by decide +kernel)) ggX6_holds_X2_made
set_option maxRecDepth 20000 in
theorem ggX6_holds_X3_made : GoodIn wsX6_holds wsX3_made := goodIn_r _ [40, 41, 42, 25, 43] (by decide +kernel) (by decide +kernel)
set_option maxRecDepth 20000 in
theorem gX6_holds_X3_made_u42X3 : GoodIn wsX6_holds (va_wsO RX6 42 RX3 "NumberPile$Brick" ⟨"NumberPile$Brick", "made", "(II)I"⟩ yX3_made wsX3_made) := goodIn_app (goodIn_of _ (by decide +kernel)) ggX6_holds_X3_made
set_option maxRecDepth 20000 in
theorem ggX6_holds_X9_made : GoodIn wsX6_holds wsX9_made := goodIn_r _ [36] (by decide +kernel) (by decide +kernel)
set_option maxRecDepth 20000 in
theorem gX6_holds_X9_made_u42X9 : GoodIn wsX6_holds (va_wsO RX6 42 RX9 "NumberPile$Brick" ⟨"NumberPile$Brick", "made", "(II)I"⟩ yX9_made wsX9_made) := goodIn_app (goodIn_of _ (by decide +kernel)) ggX6_holds_X9_made
theorem dX6_holds_0 : decode cX6_holds 0 = .ok (.aload_n 0, 1) := by decide +kernel
theorem dX6_holds_1 : decode cX6_holds 1 = .ok (.aload_n 0, 1) := by decide +kernel
theorem dX6_holds_2 : decode cX6_holds 2 = .ok (.getfield 26, 3) := by decide +kernel
theorem dX6_holds_5 : decode cX6_holds 5 = .ok (.invokevirtual 38, 3) := by decide +kernel
theorem dX6_holds_8 : decode cX6_holds 8 = .ok (.ifCond .eq 5, 3) := by decide +kernel
theorem dX6_holds_11 : decode cX6_holds 11 = .ok (.iconst 0, 1) := by decide +kernel
theorem dX6_holds_12 : decode cX6_holds 12 = .ok (.ireturn, 1) := by decide +kernel
theorem dX6_holds_13 : decode cX6_holds 13 = .ok (.aload_n 0, 1) := by decide +kernel
theorem dX6_holds_14 : decode cX6_holds 14 = .ok (.getfield 26, 3) := by decide +kernel
theorem dX6_holds_17 : decode cX6_holds 17 = .ok (.istore_n 1, 1) := by decide +kernel
theorem dX6_holds_18 : decode cX6_holds 18 = .ok (.iconst 0, 1) := by decide +kernel
theorem dX6_holds_19 : decode cX6_holds 19 = .ok (.istore_n 2, 1) := by decide +kernel
theorem dX6_holds_20 : decode cX6_holds 20 = .ok (.iload_n 2, 1) := by decide +kernel
theorem dX6_holds_21 : decode cX6_holds 21 = .ok (.aload_n 0, 1) := by decide +kernel
theorem dX6_holds_22 : decode cX6_holds 22 = .ok (.getfield 26, 3) := by decide +kernel
theorem dX6_holds_25 : decode cX6_holds 25 = .ok (.if_icmp .ge 66, 3) := by decide +kernel
theorem dX6_holds_28 : decode cX6_holds 28 = .ok (.iload_n 1, 1) := by decide +kernel
theorem dX6_holds_29 : decode cX6_holds 29 = .ok (.aload_n 0, 1) := by decide +kernel
theorem dX6_holds_30 : decode cX6_holds 30 = .ok (.getfield 9, 3) := by decide +kernel
theorem dX6_holds_33 : decode cX6_holds 33 = .ok (.iadd, 1) := by decide +kernel
theorem dX6_holds_34 : decode cX6_holds 34 = .ok (.iload_n 2, 1) := by decide +kernel
theorem dX6_holds_35 : decode cX6_holds 35 = .ok (.isub, 1) := by decide +kernel
theorem dX6_holds_36 : decode cX6_holds 36 = .ok (.iconst 1, 1) := by decide +kernel
theorem dX6_holds_37 : decode cX6_holds 37 = .ok (.isub, 1) := by decide +kernel
theorem dX6_holds_38 : decode cX6_holds 38 = .ok (.istore_n 3, 1) := by decide +kernel
theorem dX6_holds_39 : decode cX6_holds 39 = .ok (.aload_n 0, 1) := by decide +kernel
theorem dX6_holds_40 : decode cX6_holds 40 = .ok (.getfield 19, 3) := by decide +kernel
theorem dX6_holds_43 : decode cX6_holds 43 = .ok (.iload_n 3, 1) := by decide +kernel
theorem dX6_holds_44 : decode cX6_holds 44 = .ok (.aload_n 0, 1) := by decide +kernel
theorem dX6_holds_45 : decode cX6_holds 45 = .ok (.getfield 15, 3) := by decide +kernel
theorem dX6_holds_48 : decode cX6_holds 48 = .ok (.iload_n 3, 1) := by decide +kernel
theorem dX6_holds_49 : decode cX6_holds 49 = .ok (.aload_n 0, 1) := by decide +kernel
theorem dX6_holds_50 : decode cX6_holds 50 = .ok (.getfield 9, 3) := by decide +kernel
theorem dX6_holds_53 : decode cX6_holds 53 = .ok (.isub, 1) := by decide +kernel
theorem dX6_holds_54 : decode cX6_holds 54 = .ok (.aaload, 1) := by decide +kernel
theorem dX6_holds_55 : decode cX6_holds 55 = .ok (.aload_n 0, 1) := by decide +kernel
theorem dX6_holds_56 : decode cX6_holds 56 = .ok (.getfield 19, 3) := by decide +kernel
theorem dX6_holds_59 : decode cX6_holds 59 = .ok (.iload_n 1, 1) := by decide +kernel
theorem dX6_holds_60 : decode cX6_holds 60 = .ok (.iconst 1, 1) := by decide +kernel
theorem dX6_holds_61 : decode cX6_holds 61 = .ok (.isub, 1) := by decide +kernel
theorem dX6_holds_62 : decode cX6_holds 62 = .ok (.iaload, 1) := by decide +kernel
theorem dX6_holds_63 : decode cX6_holds 63 = .ok (.aload_n 0, 1) := by decide +kernel
theorem dX6_holds_64 : decode cX6_holds 64 = .ok (.getfield 19, 3) := by decide +kernel
theorem dX6_holds_67 : decode cX6_holds 67 = .ok (.iload_n 1, 1) := by decide +kernel
theorem dX6_holds_68 : decode cX6_holds 68 = .ok (.iaload, 1) := by decide +kernel
theorem dX6_holds_69 : decode cX6_holds 69 = .ok (.invokevirtual 42, 3) := by decide +kernel
theorem dX6_holds_72 : decode cX6_holds 72 = .ok (.iastore, 1) := by decide +kernel
theorem dX6_holds_73 : decode cX6_holds 73 = .ok (.aload_n 0, 1) := by decide +kernel
theorem dX6_holds_74 : decode cX6_holds 74 = .ok (.iload_n 3, 1) := by decide +kernel
theorem dX6_holds_75 : decode cX6_holds 75 = .ok (.invokevirtual 38, 3) := by decide +kernel
theorem dX6_holds_78 : decode cX6_holds 78 = .ok (.ifCond .eq 5, 3) := by decide +kernel
theorem dX6_holds_81 : decode cX6_holds 81 = .ok (.iconst 0, 1) := by decide +kernel
theorem dX6_holds_82 : decode cX6_holds 82 = .ok (.ireturn, 1) := by decide +kernel
theorem dX6_holds_83 : decode cX6_holds 83 = .ok (.iload_n 3, 1) := by decide +kernel
theorem dX6_holds_84 : decode cX6_holds 84 = .ok (.istore_n 1, 1) := by decide +kernel
theorem dX6_holds_85 : decode cX6_holds 85 = .ok (.iinc 2 1, 3) := by decide +kernel
theorem dX6_holds_88 : decode cX6_holds 88 = .ok (.goto (-68), 3) := by decide +kernel
theorem dX6_holds_91 : decode cX6_holds 91 = .ok (.iconst 1, 1) := by decide +kernel
theorem dX6_holds_92 : decode cX6_holds 92 = .ok (.ireturn, 1) := by decide +kernel
theorem dX6_isOtherThanTold_0 : decode cX6_isOtherThanTold 0 = .ok (.aload_n 0, 1) := by decide +kernel
theorem dX6_isOtherThanTold_1 : decode cX6_isOtherThanTold 1 = .ok (.getfield 23, 3) := by decide +kernel
theorem dX6_isOtherThanTold_4 : decode cX6_isOtherThanTold 4 = .ok (.iload_n 1, 1) := by decide +kernel
theorem dX6_isOtherThanTold_5 : decode cX6_isOtherThanTold 5 = .ok (.iaload, 1) := by decide +kernel
theorem dX6_isOtherThanTold_6 : decode cX6_isOtherThanTold 6 = .ok (.iconst (-1), 1) := by decide +kernel
theorem dX6_isOtherThanTold_7 : decode cX6_isOtherThanTold 7 = .ok (.if_icmp .eq 22, 3) := by decide +kernel
theorem dX6_isOtherThanTold_10 : decode cX6_isOtherThanTold 10 = .ok (.aload_n 0, 1) := by decide +kernel
theorem dX6_isOtherThanTold_11 : decode cX6_isOtherThanTold 11 = .ok (.getfield 23, 3) := by decide +kernel
theorem dX6_isOtherThanTold_14 : decode cX6_isOtherThanTold 14 = .ok (.iload_n 1, 1) := by decide +kernel
theorem dX6_isOtherThanTold_15 : decode cX6_isOtherThanTold 15 = .ok (.iaload, 1) := by decide +kernel
theorem dX6_isOtherThanTold_16 : decode cX6_isOtherThanTold 16 = .ok (.aload_n 0, 1) := by decide +kernel
theorem dX6_isOtherThanTold_17 : decode cX6_isOtherThanTold 17 = .ok (.getfield 19, 3) := by decide +kernel
theorem dX6_isOtherThanTold_20 : decode cX6_isOtherThanTold 20 = .ok (.iload_n 1, 1) := by decide +kernel
theorem dX6_isOtherThanTold_21 : decode cX6_isOtherThanTold 21 = .ok (.iaload, 1) := by decide +kernel
theorem dX6_isOtherThanTold_22 : decode cX6_isOtherThanTold 22 = .ok (.if_icmp .eq 7, 3) := by decide +kernel
theorem dX6_isOtherThanTold_25 : decode cX6_isOtherThanTold 25 = .ok (.iconst 1, 1) := by decide +kernel
theorem dX6_isOtherThanTold_26 : decode cX6_isOtherThanTold 26 = .ok (.goto 4, 3) := by decide +kernel
theorem dX6_isOtherThanTold_29 : decode cX6_isOtherThanTold 29 = .ok (.iconst 0, 1) := by decide +kernel
theorem dX6_isOtherThanTold_30 : decode cX6_isOtherThanTold 30 = .ok (.ireturn, 1) := by decide +kernel
theorem dX7_init_0 : decode cX7_init 0 = .ok (.aload_n 0, 1) := by decide +kernel
theorem dX7_init_1 : decode cX7_init 1 = .ok (.invokespecial 1, 3) := by decide +kernel
theorem dX7_init_4 : decode cX7_init 4 = .ok (.aload_n 0, 1) := by decide +kernel
theorem dX7_init_5 : decode cX7_init 5 = .ok (.iload_n 1, 1) := by decide +kernel
theorem dX7_init_6 : decode cX7_init 6 = .ok (.putfield 7, 3) := by decide +kernel
theorem dX7_init_9 : decode cX7_init 9 = .ok (.aload_n 0, 1) := by decide +kernel
theorem dX7_init_10 : decode cX7_init 10 = .ok (.iload_n 2, 1) := by decide +kernel
theorem dX7_init_11 : decode cX7_init 11 = .ok (.putfield 13, 3) := by decide +kernel
theorem dX7_init_14 : decode cX7_init 14 = .ok (.aload_n 0, 1) := by decide +kernel
theorem dX7_init_15 : decode cX7_init 15 = .ok (.iload_n 3, 1) := by decide +kernel
theorem dX7_init_16 : decode cX7_init 16 = .ok (.putfield 16, 3) := by decide +kernel
theorem dX7_init_19 : decode cX7_init 19 = .ok (.aload_n 0, 1) := by decide +kernel
theorem dX7_init_20 : decode cX7_init 20 = .ok (.iload 4, 2) := by decide +kernel
theorem dX7_init_22 : decode cX7_init 22 = .ok (.putfield 19, 3) := by decide +kernel
theorem dX7_init_25 : decode cX7_init 25 = .ok (.return_, 1) := by decide +kernel
theorem dX7_isOf_0 : decode cX7_isOf 0 = .ok (.aload_n 0, 1) := by decide +kernel
theorem dX7_isOf_1 : decode cX7_isOf 1 = .ok (.getfield 7, 3) := by decide +kernel
theorem dX7_isOf_4 : decode cX7_isOf 4 = .ok (.iload_n 1, 1) := by decide +kernel
theorem dX7_isOf_5 : decode cX7_isOf 5 = .ok (.if_icmp .ne 7, 3) := by decide +kernel
theorem dX7_isOf_8 : decode cX7_isOf 8 = .ok (.iconst 1, 1) := by decide +kernel
theorem dX7_isOf_9 : decode cX7_isOf 9 = .ok (.goto 4, 3) := by decide +kernel
theorem dX7_isOf_12 : decode cX7_isOf 12 = .ok (.iconst 0, 1) := by decide +kernel
theorem dX7_isOf_13 : decode cX7_isOf 13 = .ok (.ireturn, 1) := by decide +kernel
set_option maxRecDepth 20000 in
theorem ggX7_allows_X0_made : GoodIn wsX7_allows wsX0_made := goodIn_r _ [8] (by decide +kernel) (by decide +kernel)
set_option maxRecDepth 20000 in
theorem gX7_allows_X0_made : GoodIn wsX7_allows (wsV RX7 22 RX0 yX0_made wsX0_made) := goodIn_app (goodIn_of _ (by decide +kernel)) ggX7_allows_X0_made
set_option maxRecDepth 20000 in
theorem ggX7_allows_X1_made : GoodIn wsX7_allows wsX1_made := goodIn_r _ [15, 16, 17, 18, 19] (by decide +kernel) (by decide +kernel)
set_option maxRecDepth 20000 in
theorem gX7_allows_X1_made_u22X1 : GoodIn wsX7_allows (va_wsO RX7 22 RX1 "NumberPile$Brick" ⟨"NumberPile$Brick", "made", "(II)I"⟩ yX1_made wsX1_made) := goodIn_app (goodIn_of _ (by decide +kernel)) ggX7_allows_X1_made
set_option maxRecDepth 20000 in
theorem ggX7_allows_X2_made : GoodIn wsX7_allows wsX2_made := goodIn_r _ [23, 24, 25, 26, 27, 28, 29] (by decide +kernel) (by decide +kernel)
set_option maxRecDepth 20000 in
theorem gX7_allows_X2_made_u22X2 : GoodIn wsX7_allows (va_wsO RX7 22 RX2 "NumberPile$Brick" ⟨"NumberPile$Brick", "made", "(II)I"⟩ yX2_made wsX2_made) := goodIn_app (goodIn_of _ (by decide +kernel)) ggX7_allows_X2_made
set_option maxRecDepth 20000 in
theorem ggX7_allows_X3_made : GoodIn wsX7_allows wsX3_made := goodIn_r _ [33, 34, 35, 18, 36] (by decide +kernel) (by decide +kernel)
set_option maxRecDepth 20000 in
theorem gX7_allows_X3_made_u22X3 : GoodIn wsX7_allows (va_wsO RX7 22 RX3 "NumberPile$Brick" ⟨"NumberPile$Brick", "made", "(II)I"⟩ yX3_made wsX3_made) := goodIn_app (goodIn_of _ (by decide +kernel)) ggX7_allows_X3_made
set_option maxRecDepth 20000 in
theorem ggX7_allows_X9_made : GoodIn wsX7_allows wsX9_made := goodIn_r _ [29] (by decide +kernel) (by decide +kernel)
set_option maxRecDepth 20000 in
theorem gX7_allows_X9_made_u22X9 : GoodIn wsX7_allows (va_wsO RX7 22 RX9 "NumberPile$Brick" ⟨"NumberPile$Brick", "made", "(II)I"⟩ yX9_made wsX9_made) := goodIn_app (goodIn_of _ (by decide +kernel)) ggX7_allows_X9_made
theorem dX7_allows_0 : decode cX7_allows 0 = .ok (.aload_n 1, 1) := by decide +kernel
theorem dX7_allows_1 : decode cX7_allows 1 = .ok (.aload_n 0, 1) := by decide +kernel
theorem dX7_allows_2 : decode cX7_allows 2 = .ok (.getfield 13, 3) := by decide +kernel
theorem dX7_allows_5 : decode cX7_allows 5 = .ok (.aload_n 0, 1) := by decide +kernel
theorem dX7_allows_6 : decode cX7_allows 6 = .ok (.getfield 16, 3) := by decide +kernel
theorem dX7_allows_9 : decode cX7_allows 9 = .ok (.invokevirtual 22, 3) := by decide +kernel
theorem dX7_allows_12 : decode cX7_allows 12 = .ok (.aload_n 0, 1) := by decide +kernel
theorem dX7_allows_13 : decode cX7_allows 13 = .ok (.getfield 19, 3) := by decide +kernel
theorem dX7_allows_16 : decode cX7_allows 16 = .ok (.if_icmp .ne 7, 3) := by decide +kernel
theorem dX7_allows_19 : decode cX7_allows 19 = .ok (.iconst 1, 1) := by decide +kernel
theorem dX7_allows_20 : decode cX7_allows 20 = .ok (.goto 4, 3) := by decide +kernel
theorem dX7_allows_23 : decode cX7_allows 23 = .ok (.iconst 0, 1) := by decide +kernel
theorem dX7_allows_24 : decode cX7_allows 24 = .ok (.ireturn, 1) := by decide +kernel
set_option maxRecDepth 20000 in
theorem ggX8_init_J7_fill_53178 : GoodIn wsX8_init wsJ7_fill_53178 := goodIn_r _ [14] (by decide +kernel) (by decide +kernel)
set_option maxRecDepth 20000 in
theorem gX8_init_J7_fill_53178 : GoodIn wsX8_init (va_wsS RX8 24 yJ7_fill_53178 wsJ7_fill_53178) := goodIn_app (goodIn_of _ (by decide +kernel)) ggX8_init_J7_fill_53178
theorem dX8_init_0 : decode cX8_init 0 = .ok (.aload_n 0, 1) := by decide +kernel
theorem dX8_init_1 : decode cX8_init 1 = .ok (.invokespecial 3, 3) := by decide +kernel
theorem dX8_init_4 : decode cX8_init 4 = .ok (.aload_n 0, 1) := by decide +kernel
theorem dX8_init_5 : decode cX8_init 5 = .ok (.iload_n 2, 1) := by decide +kernel
theorem dX8_init_6 : decode cX8_init 6 = .ok (.iload_n 1, 1) := by decide +kernel
theorem dX8_init_7 : decode cX8_init 7 = .ok (.isub, 1) := by decide +kernel
theorem dX8_init_8 : decode cX8_init 8 = .ok (.anewarray 9, 3) := by decide +kernel
theorem dX8_init_11 : decode cX8_init 11 = .ok (.putfield 11, 3) := by decide +kernel
theorem dX8_init_14 : decode cX8_init 14 = .ok (.aload_n 0, 1) := by decide +kernel
theorem dX8_init_15 : decode cX8_init 15 = .ok (.iload_n 1, 1) := by decide +kernel
theorem dX8_init_16 : decode cX8_init 16 = .ok (.newarray .int, 2) := by decide +kernel
theorem dX8_init_18 : decode cX8_init 18 = .ok (.putfield 17, 3) := by decide +kernel
theorem dX8_init_21 : decode cX8_init 21 = .ok (.aload_n 0, 1) := by decide +kernel
theorem dX8_init_22 : decode cX8_init 22 = .ok (.iload_n 2, 1) := by decide +kernel
theorem dX8_init_23 : decode cX8_init 23 = .ok (.newarray .int, 2) := by decide +kernel
theorem dX8_init_25 : decode cX8_init 25 = .ok (.putfield 21, 3) := by decide +kernel
theorem dX8_init_28 : decode cX8_init 28 = .ok (.aload_n 0, 1) := by decide +kernel
theorem dX8_init_29 : decode cX8_init 29 = .ok (.getfield 21, 3) := by decide +kernel
theorem dX8_init_32 : decode cX8_init 32 = .ok (.iconst (-1), 1) := by decide +kernel
theorem dX8_init_33 : decode cX8_init 33 = .ok (.invokestatic 24, 3) := by decide +kernel
theorem dX8_init_36 : decode cX8_init 36 = .ok (.aload_n 0, 1) := by decide +kernel
theorem dX8_init_37 : decode cX8_init 37 = .ok (.bipush 6, 2) := by decide +kernel
theorem dX8_init_39 : decode cX8_init 39 = .ok (.anewarray 30, 3) := by decide +kernel
theorem dX8_init_42 : decode cX8_init 42 = .ok (.putfield 32, 3) := by decide +kernel
theorem dX8_init_45 : decode cX8_init 45 = .ok (.return_, 1) := by decide +kernel
theorem dX8_addSight_0 : decode cX8_addSight 0 = .ok (.aload_n 0, 1) := by decide +kernel
theorem dX8_addSight_1 : decode cX8_addSight 1 = .ok (.getfield 36, 3) := by decide +kernel
theorem dX8_addSight_4 : decode cX8_addSight 4 = .ok (.aload_n 0, 1) := by decide +kernel
theorem dX8_addSight_5 : decode cX8_addSight 5 = .ok (.getfield 32, 3) := by decide +kernel
theorem dX8_addSight_8 : decode cX8_addSight 8 = .ok (.arraylength, 1) := by decide +kernel
theorem dX8_addSight_9 : decode cX8_addSight 9 = .ok (.if_icmp .ge 23, 3) := by decide +kernel
theorem dX8_addSight_12 : decode cX8_addSight 12 = .ok (.aload_n 0, 1) := by decide +kernel
theorem dX8_addSight_13 : decode cX8_addSight 13 = .ok (.getfield 32, 3) := by decide +kernel
theorem dX8_addSight_16 : decode cX8_addSight 16 = .ok (.aload_n 0, 1) := by decide +kernel
theorem dX8_addSight_17 : decode cX8_addSight 17 = .ok (.getfield 36, 3) := by decide +kernel
theorem dX8_addSight_20 : decode cX8_addSight 20 = .ok (.aload_n 1, 1) := by decide +kernel
theorem dX8_addSight_21 : decode cX8_addSight 21 = .ok (.aastore, 1) := by decide +kernel
theorem dX8_addSight_22 : decode cX8_addSight 22 = .ok (.aload_n 0, 1) := by decide +kernel
theorem dX8_addSight_23 : decode cX8_addSight 23 = .ok (.dup, 1) := by decide +kernel
theorem dX8_addSight_24 : decode cX8_addSight 24 = .ok (.getfield 36, 3) := by decide +kernel
theorem dX8_addSight_27 : decode cX8_addSight 27 = .ok (.iconst 1, 1) := by decide +kernel
theorem dX8_addSight_28 : decode cX8_addSight 28 = .ok (.iadd, 1) := by decide +kernel
theorem dX8_addSight_29 : decode cX8_addSight 29 = .ok (.putfield 36, 3) := by decide +kernel
theorem dX8_addSight_32 : decode cX8_addSight 32 = .ok (.return_, 1) := by decide +kernel
theorem dX8_takeFrom_0 : decode cX8_takeFrom 0 = .ok (.iconst 0, 1) := by decide +kernel
theorem dX8_takeFrom_1 : decode cX8_takeFrom 1 = .ok (.istore_n 2, 1) := by decide +kernel
theorem dX8_takeFrom_2 : decode cX8_takeFrom 2 = .ok (.iload_n 2, 1) := by decide +kernel
theorem dX8_takeFrom_3 : decode cX8_takeFrom 3 = .ok (.aload_n 0, 1) := by decide +kernel
theorem dX8_takeFrom_4 : decode cX8_takeFrom 4 = .ok (.getfield 11, 3) := by decide +kernel
theorem dX8_takeFrom_7 : decode cX8_takeFrom 7 = .ok (.arraylength, 1) := by decide +kernel
theorem dX8_takeFrom_8 : decode cX8_takeFrom 8 = .ok (.if_icmp .ge 30, 3) := by decide +kernel
theorem dX8_takeFrom_11 : decode cX8_takeFrom 11 = .ok (.iload_n 2, 1) := by decide +kernel
theorem dX8_takeFrom_12 : decode cX8_takeFrom 12 = .ok (.aload_n 1, 1) := by decide +kernel
theorem dX8_takeFrom_13 : decode cX8_takeFrom 13 = .ok (.getfield 11, 3) := by decide +kernel
theorem dX8_takeFrom_16 : decode cX8_takeFrom 16 = .ok (.arraylength, 1) := by decide +kernel
theorem dX8_takeFrom_17 : decode cX8_takeFrom 17 = .ok (.if_icmp .ge 21, 3) := by decide +kernel
theorem dX8_takeFrom_20 : decode cX8_takeFrom 20 = .ok (.aload_n 0, 1) := by decide +kernel
theorem dX8_takeFrom_21 : decode cX8_takeFrom 21 = .ok (.getfield 11, 3) := by decide +kernel
theorem dX8_takeFrom_24 : decode cX8_takeFrom 24 = .ok (.iload_n 2, 1) := by decide +kernel
theorem dX8_takeFrom_25 : decode cX8_takeFrom 25 = .ok (.aload_n 1, 1) := by decide +kernel
theorem dX8_takeFrom_26 : decode cX8_takeFrom 26 = .ok (.getfield 11, 3) := by decide +kernel
theorem dX8_takeFrom_29 : decode cX8_takeFrom 29 = .ok (.iload_n 2, 1) := by decide +kernel
theorem dX8_takeFrom_30 : decode cX8_takeFrom 30 = .ok (.aaload, 1) := by decide +kernel
theorem dX8_takeFrom_31 : decode cX8_takeFrom 31 = .ok (.aastore, 1) := by decide +kernel
theorem dX8_takeFrom_32 : decode cX8_takeFrom 32 = .ok (.iinc 2 1, 3) := by decide +kernel
theorem dX8_takeFrom_35 : decode cX8_takeFrom 35 = .ok (.goto (-33), 3) := by decide +kernel
theorem dX8_takeFrom_38 : decode cX8_takeFrom 38 = .ok (.iconst 0, 1) := by decide +kernel
theorem dX8_takeFrom_39 : decode cX8_takeFrom 39 = .ok (.istore_n 2, 1) := by decide +kernel
theorem dX8_takeFrom_40 : decode cX8_takeFrom 40 = .ok (.iload_n 2, 1) := by decide +kernel
theorem dX8_takeFrom_41 : decode cX8_takeFrom 41 = .ok (.aload_n 0, 1) := by decide +kernel
theorem dX8_takeFrom_42 : decode cX8_takeFrom 42 = .ok (.getfield 32, 3) := by decide +kernel
theorem dX8_takeFrom_45 : decode cX8_takeFrom 45 = .ok (.arraylength, 1) := by decide +kernel
theorem dX8_takeFrom_46 : decode cX8_takeFrom 46 = .ok (.if_icmp .ge 30, 3) := by decide +kernel
theorem dX8_takeFrom_49 : decode cX8_takeFrom 49 = .ok (.iload_n 2, 1) := by decide +kernel
theorem dX8_takeFrom_50 : decode cX8_takeFrom 50 = .ok (.aload_n 1, 1) := by decide +kernel
theorem dX8_takeFrom_51 : decode cX8_takeFrom 51 = .ok (.getfield 32, 3) := by decide +kernel
theorem dX8_takeFrom_54 : decode cX8_takeFrom 54 = .ok (.arraylength, 1) := by decide +kernel
theorem dX8_takeFrom_55 : decode cX8_takeFrom 55 = .ok (.if_icmp .ge 21, 3) := by decide +kernel
theorem dX8_takeFrom_58 : decode cX8_takeFrom 58 = .ok (.aload_n 0, 1) := by decide +kernel
theorem dX8_takeFrom_59 : decode cX8_takeFrom 59 = .ok (.getfield 32, 3) := by decide +kernel
theorem dX8_takeFrom_62 : decode cX8_takeFrom 62 = .ok (.iload_n 2, 1) := by decide +kernel
theorem dX8_takeFrom_63 : decode cX8_takeFrom 63 = .ok (.aload_n 1, 1) := by decide +kernel
theorem dX8_takeFrom_64 : decode cX8_takeFrom 64 = .ok (.getfield 32, 3) := by decide +kernel
theorem dX8_takeFrom_67 : decode cX8_takeFrom 67 = .ok (.iload_n 2, 1) := by decide +kernel
theorem dX8_takeFrom_68 : decode cX8_takeFrom 68 = .ok (.aaload, 1) := by decide +kernel
theorem dX8_takeFrom_69 : decode cX8_takeFrom 69 = .ok (.aastore, 1) := by decide +kernel
theorem dX8_takeFrom_70 : decode cX8_takeFrom 70 = .ok (.iinc 2 1, 3) := by decide +kernel
theorem dX8_takeFrom_73 : decode cX8_takeFrom 73 = .ok (.goto (-33), 3) := by decide +kernel
theorem dX8_takeFrom_76 : decode cX8_takeFrom 76 = .ok (.aload_n 1, 1) := by decide +kernel
theorem dX8_takeFrom_77 : decode cX8_takeFrom 77 = .ok (.getfield 17, 3) := by decide +kernel
theorem dX8_takeFrom_80 : decode cX8_takeFrom 80 = .ok (.iconst 0, 1) := by decide +kernel
theorem dX8_takeFrom_81 : decode cX8_takeFrom 81 = .ok (.aload_n 0, 1) := by decide +kernel
theorem dX8_takeFrom_82 : decode cX8_takeFrom 82 = .ok (.getfield 17, 3) := by decide +kernel
theorem dX8_takeFrom_85 : decode cX8_takeFrom 85 = .ok (.iconst 0, 1) := by decide +kernel
theorem dX8_takeFrom_86 : decode cX8_takeFrom 86 = .ok (.aload_n 0, 1) := by decide +kernel
theorem dX8_takeFrom_87 : decode cX8_takeFrom 87 = .ok (.getfield 17, 3) := by decide +kernel
theorem dX8_takeFrom_90 : decode cX8_takeFrom 90 = .ok (.arraylength, 1) := by decide +kernel
theorem dX8_takeFrom_91 : decode cX8_takeFrom 91 = .ok (.invokestatic 40, 3) := by decide +kernel
theorem dX8_takeFrom_94 : decode cX8_takeFrom 94 = .ok (.aload_n 1, 1) := by decide +kernel
theorem dX8_takeFrom_95 : decode cX8_takeFrom 95 = .ok (.getfield 21, 3) := by decide +kernel
theorem dX8_takeFrom_98 : decode cX8_takeFrom 98 = .ok (.iconst 0, 1) := by decide +kernel
theorem dX8_takeFrom_99 : decode cX8_takeFrom 99 = .ok (.aload_n 0, 1) := by decide +kernel
theorem dX8_takeFrom_100 : decode cX8_takeFrom 100 = .ok (.getfield 21, 3) := by decide +kernel
theorem dX8_takeFrom_103 : decode cX8_takeFrom 103 = .ok (.iconst 0, 1) := by decide +kernel
theorem dX8_takeFrom_104 : decode cX8_takeFrom 104 = .ok (.aload_n 0, 1) := by decide +kernel
theorem dX8_takeFrom_105 : decode cX8_takeFrom 105 = .ok (.getfield 21, 3) := by decide +kernel
theorem dX8_takeFrom_108 : decode cX8_takeFrom 108 = .ok (.arraylength, 1) := by decide +kernel
theorem dX8_takeFrom_109 : decode cX8_takeFrom 109 = .ok (.invokestatic 40, 3) := by decide +kernel
theorem dX8_takeFrom_112 : decode cX8_takeFrom 112 = .ok (.aload_n 0, 1) := by decide +kernel
theorem dX8_takeFrom_113 : decode cX8_takeFrom 113 = .ok (.aload_n 1, 1) := by decide +kernel
theorem dX8_takeFrom_114 : decode cX8_takeFrom 114 = .ok (.getfield 36, 3) := by decide +kernel
theorem dX8_takeFrom_117 : decode cX8_takeFrom 117 = .ok (.putfield 36, 3) := by decide +kernel
theorem dX8_takeFrom_120 : decode cX8_takeFrom 120 = .ok (.aload_n 0, 1) := by decide +kernel
theorem dX8_takeFrom_121 : decode cX8_takeFrom 121 = .ok (.aload_n 1, 1) := by decide +kernel
theorem dX8_takeFrom_122 : decode cX8_takeFrom 122 = .ok (.getfield 46, 3) := by decide +kernel
theorem dX8_takeFrom_125 : decode cX8_takeFrom 125 = .ok (.putfield 46, 3) := by decide +kernel
theorem dX8_takeFrom_128 : decode cX8_takeFrom 128 = .ok (.return_, 1) := by decide +kernel
set_option maxRecDepth 20000 in
theorem ggX9_init_X0_init : GoodIn wsX9_init wsX0_init := goodIn_r _ [3, 4, 5, 6] (by decide +kernel) (by decide +kernel)
set_option maxRecDepth 20000 in
theorem gX9_init_X0_init_n3 : GoodIn wsX9_init (wsX0_init) := ggX9_init_X0_init
theorem dX9_init_0 : decode cX9_init 0 = .ok (.aload_n 0, 1) := by decide +kernel
theorem dX9_init_1 : decode cX9_init 1 = .ok (.invokespecial 3, 3) := by decide +kernel
theorem dX9_init_4 : decode cX9_init 4 = .ok (.return_, 1) := by decide +kernel
theorem dX9_number_0 : decode cX9_number 0 = .ok (.iconst 3, 1) := by decide +kernel
theorem dX9_number_1 : decode cX9_number 1 = .ok (.ireturn, 1) := by decide +kernel
theorem dX9_made_0 : decode cX9_made 0 = .ok (.iconst 2, 1) := by decide +kernel
theorem dX9_made_1 : decode cX9_made 1 = .ok (.iload_n 1, 1) := by decide +kernel
theorem dX9_made_2 : decode cX9_made 2 = .ok (.imul, 1) := by decide +kernel
theorem dX9_made_3 : decode cX9_made 3 = .ok (.iload_n 2, 1) := by decide +kernel
theorem dX9_made_4 : decode cX9_made 4 = .ok (.iadd, 1) := by decide +kernel
theorem dX9_made_5 : decode cX9_made 5 = .ok (.ireturn, 1) := by decide +kernel
