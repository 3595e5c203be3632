theorem dX11_init_0 : decode cX11_init 0 = .ok (.aload_n 0, 1) := by decide +kernel
theorem dX11_init_1 : decode cX11_init 1 = .ok (.invokespecial 1, 3) := by decide +kernel
theorem dX11_init_4 : decode cX11_init 4 = .ok (.aload_n 0, 1) := by decide +kernel
theorem dX11_init_5 : decode cX11_init 5 = .ok (.bipush 18, 2) := by decide +kernel
theorem dX11_init_7 : decode cX11_init 7 = .ok (.newarray .int, 2) := by decide +kernel
theorem dX11_init_9 : decode cX11_init 9 = .ok (.putfield 7, 3) := by decide +kernel
theorem dX11_init_12 : decode cX11_init 12 = .ok (.aload_n 0, 1) := by decide +kernel
theorem dX11_init_13 : decode cX11_init 13 = .ok (.bipush 10, 2) := by decide +kernel
theorem dX11_init_15 : decode cX11_init 15 = .ok (.newarray .int, 2) := by decide +kernel
theorem dX11_init_17 : decode cX11_init 17 = .ok (.putfield 13, 3) := by decide +kernel
theorem dX11_init_20 : decode cX11_init 20 = .ok (.aload_n 0, 1) := by decide +kernel
theorem dX11_init_21 : decode cX11_init 21 = .ok (.bipush 10, 2) := by decide +kernel
theorem dX11_init_23 : decode cX11_init 23 = .ok (.newarray .int, 2) := by decide +kernel
theorem dX11_init_25 : decode cX11_init 25 = .ok (.putfield 16, 3) := by decide +kernel
theorem dX11_init_28 : decode cX11_init 28 = .ok (.aload_n 0, 1) := by decide +kernel
theorem dX11_init_29 : decode cX11_init 29 = .ok (.iconst 4, 1) := by decide +kernel
theorem dX11_init_30 : decode cX11_init 30 = .ok (.newarray .int, 2) := by decide +kernel
theorem dX11_init_32 : decode cX11_init 32 = .ok (.putfield 19, 3) := by decide +kernel
theorem dX11_init_35 : decode cX11_init 35 = .ok (.aload_n 0, 1) := by decide +kernel
theorem dX11_init_36 : decode cX11_init 36 = .ok (.bipush 10, 2) := by decide +kernel
theorem dX11_init_38 : decode cX11_init 38 = .ok (.newarray .int, 2) := by decide +kernel
theorem dX11_init_40 : decode cX11_init 40 = .ok (.putfield 22, 3) := by decide +kernel
theorem dX11_init_43 : decode cX11_init 43 = .ok (.aload_n 0, 1) := by decide +kernel
theorem dX11_init_44 : decode cX11_init 44 = .ok (.bipush 10, 2) := by decide +kernel
theorem dX11_init_46 : decode cX11_init 46 = .ok (.newarray .int, 2) := by decide +kernel
theorem dX11_init_48 : decode cX11_init 48 = .ok (.putfield 25, 3) := by decide +kernel
theorem dX11_init_51 : decode cX11_init 51 = .ok (.aload_n 0, 1) := by decide +kernel
theorem dX11_init_52 : decode cX11_init 52 = .ok (.iconst 4, 1) := by decide +kernel
theorem dX11_init_53 : decode cX11_init 53 = .ok (.newarray .int, 2) := by decide +kernel
theorem dX11_init_55 : decode cX11_init 55 = .ok (.putfield 28, 3) := by decide +kernel
theorem dX11_init_58 : decode cX11_init 58 = .ok (.aload_n 0, 1) := by decide +kernel
theorem dX11_init_59 : decode cX11_init 59 = .ok (.sipush 1000, 3) := by decide +kernel
theorem dX11_init_62 : decode cX11_init 62 = .ok (.newarray .int, 2) := by decide +kernel
theorem dX11_init_64 : decode cX11_init 64 = .ok (.putfield 31, 3) := by decide +kernel
theorem dX11_init_67 : decode cX11_init 67 = .ok (.aload_n 0, 1) := by decide +kernel
theorem dX11_init_68 : decode cX11_init 68 = .ok (.bipush 24, 2) := by decide +kernel
theorem dX11_init_70 : decode cX11_init 70 = .ok (.newarray .int, 2) := by decide +kernel
theorem dX11_init_72 : decode cX11_init 72 = .ok (.putfield 34, 3) := by decide +kernel
theorem dX11_init_75 : decode cX11_init 75 = .ok (.aload_n 0, 1) := by decide +kernel
theorem dX11_init_76 : decode cX11_init 76 = .ok (.bipush 10, 2) := by decide +kernel
theorem dX11_init_78 : decode cX11_init 78 = .ok (.newarray .int, 2) := by decide +kernel
theorem dX11_init_80 : decode cX11_init 80 = .ok (.putfield 37, 3) := by decide +kernel
theorem dX11_init_83 : decode cX11_init 83 = .ok (.aload_n 0, 1) := by decide +kernel
theorem dX11_init_84 : decode cX11_init 84 = .ok (.iconst 4, 1) := by decide +kernel
theorem dX11_init_85 : decode cX11_init 85 = .ok (.newarray .int, 2) := by decide +kernel
theorem dX11_init_87 : decode cX11_init 87 = .ok (.putfield 40, 3) := by decide +kernel
theorem dX11_init_90 : decode cX11_init 90 = .ok (.aload_n 0, 1) := by decide +kernel
theorem dX11_init_91 : decode cX11_init 91 = .ok (.bipush 10, 2) := by decide +kernel
theorem dX11_init_93 : decode cX11_init 93 = .ok (.newarray .int, 2) := by decide +kernel
theorem dX11_init_95 : decode cX11_init 95 = .ok (.putfield 43, 3) := by decide +kernel
theorem dX11_init_98 : decode cX11_init 98 = .ok (.aload_n 0, 1) := by decide +kernel
theorem dX11_init_99 : decode cX11_init 99 = .ok (.bipush 24, 2) := by decide +kernel
theorem dX11_init_101 : decode cX11_init 101 = .ok (.newarray .int, 2) := by decide +kernel
theorem dX11_init_103 : decode cX11_init 103 = .ok (.putfield 46, 3) := by decide +kernel
theorem dX11_init_106 : decode cX11_init 106 = .ok (.aload_n 0, 1) := by decide +kernel
theorem dX11_init_107 : decode cX11_init 107 = .ok (.iconst (-1), 1) := by decide +kernel
theorem dX11_init_108 : decode cX11_init 108 = .ok (.putfield 49, 3) := by decide +kernel
theorem dX11_init_111 : decode cX11_init 111 = .ok (.return_, 1) := by decide +kernel
theorem dX11_in_0 : decode cX11_in 0 = .ok (.lload_n 0, 1) := by decide +kernel
theorem dX11_in_1 : decode cX11_in 1 = .ok (.lload_n 2, 1) := by decide +kernel
theorem dX11_in_2 : decode cX11_in 2 = .ok (.lcmp, 1) := by decide +kernel
theorem dX11_in_3 : decode cX11_in 3 = .ok (.ifCond .lt 14, 3) := by decide +kernel
theorem dX11_in_6 : decode cX11_in 6 = .ok (.lload_n 0, 1) := by decide +kernel
theorem dX11_in_7 : decode cX11_in 7 = .ok (.lload 4, 2) := by decide +kernel
theorem dX11_in_9 : decode cX11_in 9 = .ok (.lcmp, 1) := by decide +kernel
theorem dX11_in_10 : decode cX11_in 10 = .ok (.ifCond .gt 7, 3) := by decide +kernel
theorem dX11_in_13 : decode cX11_in 13 = .ok (.iconst 1, 1) := by decide +kernel
theorem dX11_in_14 : decode cX11_in 14 = .ok (.goto 4, 3) := by decide +kernel
theorem dX11_in_17 : decode cX11_in 17 = .ok (.iconst 0, 1) := by decide +kernel
theorem dX11_in_18 : decode cX11_in 18 = .ok (.ireturn, 1) := by decide +kernel
theorem dX11_copy_0 : decode cX11_copy 0 = .ok (.iconst 0, 1) := by decide +kernel
theorem dX11_copy_1 : decode cX11_copy 1 = .ok (.istore_n 2, 1) := by decide +kernel
theorem dX11_copy_2 : decode cX11_copy 2 = .ok (.iload_n 2, 1) := by decide +kernel
theorem dX11_copy_3 : decode cX11_copy 3 = .ok (.aload_n 0, 1) := by decide +kernel
theorem dX11_copy_4 : decode cX11_copy 4 = .ok (.arraylength, 1) := by decide +kernel
theorem dX11_copy_5 : decode cX11_copy 5 = .ok (.if_icmp .ge 15, 3) := by decide +kernel
theorem dX11_copy_8 : decode cX11_copy 8 = .ok (.aload_n 1, 1) := by decide +kernel
theorem dX11_copy_9 : decode cX11_copy 9 = .ok (.iload_n 2, 1) := by decide +kernel
theorem dX11_copy_10 : decode cX11_copy 10 = .ok (.aload_n 0, 1) := by decide +kernel
theorem dX11_copy_11 : decode cX11_copy 11 = .ok (.iload_n 2, 1) := by decide +kernel
theorem dX11_copy_12 : decode cX11_copy 12 = .ok (.iaload, 1) := by decide +kernel
theorem dX11_copy_13 : decode cX11_copy 13 = .ok (.iastore, 1) := by decide +kernel
theorem dX11_copy_14 : decode cX11_copy 14 = .ok (.iinc 2 1, 3) := by decide +kernel
theorem dX11_copy_17 : decode cX11_copy 17 = .ok (.goto (-15), 3) := by decide +kernel
theorem dX11_copy_20 : decode cX11_copy 20 = .ok (.return_, 1) := by decide +kernel
theorem dX11_power_0 : decode cX11_power 0 = .ok (.iconst 1, 1) := by decide +kernel
theorem dX11_power_1 : decode cX11_power 1 = .ok (.istore_n 2, 1) := by decide +kernel
theorem dX11_power_2 : decode cX11_power 2 = .ok (.iconst 0, 1) := by decide +kernel
theorem dX11_power_3 : decode cX11_power 3 = .ok (.istore_n 3, 1) := by decide +kernel
theorem dX11_power_4 : decode cX11_power 4 = .ok (.iload_n 3, 1) := by decide +kernel
theorem dX11_power_5 : decode cX11_power 5 = .ok (.iload_n 1, 1) := by decide +kernel
theorem dX11_power_6 : decode cX11_power 6 = .ok (.if_icmp .ge 13, 3) := by decide +kernel
theorem dX11_power_9 : decode cX11_power 9 = .ok (.iload_n 2, 1) := by decide +kernel
theorem dX11_power_10 : decode cX11_power 10 = .ok (.iload_n 0, 1) := by decide +kernel
theorem dX11_power_11 : decode cX11_power 11 = .ok (.imul, 1) := by decide +kernel
theorem dX11_power_12 : decode cX11_power 12 = .ok (.istore_n 2, 1) := by decide +kernel
theorem dX11_power_13 : decode cX11_power 13 = .ok (.iinc 3 1, 3) := by decide +kernel
theorem dX11_power_16 : decode cX11_power 16 = .ok (.goto (-12), 3) := by decide +kernel
theorem dX11_power_19 : decode cX11_power 19 = .ok (.iload_n 2, 1) := by decide +kernel
theorem dX11_power_20 : decode cX11_power 20 = .ok (.ireturn, 1) := by decide +kernel
set_option maxRecDepth 20000 in
theorem ggX11_letter_X11_in : GoodIn wsX11_letter wsX11_in := goodIn_r _ [7] (by decide +kernel) (by decide +kernel)
set_option maxRecDepth 20000 in
theorem gX11_letter_X11_in : GoodIn wsX11_letter (va_wsS RX11 55 yX11_in wsX11_in) := goodIn_app (goodIn_of _ (by decide +kernel)) ggX11_letter_X11_in
theorem dX11_letter_0 : decode cX11_letter 0 = .ok (.iload_n 1, 1) := by decide +kernel
theorem dX11_letter_1 : decode cX11_letter 1 = .ok (.i2l, 1) := by decide +kernel
theorem dX11_letter_2 : decode cX11_letter 2 = .ok (.lconst 1, 1) := by decide +kernel
theorem dX11_letter_3 : decode cX11_letter 3 = .ok (.ldc2_w 53, 3) := by decide +kernel
theorem dX11_letter_6 : decode cX11_letter 6 = .ok (.invokestatic 55, 3) := by decide +kernel
theorem dX11_letter_9 : decode cX11_letter 9 = .ok (.ifCond .ne 6, 3) := by decide +kernel
theorem dX11_letter_12 : decode cX11_letter 12 = .ok (.bipush (-102), 2) := by decide +kernel
theorem dX11_letter_14 : decode cX11_letter 14 = .ok (.ireturn, 1) := by decide +kernel
theorem dX11_letter_15 : decode cX11_letter 15 = .ok (.aload_n 0, 1) := by decide +kernel
theorem dX11_letter_16 : decode cX11_letter 16 = .ok (.getfield 59, 3) := by decide +kernel
theorem dX11_letter_19 : decode cX11_letter 19 = .ok (.bipush 18, 2) := by decide +kernel
theorem dX11_letter_21 : decode cX11_letter 21 = .ok (.if_icmp .ne 6, 3) := by decide +kernel
theorem dX11_letter_24 : decode cX11_letter 24 = .ok (.bipush (-104), 2) := by decide +kernel
theorem dX11_letter_26 : decode cX11_letter 26 = .ok (.ireturn, 1) := by decide +kernel
theorem dX11_letter_27 : decode cX11_letter 27 = .ok (.aload_n 0, 1) := by decide +kernel
theorem dX11_letter_28 : decode cX11_letter 28 = .ok (.getfield 7, 3) := by decide +kernel
theorem dX11_letter_31 : decode cX11_letter 31 = .ok (.aload_n 0, 1) := by decide +kernel
theorem dX11_letter_32 : decode cX11_letter 32 = .ok (.getfield 59, 3) := by decide +kernel
theorem dX11_letter_35 : decode cX11_letter 35 = .ok (.iload_n 1, 1) := by decide +kernel
theorem dX11_letter_36 : decode cX11_letter 36 = .ok (.iastore, 1) := by decide +kernel
theorem dX11_letter_37 : decode cX11_letter 37 = .ok (.aload_n 0, 1) := by decide +kernel
theorem dX11_letter_38 : decode cX11_letter 38 = .ok (.dup, 1) := by decide +kernel
theorem dX11_letter_39 : decode cX11_letter 39 = .ok (.getfield 59, 3) := by decide +kernel
theorem dX11_letter_42 : decode cX11_letter 42 = .ok (.iconst 1, 1) := by decide +kernel
theorem dX11_letter_43 : decode cX11_letter 43 = .ok (.iadd, 1) := by decide +kernel
theorem dX11_letter_44 : decode cX11_letter 44 = .ok (.putfield 59, 3) := by decide +kernel
theorem dX11_letter_47 : decode cX11_letter 47 = .ok (.aload_n 0, 1) := by decide +kernel
theorem dX11_letter_48 : decode cX11_letter 48 = .ok (.getfield 59, 3) := by decide +kernel
theorem dX11_letter_51 : decode cX11_letter 51 = .ok (.ireturn, 1) := by decide +kernel
theorem dX11_blank_0 : decode cX11_blank 0 = .ok (.aload_n 0, 1) := by decide +kernel
theorem dX11_blank_1 : decode cX11_blank 1 = .ok (.getfield 59, 3) := by decide +kernel
theorem dX11_blank_4 : decode cX11_blank 4 = .ok (.istore_n 1, 1) := by decide +kernel
theorem dX11_blank_5 : decode cX11_blank 5 = .ok (.aload_n 0, 1) := by decide +kernel
theorem dX11_blank_6 : decode cX11_blank 6 = .ok (.iconst 0, 1) := by decide +kernel
theorem dX11_blank_7 : decode cX11_blank 7 = .ok (.putfield 59, 3) := by decide +kernel
theorem dX11_blank_10 : decode cX11_blank 10 = .ok (.iload_n 1, 1) := by decide +kernel
theorem dX11_blank_11 : decode cX11_blank 11 = .ok (.ireturn, 1) := by decide +kernel
theorem dX11_kindBy_0 : decode cX11_kindBy 0 = .ok (.iload_n 0, 1) := by decide +kernel
theorem dX11_kindBy_1 : decode cX11_kindBy 1 = .ok (.lookupswitch 61 #[(103, 53), (108, 59), (109, 55), (115, 51), (119, 57)], 51) := by decide +kernel
theorem dX11_kindBy_52 : decode cX11_kindBy 52 = .ok (.iconst 0, 1) := by decide +kernel
theorem dX11_kindBy_53 : decode cX11_kindBy 53 = .ok (.ireturn, 1) := by decide +kernel
theorem dX11_kindBy_54 : decode cX11_kindBy 54 = .ok (.iconst 1, 1) := by decide +kernel
theorem dX11_kindBy_55 : decode cX11_kindBy 55 = .ok (.ireturn, 1) := by decide +kernel
theorem dX11_kindBy_56 : decode cX11_kindBy 56 = .ok (.iconst 2, 1) := by decide +kernel
theorem dX11_kindBy_57 : decode cX11_kindBy 57 = .ok (.ireturn, 1) := by decide +kernel
theorem dX11_kindBy_58 : decode cX11_kindBy 58 = .ok (.iconst 3, 1) := by decide +kernel
theorem dX11_kindBy_59 : decode cX11_kindBy 59 = .ok (.ireturn, 1) := by decide +kernel
theorem dX11_kindBy_60 : decode cX11_kindBy 60 = .ok (.iconst 4, 1) := by decide +kernel
theorem dX11_kindBy_61 : decode cX11_kindBy 61 = .ok (.ireturn, 1) := by decide +kernel
theorem dX11_kindBy_62 : decode cX11_kindBy 62 = .ok (.iconst (-1), 1) := by decide +kernel
theorem dX11_kindBy_63 : decode cX11_kindBy 63 = .ok (.ireturn, 1) := by decide +kernel
theorem dX11_bricksOf_0 : decode cX11_bricksOf 0 = .ok (.iload_n 0, 1) := by decide +kernel
theorem dX11_bricksOf_1 : decode cX11_bricksOf 1 = .ok (.iload_n 0, 1) := by decide +kernel
theorem dX11_bricksOf_2 : decode cX11_bricksOf 2 = .ok (.iconst 1, 1) := by decide +kernel
theorem dX11_bricksOf_3 : decode cX11_bricksOf 3 = .ok (.iadd, 1) := by decide +kernel
theorem dX11_bricksOf_4 : decode cX11_bricksOf 4 = .ok (.imul, 1) := by decide +kernel
theorem dX11_bricksOf_5 : decode cX11_bricksOf 5 = .ok (.iconst 2, 1) := by decide +kernel
theorem dX11_bricksOf_6 : decode cX11_bricksOf 6 = .ok (.idiv, 1) := by decide +kernel
theorem dX11_bricksOf_7 : decode cX11_bricksOf 7 = .ok (.ireturn, 1) := by decide +kernel
set_option maxRecDepth 20000 in
theorem ggX11_isRowSign_X11_kindBy : GoodIn wsX11_isRowSign wsX11_kindBy := goodIn_r _ [8] (by decide +kernel) (by decide +kernel)
set_option maxRecDepth 20000 in
theorem gX11_isRowSign_X11_kindBy : GoodIn wsX11_isRowSign (va_wsS RX11 71 yX11_kindBy wsX11_kindBy) := goodIn_app (goodIn_of _ (by decide +kernel)) ggX11_isRowSign_X11_kindBy
theorem dX11_isRowSign_0 : decode cX11_isRowSign 0 = .ok (.aload_n 0, 1) := by decide +kernel
theorem dX11_isRowSign_1 : decode cX11_isRowSign 1 = .ok (.getfield 62, 3) := by decide +kernel
theorem dX11_isRowSign_4 : decode cX11_isRowSign 4 = .ok (.aload_n 0, 1) := by decide +kernel
theorem dX11_isRowSign_5 : decode cX11_isRowSign 5 = .ok (.getfield 65, 3) := by decide +kernel
theorem dX11_isRowSign_8 : decode cX11_isRowSign 8 = .ok (.if_icmp .ne 42, 3) := by decide +kernel
theorem dX11_isRowSign_11 : decode cX11_isRowSign 11 = .ok (.aload_n 0, 1) := by decide +kernel
theorem dX11_isRowSign_12 : decode cX11_isRowSign 12 = .ok (.dup, 1) := by decide +kernel
theorem dX11_isRowSign_13 : decode cX11_isRowSign 13 = .ok (.getfield 65, 3) := by decide +kernel
theorem dX11_isRowSign_16 : decode cX11_isRowSign 16 = .ok (.iconst 1, 1) := by decide +kernel
theorem dX11_isRowSign_17 : decode cX11_isRowSign 17 = .ok (.isub, 1) := by decide +kernel
theorem dX11_isRowSign_18 : decode cX11_isRowSign 18 = .ok (.putfield 65, 3) := by decide +kernel
theorem dX11_isRowSign_21 : decode cX11_isRowSign 21 = .ok (.aload_n 0, 1) := by decide +kernel
theorem dX11_isRowSign_22 : decode cX11_isRowSign 22 = .ok (.iconst 0, 1) := by decide +kernel
theorem dX11_isRowSign_23 : decode cX11_isRowSign 23 = .ok (.putfield 62, 3) := by decide +kernel
theorem dX11_isRowSign_26 : decode cX11_isRowSign 26 = .ok (.iload_n 1, 1) := by decide +kernel
theorem dX11_isRowSign_27 : decode cX11_isRowSign 27 = .ok (.aload_n 0, 1) := by decide +kernel
theorem dX11_isRowSign_28 : decode cX11_isRowSign 28 = .ok (.getfield 65, 3) := by decide +kernel
theorem dX11_isRowSign_31 : decode cX11_isRowSign 31 = .ok (.ifCond .ne 8, 3) := by decide +kernel
theorem dX11_isRowSign_34 : decode cX11_isRowSign 34 = .ok (.bipush 59, 2) := by decide +kernel
theorem dX11_isRowSign_36 : decode cX11_isRowSign 36 = .ok (.goto 5, 3) := by decide +kernel
theorem dX11_isRowSign_39 : decode cX11_isRowSign 39 = .ok (.bipush 44, 2) := by decide +kernel
theorem dX11_isRowSign_41 : decode cX11_isRowSign 41 = .ok (.if_icmp .ne 7, 3) := by decide +kernel
theorem dX11_isRowSign_44 : decode cX11_isRowSign 44 = .ok (.iconst 1, 1) := by decide +kernel
theorem dX11_isRowSign_45 : decode cX11_isRowSign 45 = .ok (.goto 4, 3) := by decide +kernel
theorem dX11_isRowSign_48 : decode cX11_isRowSign 48 = .ok (.iconst 0, 1) := by decide +kernel
theorem dX11_isRowSign_49 : decode cX11_isRowSign 49 = .ok (.ireturn, 1) := by decide +kernel
theorem dX11_isRowSign_50 : decode cX11_isRowSign 50 = .ok (.aload_n 0, 1) := by decide +kernel
theorem dX11_isRowSign_51 : decode cX11_isRowSign 51 = .ok (.getfield 13, 3) := by decide +kernel
theorem dX11_isRowSign_54 : decode cX11_isRowSign 54 = .ok (.aload_n 0, 1) := by decide +kernel
theorem dX11_isRowSign_55 : decode cX11_isRowSign 55 = .ok (.getfield 68, 3) := by decide +kernel
theorem dX11_isRowSign_58 : decode cX11_isRowSign 58 = .ok (.iload_n 1, 1) := by decide +kernel
theorem dX11_isRowSign_59 : decode cX11_isRowSign 59 = .ok (.invokestatic 71, 3) := by decide +kernel
theorem dX11_isRowSign_62 : decode cX11_isRowSign 62 = .ok (.iastore, 1) := by decide +kernel
theorem dX11_isRowSign_63 : decode cX11_isRowSign 63 = .ok (.aload_n 0, 1) := by decide +kernel
theorem dX11_isRowSign_64 : decode cX11_isRowSign 64 = .ok (.dup, 1) := by decide +kernel
theorem dX11_isRowSign_65 : decode cX11_isRowSign 65 = .ok (.getfield 68, 3) := by decide +kernel
theorem dX11_isRowSign_68 : decode cX11_isRowSign 68 = .ok (.iconst 1, 1) := by decide +kernel
theorem dX11_isRowSign_69 : decode cX11_isRowSign 69 = .ok (.iadd, 1) := by decide +kernel
theorem dX11_isRowSign_70 : decode cX11_isRowSign 70 = .ok (.putfield 68, 3) := by decide +kernel
theorem dX11_isRowSign_73 : decode cX11_isRowSign 73 = .ok (.aload_n 0, 1) := by decide +kernel
theorem dX11_isRowSign_74 : decode cX11_isRowSign 74 = .ok (.dup, 1) := by decide +kernel
theorem dX11_isRowSign_75 : decode cX11_isRowSign 75 = .ok (.getfield 62, 3) := by decide +kernel
theorem dX11_isRowSign_78 : decode cX11_isRowSign 78 = .ok (.iconst 1, 1) := by decide +kernel
theorem dX11_isRowSign_79 : decode cX11_isRowSign 79 = .ok (.iadd, 1) := by decide +kernel
theorem dX11_isRowSign_80 : decode cX11_isRowSign 80 = .ok (.putfield 62, 3) := by decide +kernel
theorem dX11_isRowSign_83 : decode cX11_isRowSign 83 = .ok (.iload_n 1, 1) := by decide +kernel
theorem dX11_isRowSign_84 : decode cX11_isRowSign 84 = .ok (.invokestatic 71, 3) := by decide +kernel
theorem dX11_isRowSign_87 : decode cX11_isRowSign 87 = .ok (.iconst (-1), 1) := by decide +kernel
theorem dX11_isRowSign_88 : decode cX11_isRowSign 88 = .ok (.if_icmp .eq 7, 3) := by decide +kernel
theorem dX11_isRowSign_91 : decode cX11_isRowSign 91 = .ok (.iconst 1, 1) := by decide +kernel
theorem dX11_isRowSign_92 : decode cX11_isRowSign 92 = .ok (.goto 4, 3) := by decide +kernel
theorem dX11_isRowSign_95 : decode cX11_isRowSign 95 = .ok (.iconst 0, 1) := by decide +kernel
theorem dX11_isRowSign_96 : decode cX11_isRowSign 96 = .ok (.ireturn, 1) := by decide +kernel
set_option maxRecDepth 20000 in
theorem ggX11_isFigureSign_X11_in : GoodIn wsX11_isFigureSign wsX11_in := goodIn_r _ [8] (by decide +kernel) (by decide +kernel)
set_option maxRecDepth 20000 in
theorem gX11_isFigureSign_X11_in : GoodIn wsX11_isFigureSign (va_wsS RX11 55 yX11_in wsX11_in) := goodIn_app (goodIn_of _ (by decide +kernel)) ggX11_isFigureSign_X11_in
theorem dX11_isFigureSign_0 : decode cX11_isFigureSign 0 = .ok (.aload_n 0, 1) := by decide +kernel
theorem dX11_isFigureSign_1 : decode cX11_isFigureSign 1 = .ok (.dup, 1) := by decide +kernel
theorem dX11_isFigureSign_2 : decode cX11_isFigureSign 2 = .ok (.getfield 62, 3) := by decide +kernel
theorem dX11_isFigureSign_5 : decode cX11_isFigureSign 5 = .ok (.iconst 1, 1) := by decide +kernel
theorem dX11_isFigureSign_6 : decode cX11_isFigureSign 6 = .ok (.iadd, 1) := by decide +kernel
theorem dX11_isFigureSign_7 : decode cX11_isFigureSign 7 = .ok (.putfield 62, 3) := by decide +kernel
theorem dX11_isFigureSign_10 : decode cX11_isFigureSign 10 = .ok (.iload_n 1, 1) := by decide +kernel
theorem dX11_isFigureSign_11 : decode cX11_isFigureSign 11 = .ok (.i2l, 1) := by decide +kernel
theorem dX11_isFigureSign_12 : decode cX11_isFigureSign 12 = .ok (.ldc2_w 75, 3) := by decide +kernel
theorem dX11_isFigureSign_15 : decode cX11_isFigureSign 15 = .ok (.ldc2_w 77, 3) := by decide +kernel
theorem dX11_isFigureSign_18 : decode cX11_isFigureSign 18 = .ok (.invokestatic 55, 3) := by decide +kernel
theorem dX11_isFigureSign_21 : decode cX11_isFigureSign 21 = .ok (.ifCond .eq 23, 3) := by decide +kernel
theorem dX11_isFigureSign_24 : decode cX11_isFigureSign 24 = .ok (.aload_n 0, 1) := by decide +kernel
theorem dX11_isFigureSign_25 : decode cX11_isFigureSign 25 = .ok (.getfield 62, 3) := by decide +kernel
theorem dX11_isFigureSign_28 : decode cX11_isFigureSign 28 = .ok (.aload_n 0, 1) := by decide +kernel
theorem dX11_isFigureSign_29 : decode cX11_isFigureSign 29 = .ok (.getfield 7, 3) := by decide +kernel
theorem dX11_isFigureSign_32 : decode cX11_isFigureSign 32 = .ok (.iconst 0, 1) := by decide +kernel
theorem dX11_isFigureSign_33 : decode cX11_isFigureSign 33 = .ok (.iaload, 1) := by decide +kernel
theorem dX11_isFigureSign_34 : decode cX11_isFigureSign 34 = .ok (.bipush 48, 2) := by decide +kernel
theorem dX11_isFigureSign_36 : decode cX11_isFigureSign 36 = .ok (.isub, 1) := by decide +kernel
theorem dX11_isFigureSign_37 : decode cX11_isFigureSign 37 = .ok (.if_icmp .gt 7, 3) := by decide +kernel
theorem dX11_isFigureSign_40 : decode cX11_isFigureSign 40 = .ok (.iconst 1, 1) := by decide +kernel
theorem dX11_isFigureSign_41 : decode cX11_isFigureSign 41 = .ok (.goto 4, 3) := by decide +kernel
theorem dX11_isFigureSign_44 : decode cX11_isFigureSign 44 = .ok (.iconst 0, 1) := by decide +kernel
theorem dX11_isFigureSign_45 : decode cX11_isFigureSign 45 = .ok (.ireturn, 1) := by decide +kernel
set_option maxRecDepth 20000 in
theorem ggX11_isGood_X11_in : GoodIn wsX11_isGood wsX11_in := goodIn_r _ [10] (by decide +kernel) (by decide +kernel)
set_option maxRecDepth 20000 in
theorem gX11_isGood_X11_in : GoodIn wsX11_isGood (va_wsS RX11 55 yX11_in wsX11_in) := goodIn_app (goodIn_of _ (by decide +kernel)) ggX11_isGood_X11_in
set_option maxRecDepth 20000 in
theorem ggX11_isGood_X11_isRowSign : GoodIn wsX11_isGood wsX11_isRowSign := goodIn_r _ [14, 3, 2, 15, 4, 16, 17, 9, 18, 25, 26, 27, 28, 29, 30, 31, 32, 33, 34, 35, 36, 37, 38, 39, 40, 41, 42, 43, 44, 45, 46, 47, 48, 49, 50, 51, 52, 53] (by decide +kernel) (by decide +kernel)
set_option maxRecDepth 20000 in
theorem gX11_isGood_X11_isRowSign : GoodIn wsX11_isGood (wsV RX11 83 RX11 yX11_isRowSign wsX11_isRowSign) := goodIn_app (goodIn_of _ (by decide +kernel)) ggX11_isGood_X11_isRowSign
set_option maxRecDepth 20000 in
theorem ggX11_isGood_X11_isFigureSign : GoodIn wsX11_isGood wsX11_isFigureSign := goodIn_r _ [22, 3, 23, 24, 1, 7, 8, 9, 10, 25, 26, 27, 28, 29, 30, 31, 32, 33, 34, 35, 36, 37, 38, 39, 40, 41, 42, 43, 44, 45, 46, 47, 48, 49, 50, 51, 52, 53] (by decide +kernel) (by decide +kernel)
set_option maxRecDepth 20000 in
theorem gX11_isGood_X11_isFigureSign : GoodIn wsX11_isGood (wsV RX11 87 RX11 yX11_isFigureSign wsX11_isFigureSign) := goodIn_app (goodIn_of _ (by decide +kernel)) ggX11_isGood_X11_isFigureSign
theorem dX11_isGood_0 : decode cX11_isGood 0 = .ok (.aload_n 0, 1) := by decide +kernel
theorem dX11_isGood_1 : decode cX11_isGood 1 = .ok (.getfield 7, 3) := by decide +kernel
theorem dX11_isGood_4 : decode cX11_isGood 4 = .ok (.iload_n 1, 1) := by decide +kernel
theorem dX11_isGood_5 : decode cX11_isGood 5 = .ok (.iaload, 1) := by decide +kernel
theorem dX11_isGood_6 : decode cX11_isGood 6 = .ok (.istore_n 2, 1) := by decide +kernel
theorem dX11_isGood_7 : decode cX11_isGood 7 = .ok (.iload_n 1, 1) := by decide +kernel
theorem dX11_isGood_8 : decode cX11_isGood 8 = .ok (.lookupswitch 75 #[(0, 28), (1, 63)], 28) := by decide +kernel
theorem dX11_isGood_36 : decode cX11_isGood 36 = .ok (.aload_n 0, 1) := by decide +kernel
theorem dX11_isGood_37 : decode cX11_isGood 37 = .ok (.iload_n 2, 1) := by decide +kernel
theorem dX11_isGood_38 : decode cX11_isGood 38 = .ok (.bipush 48, 2) := by decide +kernel
theorem dX11_isGood_40 : decode cX11_isGood 40 = .ok (.isub, 1) := by decide +kernel
theorem dX11_isGood_41 : decode cX11_isGood 41 = .ok (.iconst 1, 1) := by decide +kernel
theorem dX11_isGood_42 : decode cX11_isGood 42 = .ok (.isub, 1) := by decide +kernel
theorem dX11_isGood_43 : decode cX11_isGood 43 = .ok (.putfield 65, 3) := by decide +kernel
theorem dX11_isGood_46 : decode cX11_isGood 46 = .ok (.aload_n 0, 1) := by decide +kernel
theorem dX11_isGood_47 : decode cX11_isGood 47 = .ok (.iconst 0, 1) := by decide +kernel
theorem dX11_isGood_48 : decode cX11_isGood 48 = .ok (.putfield 62, 3) := by decide +kernel
theorem dX11_isGood_51 : decode cX11_isGood 51 = .ok (.aload_n 0, 1) := by decide +kernel
theorem dX11_isGood_52 : decode cX11_isGood 52 = .ok (.iload_n 2, 1) := by decide +kernel
theorem dX11_isGood_53 : decode cX11_isGood 53 = .ok (.bipush 48, 2) := by decide +kernel
theorem dX11_isGood_55 : decode cX11_isGood 55 = .ok (.isub, 1) := by decide +kernel
theorem dX11_isGood_56 : decode cX11_isGood 56 = .ok (.putfield 68, 3) := by decide +kernel
theorem dX11_isGood_59 : decode cX11_isGood 59 = .ok (.iload_n 2, 1) := by decide +kernel
theorem dX11_isGood_60 : decode cX11_isGood 60 = .ok (.i2l, 1) := by decide +kernel
theorem dX11_isGood_61 : decode cX11_isGood 61 = .ok (.ldc2_w 79, 3) := by decide +kernel
theorem dX11_isGood_64 : decode cX11_isGood 64 = .ok (.ldc2_w 81, 3) := by decide +kernel
theorem dX11_isGood_67 : decode cX11_isGood 67 = .ok (.invokestatic 55, 3) := by decide +kernel
theorem dX11_isGood_70 : decode cX11_isGood 70 = .ok (.ireturn, 1) := by decide +kernel
theorem dX11_isGood_71 : decode cX11_isGood 71 = .ok (.iload_n 2, 1) := by decide +kernel
theorem dX11_isGood_72 : decode cX11_isGood 72 = .ok (.bipush 59, 2) := by decide +kernel
theorem dX11_isGood_74 : decode cX11_isGood 74 = .ok (.if_icmp .ne 7, 3) := by decide +kernel
theorem dX11_isGood_77 : decode cX11_isGood 77 = .ok (.iconst 1, 1) := by decide +kernel
theorem dX11_isGood_78 : decode cX11_isGood 78 = .ok (.goto 4, 3) := by decide +kernel
theorem dX11_isGood_81 : decode cX11_isGood 81 = .ok (.iconst 0, 1) := by decide +kernel
theorem dX11_isGood_82 : decode cX11_isGood 82 = .ok (.ireturn, 1) := by decide +kernel
theorem dX11_isGood_83 : decode cX11_isGood 83 = .ok (.aload_n 0, 1) := by decide +kernel
theorem dX11_isGood_84 : decode cX11_isGood 84 = .ok (.getfield 65, 3) := by decide +kernel
theorem dX11_isGood_87 : decode cX11_isGood 87 = .ok (.ifCond .le 11, 3) := by decide +kernel
theorem dX11_isGood_90 : decode cX11_isGood 90 = .ok (.aload_n 0, 1) := by decide +kernel
theorem dX11_isGood_91 : decode cX11_isGood 91 = .ok (.iload_n 2, 1) := by decide +kernel
theorem dX11_isGood_92 : decode cX11_isGood 92 = .ok (.invokevirtual 83, 3) := by decide +kernel
theorem dX11_isGood_95 : decode cX11_isGood 95 = .ok (.goto 8, 3) := by decide +kernel
theorem dX11_isGood_98 : decode cX11_isGood 98 = .ok (.aload_n 0, 1) := by decide +kernel
theorem dX11_isGood_99 : decode cX11_isGood 99 = .ok (.iload_n 2, 1) := by decide +kernel
theorem dX11_isGood_100 : decode cX11_isGood 100 = .ok (.invokevirtual 87, 3) := by decide +kernel
theorem dX11_isGood_103 : decode cX11_isGood 103 = .ok (.ireturn, 1) := by decide +kernel
set_option maxRecDepth 20000 in
theorem ggX11_faultOf_X11_isGood : GoodIn wsX11_faultOf wsX11_isGood := goodIn_r _ [6, 7, 8, 9, 10, 11, 12, 13, 14, 5, 15, 16, 17, 18, 19, 20, 21, 22, 23, 24, 25, 26, 27, 28, 29, 30, 31, 32, 33, 34, 35, 36, 37, 38, 39, 40, 41, 42, 43, 44, 45, 46, 47, 48, 49, 50, 51, 52, 53, 54, 55, 56, 57, 58] (by decide +kernel) (by decide +kernel)
set_option maxRecDepth 20000 in
theorem gX11_faultOf_X11_isGood : GoodIn wsX11_faultOf (wsV RX11 90 RX11 yX11_isGood wsX11_isGood) := goodIn_app (goodIn_of _ (by decide +kernel)) ggX11_faultOf_X11_isGood
theorem dX11_faultOf_0 : decode cX11_faultOf 0 = .ok (.iconst 0, 1) := by decide +kernel
theorem dX11_faultOf_1 : decode cX11_faultOf 1 = .ok (.istore_n 1, 1) := by decide +kernel
theorem dX11_faultOf_2 : decode cX11_faultOf 2 = .ok (.iload_n 1, 1) := by decide +kernel
theorem dX11_faultOf_3 : decode cX11_faultOf 3 = .ok (.aload_n 0, 1) := by decide +kernel
theorem dX11_faultOf_4 : decode cX11_faultOf 4 = .ok (.getfield 59, 3) := by decide +kernel
theorem dX11_faultOf_7 : decode cX11_faultOf 7 = .ok (.if_icmp .ge 17, 3) := by decide +kernel
theorem dX11_faultOf_10 : decode cX11_faultOf 10 = .ok (.aload_n 0, 1) := by decide +kernel
theorem dX11_faultOf_11 : decode cX11_faultOf 11 = .ok (.iload_n 1, 1) := by decide +kernel
theorem dX11_faultOf_12 : decode cX11_faultOf 12 = .ok (.invokevirtual 90, 3) := by decide +kernel
theorem dX11_faultOf_15 : decode cX11_faultOf 15 = .ok (.ifCond .eq 9, 3) := by decide +kernel
theorem dX11_faultOf_18 : decode cX11_faultOf 18 = .ok (.iinc 1 1, 3) := by decide +kernel
theorem dX11_faultOf_21 : decode cX11_faultOf 21 = .ok (.goto (-19), 3) := by decide +kernel
theorem dX11_faultOf_24 : decode cX11_faultOf 24 = .ok (.iload_n 1, 1) := by decide +kernel
theorem dX11_faultOf_25 : decode cX11_faultOf 25 = .ok (.ireturn, 1) := by decide +kernel
set_option maxRecDepth 20000 in
theorem ggX11_fault_X11_faultOf : GoodIn wsX11_fault wsX11_faultOf := goodIn_r _ [5, 6, 7, 8, 9, 4, 10, 11, 12, 13, 14, 15, 16, 17, 18, 19, 20, 21, 22, 23, 24, 25, 26, 27, 28, 29, 30, 31, 32, 33, 34, 35, 36, 37, 38, 39, 40, 41, 42, 43, 44, 45, 46, 47, 48, 49, 50, 51, 52, 53, 54, 55, 56, 57, 58, 59, 60, 61, 62] (by decide +kernel) (by decide +kernel)
set_option maxRecDepth 20000 in
theorem gX11_fault_X11_faultOf : GoodIn wsX11_fault (wsV RX11 93 RX11 yX11_faultOf wsX11_faultOf) := goodIn_app (goodIn_of _ (by decide +kernel)) ggX11_fault_X11_faultOf
theorem dX11_fault_0 : decode cX11_fault 0 = .ok (.aload_n 0, 1) := by decide +kernel
theorem dX11_fault_1 : decode cX11_fault 1 = .ok (.invokevirtual 93, 3) := by decide +kernel
theorem dX11_fault_4 : decode cX11_fault 4 = .ok (.ireturn, 1) := by decide +kernel
set_option maxRecDepth 20000 in
theorem ggX11_pile_X11_faultOf : GoodIn wsX11_pile wsX11_faultOf := goodIn_r _ [18, 1, 19, 20, 21, 17, 22, 4, 2, 3, 23, 24, 25, 26, 27, 28, 29, 30, 31, 32, 7, 33, 34, 35, 36, 37, 38, 39, 40, 41, 48, 49, 50, 51, 52, 53, 54, 55, 56, 57, 58, 59, 60, 61, 62, 63, 64, 65, 66, 67, 68, 69, 70, 71, 72, 73, 74, 75, 76] (by decide +kernel) (by decide +kernel)
set_option maxRecDepth 20000 in
theorem gX11_pile_X11_faultOf : GoodIn wsX11_pile (wsV RX11 93 RX11 yX11_faultOf wsX11_faultOf) := goodIn_app (goodIn_of _ (by decide +kernel)) ggX11_pile_X11_faultOf
set_option maxRecDepth 20000 in
theorem ggX11_pile_X11_bricksOf : GoodIn wsX11_pile wsX11_bricksOf := goodIn_r _ [44] (by decide +kernel) (by decide +kernel)
set_option maxRecDepth 20000 in
theorem gX11_pile_X11_bricksOf : GoodIn wsX11_pile (va_wsS RX11 100 yX11_bricksOf wsX11_bricksOf) := goodIn_app (goodIn_of _ (by decide +kernel)) ggX11_pile_X11_bricksOf
set_option maxRecDepth 20000 in
theorem ggX11_pile_X11_copy : GoodIn wsX11_pile wsX11_copy := goodIn_r _ [47] (by decide +kernel) (by decide +kernel)
set_option maxRecDepth 20000 in
theorem gX11_pile_X11_copy : GoodIn wsX11_pile (va_wsS RX11 106 yX11_copy wsX11_copy) := goodIn_app (goodIn_of _ (by decide +kernel)) ggX11_pile_X11_copy
theorem dX11_pile_0 : decode cX11_pile 0 = .ok (.aload_n 0, 1) := by decide +kernel
theorem dX11_pile_1 : decode cX11_pile 1 = .ok (.getfield 59, 3) := by decide +kernel
theorem dX11_pile_4 : decode cX11_pile 4 = .ok (.iconst 2, 1) := by decide +kernel
theorem dX11_pile_5 : decode cX11_pile 5 = .ok (.if_icmp .lt 37, 3) := by decide +kernel
theorem dX11_pile_8 : decode cX11_pile 8 = .ok (.aload_n 0, 1) := by decide +kernel
theorem dX11_pile_9 : decode cX11_pile 9 = .ok (.invokevirtual 93, 3) := by decide +kernel
theorem dX11_pile_12 : decode cX11_pile 12 = .ok (.aload_n 0, 1) := by decide +kernel
theorem dX11_pile_13 : decode cX11_pile 13 = .ok (.getfield 59, 3) := by decide +kernel
theorem dX11_pile_16 : decode cX11_pile 16 = .ok (.if_icmp .lt 26, 3) := by decide +kernel
theorem dX11_pile_19 : decode cX11_pile 19 = .ok (.aload_n 0, 1) := by decide +kernel
theorem dX11_pile_20 : decode cX11_pile 20 = .ok (.getfield 65, 3) := by decide +kernel
theorem dX11_pile_23 : decode cX11_pile 23 = .ok (.ifCond .ne 19, 3) := by decide +kernel
theorem dX11_pile_26 : decode cX11_pile 26 = .ok (.aload_n 0, 1) := by decide +kernel
theorem dX11_pile_27 : decode cX11_pile 27 = .ok (.getfield 62, 3) := by decide +kernel
theorem dX11_pile_30 : decode cX11_pile 30 = .ok (.aload_n 0, 1) := by decide +kernel
theorem dX11_pile_31 : decode cX11_pile 31 = .ok (.getfield 7, 3) := by decide +kernel
theorem dX11_pile_34 : decode cX11_pile 34 = .ok (.iconst 0, 1) := by decide +kernel
theorem dX11_pile_35 : decode cX11_pile 35 = .ok (.iaload, 1) := by decide +kernel
theorem dX11_pile_36 : decode cX11_pile 36 = .ok (.bipush 48, 2) := by decide +kernel
theorem dX11_pile_38 : decode cX11_pile 38 = .ok (.isub, 1) := by decide +kernel
theorem dX11_pile_39 : decode cX11_pile 39 = .ok (.if_icmp .eq 6, 3) := by decide +kernel
theorem dX11_pile_42 : decode cX11_pile 42 = .ok (.bipush (-103), 2) := by decide +kernel
theorem dX11_pile_44 : decode cX11_pile 44 = .ok (.ireturn, 1) := by decide +kernel
theorem dX11_pile_45 : decode cX11_pile 45 = .ok (.aload_n 0, 1) := by decide +kernel
theorem dX11_pile_46 : decode cX11_pile 46 = .ok (.aload_n 0, 1) := by decide +kernel
theorem dX11_pile_47 : decode cX11_pile 47 = .ok (.getfield 7, 3) := by decide +kernel
theorem dX11_pile_50 : decode cX11_pile 50 = .ok (.iconst 0, 1) := by decide +kernel
theorem dX11_pile_51 : decode cX11_pile 51 = .ok (.iaload, 1) := by decide +kernel
theorem dX11_pile_52 : decode cX11_pile 52 = .ok (.bipush 48, 2) := by decide +kernel
theorem dX11_pile_54 : decode cX11_pile 54 = .ok (.isub, 1) := by decide +kernel
theorem dX11_pile_55 : decode cX11_pile 55 = .ok (.putfield 97, 3) := by decide +kernel
theorem dX11_pile_58 : decode cX11_pile 58 = .ok (.aload_n 0, 1) := by decide +kernel
theorem dX11_pile_59 : decode cX11_pile 59 = .ok (.aload_n 0, 1) := by decide +kernel
theorem dX11_pile_60 : decode cX11_pile 60 = .ok (.getfield 97, 3) := by decide +kernel
theorem dX11_pile_63 : decode cX11_pile 63 = .ok (.invokestatic 100, 3) := by decide +kernel
theorem dX11_pile_66 : decode cX11_pile 66 = .ok (.putfield 103, 3) := by decide +kernel
theorem dX11_pile_69 : decode cX11_pile 69 = .ok (.aload_n 0, 1) := by decide +kernel
theorem dX11_pile_70 : decode cX11_pile 70 = .ok (.getfield 13, 3) := by decide +kernel
theorem dX11_pile_73 : decode cX11_pile 73 = .ok (.aload_n 0, 1) := by decide +kernel
theorem dX11_pile_74 : decode cX11_pile 74 = .ok (.getfield 16, 3) := by decide +kernel
theorem dX11_pile_77 : decode cX11_pile 77 = .ok (.invokestatic 106, 3) := by decide +kernel
theorem dX11_pile_80 : decode cX11_pile 80 = .ok (.iconst 0, 1) := by decide +kernel
theorem dX11_pile_81 : decode cX11_pile 81 = .ok (.istore_n 1, 1) := by decide +kernel
theorem dX11_pile_82 : decode cX11_pile 82 = .ok (.iload_n 1, 1) := by decide +kernel
theorem dX11_pile_83 : decode cX11_pile 83 = .ok (.aload_n 0, 1) := by decide +kernel
theorem dX11_pile_84 : decode cX11_pile 84 = .ok (.getfield 97, 3) := by decide +kernel
theorem dX11_pile_87 : decode cX11_pile 87 = .ok (.if_icmp .ge 34, 3) := by decide +kernel
theorem dX11_pile_90 : decode cX11_pile 90 = .ok (.aload_n 0, 1) := by decide +kernel
theorem dX11_pile_91 : decode cX11_pile 91 = .ok (.getfield 19, 3) := by decide +kernel
theorem dX11_pile_94 : decode cX11_pile 94 = .ok (.iload_n 1, 1) := by decide +kernel
theorem dX11_pile_95 : decode cX11_pile 95 = .ok (.aload_n 0, 1) := by decide +kernel
theorem dX11_pile_96 : decode cX11_pile 96 = .ok (.getfield 7, 3) := by decide +kernel
theorem dX11_pile_99 : decode cX11_pile 99 = .ok (.aload_n 0, 1) := by decide +kernel
theorem dX11_pile_100 : decode cX11_pile 100 = .ok (.getfield 59, 3) := by decide +kernel
theorem dX11_pile_103 : decode cX11_pile 103 = .ok (.aload_n 0, 1) := by decide +kernel
theorem dX11_pile_104 : decode cX11_pile 104 = .ok (.getfield 97, 3) := by decide +kernel
theorem dX11_pile_107 : decode cX11_pile 107 = .ok (.isub, 1) := by decide +kernel
theorem dX11_pile_108 : decode cX11_pile 108 = .ok (.iload_n 1, 1) := by decide +kernel
theorem dX11_pile_109 : decode cX11_pile 109 = .ok (.iadd, 1) := by decide +kernel
theorem dX11_pile_110 : decode cX11_pile 110 = .ok (.iaload, 1) := by decide +kernel
theorem dX11_pile_111 : decode cX11_pile 111 = .ok (.bipush 48, 2) := by decide +kernel
theorem dX11_pile_113 : decode cX11_pile 113 = .ok (.isub, 1) := by decide +kernel
theorem dX11_pile_114 : decode cX11_pile 114 = .ok (.iastore, 1) := by decide +kernel
theorem dX11_pile_115 : decode cX11_pile 115 = .ok (.iinc 1 1, 3) := by decide +kernel
theorem dX11_pile_118 : decode cX11_pile 118 = .ok (.goto (-36), 3) := by decide +kernel
theorem dX11_pile_121 : decode cX11_pile 121 = .ok (.iconst 0, 1) := by decide +kernel
theorem dX11_pile_122 : decode cX11_pile 122 = .ok (.istore_n 1, 1) := by decide +kernel
theorem dX11_pile_123 : decode cX11_pile 123 = .ok (.iload_n 1, 1) := by decide +kernel
theorem dX11_pile_124 : decode cX11_pile 124 = .ok (.bipush 10, 2) := by decide +kernel
theorem dX11_pile_126 : decode cX11_pile 126 = .ok (.if_icmp .ge 16, 3) := by decide +kernel
theorem dX11_pile_129 : decode cX11_pile 129 = .ok (.aload_n 0, 1) := by decide +kernel
theorem dX11_pile_130 : decode cX11_pile 130 = .ok (.getfield 22, 3) := by decide +kernel
theorem dX11_pile_133 : decode cX11_pile 133 = .ok (.iload_n 1, 1) := by decide +kernel
theorem dX11_pile_134 : decode cX11_pile 134 = .ok (.iconst (-1), 1) := by decide +kernel
theorem dX11_pile_135 : decode cX11_pile 135 = .ok (.iastore, 1) := by decide +kernel
theorem dX11_pile_136 : decode cX11_pile 136 = .ok (.iinc 1 1, 3) := by decide +kernel
theorem dX11_pile_139 : decode cX11_pile 139 = .ok (.goto (-16), 3) := by decide +kernel
theorem dX11_pile_142 : decode cX11_pile 142 = .ok (.aload_n 0, 1) := by decide +kernel
theorem dX11_pile_143 : decode cX11_pile 143 = .ok (.iconst 0, 1) := by decide +kernel
theorem dX11_pile_144 : decode cX11_pile 144 = .ok (.putfield 110, 3) := by decide +kernel
theorem dX11_pile_147 : decode cX11_pile 147 = .ok (.aload_n 0, 1) := by decide +kernel
theorem dX11_pile_148 : decode cX11_pile 148 = .ok (.iconst 0, 1) := by decide +kernel
theorem dX11_pile_149 : decode cX11_pile 149 = .ok (.putfield 113, 3) := by decide +kernel
theorem dX11_pile_152 : decode cX11_pile 152 = .ok (.aload_n 0, 1) := by decide +kernel
theorem dX11_pile_153 : decode cX11_pile 153 = .ok (.dup, 1) := by decide +kernel
theorem dX11_pile_154 : decode cX11_pile 154 = .ok (.getfield 116, 3) := by decide +kernel
theorem dX11_pile_157 : decode cX11_pile 157 = .ok (.iconst 1, 1) := by decide +kernel
theorem dX11_pile_158 : decode cX11_pile 158 = .ok (.iadd, 1) := by decide +kernel
theorem dX11_pile_159 : decode cX11_pile 159 = .ok (.putfield 116, 3) := by decide +kernel
theorem dX11_pile_162 : decode cX11_pile 162 = .ok (.aload_n 0, 1) := by decide +kernel
theorem dX11_pile_163 : decode cX11_pile 163 = .ok (.iconst 0, 1) := by decide +kernel
theorem dX11_pile_164 : decode cX11_pile 164 = .ok (.putfield 59, 3) := by decide +kernel
theorem dX11_pile_167 : decode cX11_pile 167 = .ok (.aload_n 0, 1) := by decide +kernel
theorem dX11_pile_168 : decode cX11_pile 168 = .ok (.getfield 103, 3) := by decide +kernel
theorem dX11_pile_171 : decode cX11_pile 171 = .ok (.ireturn, 1) := by decide +kernel
theorem dX11_lacks_0 : decode cX11_lacks 0 = .ok (.aload_n 0, 1) := by decide +kernel
theorem dX11_lacks_1 : decode cX11_lacks 1 = .ok (.getfield 97, 3) := by decide +kernel
theorem dX11_lacks_4 : decode cX11_lacks 4 = .ok (.ifCond .ne 7, 3) := by decide +kernel
theorem dX11_lacks_7 : decode cX11_lacks 7 = .ok (.iconst 1, 1) := by decide +kernel
theorem dX11_lacks_8 : decode cX11_lacks 8 = .ok (.goto 4, 3) := by decide +kernel
theorem dX11_lacks_11 : decode cX11_lacks 11 = .ok (.iconst 0, 1) := by decide +kernel
theorem dX11_lacks_12 : decode cX11_lacks 12 = .ok (.ireturn, 1) := by decide +kernel
set_option maxRecDepth 20000 in
theorem ggX11_isFigure_X11_in : GoodIn wsX11_isFigure wsX11_in := goodIn_r _ [5] (by decide +kernel) (by decide +kernel)
set_option maxRecDepth 20000 in
theorem gX11_isFigure_X11_in : GoodIn wsX11_isFigure (va_wsS RX11 55 yX11_in wsX11_in) := goodIn_app (goodIn_of _ (by decide +kernel)) ggX11_isFigure_X11_in
theorem dX11_isFigure_0 : decode cX11_isFigure 0 = .ok (.iload_n 1, 1) := by decide +kernel
theorem dX11_isFigure_1 : decode cX11_isFigure 1 = .ok (.i2l, 1) := by decide +kernel
theorem dX11_isFigure_2 : decode cX11_isFigure 2 = .ok (.lconst 0, 1) := by decide +kernel
theorem dX11_isFigure_3 : decode cX11_isFigure 3 = .ok (.aload_n 0, 1) := by decide +kernel
theorem dX11_isFigure_4 : decode cX11_isFigure 4 = .ok (.getfield 97, 3) := by decide +kernel
theorem dX11_isFigure_7 : decode cX11_isFigure 7 = .ok (.iconst 1, 1) := by decide +kernel
theorem dX11_isFigure_8 : decode cX11_isFigure 8 = .ok (.isub, 1) := by decide +kernel
theorem dX11_isFigure_9 : decode cX11_isFigure 9 = .ok (.i2l, 1) := by decide +kernel
theorem dX11_isFigure_10 : decode cX11_isFigure 10 = .ok (.invokestatic 55, 3) := by decide +kernel
theorem dX11_isFigure_13 : decode cX11_isFigure 13 = .ok (.ireturn, 1) := by decide +kernel
set_option maxRecDepth 20000 in
theorem ggX11_isBrick_X11_in : GoodIn wsX11_isBrick wsX11_in := goodIn_r _ [5] (by decide +kernel) (by decide +kernel)
set_option maxRecDepth 20000 in
theorem gX11_isBrick_X11_in : GoodIn wsX11_isBrick (va_wsS RX11 55 yX11_in wsX11_in) := goodIn_app (goodIn_of _ (by decide +kernel)) ggX11_isBrick_X11_in
theorem dX11_isBrick_0 : decode cX11_isBrick 0 = .ok (.iload_n 1, 1) := by decide +kernel
theorem dX11_isBrick_1 : decode cX11_isBrick 1 = .ok (.i2l, 1) := by decide +kernel
theorem dX11_isBrick_2 : decode cX11_isBrick 2 = .ok (.lconst 0, 1) := by decide +kernel
theorem dX11_isBrick_3 : decode cX11_isBrick 3 = .ok (.aload_n 0, 1) := by decide +kernel
theorem dX11_isBrick_4 : decode cX11_isBrick 4 = .ok (.getfield 103, 3) := by decide +kernel
theorem dX11_isBrick_7 : decode cX11_isBrick 7 = .ok (.iconst 1, 1) := by decide +kernel
theorem dX11_isBrick_8 : decode cX11_isBrick 8 = .ok (.isub, 1) := by decide +kernel
theorem dX11_isBrick_9 : decode cX11_isBrick 9 = .ok (.i2l, 1) := by decide +kernel
theorem dX11_isBrick_10 : decode cX11_isBrick 10 = .ok (.invokestatic 55, 3) := by decide +kernel
theorem dX11_isBrick_13 : decode cX11_isBrick 13 = .ok (.ireturn, 1) := by decide +kernel
set_option maxRecDepth 20000 in
theorem ggX11_isUpper_X11_in : GoodIn wsX11_isUpper wsX11_in := goodIn_r _ [6] (by decide +kernel) (by decide +kernel)
set_option maxRecDepth 20000 in
theorem gX11_isUpper_X11_in : GoodIn wsX11_isUpper (va_wsS RX11 55 yX11_in wsX11_in) := goodIn_app (goodIn_of _ (by decide +kernel)) ggX11_isUpper_X11_in
theorem dX11_isUpper_0 : decode cX11_isUpper 0 = .ok (.iload_n 1, 1) := by decide +kernel
theorem dX11_isUpper_1 : decode cX11_isUpper 1 = .ok (.i2l, 1) := by decide +kernel
theorem dX11_isUpper_2 : decode cX11_isUpper 2 = .ok (.aload_n 0, 1) := by decide +kernel
theorem dX11_isUpper_3 : decode cX11_isUpper 3 = .ok (.getfield 97, 3) := by decide +kernel
theorem dX11_isUpper_6 : decode cX11_isUpper 6 = .ok (.i2l, 1) := by decide +kernel
theorem dX11_isUpper_7 : decode cX11_isUpper 7 = .ok (.aload_n 0, 1) := by decide +kernel
theorem dX11_isUpper_8 : decode cX11_isUpper 8 = .ok (.getfield 103, 3) := by decide +kernel
theorem dX11_isUpper_11 : decode cX11_isUpper 11 = .ok (.iconst 1, 1) := by decide +kernel
theorem dX11_isUpper_12 : decode cX11_isUpper 12 = .ok (.isub, 1) := by decide +kernel
theorem dX11_isUpper_13 : decode cX11_isUpper 13 = .ok (.i2l, 1) := by decide +kernel
theorem dX11_isUpper_14 : decode cX11_isUpper 14 = .ok (.invokestatic 55, 3) := by decide +kernel
theorem dX11_isUpper_17 : decode cX11_isUpper 17 = .ok (.ireturn, 1) := by decide +kernel
theorem dX11_madeBy_0 : decode cX11_madeBy 0 = .ok (.iload_n 0, 1) := by decide +kernel
theorem dX11_madeBy_1 : decode cX11_madeBy 1 = .ok (.tableswitch 72 1 4 #[31, 46, 57, 63], 31) := by decide +kernel
theorem dX11_madeBy_32 : decode cX11_madeBy 32 = .ok (.iload_n 1, 1) := by decide +kernel
theorem dX11_madeBy_33 : decode cX11_madeBy 33 = .ok (.iload_n 2, 1) := by decide +kernel
theorem dX11_madeBy_34 : decode cX11_madeBy 34 = .ok (.if_icmp .le 9, 3) := by decide +kernel
theorem dX11_madeBy_37 : decode cX11_madeBy 37 = .ok (.iload_n 1, 1) := by decide +kernel
theorem dX11_madeBy_38 : decode cX11_madeBy 38 = .ok (.iload_n 2, 1) := by decide +kernel
theorem dX11_madeBy_39 : decode cX11_madeBy 39 = .ok (.isub, 1) := by decide +kernel
theorem dX11_madeBy_40 : decode cX11_madeBy 40 = .ok (.goto 6, 3) := by decide +kernel
theorem dX11_madeBy_43 : decode cX11_madeBy 43 = .ok (.iload_n 2, 1) := by decide +kernel
theorem dX11_madeBy_44 : decode cX11_madeBy 44 = .ok (.iload_n 1, 1) := by decide +kernel
theorem dX11_madeBy_45 : decode cX11_madeBy 45 = .ok (.isub, 1) := by decide +kernel
theorem dX11_madeBy_46 : decode cX11_madeBy 46 = .ok (.ireturn, 1) := by decide +kernel
theorem dX11_madeBy_47 : decode cX11_madeBy 47 = .ok (.iload_n 1, 1) := by decide +kernel
theorem dX11_madeBy_48 : decode cX11_madeBy 48 = .ok (.iload_n 2, 1) := by decide +kernel
theorem dX11_madeBy_49 : decode cX11_madeBy 49 = .ok (.if_icmp .le 7, 3) := by decide +kernel
theorem dX11_madeBy_52 : decode cX11_madeBy 52 = .ok (.iload_n 1, 1) := by decide +kernel
theorem dX11_madeBy_53 : decode cX11_madeBy 53 = .ok (.goto 4, 3) := by decide +kernel
theorem dX11_madeBy_56 : decode cX11_madeBy 56 = .ok (.iload_n 2, 1) := by decide +kernel
theorem dX11_madeBy_57 : decode cX11_madeBy 57 = .ok (.ireturn, 1) := by decide +kernel
theorem dX11_madeBy_58 : decode cX11_madeBy 58 = .ok (.iconst 2, 1) := by decide +kernel
theorem dX11_madeBy_59 : decode cX11_madeBy 59 = .ok (.iload_n 1, 1) := by decide +kernel
theorem dX11_madeBy_60 : decode cX11_madeBy 60 = .ok (.imul, 1) := by decide +kernel
theorem dX11_madeBy_61 : decode cX11_madeBy 61 = .ok (.iload_n 2, 1) := by decide +kernel
theorem dX11_madeBy_62 : decode cX11_madeBy 62 = .ok (.iadd, 1) := by decide +kernel
theorem dX11_madeBy_63 : decode cX11_madeBy 63 = .ok (.ireturn, 1) := by decide +kernel
theorem dX11_madeBy_64 : decode cX11_madeBy 64 = .ok (.iconst 2, 1) := by decide +kernel
theorem dX11_madeBy_65 : decode cX11_madeBy 65 = .ok (.iload_n 1, 1) := by decide +kernel
theorem dX11_madeBy_66 : decode cX11_madeBy 66 = .ok (.imul, 1) := by decide +kernel
theorem dX11_madeBy_67 : decode cX11_madeBy 67 = .ok (.iload_n 2, 1) := by decide +kernel
theorem dX11_madeBy_68 : decode cX11_madeBy 68 = .ok (.iadd, 1) := by decide +kernel
theorem dX11_madeBy_69 : decode cX11_madeBy 69 = .ok (.bipush 10, 2) := by decide +kernel
theorem dX11_madeBy_71 : decode cX11_madeBy 71 = .ok (.irem, 1) := by decide +kernel
theorem dX11_madeBy_72 : decode cX11_madeBy 72 = .ok (.ireturn, 1) := by decide +kernel
theorem dX11_madeBy_73 : decode cX11_madeBy 73 = .ok (.iload_n 1, 1) := by decide +kernel
theorem dX11_madeBy_74 : decode cX11_madeBy 74 = .ok (.iload_n 2, 1) := by decide +kernel
theorem dX11_madeBy_75 : decode cX11_madeBy 75 = .ok (.iadd, 1) := by decide +kernel
theorem dX11_madeBy_76 : decode cX11_madeBy 76 = .ok (.ireturn, 1) := by decide +kernel
theorem dX11_leftOf_0 : decode cX11_leftOf 0 = .ok (.aload_n 0, 1) := by decide +kernel
theorem dX11_leftOf_1 : decode cX11_leftOf 1 = .ok (.getfield 97, 3) := by decide +kernel
theorem dX11_leftOf_4 : decode cX11_leftOf 4 = .ok (.istore_n 2, 1) := by decide +kernel
theorem dX11_leftOf_5 : decode cX11_leftOf 5 = .ok (.iconst 0, 1) := by decide +kernel
theorem dX11_leftOf_6 : decode cX11_leftOf 6 = .ok (.istore_n 3, 1) := by decide +kernel
theorem dX11_leftOf_7 : decode cX11_leftOf 7 = .ok (.iload_n 1, 1) := by decide +kernel
theorem dX11_leftOf_8 : decode cX11_leftOf 8 = .ok (.iload_n 3, 1) := by decide +kernel
theorem dX11_leftOf_9 : decode cX11_leftOf 9 = .ok (.iconst 2, 1) := by decide +kernel
theorem dX11_leftOf_10 : decode cX11_leftOf 10 = .ok (.iload_n 2, 1) := by decide +kernel
theorem dX11_leftOf_11 : decode cX11_leftOf 11 = .ok (.imul, 1) := by decide +kernel
theorem dX11_leftOf_12 : decode cX11_leftOf 12 = .ok (.iadd, 1) := by decide +kernel
theorem dX11_leftOf_13 : decode cX11_leftOf 13 = .ok (.iconst 1, 1) := by decide +kernel
theorem dX11_leftOf_14 : decode cX11_leftOf 14 = .ok (.isub, 1) := by decide +kernel
theorem dX11_leftOf_15 : decode cX11_leftOf 15 = .ok (.if_icmp .lt 13, 3) := by decide +kernel
theorem dX11_leftOf_18 : decode cX11_leftOf 18 = .ok (.iload_n 3, 1) := by decide +kernel
theorem dX11_leftOf_19 : decode cX11_leftOf 19 = .ok (.iload_n 2, 1) := by decide +kernel
theorem dX11_leftOf_20 : decode cX11_leftOf 20 = .ok (.iadd, 1) := by decide +kernel
theorem dX11_leftOf_21 : decode cX11_leftOf 21 = .ok (.istore_n 3, 1) := by decide +kernel
theorem dX11_leftOf_22 : decode cX11_leftOf 22 = .ok (.iinc 2 (-1), 3) := by decide +kernel
theorem dX11_leftOf_25 : decode cX11_leftOf 25 = .ok (.goto (-18), 3) := by decide +kernel
theorem dX11_leftOf_28 : decode cX11_leftOf 28 = .ok (.iload_n 3, 1) := by decide +kernel
theorem dX11_leftOf_29 : decode cX11_leftOf 29 = .ok (.iload_n 1, 1) := by decide +kernel
theorem dX11_leftOf_30 : decode cX11_leftOf 30 = .ok (.iload_n 3, 1) := by decide +kernel
theorem dX11_leftOf_31 : decode cX11_leftOf 31 = .ok (.isub, 1) := by decide +kernel
theorem dX11_leftOf_32 : decode cX11_leftOf 32 = .ok (.iload_n 2, 1) := by decide +kernel
theorem dX11_leftOf_33 : decode cX11_leftOf 33 = .ok (.isub, 1) := by decide +kernel
theorem dX11_leftOf_34 : decode cX11_leftOf 34 = .ok (.iadd, 1) := by decide +kernel
theorem dX11_leftOf_35 : decode cX11_leftOf 35 = .ok (.ireturn, 1) := by decide +kernel
set_option maxRecDepth 20000 in
theorem ggX11_layValues_X11_leftOf : GoodIn wsX11_layValues wsX11_leftOf := goodIn_r _ [10, 3, 14, 15, 16, 17, 18, 19, 20, 21, 22, 23, 24, 25, 26, 27, 28, 29, 30, 31, 32, 33, 34, 35, 36, 37, 38, 39, 40, 41, 42] (by decide +kernel) (by decide +kernel)
set_option maxRecDepth 20000 in
theorem gX11_layValues_X11_leftOf : GoodIn wsX11_layValues (wsV RX11 119 RX11 yX11_leftOf wsX11_leftOf) := goodIn_app (goodIn_of _ (by decide +kernel)) ggX11_layValues_X11_leftOf
set_option maxRecDepth 20000 in
theorem ggX11_layValues_X11_madeBy : GoodIn wsX11_layValues wsX11_madeBy := goodIn_r _ [13] (by decide +kernel) (by decide +kernel)
set_option maxRecDepth 20000 in
theorem gX11_layValues_X11_madeBy : GoodIn wsX11_layValues (va_wsS RX11 122 yX11_madeBy wsX11_madeBy) := goodIn_app (goodIn_of _ (by decide +kernel)) ggX11_layValues_X11_madeBy
theorem dX11_layValues_0 : decode cX11_layValues 0 = .ok (.iconst 0, 1) := by decide +kernel
theorem dX11_layValues_1 : decode cX11_layValues 1 = .ok (.istore_n 1, 1) := by decide +kernel
theorem dX11_layValues_2 : decode cX11_layValues 2 = .ok (.iload_n 1, 1) := by decide +kernel
theorem dX11_layValues_3 : decode cX11_layValues 3 = .ok (.aload_n 0, 1) := by decide +kernel
theorem dX11_layValues_4 : decode cX11_layValues 4 = .ok (.getfield 103, 3) := by decide +kernel
theorem dX11_layValues_7 : decode cX11_layValues 7 = .ok (.if_icmp .ge 63, 3) := by decide +kernel
theorem dX11_layValues_10 : decode cX11_layValues 10 = .ok (.aload_n 0, 1) := by decide +kernel
theorem dX11_layValues_11 : decode cX11_layValues 11 = .ok (.getfield 25, 3) := by decide +kernel
theorem dX11_layValues_14 : decode cX11_layValues 14 = .ok (.iload_n 1, 1) := by decide +kernel
theorem dX11_layValues_15 : decode cX11_layValues 15 = .ok (.iload_n 1, 1) := by decide +kernel
theorem dX11_layValues_16 : decode cX11_layValues 16 = .ok (.aload_n 0, 1) := by decide +kernel
theorem dX11_layValues_17 : decode cX11_layValues 17 = .ok (.getfield 97, 3) := by decide +kernel
theorem dX11_layValues_20 : decode cX11_layValues 20 = .ok (.if_icmp .ge 12, 3) := by decide +kernel
theorem dX11_layValues_23 : decode cX11_layValues 23 = .ok (.aload_n 0, 1) := by decide +kernel
theorem dX11_layValues_24 : decode cX11_layValues 24 = .ok (.getfield 28, 3) := by decide +kernel
theorem dX11_layValues_27 : decode cX11_layValues 27 = .ok (.iload_n 1, 1) := by decide +kernel
theorem dX11_layValues_28 : decode cX11_layValues 28 = .ok (.iaload, 1) := by decide +kernel
theorem dX11_layValues_29 : decode cX11_layValues 29 = .ok (.goto 34, 3) := by decide +kernel
theorem dX11_layValues_32 : decode cX11_layValues 32 = .ok (.aload_n 0, 1) := by decide +kernel
theorem dX11_layValues_33 : decode cX11_layValues 33 = .ok (.getfield 16, 3) := by decide +kernel
theorem dX11_layValues_36 : decode cX11_layValues 36 = .ok (.iload_n 1, 1) := by decide +kernel
theorem dX11_layValues_37 : decode cX11_layValues 37 = .ok (.iaload, 1) := by decide +kernel
theorem dX11_layValues_38 : decode cX11_layValues 38 = .ok (.aload_n 0, 1) := by decide +kernel
theorem dX11_layValues_39 : decode cX11_layValues 39 = .ok (.getfield 25, 3) := by decide +kernel
theorem dX11_layValues_42 : decode cX11_layValues 42 = .ok (.aload_n 0, 1) := by decide +kernel
theorem dX11_layValues_43 : decode cX11_layValues 43 = .ok (.iload_n 1, 1) := by decide +kernel
theorem dX11_layValues_44 : decode cX11_layValues 44 = .ok (.invokevirtual 119, 3) := by decide +kernel
theorem dX11_layValues_47 : decode cX11_layValues 47 = .ok (.iaload, 1) := by decide +kernel
theorem dX11_layValues_48 : decode cX11_layValues 48 = .ok (.aload_n 0, 1) := by decide +kernel
theorem dX11_layValues_49 : decode cX11_layValues 49 = .ok (.getfield 25, 3) := by decide +kernel
theorem dX11_layValues_52 : decode cX11_layValues 52 = .ok (.aload_n 0, 1) := by decide +kernel
theorem dX11_layValues_53 : decode cX11_layValues 53 = .ok (.iload_n 1, 1) := by decide +kernel
theorem dX11_layValues_54 : decode cX11_layValues 54 = .ok (.invokevirtual 119, 3) := by decide +kernel
theorem dX11_layValues_57 : decode cX11_layValues 57 = .ok (.iconst 1, 1) := by decide +kernel
theorem dX11_layValues_58 : decode cX11_layValues 58 = .ok (.iadd, 1) := by decide +kernel
theorem dX11_layValues_59 : decode cX11_layValues 59 = .ok (.iaload, 1) := by decide +kernel
theorem dX11_layValues_60 : decode cX11_layValues 60 = .ok (.invokestatic 122, 3) := by decide +kernel
theorem dX11_layValues_63 : decode cX11_layValues 63 = .ok (.iastore, 1) := by decide +kernel
theorem dX11_layValues_64 : decode cX11_layValues 64 = .ok (.iinc 1 1, 3) := by decide +kernel
theorem dX11_layValues_67 : decode cX11_layValues 67 = .ok (.goto (-65), 3) := by decide +kernel
theorem dX11_layValues_70 : decode cX11_layValues 70 = .ok (.return_, 1) := by decide +kernel
set_option maxRecDepth 20000 in
theorem ggX11_layNow_X11_copy : GoodIn wsX11_layNow wsX11_copy := goodIn_r _ [6] (by decide +kernel) (by decide +kernel)
set_option maxRecDepth 20000 in
theorem gX11_layNow_X11_copy : GoodIn wsX11_layNow (va_wsS RX11 106 yX11_copy wsX11_copy) := goodIn_app (goodIn_of _ (by decide +kernel)) ggX11_layNow_X11_copy
set_option maxRecDepth 20000 in
theorem ggX11_layNow_X11_layValues : GoodIn wsX11_layNow wsX11_layValues := goodIn_r _ [10, 11, 12, 13, 2, 14, 15, 16, 17, 5, 18, 19, 20, 21, 22, 23, 24, 25, 26, 27, 28, 29, 30, 31, 32, 33, 34, 35, 36, 37, 38, 39, 40, 41, 42, 43, 44, 45, 46, 47, 48, 49, 50] (by decide +kernel) (by decide +kernel)
set_option maxRecDepth 20000 in
theorem gX11_layNow_X11_layValues : GoodIn wsX11_layNow (wsV RX11 126 RX11 yX11_layValues wsX11_layValues) := goodIn_app (goodIn_of _ (by decide +kernel)) ggX11_layNow_X11_layValues
theorem dX11_layNow_0 : decode cX11_layNow 0 = .ok (.aload_n 0, 1) := by decide +kernel
theorem dX11_layNow_1 : decode cX11_layNow 1 = .ok (.getfield 19, 3) := by decide +kernel
theorem dX11_layNow_4 : decode cX11_layNow 4 = .ok (.aload_n 0, 1) := by decide +kernel
theorem dX11_layNow_5 : decode cX11_layNow 5 = .ok (.getfield 28, 3) := by decide +kernel
theorem dX11_layNow_8 : decode cX11_layNow 8 = .ok (.invokestatic 106, 3) := by decide +kernel
theorem dX11_layNow_11 : decode cX11_layNow 11 = .ok (.aload_n 0, 1) := by decide +kernel
theorem dX11_layNow_12 : decode cX11_layNow 12 = .ok (.invokevirtual 126, 3) := by decide +kernel
theorem dX11_layNow_15 : decode cX11_layNow 15 = .ok (.return_, 1) := by decide +kernel
set_option maxRecDepth 20000 in
theorem ggX11_layNumber_X11_layValues : GoodIn wsX11_layNumber wsX11_layValues := goodIn_r _ [7, 8, 9, 1, 2, 10, 11, 12, 13, 6, 14, 15, 16, 17, 18, 19, 20, 21, 22, 23, 24, 25, 26, 27, 28, 29, 30, 31, 32, 33, 34, 35, 36, 37, 38, 39, 40, 41, 42, 43, 44, 45, 46] (by decide +kernel) (by decide +kernel)
set_option maxRecDepth 20000 in
theorem gX11_layNumber_X11_layValues : GoodIn wsX11_layNumber (wsV RX11 126 RX11 yX11_layValues wsX11_layValues) := goodIn_app (goodIn_of _ (by decide +kernel)) ggX11_layNumber_X11_layValues
theorem dX11_layNumber_0 : decode cX11_layNumber 0 = .ok (.iload_n 1, 1) := by decide +kernel
theorem dX11_layNumber_1 : decode cX11_layNumber 1 = .ok (.istore_n 2, 1) := by decide +kernel
theorem dX11_layNumber_2 : decode cX11_layNumber 2 = .ok (.aload_n 0, 1) := by decide +kernel
theorem dX11_layNumber_3 : decode cX11_layNumber 3 = .ok (.getfield 97, 3) := by decide +kernel
theorem dX11_layNumber_6 : decode cX11_layNumber 6 = .ok (.iconst 1, 1) := by decide +kernel
theorem dX11_layNumber_7 : decode cX11_layNumber 7 = .ok (.isub, 1) := by decide +kernel
theorem dX11_layNumber_8 : decode cX11_layNumber 8 = .ok (.istore_n 3, 1) := by decide +kernel
theorem dX11_layNumber_9 : decode cX11_layNumber 9 = .ok (.iload_n 3, 1) := by decide +kernel
theorem dX11_layNumber_10 : decode cX11_layNumber 10 = .ok (.ifCond .lt 24, 3) := by decide +kernel
theorem dX11_layNumber_13 : decode cX11_layNumber 13 = .ok (.aload_n 0, 1) := by decide +kernel
theorem dX11_layNumber_14 : decode cX11_layNumber 14 = .ok (.getfield 28, 3) := by decide +kernel
theorem dX11_layNumber_17 : decode cX11_layNumber 17 = .ok (.iload_n 3, 1) := by decide +kernel
theorem dX11_layNumber_18 : decode cX11_layNumber 18 = .ok (.iload_n 2, 1) := by decide +kernel
theorem dX11_layNumber_19 : decode cX11_layNumber 19 = .ok (.bipush 10, 2) := by decide +kernel
theorem dX11_layNumber_21 : decode cX11_layNumber 21 = .ok (.irem, 1) := by decide +kernel
theorem dX11_layNumber_22 : decode cX11_layNumber 22 = .ok (.iastore, 1) := by decide +kernel
theorem dX11_layNumber_23 : decode cX11_layNumber 23 = .ok (.iload_n 2, 1) := by decide +kernel
theorem dX11_layNumber_24 : decode cX11_layNumber 24 = .ok (.bipush 10, 2) := by decide +kernel
theorem dX11_layNumber_26 : decode cX11_layNumber 26 = .ok (.idiv, 1) := by decide +kernel
theorem dX11_layNumber_27 : decode cX11_layNumber 27 = .ok (.istore_n 2, 1) := by decide +kernel
theorem dX11_layNumber_28 : decode cX11_layNumber 28 = .ok (.iinc 3 (-1), 3) := by decide +kernel
theorem dX11_layNumber_31 : decode cX11_layNumber 31 = .ok (.goto (-22), 3) := by decide +kernel
theorem dX11_layNumber_34 : decode cX11_layNumber 34 = .ok (.aload_n 0, 1) := by decide +kernel
theorem dX11_layNumber_35 : decode cX11_layNumber 35 = .ok (.invokevirtual 126, 3) := by decide +kernel
theorem dX11_layNumber_38 : decode cX11_layNumber 38 = .ok (.return_, 1) := by decide +kernel
theorem dX11_numberOf_0 : decode cX11_numberOf 0 = .ok (.iconst 0, 1) := by decide +kernel
theorem dX11_numberOf_1 : decode cX11_numberOf 1 = .ok (.istore_n 2, 1) := by decide +kernel
theorem dX11_numberOf_2 : decode cX11_numberOf 2 = .ok (.iconst 0, 1) := by decide +kernel
theorem dX11_numberOf_3 : decode cX11_numberOf 3 = .ok (.istore_n 3, 1) := by decide +kernel
theorem dX11_numberOf_4 : decode cX11_numberOf 4 = .ok (.iload_n 3, 1) := by decide +kernel
theorem dX11_numberOf_5 : decode cX11_numberOf 5 = .ok (.aload_n 0, 1) := by decide +kernel
theorem dX11_numberOf_6 : decode cX11_numberOf 6 = .ok (.getfield 97, 3) := by decide +kernel
theorem dX11_numberOf_9 : decode cX11_numberOf 9 = .ok (.if_icmp .ge 18, 3) := by decide +kernel
theorem dX11_numberOf_12 : decode cX11_numberOf 12 = .ok (.bipush 10, 2) := by decide +kernel
theorem dX11_numberOf_14 : decode cX11_numberOf 14 = .ok (.iload_n 2, 1) := by decide +kernel
theorem dX11_numberOf_15 : decode cX11_numberOf 15 = .ok (.imul, 1) := by decide +kernel
theorem dX11_numberOf_16 : decode cX11_numberOf 16 = .ok (.aload_n 1, 1) := by decide +kernel
theorem dX11_numberOf_17 : decode cX11_numberOf 17 = .ok (.iload_n 3, 1) := by decide +kernel
theorem dX11_numberOf_18 : decode cX11_numberOf 18 = .ok (.iaload, 1) := by decide +kernel
theorem dX11_numberOf_19 : decode cX11_numberOf 19 = .ok (.iadd, 1) := by decide +kernel
theorem dX11_numberOf_20 : decode cX11_numberOf 20 = .ok (.istore_n 2, 1) := by decide +kernel
theorem dX11_numberOf_21 : decode cX11_numberOf 21 = .ok (.iinc 3 1, 3) := by decide +kernel
theorem dX11_numberOf_24 : decode cX11_numberOf 24 = .ok (.goto (-20), 3) := by decide +kernel
theorem dX11_numberOf_27 : decode cX11_numberOf 27 = .ok (.iload_n 2, 1) := by decide +kernel
theorem dX11_numberOf_28 : decode cX11_numberOf 28 = .ok (.ireturn, 1) := by decide +kernel
set_option maxRecDepth 20000 in
theorem ggX11_topNow_X11_layNow : GoodIn wsX11_topNow wsX11_layNow := goodIn_r _ [7, 8, 9, 10, 11, 6, 12, 13, 14, 15, 16, 2, 1, 17, 18, 19, 20, 21, 22, 23, 24, 25, 26, 27, 28, 29, 30, 31, 32, 33, 34, 35, 36, 37, 38, 39, 40, 41, 42, 43, 44, 45, 46, 47, 48, 49, 50, 51, 52, 53, 54] (by decide +kernel) (by decide +kernel)
set_option maxRecDepth 20000 in
theorem gX11_topNow_X11_layNow : GoodIn wsX11_topNow (wsV RX11 129 RX11 yX11_layNow wsX11_layNow) := goodIn_app (goodIn_of _ (by decide +kernel)) ggX11_topNow_X11_layNow
theorem dX11_topNow_0 : decode cX11_topNow 0 = .ok (.aload_n 0, 1) := by decide +kernel
theorem dX11_topNow_1 : decode cX11_topNow 1 = .ok (.invokevirtual 129, 3) := by decide +kernel
theorem dX11_topNow_4 : decode cX11_topNow 4 = .ok (.aload_n 0, 1) := by decide +kernel
theorem dX11_topNow_5 : decode cX11_topNow 5 = .ok (.getfield 25, 3) := by decide +kernel
theorem dX11_topNow_8 : decode cX11_topNow 8 = .ok (.aload_n 0, 1) := by decide +kernel
theorem dX11_topNow_9 : decode cX11_topNow 9 = .ok (.getfield 103, 3) := by decide +kernel
theorem dX11_topNow_12 : decode cX11_topNow 12 = .ok (.iconst 1, 1) := by decide +kernel
theorem dX11_topNow_13 : decode cX11_topNow 13 = .ok (.isub, 1) := by decide +kernel
theorem dX11_topNow_14 : decode cX11_topNow 14 = .ok (.iaload, 1) := by decide +kernel
theorem dX11_topNow_15 : decode cX11_topNow 15 = .ok (.ireturn, 1) := by decide +kernel
set_option maxRecDepth 20000 in
theorem ggX11_tellBrick_X11_layNow : GoodIn wsX11_tellBrick wsX11_layNow := goodIn_r _ [9, 10, 11, 12, 13, 8, 14, 15, 16, 17, 18, 19, 3, 1, 2, 20, 21, 22, 23, 24, 25, 26, 40, 41, 42, 43, 44, 45, 46, 47, 48, 49, 50, 51, 52, 53, 54, 55, 56, 57, 58, 59, 60, 61, 62, 63, 64, 65, 66, 67, 68] (by decide +kernel) (by decide +kernel)
set_option maxRecDepth 20000 in
theorem gX11_tellBrick_X11_layNow : GoodIn wsX11_tellBrick (wsV RX11 129 RX11 yX11_layNow wsX11_layNow) := goodIn_app (goodIn_of _ (by decide +kernel)) ggX11_tellBrick_X11_layNow
set_option maxRecDepth 20000 in
theorem ggX11_tellBrick_X11_leftOf : GoodIn wsX11_tellBrick wsX11_leftOf := goodIn_r _ [23, 1, 40, 41, 42, 43, 44, 45, 46, 47, 48, 49, 50, 51, 52, 53, 54, 55, 56, 57, 58, 59, 60, 61, 62, 63, 64, 65, 66, 67, 68] (by decide +kernel) (by decide +kernel)
set_option maxRecDepth 20000 in
theorem gX11_tellBrick_X11_leftOf : GoodIn wsX11_tellBrick (wsV RX11 119 RX11 yX11_leftOf wsX11_leftOf) := goodIn_app (goodIn_of _ (by decide +kernel)) ggX11_tellBrick_X11_leftOf
set_option maxRecDepth 20000 in
theorem ggX11_tellBrick_X11_sortsOf : GoodIn wsX11_tellBrick wsX11_sortsOf := goodIn_r _ [30, 31, 32, 24, 25, 8, 26, 40, 41, 42, 43, 44, 45, 46, 47, 48, 49, 50, 51, 52, 53, 54, 55, 56, 57, 58, 59, 60, 61, 62, 63, 64, 65, 66, 67, 68] (by decide +kernel) (by decide +kernel)
set_option maxRecDepth 20000 in
theorem gX11_tellBrick_X11_sortsOf : GoodIn wsX11_tellBrick (wsV RX11 132 RX11 yX11_sortsOf wsX11_sortsOf) := goodIn_app (goodIn_of _ (by decide +kernel)) ggX11_tellBrick_X11_sortsOf
set_option maxRecDepth 20000 in
theorem ggX11_tellBrick_X11_tryOf : GoodIn wsX11_tellBrick wsX11_tryOf := goodIn_r _ [36, 27, 28, 29, 8, 30, 31, 32, 24, 25, 26, 37, 38, 39, 40, 41, 42, 43, 44, 45, 46, 47, 48, 49, 50, 51, 52, 53, 54, 55, 56, 57, 58, 59, 60, 61, 62, 63, 64, 65, 66, 67, 68] (by decide +kernel) (by decide +kernel)
set_option maxRecDepth 20000 in
theorem gX11_tellBrick_X11_tryOf : GoodIn wsX11_tellBrick (wsV RX11 135 RX11 yX11_tryOf wsX11_tryOf) := goodIn_app (goodIn_of _ (by decide +kernel)) ggX11_tellBrick_X11_tryOf
theorem dX11_tellBrick_0 : decode cX11_tellBrick 0 = .ok (.aload_n 0, 1) := by decide +kernel
theorem dX11_tellBrick_1 : decode cX11_tellBrick 1 = .ok (.invokevirtual 129, 3) := by decide +kernel
theorem dX11_tellBrick_4 : decode cX11_tellBrick 4 = .ok (.iload_n 1, 1) := by decide +kernel
theorem dX11_tellBrick_5 : decode cX11_tellBrick 5 = .ok (.aload_n 0, 1) := by decide +kernel
theorem dX11_tellBrick_6 : decode cX11_tellBrick 6 = .ok (.getfield 97, 3) := by decide +kernel
theorem dX11_tellBrick_9 : decode cX11_tellBrick 9 = .ok (.if_icmp .lt 7, 3) := by decide +kernel
theorem dX11_tellBrick_12 : decode cX11_tellBrick 12 = .ok (.iconst 1, 1) := by decide +kernel
theorem dX11_tellBrick_13 : decode cX11_tellBrick 13 = .ok (.goto 4, 3) := by decide +kernel
theorem dX11_tellBrick_16 : decode cX11_tellBrick 16 = .ok (.iconst 0, 1) := by decide +kernel
theorem dX11_tellBrick_17 : decode cX11_tellBrick 17 = .ok (.istore_n 3, 1) := by decide +kernel
theorem dX11_tellBrick_18 : decode cX11_tellBrick 18 = .ok (.iload_n 2, 1) := by decide +kernel
theorem dX11_tellBrick_19 : decode cX11_tellBrick 19 = .ok (.tableswitch 116 0 6 #[41, 56, 63, 63, 81, 88, 102], 41) := by decide +kernel
theorem dX11_tellBrick_60 : decode cX11_tellBrick 60 = .ok (.iload_n 3, 1) := by decide +kernel
theorem dX11_tellBrick_61 : decode cX11_tellBrick 61 = .ok (.ifCond .eq 12, 3) := by decide +kernel
theorem dX11_tellBrick_64 : decode cX11_tellBrick 64 = .ok (.aload_n 0, 1) := by decide +kernel
theorem dX11_tellBrick_65 : decode cX11_tellBrick 65 = .ok (.getfield 16, 3) := by decide +kernel
theorem dX11_tellBrick_68 : decode cX11_tellBrick 68 = .ok (.iload_n 1, 1) := by decide +kernel
theorem dX11_tellBrick_69 : decode cX11_tellBrick 69 = .ok (.iaload, 1) := by decide +kernel
theorem dX11_tellBrick_70 : decode cX11_tellBrick 70 = .ok (.goto 4, 3) := by decide +kernel
theorem dX11_tellBrick_73 : decode cX11_tellBrick 73 = .ok (.iconst (-1), 1) := by decide +kernel
theorem dX11_tellBrick_74 : decode cX11_tellBrick 74 = .ok (.ireturn, 1) := by decide +kernel
theorem dX11_tellBrick_75 : decode cX11_tellBrick 75 = .ok (.aload_n 0, 1) := by decide +kernel
theorem dX11_tellBrick_76 : decode cX11_tellBrick 76 = .ok (.getfield 25, 3) := by decide +kernel
theorem dX11_tellBrick_79 : decode cX11_tellBrick 79 = .ok (.iload_n 1, 1) := by decide +kernel
theorem dX11_tellBrick_80 : decode cX11_tellBrick 80 = .ok (.iaload, 1) := by decide +kernel
theorem dX11_tellBrick_81 : decode cX11_tellBrick 81 = .ok (.ireturn, 1) := by decide +kernel
theorem dX11_tellBrick_82 : decode cX11_tellBrick 82 = .ok (.iload_n 3, 1) := by decide +kernel
theorem dX11_tellBrick_83 : decode cX11_tellBrick 83 = .ok (.ifCond .eq 15, 3) := by decide +kernel
theorem dX11_tellBrick_86 : decode cX11_tellBrick 86 = .ok (.aload_n 0, 1) := by decide +kernel
theorem dX11_tellBrick_87 : decode cX11_tellBrick 87 = .ok (.iload_n 1, 1) := by decide +kernel
theorem dX11_tellBrick_88 : decode cX11_tellBrick 88 = .ok (.invokevirtual 119, 3) := by decide +kernel
theorem dX11_tellBrick_91 : decode cX11_tellBrick 91 = .ok (.iload_n 2, 1) := by decide +kernel
theorem dX11_tellBrick_92 : decode cX11_tellBrick 92 = .ok (.iadd, 1) := by decide +kernel
theorem dX11_tellBrick_93 : decode cX11_tellBrick 93 = .ok (.iconst 2, 1) := by decide +kernel
theorem dX11_tellBrick_94 : decode cX11_tellBrick 94 = .ok (.isub, 1) := by decide +kernel
theorem dX11_tellBrick_95 : decode cX11_tellBrick 95 = .ok (.goto 4, 3) := by decide +kernel
theorem dX11_tellBrick_98 : decode cX11_tellBrick 98 = .ok (.iconst (-1), 1) := by decide +kernel
theorem dX11_tellBrick_99 : decode cX11_tellBrick 99 = .ok (.ireturn, 1) := by decide +kernel
theorem dX11_tellBrick_100 : decode cX11_tellBrick 100 = .ok (.aload_n 0, 1) := by decide +kernel
theorem dX11_tellBrick_101 : decode cX11_tellBrick 101 = .ok (.getfield 22, 3) := by decide +kernel
theorem dX11_tellBrick_104 : decode cX11_tellBrick 104 = .ok (.iload_n 1, 1) := by decide +kernel
theorem dX11_tellBrick_105 : decode cX11_tellBrick 105 = .ok (.iaload, 1) := by decide +kernel
theorem dX11_tellBrick_106 : decode cX11_tellBrick 106 = .ok (.ireturn, 1) := by decide +kernel
theorem dX11_tellBrick_107 : decode cX11_tellBrick 107 = .ok (.iload_n 3, 1) := by decide +kernel
theorem dX11_tellBrick_108 : decode cX11_tellBrick 108 = .ok (.ifCond .eq 11, 3) := by decide +kernel
theorem dX11_tellBrick_111 : decode cX11_tellBrick 111 = .ok (.aload_n 0, 1) := by decide +kernel
theorem dX11_tellBrick_112 : decode cX11_tellBrick 112 = .ok (.iload_n 1, 1) := by decide +kernel
theorem dX11_tellBrick_113 : decode cX11_tellBrick 113 = .ok (.invokevirtual 132, 3) := by decide +kernel
theorem dX11_tellBrick_116 : decode cX11_tellBrick 116 = .ok (.goto 4, 3) := by decide +kernel
theorem dX11_tellBrick_119 : decode cX11_tellBrick 119 = .ok (.iconst 0, 1) := by decide +kernel
theorem dX11_tellBrick_120 : decode cX11_tellBrick 120 = .ok (.ireturn, 1) := by decide +kernel
theorem dX11_tellBrick_121 : decode cX11_tellBrick 121 = .ok (.iload_n 3, 1) := by decide +kernel
theorem dX11_tellBrick_122 : decode cX11_tellBrick 122 = .ok (.ifCond .eq 11, 3) := by decide +kernel
theorem dX11_tellBrick_125 : decode cX11_tellBrick 125 = .ok (.aload_n 0, 1) := by decide +kernel
theorem dX11_tellBrick_126 : decode cX11_tellBrick 126 = .ok (.iload_n 1, 1) := by decide +kernel
theorem dX11_tellBrick_127 : decode cX11_tellBrick 127 = .ok (.invokevirtual 135, 3) := by decide +kernel
theorem dX11_tellBrick_130 : decode cX11_tellBrick 130 = .ok (.goto 4, 3) := by decide +kernel
theorem dX11_tellBrick_133 : decode cX11_tellBrick 133 = .ok (.iconst (-1), 1) := by decide +kernel
theorem dX11_tellBrick_134 : decode cX11_tellBrick 134 = .ok (.ireturn, 1) := by decide +kernel
theorem dX11_tellBrick_135 : decode cX11_tellBrick 135 = .ok (.bipush (-102), 2) := by decide +kernel
theorem dX11_tellBrick_137 : decode cX11_tellBrick 137 = .ok (.ireturn, 1) := by decide +kernel
set_option maxRecDepth 20000 in
theorem ggX11_brick_X11_isBrick : GoodIn wsX11_brick wsX11_isBrick := goodIn_r _ [5, 6, 7, 8, 4, 9, 51, 52, 53, 54, 55, 56, 57, 58, 59, 60, 61, 62, 63, 64, 65, 66, 67, 68, 69, 70, 71, 72, 73, 74, 75, 76, 77, 78, 79] (by decide +kernel) (by decide +kernel)
set_option maxRecDepth 20000 in
theorem gX11_brick_X11_isBrick : GoodIn wsX11_brick (wsV RX11 138 RX11 yX11_isBrick wsX11_isBrick) := goodIn_app (goodIn_of _ (by decide +kernel)) ggX11_brick_X11_isBrick
set_option maxRecDepth 20000 in
theorem ggX11_brick_X11_tellBrick : GoodIn wsX11_brick wsX11_tellBrick := goodIn_r _ [13, 14, 15, 16, 17, 18, 19, 20, 4, 21, 22, 23, 24, 25, 26, 27, 28, 29, 30, 6, 31, 32, 33, 34, 35, 36, 37, 38, 39, 40, 41, 42, 43, 44, 45, 46, 47, 48, 49, 50, 51, 52, 53, 54, 55, 56, 57, 58, 59, 60, 61, 62, 63, 64, 65, 66, 67, 68, 69, 70, 71, 72, 73, 74, 75, 76, 77, 78, 79] (by decide +kernel) (by decide +kernel)
set_option maxRecDepth 20000 in
theorem gX11_brick_X11_tellBrick : GoodIn wsX11_brick (wsV RX11 141 RX11 yX11_tellBrick wsX11_tellBrick) := goodIn_app (goodIn_of _ (by decide +kernel)) ggX11_brick_X11_tellBrick
theorem dX11_brick_0 : decode cX11_brick 0 = .ok (.aload_n 0, 1) := by decide +kernel
theorem dX11_brick_1 : decode cX11_brick 1 = .ok (.iload_n 1, 1) := by decide +kernel
theorem dX11_brick_2 : decode cX11_brick 2 = .ok (.invokevirtual 138, 3) := by decide +kernel
theorem dX11_brick_5 : decode cX11_brick 5 = .ok (.ifCond .eq 12, 3) := by decide +kernel
theorem dX11_brick_8 : decode cX11_brick 8 = .ok (.aload_n 0, 1) := by decide +kernel
theorem dX11_brick_9 : decode cX11_brick 9 = .ok (.iload_n 1, 1) := by decide +kernel
theorem dX11_brick_10 : decode cX11_brick 10 = .ok (.iload_n 2, 1) := by decide +kernel
theorem dX11_brick_11 : decode cX11_brick 11 = .ok (.invokevirtual 141, 3) := by decide +kernel
theorem dX11_brick_14 : decode cX11_brick 14 = .ok (.goto 5, 3) := by decide +kernel
theorem dX11_brick_17 : decode cX11_brick 17 = .ok (.bipush (-101), 2) := by decide +kernel
theorem dX11_brick_19 : decode cX11_brick 19 = .ok (.ireturn, 1) := by decide +kernel
set_option maxRecDepth 20000 in
theorem ggX11_as_X11_isBrick : GoodIn wsX11_as wsX11_isBrick := goodIn_r _ [8, 9, 10, 11, 7, 12, 13, 14, 15, 16, 17, 18, 19, 20, 21, 22, 23, 24, 25, 26, 27, 28, 29, 30, 31, 32, 33, 34, 35, 36, 37, 38, 39, 40, 41] (by decide +kernel) (by decide +kernel)
set_option maxRecDepth 20000 in
theorem gX11_as_X11_isBrick : GoodIn wsX11_as (wsV RX11 138 RX11 yX11_isBrick wsX11_isBrick) := goodIn_app (goodIn_of _ (by decide +kernel)) ggX11_as_X11_isBrick
set_option maxRecDepth 20000 in
theorem ggX11_as_X11_in : GoodIn wsX11_as wsX11_in := goodIn_r _ [12] (by decide +kernel) (by decide +kernel)
set_option maxRecDepth 20000 in
theorem gX11_as_X11_in : GoodIn wsX11_as (va_wsS RX11 55 yX11_in wsX11_in) := goodIn_app (goodIn_of _ (by decide +kernel)) ggX11_as_X11_in
theorem dX11_as_0 : decode cX11_as 0 = .ok (.aload_n 0, 1) := by decide +kernel
theorem dX11_as_1 : decode cX11_as 1 = .ok (.iload_n 1, 1) := by decide +kernel
theorem dX11_as_2 : decode cX11_as 2 = .ok (.invokevirtual 138, 3) := by decide +kernel
theorem dX11_as_5 : decode cX11_as 5 = .ok (.ifCond .ne 6, 3) := by decide +kernel
theorem dX11_as_8 : decode cX11_as 8 = .ok (.bipush (-101), 2) := by decide +kernel
theorem dX11_as_10 : decode cX11_as 10 = .ok (.ireturn, 1) := by decide +kernel
theorem dX11_as_11 : decode cX11_as 11 = .ok (.iload_n 2, 1) := by decide +kernel
theorem dX11_as_12 : decode cX11_as 12 = .ok (.i2l, 1) := by decide +kernel
theorem dX11_as_13 : decode cX11_as 13 = .ok (.lconst 0, 1) := by decide +kernel
theorem dX11_as_14 : decode cX11_as 14 = .ok (.ldc2_w 145, 3) := by decide +kernel
theorem dX11_as_17 : decode cX11_as 17 = .ok (.invokestatic 55, 3) := by decide +kernel
theorem dX11_as_20 : decode cX11_as 20 = .ok (.ifCond .ne 6, 3) := by decide +kernel
theorem dX11_as_23 : decode cX11_as 23 = .ok (.bipush (-102), 2) := by decide +kernel
theorem dX11_as_25 : decode cX11_as 25 = .ok (.ireturn, 1) := by decide +kernel
theorem dX11_as_26 : decode cX11_as 26 = .ok (.iload_n 2, 1) := by decide +kernel
theorem dX11_as_27 : decode cX11_as 27 = .ok (.ifCond .eq 28, 3) := by decide +kernel
theorem dX11_as_30 : decode cX11_as 30 = .ok (.iload_n 2, 1) := by decide +kernel
theorem dX11_as_31 : decode cX11_as 31 = .ok (.aload_n 0, 1) := by decide +kernel
theorem dX11_as_32 : decode cX11_as 32 = .ok (.getfield 16, 3) := by decide +kernel
theorem dX11_as_35 : decode cX11_as 35 = .ok (.iload_n 1, 1) := by decide +kernel
theorem dX11_as_36 : decode cX11_as 36 = .ok (.iaload, 1) := by decide +kernel
theorem dX11_as_37 : decode cX11_as 37 = .ok (.if_icmp .eq 18, 3) := by decide +kernel
theorem dX11_as_40 : decode cX11_as 40 = .ok (.iload_n 2, 1) := by decide +kernel
theorem dX11_as_41 : decode cX11_as 41 = .ok (.iconst 3, 1) := by decide +kernel
theorem dX11_as_42 : decode cX11_as 42 = .ok (.if_icmp .ne 17, 3) := by decide +kernel
theorem dX11_as_45 : decode cX11_as 45 = .ok (.aload_n 0, 1) := by decide +kernel
theorem dX11_as_46 : decode cX11_as 46 = .ok (.getfield 16, 3) := by decide +kernel
theorem dX11_as_49 : decode cX11_as 49 = .ok (.iload_n 1, 1) := by decide +kernel
theorem dX11_as_50 : decode cX11_as 50 = .ok (.iaload, 1) := by decide +kernel
theorem dX11_as_51 : decode cX11_as 51 = .ok (.iconst 4, 1) := by decide +kernel
theorem dX11_as_52 : decode cX11_as 52 = .ok (.if_icmp .ne 7, 3) := by decide +kernel
theorem dX11_as_55 : decode cX11_as 55 = .ok (.iconst 1, 1) := by decide +kernel
theorem dX11_as_56 : decode cX11_as 56 = .ok (.goto 4, 3) := by decide +kernel
theorem dX11_as_59 : decode cX11_as 59 = .ok (.iconst 0, 1) := by decide +kernel
theorem dX11_as_60 : decode cX11_as 60 = .ok (.istore_n 3, 1) := by decide +kernel
theorem dX11_as_61 : decode cX11_as 61 = .ok (.iload_n 3, 1) := by decide +kernel
theorem dX11_as_62 : decode cX11_as 62 = .ok (.ifCond .eq 15, 3) := by decide +kernel
theorem dX11_as_65 : decode cX11_as 65 = .ok (.iload_n 1, 1) := by decide +kernel
theorem dX11_as_66 : decode cX11_as 66 = .ok (.aload_n 0, 1) := by decide +kernel
theorem dX11_as_67 : decode cX11_as 67 = .ok (.getfield 97, 3) := by decide +kernel
theorem dX11_as_70 : decode cX11_as 70 = .ok (.if_icmp .lt 7, 3) := by decide +kernel
theorem dX11_as_73 : decode cX11_as 73 = .ok (.iload_n 1, 1) := by decide +kernel
theorem dX11_as_74 : decode cX11_as 74 = .ok (.goto 4, 3) := by decide +kernel
theorem dX11_as_77 : decode cX11_as 77 = .ok (.iconst (-1), 1) := by decide +kernel
theorem dX11_as_78 : decode cX11_as 78 = .ok (.ireturn, 1) := by decide +kernel
set_option maxRecDepth 20000 in
theorem ggX11_makes_X11_isUpper : GoodIn wsX11_makes wsX11_isUpper := goodIn_r _ [7, 8, 9, 10, 11, 6, 12, 16, 17, 18, 19, 20, 21, 22, 23, 24, 25, 26, 27, 28, 29, 30, 31, 32, 33, 34, 35, 36, 37, 38, 39, 40, 41, 42, 43, 44] (by decide +kernel) (by decide +kernel)
set_option maxRecDepth 20000 in
theorem gX11_makes_X11_isUpper : GoodIn wsX11_makes (wsV RX11 147 RX11 yX11_isUpper wsX11_isUpper) := goodIn_app (goodIn_of _ (by decide +kernel)) ggX11_makes_X11_isUpper
set_option maxRecDepth 20000 in
theorem ggX11_makes_X11_in : GoodIn wsX11_makes wsX11_in := goodIn_r _ [12] (by decide +kernel) (by decide +kernel)
set_option maxRecDepth 20000 in
theorem gX11_makes_X11_in : GoodIn wsX11_makes (va_wsS RX11 55 yX11_in wsX11_in) := goodIn_app (goodIn_of _ (by decide +kernel)) ggX11_makes_X11_in
set_option maxRecDepth 20000 in
theorem ggX11_makes_X11_madeBy : GoodIn wsX11_makes wsX11_madeBy := goodIn_r _ [15] (by decide +kernel) (by decide +kernel)
set_option maxRecDepth 20000 in
theorem gX11_makes_X11_madeBy : GoodIn wsX11_makes (va_wsS RX11 122 yX11_madeBy wsX11_madeBy) := goodIn_app (goodIn_of _ (by decide +kernel)) ggX11_makes_X11_madeBy
theorem dX11_makes_0 : decode cX11_makes 0 = .ok (.aload_n 0, 1) := by decide +kernel
theorem dX11_makes_1 : decode cX11_makes 1 = .ok (.iload_n 1, 1) := by decide +kernel
theorem dX11_makes_2 : decode cX11_makes 2 = .ok (.invokevirtual 147, 3) := by decide +kernel
theorem dX11_makes_5 : decode cX11_makes 5 = .ok (.ifCond .ne 6, 3) := by decide +kernel
theorem dX11_makes_8 : decode cX11_makes 8 = .ok (.bipush (-101), 2) := by decide +kernel
theorem dX11_makes_10 : decode cX11_makes 10 = .ok (.ireturn, 1) := by decide +kernel
theorem dX11_makes_11 : decode cX11_makes 11 = .ok (.iload_n 2, 1) := by decide +kernel
theorem dX11_makes_12 : decode cX11_makes 12 = .ok (.i2l, 1) := by decide +kernel
theorem dX11_makes_13 : decode cX11_makes 13 = .ok (.lconst 0, 1) := by decide +kernel
theorem dX11_makes_14 : decode cX11_makes 14 = .ok (.ldc2_w 150, 3) := by decide +kernel
theorem dX11_makes_17 : decode cX11_makes 17 = .ok (.invokestatic 55, 3) := by decide +kernel
theorem dX11_makes_20 : decode cX11_makes 20 = .ok (.ifCond .eq 29, 3) := by decide +kernel
theorem dX11_makes_23 : decode cX11_makes 23 = .ok (.iload_n 3, 1) := by decide +kernel
theorem dX11_makes_24 : decode cX11_makes 24 = .ok (.i2l, 1) := by decide +kernel
theorem dX11_makes_25 : decode cX11_makes 25 = .ok (.lconst 0, 1) := by decide +kernel
theorem dX11_makes_26 : decode cX11_makes 26 = .ok (.ldc2_w 150, 3) := by decide +kernel
theorem dX11_makes_29 : decode cX11_makes 29 = .ok (.invokestatic 55, 3) := by decide +kernel
theorem dX11_makes_32 : decode cX11_makes 32 = .ok (.ifCond .eq 17, 3) := by decide +kernel
theorem dX11_makes_35 : decode cX11_makes 35 = .ok (.aload_n 0, 1) := by decide +kernel
theorem dX11_makes_36 : decode cX11_makes 36 = .ok (.getfield 16, 3) := by decide +kernel
theorem dX11_makes_39 : decode cX11_makes 39 = .ok (.iload_n 1, 1) := by decide +kernel
theorem dX11_makes_40 : decode cX11_makes 40 = .ok (.iaload, 1) := by decide +kernel
theorem dX11_makes_41 : decode cX11_makes 41 = .ok (.iload_n 2, 1) := by decide +kernel
theorem dX11_makes_42 : decode cX11_makes 42 = .ok (.iload_n 3, 1) := by decide +kernel
theorem dX11_makes_43 : decode cX11_makes 43 = .ok (.invokestatic 122, 3) := by decide +kernel
theorem dX11_makes_46 : decode cX11_makes 46 = .ok (.goto 5, 3) := by decide +kernel
theorem dX11_makes_49 : decode cX11_makes 49 = .ok (.bipush (-102), 2) := by decide +kernel
theorem dX11_makes_51 : decode cX11_makes 51 = .ok (.ireturn, 1) := by decide +kernel
set_option maxRecDepth 20000 in
theorem ggX11_put_X11_isFigure : GoodIn wsX11_put wsX11_isFigure := goodIn_r _ [8, 9, 10, 11, 7, 12, 39, 40, 41, 42, 43, 44, 45, 46, 47, 48, 49, 50, 51, 52, 53, 54, 55, 56, 57, 58, 59, 60, 61, 62, 63, 64, 65, 66, 67] (by decide +kernel) (by decide +kernel)
set_option maxRecDepth 20000 in
theorem gX11_put_X11_isFigure : GoodIn wsX11_put (wsV RX11 152 RX11 yX11_isFigure wsX11_isFigure) := goodIn_app (goodIn_of _ (by decide +kernel)) ggX11_put_X11_isFigure
set_option maxRecDepth 20000 in
theorem ggX11_put_X11_in : GoodIn wsX11_put wsX11_in := goodIn_r _ [12] (by decide +kernel) (by decide +kernel)
set_option maxRecDepth 20000 in
theorem gX11_put_X11_in : GoodIn wsX11_put (va_wsS RX11 55 yX11_in wsX11_in) := goodIn_app (goodIn_of _ (by decide +kernel)) ggX11_put_X11_in
set_option maxRecDepth 20000 in
theorem ggX11_put_X11_topNow : GoodIn wsX11_put wsX11_topNow := goodIn_r _ [16, 17, 18, 19, 20, 21, 7, 22, 3, 23, 24, 25, 26, 27, 28, 29, 30, 9, 31, 32, 33, 34, 35, 36, 37, 38, 39, 40, 41, 42, 43, 44, 45, 46, 47, 48, 49, 50, 51, 52, 53, 54, 55, 56, 57, 58, 59, 60, 61, 62, 63, 64, 65, 66, 67] (by decide +kernel) (by decide +kernel)
set_option maxRecDepth 20000 in
theorem gX11_put_X11_topNow : GoodIn wsX11_put (wsV RX11 155 RX11 yX11_topNow wsX11_topNow) := goodIn_app (goodIn_of _ (by decide +kernel)) ggX11_put_X11_topNow
theorem dX11_put_0 : decode cX11_put 0 = .ok (.aload_n 0, 1) := by decide +kernel
theorem dX11_put_1 : decode cX11_put 1 = .ok (.iload_n 1, 1) := by decide +kernel
theorem dX11_put_2 : decode cX11_put 2 = .ok (.invokevirtual 152, 3) := by decide +kernel
theorem dX11_put_5 : decode cX11_put 5 = .ok (.ifCond .ne 6, 3) := by decide +kernel
theorem dX11_put_8 : decode cX11_put 8 = .ok (.bipush (-101), 2) := by decide +kernel
theorem dX11_put_10 : decode cX11_put 10 = .ok (.ireturn, 1) := by decide +kernel
theorem dX11_put_11 : decode cX11_put 11 = .ok (.iload_n 2, 1) := by decide +kernel
theorem dX11_put_12 : decode cX11_put 12 = .ok (.i2l, 1) := by decide +kernel
theorem dX11_put_13 : decode cX11_put 13 = .ok (.lconst 0, 1) := by decide +kernel
theorem dX11_put_14 : decode cX11_put 14 = .ok (.ldc2_w 150, 3) := by decide +kernel
theorem dX11_put_17 : decode cX11_put 17 = .ok (.invokestatic 55, 3) := by decide +kernel
theorem dX11_put_20 : decode cX11_put 20 = .ok (.ifCond .ne 6, 3) := by decide +kernel
theorem dX11_put_23 : decode cX11_put 23 = .ok (.bipush (-102), 2) := by decide +kernel
theorem dX11_put_25 : decode cX11_put 25 = .ok (.ireturn, 1) := by decide +kernel
theorem dX11_put_26 : decode cX11_put 26 = .ok (.aload_n 0, 1) := by decide +kernel
theorem dX11_put_27 : decode cX11_put 27 = .ok (.getfield 110, 3) := by decide +kernel
theorem dX11_put_30 : decode cX11_put 30 = .ok (.sipush 9999, 3) := by decide +kernel
theorem dX11_put_33 : decode cX11_put 33 = .ok (.if_icmp .ne 6, 3) := by decide +kernel
theorem dX11_put_36 : decode cX11_put 36 = .ok (.bipush (-104), 2) := by decide +kernel
theorem dX11_put_38 : decode cX11_put 38 = .ok (.ireturn, 1) := by decide +kernel
theorem dX11_put_39 : decode cX11_put 39 = .ok (.aload_n 0, 1) := by decide +kernel
theorem dX11_put_40 : decode cX11_put 40 = .ok (.getfield 19, 3) := by decide +kernel
theorem dX11_put_43 : decode cX11_put 43 = .ok (.iload_n 1, 1) := by decide +kernel
theorem dX11_put_44 : decode cX11_put 44 = .ok (.iload_n 2, 1) := by decide +kernel
theorem dX11_put_45 : decode cX11_put 45 = .ok (.iastore, 1) := by decide +kernel
theorem dX11_put_46 : decode cX11_put 46 = .ok (.aload_n 0, 1) := by decide +kernel
theorem dX11_put_47 : decode cX11_put 47 = .ok (.dup, 1) := by decide +kernel
theorem dX11_put_48 : decode cX11_put 48 = .ok (.getfield 110, 3) := by decide +kernel
theorem dX11_put_51 : decode cX11_put 51 = .ok (.iconst 1, 1) := by decide +kernel
theorem dX11_put_52 : decode cX11_put 52 = .ok (.iadd, 1) := by decide +kernel
theorem dX11_put_53 : decode cX11_put 53 = .ok (.putfield 110, 3) := by decide +kernel
theorem dX11_put_56 : decode cX11_put 56 = .ok (.aload_n 0, 1) := by decide +kernel
theorem dX11_put_57 : decode cX11_put 57 = .ok (.invokevirtual 155, 3) := by decide +kernel
theorem dX11_put_60 : decode cX11_put 60 = .ok (.ireturn, 1) := by decide +kernel
set_option maxRecDepth 20000 in
theorem ggX11_exchange_X11_isFigure : GoodIn wsX11_exchange wsX11_isFigure := goodIn_r _ [7, 8, 9, 10, 6, 11, 38, 39, 40, 41, 42, 43, 44, 45, 46, 47, 48, 49, 50, 51, 52, 53, 54, 55, 56, 57, 58, 59, 60, 61, 62, 63, 64, 65, 66] (by decide +kernel) (by decide +kernel)
set_option maxRecDepth 20000 in
theorem gX11_exchange_X11_isFigure : GoodIn wsX11_exchange (wsV RX11 152 RX11 yX11_isFigure wsX11_isFigure) := goodIn_app (goodIn_of _ (by decide +kernel)) ggX11_exchange_X11_isFigure
set_option maxRecDepth 20000 in
theorem ggX11_exchange_X11_topNow : GoodIn wsX11_exchange wsX11_topNow := goodIn_r _ [15, 16, 17, 18, 19, 20, 6, 21, 2, 22, 23, 24, 25, 26, 27, 28, 29, 8, 30, 31, 32, 33, 34, 35, 36, 37, 38, 39, 40, 41, 42, 43, 44, 45, 46, 47, 48, 49, 50, 51, 52, 53, 54, 55, 56, 57, 58, 59, 60, 61, 62, 63, 64, 65, 66] (by decide +kernel) (by decide +kernel)
set_option maxRecDepth 20000 in
theorem gX11_exchange_X11_topNow : GoodIn wsX11_exchange (wsV RX11 155 RX11 yX11_topNow wsX11_topNow) := goodIn_app (goodIn_of _ (by decide +kernel)) ggX11_exchange_X11_topNow
theorem dX11_exchange_0 : decode cX11_exchange 0 = .ok (.aload_n 0, 1) := by decide +kernel
theorem dX11_exchange_1 : decode cX11_exchange 1 = .ok (.iload_n 1, 1) := by decide +kernel
theorem dX11_exchange_2 : decode cX11_exchange 2 = .ok (.invokevirtual 152, 3) := by decide +kernel
theorem dX11_exchange_5 : decode cX11_exchange 5 = .ok (.ifCond .eq 16, 3) := by decide +kernel
theorem dX11_exchange_8 : decode cX11_exchange 8 = .ok (.aload_n 0, 1) := by decide +kernel
theorem dX11_exchange_9 : decode cX11_exchange 9 = .ok (.iload_n 2, 1) := by decide +kernel
theorem dX11_exchange_10 : decode cX11_exchange 10 = .ok (.invokevirtual 152, 3) := by decide +kernel
theorem dX11_exchange_13 : decode cX11_exchange 13 = .ok (.ifCond .eq 8, 3) := by decide +kernel
theorem dX11_exchange_16 : decode cX11_exchange 16 = .ok (.iload_n 1, 1) := by decide +kernel
theorem dX11_exchange_17 : decode cX11_exchange 17 = .ok (.iload_n 2, 1) := by decide +kernel
theorem dX11_exchange_18 : decode cX11_exchange 18 = .ok (.if_icmp .ne 6, 3) := by decide +kernel
theorem dX11_exchange_21 : decode cX11_exchange 21 = .ok (.bipush (-101), 2) := by decide +kernel
theorem dX11_exchange_23 : decode cX11_exchange 23 = .ok (.ireturn, 1) := by decide +kernel
theorem dX11_exchange_24 : decode cX11_exchange 24 = .ok (.aload_n 0, 1) := by decide +kernel
theorem dX11_exchange_25 : decode cX11_exchange 25 = .ok (.getfield 110, 3) := by decide +kernel
theorem dX11_exchange_28 : decode cX11_exchange 28 = .ok (.sipush 9999, 3) := by decide +kernel
theorem dX11_exchange_31 : decode cX11_exchange 31 = .ok (.if_icmp .ne 6, 3) := by decide +kernel
theorem dX11_exchange_34 : decode cX11_exchange 34 = .ok (.bipush (-104), 2) := by decide +kernel
theorem dX11_exchange_36 : decode cX11_exchange 36 = .ok (.ireturn, 1) := by decide +kernel
theorem dX11_exchange_37 : decode cX11_exchange 37 = .ok (.aload_n 0, 1) := by decide +kernel
theorem dX11_exchange_38 : decode cX11_exchange 38 = .ok (.getfield 19, 3) := by decide +kernel
theorem dX11_exchange_41 : decode cX11_exchange 41 = .ok (.iload_n 1, 1) := by decide +kernel
theorem dX11_exchange_42 : decode cX11_exchange 42 = .ok (.iaload, 1) := by decide +kernel
theorem dX11_exchange_43 : decode cX11_exchange 43 = .ok (.istore_n 3, 1) := by decide +kernel
theorem dX11_exchange_44 : decode cX11_exchange 44 = .ok (.aload_n 0, 1) := by decide +kernel
theorem dX11_exchange_45 : decode cX11_exchange 45 = .ok (.getfield 19, 3) := by decide +kernel
theorem dX11_exchange_48 : decode cX11_exchange 48 = .ok (.iload_n 1, 1) := by decide +kernel
theorem dX11_exchange_49 : decode cX11_exchange 49 = .ok (.aload_n 0, 1) := by decide +kernel
theorem dX11_exchange_50 : decode cX11_exchange 50 = .ok (.getfield 19, 3) := by decide +kernel
theorem dX11_exchange_53 : decode cX11_exchange 53 = .ok (.iload_n 2, 1) := by decide +kernel
theorem dX11_exchange_54 : decode cX11_exchange 54 = .ok (.iaload, 1) := by decide +kernel
theorem dX11_exchange_55 : decode cX11_exchange 55 = .ok (.iastore, 1) := by decide +kernel
theorem dX11_exchange_56 : decode cX11_exchange 56 = .ok (.aload_n 0, 1) := by decide +kernel
theorem dX11_exchange_57 : decode cX11_exchange 57 = .ok (.getfield 19, 3) := by decide +kernel
theorem dX11_exchange_60 : decode cX11_exchange 60 = .ok (.iload_n 2, 1) := by decide +kernel
theorem dX11_exchange_61 : decode cX11_exchange 61 = .ok (.iload_n 3, 1) := by decide +kernel
theorem dX11_exchange_62 : decode cX11_exchange 62 = .ok (.iastore, 1) := by decide +kernel
theorem dX11_exchange_63 : decode cX11_exchange 63 = .ok (.aload_n 0, 1) := by decide +kernel
theorem dX11_exchange_64 : decode cX11_exchange 64 = .ok (.dup, 1) := by decide +kernel
theorem dX11_exchange_65 : decode cX11_exchange 65 = .ok (.getfield 110, 3) := by decide +kernel
theorem dX11_exchange_68 : decode cX11_exchange 68 = .ok (.iconst 1, 1) := by decide +kernel
theorem dX11_exchange_69 : decode cX11_exchange 69 = .ok (.iadd, 1) := by decide +kernel
theorem dX11_exchange_70 : decode cX11_exchange 70 = .ok (.putfield 110, 3) := by decide +kernel
theorem dX11_exchange_73 : decode cX11_exchange 73 = .ok (.aload_n 0, 1) := by decide +kernel
theorem dX11_exchange_74 : decode cX11_exchange 74 = .ok (.invokevirtual 155, 3) := by decide +kernel
theorem dX11_exchange_77 : decode cX11_exchange 77 = .ok (.ireturn, 1) := by decide +kernel
set_option maxRecDepth 20000 in
theorem ggX11_change_X11_isUpper : GoodIn wsX11_change wsX11_isUpper := goodIn_r _ [7, 8, 9, 10, 11, 6, 12, 13, 14, 15, 16, 17, 18, 19, 20, 21, 22, 23, 24, 25, 26, 27, 28, 29, 30, 31, 32, 33, 34, 35, 36, 37, 38, 39, 40, 41] (by decide +kernel) (by decide +kernel)
set_option maxRecDepth 20000 in
theorem gX11_change_X11_isUpper : GoodIn wsX11_change (wsV RX11 147 RX11 yX11_isUpper wsX11_isUpper) := goodIn_app (goodIn_of _ (by decide +kernel)) ggX11_change_X11_isUpper
set_option maxRecDepth 20000 in
theorem ggX11_change_X11_in : GoodIn wsX11_change wsX11_in := goodIn_r _ [12] (by decide +kernel) (by decide +kernel)
set_option maxRecDepth 20000 in
theorem gX11_change_X11_in : GoodIn wsX11_change (va_wsS RX11 55 yX11_in wsX11_in) := goodIn_app (goodIn_of _ (by decide +kernel)) ggX11_change_X11_in
theorem dX11_change_0 : decode cX11_change 0 = .ok (.aload_n 0, 1) := by decide +kernel
theorem dX11_change_1 : decode cX11_change 1 = .ok (.iload_n 1, 1) := by decide +kernel
theorem dX11_change_2 : decode cX11_change 2 = .ok (.invokevirtual 147, 3) := by decide +kernel
theorem dX11_change_5 : decode cX11_change 5 = .ok (.ifCond .ne 6, 3) := by decide +kernel
theorem dX11_change_8 : decode cX11_change 8 = .ok (.bipush (-101), 2) := by decide +kernel
theorem dX11_change_10 : decode cX11_change 10 = .ok (.ireturn, 1) := by decide +kernel
theorem dX11_change_11 : decode cX11_change 11 = .ok (.iload_n 2, 1) := by decide +kernel
theorem dX11_change_12 : decode cX11_change 12 = .ok (.i2l, 1) := by decide +kernel
theorem dX11_change_13 : decode cX11_change 13 = .ok (.lconst 0, 1) := by decide +kernel
theorem dX11_change_14 : decode cX11_change 14 = .ok (.ldc2_w 145, 3) := by decide +kernel
theorem dX11_change_17 : decode cX11_change 17 = .ok (.invokestatic 55, 3) := by decide +kernel
theorem dX11_change_20 : decode cX11_change 20 = .ok (.ifCond .ne 6, 3) := by decide +kernel
theorem dX11_change_23 : decode cX11_change 23 = .ok (.bipush (-102), 2) := by decide +kernel
theorem dX11_change_25 : decode cX11_change 25 = .ok (.ireturn, 1) := by decide +kernel
theorem dX11_change_26 : decode cX11_change 26 = .ok (.aload_n 0, 1) := by decide +kernel
theorem dX11_change_27 : decode cX11_change 27 = .ok (.getfield 16, 3) := by decide +kernel
theorem dX11_change_30 : decode cX11_change 30 = .ok (.iload_n 1, 1) := by decide +kernel
theorem dX11_change_31 : decode cX11_change 31 = .ok (.iaload, 1) := by decide +kernel
theorem dX11_change_32 : decode cX11_change 32 = .ok (.istore_n 3, 1) := by decide +kernel
theorem dX11_change_33 : decode cX11_change 33 = .ok (.aload_n 0, 1) := by decide +kernel
theorem dX11_change_34 : decode cX11_change 34 = .ok (.getfield 16, 3) := by decide +kernel
theorem dX11_change_37 : decode cX11_change 37 = .ok (.iload_n 1, 1) := by decide +kernel
theorem dX11_change_38 : decode cX11_change 38 = .ok (.iload_n 2, 1) := by decide +kernel
theorem dX11_change_39 : decode cX11_change 39 = .ok (.iastore, 1) := by decide +kernel
theorem dX11_change_40 : decode cX11_change 40 = .ok (.iload_n 3, 1) := by decide +kernel
theorem dX11_change_41 : decode cX11_change 41 = .ok (.ireturn, 1) := by decide +kernel
set_option maxRecDepth 20000 in
theorem ggX11_tell_X11_isBrick : GoodIn wsX11_tell wsX11_isBrick := goodIn_r _ [7, 8, 9, 10, 6, 11, 42, 43, 44, 45, 46, 47, 48, 49, 50, 51, 52, 53, 54, 55, 56, 57, 58, 59, 60, 61, 62, 63, 64, 65, 66, 67, 68, 69, 70] (by decide +kernel) (by decide +kernel)
set_option maxRecDepth 20000 in
theorem gX11_tell_X11_isBrick : GoodIn wsX11_tell (wsV RX11 138 RX11 yX11_isBrick wsX11_isBrick) := goodIn_app (goodIn_of _ (by decide +kernel)) ggX11_tell_X11_isBrick
set_option maxRecDepth 20000 in
theorem ggX11_tell_X11_in : GoodIn wsX11_tell wsX11_in := goodIn_r _ [11] (by decide +kernel) (by decide +kernel)
set_option maxRecDepth 20000 in
theorem gX11_tell_X11_in : GoodIn wsX11_tell (va_wsS RX11 55 yX11_in wsX11_in) := goodIn_app (goodIn_of _ (by decide +kernel)) ggX11_tell_X11_in
set_option maxRecDepth 20000 in
theorem ggX11_tell_X11_leftMany : GoodIn wsX11_tell wsX11_leftMany := goodIn_r _ [15, 16, 17, 18, 6, 19, 20, 21, 22, 23, 8, 2, 24, 25, 26, 27, 28, 29, 30, 31, 32, 33, 34, 35, 36, 37, 38, 39, 40, 41, 42, 43, 44, 45, 46, 47, 48, 49, 50, 51, 52, 53, 54, 55, 56, 57, 58, 59, 60, 61, 62, 63, 64, 65, 66, 67, 68, 69, 70] (by decide +kernel) (by decide +kernel)
set_option maxRecDepth 20000 in
theorem gX11_tell_X11_leftMany : GoodIn wsX11_tell (wsV RX11 160 RX11 yX11_leftMany wsX11_leftMany) := goodIn_app (goodIn_of _ (by decide +kernel)) ggX11_tell_X11_leftMany
theorem dX11_tell_0 : decode cX11_tell 0 = .ok (.aload_n 0, 1) := by decide +kernel
theorem dX11_tell_1 : decode cX11_tell 1 = .ok (.iload_n 1, 1) := by decide +kernel
theorem dX11_tell_2 : decode cX11_tell 2 = .ok (.invokevirtual 138, 3) := by decide +kernel
theorem dX11_tell_5 : decode cX11_tell 5 = .ok (.ifCond .ne 6, 3) := by decide +kernel
theorem dX11_tell_8 : decode cX11_tell 8 = .ok (.bipush (-101), 2) := by decide +kernel
theorem dX11_tell_10 : decode cX11_tell 10 = .ok (.ireturn, 1) := by decide +kernel
theorem dX11_tell_11 : decode cX11_tell 11 = .ok (.iload_n 2, 1) := by decide +kernel
theorem dX11_tell_12 : decode cX11_tell 12 = .ok (.i2l, 1) := by decide +kernel
theorem dX11_tell_13 : decode cX11_tell 13 = .ok (.lconst 0, 1) := by decide +kernel
theorem dX11_tell_14 : decode cX11_tell 14 = .ok (.ldc2_w 158, 3) := by decide +kernel
theorem dX11_tell_17 : decode cX11_tell 17 = .ok (.invokestatic 55, 3) := by decide +kernel
theorem dX11_tell_20 : decode cX11_tell 20 = .ok (.ifCond .ne 6, 3) := by decide +kernel
theorem dX11_tell_23 : decode cX11_tell 23 = .ok (.bipush (-102), 2) := by decide +kernel
theorem dX11_tell_25 : decode cX11_tell 25 = .ok (.ireturn, 1) := by decide +kernel
theorem dX11_tell_26 : decode cX11_tell 26 = .ok (.aload_n 0, 1) := by decide +kernel
theorem dX11_tell_27 : decode cX11_tell 27 = .ok (.getfield 22, 3) := by decide +kernel
theorem dX11_tell_30 : decode cX11_tell 30 = .ok (.iload_n 1, 1) := by decide +kernel
theorem dX11_tell_31 : decode cX11_tell 31 = .ok (.iload_n 2, 1) := by decide +kernel
theorem dX11_tell_32 : decode cX11_tell 32 = .ok (.iastore, 1) := by decide +kernel
theorem dX11_tell_33 : decode cX11_tell 33 = .ok (.aload_n 0, 1) := by decide +kernel
theorem dX11_tell_34 : decode cX11_tell 34 = .ok (.invokevirtual 160, 3) := by decide +kernel
theorem dX11_tell_37 : decode cX11_tell 37 = .ok (.ireturn, 1) := by decide +kernel
set_option maxRecDepth 20000 in
theorem ggX11_hush_X11_isBrick : GoodIn wsX11_hush wsX11_isBrick := goodIn_r _ [6, 7, 8, 9, 5, 10, 41, 42, 43, 44, 45, 46, 47, 48, 49, 50, 51, 52, 53, 54, 55, 56, 57, 58, 59, 60, 61, 62, 63, 64, 65, 66, 67, 68, 69] (by decide +kernel) (by decide +kernel)
set_option maxRecDepth 20000 in
theorem gX11_hush_X11_isBrick : GoodIn wsX11_hush (wsV RX11 138 RX11 yX11_isBrick wsX11_isBrick) := goodIn_app (goodIn_of _ (by decide +kernel)) ggX11_hush_X11_isBrick
set_option maxRecDepth 20000 in
theorem ggX11_hush_X11_leftMany : GoodIn wsX11_hush wsX11_leftMany := goodIn_r _ [14, 15, 16, 17, 5, 18, 19, 20, 21, 22, 7, 1, 23, 24, 25, 26, 27, 28, 29, 30, 31, 32, 33, 34, 35, 36, 37, 38, 39, 40, 41, 42, 43, 44, 45, 46, 47, 48, 49, 50, 51, 52, 53, 54, 55, 56, 57, 58, 59, 60, 61, 62, 63, 64, 65, 66, 67, 68, 69] (by decide +kernel) (by decide +kernel)
set_option maxRecDepth 20000 in
theorem gX11_hush_X11_leftMany : GoodIn wsX11_hush (wsV RX11 160 RX11 yX11_leftMany wsX11_leftMany) := goodIn_app (goodIn_of _ (by decide +kernel)) ggX11_hush_X11_leftMany
theorem dX11_hush_0 : decode cX11_hush 0 = .ok (.aload_n 0, 1) := by decide +kernel
theorem dX11_hush_1 : decode cX11_hush 1 = .ok (.iload_n 1, 1) := by decide +kernel
theorem dX11_hush_2 : decode cX11_hush 2 = .ok (.invokevirtual 138, 3) := by decide +kernel
theorem dX11_hush_5 : decode cX11_hush 5 = .ok (.ifCond .ne 6, 3) := by decide +kernel
theorem dX11_hush_8 : decode cX11_hush 8 = .ok (.bipush (-101), 2) := by decide +kernel
theorem dX11_hush_10 : decode cX11_hush 10 = .ok (.ireturn, 1) := by decide +kernel
theorem dX11_hush_11 : decode cX11_hush 11 = .ok (.aload_n 0, 1) := by decide +kernel
theorem dX11_hush_12 : decode cX11_hush 12 = .ok (.getfield 22, 3) := by decide +kernel
theorem dX11_hush_15 : decode cX11_hush 15 = .ok (.iload_n 1, 1) := by decide +kernel
theorem dX11_hush_16 : decode cX11_hush 16 = .ok (.iaload, 1) := by decide +kernel
theorem dX11_hush_17 : decode cX11_hush 17 = .ok (.iconst (-1), 1) := by decide +kernel
theorem dX11_hush_18 : decode cX11_hush 18 = .ok (.if_icmp .ne 6, 3) := by decide +kernel
theorem dX11_hush_21 : decode cX11_hush 21 = .ok (.bipush (-103), 2) := by decide +kernel
theorem dX11_hush_23 : decode cX11_hush 23 = .ok (.ireturn, 1) := by decide +kernel
theorem dX11_hush_24 : decode cX11_hush 24 = .ok (.aload_n 0, 1) := by decide +kernel
theorem dX11_hush_25 : decode cX11_hush 25 = .ok (.getfield 22, 3) := by decide +kernel
theorem dX11_hush_28 : decode cX11_hush 28 = .ok (.iload_n 1, 1) := by decide +kernel
theorem dX11_hush_29 : decode cX11_hush 29 = .ok (.iconst (-1), 1) := by decide +kernel
theorem dX11_hush_30 : decode cX11_hush 30 = .ok (.iastore, 1) := by decide +kernel
theorem dX11_hush_31 : decode cX11_hush 31 = .ok (.aload_n 0, 1) := by decide +kernel
theorem dX11_hush_32 : decode cX11_hush 32 = .ok (.invokevirtual 160, 3) := by decide +kernel
theorem dX11_hush_35 : decode cX11_hush 35 = .ok (.ireturn, 1) := by decide +kernel
set_option maxRecDepth 20000 in
theorem ggX11_swingOf_X11_topNow : GoodIn wsX11_swingOf wsX11_topNow := goodIn_r _ [9, 3, 4, 10, 11, 12, 8, 13, 1, 2, 14, 15, 16, 17, 18, 19, 20, 21, 22, 23, 24, 25, 26, 27, 28, 29, 30, 31, 32, 33, 34, 35, 36, 37, 38, 39, 40, 41, 42, 43, 44, 45, 46, 47, 48, 49, 50, 51, 52, 53, 54, 55, 56, 57, 58] (by decide +kernel) (by decide +kernel)
set_option maxRecDepth 20000 in
theorem gX11_swingOf_X11_topNow : GoodIn wsX11_swingOf (wsV RX11 155 RX11 yX11_topNow wsX11_topNow) := goodIn_app (goodIn_of _ (by decide +kernel)) ggX11_swingOf_X11_topNow
set_option maxRecDepth 20000 in
theorem ggX11_swingOf_X11_layValues : GoodIn wsX11_swingOf wsX11_layValues := goodIn_r _ [20, 4, 3, 21, 2, 22, 23, 24, 25, 8, 26, 27, 28, 29, 30, 31, 32, 33, 34, 35, 36, 37, 38, 39, 40, 41, 42, 43, 44, 45, 46, 47, 48, 49, 50, 51, 52, 53, 54, 55, 56, 57, 58] (by decide +kernel) (by decide +kernel)
set_option maxRecDepth 20000 in
theorem gX11_swingOf_X11_layValues : GoodIn wsX11_swingOf (wsV RX11 126 RX11 yX11_layValues wsX11_layValues) := goodIn_app (goodIn_of _ (by decide +kernel)) ggX11_swingOf_X11_layValues
theorem dX11_swingOf_0 : decode cX11_swingOf 0 = .ok (.aload_n 0, 1) := by decide +kernel
theorem dX11_swingOf_1 : decode cX11_swingOf 1 = .ok (.invokevirtual 155, 3) := by decide +kernel
theorem dX11_swingOf_4 : decode cX11_swingOf 4 = .ok (.istore_n 2, 1) := by decide +kernel
theorem dX11_swingOf_5 : decode cX11_swingOf 5 = .ok (.aload_n 0, 1) := by decide +kernel
theorem dX11_swingOf_6 : decode cX11_swingOf 6 = .ok (.getfield 19, 3) := by decide +kernel
theorem dX11_swingOf_9 : decode cX11_swingOf 9 = .ok (.iload_n 1, 1) := by decide +kernel
theorem dX11_swingOf_10 : decode cX11_swingOf 10 = .ok (.iaload, 1) := by decide +kernel
theorem dX11_swingOf_11 : decode cX11_swingOf 11 = .ok (.bipush 9, 2) := by decide +kernel
theorem dX11_swingOf_13 : decode cX11_swingOf 13 = .ok (.if_icmp .ne 5, 3) := by decide +kernel
theorem dX11_swingOf_16 : decode cX11_swingOf 16 = .ok (.iconst (-1), 1) := by decide +kernel
theorem dX11_swingOf_17 : decode cX11_swingOf 17 = .ok (.ireturn, 1) := by decide +kernel
theorem dX11_swingOf_18 : decode cX11_swingOf 18 = .ok (.aload_n 0, 1) := by decide +kernel
theorem dX11_swingOf_19 : decode cX11_swingOf 19 = .ok (.getfield 28, 3) := by decide +kernel
theorem dX11_swingOf_22 : decode cX11_swingOf 22 = .ok (.iload_n 1, 1) := by decide +kernel
theorem dX11_swingOf_23 : decode cX11_swingOf 23 = .ok (.dup2, 1) := by decide +kernel
theorem dX11_swingOf_24 : decode cX11_swingOf 24 = .ok (.iaload, 1) := by decide +kernel
theorem dX11_swingOf_25 : decode cX11_swingOf 25 = .ok (.iconst 1, 1) := by decide +kernel
theorem dX11_swingOf_26 : decode cX11_swingOf 26 = .ok (.iadd, 1) := by decide +kernel
theorem dX11_swingOf_27 : decode cX11_swingOf 27 = .ok (.iastore, 1) := by decide +kernel
theorem dX11_swingOf_28 : decode cX11_swingOf 28 = .ok (.aload_n 0, 1) := by decide +kernel
theorem dX11_swingOf_29 : decode cX11_swingOf 29 = .ok (.invokevirtual 126, 3) := by decide +kernel
theorem dX11_swingOf_32 : decode cX11_swingOf 32 = .ok (.sipush 1000, 3) := by decide +kernel
theorem dX11_swingOf_35 : decode cX11_swingOf 35 = .ok (.aload_n 0, 1) := by decide +kernel
theorem dX11_swingOf_36 : decode cX11_swingOf 36 = .ok (.getfield 25, 3) := by decide +kernel
theorem dX11_swingOf_39 : decode cX11_swingOf 39 = .ok (.aload_n 0, 1) := by decide +kernel
theorem dX11_swingOf_40 : decode cX11_swingOf 40 = .ok (.getfield 103, 3) := by decide +kernel
theorem dX11_swingOf_43 : decode cX11_swingOf 43 = .ok (.iconst 1, 1) := by decide +kernel
theorem dX11_swingOf_44 : decode cX11_swingOf 44 = .ok (.isub, 1) := by decide +kernel
theorem dX11_swingOf_45 : decode cX11_swingOf 45 = .ok (.iaload, 1) := by decide +kernel
theorem dX11_swingOf_46 : decode cX11_swingOf 46 = .ok (.iadd, 1) := by decide +kernel
theorem dX11_swingOf_47 : decode cX11_swingOf 47 = .ok (.iload_n 2, 1) := by decide +kernel
theorem dX11_swingOf_48 : decode cX11_swingOf 48 = .ok (.isub, 1) := by decide +kernel
theorem dX11_swingOf_49 : decode cX11_swingOf 49 = .ok (.ireturn, 1) := by decide +kernel
set_option maxRecDepth 20000 in
theorem ggX11_swing_X11_isFigure : GoodIn wsX11_swing wsX11_isFigure := goodIn_r _ [5, 6, 7, 8, 4, 9, 41, 42, 43, 44, 45, 46, 47, 48, 49, 50, 51, 52, 53, 54, 55, 56, 57, 58, 59, 60, 61, 62, 63, 64, 65, 66, 67, 68, 69] (by decide +kernel) (by decide +kernel)
set_option maxRecDepth 20000 in
theorem gX11_swing_X11_isFigure : GoodIn wsX11_swing (wsV RX11 152 RX11 yX11_isFigure wsX11_isFigure) := goodIn_app (goodIn_of _ (by decide +kernel)) ggX11_swing_X11_isFigure
set_option maxRecDepth 20000 in
theorem ggX11_swing_X11_swingOf : GoodIn wsX11_swing wsX11_swingOf := goodIn_r _ [13, 14, 15, 16, 17, 18, 19, 20, 4, 21, 22, 23, 24, 25, 26, 27, 28, 29, 30, 31, 32, 6, 33, 34, 35, 36, 37, 38, 39, 40, 41, 42, 43, 44, 45, 46, 47, 48, 49, 50, 51, 52, 53, 54, 55, 56, 57, 58, 59, 60, 61, 62, 63, 64, 65, 66, 67, 68, 69] (by decide +kernel) (by decide +kernel)
set_option maxRecDepth 20000 in
theorem gX11_swing_X11_swingOf : GoodIn wsX11_swing (wsV RX11 163 RX11 yX11_swingOf wsX11_swingOf) := goodIn_app (goodIn_of _ (by decide +kernel)) ggX11_swing_X11_swingOf
theorem dX11_swing_0 : decode cX11_swing 0 = .ok (.aload_n 0, 1) := by decide +kernel
theorem dX11_swing_1 : decode cX11_swing 1 = .ok (.iload_n 1, 1) := by decide +kernel
theorem dX11_swing_2 : decode cX11_swing 2 = .ok (.invokevirtual 152, 3) := by decide +kernel
theorem dX11_swing_5 : decode cX11_swing 5 = .ok (.ifCond .eq 11, 3) := by decide +kernel
theorem dX11_swing_8 : decode cX11_swing 8 = .ok (.aload_n 0, 1) := by decide +kernel
theorem dX11_swing_9 : decode cX11_swing 9 = .ok (.iload_n 1, 1) := by decide +kernel
theorem dX11_swing_10 : decode cX11_swing 10 = .ok (.invokevirtual 163, 3) := by decide +kernel
theorem dX11_swing_13 : decode cX11_swing 13 = .ok (.goto 5, 3) := by decide +kernel
theorem dX11_swing_16 : decode cX11_swing 16 = .ok (.bipush (-101), 2) := by decide +kernel
theorem dX11_swing_18 : decode cX11_swing 18 = .ok (.ireturn, 1) := by decide +kernel
theorem dX11_isSorted_0 : decode cX11_isSorted 0 = .ok (.iconst 0, 1) := by decide +kernel
theorem dX11_isSorted_1 : decode cX11_isSorted 1 = .ok (.istore_n 3, 1) := by decide +kernel
theorem dX11_isSorted_2 : decode cX11_isSorted 2 = .ok (.iload_n 3, 1) := by decide +kernel
theorem dX11_isSorted_3 : decode cX11_isSorted 3 = .ok (.bipush 10, 2) := by decide +kernel
theorem dX11_isSorted_5 : decode cX11_isSorted 5 = .ok (.if_icmp .ge 91, 3) := by decide +kernel
theorem dX11_isSorted_8 : decode cX11_isSorted 8 = .ok (.iconst 0, 1) := by decide +kernel
theorem dX11_isSorted_9 : decode cX11_isSorted 9 = .ok (.istore 4, 2) := by decide +kernel
theorem dX11_isSorted_11 : decode cX11_isSorted 11 = .ok (.iload_n 1, 1) := by decide +kernel
theorem dX11_isSorted_12 : decode cX11_isSorted 12 = .ok (.istore 5, 2) := by decide +kernel
theorem dX11_isSorted_14 : decode cX11_isSorted 14 = .ok (.iload_n 2, 1) := by decide +kernel
theorem dX11_isSorted_15 : decode cX11_isSorted 15 = .ok (.istore 6, 2) := by decide +kernel
theorem dX11_isSorted_17 : decode cX11_isSorted 17 = .ok (.iconst 0, 1) := by decide +kernel
theorem dX11_isSorted_18 : decode cX11_isSorted 18 = .ok (.istore 7, 2) := by decide +kernel
theorem dX11_isSorted_20 : decode cX11_isSorted 20 = .ok (.iload 7, 2) := by decide +kernel
theorem dX11_isSorted_22 : decode cX11_isSorted 22 = .ok (.aload_n 0, 1) := by decide +kernel
theorem dX11_isSorted_23 : decode cX11_isSorted 23 = .ok (.getfield 97, 3) := by decide +kernel
theorem dX11_isSorted_26 : decode cX11_isSorted 26 = .ok (.if_icmp .ge 57, 3) := by decide +kernel
theorem dX11_isSorted_29 : decode cX11_isSorted 29 = .ok (.iload 4, 2) := by decide +kernel
theorem dX11_isSorted_31 : decode cX11_isSorted 31 = .ok (.iload 5, 2) := by decide +kernel
theorem dX11_isSorted_33 : decode cX11_isSorted 33 = .ok (.bipush 10, 2) := by decide +kernel
theorem dX11_isSorted_35 : decode cX11_isSorted 35 = .ok (.irem, 1) := by decide +kernel
theorem dX11_isSorted_36 : decode cX11_isSorted 36 = .ok (.iload_n 3, 1) := by decide +kernel
theorem dX11_isSorted_37 : decode cX11_isSorted 37 = .ok (.if_icmp .ne 7, 3) := by decide +kernel
theorem dX11_isSorted_40 : decode cX11_isSorted 40 = .ok (.iconst 1, 1) := by decide +kernel
theorem dX11_isSorted_41 : decode cX11_isSorted 41 = .ok (.goto 4, 3) := by decide +kernel
theorem dX11_isSorted_44 : decode cX11_isSorted 44 = .ok (.iconst 0, 1) := by decide +kernel
theorem dX11_isSorted_45 : decode cX11_isSorted 45 = .ok (.iload 6, 2) := by decide +kernel
theorem dX11_isSorted_47 : decode cX11_isSorted 47 = .ok (.bipush 10, 2) := by decide +kernel
theorem dX11_isSorted_49 : decode cX11_isSorted 49 = .ok (.irem, 1) := by decide +kernel
theorem dX11_isSorted_50 : decode cX11_isSorted 50 = .ok (.iload_n 3, 1) := by decide +kernel
theorem dX11_isSorted_51 : decode cX11_isSorted 51 = .ok (.if_icmp .ne 7, 3) := by decide +kernel
theorem dX11_isSorted_54 : decode cX11_isSorted 54 = .ok (.iconst 1, 1) := by decide +kernel
theorem dX11_isSorted_55 : decode cX11_isSorted 55 = .ok (.goto 4, 3) := by decide +kernel
theorem dX11_isSorted_58 : decode cX11_isSorted 58 = .ok (.iconst 0, 1) := by decide +kernel
theorem dX11_isSorted_59 : decode cX11_isSorted 59 = .ok (.isub, 1) := by decide +kernel
theorem dX11_isSorted_60 : decode cX11_isSorted 60 = .ok (.iadd, 1) := by decide +kernel
theorem dX11_isSorted_61 : decode cX11_isSorted 61 = .ok (.istore 4, 2) := by decide +kernel
theorem dX11_isSorted_63 : decode cX11_isSorted 63 = .ok (.iload 5, 2) := by decide +kernel
theorem dX11_isSorted_65 : decode cX11_isSorted 65 = .ok (.bipush 10, 2) := by decide +kernel
theorem dX11_isSorted_67 : decode cX11_isSorted 67 = .ok (.idiv, 1) := by decide +kernel
theorem dX11_isSorted_68 : decode cX11_isSorted 68 = .ok (.istore 5, 2) := by decide +kernel
theorem dX11_isSorted_70 : decode cX11_isSorted 70 = .ok (.iload 6, 2) := by decide +kernel
theorem dX11_isSorted_72 : decode cX11_isSorted 72 = .ok (.bipush 10, 2) := by decide +kernel
theorem dX11_isSorted_74 : decode cX11_isSorted 74 = .ok (.idiv, 1) := by decide +kernel
theorem dX11_isSorted_75 : decode cX11_isSorted 75 = .ok (.istore 6, 2) := by decide +kernel
theorem dX11_isSorted_77 : decode cX11_isSorted 77 = .ok (.iinc 7 1, 3) := by decide +kernel
theorem dX11_isSorted_80 : decode cX11_isSorted 80 = .ok (.goto (-60), 3) := by decide +kernel
theorem dX11_isSorted_83 : decode cX11_isSorted 83 = .ok (.iload 4, 2) := by decide +kernel
theorem dX11_isSorted_85 : decode cX11_isSorted 85 = .ok (.ifCond .eq 5, 3) := by decide +kernel
theorem dX11_isSorted_88 : decode cX11_isSorted 88 = .ok (.iconst 0, 1) := by decide +kernel
theorem dX11_isSorted_89 : decode cX11_isSorted 89 = .ok (.ireturn, 1) := by decide +kernel
theorem dX11_isSorted_90 : decode cX11_isSorted 90 = .ok (.iinc 3 1, 3) := by decide +kernel
theorem dX11_isSorted_93 : decode cX11_isSorted 93 = .ok (.goto (-91), 3) := by decide +kernel
theorem dX11_isSorted_96 : decode cX11_isSorted 96 = .ok (.iconst 1, 1) := by decide +kernel
theorem dX11_isSorted_97 : decode cX11_isSorted 97 = .ok (.ireturn, 1) := by decide +kernel
set_option maxRecDepth 20000 in
theorem ggX11_orderOf_X11_numberOf : GoodIn wsX11_orderOf wsX11_numberOf := goodIn_r _ [9, 2, 34, 35, 36, 37, 38, 39, 40, 41, 42, 43, 44, 45, 46, 47, 48, 49, 50, 51, 52, 53, 54, 55, 56, 57, 58, 59, 60, 61, 62] (by decide +kernel) (by decide +kernel)
set_option maxRecDepth 20000 in
theorem gX11_orderOf_X11_numberOf : GoodIn wsX11_orderOf (wsV RX11 166 RX11 yX11_numberOf wsX11_numberOf) := goodIn_app (goodIn_of _ (by decide +kernel)) ggX11_orderOf_X11_numberOf
set_option maxRecDepth 20000 in
theorem ggX11_orderOf_X11_power : GoodIn wsX11_orderOf wsX11_power := goodIn_r _ [12] (by decide +kernel) (by decide +kernel)
set_option maxRecDepth 20000 in
theorem gX11_orderOf_X11_power : GoodIn wsX11_orderOf (va_wsS RX11 170 yX11_power wsX11_power) := goodIn_app (goodIn_of _ (by decide +kernel)) ggX11_orderOf_X11_power
set_option maxRecDepth 20000 in
theorem ggX11_orderOf_X11_isSorted : GoodIn wsX11_orderOf wsX11_isSorted := goodIn_r _ [16, 2, 34, 35, 36, 37, 38, 39, 40, 41, 42, 43, 44, 45, 46, 47, 48, 49, 50, 51, 52, 53, 54, 55, 56, 57, 58, 59, 60, 61, 62] (by decide +kernel) (by decide +kernel)
set_option maxRecDepth 20000 in
theorem gX11_orderOf_X11_isSorted : GoodIn wsX11_orderOf (wsV RX11 173 RX11 yX11_isSorted wsX11_isSorted) := goodIn_app (goodIn_of _ (by decide +kernel)) ggX11_orderOf_X11_isSorted
set_option maxRecDepth 20000 in
theorem ggX11_orderOf_X11_layNumber : GoodIn wsX11_orderOf wsX11_layNumber := goodIn_r _ [20, 2, 21, 22, 23, 24, 8, 25, 4, 3, 26, 27, 28, 29, 30, 31, 32, 33, 34, 35, 36, 37, 38, 39, 40, 41, 42, 43, 44, 45, 46, 47, 48, 49, 50, 51, 52, 53, 54, 55, 56, 57, 58, 59, 60, 61, 62] (by decide +kernel) (by decide +kernel)
set_option maxRecDepth 20000 in
theorem gX11_orderOf_X11_layNumber : GoodIn wsX11_orderOf (wsV RX11 177 RX11 yX11_layNumber wsX11_layNumber) := goodIn_app (goodIn_of _ (by decide +kernel)) ggX11_orderOf_X11_layNumber
theorem dX11_orderOf_0 : decode cX11_orderOf 0 = .ok (.aload_n 0, 1) := by decide +kernel
theorem dX11_orderOf_1 : decode cX11_orderOf 1 = .ok (.aload_n 0, 1) := by decide +kernel
theorem dX11_orderOf_2 : decode cX11_orderOf 2 = .ok (.getfield 19, 3) := by decide +kernel
theorem dX11_orderOf_5 : decode cX11_orderOf 5 = .ok (.invokevirtual 166, 3) := by decide +kernel
theorem dX11_orderOf_8 : decode cX11_orderOf 8 = .ok (.istore_n 2, 1) := by decide +kernel
theorem dX11_orderOf_9 : decode cX11_orderOf 9 = .ok (.iconst (-1), 1) := by decide +kernel
theorem dX11_orderOf_10 : decode cX11_orderOf 10 = .ok (.istore_n 3, 1) := by decide +kernel
theorem dX11_orderOf_11 : decode cX11_orderOf 11 = .ok (.iconst (-1), 1) := by decide +kernel
theorem dX11_orderOf_12 : decode cX11_orderOf 12 = .ok (.istore 4, 2) := by decide +kernel
theorem dX11_orderOf_14 : decode cX11_orderOf 14 = .ok (.iconst 0, 1) := by decide +kernel
theorem dX11_orderOf_15 : decode cX11_orderOf 15 = .ok (.istore 5, 2) := by decide +kernel
theorem dX11_orderOf_17 : decode cX11_orderOf 17 = .ok (.iload 5, 2) := by decide +kernel
theorem dX11_orderOf_19 : decode cX11_orderOf 19 = .ok (.bipush 10, 2) := by decide +kernel
theorem dX11_orderOf_21 : decode cX11_orderOf 21 = .ok (.aload_n 0, 1) := by decide +kernel
theorem dX11_orderOf_22 : decode cX11_orderOf 22 = .ok (.getfield 97, 3) := by decide +kernel
theorem dX11_orderOf_25 : decode cX11_orderOf 25 = .ok (.invokestatic 170, 3) := by decide +kernel
theorem dX11_orderOf_28 : decode cX11_orderOf 28 = .ok (.if_icmp .ge 82, 3) := by decide +kernel
theorem dX11_orderOf_31 : decode cX11_orderOf 31 = .ok (.aload_n 0, 1) := by decide +kernel
theorem dX11_orderOf_32 : decode cX11_orderOf 32 = .ok (.iload 5, 2) := by decide +kernel
theorem dX11_orderOf_34 : decode cX11_orderOf 34 = .ok (.iload_n 2, 1) := by decide +kernel
theorem dX11_orderOf_35 : decode cX11_orderOf 35 = .ok (.invokevirtual 173, 3) := by decide +kernel
theorem dX11_orderOf_38 : decode cX11_orderOf 38 = .ok (.ifCond .eq 66, 3) := by decide +kernel
theorem dX11_orderOf_41 : decode cX11_orderOf 41 = .ok (.aload_n 0, 1) := by decide +kernel
theorem dX11_orderOf_42 : decode cX11_orderOf 42 = .ok (.iload 5, 2) := by decide +kernel
theorem dX11_orderOf_44 : decode cX11_orderOf 44 = .ok (.invokevirtual 177, 3) := by decide +kernel
theorem dX11_orderOf_47 : decode cX11_orderOf 47 = .ok (.aload_n 0, 1) := by decide +kernel
theorem dX11_orderOf_48 : decode cX11_orderOf 48 = .ok (.getfield 25, 3) := by decide +kernel
theorem dX11_orderOf_51 : decode cX11_orderOf 51 = .ok (.aload_n 0, 1) := by decide +kernel
theorem dX11_orderOf_52 : decode cX11_orderOf 52 = .ok (.getfield 103, 3) := by decide +kernel
theorem dX11_orderOf_55 : decode cX11_orderOf 55 = .ok (.iconst 1, 1) := by decide +kernel
theorem dX11_orderOf_56 : decode cX11_orderOf 56 = .ok (.isub, 1) := by decide +kernel
theorem dX11_orderOf_57 : decode cX11_orderOf 57 = .ok (.iaload, 1) := by decide +kernel
theorem dX11_orderOf_58 : decode cX11_orderOf 58 = .ok (.iload 4, 2) := by decide +kernel
theorem dX11_orderOf_60 : decode cX11_orderOf 60 = .ok (.if_icmp .le 8, 3) := by decide +kernel
theorem dX11_orderOf_63 : decode cX11_orderOf 63 = .ok (.iload 5, 2) := by decide +kernel
theorem dX11_orderOf_65 : decode cX11_orderOf 65 = .ok (.goto 4, 3) := by decide +kernel
theorem dX11_orderOf_68 : decode cX11_orderOf 68 = .ok (.iload_n 3, 1) := by decide +kernel
theorem dX11_orderOf_69 : decode cX11_orderOf 69 = .ok (.istore_n 3, 1) := by decide +kernel
theorem dX11_orderOf_70 : decode cX11_orderOf 70 = .ok (.aload_n 0, 1) := by decide +kernel
theorem dX11_orderOf_71 : decode cX11_orderOf 71 = .ok (.getfield 25, 3) := by decide +kernel
theorem dX11_orderOf_74 : decode cX11_orderOf 74 = .ok (.aload_n 0, 1) := by decide +kernel
theorem dX11_orderOf_75 : decode cX11_orderOf 75 = .ok (.getfield 103, 3) := by decide +kernel
theorem dX11_orderOf_78 : decode cX11_orderOf 78 = .ok (.iconst 1, 1) := by decide +kernel
theorem dX11_orderOf_79 : decode cX11_orderOf 79 = .ok (.isub, 1) := by decide +kernel
theorem dX11_orderOf_80 : decode cX11_orderOf 80 = .ok (.iaload, 1) := by decide +kernel
theorem dX11_orderOf_81 : decode cX11_orderOf 81 = .ok (.iload 4, 2) := by decide +kernel
theorem dX11_orderOf_83 : decode cX11_orderOf 83 = .ok (.if_icmp .le 17, 3) := by decide +kernel
theorem dX11_orderOf_86 : decode cX11_orderOf 86 = .ok (.aload_n 0, 1) := by decide +kernel
theorem dX11_orderOf_87 : decode cX11_orderOf 87 = .ok (.getfield 25, 3) := by decide +kernel
theorem dX11_orderOf_90 : decode cX11_orderOf 90 = .ok (.aload_n 0, 1) := by decide +kernel
theorem dX11_orderOf_91 : decode cX11_orderOf 91 = .ok (.getfield 103, 3) := by decide +kernel
theorem dX11_orderOf_94 : decode cX11_orderOf 94 = .ok (.iconst 1, 1) := by decide +kernel
theorem dX11_orderOf_95 : decode cX11_orderOf 95 = .ok (.isub, 1) := by decide +kernel
theorem dX11_orderOf_96 : decode cX11_orderOf 96 = .ok (.iaload, 1) := by decide +kernel
theorem dX11_orderOf_97 : decode cX11_orderOf 97 = .ok (.goto 5, 3) := by decide +kernel
theorem dX11_orderOf_100 : decode cX11_orderOf 100 = .ok (.iload 4, 2) := by decide +kernel
theorem dX11_orderOf_102 : decode cX11_orderOf 102 = .ok (.istore 4, 2) := by decide +kernel
theorem dX11_orderOf_104 : decode cX11_orderOf 104 = .ok (.iinc 5 1, 3) := by decide +kernel
theorem dX11_orderOf_107 : decode cX11_orderOf 107 = .ok (.goto (-90), 3) := by decide +kernel
theorem dX11_orderOf_110 : decode cX11_orderOf 110 = .ok (.iload_n 1, 1) := by decide +kernel
theorem dX11_orderOf_111 : decode cX11_orderOf 111 = .ok (.ifCond .ne 8, 3) := by decide +kernel
theorem dX11_orderOf_114 : decode cX11_orderOf 114 = .ok (.iload 4, 2) := by decide +kernel
theorem dX11_orderOf_116 : decode cX11_orderOf 116 = .ok (.goto 4, 3) := by decide +kernel
theorem dX11_orderOf_119 : decode cX11_orderOf 119 = .ok (.iload_n 3, 1) := by decide +kernel
theorem dX11_orderOf_120 : decode cX11_orderOf 120 = .ok (.ireturn, 1) := by decide +kernel
set_option maxRecDepth 20000 in
theorem ggX11_order_X11_in : GoodIn wsX11_order wsX11_in := goodIn_r _ [4] (by decide +kernel) (by decide +kernel)
set_option maxRecDepth 20000 in
theorem gX11_order_X11_in : GoodIn wsX11_order (va_wsS RX11 55 yX11_in wsX11_in) := goodIn_app (goodIn_of _ (by decide +kernel)) ggX11_order_X11_in
set_option maxRecDepth 20000 in
theorem ggX11_order_X11_lacks : GoodIn wsX11_order wsX11_lacks := goodIn_r _ [8, 9, 45, 46, 47, 48, 49, 50, 51, 52, 53, 54, 55, 56, 57, 58, 59, 60, 61, 62, 63, 64, 65, 66, 67, 68, 69, 70, 71, 72, 73] (by decide +kernel) (by decide +kernel)
set_option maxRecDepth 20000 in
theorem gX11_order_X11_lacks : GoodIn wsX11_order (wsV RX11 181 RX11 yX11_lacks wsX11_lacks) := goodIn_app (goodIn_of _ (by decide +kernel)) ggX11_order_X11_lacks
set_option maxRecDepth 20000 in
theorem ggX11_order_X11_orderOf : GoodIn wsX11_order wsX11_orderOf := goodIn_r _ [13, 14, 9, 15, 16, 17, 18, 19, 3, 20, 21, 22, 23, 24, 25, 26, 27, 28, 29, 30, 31, 32, 33, 34, 35, 36, 37, 38, 39, 40, 41, 42, 43, 44, 45, 46, 47, 48, 49, 50, 51, 52, 53, 54, 55, 56, 57, 58, 59, 60, 61, 62, 63, 64, 65, 66, 67, 68, 69, 70, 71, 72, 73] (by decide +kernel) (by decide +kernel)
set_option maxRecDepth 20000 in
theorem gX11_order_X11_orderOf : GoodIn wsX11_order (wsV RX11 185 RX11 yX11_orderOf wsX11_orderOf) := goodIn_app (goodIn_of _ (by decide +kernel)) ggX11_order_X11_orderOf
theorem dX11_order_0 : decode cX11_order 0 = .ok (.iload_n 1, 1) := by decide +kernel
theorem dX11_order_1 : decode cX11_order 1 = .ok (.i2l, 1) := by decide +kernel
theorem dX11_order_2 : decode cX11_order 2 = .ok (.lconst 0, 1) := by decide +kernel
theorem dX11_order_3 : decode cX11_order 3 = .ok (.lconst 1, 1) := by decide +kernel
theorem dX11_order_4 : decode cX11_order 4 = .ok (.invokestatic 55, 3) := by decide +kernel
theorem dX11_order_7 : decode cX11_order 7 = .ok (.ifCond .ne 6, 3) := by decide +kernel
theorem dX11_order_10 : decode cX11_order 10 = .ok (.bipush (-102), 2) := by decide +kernel
theorem dX11_order_12 : decode cX11_order 12 = .ok (.ireturn, 1) := by decide +kernel
theorem dX11_order_13 : decode cX11_order 13 = .ok (.aload_n 0, 1) := by decide +kernel
theorem dX11_order_14 : decode cX11_order 14 = .ok (.invokevirtual 181, 3) := by decide +kernel
theorem dX11_order_17 : decode cX11_order 17 = .ok (.ifCond .eq 8, 3) := by decide +kernel
theorem dX11_order_20 : decode cX11_order 20 = .ok (.bipush (-103), 2) := by decide +kernel
theorem dX11_order_22 : decode cX11_order 22 = .ok (.goto 8, 3) := by decide +kernel
theorem dX11_order_25 : decode cX11_order 25 = .ok (.aload_n 0, 1) := by decide +kernel
theorem dX11_order_26 : decode cX11_order 26 = .ok (.iload_n 1, 1) := by decide +kernel
theorem dX11_order_27 : decode cX11_order 27 = .ok (.invokevirtual 185, 3) := by decide +kernel
theorem dX11_order_30 : decode cX11_order 30 = .ok (.ireturn, 1) := by decide +kernel
theorem dX11_otherwise_0 : decode cX11_otherwise 0 = .ok (.iconst 0, 1) := by decide +kernel
theorem dX11_otherwise_1 : decode cX11_otherwise 1 = .ok (.istore_n 1, 1) := by decide +kernel
theorem dX11_otherwise_2 : decode cX11_otherwise 2 = .ok (.iconst 0, 1) := by decide +kernel
theorem dX11_otherwise_3 : decode cX11_otherwise 3 = .ok (.istore_n 2, 1) := by decide +kernel
theorem dX11_otherwise_4 : decode cX11_otherwise 4 = .ok (.iload_n 2, 1) := by decide +kernel
theorem dX11_otherwise_5 : decode cX11_otherwise 5 = .ok (.aload_n 0, 1) := by decide +kernel
theorem dX11_otherwise_6 : decode cX11_otherwise 6 = .ok (.getfield 97, 3) := by decide +kernel
theorem dX11_otherwise_9 : decode cX11_otherwise 9 = .ok (.if_icmp .ge 32, 3) := by decide +kernel
theorem dX11_otherwise_12 : decode cX11_otherwise 12 = .ok (.iload_n 1, 1) := by decide +kernel
theorem dX11_otherwise_13 : decode cX11_otherwise 13 = .ok (.aload_n 0, 1) := by decide +kernel
theorem dX11_otherwise_14 : decode cX11_otherwise 14 = .ok (.getfield 28, 3) := by decide +kernel
theorem dX11_otherwise_17 : decode cX11_otherwise 17 = .ok (.iload_n 2, 1) := by decide +kernel
theorem dX11_otherwise_18 : decode cX11_otherwise 18 = .ok (.iaload, 1) := by decide +kernel
theorem dX11_otherwise_19 : decode cX11_otherwise 19 = .ok (.aload_n 0, 1) := by decide +kernel
theorem dX11_otherwise_20 : decode cX11_otherwise 20 = .ok (.getfield 19, 3) := by decide +kernel
theorem dX11_otherwise_23 : decode cX11_otherwise 23 = .ok (.iload_n 2, 1) := by decide +kernel
theorem dX11_otherwise_24 : decode cX11_otherwise 24 = .ok (.iaload, 1) := by decide +kernel
theorem dX11_otherwise_25 : decode cX11_otherwise 25 = .ok (.if_icmp .ne 7, 3) := by decide +kernel
theorem dX11_otherwise_28 : decode cX11_otherwise 28 = .ok (.iconst 0, 1) := by decide +kernel
theorem dX11_otherwise_29 : decode cX11_otherwise 29 = .ok (.goto 4, 3) := by decide +kernel
theorem dX11_otherwise_32 : decode cX11_otherwise 32 = .ok (.iconst 1, 1) := by decide +kernel
theorem dX11_otherwise_33 : decode cX11_otherwise 33 = .ok (.iadd, 1) := by decide +kernel
theorem dX11_otherwise_34 : decode cX11_otherwise 34 = .ok (.istore_n 1, 1) := by decide +kernel
theorem dX11_otherwise_35 : decode cX11_otherwise 35 = .ok (.iinc 2 1, 3) := by decide +kernel
theorem dX11_otherwise_38 : decode cX11_otherwise 38 = .ok (.goto (-34), 3) := by decide +kernel
theorem dX11_otherwise_41 : decode cX11_otherwise 41 = .ok (.iload_n 1, 1) := by decide +kernel
theorem dX11_otherwise_42 : decode cX11_otherwise 42 = .ok (.ireturn, 1) := by decide +kernel
set_option maxRecDepth 20000 in
theorem ggX11_needOf_X11_power : GoodIn wsX11_needOf wsX11_power := goodIn_r _ [7] (by decide +kernel) (by decide +kernel)
set_option maxRecDepth 20000 in
theorem gX11_needOf_X11_power : GoodIn wsX11_needOf (va_wsS RX11 170 yX11_power wsX11_power) := goodIn_app (goodIn_of _ (by decide +kernel)) ggX11_needOf_X11_power
set_option maxRecDepth 20000 in
theorem ggX11_needOf_X11_layNumber : GoodIn wsX11_needOf wsX11_layNumber := goodIn_r _ [11, 1, 12, 13, 14, 15, 6, 16, 3, 2, 17, 18, 19, 20, 21, 22, 23, 24, 30, 31, 32, 33, 34, 35, 36, 37, 38, 39, 40, 41, 42, 43, 44, 45, 46, 47, 48, 49, 50, 51, 52, 53, 54, 55, 56, 57, 58] (by decide +kernel) (by decide +kernel)
set_option maxRecDepth 20000 in
theorem gX11_needOf_X11_layNumber : GoodIn wsX11_needOf (wsV RX11 177 RX11 yX11_layNumber wsX11_layNumber) := goodIn_app (goodIn_of _ (by decide +kernel)) ggX11_needOf_X11_layNumber
set_option maxRecDepth 20000 in
theorem ggX11_needOf_X11_otherwise : GoodIn wsX11_needOf wsX11_otherwise := goodIn_r _ [28, 1, 12, 29, 30, 31, 32, 33, 34, 35, 36, 37, 38, 39, 40, 41, 42, 43, 44, 45, 46, 47, 48, 49, 50, 51, 52, 53, 54, 55, 56, 57, 58] (by decide +kernel) (by decide +kernel)
set_option maxRecDepth 20000 in
theorem gX11_needOf_X11_otherwise : GoodIn wsX11_needOf (wsV RX11 188 RX11 yX11_otherwise wsX11_otherwise) := goodIn_app (goodIn_of _ (by decide +kernel)) ggX11_needOf_X11_otherwise
theorem dX11_needOf_0 : decode cX11_needOf 0 = .ok (.iconst (-1), 1) := by decide +kernel
theorem dX11_needOf_1 : decode cX11_needOf 1 = .ok (.istore_n 3, 1) := by decide +kernel
theorem dX11_needOf_2 : decode cX11_needOf 2 = .ok (.iconst 5, 1) := by decide +kernel
theorem dX11_needOf_3 : decode cX11_needOf 3 = .ok (.istore 4, 2) := by decide +kernel
theorem dX11_needOf_5 : decode cX11_needOf 5 = .ok (.iconst 0, 1) := by decide +kernel
theorem dX11_needOf_6 : decode cX11_needOf 6 = .ok (.istore 5, 2) := by decide +kernel
theorem dX11_needOf_8 : decode cX11_needOf 8 = .ok (.iload 5, 2) := by decide +kernel
theorem dX11_needOf_10 : decode cX11_needOf 10 = .ok (.bipush 10, 2) := by decide +kernel
theorem dX11_needOf_12 : decode cX11_needOf 12 = .ok (.aload_n 0, 1) := by decide +kernel
theorem dX11_needOf_13 : decode cX11_needOf 13 = .ok (.getfield 97, 3) := by decide +kernel
theorem dX11_needOf_16 : decode cX11_needOf 16 = .ok (.invokestatic 170, 3) := by decide +kernel
theorem dX11_needOf_19 : decode cX11_needOf 19 = .ok (.if_icmp .ge 50, 3) := by decide +kernel
theorem dX11_needOf_22 : decode cX11_needOf 22 = .ok (.aload_n 0, 1) := by decide +kernel
theorem dX11_needOf_23 : decode cX11_needOf 23 = .ok (.iload 5, 2) := by decide +kernel
theorem dX11_needOf_25 : decode cX11_needOf 25 = .ok (.invokevirtual 177, 3) := by decide +kernel
theorem dX11_needOf_28 : decode cX11_needOf 28 = .ok (.aload_n 0, 1) := by decide +kernel
theorem dX11_needOf_29 : decode cX11_needOf 29 = .ok (.invokevirtual 188, 3) := by decide +kernel
theorem dX11_needOf_32 : decode cX11_needOf 32 = .ok (.istore 6, 2) := by decide +kernel
theorem dX11_needOf_34 : decode cX11_needOf 34 = .ok (.aload_n 0, 1) := by decide +kernel
theorem dX11_needOf_35 : decode cX11_needOf 35 = .ok (.getfield 25, 3) := by decide +kernel
theorem dX11_needOf_38 : decode cX11_needOf 38 = .ok (.aload_n 0, 1) := by decide +kernel
theorem dX11_needOf_39 : decode cX11_needOf 39 = .ok (.getfield 103, 3) := by decide +kernel
theorem dX11_needOf_42 : decode cX11_needOf 42 = .ok (.iconst 1, 1) := by decide +kernel
theorem dX11_needOf_43 : decode cX11_needOf 43 = .ok (.isub, 1) := by decide +kernel
theorem dX11_needOf_44 : decode cX11_needOf 44 = .ok (.iaload, 1) := by decide +kernel
theorem dX11_needOf_45 : decode cX11_needOf 45 = .ok (.iload_n 1, 1) := by decide +kernel
theorem dX11_needOf_46 : decode cX11_needOf 46 = .ok (.if_icmp .ne 17, 3) := by decide +kernel
theorem dX11_needOf_49 : decode cX11_needOf 49 = .ok (.iload 6, 2) := by decide +kernel
theorem dX11_needOf_51 : decode cX11_needOf 51 = .ok (.iload 4, 2) := by decide +kernel
theorem dX11_needOf_53 : decode cX11_needOf 53 = .ok (.if_icmp .ge 10, 3) := by decide +kernel
theorem dX11_needOf_56 : decode cX11_needOf 56 = .ok (.iload 5, 2) := by decide +kernel
theorem dX11_needOf_58 : decode cX11_needOf 58 = .ok (.istore_n 3, 1) := by decide +kernel
theorem dX11_needOf_59 : decode cX11_needOf 59 = .ok (.iload 6, 2) := by decide +kernel
theorem dX11_needOf_61 : decode cX11_needOf 61 = .ok (.istore 4, 2) := by decide +kernel
theorem dX11_needOf_63 : decode cX11_needOf 63 = .ok (.iinc 5 1, 3) := by decide +kernel
theorem dX11_needOf_66 : decode cX11_needOf 66 = .ok (.goto (-58), 3) := by decide +kernel
theorem dX11_needOf_69 : decode cX11_needOf 69 = .ok (.iload_n 3, 1) := by decide +kernel
theorem dX11_needOf_70 : decode cX11_needOf 70 = .ok (.iconst (-1), 1) := by decide +kernel
theorem dX11_needOf_71 : decode cX11_needOf 71 = .ok (.if_icmp .eq 8, 3) := by decide +kernel
theorem dX11_needOf_74 : decode cX11_needOf 74 = .ok (.iload_n 2, 1) := by decide +kernel
theorem dX11_needOf_75 : decode cX11_needOf 75 = .ok (.iconst 1, 1) := by decide +kernel
theorem dX11_needOf_76 : decode cX11_needOf 76 = .ok (.if_icmp .ne 7, 3) := by decide +kernel
theorem dX11_needOf_79 : decode cX11_needOf 79 = .ok (.iload_n 3, 1) := by decide +kernel
theorem dX11_needOf_80 : decode cX11_needOf 80 = .ok (.goto 5, 3) := by decide +kernel
theorem dX11_needOf_83 : decode cX11_needOf 83 = .ok (.iload 4, 2) := by decide +kernel
theorem dX11_needOf_85 : decode cX11_needOf 85 = .ok (.ireturn, 1) := by decide +kernel
set_option maxRecDepth 20000 in
theorem ggX11_need_X11_in : GoodIn wsX11_need wsX11_in := goodIn_r _ [6] (by decide +kernel) (by decide +kernel)
set_option maxRecDepth 20000 in
theorem gX11_need_X11_in : GoodIn wsX11_need (va_wsS RX11 55 yX11_in wsX11_in) := goodIn_app (goodIn_of _ (by decide +kernel)) ggX11_need_X11_in
set_option maxRecDepth 20000 in
theorem ggX11_need_X11_lacks : GoodIn wsX11_need wsX11_lacks := goodIn_r _ [10, 11, 43, 44, 45, 46, 47, 48, 49, 50, 51, 52, 53, 54, 55, 56, 57, 58, 59, 60, 61, 62, 63, 64, 65, 66, 67, 68, 69, 70, 71] (by decide +kernel) (by decide +kernel)
set_option maxRecDepth 20000 in
theorem gX11_need_X11_lacks : GoodIn wsX11_need (wsV RX11 181 RX11 yX11_lacks wsX11_lacks) := goodIn_app (goodIn_of _ (by decide +kernel)) ggX11_need_X11_lacks
set_option maxRecDepth 20000 in
theorem ggX11_need_X11_needOf : GoodIn wsX11_need wsX11_needOf := goodIn_r _ [15, 11, 16, 17, 18, 19, 5, 20, 21, 22, 23, 24, 25, 26, 27, 28, 29, 30, 31, 32, 33, 34, 35, 36, 37, 38, 39, 40, 41, 42, 43, 44, 45, 46, 47, 48, 49, 50, 51, 52, 53, 54, 55, 56, 57, 58, 59, 60, 61, 62, 63, 64, 65, 66, 67, 68, 69, 70, 71] (by decide +kernel) (by decide +kernel)
set_option maxRecDepth 20000 in
theorem gX11_need_X11_needOf : GoodIn wsX11_need (wsV RX11 194 RX11 yX11_needOf wsX11_needOf) := goodIn_app (goodIn_of _ (by decide +kernel)) ggX11_need_X11_needOf
theorem dX11_need_0 : decode cX11_need 0 = .ok (.iload_n 1, 1) := by decide +kernel
theorem dX11_need_1 : decode cX11_need 1 = .ok (.i2l, 1) := by decide +kernel
theorem dX11_need_2 : decode cX11_need 2 = .ok (.lconst 0, 1) := by decide +kernel
theorem dX11_need_3 : decode cX11_need 3 = .ok (.ldc2_w 158, 3) := by decide +kernel
theorem dX11_need_6 : decode cX11_need 6 = .ok (.invokestatic 55, 3) := by decide +kernel
theorem dX11_need_9 : decode cX11_need 9 = .ok (.ifCond .eq 13, 3) := by decide +kernel
theorem dX11_need_12 : decode cX11_need 12 = .ok (.iload_n 2, 1) := by decide +kernel
theorem dX11_need_13 : decode cX11_need 13 = .ok (.i2l, 1) := by decide +kernel
theorem dX11_need_14 : decode cX11_need 14 = .ok (.lconst 0, 1) := by decide +kernel
theorem dX11_need_15 : decode cX11_need 15 = .ok (.lconst 1, 1) := by decide +kernel
theorem dX11_need_16 : decode cX11_need 16 = .ok (.invokestatic 55, 3) := by decide +kernel
theorem dX11_need_19 : decode cX11_need 19 = .ok (.ifCond .ne 6, 3) := by decide +kernel
theorem dX11_need_22 : decode cX11_need 22 = .ok (.bipush (-102), 2) := by decide +kernel
theorem dX11_need_24 : decode cX11_need 24 = .ok (.ireturn, 1) := by decide +kernel
theorem dX11_need_25 : decode cX11_need 25 = .ok (.aload_n 0, 1) := by decide +kernel
theorem dX11_need_26 : decode cX11_need 26 = .ok (.invokevirtual 181, 3) := by decide +kernel
theorem dX11_need_29 : decode cX11_need 29 = .ok (.ifCond .ne 12, 3) := by decide +kernel
theorem dX11_need_32 : decode cX11_need 32 = .ok (.aload_n 0, 1) := by decide +kernel
theorem dX11_need_33 : decode cX11_need 33 = .ok (.getfield 191, 3) := by decide +kernel
theorem dX11_need_36 : decode cX11_need 36 = .ok (.bipush 20, 2) := by decide +kernel
theorem dX11_need_38 : decode cX11_need 38 = .ok (.if_icmp .ne 6, 3) := by decide +kernel
theorem dX11_need_41 : decode cX11_need 41 = .ok (.bipush (-103), 2) := by decide +kernel
theorem dX11_need_43 : decode cX11_need 43 = .ok (.ireturn, 1) := by decide +kernel
theorem dX11_need_44 : decode cX11_need 44 = .ok (.aload_n 0, 1) := by decide +kernel
theorem dX11_need_45 : decode cX11_need 45 = .ok (.dup, 1) := by decide +kernel
theorem dX11_need_46 : decode cX11_need 46 = .ok (.getfield 191, 3) := by decide +kernel
theorem dX11_need_49 : decode cX11_need 49 = .ok (.iconst 1, 1) := by decide +kernel
theorem dX11_need_50 : decode cX11_need 50 = .ok (.iadd, 1) := by decide +kernel
theorem dX11_need_51 : decode cX11_need 51 = .ok (.putfield 191, 3) := by decide +kernel
theorem dX11_need_54 : decode cX11_need 54 = .ok (.aload_n 0, 1) := by decide +kernel
theorem dX11_need_55 : decode cX11_need 55 = .ok (.iload_n 1, 1) := by decide +kernel
theorem dX11_need_56 : decode cX11_need 56 = .ok (.iload_n 2, 1) := by decide +kernel
theorem dX11_need_57 : decode cX11_need 57 = .ok (.invokevirtual 194, 3) := by decide +kernel
theorem dX11_need_60 : decode cX11_need 60 = .ok (.ireturn, 1) := by decide +kernel
set_option maxRecDepth 20000 in
theorem ggX11_isFit_X11_layNumber : GoodIn wsX11_isFit wsX11_layNumber := goodIn_r _ [8, 9, 10, 11, 12, 13, 7, 14, 1, 3, 15, 16, 17, 18, 19, 20, 21, 22, 23, 24, 25, 26, 27, 28, 29, 30, 31, 32, 33, 34, 35, 36, 37, 38, 39, 40, 41, 42, 43, 44, 45, 46, 47, 48, 49, 50, 51] (by decide +kernel) (by decide +kernel)
set_option maxRecDepth 20000 in
theorem gX11_isFit_X11_layNumber : GoodIn wsX11_isFit (wsV RX11 177 RX11 yX11_layNumber wsX11_layNumber) := goodIn_app (goodIn_of _ (by decide +kernel)) ggX11_isFit_X11_layNumber
theorem dX11_isFit_0 : decode cX11_isFit 0 = .ok (.aload_n 0, 1) := by decide +kernel
theorem dX11_isFit_1 : decode cX11_isFit 1 = .ok (.iload_n 1, 1) := by decide +kernel
theorem dX11_isFit_2 : decode cX11_isFit 2 = .ok (.invokevirtual 177, 3) := by decide +kernel
theorem dX11_isFit_5 : decode cX11_isFit 5 = .ok (.iconst 0, 1) := by decide +kernel
theorem dX11_isFit_6 : decode cX11_isFit 6 = .ok (.istore_n 2, 1) := by decide +kernel
theorem dX11_isFit_7 : decode cX11_isFit 7 = .ok (.iload_n 2, 1) := by decide +kernel
theorem dX11_isFit_8 : decode cX11_isFit 8 = .ok (.aload_n 0, 1) := by decide +kernel
theorem dX11_isFit_9 : decode cX11_isFit 9 = .ok (.getfield 103, 3) := by decide +kernel
theorem dX11_isFit_12 : decode cX11_isFit 12 = .ok (.if_icmp .ge 36, 3) := by decide +kernel
theorem dX11_isFit_15 : decode cX11_isFit 15 = .ok (.aload_n 0, 1) := by decide +kernel
theorem dX11_isFit_16 : decode cX11_isFit 16 = .ok (.getfield 22, 3) := by decide +kernel
theorem dX11_isFit_19 : decode cX11_isFit 19 = .ok (.iload_n 2, 1) := by decide +kernel
theorem dX11_isFit_20 : decode cX11_isFit 20 = .ok (.iaload, 1) := by decide +kernel
theorem dX11_isFit_21 : decode cX11_isFit 21 = .ok (.iconst (-1), 1) := by decide +kernel
theorem dX11_isFit_22 : decode cX11_isFit 22 = .ok (.if_icmp .eq 20, 3) := by decide +kernel
theorem dX11_isFit_25 : decode cX11_isFit 25 = .ok (.aload_n 0, 1) := by decide +kernel
theorem dX11_isFit_26 : decode cX11_isFit 26 = .ok (.getfield 22, 3) := by decide +kernel
theorem dX11_isFit_29 : decode cX11_isFit 29 = .ok (.iload_n 2, 1) := by decide +kernel
theorem dX11_isFit_30 : decode cX11_isFit 30 = .ok (.iaload, 1) := by decide +kernel
theorem dX11_isFit_31 : decode cX11_isFit 31 = .ok (.aload_n 0, 1) := by decide +kernel
theorem dX11_isFit_32 : decode cX11_isFit 32 = .ok (.getfield 25, 3) := by decide +kernel
theorem dX11_isFit_35 : decode cX11_isFit 35 = .ok (.iload_n 2, 1) := by decide +kernel
theorem dX11_isFit_36 : decode cX11_isFit 36 = .ok (.iaload, 1) := by decide +kernel
theorem dX11_isFit_37 : decode cX11_isFit 37 = .ok (.if_icmp .eq 5, 3) := by decide +kernel
theorem dX11_isFit_40 : decode cX11_isFit 40 = .ok (.iconst 0, 1) := by decide +kernel
theorem dX11_isFit_41 : decode cX11_isFit 41 = .ok (.ireturn, 1) := by decide +kernel
theorem dX11_isFit_42 : decode cX11_isFit 42 = .ok (.iinc 2 1, 3) := by decide +kernel
theorem dX11_isFit_45 : decode cX11_isFit 45 = .ok (.goto (-38), 3) := by decide +kernel
theorem dX11_isFit_48 : decode cX11_isFit 48 = .ok (.iconst 1, 1) := by decide +kernel
theorem dX11_isFit_49 : decode cX11_isFit 49 = .ok (.ireturn, 1) := by decide +kernel
set_option maxRecDepth 20000 in
theorem ggX11_leftMany_X11_power : GoodIn wsX11_leftMany wsX11_power := goodIn_r _ [5] (by decide +kernel) (by decide +kernel)
set_option maxRecDepth 20000 in
theorem gX11_leftMany_X11_power : GoodIn wsX11_leftMany (va_wsS RX11 170 yX11_power wsX11_power) := goodIn_app (goodIn_of _ (by decide +kernel)) ggX11_leftMany_X11_power
set_option maxRecDepth 20000 in
theorem ggX11_leftMany_X11_isFit : GoodIn wsX11_leftMany wsX11_isFit := goodIn_r _ [9, 10, 11, 12, 13, 14, 15, 4, 16, 1, 17, 18, 19, 20, 21, 22, 23, 24, 25, 26, 27, 28, 29, 30, 31, 32, 33, 34, 35, 36, 37, 38, 39, 40, 41, 42, 43, 44, 45, 46, 47, 48, 49, 50, 51, 52, 53, 54, 55, 56, 57, 58] (by decide +kernel) (by decide +kernel)
set_option maxRecDepth 20000 in
theorem gX11_leftMany_X11_isFit : GoodIn wsX11_leftMany (wsV RX11 197 RX11 yX11_isFit wsX11_isFit) := goodIn_app (goodIn_of _ (by decide +kernel)) ggX11_leftMany_X11_isFit
theorem dX11_leftMany_0 : decode cX11_leftMany 0 = .ok (.iconst 0, 1) := by decide +kernel
theorem dX11_leftMany_1 : decode cX11_leftMany 1 = .ok (.istore_n 1, 1) := by decide +kernel
theorem dX11_leftMany_2 : decode cX11_leftMany 2 = .ok (.iconst 0, 1) := by decide +kernel
theorem dX11_leftMany_3 : decode cX11_leftMany 3 = .ok (.istore_n 2, 1) := by decide +kernel
theorem dX11_leftMany_4 : decode cX11_leftMany 4 = .ok (.iload_n 2, 1) := by decide +kernel
theorem dX11_leftMany_5 : decode cX11_leftMany 5 = .ok (.bipush 10, 2) := by decide +kernel
theorem dX11_leftMany_7 : decode cX11_leftMany 7 = .ok (.aload_n 0, 1) := by decide +kernel
theorem dX11_leftMany_8 : decode cX11_leftMany 8 = .ok (.getfield 97, 3) := by decide +kernel
theorem dX11_leftMany_11 : decode cX11_leftMany 11 = .ok (.invokestatic 170, 3) := by decide +kernel
theorem dX11_leftMany_14 : decode cX11_leftMany 14 = .ok (.if_icmp .ge 25, 3) := by decide +kernel
theorem dX11_leftMany_17 : decode cX11_leftMany 17 = .ok (.iload_n 1, 1) := by decide +kernel
theorem dX11_leftMany_18 : decode cX11_leftMany 18 = .ok (.aload_n 0, 1) := by decide +kernel
theorem dX11_leftMany_19 : decode cX11_leftMany 19 = .ok (.iload_n 2, 1) := by decide +kernel
theorem dX11_leftMany_20 : decode cX11_leftMany 20 = .ok (.invokevirtual 197, 3) := by decide +kernel
theorem dX11_leftMany_23 : decode cX11_leftMany 23 = .ok (.ifCond .eq 7, 3) := by decide +kernel
theorem dX11_leftMany_26 : decode cX11_leftMany 26 = .ok (.iconst 1, 1) := by decide +kernel
theorem dX11_leftMany_27 : decode cX11_leftMany 27 = .ok (.goto 4, 3) := by decide +kernel
theorem dX11_leftMany_30 : decode cX11_leftMany 30 = .ok (.iconst 0, 1) := by decide +kernel
theorem dX11_leftMany_31 : decode cX11_leftMany 31 = .ok (.iadd, 1) := by decide +kernel
theorem dX11_leftMany_32 : decode cX11_leftMany 32 = .ok (.istore_n 1, 1) := by decide +kernel
theorem dX11_leftMany_33 : decode cX11_leftMany 33 = .ok (.iinc 2 1, 3) := by decide +kernel
theorem dX11_leftMany_36 : decode cX11_leftMany 36 = .ok (.goto (-32), 3) := by decide +kernel
theorem dX11_leftMany_39 : decode cX11_leftMany 39 = .ok (.iload_n 1, 1) := by decide +kernel
theorem dX11_leftMany_40 : decode cX11_leftMany 40 = .ok (.ireturn, 1) := by decide +kernel
set_option maxRecDepth 20000 in
theorem ggX11_left_X11_lacks : GoodIn wsX11_left wsX11_lacks := goodIn_r _ [5, 6, 38, 39, 40, 41, 42, 43, 44, 45, 46, 47, 48, 49, 50, 51, 52, 53, 54, 55, 56, 57, 58, 59, 60, 61, 62, 63, 64, 65, 66] (by decide +kernel) (by decide +kernel)
set_option maxRecDepth 20000 in
theorem gX11_left_X11_lacks : GoodIn wsX11_left (wsV RX11 181 RX11 yX11_lacks wsX11_lacks) := goodIn_app (goodIn_of _ (by decide +kernel)) ggX11_left_X11_lacks
set_option maxRecDepth 20000 in
theorem ggX11_left_X11_leftMany : GoodIn wsX11_left wsX11_leftMany := goodIn_r _ [10, 6, 11, 12, 4, 13, 14, 15, 16, 17, 18, 19, 20, 21, 22, 23, 24, 25, 26, 27, 28, 29, 30, 31, 32, 33, 34, 35, 36, 37, 38, 39, 40, 41, 42, 43, 44, 45, 46, 47, 48, 49, 50, 51, 52, 53, 54, 55, 56, 57, 58, 59, 60, 61, 62, 63, 64, 65, 66] (by decide +kernel) (by decide +kernel)
set_option maxRecDepth 20000 in
theorem gX11_left_X11_leftMany : GoodIn wsX11_left (wsV RX11 160 RX11 yX11_leftMany wsX11_leftMany) := goodIn_app (goodIn_of _ (by decide +kernel)) ggX11_left_X11_leftMany
theorem dX11_left_0 : decode cX11_left 0 = .ok (.aload_n 0, 1) := by decide +kernel
theorem dX11_left_1 : decode cX11_left 1 = .ok (.invokevirtual 181, 3) := by decide +kernel
theorem dX11_left_4 : decode cX11_left 4 = .ok (.ifCond .eq 8, 3) := by decide +kernel
theorem dX11_left_7 : decode cX11_left 7 = .ok (.bipush (-103), 2) := by decide +kernel
theorem dX11_left_9 : decode cX11_left 9 = .ok (.goto 7, 3) := by decide +kernel
theorem dX11_left_12 : decode cX11_left 12 = .ok (.aload_n 0, 1) := by decide +kernel
theorem dX11_left_13 : decode cX11_left 13 = .ok (.invokevirtual 160, 3) := by decide +kernel
theorem dX11_left_16 : decode cX11_left 16 = .ok (.ireturn, 1) := by decide +kernel
set_option maxRecDepth 20000 in
theorem ggX11_fitsOf_X11_power : GoodIn wsX11_fitsOf wsX11_power := goodIn_r _ [5] (by decide +kernel) (by decide +kernel)
set_option maxRecDepth 20000 in
theorem gX11_fitsOf_X11_power : GoodIn wsX11_fitsOf (va_wsS RX11 170 yX11_power wsX11_power) := goodIn_app (goodIn_of _ (by decide +kernel)) ggX11_fitsOf_X11_power
set_option maxRecDepth 20000 in
theorem ggX11_fitsOf_X11_isFit : GoodIn wsX11_fitsOf wsX11_isFit := goodIn_r _ [9, 10, 11, 12, 13, 14, 15, 4, 16, 1, 17, 18, 19, 20, 21, 22, 23, 24, 25, 26, 27, 28, 29, 30, 31, 32, 33, 34, 35, 36, 37, 38, 39, 40, 41, 42, 43, 44, 45, 46, 47, 48, 49, 50, 51, 52, 53, 54, 55, 56, 57, 58] (by decide +kernel) (by decide +kernel)
set_option maxRecDepth 20000 in
theorem gX11_fitsOf_X11_isFit : GoodIn wsX11_fitsOf (wsV RX11 197 RX11 yX11_isFit wsX11_isFit) := goodIn_app (goodIn_of _ (by decide +kernel)) ggX11_fitsOf_X11_isFit
theorem dX11_fitsOf_0 : decode cX11_fitsOf 0 = .ok (.iload_n 1, 1) := by decide +kernel
theorem dX11_fitsOf_1 : decode cX11_fitsOf 1 = .ok (.istore_n 2, 1) := by decide +kernel
theorem dX11_fitsOf_2 : decode cX11_fitsOf 2 = .ok (.iconst 0, 1) := by decide +kernel
theorem dX11_fitsOf_3 : decode cX11_fitsOf 3 = .ok (.istore_n 3, 1) := by decide +kernel
theorem dX11_fitsOf_4 : decode cX11_fitsOf 4 = .ok (.iload_n 3, 1) := by decide +kernel
theorem dX11_fitsOf_5 : decode cX11_fitsOf 5 = .ok (.bipush 10, 2) := by decide +kernel
theorem dX11_fitsOf_7 : decode cX11_fitsOf 7 = .ok (.aload_n 0, 1) := by decide +kernel
theorem dX11_fitsOf_8 : decode cX11_fitsOf 8 = .ok (.getfield 97, 3) := by decide +kernel
theorem dX11_fitsOf_11 : decode cX11_fitsOf 11 = .ok (.invokestatic 170, 3) := by decide +kernel
theorem dX11_fitsOf_14 : decode cX11_fitsOf 14 = .ok (.if_icmp .ge 26, 3) := by decide +kernel
theorem dX11_fitsOf_17 : decode cX11_fitsOf 17 = .ok (.aload_n 0, 1) := by decide +kernel
theorem dX11_fitsOf_18 : decode cX11_fitsOf 18 = .ok (.iload_n 3, 1) := by decide +kernel
theorem dX11_fitsOf_19 : decode cX11_fitsOf 19 = .ok (.invokevirtual 197, 3) := by decide +kernel
theorem dX11_fitsOf_22 : decode cX11_fitsOf 22 = .ok (.ifCond .eq 12, 3) := by decide +kernel
theorem dX11_fitsOf_25 : decode cX11_fitsOf 25 = .ok (.iload_n 2, 1) := by decide +kernel
theorem dX11_fitsOf_26 : decode cX11_fitsOf 26 = .ok (.ifCond .ne 5, 3) := by decide +kernel
theorem dX11_fitsOf_29 : decode cX11_fitsOf 29 = .ok (.iload_n 3, 1) := by decide +kernel
theorem dX11_fitsOf_30 : decode cX11_fitsOf 30 = .ok (.ireturn, 1) := by decide +kernel
theorem dX11_fitsOf_31 : decode cX11_fitsOf 31 = .ok (.iinc 2 (-1), 3) := by decide +kernel
theorem dX11_fitsOf_34 : decode cX11_fitsOf 34 = .ok (.iinc 3 1, 3) := by decide +kernel
theorem dX11_fitsOf_37 : decode cX11_fitsOf 37 = .ok (.goto (-33), 3) := by decide +kernel
theorem dX11_fitsOf_40 : decode cX11_fitsOf 40 = .ok (.iconst (-1), 1) := by decide +kernel
theorem dX11_fitsOf_41 : decode cX11_fitsOf 41 = .ok (.ireturn, 1) := by decide +kernel
set_option maxRecDepth 20000 in
theorem ggX11_fits_X11_lacks : GoodIn wsX11_fits wsX11_lacks := goodIn_r _ [5, 6, 38, 39, 40, 41, 42, 43, 44, 45, 46, 47, 48, 49, 50, 51, 52, 53, 54, 55, 56, 57, 58, 59, 60, 61, 62, 63, 64, 65, 66] (by decide +kernel) (by decide +kernel)
set_option maxRecDepth 20000 in
theorem gX11_fits_X11_lacks : GoodIn wsX11_fits (wsV RX11 181 RX11 yX11_lacks wsX11_lacks) := goodIn_app (goodIn_of _ (by decide +kernel)) ggX11_fits_X11_lacks
set_option maxRecDepth 20000 in
theorem ggX11_fits_X11_fitsOf : GoodIn wsX11_fits wsX11_fitsOf := goodIn_r _ [10, 6, 11, 12, 4, 13, 14, 15, 16, 17, 18, 19, 20, 21, 22, 23, 24, 25, 26, 27, 28, 29, 30, 31, 32, 33, 34, 35, 36, 37, 38, 39, 40, 41, 42, 43, 44, 45, 46, 47, 48, 49, 50, 51, 52, 53, 54, 55, 56, 57, 58, 59, 60, 61, 62, 63, 64, 65, 66] (by decide +kernel) (by decide +kernel)
set_option maxRecDepth 20000 in
theorem gX11_fits_X11_fitsOf : GoodIn wsX11_fits (wsV RX11 200 RX11 yX11_fitsOf wsX11_fitsOf) := goodIn_app (goodIn_of _ (by decide +kernel)) ggX11_fits_X11_fitsOf
theorem dX11_fits_0 : decode cX11_fits 0 = .ok (.iload_n 1, 1) := by decide +kernel
theorem dX11_fits_1 : decode cX11_fits 1 = .ok (.ifCond .ge 6, 3) := by decide +kernel
theorem dX11_fits_4 : decode cX11_fits 4 = .ok (.bipush (-102), 2) := by decide +kernel
theorem dX11_fits_6 : decode cX11_fits 6 = .ok (.ireturn, 1) := by decide +kernel
theorem dX11_fits_7 : decode cX11_fits 7 = .ok (.aload_n 0, 1) := by decide +kernel
theorem dX11_fits_8 : decode cX11_fits 8 = .ok (.invokevirtual 181, 3) := by decide +kernel
theorem dX11_fits_11 : decode cX11_fits 11 = .ok (.ifCond .eq 8, 3) := by decide +kernel
theorem dX11_fits_14 : decode cX11_fits 14 = .ok (.bipush (-103), 2) := by decide +kernel
theorem dX11_fits_16 : decode cX11_fits 16 = .ok (.goto 8, 3) := by decide +kernel
theorem dX11_fits_19 : decode cX11_fits 19 = .ok (.aload_n 0, 1) := by decide +kernel
theorem dX11_fits_20 : decode cX11_fits 20 = .ok (.iload_n 1, 1) := by decide +kernel
theorem dX11_fits_21 : decode cX11_fits 21 = .ok (.invokevirtual 200, 3) := by decide +kernel
theorem dX11_fits_24 : decode cX11_fits 24 = .ok (.ireturn, 1) := by decide +kernel
set_option maxRecDepth 20000 in
theorem ggX11_worstOf_X11_power : GoodIn wsX11_worstOf wsX11_power := goodIn_r _ [7] (by decide +kernel) (by decide +kernel)
set_option maxRecDepth 20000 in
theorem gX11_worstOf_X11_power : GoodIn wsX11_worstOf (va_wsS RX11 170 yX11_power wsX11_power) := goodIn_app (goodIn_of _ (by decide +kernel)) ggX11_worstOf_X11_power
set_option maxRecDepth 20000 in
theorem ggX11_worstOf_X11_isFit : GoodIn wsX11_worstOf wsX11_isFit := goodIn_r _ [11, 12, 13, 3, 14, 15, 16, 6, 17, 2, 18, 19, 20, 21, 22, 23, 24, 25, 26, 27, 28, 29, 30, 31, 32, 33, 34, 35, 36, 37, 38, 39, 40, 41, 42, 43, 44, 45, 46, 47, 48, 49, 50, 51, 52, 53, 54, 55, 56, 57, 58, 59] (by decide +kernel) (by decide +kernel)
set_option maxRecDepth 20000 in
theorem gX11_worstOf_X11_isFit : GoodIn wsX11_worstOf (wsV RX11 197 RX11 yX11_isFit wsX11_isFit) := goodIn_app (goodIn_of _ (by decide +kernel)) ggX11_worstOf_X11_isFit
theorem dX11_worstOf_0 : decode cX11_worstOf 0 = .ok (.iconst 0, 1) := by decide +kernel
theorem dX11_worstOf_1 : decode cX11_worstOf 1 = .ok (.istore_n 2, 1) := by decide +kernel
theorem dX11_worstOf_2 : decode cX11_worstOf 2 = .ok (.iload_n 2, 1) := by decide +kernel
theorem dX11_worstOf_3 : decode cX11_worstOf 3 = .ok (.sipush 1000, 3) := by decide +kernel
theorem dX11_worstOf_6 : decode cX11_worstOf 6 = .ok (.if_icmp .ge 16, 3) := by decide +kernel
theorem dX11_worstOf_9 : decode cX11_worstOf 9 = .ok (.aload_n 0, 1) := by decide +kernel
theorem dX11_worstOf_10 : decode cX11_worstOf 10 = .ok (.getfield 31, 3) := by decide +kernel
theorem dX11_worstOf_13 : decode cX11_worstOf 13 = .ok (.iload_n 2, 1) := by decide +kernel
theorem dX11_worstOf_14 : decode cX11_worstOf 14 = .ok (.iconst 0, 1) := by decide +kernel
theorem dX11_worstOf_15 : decode cX11_worstOf 15 = .ok (.iastore, 1) := by decide +kernel
theorem dX11_worstOf_16 : decode cX11_worstOf 16 = .ok (.iinc 2 1, 3) := by decide +kernel
theorem dX11_worstOf_19 : decode cX11_worstOf 19 = .ok (.goto (-17), 3) := by decide +kernel
theorem dX11_worstOf_22 : decode cX11_worstOf 22 = .ok (.iconst 0, 1) := by decide +kernel
theorem dX11_worstOf_23 : decode cX11_worstOf 23 = .ok (.istore_n 2, 1) := by decide +kernel
theorem dX11_worstOf_24 : decode cX11_worstOf 24 = .ok (.iconst 0, 1) := by decide +kernel
theorem dX11_worstOf_25 : decode cX11_worstOf 25 = .ok (.istore_n 3, 1) := by decide +kernel
theorem dX11_worstOf_26 : decode cX11_worstOf 26 = .ok (.iload_n 3, 1) := by decide +kernel
theorem dX11_worstOf_27 : decode cX11_worstOf 27 = .ok (.bipush 10, 2) := by decide +kernel
theorem dX11_worstOf_29 : decode cX11_worstOf 29 = .ok (.aload_n 0, 1) := by decide +kernel
theorem dX11_worstOf_30 : decode cX11_worstOf 30 = .ok (.getfield 97, 3) := by decide +kernel
theorem dX11_worstOf_33 : decode cX11_worstOf 33 = .ok (.invokestatic 170, 3) := by decide +kernel
theorem dX11_worstOf_36 : decode cX11_worstOf 36 = .ok (.if_icmp .ge 63, 3) := by decide +kernel
theorem dX11_worstOf_39 : decode cX11_worstOf 39 = .ok (.aload_n 0, 1) := by decide +kernel
theorem dX11_worstOf_40 : decode cX11_worstOf 40 = .ok (.iload_n 3, 1) := by decide +kernel
theorem dX11_worstOf_41 : decode cX11_worstOf 41 = .ok (.invokevirtual 197, 3) := by decide +kernel
theorem dX11_worstOf_44 : decode cX11_worstOf 44 = .ok (.ifCond .eq 49, 3) := by decide +kernel
theorem dX11_worstOf_47 : decode cX11_worstOf 47 = .ok (.aload_n 0, 1) := by decide +kernel
theorem dX11_worstOf_48 : decode cX11_worstOf 48 = .ok (.getfield 31, 3) := by decide +kernel
theorem dX11_worstOf_51 : decode cX11_worstOf 51 = .ok (.aload_n 0, 1) := by decide +kernel
theorem dX11_worstOf_52 : decode cX11_worstOf 52 = .ok (.getfield 25, 3) := by decide +kernel
theorem dX11_worstOf_55 : decode cX11_worstOf 55 = .ok (.iload_n 1, 1) := by decide +kernel
theorem dX11_worstOf_56 : decode cX11_worstOf 56 = .ok (.iaload, 1) := by decide +kernel
theorem dX11_worstOf_57 : decode cX11_worstOf 57 = .ok (.dup2, 1) := by decide +kernel
theorem dX11_worstOf_58 : decode cX11_worstOf 58 = .ok (.iaload, 1) := by decide +kernel
theorem dX11_worstOf_59 : decode cX11_worstOf 59 = .ok (.iconst 1, 1) := by decide +kernel
theorem dX11_worstOf_60 : decode cX11_worstOf 60 = .ok (.iadd, 1) := by decide +kernel
theorem dX11_worstOf_61 : decode cX11_worstOf 61 = .ok (.iastore, 1) := by decide +kernel
theorem dX11_worstOf_62 : decode cX11_worstOf 62 = .ok (.aload_n 0, 1) := by decide +kernel
theorem dX11_worstOf_63 : decode cX11_worstOf 63 = .ok (.getfield 31, 3) := by decide +kernel
theorem dX11_worstOf_66 : decode cX11_worstOf 66 = .ok (.aload_n 0, 1) := by decide +kernel
theorem dX11_worstOf_67 : decode cX11_worstOf 67 = .ok (.getfield 25, 3) := by decide +kernel
theorem dX11_worstOf_70 : decode cX11_worstOf 70 = .ok (.iload_n 1, 1) := by decide +kernel
theorem dX11_worstOf_71 : decode cX11_worstOf 71 = .ok (.iaload, 1) := by decide +kernel
theorem dX11_worstOf_72 : decode cX11_worstOf 72 = .ok (.iaload, 1) := by decide +kernel
theorem dX11_worstOf_73 : decode cX11_worstOf 73 = .ok (.iload_n 2, 1) := by decide +kernel
theorem dX11_worstOf_74 : decode cX11_worstOf 74 = .ok (.if_icmp .le 17, 3) := by decide +kernel
theorem dX11_worstOf_77 : decode cX11_worstOf 77 = .ok (.aload_n 0, 1) := by decide +kernel
theorem dX11_worstOf_78 : decode cX11_worstOf 78 = .ok (.getfield 31, 3) := by decide +kernel
theorem dX11_worstOf_81 : decode cX11_worstOf 81 = .ok (.aload_n 0, 1) := by decide +kernel
theorem dX11_worstOf_82 : decode cX11_worstOf 82 = .ok (.getfield 25, 3) := by decide +kernel
theorem dX11_worstOf_85 : decode cX11_worstOf 85 = .ok (.iload_n 1, 1) := by decide +kernel
theorem dX11_worstOf_86 : decode cX11_worstOf 86 = .ok (.iaload, 1) := by decide +kernel
theorem dX11_worstOf_87 : decode cX11_worstOf 87 = .ok (.iaload, 1) := by decide +kernel
theorem dX11_worstOf_88 : decode cX11_worstOf 88 = .ok (.goto 4, 3) := by decide +kernel
theorem dX11_worstOf_91 : decode cX11_worstOf 91 = .ok (.iload_n 2, 1) := by decide +kernel
theorem dX11_worstOf_92 : decode cX11_worstOf 92 = .ok (.istore_n 2, 1) := by decide +kernel
theorem dX11_worstOf_93 : decode cX11_worstOf 93 = .ok (.iinc 3 1, 3) := by decide +kernel
theorem dX11_worstOf_96 : decode cX11_worstOf 96 = .ok (.goto (-70), 3) := by decide +kernel
theorem dX11_worstOf_99 : decode cX11_worstOf 99 = .ok (.iload_n 2, 1) := by decide +kernel
theorem dX11_worstOf_100 : decode cX11_worstOf 100 = .ok (.ireturn, 1) := by decide +kernel
set_option maxRecDepth 20000 in
theorem ggX11_lookOf_X11_worstOf : GoodIn wsX11_lookOf wsX11_worstOf := goodIn_r _ [8, 9, 10, 11, 12, 13, 7, 14, 15, 16, 17, 18, 2, 3, 19, 20, 21, 22, 23, 24, 25, 26, 27, 28, 29, 30, 31, 32, 33, 34, 35, 36, 37, 38, 39, 40, 41, 42, 43, 44, 45, 46, 47, 48, 49, 50, 51, 52, 53, 54, 55, 56, 57, 58, 59, 60, 61, 62, 63, 64] (by decide +kernel) (by decide +kernel)
set_option maxRecDepth 20000 in
theorem gX11_lookOf_X11_worstOf : GoodIn wsX11_lookOf (wsV RX11 204 RX11 yX11_worstOf wsX11_worstOf) := goodIn_app (goodIn_of _ (by decide +kernel)) ggX11_lookOf_X11_worstOf
theorem dX11_lookOf_0 : decode cX11_lookOf 0 = .ok (.iconst (-1), 1) := by decide +kernel
theorem dX11_lookOf_1 : decode cX11_lookOf 1 = .ok (.istore_n 1, 1) := by decide +kernel
theorem dX11_lookOf_2 : decode cX11_lookOf 2 = .ok (.ldc 203, 2) := by decide +kernel
theorem dX11_lookOf_4 : decode cX11_lookOf 4 = .ok (.istore_n 2, 1) := by decide +kernel
theorem dX11_lookOf_5 : decode cX11_lookOf 5 = .ok (.iconst 0, 1) := by decide +kernel
theorem dX11_lookOf_6 : decode cX11_lookOf 6 = .ok (.istore_n 3, 1) := by decide +kernel
theorem dX11_lookOf_7 : decode cX11_lookOf 7 = .ok (.iload_n 3, 1) := by decide +kernel
theorem dX11_lookOf_8 : decode cX11_lookOf 8 = .ok (.aload_n 0, 1) := by decide +kernel
theorem dX11_lookOf_9 : decode cX11_lookOf 9 = .ok (.getfield 103, 3) := by decide +kernel
theorem dX11_lookOf_12 : decode cX11_lookOf 12 = .ok (.if_icmp .ge 46, 3) := by decide +kernel
theorem dX11_lookOf_15 : decode cX11_lookOf 15 = .ok (.aload_n 0, 1) := by decide +kernel
theorem dX11_lookOf_16 : decode cX11_lookOf 16 = .ok (.getfield 22, 3) := by decide +kernel
theorem dX11_lookOf_19 : decode cX11_lookOf 19 = .ok (.iload_n 3, 1) := by decide +kernel
theorem dX11_lookOf_20 : decode cX11_lookOf 20 = .ok (.iaload, 1) := by decide +kernel
theorem dX11_lookOf_21 : decode cX11_lookOf 21 = .ok (.iconst (-1), 1) := by decide +kernel
theorem dX11_lookOf_22 : decode cX11_lookOf 22 = .ok (.if_icmp .ne 11, 3) := by decide +kernel
theorem dX11_lookOf_25 : decode cX11_lookOf 25 = .ok (.aload_n 0, 1) := by decide +kernel
theorem dX11_lookOf_26 : decode cX11_lookOf 26 = .ok (.iload_n 3, 1) := by decide +kernel
theorem dX11_lookOf_27 : decode cX11_lookOf 27 = .ok (.invokevirtual 204, 3) := by decide +kernel
theorem dX11_lookOf_30 : decode cX11_lookOf 30 = .ok (.goto 4, 3) := by decide +kernel
theorem dX11_lookOf_33 : decode cX11_lookOf 33 = .ok (.iconst 0, 1) := by decide +kernel
theorem dX11_lookOf_34 : decode cX11_lookOf 34 = .ok (.istore 4, 2) := by decide +kernel
theorem dX11_lookOf_36 : decode cX11_lookOf 36 = .ok (.iload 4, 2) := by decide +kernel
theorem dX11_lookOf_38 : decode cX11_lookOf 38 = .ok (.ifCond .le 14, 3) := by decide +kernel
theorem dX11_lookOf_41 : decode cX11_lookOf 41 = .ok (.iload 4, 2) := by decide +kernel
theorem dX11_lookOf_43 : decode cX11_lookOf 43 = .ok (.iload_n 2, 1) := by decide +kernel
theorem dX11_lookOf_44 : decode cX11_lookOf 44 = .ok (.if_icmp .ge 8, 3) := by decide +kernel
theorem dX11_lookOf_47 : decode cX11_lookOf 47 = .ok (.iload_n 3, 1) := by decide +kernel
theorem dX11_lookOf_48 : decode cX11_lookOf 48 = .ok (.istore_n 1, 1) := by decide +kernel
theorem dX11_lookOf_49 : decode cX11_lookOf 49 = .ok (.iload 4, 2) := by decide +kernel
theorem dX11_lookOf_51 : decode cX11_lookOf 51 = .ok (.istore_n 2, 1) := by decide +kernel
theorem dX11_lookOf_52 : decode cX11_lookOf 52 = .ok (.iinc 3 1, 3) := by decide +kernel
theorem dX11_lookOf_55 : decode cX11_lookOf 55 = .ok (.goto (-48), 3) := by decide +kernel
theorem dX11_lookOf_58 : decode cX11_lookOf 58 = .ok (.iload_n 1, 1) := by decide +kernel
theorem dX11_lookOf_59 : decode cX11_lookOf 59 = .ok (.ireturn, 1) := by decide +kernel
set_option maxRecDepth 20000 in
theorem ggX11_look_X11_lacks : GoodIn wsX11_look wsX11_lacks := goodIn_r _ [6, 7, 45, 46, 47, 48, 49, 50, 51, 52, 53, 54, 55, 56, 57, 58, 59, 60, 61, 62, 63, 64, 65, 66, 67, 68, 69, 70, 71, 72, 73] (by decide +kernel) (by decide +kernel)
set_option maxRecDepth 20000 in
theorem gX11_look_X11_lacks : GoodIn wsX11_look (wsV RX11 181 RX11 yX11_lacks wsX11_lacks) := goodIn_app (goodIn_of _ (by decide +kernel)) ggX11_look_X11_lacks
set_option maxRecDepth 20000 in
theorem ggX11_look_X11_lookOf : GoodIn wsX11_look wsX11_lookOf := goodIn_r _ [11, 12, 13, 14, 15, 16, 17, 5, 18, 19, 7, 20, 21, 22, 23, 24, 25, 26, 27, 28, 29, 30, 31, 32, 33, 34, 35, 36, 37, 38, 39, 40, 41, 42, 43, 44, 45, 46, 47, 48, 49, 50, 51, 52, 53, 54, 55, 56, 57, 58, 59, 60, 61, 62, 63, 64, 65, 66, 67, 68, 69, 70, 71, 72, 73] (by decide +kernel) (by decide +kernel)
set_option maxRecDepth 20000 in
theorem gX11_look_X11_lookOf : GoodIn wsX11_look (wsV RX11 210 RX11 yX11_lookOf wsX11_lookOf) := goodIn_app (goodIn_of _ (by decide +kernel)) ggX11_look_X11_lookOf
theorem dX11_look_0 : decode cX11_look 0 = .ok (.aload_n 0, 1) := by decide +kernel
theorem dX11_look_1 : decode cX11_look 1 = .ok (.invokevirtual 181, 3) := by decide +kernel
theorem dX11_look_4 : decode cX11_look 4 = .ok (.ifCond .ne 12, 3) := by decide +kernel
theorem dX11_look_7 : decode cX11_look 7 = .ok (.aload_n 0, 1) := by decide +kernel
theorem dX11_look_8 : decode cX11_look 8 = .ok (.getfield 207, 3) := by decide +kernel
theorem dX11_look_11 : decode cX11_look 11 = .ok (.bipush 20, 2) := by decide +kernel
theorem dX11_look_13 : decode cX11_look 13 = .ok (.if_icmp .ne 6, 3) := by decide +kernel
theorem dX11_look_16 : decode cX11_look 16 = .ok (.bipush (-103), 2) := by decide +kernel
theorem dX11_look_18 : decode cX11_look 18 = .ok (.ireturn, 1) := by decide +kernel
theorem dX11_look_19 : decode cX11_look 19 = .ok (.aload_n 0, 1) := by decide +kernel
theorem dX11_look_20 : decode cX11_look 20 = .ok (.dup, 1) := by decide +kernel
theorem dX11_look_21 : decode cX11_look 21 = .ok (.getfield 207, 3) := by decide +kernel
theorem dX11_look_24 : decode cX11_look 24 = .ok (.iconst 1, 1) := by decide +kernel
theorem dX11_look_25 : decode cX11_look 25 = .ok (.iadd, 1) := by decide +kernel
theorem dX11_look_26 : decode cX11_look 26 = .ok (.putfield 207, 3) := by decide +kernel
theorem dX11_look_29 : decode cX11_look 29 = .ok (.aload_n 0, 1) := by decide +kernel
theorem dX11_look_30 : decode cX11_look 30 = .ok (.invokevirtual 210, 3) := by decide +kernel
theorem dX11_look_33 : decode cX11_look 33 = .ok (.ireturn, 1) := by decide +kernel
set_option maxRecDepth 20000 in
theorem ggX11_oddsOf_X11_power : GoodIn wsX11_oddsOf wsX11_power := goodIn_r _ [6] (by decide +kernel) (by decide +kernel)
set_option maxRecDepth 20000 in
theorem gX11_oddsOf_X11_power : GoodIn wsX11_oddsOf (va_wsS RX11 170 yX11_power wsX11_power) := goodIn_app (goodIn_of _ (by decide +kernel)) ggX11_oddsOf_X11_power
set_option maxRecDepth 20000 in
theorem ggX11_oddsOf_X11_isFit : GoodIn wsX11_oddsOf wsX11_isFit := goodIn_r _ [10, 11, 12, 2, 13, 14, 15, 5, 16, 1, 17, 18, 19, 20, 21, 22, 23, 24, 25, 26, 27, 28, 29, 30, 31, 32, 33, 34, 35, 36, 37, 38, 39, 40, 41, 42, 43, 44, 45, 46, 47, 48, 49, 50, 51, 52, 53, 54, 55, 56, 57, 58] (by decide +kernel) (by decide +kernel)
set_option maxRecDepth 20000 in
theorem gX11_oddsOf_X11_isFit : GoodIn wsX11_oddsOf (wsV RX11 197 RX11 yX11_isFit wsX11_isFit) := goodIn_app (goodIn_of _ (by decide +kernel)) ggX11_oddsOf_X11_isFit
theorem dX11_oddsOf_0 : decode cX11_oddsOf 0 = .ok (.iconst 0, 1) := by decide +kernel
theorem dX11_oddsOf_1 : decode cX11_oddsOf 1 = .ok (.istore 4, 2) := by decide +kernel
theorem dX11_oddsOf_3 : decode cX11_oddsOf 3 = .ok (.iconst 0, 1) := by decide +kernel
theorem dX11_oddsOf_4 : decode cX11_oddsOf 4 = .ok (.istore 5, 2) := by decide +kernel
theorem dX11_oddsOf_6 : decode cX11_oddsOf 6 = .ok (.iconst 0, 1) := by decide +kernel
theorem dX11_oddsOf_7 : decode cX11_oddsOf 7 = .ok (.istore 6, 2) := by decide +kernel
theorem dX11_oddsOf_9 : decode cX11_oddsOf 9 = .ok (.iload 6, 2) := by decide +kernel
theorem dX11_oddsOf_11 : decode cX11_oddsOf 11 = .ok (.bipush 10, 2) := by decide +kernel
theorem dX11_oddsOf_13 : decode cX11_oddsOf 13 = .ok (.aload_n 0, 1) := by decide +kernel
theorem dX11_oddsOf_14 : decode cX11_oddsOf 14 = .ok (.getfield 97, 3) := by decide +kernel
theorem dX11_oddsOf_17 : decode cX11_oddsOf 17 = .ok (.invokestatic 170, 3) := by decide +kernel
theorem dX11_oddsOf_20 : decode cX11_oddsOf 20 = .ok (.if_icmp .ge 41, 3) := by decide +kernel
theorem dX11_oddsOf_23 : decode cX11_oddsOf 23 = .ok (.aload_n 0, 1) := by decide +kernel
theorem dX11_oddsOf_24 : decode cX11_oddsOf 24 = .ok (.iload 6, 2) := by decide +kernel
theorem dX11_oddsOf_26 : decode cX11_oddsOf 26 = .ok (.invokevirtual 197, 3) := by decide +kernel
theorem dX11_oddsOf_29 : decode cX11_oddsOf 29 = .ok (.ifCond .eq 26, 3) := by decide +kernel
theorem dX11_oddsOf_32 : decode cX11_oddsOf 32 = .ok (.iinc 4 1, 3) := by decide +kernel
theorem dX11_oddsOf_35 : decode cX11_oddsOf 35 = .ok (.iload 5, 2) := by decide +kernel
theorem dX11_oddsOf_37 : decode cX11_oddsOf 37 = .ok (.aload_n 0, 1) := by decide +kernel
theorem dX11_oddsOf_38 : decode cX11_oddsOf 38 = .ok (.getfield 25, 3) := by decide +kernel
theorem dX11_oddsOf_41 : decode cX11_oddsOf 41 = .ok (.iload_n 1, 1) := by decide +kernel
theorem dX11_oddsOf_42 : decode cX11_oddsOf 42 = .ok (.iaload, 1) := by decide +kernel
theorem dX11_oddsOf_43 : decode cX11_oddsOf 43 = .ok (.iload_n 2, 1) := by decide +kernel
theorem dX11_oddsOf_44 : decode cX11_oddsOf 44 = .ok (.if_icmp .ne 7, 3) := by decide +kernel
theorem dX11_oddsOf_47 : decode cX11_oddsOf 47 = .ok (.iconst 1, 1) := by decide +kernel
theorem dX11_oddsOf_48 : decode cX11_oddsOf 48 = .ok (.goto 4, 3) := by decide +kernel
theorem dX11_oddsOf_51 : decode cX11_oddsOf 51 = .ok (.iconst 0, 1) := by decide +kernel
theorem dX11_oddsOf_52 : decode cX11_oddsOf 52 = .ok (.iadd, 1) := by decide +kernel
theorem dX11_oddsOf_53 : decode cX11_oddsOf 53 = .ok (.istore 5, 2) := by decide +kernel
theorem dX11_oddsOf_55 : decode cX11_oddsOf 55 = .ok (.iinc 6 1, 3) := by decide +kernel
theorem dX11_oddsOf_58 : decode cX11_oddsOf 58 = .ok (.goto (-49), 3) := by decide +kernel
theorem dX11_oddsOf_61 : decode cX11_oddsOf 61 = .ok (.iload 4, 2) := by decide +kernel
theorem dX11_oddsOf_63 : decode cX11_oddsOf 63 = .ok (.istore 6, 2) := by decide +kernel
theorem dX11_oddsOf_65 : decode cX11_oddsOf 65 = .ok (.iload 5, 2) := by decide +kernel
theorem dX11_oddsOf_67 : decode cX11_oddsOf 67 = .ok (.istore 7, 2) := by decide +kernel
theorem dX11_oddsOf_69 : decode cX11_oddsOf 69 = .ok (.iload 7, 2) := by decide +kernel
theorem dX11_oddsOf_71 : decode cX11_oddsOf 71 = .ok (.ifCond .le 21, 3) := by decide +kernel
theorem dX11_oddsOf_74 : decode cX11_oddsOf 74 = .ok (.iload 6, 2) := by decide +kernel
theorem dX11_oddsOf_76 : decode cX11_oddsOf 76 = .ok (.iload 7, 2) := by decide +kernel
theorem dX11_oddsOf_78 : decode cX11_oddsOf 78 = .ok (.irem, 1) := by decide +kernel
theorem dX11_oddsOf_79 : decode cX11_oddsOf 79 = .ok (.istore 8, 2) := by decide +kernel
theorem dX11_oddsOf_81 : decode cX11_oddsOf 81 = .ok (.iload 7, 2) := by decide +kernel
theorem dX11_oddsOf_83 : decode cX11_oddsOf 83 = .ok (.istore 6, 2) := by decide +kernel
theorem dX11_oddsOf_85 : decode cX11_oddsOf 85 = .ok (.iload 8, 2) := by decide +kernel
theorem dX11_oddsOf_87 : decode cX11_oddsOf 87 = .ok (.istore 7, 2) := by decide +kernel
theorem dX11_oddsOf_89 : decode cX11_oddsOf 89 = .ok (.goto (-20), 3) := by decide +kernel
theorem dX11_oddsOf_92 : decode cX11_oddsOf 92 = .ok (.iload 4, 2) := by decide +kernel
theorem dX11_oddsOf_94 : decode cX11_oddsOf 94 = .ok (.ifCond .ne 7, 3) := by decide +kernel
theorem dX11_oddsOf_97 : decode cX11_oddsOf 97 = .ok (.iload_n 3, 1) := by decide +kernel
theorem dX11_oddsOf_98 : decode cX11_oddsOf 98 = .ok (.goto 20, 3) := by decide +kernel
theorem dX11_oddsOf_101 : decode cX11_oddsOf 101 = .ok (.iload_n 3, 1) := by decide +kernel
theorem dX11_oddsOf_102 : decode cX11_oddsOf 102 = .ok (.ifCond .ne 11, 3) := by decide +kernel
theorem dX11_oddsOf_105 : decode cX11_oddsOf 105 = .ok (.iload 5, 2) := by decide +kernel
theorem dX11_oddsOf_107 : decode cX11_oddsOf 107 = .ok (.iload 6, 2) := by decide +kernel
theorem dX11_oddsOf_109 : decode cX11_oddsOf 109 = .ok (.idiv, 1) := by decide +kernel
theorem dX11_oddsOf_110 : decode cX11_oddsOf 110 = .ok (.goto 8, 3) := by decide +kernel
theorem dX11_oddsOf_113 : decode cX11_oddsOf 113 = .ok (.iload 4, 2) := by decide +kernel
theorem dX11_oddsOf_115 : decode cX11_oddsOf 115 = .ok (.iload 6, 2) := by decide +kernel
theorem dX11_oddsOf_117 : decode cX11_oddsOf 117 = .ok (.idiv, 1) := by decide +kernel
theorem dX11_oddsOf_118 : decode cX11_oddsOf 118 = .ok (.ireturn, 1) := by decide +kernel
set_option maxRecDepth 20000 in
theorem ggX11_odds_X11_isFigure : GoodIn wsX11_odds wsX11_isFigure := goodIn_r _ [6, 7, 8, 9, 5, 10, 42, 43, 44, 45, 46, 47, 48, 49, 50, 51, 52, 53, 54, 55, 56, 57, 58, 59, 60, 61, 62, 63, 64, 65, 66, 67, 68, 69, 70] (by decide +kernel) (by decide +kernel)
set_option maxRecDepth 20000 in
theorem gX11_odds_X11_isFigure : GoodIn wsX11_odds (wsV RX11 152 RX11 yX11_isFigure wsX11_isFigure) := goodIn_app (goodIn_of _ (by decide +kernel)) ggX11_odds_X11_isFigure
set_option maxRecDepth 20000 in
theorem ggX11_odds_X11_in : GoodIn wsX11_odds wsX11_in := goodIn_r _ [10] (by decide +kernel) (by decide +kernel)
set_option maxRecDepth 20000 in
theorem gX11_odds_X11_in : GoodIn wsX11_odds (va_wsS RX11 55 yX11_in wsX11_in) := goodIn_app (goodIn_of _ (by decide +kernel)) ggX11_odds_X11_in
set_option maxRecDepth 20000 in
theorem ggX11_odds_X11_oddsOf : GoodIn wsX11_odds wsX11_oddsOf := goodIn_r _ [14, 7, 15, 16, 17, 5, 18, 19, 20, 21, 22, 23, 24, 25, 26, 27, 28, 29, 30, 31, 32, 33, 34, 35, 36, 37, 38, 39, 40, 41, 42, 43, 44, 45, 46, 47, 48, 49, 50, 51, 52, 53, 54, 55, 56, 57, 58, 59, 60, 61, 62, 63, 64, 65, 66, 67, 68, 69, 70] (by decide +kernel) (by decide +kernel)
set_option maxRecDepth 20000 in
theorem gX11_odds_X11_oddsOf : GoodIn wsX11_odds (wsV RX11 213 RX11 yX11_oddsOf wsX11_oddsOf) := goodIn_app (goodIn_of _ (by decide +kernel)) ggX11_odds_X11_oddsOf
theorem dX11_odds_0 : decode cX11_odds 0 = .ok (.aload_n 0, 1) := by decide +kernel
theorem dX11_odds_1 : decode cX11_odds 1 = .ok (.iload_n 1, 1) := by decide +kernel
theorem dX11_odds_2 : decode cX11_odds 2 = .ok (.invokevirtual 152, 3) := by decide +kernel
theorem dX11_odds_5 : decode cX11_odds 5 = .ok (.ifCond .ne 6, 3) := by decide +kernel
theorem dX11_odds_8 : decode cX11_odds 8 = .ok (.bipush (-101), 2) := by decide +kernel
theorem dX11_odds_10 : decode cX11_odds 10 = .ok (.ireturn, 1) := by decide +kernel
theorem dX11_odds_11 : decode cX11_odds 11 = .ok (.iload_n 2, 1) := by decide +kernel
theorem dX11_odds_12 : decode cX11_odds 12 = .ok (.i2l, 1) := by decide +kernel
theorem dX11_odds_13 : decode cX11_odds 13 = .ok (.lconst 0, 1) := by decide +kernel
theorem dX11_odds_14 : decode cX11_odds 14 = .ok (.ldc2_w 150, 3) := by decide +kernel
theorem dX11_odds_17 : decode cX11_odds 17 = .ok (.invokestatic 55, 3) := by decide +kernel
theorem dX11_odds_20 : decode cX11_odds 20 = .ok (.ifCond .eq 23, 3) := by decide +kernel
theorem dX11_odds_23 : decode cX11_odds 23 = .ok (.iload_n 3, 1) := by decide +kernel
theorem dX11_odds_24 : decode cX11_odds 24 = .ok (.i2l, 1) := by decide +kernel
theorem dX11_odds_25 : decode cX11_odds 25 = .ok (.lconst 0, 1) := by decide +kernel
theorem dX11_odds_26 : decode cX11_odds 26 = .ok (.lconst 1, 1) := by decide +kernel
theorem dX11_odds_27 : decode cX11_odds 27 = .ok (.invokestatic 55, 3) := by decide +kernel
theorem dX11_odds_30 : decode cX11_odds 30 = .ok (.ifCond .eq 13, 3) := by decide +kernel
theorem dX11_odds_33 : decode cX11_odds 33 = .ok (.aload_n 0, 1) := by decide +kernel
theorem dX11_odds_34 : decode cX11_odds 34 = .ok (.iload_n 1, 1) := by decide +kernel
theorem dX11_odds_35 : decode cX11_odds 35 = .ok (.iload_n 2, 1) := by decide +kernel
theorem dX11_odds_36 : decode cX11_odds 36 = .ok (.iload_n 3, 1) := by decide +kernel
theorem dX11_odds_37 : decode cX11_odds 37 = .ok (.invokevirtual 213, 3) := by decide +kernel
theorem dX11_odds_40 : decode cX11_odds 40 = .ok (.goto 5, 3) := by decide +kernel
theorem dX11_odds_43 : decode cX11_odds 43 = .ok (.bipush (-102), 2) := by decide +kernel
theorem dX11_odds_45 : decode cX11_odds 45 = .ok (.ireturn, 1) := by decide +kernel
set_option maxRecDepth 20000 in
theorem ggX11_see_X11_isUpper : GoodIn wsX11_see wsX11_isUpper := goodIn_r _ [9, 10, 11, 12, 13, 8, 14, 15, 16, 17, 18, 19, 20, 21, 22, 23, 24, 25, 26, 27, 28, 29, 30, 31, 32, 33, 34, 35, 36, 37, 38, 39, 40, 41, 42, 43] (by decide +kernel) (by decide +kernel)
set_option maxRecDepth 20000 in
theorem gX11_see_X11_isUpper : GoodIn wsX11_see (wsV RX11 147 RX11 yX11_isUpper wsX11_isUpper) := goodIn_app (goodIn_of _ (by decide +kernel)) ggX11_see_X11_isUpper
set_option maxRecDepth 20000 in
theorem ggX11_see_X11_in : GoodIn wsX11_see wsX11_in := goodIn_r _ [14] (by decide +kernel) (by decide +kernel)
set_option maxRecDepth 20000 in
theorem gX11_see_X11_in : GoodIn wsX11_see (va_wsS RX11 55 yX11_in wsX11_in) := goodIn_app (goodIn_of _ (by decide +kernel)) ggX11_see_X11_in
theorem dX11_see_0 : decode cX11_see 0 = .ok (.aload_n 0, 1) := by decide +kernel
theorem dX11_see_1 : decode cX11_see 1 = .ok (.iload_n 1, 1) := by decide +kernel
theorem dX11_see_2 : decode cX11_see 2 = .ok (.invokevirtual 147, 3) := by decide +kernel
theorem dX11_see_5 : decode cX11_see 5 = .ok (.ifCond .ne 6, 3) := by decide +kernel
theorem dX11_see_8 : decode cX11_see 8 = .ok (.bipush (-101), 2) := by decide +kernel
theorem dX11_see_10 : decode cX11_see 10 = .ok (.ireturn, 1) := by decide +kernel
theorem dX11_see_11 : decode cX11_see 11 = .ok (.iload_n 2, 1) := by decide +kernel
theorem dX11_see_12 : decode cX11_see 12 = .ok (.i2l, 1) := by decide +kernel
theorem dX11_see_13 : decode cX11_see 13 = .ok (.lconst 0, 1) := by decide +kernel
theorem dX11_see_14 : decode cX11_see 14 = .ok (.ldc2_w 150, 3) := by decide +kernel
theorem dX11_see_17 : decode cX11_see 17 = .ok (.invokestatic 55, 3) := by decide +kernel
theorem dX11_see_20 : decode cX11_see 20 = .ok (.ifCond .eq 28, 3) := by decide +kernel
theorem dX11_see_23 : decode cX11_see 23 = .ok (.iload_n 3, 1) := by decide +kernel
theorem dX11_see_24 : decode cX11_see 24 = .ok (.i2l, 1) := by decide +kernel
theorem dX11_see_25 : decode cX11_see 25 = .ok (.lconst 0, 1) := by decide +kernel
theorem dX11_see_26 : decode cX11_see 26 = .ok (.ldc2_w 150, 3) := by decide +kernel
theorem dX11_see_29 : decode cX11_see 29 = .ok (.invokestatic 55, 3) := by decide +kernel
theorem dX11_see_32 : decode cX11_see 32 = .ok (.ifCond .eq 16, 3) := by decide +kernel
theorem dX11_see_35 : decode cX11_see 35 = .ok (.iload 4, 2) := by decide +kernel
theorem dX11_see_37 : decode cX11_see 37 = .ok (.i2l, 1) := by decide +kernel
theorem dX11_see_38 : decode cX11_see 38 = .ok (.lconst 0, 1) := by decide +kernel
theorem dX11_see_39 : decode cX11_see 39 = .ok (.ldc2_w 216, 3) := by decide +kernel
theorem dX11_see_42 : decode cX11_see 42 = .ok (.invokestatic 55, 3) := by decide +kernel
theorem dX11_see_45 : decode cX11_see 45 = .ok (.ifCond .ne 6, 3) := by decide +kernel
theorem dX11_see_48 : decode cX11_see 48 = .ok (.bipush (-102), 2) := by decide +kernel
theorem dX11_see_50 : decode cX11_see 50 = .ok (.ireturn, 1) := by decide +kernel
theorem dX11_see_51 : decode cX11_see 51 = .ok (.aload_n 0, 1) := by decide +kernel
theorem dX11_see_52 : decode cX11_see 52 = .ok (.getfield 113, 3) := by decide +kernel
theorem dX11_see_55 : decode cX11_see 55 = .ok (.bipush 6, 2) := by decide +kernel
theorem dX11_see_57 : decode cX11_see 57 = .ok (.if_icmp .ne 6, 3) := by decide +kernel
theorem dX11_see_60 : decode cX11_see 60 = .ok (.bipush (-104), 2) := by decide +kernel
theorem dX11_see_62 : decode cX11_see 62 = .ok (.ireturn, 1) := by decide +kernel
theorem dX11_see_63 : decode cX11_see 63 = .ok (.aload_n 0, 1) := by decide +kernel
theorem dX11_see_64 : decode cX11_see 64 = .ok (.getfield 34, 3) := by decide +kernel
theorem dX11_see_67 : decode cX11_see 67 = .ok (.iconst 4, 1) := by decide +kernel
theorem dX11_see_68 : decode cX11_see 68 = .ok (.aload_n 0, 1) := by decide +kernel
theorem dX11_see_69 : decode cX11_see 69 = .ok (.getfield 113, 3) := by decide +kernel
theorem dX11_see_72 : decode cX11_see 72 = .ok (.imul, 1) := by decide +kernel
theorem dX11_see_73 : decode cX11_see 73 = .ok (.iload_n 1, 1) := by decide +kernel
theorem dX11_see_74 : decode cX11_see 74 = .ok (.iastore, 1) := by decide +kernel
theorem dX11_see_75 : decode cX11_see 75 = .ok (.aload_n 0, 1) := by decide +kernel
theorem dX11_see_76 : decode cX11_see 76 = .ok (.getfield 34, 3) := by decide +kernel
theorem dX11_see_79 : decode cX11_see 79 = .ok (.iconst 4, 1) := by decide +kernel
theorem dX11_see_80 : decode cX11_see 80 = .ok (.aload_n 0, 1) := by decide +kernel
theorem dX11_see_81 : decode cX11_see 81 = .ok (.getfield 113, 3) := by decide +kernel
theorem dX11_see_84 : decode cX11_see 84 = .ok (.imul, 1) := by decide +kernel
theorem dX11_see_85 : decode cX11_see 85 = .ok (.iconst 1, 1) := by decide +kernel
theorem dX11_see_86 : decode cX11_see 86 = .ok (.iadd, 1) := by decide +kernel
theorem dX11_see_87 : decode cX11_see 87 = .ok (.iload_n 2, 1) := by decide +kernel
theorem dX11_see_88 : decode cX11_see 88 = .ok (.iastore, 1) := by decide +kernel
theorem dX11_see_89 : decode cX11_see 89 = .ok (.aload_n 0, 1) := by decide +kernel
theorem dX11_see_90 : decode cX11_see 90 = .ok (.getfield 34, 3) := by decide +kernel
theorem dX11_see_93 : decode cX11_see 93 = .ok (.iconst 4, 1) := by decide +kernel
theorem dX11_see_94 : decode cX11_see 94 = .ok (.aload_n 0, 1) := by decide +kernel
theorem dX11_see_95 : decode cX11_see 95 = .ok (.getfield 113, 3) := by decide +kernel
theorem dX11_see_98 : decode cX11_see 98 = .ok (.imul, 1) := by decide +kernel
theorem dX11_see_99 : decode cX11_see 99 = .ok (.iconst 2, 1) := by decide +kernel
theorem dX11_see_100 : decode cX11_see 100 = .ok (.iadd, 1) := by decide +kernel
theorem dX11_see_101 : decode cX11_see 101 = .ok (.iload_n 3, 1) := by decide +kernel
theorem dX11_see_102 : decode cX11_see 102 = .ok (.iastore, 1) := by decide +kernel
theorem dX11_see_103 : decode cX11_see 103 = .ok (.aload_n 0, 1) := by decide +kernel
theorem dX11_see_104 : decode cX11_see 104 = .ok (.getfield 34, 3) := by decide +kernel
theorem dX11_see_107 : decode cX11_see 107 = .ok (.iconst 4, 1) := by decide +kernel
theorem dX11_see_108 : decode cX11_see 108 = .ok (.aload_n 0, 1) := by decide +kernel
theorem dX11_see_109 : decode cX11_see 109 = .ok (.getfield 113, 3) := by decide +kernel
theorem dX11_see_112 : decode cX11_see 112 = .ok (.imul, 1) := by decide +kernel
theorem dX11_see_113 : decode cX11_see 113 = .ok (.iconst 3, 1) := by decide +kernel
theorem dX11_see_114 : decode cX11_see 114 = .ok (.iadd, 1) := by decide +kernel
theorem dX11_see_115 : decode cX11_see 115 = .ok (.iload 4, 2) := by decide +kernel
theorem dX11_see_117 : decode cX11_see 117 = .ok (.iastore, 1) := by decide +kernel
theorem dX11_see_118 : decode cX11_see 118 = .ok (.aload_n 0, 1) := by decide +kernel
theorem dX11_see_119 : decode cX11_see 119 = .ok (.dup, 1) := by decide +kernel
theorem dX11_see_120 : decode cX11_see 120 = .ok (.getfield 113, 3) := by decide +kernel
theorem dX11_see_123 : decode cX11_see 123 = .ok (.iconst 1, 1) := by decide +kernel
theorem dX11_see_124 : decode cX11_see 124 = .ok (.iadd, 1) := by decide +kernel
theorem dX11_see_125 : decode cX11_see 125 = .ok (.putfield 113, 3) := by decide +kernel
theorem dX11_see_128 : decode cX11_see 128 = .ok (.aload_n 0, 1) := by decide +kernel
theorem dX11_see_129 : decode cX11_see 129 = .ok (.getfield 113, 3) := by decide +kernel
theorem dX11_see_132 : decode cX11_see 132 = .ok (.ireturn, 1) := by decide +kernel
theorem dX11_forget_0 : decode cX11_forget 0 = .ok (.aload_n 0, 1) := by decide +kernel
theorem dX11_forget_1 : decode cX11_forget 1 = .ok (.getfield 113, 3) := by decide +kernel
theorem dX11_forget_4 : decode cX11_forget 4 = .ok (.istore_n 1, 1) := by decide +kernel
theorem dX11_forget_5 : decode cX11_forget 5 = .ok (.aload_n 0, 1) := by decide +kernel
theorem dX11_forget_6 : decode cX11_forget 6 = .ok (.iconst 0, 1) := by decide +kernel
theorem dX11_forget_7 : decode cX11_forget 7 = .ok (.putfield 113, 3) := by decide +kernel
theorem dX11_forget_10 : decode cX11_forget 10 = .ok (.iload_n 1, 1) := by decide +kernel
theorem dX11_forget_11 : decode cX11_forget 11 = .ok (.ireturn, 1) := by decide +kernel
set_option maxRecDepth 20000 in
theorem ggX11_sortsOf_X11_madeBy : GoodIn wsX11_sortsOf wsX11_madeBy := goodIn_r _ [6] (by decide +kernel) (by decide +kernel)
set_option maxRecDepth 20000 in
theorem gX11_sortsOf_X11_madeBy : GoodIn wsX11_sortsOf (va_wsS RX11 122 yX11_madeBy wsX11_madeBy) := goodIn_app (goodIn_of _ (by decide +kernel)) ggX11_sortsOf_X11_madeBy
theorem dX11_sortsOf_0 : decode cX11_sortsOf 0 = .ok (.iconst 0, 1) := by decide +kernel
theorem dX11_sortsOf_1 : decode cX11_sortsOf 1 = .ok (.istore_n 2, 1) := by decide +kernel
theorem dX11_sortsOf_2 : decode cX11_sortsOf 2 = .ok (.iconst 0, 1) := by decide +kernel
theorem dX11_sortsOf_3 : decode cX11_sortsOf 3 = .ok (.istore_n 3, 1) := by decide +kernel
theorem dX11_sortsOf_4 : decode cX11_sortsOf 4 = .ok (.iload_n 3, 1) := by decide +kernel
theorem dX11_sortsOf_5 : decode cX11_sortsOf 5 = .ok (.iconst 5, 1) := by decide +kernel
theorem dX11_sortsOf_6 : decode cX11_sortsOf 6 = .ok (.if_icmp .ge 104, 3) := by decide +kernel
theorem dX11_sortsOf_9 : decode cX11_sortsOf 9 = .ok (.iconst 1, 1) := by decide +kernel
theorem dX11_sortsOf_10 : decode cX11_sortsOf 10 = .ok (.istore 4, 2) := by decide +kernel
theorem dX11_sortsOf_12 : decode cX11_sortsOf 12 = .ok (.iconst 0, 1) := by decide +kernel
theorem dX11_sortsOf_13 : decode cX11_sortsOf 13 = .ok (.istore 5, 2) := by decide +kernel
theorem dX11_sortsOf_15 : decode cX11_sortsOf 15 = .ok (.iload 5, 2) := by decide +kernel
theorem dX11_sortsOf_17 : decode cX11_sortsOf 17 = .ok (.iconst 4, 1) := by decide +kernel
theorem dX11_sortsOf_18 : decode cX11_sortsOf 18 = .ok (.aload_n 0, 1) := by decide +kernel
theorem dX11_sortsOf_19 : decode cX11_sortsOf 19 = .ok (.getfield 113, 3) := by decide +kernel
theorem dX11_sortsOf_22 : decode cX11_sortsOf 22 = .ok (.imul, 1) := by decide +kernel
theorem dX11_sortsOf_23 : decode cX11_sortsOf 23 = .ok (.if_icmp .ge 66, 3) := by decide +kernel
theorem dX11_sortsOf_26 : decode cX11_sortsOf 26 = .ok (.iload 4, 2) := by decide +kernel
theorem dX11_sortsOf_28 : decode cX11_sortsOf 28 = .ok (.ifCond .eq 52, 3) := by decide +kernel
theorem dX11_sortsOf_31 : decode cX11_sortsOf 31 = .ok (.aload_n 0, 1) := by decide +kernel
theorem dX11_sortsOf_32 : decode cX11_sortsOf 32 = .ok (.getfield 34, 3) := by decide +kernel
theorem dX11_sortsOf_35 : decode cX11_sortsOf 35 = .ok (.iload 5, 2) := by decide +kernel
theorem dX11_sortsOf_37 : decode cX11_sortsOf 37 = .ok (.iaload, 1) := by decide +kernel
theorem dX11_sortsOf_38 : decode cX11_sortsOf 38 = .ok (.iload_n 1, 1) := by decide +kernel
theorem dX11_sortsOf_39 : decode cX11_sortsOf 39 = .ok (.if_icmp .ne 37, 3) := by decide +kernel
theorem dX11_sortsOf_42 : decode cX11_sortsOf 42 = .ok (.iload_n 3, 1) := by decide +kernel
theorem dX11_sortsOf_43 : decode cX11_sortsOf 43 = .ok (.aload_n 0, 1) := by decide +kernel
theorem dX11_sortsOf_44 : decode cX11_sortsOf 44 = .ok (.getfield 34, 3) := by decide +kernel
theorem dX11_sortsOf_47 : decode cX11_sortsOf 47 = .ok (.iload 5, 2) := by decide +kernel
theorem dX11_sortsOf_49 : decode cX11_sortsOf 49 = .ok (.iconst 1, 1) := by decide +kernel
theorem dX11_sortsOf_50 : decode cX11_sortsOf 50 = .ok (.iadd, 1) := by decide +kernel
theorem dX11_sortsOf_51 : decode cX11_sortsOf 51 = .ok (.iaload, 1) := by decide +kernel
theorem dX11_sortsOf_52 : decode cX11_sortsOf 52 = .ok (.aload_n 0, 1) := by decide +kernel
theorem dX11_sortsOf_53 : decode cX11_sortsOf 53 = .ok (.getfield 34, 3) := by decide +kernel
theorem dX11_sortsOf_56 : decode cX11_sortsOf 56 = .ok (.iload 5, 2) := by decide +kernel
theorem dX11_sortsOf_58 : decode cX11_sortsOf 58 = .ok (.iconst 2, 1) := by decide +kernel
theorem dX11_sortsOf_59 : decode cX11_sortsOf 59 = .ok (.iadd, 1) := by decide +kernel
theorem dX11_sortsOf_60 : decode cX11_sortsOf 60 = .ok (.iaload, 1) := by decide +kernel
theorem dX11_sortsOf_61 : decode cX11_sortsOf 61 = .ok (.invokestatic 122, 3) := by decide +kernel
theorem dX11_sortsOf_64 : decode cX11_sortsOf 64 = .ok (.aload_n 0, 1) := by decide +kernel
theorem dX11_sortsOf_65 : decode cX11_sortsOf 65 = .ok (.getfield 34, 3) := by decide +kernel
theorem dX11_sortsOf_68 : decode cX11_sortsOf 68 = .ok (.iload 5, 2) := by decide +kernel
theorem dX11_sortsOf_70 : decode cX11_sortsOf 70 = .ok (.iconst 3, 1) := by decide +kernel
theorem dX11_sortsOf_71 : decode cX11_sortsOf 71 = .ok (.iadd, 1) := by decide +kernel
theorem dX11_sortsOf_72 : decode cX11_sortsOf 72 = .ok (.iaload, 1) := by decide +kernel
theorem dX11_sortsOf_73 : decode cX11_sortsOf 73 = .ok (.if_icmp .ne 7, 3) := by decide +kernel
theorem dX11_sortsOf_76 : decode cX11_sortsOf 76 = .ok (.iconst 1, 1) := by decide +kernel
theorem dX11_sortsOf_77 : decode cX11_sortsOf 77 = .ok (.goto 4, 3) := by decide +kernel
theorem dX11_sortsOf_80 : decode cX11_sortsOf 80 = .ok (.iconst 0, 1) := by decide +kernel
theorem dX11_sortsOf_81 : decode cX11_sortsOf 81 = .ok (.istore 4, 2) := by decide +kernel
theorem dX11_sortsOf_83 : decode cX11_sortsOf 83 = .ok (.iinc 5 4, 3) := by decide +kernel
theorem dX11_sortsOf_86 : decode cX11_sortsOf 86 = .ok (.goto (-71), 3) := by decide +kernel
theorem dX11_sortsOf_89 : decode cX11_sortsOf 89 = .ok (.iload_n 2, 1) := by decide +kernel
theorem dX11_sortsOf_90 : decode cX11_sortsOf 90 = .ok (.iload 4, 2) := by decide +kernel
theorem dX11_sortsOf_92 : decode cX11_sortsOf 92 = .ok (.ifCond .eq 9, 3) := by decide +kernel
theorem dX11_sortsOf_95 : decode cX11_sortsOf 95 = .ok (.iconst 1, 1) := by decide +kernel
theorem dX11_sortsOf_96 : decode cX11_sortsOf 96 = .ok (.iload_n 3, 1) := by decide +kernel
theorem dX11_sortsOf_97 : decode cX11_sortsOf 97 = .ok (.ishl, 1) := by decide +kernel
theorem dX11_sortsOf_98 : decode cX11_sortsOf 98 = .ok (.goto 4, 3) := by decide +kernel
theorem dX11_sortsOf_101 : decode cX11_sortsOf 101 = .ok (.iconst 0, 1) := by decide +kernel
theorem dX11_sortsOf_102 : decode cX11_sortsOf 102 = .ok (.ior, 1) := by decide +kernel
theorem dX11_sortsOf_103 : decode cX11_sortsOf 103 = .ok (.istore_n 2, 1) := by decide +kernel
theorem dX11_sortsOf_104 : decode cX11_sortsOf 104 = .ok (.iinc 3 1, 3) := by decide +kernel
theorem dX11_sortsOf_107 : decode cX11_sortsOf 107 = .ok (.goto (-103), 3) := by decide +kernel
theorem dX11_sortsOf_110 : decode cX11_sortsOf 110 = .ok (.iload_n 2, 1) := by decide +kernel
theorem dX11_sortsOf_111 : decode cX11_sortsOf 111 = .ok (.ireturn, 1) := by decide +kernel
set_option maxRecDepth 20000 in
theorem ggX11_worstBy_X11_madeBy : GoodIn wsX11_worstBy wsX11_madeBy := goodIn_r _ [4] (by decide +kernel) (by decide +kernel)
set_option maxRecDepth 20000 in
theorem gX11_worstBy_X11_madeBy : GoodIn wsX11_worstBy (va_wsS RX11 122 yX11_madeBy wsX11_madeBy) := goodIn_app (goodIn_of _ (by decide +kernel)) ggX11_worstBy_X11_madeBy
theorem dX11_worstBy_0 : decode cX11_worstBy 0 = .ok (.iconst 0, 1) := by decide +kernel
theorem dX11_worstBy_1 : decode cX11_worstBy 1 = .ok (.istore_n 3, 1) := by decide +kernel
theorem dX11_worstBy_2 : decode cX11_worstBy 2 = .ok (.iconst 0, 1) := by decide +kernel
theorem dX11_worstBy_3 : decode cX11_worstBy 3 = .ok (.istore 4, 2) := by decide +kernel
theorem dX11_worstBy_5 : decode cX11_worstBy 5 = .ok (.iload 4, 2) := by decide +kernel
theorem dX11_worstBy_7 : decode cX11_worstBy 7 = .ok (.iconst 5, 1) := by decide +kernel
theorem dX11_worstBy_8 : decode cX11_worstBy 8 = .ok (.if_icmp .ge 82, 3) := by decide +kernel
theorem dX11_worstBy_11 : decode cX11_worstBy 11 = .ok (.iconst 0, 1) := by decide +kernel
theorem dX11_worstBy_12 : decode cX11_worstBy 12 = .ok (.istore 5, 2) := by decide +kernel
theorem dX11_worstBy_14 : decode cX11_worstBy 14 = .ok (.iconst 0, 1) := by decide +kernel
theorem dX11_worstBy_15 : decode cX11_worstBy 15 = .ok (.istore 6, 2) := by decide +kernel
theorem dX11_worstBy_17 : decode cX11_worstBy 17 = .ok (.iload 6, 2) := by decide +kernel
theorem dX11_worstBy_19 : decode cX11_worstBy 19 = .ok (.iconst 5, 1) := by decide +kernel
theorem dX11_worstBy_20 : decode cX11_worstBy 20 = .ok (.if_icmp .ge 41, 3) := by decide +kernel
theorem dX11_worstBy_23 : decode cX11_worstBy 23 = .ok (.iload 5, 2) := by decide +kernel
theorem dX11_worstBy_25 : decode cX11_worstBy 25 = .ok (.iload 6, 2) := by decide +kernel
theorem dX11_worstBy_27 : decode cX11_worstBy 27 = .ok (.iload_n 1, 1) := by decide +kernel
theorem dX11_worstBy_28 : decode cX11_worstBy 28 = .ok (.iload_n 2, 1) := by decide +kernel
theorem dX11_worstBy_29 : decode cX11_worstBy 29 = .ok (.invokestatic 122, 3) := by decide +kernel
theorem dX11_worstBy_32 : decode cX11_worstBy 32 = .ok (.iload 4, 2) := by decide +kernel
theorem dX11_worstBy_34 : decode cX11_worstBy 34 = .ok (.iload_n 1, 1) := by decide +kernel
theorem dX11_worstBy_35 : decode cX11_worstBy 35 = .ok (.iload_n 2, 1) := by decide +kernel
theorem dX11_worstBy_36 : decode cX11_worstBy 36 = .ok (.invokestatic 122, 3) := by decide +kernel
theorem dX11_worstBy_39 : decode cX11_worstBy 39 = .ok (.if_icmp .ne 12, 3) := by decide +kernel
theorem dX11_worstBy_42 : decode cX11_worstBy 42 = .ok (.iload_n 0, 1) := by decide +kernel
theorem dX11_worstBy_43 : decode cX11_worstBy 43 = .ok (.iload 6, 2) := by decide +kernel
theorem dX11_worstBy_45 : decode cX11_worstBy 45 = .ok (.ishr, 1) := by decide +kernel
theorem dX11_worstBy_46 : decode cX11_worstBy 46 = .ok (.iconst 1, 1) := by decide +kernel
theorem dX11_worstBy_47 : decode cX11_worstBy 47 = .ok (.iand, 1) := by decide +kernel
theorem dX11_worstBy_48 : decode cX11_worstBy 48 = .ok (.goto 4, 3) := by decide +kernel
theorem dX11_worstBy_51 : decode cX11_worstBy 51 = .ok (.iconst 0, 1) := by decide +kernel
theorem dX11_worstBy_52 : decode cX11_worstBy 52 = .ok (.iadd, 1) := by decide +kernel
theorem dX11_worstBy_53 : decode cX11_worstBy 53 = .ok (.istore 5, 2) := by decide +kernel
theorem dX11_worstBy_55 : decode cX11_worstBy 55 = .ok (.iinc 6 1, 3) := by decide +kernel
theorem dX11_worstBy_58 : decode cX11_worstBy 58 = .ok (.goto (-41), 3) := by decide +kernel
theorem dX11_worstBy_61 : decode cX11_worstBy 61 = .ok (.iload_n 0, 1) := by decide +kernel
theorem dX11_worstBy_62 : decode cX11_worstBy 62 = .ok (.iload 4, 2) := by decide +kernel
theorem dX11_worstBy_64 : decode cX11_worstBy 64 = .ok (.ishr, 1) := by decide +kernel
theorem dX11_worstBy_65 : decode cX11_worstBy 65 = .ok (.iconst 1, 1) := by decide +kernel
theorem dX11_worstBy_66 : decode cX11_worstBy 66 = .ok (.iand, 1) := by decide +kernel
theorem dX11_worstBy_67 : decode cX11_worstBy 67 = .ok (.iconst 1, 1) := by decide +kernel
theorem dX11_worstBy_68 : decode cX11_worstBy 68 = .ok (.if_icmp .ne 14, 3) := by decide +kernel
theorem dX11_worstBy_71 : decode cX11_worstBy 71 = .ok (.iload 5, 2) := by decide +kernel
theorem dX11_worstBy_73 : decode cX11_worstBy 73 = .ok (.iload_n 3, 1) := by decide +kernel
theorem dX11_worstBy_74 : decode cX11_worstBy 74 = .ok (.if_icmp .le 8, 3) := by decide +kernel
theorem dX11_worstBy_77 : decode cX11_worstBy 77 = .ok (.iload 5, 2) := by decide +kernel
theorem dX11_worstBy_79 : decode cX11_worstBy 79 = .ok (.goto 4, 3) := by decide +kernel
theorem dX11_worstBy_82 : decode cX11_worstBy 82 = .ok (.iload_n 3, 1) := by decide +kernel
theorem dX11_worstBy_83 : decode cX11_worstBy 83 = .ok (.istore_n 3, 1) := by decide +kernel
theorem dX11_worstBy_84 : decode cX11_worstBy 84 = .ok (.iinc 4 1, 3) := by decide +kernel
theorem dX11_worstBy_87 : decode cX11_worstBy 87 = .ok (.goto (-82), 3) := by decide +kernel
theorem dX11_worstBy_90 : decode cX11_worstBy 90 = .ok (.iload_n 3, 1) := by decide +kernel
theorem dX11_worstBy_91 : decode cX11_worstBy 91 = .ok (.ireturn, 1) := by decide +kernel
set_option maxRecDepth 20000 in
theorem ggX11_tryOf_X11_sortsOf : GoodIn wsX11_tryOf wsX11_sortsOf := goodIn_r _ [5, 6, 7, 8, 9, 4, 10, 14, 15, 16, 17, 18, 19, 20, 21, 22, 23, 24, 25, 26, 27, 28, 29, 30, 31, 32, 33, 34, 35, 36, 37, 38, 39, 40, 41, 42] (by decide +kernel) (by decide +kernel)
set_option maxRecDepth 20000 in
theorem gX11_tryOf_X11_sortsOf : GoodIn wsX11_tryOf (wsV RX11 132 RX11 yX11_sortsOf wsX11_sortsOf) := goodIn_app (goodIn_of _ (by decide +kernel)) ggX11_tryOf_X11_sortsOf
set_option maxRecDepth 20000 in
theorem ggX11_tryOf_X11_worstBy : GoodIn wsX11_tryOf wsX11_worstBy := goodIn_r _ [13, 8, 9, 4, 10] (by decide +kernel) (by decide +kernel)
set_option maxRecDepth 20000 in
theorem gX11_tryOf_X11_worstBy : GoodIn wsX11_tryOf (va_wsS RX11 218 yX11_worstBy wsX11_worstBy) := goodIn_app (goodIn_of _ (by decide +kernel)) ggX11_tryOf_X11_worstBy
theorem dX11_tryOf_0 : decode cX11_tryOf 0 = .ok (.aload_n 0, 1) := by decide +kernel
theorem dX11_tryOf_1 : decode cX11_tryOf 1 = .ok (.iload_n 1, 1) := by decide +kernel
theorem dX11_tryOf_2 : decode cX11_tryOf 2 = .ok (.invokevirtual 132, 3) := by decide +kernel
theorem dX11_tryOf_5 : decode cX11_tryOf 5 = .ok (.istore_n 2, 1) := by decide +kernel
theorem dX11_tryOf_6 : decode cX11_tryOf 6 = .ok (.iconst (-1), 1) := by decide +kernel
theorem dX11_tryOf_7 : decode cX11_tryOf 7 = .ok (.istore_n 3, 1) := by decide +kernel
theorem dX11_tryOf_8 : decode cX11_tryOf 8 = .ok (.bipush 6, 2) := by decide +kernel
theorem dX11_tryOf_10 : decode cX11_tryOf 10 = .ok (.istore 4, 2) := by decide +kernel
theorem dX11_tryOf_12 : decode cX11_tryOf 12 = .ok (.iconst 0, 1) := by decide +kernel
theorem dX11_tryOf_13 : decode cX11_tryOf 13 = .ok (.istore 5, 2) := by decide +kernel
theorem dX11_tryOf_15 : decode cX11_tryOf 15 = .ok (.iload 5, 2) := by decide +kernel
theorem dX11_tryOf_17 : decode cX11_tryOf 17 = .ok (.bipush 100, 2) := by decide +kernel
theorem dX11_tryOf_19 : decode cX11_tryOf 19 = .ok (.if_icmp .ge 59, 3) := by decide +kernel
theorem dX11_tryOf_22 : decode cX11_tryOf 22 = .ok (.iload_n 2, 1) := by decide +kernel
theorem dX11_tryOf_23 : decode cX11_tryOf 23 = .ok (.ifCond .eq 55, 3) := by decide +kernel
theorem dX11_tryOf_26 : decode cX11_tryOf 26 = .ok (.iload_n 2, 1) := by decide +kernel
theorem dX11_tryOf_27 : decode cX11_tryOf 27 = .ok (.iload 5, 2) := by decide +kernel
theorem dX11_tryOf_29 : decode cX11_tryOf 29 = .ok (.bipush 10, 2) := by decide +kernel
theorem dX11_tryOf_31 : decode cX11_tryOf 31 = .ok (.idiv, 1) := by decide +kernel
theorem dX11_tryOf_32 : decode cX11_tryOf 32 = .ok (.iload 5, 2) := by decide +kernel
theorem dX11_tryOf_34 : decode cX11_tryOf 34 = .ok (.bipush 10, 2) := by decide +kernel
theorem dX11_tryOf_36 : decode cX11_tryOf 36 = .ok (.irem, 1) := by decide +kernel
theorem dX11_tryOf_37 : decode cX11_tryOf 37 = .ok (.invokestatic 218, 3) := by decide +kernel
theorem dX11_tryOf_40 : decode cX11_tryOf 40 = .ok (.istore 6, 2) := by decide +kernel
theorem dX11_tryOf_42 : decode cX11_tryOf 42 = .ok (.iload 6, 2) := by decide +kernel
theorem dX11_tryOf_44 : decode cX11_tryOf 44 = .ok (.iload 4, 2) := by decide +kernel
theorem dX11_tryOf_46 : decode cX11_tryOf 46 = .ok (.if_icmp .ge 8, 3) := by decide +kernel
theorem dX11_tryOf_49 : decode cX11_tryOf 49 = .ok (.iload 5, 2) := by decide +kernel
theorem dX11_tryOf_51 : decode cX11_tryOf 51 = .ok (.goto 4, 3) := by decide +kernel
theorem dX11_tryOf_54 : decode cX11_tryOf 54 = .ok (.iload_n 3, 1) := by decide +kernel
theorem dX11_tryOf_55 : decode cX11_tryOf 55 = .ok (.istore_n 3, 1) := by decide +kernel
theorem dX11_tryOf_56 : decode cX11_tryOf 56 = .ok (.iload 6, 2) := by decide +kernel
theorem dX11_tryOf_58 : decode cX11_tryOf 58 = .ok (.iload 4, 2) := by decide +kernel
theorem dX11_tryOf_60 : decode cX11_tryOf 60 = .ok (.if_icmp .ge 8, 3) := by decide +kernel
theorem dX11_tryOf_63 : decode cX11_tryOf 63 = .ok (.iload 6, 2) := by decide +kernel
theorem dX11_tryOf_65 : decode cX11_tryOf 65 = .ok (.goto 5, 3) := by decide +kernel
theorem dX11_tryOf_68 : decode cX11_tryOf 68 = .ok (.iload 4, 2) := by decide +kernel
theorem dX11_tryOf_70 : decode cX11_tryOf 70 = .ok (.istore 4, 2) := by decide +kernel
theorem dX11_tryOf_72 : decode cX11_tryOf 72 = .ok (.iinc 5 1, 3) := by decide +kernel
theorem dX11_tryOf_75 : decode cX11_tryOf 75 = .ok (.goto (-60), 3) := by decide +kernel
theorem dX11_tryOf_78 : decode cX11_tryOf 78 = .ok (.iload_n 3, 1) := by decide +kernel
theorem dX11_tryOf_79 : decode cX11_tryOf 79 = .ok (.ireturn, 1) := by decide +kernel
theorem dX11_draw_0 : decode cX11_draw 0 = .ok (.aload_n 0, 1) := by decide +kernel
theorem dX11_draw_1 : decode cX11_draw 1 = .ok (.ldc2_w 221, 3) := by decide +kernel
theorem dX11_draw_4 : decode cX11_draw 4 = .ok (.aload_n 0, 1) := by decide +kernel
theorem dX11_draw_5 : decode cX11_draw 5 = .ok (.getfield 223, 3) := by decide +kernel
theorem dX11_draw_8 : decode cX11_draw 8 = .ok (.i2l, 1) := by decide +kernel
theorem dX11_draw_9 : decode cX11_draw 9 = .ok (.lmul, 1) := by decide +kernel
theorem dX11_draw_10 : decode cX11_draw 10 = .ok (.ldc2_w 226, 3) := by decide +kernel
theorem dX11_draw_13 : decode cX11_draw 13 = .ok (.ladd, 1) := by decide +kernel
theorem dX11_draw_14 : decode cX11_draw 14 = .ok (.ldc2_w 228, 3) := by decide +kernel
theorem dX11_draw_17 : decode cX11_draw 17 = .ok (.land, 1) := by decide +kernel
theorem dX11_draw_18 : decode cX11_draw 18 = .ok (.l2i, 1) := by decide +kernel
theorem dX11_draw_19 : decode cX11_draw 19 = .ok (.putfield 223, 3) := by decide +kernel
theorem dX11_draw_22 : decode cX11_draw 22 = .ok (.aload_n 0, 1) := by decide +kernel
theorem dX11_draw_23 : decode cX11_draw 23 = .ok (.getfield 223, 3) := by decide +kernel
theorem dX11_draw_26 : decode cX11_draw 26 = .ok (.ldc 230, 2) := by decide +kernel
theorem dX11_draw_28 : decode cX11_draw 28 = .ok (.idiv, 1) := by decide +kernel
theorem dX11_draw_29 : decode cX11_draw 29 = .ok (.iload_n 1, 1) := by decide +kernel
theorem dX11_draw_30 : decode cX11_draw 30 = .ok (.irem, 1) := by decide +kernel
theorem dX11_draw_31 : decode cX11_draw 31 = .ok (.ireturn, 1) := by decide +kernel
set_option maxRecDepth 20000 in
theorem ggX11_drawn_X11_in : GoodIn wsX11_drawn wsX11_in := goodIn_r _ [11] (by decide +kernel) (by decide +kernel)
set_option maxRecDepth 20000 in
theorem gX11_drawn_X11_in : GoodIn wsX11_drawn (va_wsS RX11 55 yX11_in wsX11_in) := goodIn_app (goodIn_of _ (by decide +kernel)) ggX11_drawn_X11_in
set_option maxRecDepth 20000 in
theorem ggX11_drawn_X11_lacks : GoodIn wsX11_drawn wsX11_lacks := goodIn_r _ [15, 4, 36, 37, 38, 39, 40, 41, 42, 43, 44, 45, 46, 47, 48, 49, 50, 51, 52, 53, 54, 55, 56, 57, 58, 59, 60, 61, 62, 63, 64] (by decide +kernel) (by decide +kernel)
set_option maxRecDepth 20000 in
theorem gX11_drawn_X11_lacks : GoodIn wsX11_drawn (wsV RX11 181 RX11 yX11_lacks wsX11_lacks) := goodIn_app (goodIn_of _ (by decide +kernel)) ggX11_drawn_X11_lacks
set_option maxRecDepth 20000 in
theorem ggX11_drawn_X11_draw : GoodIn wsX11_drawn wsX11_draw := goodIn_r _ [19, 20, 3, 21, 22, 23, 36, 37, 38, 39, 40, 41, 42, 43, 44, 45, 46, 47, 48, 49, 50, 51, 52, 53, 54, 55, 56, 57, 58, 59, 60, 61, 62, 63, 64] (by decide +kernel) (by decide +kernel)
set_option maxRecDepth 20000 in
theorem gX11_drawn_X11_draw : GoodIn wsX11_drawn (wsV RX11 235 RX11 yX11_draw wsX11_draw) := goodIn_app (goodIn_of _ (by decide +kernel)) ggX11_drawn_X11_draw
set_option maxRecDepth 20000 in
theorem ggX11_drawn_X11_layValues : GoodIn wsX11_drawn wsX11_layValues := goodIn_r _ [27, 7, 6, 4, 5, 28, 29, 30, 31, 10, 32, 33, 34, 35, 36, 37, 38, 39, 40, 41, 42, 43, 44, 45, 46, 47, 48, 49, 50, 51, 52, 53, 54, 55, 56, 57, 58, 59, 60, 61, 62, 63, 64] (by decide +kernel) (by decide +kernel)
set_option maxRecDepth 20000 in
theorem gX11_drawn_X11_layValues : GoodIn wsX11_drawn (wsV RX11 126 RX11 yX11_layValues wsX11_layValues) := goodIn_app (goodIn_of _ (by decide +kernel)) ggX11_drawn_X11_layValues
theorem dX11_drawn_0 : decode cX11_drawn 0 = .ok (.iload_n 1, 1) := by decide +kernel
theorem dX11_drawn_1 : decode cX11_drawn 1 = .ok (.i2l, 1) := by decide +kernel
theorem dX11_drawn_2 : decode cX11_drawn 2 = .ok (.lconst 1, 1) := by decide +kernel
theorem dX11_drawn_3 : decode cX11_drawn 3 = .ok (.ldc2_w 231, 3) := by decide +kernel
theorem dX11_drawn_6 : decode cX11_drawn 6 = .ok (.invokestatic 55, 3) := by decide +kernel
theorem dX11_drawn_9 : decode cX11_drawn 9 = .ok (.ifCond .eq 19, 3) := by decide +kernel
theorem dX11_drawn_12 : decode cX11_drawn 12 = .ok (.iload_n 2, 1) := by decide +kernel
theorem dX11_drawn_13 : decode cX11_drawn 13 = .ok (.ifCond .lt 15, 3) := by decide +kernel
theorem dX11_drawn_16 : decode cX11_drawn 16 = .ok (.iload_n 3, 1) := by decide +kernel
theorem dX11_drawn_17 : decode cX11_drawn 17 = .ok (.i2l, 1) := by decide +kernel
theorem dX11_drawn_18 : decode cX11_drawn 18 = .ok (.lconst 0, 1) := by decide +kernel
theorem dX11_drawn_19 : decode cX11_drawn 19 = .ok (.ldc2_w 233, 3) := by decide +kernel
theorem dX11_drawn_22 : decode cX11_drawn 22 = .ok (.invokestatic 55, 3) := by decide +kernel
theorem dX11_drawn_25 : decode cX11_drawn 25 = .ok (.ifCond .ne 6, 3) := by decide +kernel
theorem dX11_drawn_28 : decode cX11_drawn 28 = .ok (.bipush (-102), 2) := by decide +kernel
theorem dX11_drawn_30 : decode cX11_drawn 30 = .ok (.ireturn, 1) := by decide +kernel
theorem dX11_drawn_31 : decode cX11_drawn 31 = .ok (.aload_n 0, 1) := by decide +kernel
theorem dX11_drawn_32 : decode cX11_drawn 32 = .ok (.invokevirtual 181, 3) := by decide +kernel
theorem dX11_drawn_35 : decode cX11_drawn 35 = .ok (.ifCond .eq 6, 3) := by decide +kernel
theorem dX11_drawn_38 : decode cX11_drawn 38 = .ok (.bipush (-103), 2) := by decide +kernel
theorem dX11_drawn_40 : decode cX11_drawn 40 = .ok (.ireturn, 1) := by decide +kernel
theorem dX11_drawn_41 : decode cX11_drawn 41 = .ok (.aload_n 0, 1) := by decide +kernel
theorem dX11_drawn_42 : decode cX11_drawn 42 = .ok (.iload_n 2, 1) := by decide +kernel
theorem dX11_drawn_43 : decode cX11_drawn 43 = .ok (.putfield 223, 3) := by decide +kernel
theorem dX11_drawn_46 : decode cX11_drawn 46 = .ok (.iconst 0, 1) := by decide +kernel
theorem dX11_drawn_47 : decode cX11_drawn 47 = .ok (.istore 4, 2) := by decide +kernel
theorem dX11_drawn_49 : decode cX11_drawn 49 = .ok (.iconst 0, 1) := by decide +kernel
theorem dX11_drawn_50 : decode cX11_drawn 50 = .ok (.istore 5, 2) := by decide +kernel
theorem dX11_drawn_52 : decode cX11_drawn 52 = .ok (.iconst 0, 1) := by decide +kernel
theorem dX11_drawn_53 : decode cX11_drawn 53 = .ok (.istore 6, 2) := by decide +kernel
theorem dX11_drawn_55 : decode cX11_drawn 55 = .ok (.iload 6, 2) := by decide +kernel
theorem dX11_drawn_57 : decode cX11_drawn 57 = .ok (.iload_n 1, 1) := by decide +kernel
theorem dX11_drawn_58 : decode cX11_drawn 58 = .ok (.if_icmp .ge 94, 3) := by decide +kernel
theorem dX11_drawn_61 : decode cX11_drawn 61 = .ok (.iconst 0, 1) := by decide +kernel
theorem dX11_drawn_62 : decode cX11_drawn 62 = .ok (.istore 7, 2) := by decide +kernel
theorem dX11_drawn_64 : decode cX11_drawn 64 = .ok (.iload 7, 2) := by decide +kernel
theorem dX11_drawn_66 : decode cX11_drawn 66 = .ok (.aload_n 0, 1) := by decide +kernel
theorem dX11_drawn_67 : decode cX11_drawn 67 = .ok (.getfield 97, 3) := by decide +kernel
theorem dX11_drawn_70 : decode cX11_drawn 70 = .ok (.if_icmp .ge 22, 3) := by decide +kernel
theorem dX11_drawn_73 : decode cX11_drawn 73 = .ok (.aload_n 0, 1) := by decide +kernel
theorem dX11_drawn_74 : decode cX11_drawn 74 = .ok (.getfield 28, 3) := by decide +kernel
theorem dX11_drawn_77 : decode cX11_drawn 77 = .ok (.iload 7, 2) := by decide +kernel
theorem dX11_drawn_79 : decode cX11_drawn 79 = .ok (.aload_n 0, 1) := by decide +kernel
theorem dX11_drawn_80 : decode cX11_drawn 80 = .ok (.bipush 10, 2) := by decide +kernel
theorem dX11_drawn_82 : decode cX11_drawn 82 = .ok (.invokevirtual 235, 3) := by decide +kernel
theorem dX11_drawn_85 : decode cX11_drawn 85 = .ok (.iastore, 1) := by decide +kernel
theorem dX11_drawn_86 : decode cX11_drawn 86 = .ok (.iinc 7 1, 3) := by decide +kernel
theorem dX11_drawn_89 : decode cX11_drawn 89 = .ok (.goto (-25), 3) := by decide +kernel
theorem dX11_drawn_92 : decode cX11_drawn 92 = .ok (.aload_n 0, 1) := by decide +kernel
theorem dX11_drawn_93 : decode cX11_drawn 93 = .ok (.invokevirtual 126, 3) := by decide +kernel
theorem dX11_drawn_96 : decode cX11_drawn 96 = .ok (.iload 4, 2) := by decide +kernel
theorem dX11_drawn_98 : decode cX11_drawn 98 = .ok (.aload_n 0, 1) := by decide +kernel
theorem dX11_drawn_99 : decode cX11_drawn 99 = .ok (.getfield 25, 3) := by decide +kernel
theorem dX11_drawn_102 : decode cX11_drawn 102 = .ok (.aload_n 0, 1) := by decide +kernel
theorem dX11_drawn_103 : decode cX11_drawn 103 = .ok (.getfield 103, 3) := by decide +kernel
theorem dX11_drawn_106 : decode cX11_drawn 106 = .ok (.iconst 1, 1) := by decide +kernel
theorem dX11_drawn_107 : decode cX11_drawn 107 = .ok (.isub, 1) := by decide +kernel
theorem dX11_drawn_108 : decode cX11_drawn 108 = .ok (.iaload, 1) := by decide +kernel
theorem dX11_drawn_109 : decode cX11_drawn 109 = .ok (.iadd, 1) := by decide +kernel
theorem dX11_drawn_110 : decode cX11_drawn 110 = .ok (.istore 4, 2) := by decide +kernel
theorem dX11_drawn_112 : decode cX11_drawn 112 = .ok (.aload_n 0, 1) := by decide +kernel
theorem dX11_drawn_113 : decode cX11_drawn 113 = .ok (.getfield 25, 3) := by decide +kernel
theorem dX11_drawn_116 : decode cX11_drawn 116 = .ok (.aload_n 0, 1) := by decide +kernel
theorem dX11_drawn_117 : decode cX11_drawn 117 = .ok (.getfield 103, 3) := by decide +kernel
theorem dX11_drawn_120 : decode cX11_drawn 120 = .ok (.iconst 1, 1) := by decide +kernel
theorem dX11_drawn_121 : decode cX11_drawn 121 = .ok (.isub, 1) := by decide +kernel
theorem dX11_drawn_122 : decode cX11_drawn 122 = .ok (.iaload, 1) := by decide +kernel
theorem dX11_drawn_123 : decode cX11_drawn 123 = .ok (.iload 5, 2) := by decide +kernel
theorem dX11_drawn_125 : decode cX11_drawn 125 = .ok (.if_icmp .le 17, 3) := by decide +kernel
theorem dX11_drawn_128 : decode cX11_drawn 128 = .ok (.aload_n 0, 1) := by decide +kernel
theorem dX11_drawn_129 : decode cX11_drawn 129 = .ok (.getfield 25, 3) := by decide +kernel
theorem dX11_drawn_132 : decode cX11_drawn 132 = .ok (.aload_n 0, 1) := by decide +kernel
theorem dX11_drawn_133 : decode cX11_drawn 133 = .ok (.getfield 103, 3) := by decide +kernel
theorem dX11_drawn_136 : decode cX11_drawn 136 = .ok (.iconst 1, 1) := by decide +kernel
theorem dX11_drawn_137 : decode cX11_drawn 137 = .ok (.isub, 1) := by decide +kernel
theorem dX11_drawn_138 : decode cX11_drawn 138 = .ok (.iaload, 1) := by decide +kernel
theorem dX11_drawn_139 : decode cX11_drawn 139 = .ok (.goto 5, 3) := by decide +kernel
theorem dX11_drawn_142 : decode cX11_drawn 142 = .ok (.iload 5, 2) := by decide +kernel
theorem dX11_drawn_144 : decode cX11_drawn 144 = .ok (.istore 5, 2) := by decide +kernel
theorem dX11_drawn_146 : decode cX11_drawn 146 = .ok (.iinc 6 1, 3) := by decide +kernel
theorem dX11_drawn_149 : decode cX11_drawn 149 = .ok (.goto (-94), 3) := by decide +kernel
theorem dX11_drawn_152 : decode cX11_drawn 152 = .ok (.iload_n 3, 1) := by decide +kernel
theorem dX11_drawn_153 : decode cX11_drawn 153 = .ok (.ifCond .ne 8, 3) := by decide +kernel
theorem dX11_drawn_156 : decode cX11_drawn 156 = .ok (.iload 4, 2) := by decide +kernel
theorem dX11_drawn_158 : decode cX11_drawn 158 = .ok (.goto 17, 3) := by decide +kernel
theorem dX11_drawn_161 : decode cX11_drawn 161 = .ok (.iload_n 3, 1) := by decide +kernel
theorem dX11_drawn_162 : decode cX11_drawn 162 = .ok (.iconst 1, 1) := by decide +kernel
theorem dX11_drawn_163 : decode cX11_drawn 163 = .ok (.if_icmp .ne 8, 3) := by decide +kernel
theorem dX11_drawn_166 : decode cX11_drawn 166 = .ok (.iload 5, 2) := by decide +kernel
theorem dX11_drawn_168 : decode cX11_drawn 168 = .ok (.goto 7, 3) := by decide +kernel
theorem dX11_drawn_171 : decode cX11_drawn 171 = .ok (.aload_n 0, 1) := by decide +kernel
theorem dX11_drawn_172 : decode cX11_drawn 172 = .ok (.getfield 223, 3) := by decide +kernel
theorem dX11_drawn_175 : decode cX11_drawn 175 = .ok (.ireturn, 1) := by decide +kernel
set_option maxRecDepth 20000 in
theorem ggX11_image_X11_lacks : GoodIn wsX11_image wsX11_lacks := goodIn_r _ [19, 20, 24, 25, 26, 27, 28, 29, 30, 31, 32, 33, 34, 35, 36, 37, 38, 39, 40, 41, 42, 43, 44, 45, 46, 47, 48, 49, 50, 51, 52] (by decide +kernel) (by decide +kernel)
set_option maxRecDepth 20000 in
theorem gX11_image_X11_lacks : GoodIn wsX11_image (wsV RX11 181 RX11 yX11_lacks wsX11_lacks) := goodIn_app (goodIn_of _ (by decide +kernel)) ggX11_image_X11_lacks
set_option maxRecDepth 20000 in
theorem ggX11_image_X11_copy : GoodIn wsX11_image wsX11_copy := goodIn_r _ [23] (by decide +kernel) (by decide +kernel)
set_option maxRecDepth 20000 in
theorem gX11_image_X11_copy : GoodIn wsX11_image (va_wsS RX11 106 yX11_copy wsX11_copy) := goodIn_app (goodIn_of _ (by decide +kernel)) ggX11_image_X11_copy
theorem dX11_image_0 : decode cX11_image 0 = .ok (.aload_n 0, 1) := by decide +kernel
theorem dX11_image_1 : decode cX11_image 1 = .ok (.invokevirtual 181, 3) := by decide +kernel
theorem dX11_image_4 : decode cX11_image 4 = .ok (.ifCond .eq 6, 3) := by decide +kernel
theorem dX11_image_7 : decode cX11_image 7 = .ok (.bipush (-103), 2) := by decide +kernel
theorem dX11_image_9 : decode cX11_image 9 = .ok (.ireturn, 1) := by decide +kernel
theorem dX11_image_10 : decode cX11_image 10 = .ok (.aload_n 0, 1) := by decide +kernel
theorem dX11_image_11 : decode cX11_image 11 = .ok (.getfield 16, 3) := by decide +kernel
theorem dX11_image_14 : decode cX11_image 14 = .ok (.aload_n 0, 1) := by decide +kernel
theorem dX11_image_15 : decode cX11_image 15 = .ok (.getfield 37, 3) := by decide +kernel
theorem dX11_image_18 : decode cX11_image 18 = .ok (.invokestatic 106, 3) := by decide +kernel
theorem dX11_image_21 : decode cX11_image 21 = .ok (.aload_n 0, 1) := by decide +kernel
theorem dX11_image_22 : decode cX11_image 22 = .ok (.getfield 19, 3) := by decide +kernel
theorem dX11_image_25 : decode cX11_image 25 = .ok (.aload_n 0, 1) := by decide +kernel
theorem dX11_image_26 : decode cX11_image 26 = .ok (.getfield 40, 3) := by decide +kernel
theorem dX11_image_29 : decode cX11_image 29 = .ok (.invokestatic 106, 3) := by decide +kernel
theorem dX11_image_32 : decode cX11_image 32 = .ok (.aload_n 0, 1) := by decide +kernel
theorem dX11_image_33 : decode cX11_image 33 = .ok (.getfield 22, 3) := by decide +kernel
theorem dX11_image_36 : decode cX11_image 36 = .ok (.aload_n 0, 1) := by decide +kernel
theorem dX11_image_37 : decode cX11_image 37 = .ok (.getfield 43, 3) := by decide +kernel
theorem dX11_image_40 : decode cX11_image 40 = .ok (.invokestatic 106, 3) := by decide +kernel
theorem dX11_image_43 : decode cX11_image 43 = .ok (.aload_n 0, 1) := by decide +kernel
theorem dX11_image_44 : decode cX11_image 44 = .ok (.getfield 34, 3) := by decide +kernel
theorem dX11_image_47 : decode cX11_image 47 = .ok (.aload_n 0, 1) := by decide +kernel
theorem dX11_image_48 : decode cX11_image 48 = .ok (.getfield 46, 3) := by decide +kernel
theorem dX11_image_51 : decode cX11_image 51 = .ok (.invokestatic 106, 3) := by decide +kernel
theorem dX11_image_54 : decode cX11_image 54 = .ok (.aload_n 0, 1) := by decide +kernel
theorem dX11_image_55 : decode cX11_image 55 = .ok (.aload_n 0, 1) := by decide +kernel
theorem dX11_image_56 : decode cX11_image 56 = .ok (.getfield 110, 3) := by decide +kernel
theorem dX11_image_59 : decode cX11_image 59 = .ok (.putfield 238, 3) := by decide +kernel
theorem dX11_image_62 : decode cX11_image 62 = .ok (.aload_n 0, 1) := by decide +kernel
theorem dX11_image_63 : decode cX11_image 63 = .ok (.aload_n 0, 1) := by decide +kernel
theorem dX11_image_64 : decode cX11_image 64 = .ok (.getfield 113, 3) := by decide +kernel
theorem dX11_image_67 : decode cX11_image 67 = .ok (.putfield 241, 3) := by decide +kernel
theorem dX11_image_70 : decode cX11_image 70 = .ok (.aload_n 0, 1) := by decide +kernel
theorem dX11_image_71 : decode cX11_image 71 = .ok (.aload_n 0, 1) := by decide +kernel
theorem dX11_image_72 : decode cX11_image 72 = .ok (.getfield 116, 3) := by decide +kernel
theorem dX11_image_75 : decode cX11_image 75 = .ok (.putfield 49, 3) := by decide +kernel
theorem dX11_image_78 : decode cX11_image 78 = .ok (.aload_n 0, 1) := by decide +kernel
theorem dX11_image_79 : decode cX11_image 79 = .ok (.getfield 110, 3) := by decide +kernel
theorem dX11_image_82 : decode cX11_image 82 = .ok (.ireturn, 1) := by decide +kernel
set_option maxRecDepth 20000 in
theorem ggX11_restore_X11_copy : GoodIn wsX11_restore wsX11_copy := goodIn_r _ [18] (by decide +kernel) (by decide +kernel)
set_option maxRecDepth 20000 in
theorem gX11_restore_X11_copy : GoodIn wsX11_restore (va_wsS RX11 106 yX11_copy wsX11_copy) := goodIn_app (goodIn_of _ (by decide +kernel)) ggX11_restore_X11_copy
theorem dX11_restore_0 : decode cX11_restore 0 = .ok (.aload_n 0, 1) := by decide +kernel
theorem dX11_restore_1 : decode cX11_restore 1 = .ok (.getfield 49, 3) := by decide +kernel
theorem dX11_restore_4 : decode cX11_restore 4 = .ok (.aload_n 0, 1) := by decide +kernel
theorem dX11_restore_5 : decode cX11_restore 5 = .ok (.getfield 116, 3) := by decide +kernel
theorem dX11_restore_8 : decode cX11_restore 8 = .ok (.if_icmp .eq 6, 3) := by decide +kernel
theorem dX11_restore_11 : decode cX11_restore 11 = .ok (.bipush (-103), 2) := by decide +kernel
theorem dX11_restore_13 : decode cX11_restore 13 = .ok (.ireturn, 1) := by decide +kernel
theorem dX11_restore_14 : decode cX11_restore 14 = .ok (.aload_n 0, 1) := by decide +kernel
theorem dX11_restore_15 : decode cX11_restore 15 = .ok (.getfield 37, 3) := by decide +kernel
theorem dX11_restore_18 : decode cX11_restore 18 = .ok (.aload_n 0, 1) := by decide +kernel
theorem dX11_restore_19 : decode cX11_restore 19 = .ok (.getfield 16, 3) := by decide +kernel
theorem dX11_restore_22 : decode cX11_restore 22 = .ok (.invokestatic 106, 3) := by decide +kernel
theorem dX11_restore_25 : decode cX11_restore 25 = .ok (.aload_n 0, 1) := by decide +kernel
theorem dX11_restore_26 : decode cX11_restore 26 = .ok (.getfield 40, 3) := by decide +kernel
theorem dX11_restore_29 : decode cX11_restore 29 = .ok (.aload_n 0, 1) := by decide +kernel
theorem dX11_restore_30 : decode cX11_restore 30 = .ok (.getfield 19, 3) := by decide +kernel
theorem dX11_restore_33 : decode cX11_restore 33 = .ok (.invokestatic 106, 3) := by decide +kernel
theorem dX11_restore_36 : decode cX11_restore 36 = .ok (.aload_n 0, 1) := by decide +kernel
theorem dX11_restore_37 : decode cX11_restore 37 = .ok (.getfield 43, 3) := by decide +kernel
theorem dX11_restore_40 : decode cX11_restore 40 = .ok (.aload_n 0, 1) := by decide +kernel
theorem dX11_restore_41 : decode cX11_restore 41 = .ok (.getfield 22, 3) := by decide +kernel
theorem dX11_restore_44 : decode cX11_restore 44 = .ok (.invokestatic 106, 3) := by decide +kernel
theorem dX11_restore_47 : decode cX11_restore 47 = .ok (.aload_n 0, 1) := by decide +kernel
theorem dX11_restore_48 : decode cX11_restore 48 = .ok (.getfield 46, 3) := by decide +kernel
theorem dX11_restore_51 : decode cX11_restore 51 = .ok (.aload_n 0, 1) := by decide +kernel
theorem dX11_restore_52 : decode cX11_restore 52 = .ok (.getfield 34, 3) := by decide +kernel
theorem dX11_restore_55 : decode cX11_restore 55 = .ok (.invokestatic 106, 3) := by decide +kernel
theorem dX11_restore_58 : decode cX11_restore 58 = .ok (.aload_n 0, 1) := by decide +kernel
theorem dX11_restore_59 : decode cX11_restore 59 = .ok (.aload_n 0, 1) := by decide +kernel
theorem dX11_restore_60 : decode cX11_restore 60 = .ok (.getfield 238, 3) := by decide +kernel
theorem dX11_restore_63 : decode cX11_restore 63 = .ok (.putfield 110, 3) := by decide +kernel
theorem dX11_restore_66 : decode cX11_restore 66 = .ok (.aload_n 0, 1) := by decide +kernel
theorem dX11_restore_67 : decode cX11_restore 67 = .ok (.aload_n 0, 1) := by decide +kernel
theorem dX11_restore_68 : decode cX11_restore 68 = .ok (.getfield 241, 3) := by decide +kernel
theorem dX11_restore_71 : decode cX11_restore 71 = .ok (.putfield 113, 3) := by decide +kernel
theorem dX11_restore_74 : decode cX11_restore 74 = .ok (.aload_n 0, 1) := by decide +kernel
theorem dX11_restore_75 : decode cX11_restore 75 = .ok (.getfield 110, 3) := by decide +kernel
theorem dX11_restore_78 : decode cX11_restore 78 = .ok (.ireturn, 1) := by decide +kernel
set_option maxRecDepth 20000 in
theorem ggX11_valuesAll_X11_layNow : GoodIn wsX11_valuesAll wsX11_layNow := goodIn_r _ [7, 8, 9, 10, 11, 6, 12, 13, 14, 15, 16, 1, 2, 17, 18, 19, 20, 21, 22, 23, 24, 25, 26, 27, 28, 29, 30, 31, 32, 33, 34, 35, 36, 37, 38, 39, 40, 41, 42, 43, 44, 45, 46, 47, 48, 49, 50, 51, 52, 53, 54] (by decide +kernel) (by decide +kernel)
set_option maxRecDepth 20000 in
theorem gX11_valuesAll_X11_layNow : GoodIn wsX11_valuesAll (wsV RX11 129 RX11 yX11_layNow wsX11_layNow) := goodIn_app (goodIn_of _ (by decide +kernel)) ggX11_valuesAll_X11_layNow
theorem dX11_valuesAll_0 : decode cX11_valuesAll 0 = .ok (.aload_n 0, 1) := by decide +kernel
theorem dX11_valuesAll_1 : decode cX11_valuesAll 1 = .ok (.invokevirtual 129, 3) := by decide +kernel
theorem dX11_valuesAll_4 : decode cX11_valuesAll 4 = .ok (.iconst 0, 1) := by decide +kernel
theorem dX11_valuesAll_5 : decode cX11_valuesAll 5 = .ok (.istore_n 1, 1) := by decide +kernel
theorem dX11_valuesAll_6 : decode cX11_valuesAll 6 = .ok (.iconst 0, 1) := by decide +kernel
theorem dX11_valuesAll_7 : decode cX11_valuesAll 7 = .ok (.istore_n 2, 1) := by decide +kernel
theorem dX11_valuesAll_8 : decode cX11_valuesAll 8 = .ok (.iload_n 2, 1) := by decide +kernel
theorem dX11_valuesAll_9 : decode cX11_valuesAll 9 = .ok (.aload_n 0, 1) := by decide +kernel
theorem dX11_valuesAll_10 : decode cX11_valuesAll 10 = .ok (.getfield 103, 3) := by decide +kernel
theorem dX11_valuesAll_13 : decode cX11_valuesAll 13 = .ok (.if_icmp .ge 18, 3) := by decide +kernel
theorem dX11_valuesAll_16 : decode cX11_valuesAll 16 = .ok (.iload_n 1, 1) := by decide +kernel
theorem dX11_valuesAll_17 : decode cX11_valuesAll 17 = .ok (.aload_n 0, 1) := by decide +kernel
theorem dX11_valuesAll_18 : decode cX11_valuesAll 18 = .ok (.getfield 25, 3) := by decide +kernel
theorem dX11_valuesAll_21 : decode cX11_valuesAll 21 = .ok (.iload_n 2, 1) := by decide +kernel
theorem dX11_valuesAll_22 : decode cX11_valuesAll 22 = .ok (.iaload, 1) := by decide +kernel
theorem dX11_valuesAll_23 : decode cX11_valuesAll 23 = .ok (.iadd, 1) := by decide +kernel
theorem dX11_valuesAll_24 : decode cX11_valuesAll 24 = .ok (.istore_n 1, 1) := by decide +kernel
theorem dX11_valuesAll_25 : decode cX11_valuesAll 25 = .ok (.iinc 2 1, 3) := by decide +kernel
theorem dX11_valuesAll_28 : decode cX11_valuesAll 28 = .ok (.goto (-20), 3) := by decide +kernel
theorem dX11_valuesAll_31 : decode cX11_valuesAll 31 = .ok (.iload_n 1, 1) := by decide +kernel
theorem dX11_valuesAll_32 : decode cX11_valuesAll 32 = .ok (.ireturn, 1) := by decide +kernel
set_option maxRecDepth 20000 in
theorem ggX11_toldMany_X11_layNow : GoodIn wsX11_toldMany wsX11_layNow := goodIn_r _ [8, 9, 10, 11, 12, 7, 13, 14, 15, 16, 17, 1, 3, 18, 19, 20, 21, 22, 23, 24, 25, 26, 27, 28, 29, 30, 31, 32, 33, 34, 35, 36, 37, 38, 39, 40, 41, 42, 43, 44, 45, 46, 47, 48, 49, 50, 51, 52, 53, 54, 55] (by decide +kernel) (by decide +kernel)
set_option maxRecDepth 20000 in
theorem gX11_toldMany_X11_layNow : GoodIn wsX11_toldMany (wsV RX11 129 RX11 yX11_layNow wsX11_layNow) := goodIn_app (goodIn_of _ (by decide +kernel)) ggX11_toldMany_X11_layNow
theorem dX11_toldMany_0 : decode cX11_toldMany 0 = .ok (.aload_n 0, 1) := by decide +kernel
theorem dX11_toldMany_1 : decode cX11_toldMany 1 = .ok (.invokevirtual 129, 3) := by decide +kernel
theorem dX11_toldMany_4 : decode cX11_toldMany 4 = .ok (.iconst 0, 1) := by decide +kernel
theorem dX11_toldMany_5 : decode cX11_toldMany 5 = .ok (.istore_n 2, 1) := by decide +kernel
theorem dX11_toldMany_6 : decode cX11_toldMany 6 = .ok (.iconst 0, 1) := by decide +kernel
theorem dX11_toldMany_7 : decode cX11_toldMany 7 = .ok (.istore_n 3, 1) := by decide +kernel
theorem dX11_toldMany_8 : decode cX11_toldMany 8 = .ok (.iload_n 3, 1) := by decide +kernel
theorem dX11_toldMany_9 : decode cX11_toldMany 9 = .ok (.aload_n 0, 1) := by decide +kernel
theorem dX11_toldMany_10 : decode cX11_toldMany 10 = .ok (.getfield 103, 3) := by decide +kernel
theorem dX11_toldMany_13 : decode cX11_toldMany 13 = .ok (.if_icmp .ge 46, 3) := by decide +kernel
theorem dX11_toldMany_16 : decode cX11_toldMany 16 = .ok (.iload_n 2, 1) := by decide +kernel
theorem dX11_toldMany_17 : decode cX11_toldMany 17 = .ok (.aload_n 0, 1) := by decide +kernel
theorem dX11_toldMany_18 : decode cX11_toldMany 18 = .ok (.getfield 22, 3) := by decide +kernel
theorem dX11_toldMany_21 : decode cX11_toldMany 21 = .ok (.iload_n 3, 1) := by decide +kernel
theorem dX11_toldMany_22 : decode cX11_toldMany 22 = .ok (.iaload, 1) := by decide +kernel
theorem dX11_toldMany_23 : decode cX11_toldMany 23 = .ok (.iconst (-1), 1) := by decide +kernel
theorem dX11_toldMany_24 : decode cX11_toldMany 24 = .ok (.if_icmp .eq 26, 3) := by decide +kernel
theorem dX11_toldMany_27 : decode cX11_toldMany 27 = .ok (.iload_n 1, 1) := by decide +kernel
theorem dX11_toldMany_28 : decode cX11_toldMany 28 = .ok (.ifCond .eq 18, 3) := by decide +kernel
theorem dX11_toldMany_31 : decode cX11_toldMany 31 = .ok (.aload_n 0, 1) := by decide +kernel
theorem dX11_toldMany_32 : decode cX11_toldMany 32 = .ok (.getfield 22, 3) := by decide +kernel
theorem dX11_toldMany_35 : decode cX11_toldMany 35 = .ok (.iload_n 3, 1) := by decide +kernel
theorem dX11_toldMany_36 : decode cX11_toldMany 36 = .ok (.iaload, 1) := by decide +kernel
theorem dX11_toldMany_37 : decode cX11_toldMany 37 = .ok (.aload_n 0, 1) := by decide +kernel
theorem dX11_toldMany_38 : decode cX11_toldMany 38 = .ok (.getfield 25, 3) := by decide +kernel
theorem dX11_toldMany_41 : decode cX11_toldMany 41 = .ok (.iload_n 3, 1) := by decide +kernel
theorem dX11_toldMany_42 : decode cX11_toldMany 42 = .ok (.iaload, 1) := by decide +kernel
theorem dX11_toldMany_43 : decode cX11_toldMany 43 = .ok (.if_icmp .ne 7, 3) := by decide +kernel
theorem dX11_toldMany_46 : decode cX11_toldMany 46 = .ok (.iconst 1, 1) := by decide +kernel
theorem dX11_toldMany_47 : decode cX11_toldMany 47 = .ok (.goto 4, 3) := by decide +kernel
theorem dX11_toldMany_50 : decode cX11_toldMany 50 = .ok (.iconst 0, 1) := by decide +kernel
theorem dX11_toldMany_51 : decode cX11_toldMany 51 = .ok (.iadd, 1) := by decide +kernel
theorem dX11_toldMany_52 : decode cX11_toldMany 52 = .ok (.istore_n 2, 1) := by decide +kernel
theorem dX11_toldMany_53 : decode cX11_toldMany 53 = .ok (.iinc 3 1, 3) := by decide +kernel
theorem dX11_toldMany_56 : decode cX11_toldMany 56 = .ok (.goto (-48), 3) := by decide +kernel
theorem dX11_toldMany_59 : decode cX11_toldMany 59 = .ok (.iload_n 2, 1) := by decide +kernel
theorem dX11_toldMany_60 : decode cX11_toldMany 60 = .ok (.ireturn, 1) := by decide +kernel
set_option maxRecDepth 20000 in
theorem ggX11_countOf_X11_lacks : GoodIn wsX11_countOf wsX11_lacks := goodIn_r _ [13, 1, 49, 50, 51, 52, 53, 54, 55, 56, 57, 58, 59, 60, 61, 62, 63, 64, 65, 66, 67, 68, 69, 70, 71, 72, 73, 74, 75, 76, 77] (by decide +kernel) (by decide +kernel)
set_option maxRecDepth 20000 in
theorem gX11_countOf_X11_lacks : GoodIn wsX11_countOf (wsV RX11 181 RX11 yX11_lacks wsX11_lacks) := goodIn_app (goodIn_of _ (by decide +kernel)) ggX11_countOf_X11_lacks
set_option maxRecDepth 20000 in
theorem ggX11_countOf_X11_topNow : GoodIn wsX11_countOf wsX11_topNow := goodIn_r _ [17, 18, 2, 19, 20, 21, 12, 22, 23, 24, 25, 26, 27, 28, 29, 30, 31, 1, 32, 33, 34, 35, 36, 37, 38, 39, 49, 50, 51, 52, 53, 54, 55, 56, 57, 58, 59, 60, 61, 62, 63, 64, 65, 66, 67, 68, 69, 70, 71, 72, 73, 74, 75, 76, 77] (by decide +kernel) (by decide +kernel)
set_option maxRecDepth 20000 in
theorem gX11_countOf_X11_topNow : GoodIn wsX11_countOf (wsV RX11 155 RX11 yX11_topNow wsX11_topNow) := goodIn_app (goodIn_of _ (by decide +kernel)) ggX11_countOf_X11_topNow
set_option maxRecDepth 20000 in
theorem ggX11_countOf_X11_valuesAll : GoodIn wsX11_countOf wsX11_valuesAll := goodIn_r _ [43, 2, 18, 19, 20, 21, 12, 22, 23, 24, 25, 26, 27, 28, 29, 30, 31, 1, 32, 33, 34, 35, 36, 37, 38, 39, 49, 50, 51, 52, 53, 54, 55, 56, 57, 58, 59, 60, 61, 62, 63, 64, 65, 66, 67, 68, 69, 70, 71, 72, 73, 74, 75, 76, 77] (by decide +kernel) (by decide +kernel)
set_option maxRecDepth 20000 in
theorem gX11_countOf_X11_valuesAll : GoodIn wsX11_countOf (wsV RX11 244 RX11 yX11_valuesAll wsX11_valuesAll) := goodIn_app (goodIn_of _ (by decide +kernel)) ggX11_countOf_X11_valuesAll
set_option maxRecDepth 20000 in
theorem ggX11_countOf_X11_toldMany : GoodIn wsX11_countOf wsX11_toldMany := goodIn_r _ [47, 2, 48, 18, 19, 20, 21, 12, 22, 23, 24, 25, 26, 27, 28, 29, 30, 31, 1, 32, 33, 34, 35, 36, 37, 38, 39, 49, 50, 51, 52, 53, 54, 55, 56, 57, 58, 59, 60, 61, 62, 63, 64, 65, 66, 67, 68, 69, 70, 71, 72, 73, 74, 75, 76, 77] (by decide +kernel) (by decide +kernel)
set_option maxRecDepth 20000 in
theorem gX11_countOf_X11_toldMany : GoodIn wsX11_countOf (wsV RX11 247 RX11 yX11_toldMany wsX11_toldMany) := goodIn_app (goodIn_of _ (by decide +kernel)) ggX11_countOf_X11_toldMany
theorem dX11_countOf_0 : decode cX11_countOf 0 = .ok (.iload_n 1, 1) := by decide +kernel
theorem dX11_countOf_1 : decode cX11_countOf 1 = .ok (.tableswitch 136 0 11 #[63, 68, 73, 89, 94, 100, 106, 111, 116, 121, 126, 131], 63) := by decide +kernel
theorem dX11_countOf_64 : decode cX11_countOf 64 = .ok (.aload_n 0, 1) := by decide +kernel
theorem dX11_countOf_65 : decode cX11_countOf 65 = .ok (.getfield 97, 3) := by decide +kernel
theorem dX11_countOf_68 : decode cX11_countOf 68 = .ok (.ireturn, 1) := by decide +kernel
theorem dX11_countOf_69 : decode cX11_countOf 69 = .ok (.aload_n 0, 1) := by decide +kernel
theorem dX11_countOf_70 : decode cX11_countOf 70 = .ok (.getfield 103, 3) := by decide +kernel
theorem dX11_countOf_73 : decode cX11_countOf 73 = .ok (.ireturn, 1) := by decide +kernel
theorem dX11_countOf_74 : decode cX11_countOf 74 = .ok (.aload_n 0, 1) := by decide +kernel
theorem dX11_countOf_75 : decode cX11_countOf 75 = .ok (.invokevirtual 181, 3) := by decide +kernel
theorem dX11_countOf_78 : decode cX11_countOf 78 = .ok (.ifCond .eq 7, 3) := by decide +kernel
theorem dX11_countOf_81 : decode cX11_countOf 81 = .ok (.iconst (-1), 1) := by decide +kernel
theorem dX11_countOf_82 : decode cX11_countOf 82 = .ok (.goto 7, 3) := by decide +kernel
theorem dX11_countOf_85 : decode cX11_countOf 85 = .ok (.aload_n 0, 1) := by decide +kernel
theorem dX11_countOf_86 : decode cX11_countOf 86 = .ok (.invokevirtual 155, 3) := by decide +kernel
theorem dX11_countOf_89 : decode cX11_countOf 89 = .ok (.ireturn, 1) := by decide +kernel
theorem dX11_countOf_90 : decode cX11_countOf 90 = .ok (.aload_n 0, 1) := by decide +kernel
theorem dX11_countOf_91 : decode cX11_countOf 91 = .ok (.invokevirtual 244, 3) := by decide +kernel
theorem dX11_countOf_94 : decode cX11_countOf 94 = .ok (.ireturn, 1) := by decide +kernel
theorem dX11_countOf_95 : decode cX11_countOf 95 = .ok (.aload_n 0, 1) := by decide +kernel
theorem dX11_countOf_96 : decode cX11_countOf 96 = .ok (.iconst 0, 1) := by decide +kernel
theorem dX11_countOf_97 : decode cX11_countOf 97 = .ok (.invokevirtual 247, 3) := by decide +kernel
theorem dX11_countOf_100 : decode cX11_countOf 100 = .ok (.ireturn, 1) := by decide +kernel
theorem dX11_countOf_101 : decode cX11_countOf 101 = .ok (.aload_n 0, 1) := by decide +kernel
theorem dX11_countOf_102 : decode cX11_countOf 102 = .ok (.iconst 1, 1) := by decide +kernel
theorem dX11_countOf_103 : decode cX11_countOf 103 = .ok (.invokevirtual 247, 3) := by decide +kernel
theorem dX11_countOf_106 : decode cX11_countOf 106 = .ok (.ireturn, 1) := by decide +kernel
theorem dX11_countOf_107 : decode cX11_countOf 107 = .ok (.aload_n 0, 1) := by decide +kernel
theorem dX11_countOf_108 : decode cX11_countOf 108 = .ok (.getfield 110, 3) := by decide +kernel
theorem dX11_countOf_111 : decode cX11_countOf 111 = .ok (.ireturn, 1) := by decide +kernel
theorem dX11_countOf_112 : decode cX11_countOf 112 = .ok (.aload_n 0, 1) := by decide +kernel
theorem dX11_countOf_113 : decode cX11_countOf 113 = .ok (.getfield 113, 3) := by decide +kernel
theorem dX11_countOf_116 : decode cX11_countOf 116 = .ok (.ireturn, 1) := by decide +kernel
theorem dX11_countOf_117 : decode cX11_countOf 117 = .ok (.aload_n 0, 1) := by decide +kernel
theorem dX11_countOf_118 : decode cX11_countOf 118 = .ok (.getfield 59, 3) := by decide +kernel
theorem dX11_countOf_121 : decode cX11_countOf 121 = .ok (.ireturn, 1) := by decide +kernel
theorem dX11_countOf_122 : decode cX11_countOf 122 = .ok (.aload_n 0, 1) := by decide +kernel
theorem dX11_countOf_123 : decode cX11_countOf 123 = .ok (.getfield 116, 3) := by decide +kernel
theorem dX11_countOf_126 : decode cX11_countOf 126 = .ok (.ireturn, 1) := by decide +kernel
theorem dX11_countOf_127 : decode cX11_countOf 127 = .ok (.aload_n 0, 1) := by decide +kernel
theorem dX11_countOf_128 : decode cX11_countOf 128 = .ok (.getfield 191, 3) := by decide +kernel
theorem dX11_countOf_131 : decode cX11_countOf 131 = .ok (.ireturn, 1) := by decide +kernel
theorem dX11_countOf_132 : decode cX11_countOf 132 = .ok (.aload_n 0, 1) := by decide +kernel
theorem dX11_countOf_133 : decode cX11_countOf 133 = .ok (.getfield 207, 3) := by decide +kernel
theorem dX11_countOf_136 : decode cX11_countOf 136 = .ok (.ireturn, 1) := by decide +kernel
theorem dX11_countOf_137 : decode cX11_countOf 137 = .ok (.bipush (-102), 2) := by decide +kernel
theorem dX11_countOf_139 : decode cX11_countOf 139 = .ok (.ireturn, 1) := by decide +kernel
set_option maxRecDepth 20000 in
theorem ggX11_count_X11_countOf : GoodIn wsX11_count wsX11_countOf := goodIn_r _ [5, 6, 7, 8, 9, 10, 11, 12, 13, 14, 15, 16, 4, 17, 18, 19, 20, 21, 22, 23, 24, 25, 26, 27, 28, 29, 30, 31, 32, 33, 34, 35, 36, 37, 38, 39, 40, 41, 42, 43, 44, 45, 46, 47, 48, 49, 50, 51, 52, 53, 54, 55, 56, 57, 58, 59, 60, 61, 62, 63, 64, 65, 66, 67, 68, 69, 70, 71, 72, 73, 74, 75, 76, 77, 78, 79, 80, 81] (by decide +kernel) (by decide +kernel)
set_option maxRecDepth 20000 in
theorem gX11_count_X11_countOf : GoodIn wsX11_count (wsV RX11 251 RX11 yX11_countOf wsX11_countOf) := goodIn_app (goodIn_of _ (by decide +kernel)) ggX11_count_X11_countOf
theorem dX11_count_0 : decode cX11_count 0 = .ok (.aload_n 0, 1) := by decide +kernel
theorem dX11_count_1 : decode cX11_count 1 = .ok (.iload_n 1, 1) := by decide +kernel
theorem dX11_count_2 : decode cX11_count 2 = .ok (.invokevirtual 251, 3) := by decide +kernel
theorem dX11_count_5 : decode cX11_count 5 = .ok (.ireturn, 1) := by decide +kernel
theorem dX11_say_0 : decode cX11_say 0 = .ok (.aload_n 0, 1) := by decide +kernel
theorem dX11_say_1 : decode cX11_say 1 = .ok (.ldc2_w 254, 3) := by decide +kernel
theorem dX11_say_4 : decode cX11_say 4 = .ok (.aload_n 0, 1) := by decide +kernel
theorem dX11_say_5 : decode cX11_say 5 = .ok (.getfield 256, 3) := by decide +kernel
theorem dX11_say_8 : decode cX11_say 8 = .ok (.lmul, 1) := by decide +kernel
theorem dX11_say_9 : decode cX11_say 9 = .ok (.lload_n 1, 1) := by decide +kernel
theorem dX11_say_10 : decode cX11_say 10 = .ok (.ladd, 1) := by decide +kernel
theorem dX11_say_11 : decode cX11_say 11 = .ok (.putfield 256, 3) := by decide +kernel
theorem dX11_say_14 : decode cX11_say 14 = .ok (.return_, 1) := by decide +kernel
set_option maxRecDepth 20000 in
theorem ggX11_digest_X11_tellBrick : GoodIn wsX11_digest wsX11_tellBrick := goodIn_r _ [11, 4, 12, 13, 14, 15, 16, 17, 10, 18, 19, 20, 21, 22, 23, 24, 25, 26, 27, 3, 28, 29, 30, 31, 32, 33, 34, 35, 36, 37, 38, 39, 40, 41, 42, 43, 44, 45, 46, 47, 116, 117, 118, 119, 120, 121, 122, 123, 124, 125, 126, 127, 128, 129, 130, 131, 132, 133, 134, 135, 136, 137, 138, 139, 140, 141, 142, 143, 144] (by decide +kernel) (by decide +kernel)
set_option maxRecDepth 20000 in
theorem gX11_digest_X11_tellBrick : GoodIn wsX11_digest (wsV RX11 141 RX11 yX11_tellBrick wsX11_tellBrick) := goodIn_app (goodIn_of _ (by decide +kernel)) ggX11_digest_X11_tellBrick
set_option maxRecDepth 20000 in
theorem ggX11_digest_X11_say : GoodIn wsX11_digest wsX11_say := goodIn_r _ [51, 52, 2, 116, 117, 118, 119, 120, 121, 122, 123, 124, 125, 126, 127, 128, 129, 130, 131, 132, 133, 134, 135, 136, 137, 138, 139, 140, 141, 142, 143, 144] (by decide +kernel) (by decide +kernel)
set_option maxRecDepth 20000 in
theorem gX11_digest_X11_say : GoodIn wsX11_digest (wsV RX11 262 RX11 yX11_say wsX11_say) := goodIn_app (goodIn_of _ (by decide +kernel)) ggX11_digest_X11_say
set_option maxRecDepth 20000 in
theorem ggX11_digest_X11_swingOf : GoodIn wsX11_digest wsX11_swingOf := goodIn_r _ [56, 19, 20, 13, 3, 57, 58, 59, 10, 60, 15, 16, 17, 18, 21, 22, 23, 24, 25, 26, 27, 4, 12, 28, 29, 30, 31, 32, 33, 34, 116, 117, 118, 119, 120, 121, 122, 123, 124, 125, 126, 127, 128, 129, 130, 131, 132, 133, 134, 135, 136, 137, 138, 139, 140, 141, 142, 143, 144] (by decide +kernel) (by decide +kernel)
set_option maxRecDepth 20000 in
theorem gX11_digest_X11_swingOf : GoodIn wsX11_digest (wsV RX11 163 RX11 yX11_swingOf wsX11_swingOf) := goodIn_app (goodIn_of _ (by decide +kernel)) ggX11_digest_X11_swingOf
set_option maxRecDepth 20000 in
theorem ggX11_digest_X11_oddsOf : GoodIn wsX11_digest wsX11_oddsOf := goodIn_r _ [64, 4, 13, 65, 66, 10, 67, 68, 69, 70, 71, 3, 14, 72, 73, 74, 75, 20, 24, 25, 26, 27, 12, 28, 29, 30, 31, 32, 33, 34, 116, 117, 118, 119, 120, 121, 122, 123, 124, 125, 126, 127, 128, 129, 130, 131, 132, 133, 134, 135, 136, 137, 138, 139, 140, 141, 142, 143, 144] (by decide +kernel) (by decide +kernel)
set_option maxRecDepth 20000 in
theorem gX11_digest_X11_oddsOf : GoodIn wsX11_digest (wsV RX11 213 RX11 yX11_oddsOf wsX11_oddsOf) := goodIn_app (goodIn_of _ (by decide +kernel)) ggX11_digest_X11_oddsOf
set_option maxRecDepth 20000 in
theorem ggX11_digest_X11_lacks : GoodIn wsX11_digest wsX11_lacks := goodIn_r _ [79, 4, 116, 117, 118, 119, 120, 121, 122, 123, 124, 125, 126, 127, 128, 129, 130, 131, 132, 133, 134, 135, 136, 137, 138, 139, 140, 141, 142, 143, 144] (by decide +kernel) (by decide +kernel)
set_option maxRecDepth 20000 in
theorem gX11_digest_X11_lacks : GoodIn wsX11_digest (wsV RX11 181 RX11 yX11_lacks wsX11_lacks) := goodIn_app (goodIn_of _ (by decide +kernel)) ggX11_digest_X11_lacks
set_option maxRecDepth 20000 in
theorem ggX11_digest_X11_orderOf : GoodIn wsX11_digest wsX11_orderOf := goodIn_r _ [83, 19, 4, 13, 3, 84, 85, 86, 10, 87, 65, 66, 67, 88, 89, 90, 91, 72, 73, 74, 75, 20, 24, 25, 26, 27, 12, 28, 29, 30, 31, 32, 33, 34, 116, 117, 118, 119, 120, 121, 122, 123, 124, 125, 126, 127, 128, 129, 130, 131, 132, 133, 134, 135, 136, 137, 138, 139, 140, 141, 142, 143, 144] (by decide +kernel) (by decide +kernel)
set_option maxRecDepth 20000 in
theorem gX11_digest_X11_orderOf : GoodIn wsX11_digest (wsV RX11 185 RX11 yX11_orderOf wsX11_orderOf) := goodIn_app (goodIn_of _ (by decide +kernel)) ggX11_digest_X11_orderOf
set_option maxRecDepth 20000 in
theorem ggX11_digest_X11_leftMany : GoodIn wsX11_digest wsX11_leftMany := goodIn_r _ [95, 4, 65, 66, 10, 67, 68, 69, 70, 71, 3, 14, 13, 72, 73, 74, 75, 20, 24, 25, 26, 27, 12, 28, 29, 30, 31, 32, 33, 34, 116, 117, 118, 119, 120, 121, 122, 123, 124, 125, 126, 127, 128, 129, 130, 131, 132, 133, 134, 135, 136, 137, 138, 139, 140, 141, 142, 143, 144] (by decide +kernel) (by decide +kernel)
set_option maxRecDepth 20000 in
theorem gX11_digest_X11_leftMany : GoodIn wsX11_digest (wsV RX11 160 RX11 yX11_leftMany wsX11_leftMany) := goodIn_app (goodIn_of _ (by decide +kernel)) ggX11_digest_X11_leftMany
set_option maxRecDepth 20000 in
theorem ggX11_digest_X11_fitsOf : GoodIn wsX11_digest wsX11_fitsOf := goodIn_r _ [99, 4, 65, 66, 10, 67, 68, 69, 70, 71, 3, 14, 13, 72, 73, 74, 75, 20, 24, 25, 26, 27, 12, 28, 29, 30, 31, 32, 33, 34, 116, 117, 118, 119, 120, 121, 122, 123, 124, 125, 126, 127, 128, 129, 130, 131, 132, 133, 134, 135, 136, 137, 138, 139, 140, 141, 142, 143, 144] (by decide +kernel) (by decide +kernel)
set_option maxRecDepth 20000 in
theorem gX11_digest_X11_fitsOf : GoodIn wsX11_digest (wsV RX11 200 RX11 yX11_fitsOf wsX11_fitsOf) := goodIn_app (goodIn_of _ (by decide +kernel)) ggX11_digest_X11_fitsOf
set_option maxRecDepth 20000 in
theorem ggX11_digest_X11_countOf : GoodIn wsX11_digest wsX11_countOf := goodIn_r _ [103, 4, 3, 104, 39, 5, 105, 106, 107, 76, 77, 78, 10, 79, 57, 58, 59, 60, 13, 15, 16, 17, 18, 19, 20, 21, 22, 23, 24, 25, 26, 27, 12, 28, 29, 30, 31, 32, 33, 34, 108, 109, 110, 111, 112, 113, 114, 115, 14, 116, 117, 118, 119, 120, 121, 122, 123, 124, 125, 126, 127, 128, 129, 130, 131, 132, 133, 134, 135, 136, 137, 138, 139, 140, 141, 142, 143, 144] (by decide +kernel) (by decide +kernel)
set_option maxRecDepth 20000 in
theorem gX11_digest_X11_countOf : GoodIn wsX11_digest (wsV RX11 251 RX11 yX11_countOf wsX11_countOf) := goodIn_app (goodIn_of _ (by decide +kernel)) ggX11_digest_X11_countOf
theorem dX11_digest_0 : decode cX11_digest 0 = .ok (.aload_n 0, 1) := by decide +kernel
theorem dX11_digest_1 : decode cX11_digest 1 = .ok (.ldc2_w 260, 3) := by decide +kernel
theorem dX11_digest_4 : decode cX11_digest 4 = .ok (.putfield 256, 3) := by decide +kernel
theorem dX11_digest_7 : decode cX11_digest 7 = .ok (.iconst 0, 1) := by decide +kernel
theorem dX11_digest_8 : decode cX11_digest 8 = .ok (.istore_n 1, 1) := by decide +kernel
theorem dX11_digest_9 : decode cX11_digest 9 = .ok (.iload_n 1, 1) := by decide +kernel
theorem dX11_digest_10 : decode cX11_digest 10 = .ok (.aload_n 0, 1) := by decide +kernel
theorem dX11_digest_11 : decode cX11_digest 11 = .ok (.getfield 103, 3) := by decide +kernel
theorem dX11_digest_14 : decode cX11_digest 14 = .ok (.if_icmp .ge 34, 3) := by decide +kernel
theorem dX11_digest_17 : decode cX11_digest 17 = .ok (.iconst 0, 1) := by decide +kernel
theorem dX11_digest_18 : decode cX11_digest 18 = .ok (.istore_n 2, 1) := by decide +kernel
theorem dX11_digest_19 : decode cX11_digest 19 = .ok (.iload_n 2, 1) := by decide +kernel
theorem dX11_digest_20 : decode cX11_digest 20 = .ok (.bipush 7, 2) := by decide +kernel
theorem dX11_digest_22 : decode cX11_digest 22 = .ok (.if_icmp .ge 20, 3) := by decide +kernel
theorem dX11_digest_25 : decode cX11_digest 25 = .ok (.aload_n 0, 1) := by decide +kernel
theorem dX11_digest_26 : decode cX11_digest 26 = .ok (.aload_n 0, 1) := by decide +kernel
theorem dX11_digest_27 : decode cX11_digest 27 = .ok (.iload_n 1, 1) := by decide +kernel
theorem dX11_digest_28 : decode cX11_digest 28 = .ok (.iload_n 2, 1) := by decide +kernel
theorem dX11_digest_29 : decode cX11_digest 29 = .ok (.invokevirtual 141, 3) := by decide +kernel
theorem dX11_digest_32 : decode cX11_digest 32 = .ok (.i2l, 1) := by decide +kernel
theorem dX11_digest_33 : decode cX11_digest 33 = .ok (.invokevirtual 262, 3) := by decide +kernel
theorem dX11_digest_36 : decode cX11_digest 36 = .ok (.iinc 2 1, 3) := by decide +kernel
theorem dX11_digest_39 : decode cX11_digest 39 = .ok (.goto (-20), 3) := by decide +kernel
theorem dX11_digest_42 : decode cX11_digest 42 = .ok (.iinc 1 1, 3) := by decide +kernel
theorem dX11_digest_45 : decode cX11_digest 45 = .ok (.goto (-36), 3) := by decide +kernel
theorem dX11_digest_48 : decode cX11_digest 48 = .ok (.iconst 0, 1) := by decide +kernel
theorem dX11_digest_49 : decode cX11_digest 49 = .ok (.istore_n 1, 1) := by decide +kernel
theorem dX11_digest_50 : decode cX11_digest 50 = .ok (.iload_n 1, 1) := by decide +kernel
theorem dX11_digest_51 : decode cX11_digest 51 = .ok (.aload_n 0, 1) := by decide +kernel
theorem dX11_digest_52 : decode cX11_digest 52 = .ok (.getfield 97, 3) := by decide +kernel
theorem dX11_digest_55 : decode cX11_digest 55 = .ok (.if_icmp .ge 43, 3) := by decide +kernel
theorem dX11_digest_58 : decode cX11_digest 58 = .ok (.aload_n 0, 1) := by decide +kernel
theorem dX11_digest_59 : decode cX11_digest 59 = .ok (.aload_n 0, 1) := by decide +kernel
theorem dX11_digest_60 : decode cX11_digest 60 = .ok (.iload_n 1, 1) := by decide +kernel
theorem dX11_digest_61 : decode cX11_digest 61 = .ok (.invokevirtual 163, 3) := by decide +kernel
theorem dX11_digest_64 : decode cX11_digest 64 = .ok (.i2l, 1) := by decide +kernel
theorem dX11_digest_65 : decode cX11_digest 65 = .ok (.invokevirtual 262, 3) := by decide +kernel
theorem dX11_digest_68 : decode cX11_digest 68 = .ok (.aload_n 0, 1) := by decide +kernel
theorem dX11_digest_69 : decode cX11_digest 69 = .ok (.aload_n 0, 1) := by decide +kernel
theorem dX11_digest_70 : decode cX11_digest 70 = .ok (.iload_n 1, 1) := by decide +kernel
theorem dX11_digest_71 : decode cX11_digest 71 = .ok (.iconst 3, 1) := by decide +kernel
theorem dX11_digest_72 : decode cX11_digest 72 = .ok (.iconst 0, 1) := by decide +kernel
theorem dX11_digest_73 : decode cX11_digest 73 = .ok (.invokevirtual 213, 3) := by decide +kernel
theorem dX11_digest_76 : decode cX11_digest 76 = .ok (.i2l, 1) := by decide +kernel
theorem dX11_digest_77 : decode cX11_digest 77 = .ok (.invokevirtual 262, 3) := by decide +kernel
theorem dX11_digest_80 : decode cX11_digest 80 = .ok (.aload_n 0, 1) := by decide +kernel
theorem dX11_digest_81 : decode cX11_digest 81 = .ok (.aload_n 0, 1) := by decide +kernel
theorem dX11_digest_82 : decode cX11_digest 82 = .ok (.iload_n 1, 1) := by decide +kernel
theorem dX11_digest_83 : decode cX11_digest 83 = .ok (.iconst 3, 1) := by decide +kernel
theorem dX11_digest_84 : decode cX11_digest 84 = .ok (.iconst 1, 1) := by decide +kernel
theorem dX11_digest_85 : decode cX11_digest 85 = .ok (.invokevirtual 213, 3) := by decide +kernel
theorem dX11_digest_88 : decode cX11_digest 88 = .ok (.i2l, 1) := by decide +kernel
theorem dX11_digest_89 : decode cX11_digest 89 = .ok (.invokevirtual 262, 3) := by decide +kernel
theorem dX11_digest_92 : decode cX11_digest 92 = .ok (.iinc 1 1, 3) := by decide +kernel
theorem dX11_digest_95 : decode cX11_digest 95 = .ok (.goto (-45), 3) := by decide +kernel
theorem dX11_digest_98 : decode cX11_digest 98 = .ok (.aload_n 0, 1) := by decide +kernel
theorem dX11_digest_99 : decode cX11_digest 99 = .ok (.invokevirtual 181, 3) := by decide +kernel
theorem dX11_digest_102 : decode cX11_digest 102 = .ok (.ifCond .ne 42, 3) := by decide +kernel
theorem dX11_digest_105 : decode cX11_digest 105 = .ok (.aload_n 0, 1) := by decide +kernel
theorem dX11_digest_106 : decode cX11_digest 106 = .ok (.aload_n 0, 1) := by decide +kernel
theorem dX11_digest_107 : decode cX11_digest 107 = .ok (.iconst 0, 1) := by decide +kernel
theorem dX11_digest_108 : decode cX11_digest 108 = .ok (.invokevirtual 185, 3) := by decide +kernel
theorem dX11_digest_111 : decode cX11_digest 111 = .ok (.i2l, 1) := by decide +kernel
theorem dX11_digest_112 : decode cX11_digest 112 = .ok (.invokevirtual 262, 3) := by decide +kernel
theorem dX11_digest_115 : decode cX11_digest 115 = .ok (.aload_n 0, 1) := by decide +kernel
theorem dX11_digest_116 : decode cX11_digest 116 = .ok (.aload_n 0, 1) := by decide +kernel
theorem dX11_digest_117 : decode cX11_digest 117 = .ok (.iconst 1, 1) := by decide +kernel
theorem dX11_digest_118 : decode cX11_digest 118 = .ok (.invokevirtual 185, 3) := by decide +kernel
theorem dX11_digest_121 : decode cX11_digest 121 = .ok (.i2l, 1) := by decide +kernel
theorem dX11_digest_122 : decode cX11_digest 122 = .ok (.invokevirtual 262, 3) := by decide +kernel
theorem dX11_digest_125 : decode cX11_digest 125 = .ok (.aload_n 0, 1) := by decide +kernel
theorem dX11_digest_126 : decode cX11_digest 126 = .ok (.aload_n 0, 1) := by decide +kernel
theorem dX11_digest_127 : decode cX11_digest 127 = .ok (.invokevirtual 160, 3) := by decide +kernel
theorem dX11_digest_130 : decode cX11_digest 130 = .ok (.i2l, 1) := by decide +kernel
theorem dX11_digest_131 : decode cX11_digest 131 = .ok (.invokevirtual 262, 3) := by decide +kernel
theorem dX11_digest_134 : decode cX11_digest 134 = .ok (.aload_n 0, 1) := by decide +kernel
theorem dX11_digest_135 : decode cX11_digest 135 = .ok (.aload_n 0, 1) := by decide +kernel
theorem dX11_digest_136 : decode cX11_digest 136 = .ok (.iconst 0, 1) := by decide +kernel
theorem dX11_digest_137 : decode cX11_digest 137 = .ok (.invokevirtual 200, 3) := by decide +kernel
theorem dX11_digest_140 : decode cX11_digest 140 = .ok (.i2l, 1) := by decide +kernel
theorem dX11_digest_141 : decode cX11_digest 141 = .ok (.invokevirtual 262, 3) := by decide +kernel
theorem dX11_digest_144 : decode cX11_digest 144 = .ok (.iconst 0, 1) := by decide +kernel
theorem dX11_digest_145 : decode cX11_digest 145 = .ok (.istore_n 1, 1) := by decide +kernel
theorem dX11_digest_146 : decode cX11_digest 146 = .ok (.iload_n 1, 1) := by decide +kernel
theorem dX11_digest_147 : decode cX11_digest 147 = .ok (.aload_n 0, 1) := by decide +kernel
theorem dX11_digest_148 : decode cX11_digest 148 = .ok (.getfield 59, 3) := by decide +kernel
theorem dX11_digest_151 : decode cX11_digest 151 = .ok (.if_icmp .ge 20, 3) := by decide +kernel
theorem dX11_digest_154 : decode cX11_digest 154 = .ok (.aload_n 0, 1) := by decide +kernel
theorem dX11_digest_155 : decode cX11_digest 155 = .ok (.aload_n 0, 1) := by decide +kernel
theorem dX11_digest_156 : decode cX11_digest 156 = .ok (.getfield 7, 3) := by decide +kernel
theorem dX11_digest_159 : decode cX11_digest 159 = .ok (.iload_n 1, 1) := by decide +kernel
theorem dX11_digest_160 : decode cX11_digest 160 = .ok (.iaload, 1) := by decide +kernel
theorem dX11_digest_161 : decode cX11_digest 161 = .ok (.i2l, 1) := by decide +kernel
theorem dX11_digest_162 : decode cX11_digest 162 = .ok (.invokevirtual 262, 3) := by decide +kernel
theorem dX11_digest_165 : decode cX11_digest 165 = .ok (.iinc 1 1, 3) := by decide +kernel
theorem dX11_digest_168 : decode cX11_digest 168 = .ok (.goto (-22), 3) := by decide +kernel
theorem dX11_digest_171 : decode cX11_digest 171 = .ok (.iconst 0, 1) := by decide +kernel
theorem dX11_digest_172 : decode cX11_digest 172 = .ok (.istore_n 1, 1) := by decide +kernel
theorem dX11_digest_173 : decode cX11_digest 173 = .ok (.iload_n 1, 1) := by decide +kernel
theorem dX11_digest_174 : decode cX11_digest 174 = .ok (.bipush 12, 2) := by decide +kernel
theorem dX11_digest_176 : decode cX11_digest 176 = .ok (.if_icmp .ge 19, 3) := by decide +kernel
theorem dX11_digest_179 : decode cX11_digest 179 = .ok (.aload_n 0, 1) := by decide +kernel
theorem dX11_digest_180 : decode cX11_digest 180 = .ok (.aload_n 0, 1) := by decide +kernel
theorem dX11_digest_181 : decode cX11_digest 181 = .ok (.iload_n 1, 1) := by decide +kernel
theorem dX11_digest_182 : decode cX11_digest 182 = .ok (.invokevirtual 251, 3) := by decide +kernel
theorem dX11_digest_185 : decode cX11_digest 185 = .ok (.i2l, 1) := by decide +kernel
theorem dX11_digest_186 : decode cX11_digest 186 = .ok (.invokevirtual 262, 3) := by decide +kernel
theorem dX11_digest_189 : decode cX11_digest 189 = .ok (.iinc 1 1, 3) := by decide +kernel
theorem dX11_digest_192 : decode cX11_digest 192 = .ok (.goto (-19), 3) := by decide +kernel
theorem dX11_digest_195 : decode cX11_digest 195 = .ok (.aload_n 0, 1) := by decide +kernel
theorem dX11_digest_196 : decode cX11_digest 196 = .ok (.getfield 256, 3) := by decide +kernel
theorem dX11_digest_199 : decode cX11_digest 199 = .ok (.lreturn, 1) := by decide +kernel
