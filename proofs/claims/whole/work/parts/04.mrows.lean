theorem dX1_init_0 : decode cX1_init 0 = .ok (.aload_n 0, 1) := by decide +kernel
theorem dX1_init_1 : decode cX1_init 1 = .ok (.invokespecial 1, 3) := by decide +kernel
theorem dX1_init_4 : decode cX1_init 4 = .ok (.aload_n 0, 1) := by decide +kernel
theorem dX1_init_5 : decode cX1_init 5 = .ok (.bipush 40, 2) := by decide +kernel
theorem dX1_init_7 : decode cX1_init 7 = .ok (.putfield 7, 3) := by decide +kernel
theorem dX1_init_10 : decode cX1_init 10 = .ok (.aload_n 0, 1) := by decide +kernel
theorem dX1_init_11 : decode cX1_init 11 = .ok (.bipush 8, 2) := by decide +kernel
theorem dX1_init_13 : decode cX1_init 13 = .ok (.newarray .int, 2) := by decide +kernel
theorem dX1_init_15 : decode cX1_init 15 = .ok (.putfield 13, 3) := by decide +kernel
theorem dX1_init_18 : decode cX1_init 18 = .ok (.aload_n 0, 1) := by decide +kernel
theorem dX1_init_19 : decode cX1_init 19 = .ok (.bipush 10, 2) := by decide +kernel
theorem dX1_init_21 : decode cX1_init 21 = .ok (.newarray .int, 2) := by decide +kernel
theorem dX1_init_23 : decode cX1_init 23 = .ok (.putfield 17, 3) := by decide +kernel
theorem dX1_init_26 : decode cX1_init 26 = .ok (.aload_n 0, 1) := by decide +kernel
theorem dX1_init_27 : decode cX1_init 27 = .ok (.bipush 8, 2) := by decide +kernel
theorem dX1_init_29 : decode cX1_init 29 = .ok (.newarray .int, 2) := by decide +kernel
theorem dX1_init_31 : decode cX1_init 31 = .ok (.putfield 20, 3) := by decide +kernel
theorem dX1_init_34 : decode cX1_init 34 = .ok (.aload_n 0, 1) := by decide +kernel
theorem dX1_init_35 : decode cX1_init 35 = .ok (.sipush 360, 3) := by decide +kernel
theorem dX1_init_38 : decode cX1_init 38 = .ok (.putfield 23, 3) := by decide +kernel
theorem dX1_init_41 : decode cX1_init 41 = .ok (.aload_n 0, 1) := by decide +kernel
theorem dX1_init_42 : decode cX1_init 42 = .ok (.bipush 10, 2) := by decide +kernel
theorem dX1_init_44 : decode cX1_init 44 = .ok (.putfield 26, 3) := by decide +kernel
theorem dX1_init_47 : decode cX1_init 47 = .ok (.aload_n 0, 1) := by decide +kernel
theorem dX1_init_48 : decode cX1_init 48 = .ok (.iconst 4, 1) := by decide +kernel
theorem dX1_init_49 : decode cX1_init 49 = .ok (.newarray .int, 2) := by decide +kernel
theorem dX1_init_51 : decode cX1_init 51 = .ok (.putfield 29, 3) := by decide +kernel
theorem dX1_init_54 : decode cX1_init 54 = .ok (.return_, 1) := by decide +kernel
theorem dX1_in_0 : decode cX1_in 0 = .ok (.lload_n 0, 1) := by decide +kernel
theorem dX1_in_1 : decode cX1_in 1 = .ok (.lload_n 2, 1) := by decide +kernel
theorem dX1_in_2 : decode cX1_in 2 = .ok (.lcmp, 1) := by decide +kernel
theorem dX1_in_3 : decode cX1_in 3 = .ok (.ifCond .lt 14, 3) := by decide +kernel
theorem dX1_in_6 : decode cX1_in 6 = .ok (.lload_n 0, 1) := by decide +kernel
theorem dX1_in_7 : decode cX1_in 7 = .ok (.lload 4, 2) := by decide +kernel
theorem dX1_in_9 : decode cX1_in 9 = .ok (.lcmp, 1) := by decide +kernel
theorem dX1_in_10 : decode cX1_in 10 = .ok (.ifCond .gt 7, 3) := by decide +kernel
theorem dX1_in_13 : decode cX1_in 13 = .ok (.iconst 1, 1) := by decide +kernel
theorem dX1_in_14 : decode cX1_in 14 = .ok (.goto 4, 3) := by decide +kernel
theorem dX1_in_17 : decode cX1_in 17 = .ok (.iconst 0, 1) := by decide +kernel
theorem dX1_in_18 : decode cX1_in 18 = .ok (.ireturn, 1) := by decide +kernel
theorem dX1_common_0 : decode cX1_common 0 = .ok (.lload_n 0, 1) := by decide +kernel
theorem dX1_common_1 : decode cX1_common 1 = .ok (.lconst 0, 1) := by decide +kernel
theorem dX1_common_2 : decode cX1_common 2 = .ok (.lcmp, 1) := by decide +kernel
theorem dX1_common_3 : decode cX1_common 3 = .ok (.ifCond .ge 8, 3) := by decide +kernel
theorem dX1_common_6 : decode cX1_common 6 = .ok (.lload_n 0, 1) := by decide +kernel
theorem dX1_common_7 : decode cX1_common 7 = .ok (.lneg, 1) := by decide +kernel
theorem dX1_common_8 : decode cX1_common 8 = .ok (.goto 4, 3) := by decide +kernel
theorem dX1_common_11 : decode cX1_common 11 = .ok (.lload_n 0, 1) := by decide +kernel
theorem dX1_common_12 : decode cX1_common 12 = .ok (.lstore 4, 2) := by decide +kernel
theorem dX1_common_14 : decode cX1_common 14 = .ok (.lload_n 2, 1) := by decide +kernel
theorem dX1_common_15 : decode cX1_common 15 = .ok (.lstore 6, 2) := by decide +kernel
theorem dX1_common_17 : decode cX1_common 17 = .ok (.lload 6, 2) := by decide +kernel
theorem dX1_common_19 : decode cX1_common 19 = .ok (.lconst 0, 1) := by decide +kernel
theorem dX1_common_20 : decode cX1_common 20 = .ok (.lcmp, 1) := by decide +kernel
theorem dX1_common_21 : decode cX1_common 21 = .ok (.ifCond .eq 21, 3) := by decide +kernel
theorem dX1_common_24 : decode cX1_common 24 = .ok (.lload 4, 2) := by decide +kernel
theorem dX1_common_26 : decode cX1_common 26 = .ok (.lload 6, 2) := by decide +kernel
theorem dX1_common_28 : decode cX1_common 28 = .ok (.lrem, 1) := by decide +kernel
theorem dX1_common_29 : decode cX1_common 29 = .ok (.lstore 8, 2) := by decide +kernel
theorem dX1_common_31 : decode cX1_common 31 = .ok (.lload 6, 2) := by decide +kernel
theorem dX1_common_33 : decode cX1_common 33 = .ok (.lstore 4, 2) := by decide +kernel
theorem dX1_common_35 : decode cX1_common 35 = .ok (.lload 8, 2) := by decide +kernel
theorem dX1_common_37 : decode cX1_common 37 = .ok (.lstore 6, 2) := by decide +kernel
theorem dX1_common_39 : decode cX1_common 39 = .ok (.goto (-22), 3) := by decide +kernel
theorem dX1_common_42 : decode cX1_common 42 = .ok (.lload 4, 2) := by decide +kernel
theorem dX1_common_44 : decode cX1_common 44 = .ok (.lreturn, 1) := by decide +kernel
set_option maxRecDepth 20000 in
theorem ggX1_term_X1_common : GoodIn wsX1_term wsX1_common := goodIn_r _ [4] (by decide +kernel) (by decide +kernel)
set_option maxRecDepth 20000 in
theorem gX1_term_X1_common : GoodIn wsX1_term (va_wsS RX1 32 yX1_common wsX1_common) := goodIn_app (goodIn_of _ (by decide +kernel)) ggX1_term_X1_common
theorem dX1_term_0 : decode cX1_term 0 = .ok (.lload_n 0, 1) := by decide +kernel
theorem dX1_term_1 : decode cX1_term 1 = .ok (.lload_n 2, 1) := by decide +kernel
theorem dX1_term_2 : decode cX1_term 2 = .ok (.invokestatic 32, 3) := by decide +kernel
theorem dX1_term_5 : decode cX1_term 5 = .ok (.lstore 5, 2) := by decide +kernel
theorem dX1_term_7 : decode cX1_term 7 = .ok (.iload 4, 2) := by decide +kernel
theorem dX1_term_9 : decode cX1_term 9 = .ok (.ifCond .ne 10, 3) := by decide +kernel
theorem dX1_term_12 : decode cX1_term 12 = .ok (.lload_n 0, 1) := by decide +kernel
theorem dX1_term_13 : decode cX1_term 13 = .ok (.lload 5, 2) := by decide +kernel
theorem dX1_term_15 : decode cX1_term 15 = .ok (.ldiv, 1) := by decide +kernel
theorem dX1_term_16 : decode cX1_term 16 = .ok (.goto 7, 3) := by decide +kernel
theorem dX1_term_19 : decode cX1_term 19 = .ok (.lload_n 2, 1) := by decide +kernel
theorem dX1_term_20 : decode cX1_term 20 = .ok (.lload 5, 2) := by decide +kernel
theorem dX1_term_22 : decode cX1_term 22 = .ok (.ldiv, 1) := by decide +kernel
theorem dX1_term_23 : decode cX1_term 23 = .ok (.l2i, 1) := by decide +kernel
theorem dX1_term_24 : decode cX1_term 24 = .ok (.ireturn, 1) := by decide +kernel
set_option maxRecDepth 20000 in
theorem ggX1_isParts_X1_in : GoodIn wsX1_isParts wsX1_in := goodIn_r _ [6] (by decide +kernel) (by decide +kernel)
set_option maxRecDepth 20000 in
theorem gX1_isParts_X1_in : GoodIn wsX1_isParts (va_wsS RX1 40 yX1_in wsX1_in) := goodIn_app (goodIn_of _ (by decide +kernel)) ggX1_isParts_X1_in
theorem dX1_isParts_0 : decode cX1_isParts 0 = .ok (.iload_n 0, 1) := by decide +kernel
theorem dX1_isParts_1 : decode cX1_isParts 1 = .ok (.i2l, 1) := by decide +kernel
theorem dX1_isParts_2 : decode cX1_isParts 2 = .ok (.ldc2_w 36, 3) := by decide +kernel
theorem dX1_isParts_5 : decode cX1_isParts 5 = .ok (.ldc2_w 38, 3) := by decide +kernel
theorem dX1_isParts_8 : decode cX1_isParts 8 = .ok (.invokestatic 40, 3) := by decide +kernel
theorem dX1_isParts_11 : decode cX1_isParts 11 = .ok (.ireturn, 1) := by decide +kernel
set_option maxRecDepth 20000 in
theorem ggX1_isCircle_X1_in : GoodIn wsX1_isCircle wsX1_in := goodIn_r _ [5] (by decide +kernel) (by decide +kernel)
set_option maxRecDepth 20000 in
theorem gX1_isCircle_X1_in : GoodIn wsX1_isCircle (va_wsS RX1 40 yX1_in wsX1_in) := goodIn_app (goodIn_of _ (by decide +kernel)) ggX1_isCircle_X1_in
theorem dX1_isCircle_0 : decode cX1_isCircle 0 = .ok (.iload_n 1, 1) := by decide +kernel
theorem dX1_isCircle_1 : decode cX1_isCircle 1 = .ok (.i2l, 1) := by decide +kernel
theorem dX1_isCircle_2 : decode cX1_isCircle 2 = .ok (.lconst 0, 1) := by decide +kernel
theorem dX1_isCircle_3 : decode cX1_isCircle 3 = .ok (.aload_n 0, 1) := by decide +kernel
theorem dX1_isCircle_4 : decode cX1_isCircle 4 = .ok (.getfield 44, 3) := by decide +kernel
theorem dX1_isCircle_7 : decode cX1_isCircle 7 = .ok (.iconst 1, 1) := by decide +kernel
theorem dX1_isCircle_8 : decode cX1_isCircle 8 = .ok (.isub, 1) := by decide +kernel
theorem dX1_isCircle_9 : decode cX1_isCircle 9 = .ok (.i2l, 1) := by decide +kernel
theorem dX1_isCircle_10 : decode cX1_isCircle 10 = .ok (.invokestatic 40, 3) := by decide +kernel
theorem dX1_isCircle_13 : decode cX1_isCircle 13 = .ok (.ireturn, 1) := by decide +kernel
set_option maxRecDepth 20000 in
theorem ggX1_isGear_X1_in : GoodIn wsX1_isGear wsX1_in := goodIn_r _ [5] (by decide +kernel) (by decide +kernel)
set_option maxRecDepth 20000 in
theorem gX1_isGear_X1_in : GoodIn wsX1_isGear (va_wsS RX1 40 yX1_in wsX1_in) := goodIn_app (goodIn_of _ (by decide +kernel)) ggX1_isGear_X1_in
theorem dX1_isGear_0 : decode cX1_isGear 0 = .ok (.iload_n 1, 1) := by decide +kernel
theorem dX1_isGear_1 : decode cX1_isGear 1 = .ok (.i2l, 1) := by decide +kernel
theorem dX1_isGear_2 : decode cX1_isGear 2 = .ok (.lconst 0, 1) := by decide +kernel
theorem dX1_isGear_3 : decode cX1_isGear 3 = .ok (.aload_n 0, 1) := by decide +kernel
theorem dX1_isGear_4 : decode cX1_isGear 4 = .ok (.getfield 47, 3) := by decide +kernel
theorem dX1_isGear_7 : decode cX1_isGear 7 = .ok (.iconst 1, 1) := by decide +kernel
theorem dX1_isGear_8 : decode cX1_isGear 8 = .ok (.isub, 1) := by decide +kernel
theorem dX1_isGear_9 : decode cX1_isGear 9 = .ok (.i2l, 1) := by decide +kernel
theorem dX1_isGear_10 : decode cX1_isGear 10 = .ok (.invokestatic 40, 3) := by decide +kernel
theorem dX1_isGear_13 : decode cX1_isGear 13 = .ok (.ireturn, 1) := by decide +kernel
set_option maxRecDepth 20000 in
theorem ggX1_wheel_X1_in : GoodIn wsX1_wheel wsX1_in := goodIn_r _ [7] (by decide +kernel) (by decide +kernel)
set_option maxRecDepth 20000 in
theorem gX1_wheel_X1_in : GoodIn wsX1_wheel (va_wsS RX1 40 yX1_in wsX1_in) := goodIn_app (goodIn_of _ (by decide +kernel)) ggX1_wheel_X1_in
theorem dX1_wheel_0 : decode cX1_wheel 0 = .ok (.iload_n 1, 1) := by decide +kernel
theorem dX1_wheel_1 : decode cX1_wheel 1 = .ok (.i2l, 1) := by decide +kernel
theorem dX1_wheel_2 : decode cX1_wheel 2 = .ok (.ldc2_w 50, 3) := by decide +kernel
theorem dX1_wheel_5 : decode cX1_wheel 5 = .ok (.ldc2_w 52, 3) := by decide +kernel
theorem dX1_wheel_8 : decode cX1_wheel 8 = .ok (.invokestatic 40, 3) := by decide +kernel
theorem dX1_wheel_11 : decode cX1_wheel 11 = .ok (.ifCond .ne 6, 3) := by decide +kernel
theorem dX1_wheel_14 : decode cX1_wheel 14 = .ok (.bipush (-2), 2) := by decide +kernel
theorem dX1_wheel_16 : decode cX1_wheel 16 = .ok (.ireturn, 1) := by decide +kernel
theorem dX1_wheel_17 : decode cX1_wheel 17 = .ok (.aload_n 0, 1) := by decide +kernel
theorem dX1_wheel_18 : decode cX1_wheel 18 = .ok (.getfield 7, 3) := by decide +kernel
theorem dX1_wheel_21 : decode cX1_wheel 21 = .ok (.istore_n 2, 1) := by decide +kernel
theorem dX1_wheel_22 : decode cX1_wheel 22 = .ok (.aload_n 0, 1) := by decide +kernel
theorem dX1_wheel_23 : decode cX1_wheel 23 = .ok (.iload_n 1, 1) := by decide +kernel
theorem dX1_wheel_24 : decode cX1_wheel 24 = .ok (.putfield 7, 3) := by decide +kernel
theorem dX1_wheel_27 : decode cX1_wheel 27 = .ok (.iload_n 2, 1) := by decide +kernel
theorem dX1_wheel_28 : decode cX1_wheel 28 = .ok (.ireturn, 1) := by decide +kernel
set_option maxRecDepth 20000 in
theorem ggX1_circle_X1_in : GoodIn wsX1_circle wsX1_in := goodIn_r _ [8] (by decide +kernel) (by decide +kernel)
set_option maxRecDepth 20000 in
theorem gX1_circle_X1_in : GoodIn wsX1_circle (va_wsS RX1 40 yX1_in wsX1_in) := goodIn_app (goodIn_of _ (by decide +kernel)) ggX1_circle_X1_in
theorem dX1_circle_0 : decode cX1_circle 0 = .ok (.iload_n 1, 1) := by decide +kernel
theorem dX1_circle_1 : decode cX1_circle 1 = .ok (.i2l, 1) := by decide +kernel
theorem dX1_circle_2 : decode cX1_circle 2 = .ok (.ldc2_w 54, 3) := by decide +kernel
theorem dX1_circle_5 : decode cX1_circle 5 = .ok (.ldc2_w 56, 3) := by decide +kernel
theorem dX1_circle_8 : decode cX1_circle 8 = .ok (.invokestatic 40, 3) := by decide +kernel
theorem dX1_circle_11 : decode cX1_circle 11 = .ok (.ifCond .ne 6, 3) := by decide +kernel
theorem dX1_circle_14 : decode cX1_circle 14 = .ok (.bipush (-2), 2) := by decide +kernel
theorem dX1_circle_16 : decode cX1_circle 16 = .ok (.ireturn, 1) := by decide +kernel
theorem dX1_circle_17 : decode cX1_circle 17 = .ok (.aload_n 0, 1) := by decide +kernel
theorem dX1_circle_18 : decode cX1_circle 18 = .ok (.getfield 44, 3) := by decide +kernel
theorem dX1_circle_21 : decode cX1_circle 21 = .ok (.bipush 8, 2) := by decide +kernel
theorem dX1_circle_23 : decode cX1_circle 23 = .ok (.if_icmp .ne 6, 3) := by decide +kernel
theorem dX1_circle_26 : decode cX1_circle 26 = .ok (.bipush (-4), 2) := by decide +kernel
theorem dX1_circle_28 : decode cX1_circle 28 = .ok (.ireturn, 1) := by decide +kernel
theorem dX1_circle_29 : decode cX1_circle 29 = .ok (.iconst 0, 1) := by decide +kernel
theorem dX1_circle_30 : decode cX1_circle 30 = .ok (.istore_n 2, 1) := by decide +kernel
theorem dX1_circle_31 : decode cX1_circle 31 = .ok (.iload_n 2, 1) := by decide +kernel
theorem dX1_circle_32 : decode cX1_circle 32 = .ok (.aload_n 0, 1) := by decide +kernel
theorem dX1_circle_33 : decode cX1_circle 33 = .ok (.getfield 44, 3) := by decide +kernel
theorem dX1_circle_36 : decode cX1_circle 36 = .ok (.if_icmp .ge 22, 3) := by decide +kernel
theorem dX1_circle_39 : decode cX1_circle 39 = .ok (.aload_n 0, 1) := by decide +kernel
theorem dX1_circle_40 : decode cX1_circle 40 = .ok (.getfield 13, 3) := by decide +kernel
theorem dX1_circle_43 : decode cX1_circle 43 = .ok (.iload_n 2, 1) := by decide +kernel
theorem dX1_circle_44 : decode cX1_circle 44 = .ok (.iaload, 1) := by decide +kernel
theorem dX1_circle_45 : decode cX1_circle 45 = .ok (.iload_n 1, 1) := by decide +kernel
theorem dX1_circle_46 : decode cX1_circle 46 = .ok (.if_icmp .ne 6, 3) := by decide +kernel
theorem dX1_circle_49 : decode cX1_circle 49 = .ok (.bipush (-5), 2) := by decide +kernel
theorem dX1_circle_51 : decode cX1_circle 51 = .ok (.ireturn, 1) := by decide +kernel
theorem dX1_circle_52 : decode cX1_circle 52 = .ok (.iinc 2 1, 3) := by decide +kernel
theorem dX1_circle_55 : decode cX1_circle 55 = .ok (.goto (-24), 3) := by decide +kernel
theorem dX1_circle_58 : decode cX1_circle 58 = .ok (.aload_n 0, 1) := by decide +kernel
theorem dX1_circle_59 : decode cX1_circle 59 = .ok (.getfield 13, 3) := by decide +kernel
theorem dX1_circle_62 : decode cX1_circle 62 = .ok (.aload_n 0, 1) := by decide +kernel
theorem dX1_circle_63 : decode cX1_circle 63 = .ok (.getfield 44, 3) := by decide +kernel
theorem dX1_circle_66 : decode cX1_circle 66 = .ok (.iload_n 1, 1) := by decide +kernel
theorem dX1_circle_67 : decode cX1_circle 67 = .ok (.iastore, 1) := by decide +kernel
theorem dX1_circle_68 : decode cX1_circle 68 = .ok (.aload_n 0, 1) := by decide +kernel
theorem dX1_circle_69 : decode cX1_circle 69 = .ok (.dup, 1) := by decide +kernel
theorem dX1_circle_70 : decode cX1_circle 70 = .ok (.getfield 44, 3) := by decide +kernel
theorem dX1_circle_73 : decode cX1_circle 73 = .ok (.iconst 1, 1) := by decide +kernel
theorem dX1_circle_74 : decode cX1_circle 74 = .ok (.iadd, 1) := by decide +kernel
theorem dX1_circle_75 : decode cX1_circle 75 = .ok (.putfield 44, 3) := by decide +kernel
theorem dX1_circle_78 : decode cX1_circle 78 = .ok (.aload_n 0, 1) := by decide +kernel
theorem dX1_circle_79 : decode cX1_circle 79 = .ok (.getfield 44, 3) := by decide +kernel
theorem dX1_circle_82 : decode cX1_circle 82 = .ok (.iconst 1, 1) := by decide +kernel
theorem dX1_circle_83 : decode cX1_circle 83 = .ok (.isub, 1) := by decide +kernel
theorem dX1_circle_84 : decode cX1_circle 84 = .ok (.ireturn, 1) := by decide +kernel
set_option maxRecDepth 20000 in
theorem ggX1_holes_X1_isCircle : GoodIn wsX1_holes wsX1_isCircle := goodIn_r _ [6, 7, 8, 9, 5, 10, 11, 12, 13, 14, 15, 16, 17, 18, 19] (by decide +kernel) (by decide +kernel)
set_option maxRecDepth 20000 in
theorem gX1_holes_X1_isCircle : GoodIn wsX1_holes (wsV RX1 58 RX1 yX1_isCircle wsX1_isCircle) := goodIn_app (goodIn_of _ (by decide +kernel)) ggX1_holes_X1_isCircle
theorem dX1_holes_0 : decode cX1_holes 0 = .ok (.aload_n 0, 1) := by decide +kernel
theorem dX1_holes_1 : decode cX1_holes 1 = .ok (.iload_n 1, 1) := by decide +kernel
theorem dX1_holes_2 : decode cX1_holes 2 = .ok (.invokevirtual 58, 3) := by decide +kernel
theorem dX1_holes_5 : decode cX1_holes 5 = .ok (.ifCond .eq 12, 3) := by decide +kernel
theorem dX1_holes_8 : decode cX1_holes 8 = .ok (.aload_n 0, 1) := by decide +kernel
theorem dX1_holes_9 : decode cX1_holes 9 = .ok (.getfield 13, 3) := by decide +kernel
theorem dX1_holes_12 : decode cX1_holes 12 = .ok (.iload_n 1, 1) := by decide +kernel
theorem dX1_holes_13 : decode cX1_holes 13 = .ok (.iaload, 1) := by decide +kernel
theorem dX1_holes_14 : decode cX1_holes 14 = .ok (.goto 4, 3) := by decide +kernel
theorem dX1_holes_17 : decode cX1_holes 17 = .ok (.iconst (-1), 1) := by decide +kernel
theorem dX1_holes_18 : decode cX1_holes 18 = .ok (.ireturn, 1) := by decide +kernel
set_option maxRecDepth 20000 in
theorem ggX1_gear_X1_in : GoodIn wsX1_gear wsX1_in := goodIn_r _ [8] (by decide +kernel) (by decide +kernel)
set_option maxRecDepth 20000 in
theorem gX1_gear_X1_in : GoodIn wsX1_gear (va_wsS RX1 40 yX1_in wsX1_in) := goodIn_app (goodIn_of _ (by decide +kernel)) ggX1_gear_X1_in
theorem dX1_gear_0 : decode cX1_gear 0 = .ok (.iload_n 1, 1) := by decide +kernel
theorem dX1_gear_1 : decode cX1_gear 1 = .ok (.i2l, 1) := by decide +kernel
theorem dX1_gear_2 : decode cX1_gear 2 = .ok (.ldc2_w 62, 3) := by decide +kernel
theorem dX1_gear_5 : decode cX1_gear 5 = .ok (.ldc2_w 56, 3) := by decide +kernel
theorem dX1_gear_8 : decode cX1_gear 8 = .ok (.invokestatic 40, 3) := by decide +kernel
theorem dX1_gear_11 : decode cX1_gear 11 = .ok (.ifCond .ne 6, 3) := by decide +kernel
theorem dX1_gear_14 : decode cX1_gear 14 = .ok (.bipush (-2), 2) := by decide +kernel
theorem dX1_gear_16 : decode cX1_gear 16 = .ok (.ireturn, 1) := by decide +kernel
theorem dX1_gear_17 : decode cX1_gear 17 = .ok (.aload_n 0, 1) := by decide +kernel
theorem dX1_gear_18 : decode cX1_gear 18 = .ok (.getfield 47, 3) := by decide +kernel
theorem dX1_gear_21 : decode cX1_gear 21 = .ok (.bipush 10, 2) := by decide +kernel
theorem dX1_gear_23 : decode cX1_gear 23 = .ok (.if_icmp .ne 6, 3) := by decide +kernel
theorem dX1_gear_26 : decode cX1_gear 26 = .ok (.bipush (-4), 2) := by decide +kernel
theorem dX1_gear_28 : decode cX1_gear 28 = .ok (.ireturn, 1) := by decide +kernel
theorem dX1_gear_29 : decode cX1_gear 29 = .ok (.aload_n 0, 1) := by decide +kernel
theorem dX1_gear_30 : decode cX1_gear 30 = .ok (.getfield 17, 3) := by decide +kernel
theorem dX1_gear_33 : decode cX1_gear 33 = .ok (.aload_n 0, 1) := by decide +kernel
theorem dX1_gear_34 : decode cX1_gear 34 = .ok (.getfield 47, 3) := by decide +kernel
theorem dX1_gear_37 : decode cX1_gear 37 = .ok (.iload_n 1, 1) := by decide +kernel
theorem dX1_gear_38 : decode cX1_gear 38 = .ok (.iastore, 1) := by decide +kernel
theorem dX1_gear_39 : decode cX1_gear 39 = .ok (.aload_n 0, 1) := by decide +kernel
theorem dX1_gear_40 : decode cX1_gear 40 = .ok (.dup, 1) := by decide +kernel
theorem dX1_gear_41 : decode cX1_gear 41 = .ok (.getfield 47, 3) := by decide +kernel
theorem dX1_gear_44 : decode cX1_gear 44 = .ok (.iconst 1, 1) := by decide +kernel
theorem dX1_gear_45 : decode cX1_gear 45 = .ok (.iadd, 1) := by decide +kernel
theorem dX1_gear_46 : decode cX1_gear 46 = .ok (.putfield 47, 3) := by decide +kernel
theorem dX1_gear_49 : decode cX1_gear 49 = .ok (.aload_n 0, 1) := by decide +kernel
theorem dX1_gear_50 : decode cX1_gear 50 = .ok (.getfield 47, 3) := by decide +kernel
theorem dX1_gear_53 : decode cX1_gear 53 = .ok (.iconst 1, 1) := by decide +kernel
theorem dX1_gear_54 : decode cX1_gear 54 = .ok (.isub, 1) := by decide +kernel
theorem dX1_gear_55 : decode cX1_gear 55 = .ok (.ireturn, 1) := by decide +kernel
set_option maxRecDepth 20000 in
theorem ggX1_teeth_X1_isGear : GoodIn wsX1_teeth wsX1_isGear := goodIn_r _ [6, 7, 8, 9, 5, 10, 11, 12, 13, 14, 15, 16, 17, 18, 19] (by decide +kernel) (by decide +kernel)
set_option maxRecDepth 20000 in
theorem gX1_teeth_X1_isGear : GoodIn wsX1_teeth (wsV RX1 64 RX1 yX1_isGear wsX1_isGear) := goodIn_app (goodIn_of _ (by decide +kernel)) ggX1_teeth_X1_isGear
theorem dX1_teeth_0 : decode cX1_teeth 0 = .ok (.aload_n 0, 1) := by decide +kernel
theorem dX1_teeth_1 : decode cX1_teeth 1 = .ok (.iload_n 1, 1) := by decide +kernel
theorem dX1_teeth_2 : decode cX1_teeth 2 = .ok (.invokevirtual 64, 3) := by decide +kernel
theorem dX1_teeth_5 : decode cX1_teeth 5 = .ok (.ifCond .eq 12, 3) := by decide +kernel
theorem dX1_teeth_8 : decode cX1_teeth 8 = .ok (.aload_n 0, 1) := by decide +kernel
theorem dX1_teeth_9 : decode cX1_teeth 9 = .ok (.getfield 17, 3) := by decide +kernel
theorem dX1_teeth_12 : decode cX1_teeth 12 = .ok (.iload_n 1, 1) := by decide +kernel
theorem dX1_teeth_13 : decode cX1_teeth 13 = .ok (.iaload, 1) := by decide +kernel
theorem dX1_teeth_14 : decode cX1_teeth 14 = .ok (.goto 4, 3) := by decide +kernel
theorem dX1_teeth_17 : decode cX1_teeth 17 = .ok (.iconst (-1), 1) := by decide +kernel
theorem dX1_teeth_18 : decode cX1_teeth 18 = .ok (.ireturn, 1) := by decide +kernel
theorem dX1_plainOf_0 : decode cX1_plainOf 0 = .ok (.bipush (-6), 2) := by decide +kernel
theorem dX1_plainOf_2 : decode cX1_plainOf 2 = .ok (.istore_n 2, 1) := by decide +kernel
theorem dX1_plainOf_3 : decode cX1_plainOf 3 = .ok (.iconst 0, 1) := by decide +kernel
theorem dX1_plainOf_4 : decode cX1_plainOf 4 = .ok (.istore_n 3, 1) := by decide +kernel
theorem dX1_plainOf_5 : decode cX1_plainOf 5 = .ok (.iload_n 3, 1) := by decide +kernel
theorem dX1_plainOf_6 : decode cX1_plainOf 6 = .ok (.aload_n 0, 1) := by decide +kernel
theorem dX1_plainOf_7 : decode cX1_plainOf 7 = .ok (.getfield 44, 3) := by decide +kernel
theorem dX1_plainOf_10 : decode cX1_plainOf 10 = .ok (.if_icmp .ge 62, 3) := by decide +kernel
theorem dX1_plainOf_13 : decode cX1_plainOf 13 = .ok (.aload_n 0, 1) := by decide +kernel
theorem dX1_plainOf_14 : decode cX1_plainOf 14 = .ok (.getfield 7, 3) := by decide +kernel
theorem dX1_plainOf_17 : decode cX1_plainOf 17 = .ok (.aload_n 0, 1) := by decide +kernel
theorem dX1_plainOf_18 : decode cX1_plainOf 18 = .ok (.getfield 13, 3) := by decide +kernel
theorem dX1_plainOf_21 : decode cX1_plainOf 21 = .ok (.iload_n 3, 1) := by decide +kernel
theorem dX1_plainOf_22 : decode cX1_plainOf 22 = .ok (.iaload, 1) := by decide +kernel
theorem dX1_plainOf_23 : decode cX1_plainOf 23 = .ok (.imul, 1) := by decide +kernel
theorem dX1_plainOf_24 : decode cX1_plainOf 24 = .ok (.iload_n 1, 1) := by decide +kernel
theorem dX1_plainOf_25 : decode cX1_plainOf 25 = .ok (.irem, 1) := by decide +kernel
theorem dX1_plainOf_26 : decode cX1_plainOf 26 = .ok (.ifCond .ne 7, 3) := by decide +kernel
theorem dX1_plainOf_29 : decode cX1_plainOf 29 = .ok (.iconst 1, 1) := by decide +kernel
theorem dX1_plainOf_30 : decode cX1_plainOf 30 = .ok (.goto 4, 3) := by decide +kernel
theorem dX1_plainOf_33 : decode cX1_plainOf 33 = .ok (.iconst 0, 1) := by decide +kernel
theorem dX1_plainOf_34 : decode cX1_plainOf 34 = .ok (.istore 4, 2) := by decide +kernel
theorem dX1_plainOf_36 : decode cX1_plainOf 36 = .ok (.iload 4, 2) := by decide +kernel
theorem dX1_plainOf_38 : decode cX1_plainOf 38 = .ok (.ifCond .eq 26, 3) := by decide +kernel
theorem dX1_plainOf_41 : decode cX1_plainOf 41 = .ok (.iload_n 2, 1) := by decide +kernel
theorem dX1_plainOf_42 : decode cX1_plainOf 42 = .ok (.ifCond .lt 18, 3) := by decide +kernel
theorem dX1_plainOf_45 : decode cX1_plainOf 45 = .ok (.aload_n 0, 1) := by decide +kernel
theorem dX1_plainOf_46 : decode cX1_plainOf 46 = .ok (.getfield 13, 3) := by decide +kernel
theorem dX1_plainOf_49 : decode cX1_plainOf 49 = .ok (.iload_n 3, 1) := by decide +kernel
theorem dX1_plainOf_50 : decode cX1_plainOf 50 = .ok (.iaload, 1) := by decide +kernel
theorem dX1_plainOf_51 : decode cX1_plainOf 51 = .ok (.aload_n 0, 1) := by decide +kernel
theorem dX1_plainOf_52 : decode cX1_plainOf 52 = .ok (.getfield 13, 3) := by decide +kernel
theorem dX1_plainOf_55 : decode cX1_plainOf 55 = .ok (.iload_n 2, 1) := by decide +kernel
theorem dX1_plainOf_56 : decode cX1_plainOf 56 = .ok (.iaload, 1) := by decide +kernel
theorem dX1_plainOf_57 : decode cX1_plainOf 57 = .ok (.if_icmp .ge 7, 3) := by decide +kernel
theorem dX1_plainOf_60 : decode cX1_plainOf 60 = .ok (.iload_n 3, 1) := by decide +kernel
theorem dX1_plainOf_61 : decode cX1_plainOf 61 = .ok (.goto 4, 3) := by decide +kernel
theorem dX1_plainOf_64 : decode cX1_plainOf 64 = .ok (.iload_n 2, 1) := by decide +kernel
theorem dX1_plainOf_65 : decode cX1_plainOf 65 = .ok (.istore_n 2, 1) := by decide +kernel
theorem dX1_plainOf_66 : decode cX1_plainOf 66 = .ok (.iinc 3 1, 3) := by decide +kernel
theorem dX1_plainOf_69 : decode cX1_plainOf 69 = .ok (.goto (-64), 3) := by decide +kernel
theorem dX1_plainOf_72 : decode cX1_plainOf 72 = .ok (.iload_n 2, 1) := by decide +kernel
theorem dX1_plainOf_73 : decode cX1_plainOf 73 = .ok (.ireturn, 1) := by decide +kernel
set_option maxRecDepth 20000 in
theorem ggX1_plain_X1_isParts : GoodIn wsX1_plain wsX1_isParts := goodIn_r _ [7, 1, 8, 9, 10, 6, 11] (by decide +kernel) (by decide +kernel)
set_option maxRecDepth 20000 in
theorem gX1_plain_X1_isParts : GoodIn wsX1_plain (va_wsS RX1 67 yX1_isParts wsX1_isParts) := goodIn_app (goodIn_of _ (by decide +kernel)) ggX1_plain_X1_isParts
set_option maxRecDepth 20000 in
theorem ggX1_plain_X1_in : GoodIn wsX1_plain wsX1_in := goodIn_r _ [11] (by decide +kernel) (by decide +kernel)
set_option maxRecDepth 20000 in
theorem gX1_plain_X1_in : GoodIn wsX1_plain (va_wsS RX1 40 yX1_in wsX1_in) := goodIn_app (goodIn_of _ (by decide +kernel)) ggX1_plain_X1_in
set_option maxRecDepth 20000 in
theorem ggX1_plain_X1_plainOf : GoodIn wsX1_plain wsX1_plainOf := goodIn_r _ [15, 16, 2, 3, 17, 18, 19, 20, 21, 22, 23, 24, 25] (by decide +kernel) (by decide +kernel)
set_option maxRecDepth 20000 in
theorem gX1_plain_X1_plainOf : GoodIn wsX1_plain (wsV RX1 70 RX1 yX1_plainOf wsX1_plainOf) := goodIn_app (goodIn_of _ (by decide +kernel)) ggX1_plain_X1_plainOf
theorem dX1_plain_0 : decode cX1_plain 0 = .ok (.iload_n 1, 1) := by decide +kernel
theorem dX1_plain_1 : decode cX1_plain 1 = .ok (.invokestatic 67, 3) := by decide +kernel
theorem dX1_plain_4 : decode cX1_plain 4 = .ok (.ifCond .eq 15, 3) := by decide +kernel
theorem dX1_plain_7 : decode cX1_plain 7 = .ok (.iload_n 2, 1) := by decide +kernel
theorem dX1_plain_8 : decode cX1_plain 8 = .ok (.i2l, 1) := by decide +kernel
theorem dX1_plain_9 : decode cX1_plain 9 = .ok (.lconst 0, 1) := by decide +kernel
theorem dX1_plain_10 : decode cX1_plain 10 = .ok (.ldc2_w 36, 3) := by decide +kernel
theorem dX1_plain_13 : decode cX1_plain 13 = .ok (.invokestatic 40, 3) := by decide +kernel
theorem dX1_plain_16 : decode cX1_plain 16 = .ok (.ifCond .ne 6, 3) := by decide +kernel
theorem dX1_plain_19 : decode cX1_plain 19 = .ok (.bipush (-2), 2) := by decide +kernel
theorem dX1_plain_21 : decode cX1_plain 21 = .ok (.ireturn, 1) := by decide +kernel
theorem dX1_plain_22 : decode cX1_plain 22 = .ok (.aload_n 0, 1) := by decide +kernel
theorem dX1_plain_23 : decode cX1_plain 23 = .ok (.iload_n 1, 1) := by decide +kernel
theorem dX1_plain_24 : decode cX1_plain 24 = .ok (.invokevirtual 70, 3) := by decide +kernel
theorem dX1_plain_27 : decode cX1_plain 27 = .ok (.istore_n 3, 1) := by decide +kernel
theorem dX1_plain_28 : decode cX1_plain 28 = .ok (.iload_n 3, 1) := by decide +kernel
theorem dX1_plain_29 : decode cX1_plain 29 = .ok (.ifCond .ge 8, 3) := by decide +kernel
theorem dX1_plain_32 : decode cX1_plain 32 = .ok (.bipush (-6), 2) := by decide +kernel
theorem dX1_plain_34 : decode cX1_plain 34 = .ok (.goto 45, 3) := by decide +kernel
theorem dX1_plain_37 : decode cX1_plain 37 = .ok (.iload_n 2, 1) := by decide +kernel
theorem dX1_plain_38 : decode cX1_plain 38 = .ok (.ifCond .ne 7, 3) := by decide +kernel
theorem dX1_plain_41 : decode cX1_plain 41 = .ok (.iload_n 3, 1) := by decide +kernel
theorem dX1_plain_42 : decode cX1_plain 42 = .ok (.goto 37, 3) := by decide +kernel
theorem dX1_plain_45 : decode cX1_plain 45 = .ok (.iload_n 2, 1) := by decide +kernel
theorem dX1_plain_46 : decode cX1_plain 46 = .ok (.iconst 1, 1) := by decide +kernel
theorem dX1_plain_47 : decode cX1_plain 47 = .ok (.if_icmp .ne 12, 3) := by decide +kernel
theorem dX1_plain_50 : decode cX1_plain 50 = .ok (.aload_n 0, 1) := by decide +kernel
theorem dX1_plain_51 : decode cX1_plain 51 = .ok (.getfield 7, 3) := by decide +kernel
theorem dX1_plain_54 : decode cX1_plain 54 = .ok (.iload_n 1, 1) := by decide +kernel
theorem dX1_plain_55 : decode cX1_plain 55 = .ok (.idiv, 1) := by decide +kernel
theorem dX1_plain_56 : decode cX1_plain 56 = .ok (.goto 23, 3) := by decide +kernel
theorem dX1_plain_59 : decode cX1_plain 59 = .ok (.aload_n 0, 1) := by decide +kernel
theorem dX1_plain_60 : decode cX1_plain 60 = .ok (.getfield 7, 3) := by decide +kernel
theorem dX1_plain_63 : decode cX1_plain 63 = .ok (.aload_n 0, 1) := by decide +kernel
theorem dX1_plain_64 : decode cX1_plain 64 = .ok (.getfield 13, 3) := by decide +kernel
theorem dX1_plain_67 : decode cX1_plain 67 = .ok (.iload_n 3, 1) := by decide +kernel
theorem dX1_plain_68 : decode cX1_plain 68 = .ok (.iaload, 1) := by decide +kernel
theorem dX1_plain_69 : decode cX1_plain 69 = .ok (.imul, 1) := by decide +kernel
theorem dX1_plain_70 : decode cX1_plain 70 = .ok (.iload_n 1, 1) := by decide +kernel
theorem dX1_plain_71 : decode cX1_plain 71 = .ok (.idiv, 1) := by decide +kernel
theorem dX1_plain_72 : decode cX1_plain 72 = .ok (.aload_n 0, 1) := by decide +kernel
theorem dX1_plain_73 : decode cX1_plain 73 = .ok (.getfield 13, 3) := by decide +kernel
theorem dX1_plain_76 : decode cX1_plain 76 = .ok (.iload_n 3, 1) := by decide +kernel
theorem dX1_plain_77 : decode cX1_plain 77 = .ok (.iaload, 1) := by decide +kernel
theorem dX1_plain_78 : decode cX1_plain 78 = .ok (.irem, 1) := by decide +kernel
theorem dX1_plain_79 : decode cX1_plain 79 = .ok (.ireturn, 1) := by decide +kernel
theorem dX1_stepBeside_0 : decode cX1_stepBeside 0 = .ok (.aload_n 0, 1) := by decide +kernel
theorem dX1_stepBeside_1 : decode cX1_stepBeside 1 = .ok (.getfield 13, 3) := by decide +kernel
theorem dX1_stepBeside_4 : decode cX1_stepBeside 4 = .ok (.iload_n 2, 1) := by decide +kernel
theorem dX1_stepBeside_5 : decode cX1_stepBeside 5 = .ok (.iaload, 1) := by decide +kernel
theorem dX1_stepBeside_6 : decode cX1_stepBeside 6 = .ok (.i2l, 1) := by decide +kernel
theorem dX1_stepBeside_7 : decode cX1_stepBeside 7 = .ok (.aload_n 0, 1) := by decide +kernel
theorem dX1_stepBeside_8 : decode cX1_stepBeside 8 = .ok (.getfield 7, 3) := by decide +kernel
theorem dX1_stepBeside_11 : decode cX1_stepBeside 11 = .ok (.i2l, 1) := by decide +kernel
theorem dX1_stepBeside_12 : decode cX1_stepBeside 12 = .ok (.aload_n 0, 1) := by decide +kernel
theorem dX1_stepBeside_13 : decode cX1_stepBeside 13 = .ok (.getfield 13, 3) := by decide +kernel
theorem dX1_stepBeside_16 : decode cX1_stepBeside 16 = .ok (.iload_n 3, 1) := by decide +kernel
theorem dX1_stepBeside_17 : decode cX1_stepBeside 17 = .ok (.iaload, 1) := by decide +kernel
theorem dX1_stepBeside_18 : decode cX1_stepBeside 18 = .ok (.i2l, 1) := by decide +kernel
theorem dX1_stepBeside_19 : decode cX1_stepBeside 19 = .ok (.lmul, 1) := by decide +kernel
theorem dX1_stepBeside_20 : decode cX1_stepBeside 20 = .ok (.iload 4, 2) := by decide +kernel
theorem dX1_stepBeside_22 : decode cX1_stepBeside 22 = .ok (.i2l, 1) := by decide +kernel
theorem dX1_stepBeside_23 : decode cX1_stepBeside 23 = .ok (.iload_n 1, 1) := by decide +kernel
theorem dX1_stepBeside_24 : decode cX1_stepBeside 24 = .ok (.i2l, 1) := by decide +kernel
theorem dX1_stepBeside_25 : decode cX1_stepBeside 25 = .ok (.lmul, 1) := by decide +kernel
theorem dX1_stepBeside_26 : decode cX1_stepBeside 26 = .ok (.lsub, 1) := by decide +kernel
theorem dX1_stepBeside_27 : decode cX1_stepBeside 27 = .ok (.lmul, 1) := by decide +kernel
theorem dX1_stepBeside_28 : decode cX1_stepBeside 28 = .ok (.lstore 5, 2) := by decide +kernel
theorem dX1_stepBeside_30 : decode cX1_stepBeside 30 = .ok (.iload_n 1, 1) := by decide +kernel
theorem dX1_stepBeside_31 : decode cX1_stepBeside 31 = .ok (.i2l, 1) := by decide +kernel
theorem dX1_stepBeside_32 : decode cX1_stepBeside 32 = .ok (.aload_n 0, 1) := by decide +kernel
theorem dX1_stepBeside_33 : decode cX1_stepBeside 33 = .ok (.getfield 13, 3) := by decide +kernel
theorem dX1_stepBeside_36 : decode cX1_stepBeside 36 = .ok (.iload_n 3, 1) := by decide +kernel
theorem dX1_stepBeside_37 : decode cX1_stepBeside 37 = .ok (.iaload, 1) := by decide +kernel
theorem dX1_stepBeside_38 : decode cX1_stepBeside 38 = .ok (.i2l, 1) := by decide +kernel
theorem dX1_stepBeside_39 : decode cX1_stepBeside 39 = .ok (.lmul, 1) := by decide +kernel
theorem dX1_stepBeside_40 : decode cX1_stepBeside 40 = .ok (.lstore 7, 2) := by decide +kernel
theorem dX1_stepBeside_42 : decode cX1_stepBeside 42 = .ok (.lload 5, 2) := by decide +kernel
theorem dX1_stepBeside_44 : decode cX1_stepBeside 44 = .ok (.lload 7, 2) := by decide +kernel
theorem dX1_stepBeside_46 : decode cX1_stepBeside 46 = .ok (.lrem, 1) := by decide +kernel
theorem dX1_stepBeside_47 : decode cX1_stepBeside 47 = .ok (.lconst 0, 1) := by decide +kernel
theorem dX1_stepBeside_48 : decode cX1_stepBeside 48 = .ok (.lcmp, 1) := by decide +kernel
theorem dX1_stepBeside_49 : decode cX1_stepBeside 49 = .ok (.ifCond .ne 12, 3) := by decide +kernel
theorem dX1_stepBeside_52 : decode cX1_stepBeside 52 = .ok (.lload 5, 2) := by decide +kernel
theorem dX1_stepBeside_54 : decode cX1_stepBeside 54 = .ok (.lload 7, 2) := by decide +kernel
theorem dX1_stepBeside_56 : decode cX1_stepBeside 56 = .ok (.ldiv, 1) := by decide +kernel
theorem dX1_stepBeside_57 : decode cX1_stepBeside 57 = .ok (.l2i, 1) := by decide +kernel
theorem dX1_stepBeside_58 : decode cX1_stepBeside 58 = .ok (.goto 4, 3) := by decide +kernel
theorem dX1_stepBeside_61 : decode cX1_stepBeside 61 = .ok (.iconst 0, 1) := by decide +kernel
theorem dX1_stepBeside_62 : decode cX1_stepBeside 62 = .ok (.ireturn, 1) := by decide +kernel
set_option maxRecDepth 20000 in
theorem ggX1_compound_X1_isParts : GoodIn wsX1_compound wsX1_isParts := goodIn_r _ [9, 10, 11, 12, 13, 8, 14] (by decide +kernel) (by decide +kernel)
set_option maxRecDepth 20000 in
theorem gX1_compound_X1_isParts : GoodIn wsX1_compound (va_wsS RX1 67 yX1_isParts wsX1_isParts) := goodIn_app (goodIn_of _ (by decide +kernel)) ggX1_compound_X1_isParts
set_option maxRecDepth 20000 in
theorem ggX1_compound_X1_in : GoodIn wsX1_compound wsX1_in := goodIn_r _ [14] (by decide +kernel) (by decide +kernel)
set_option maxRecDepth 20000 in
theorem gX1_compound_X1_in : GoodIn wsX1_compound (va_wsS RX1 40 yX1_in wsX1_in) := goodIn_app (goodIn_of _ (by decide +kernel)) ggX1_compound_X1_in
set_option maxRecDepth 20000 in
theorem ggX1_compound_X1_stepBeside : GoodIn wsX1_compound wsX1_stepBeside := goodIn_r _ [18, 4, 19, 20, 21, 22, 23, 24, 25, 26, 27, 28] (by decide +kernel) (by decide +kernel)
set_option maxRecDepth 20000 in
theorem gX1_compound_X1_stepBeside : GoodIn wsX1_compound (wsV RX1 77 RX1 yX1_stepBeside wsX1_stepBeside) := goodIn_app (goodIn_of _ (by decide +kernel)) ggX1_compound_X1_stepBeside
theorem dX1_compound_0 : decode cX1_compound 0 = .ok (.iload_n 1, 1) := by decide +kernel
theorem dX1_compound_1 : decode cX1_compound 1 = .ok (.invokestatic 67, 3) := by decide +kernel
theorem dX1_compound_4 : decode cX1_compound 4 = .ok (.ifCond .eq 15, 3) := by decide +kernel
theorem dX1_compound_7 : decode cX1_compound 7 = .ok (.iload_n 2, 1) := by decide +kernel
theorem dX1_compound_8 : decode cX1_compound 8 = .ok (.i2l, 1) := by decide +kernel
theorem dX1_compound_9 : decode cX1_compound 9 = .ok (.lconst 0, 1) := by decide +kernel
theorem dX1_compound_10 : decode cX1_compound 10 = .ok (.ldc2_w 74, 3) := by decide +kernel
theorem dX1_compound_13 : decode cX1_compound 13 = .ok (.invokestatic 40, 3) := by decide +kernel
theorem dX1_compound_16 : decode cX1_compound 16 = .ok (.ifCond .ne 6, 3) := by decide +kernel
theorem dX1_compound_19 : decode cX1_compound 19 = .ok (.ldc 76, 2) := by decide +kernel
theorem dX1_compound_21 : decode cX1_compound 21 = .ok (.ireturn, 1) := by decide +kernel
theorem dX1_compound_22 : decode cX1_compound 22 = .ok (.iconst 0, 1) := by decide +kernel
theorem dX1_compound_23 : decode cX1_compound 23 = .ok (.istore_n 3, 1) := by decide +kernel
theorem dX1_compound_24 : decode cX1_compound 24 = .ok (.iload_n 3, 1) := by decide +kernel
theorem dX1_compound_25 : decode cX1_compound 25 = .ok (.aload_n 0, 1) := by decide +kernel
theorem dX1_compound_26 : decode cX1_compound 26 = .ok (.getfield 44, 3) := by decide +kernel
theorem dX1_compound_29 : decode cX1_compound 29 = .ok (.if_icmp .ge 122, 3) := by decide +kernel
theorem dX1_compound_32 : decode cX1_compound 32 = .ok (.iload_n 3, 1) := by decide +kernel
theorem dX1_compound_33 : decode cX1_compound 33 = .ok (.iconst 1, 1) := by decide +kernel
theorem dX1_compound_34 : decode cX1_compound 34 = .ok (.iadd, 1) := by decide +kernel
theorem dX1_compound_35 : decode cX1_compound 35 = .ok (.istore 4, 2) := by decide +kernel
theorem dX1_compound_37 : decode cX1_compound 37 = .ok (.iload 4, 2) := by decide +kernel
theorem dX1_compound_39 : decode cX1_compound 39 = .ok (.aload_n 0, 1) := by decide +kernel
theorem dX1_compound_40 : decode cX1_compound 40 = .ok (.getfield 44, 3) := by decide +kernel
theorem dX1_compound_43 : decode cX1_compound 43 = .ok (.if_icmp .ge 102, 3) := by decide +kernel
theorem dX1_compound_46 : decode cX1_compound 46 = .ok (.iconst 1, 1) := by decide +kernel
theorem dX1_compound_47 : decode cX1_compound 47 = .ok (.istore 5, 2) := by decide +kernel
theorem dX1_compound_49 : decode cX1_compound 49 = .ok (.iload 5, 2) := by decide +kernel
theorem dX1_compound_51 : decode cX1_compound 51 = .ok (.aload_n 0, 1) := by decide +kernel
theorem dX1_compound_52 : decode cX1_compound 52 = .ok (.getfield 13, 3) := by decide +kernel
theorem dX1_compound_55 : decode cX1_compound 55 = .ok (.iload 4, 2) := by decide +kernel
theorem dX1_compound_57 : decode cX1_compound 57 = .ok (.iaload, 1) := by decide +kernel
theorem dX1_compound_58 : decode cX1_compound 58 = .ok (.if_icmp .gt 81, 3) := by decide +kernel
theorem dX1_compound_61 : decode cX1_compound 61 = .ok (.iload 5, 2) := by decide +kernel
theorem dX1_compound_63 : decode cX1_compound 63 = .ok (.istore 6, 2) := by decide +kernel
theorem dX1_compound_65 : decode cX1_compound 65 = .ok (.iload 6, 2) := by decide +kernel
theorem dX1_compound_67 : decode cX1_compound 67 = .ok (.iload 5, 2) := by decide +kernel
theorem dX1_compound_69 : decode cX1_compound 69 = .ok (.ineg, 1) := by decide +kernel
theorem dX1_compound_70 : decode cX1_compound 70 = .ok (.if_icmp .lt 63, 3) := by decide +kernel
theorem dX1_compound_73 : decode cX1_compound 73 = .ok (.aload_n 0, 1) := by decide +kernel
theorem dX1_compound_74 : decode cX1_compound 74 = .ok (.iload_n 1, 1) := by decide +kernel
theorem dX1_compound_75 : decode cX1_compound 75 = .ok (.iload_n 3, 1) := by decide +kernel
theorem dX1_compound_76 : decode cX1_compound 76 = .ok (.iload 4, 2) := by decide +kernel
theorem dX1_compound_78 : decode cX1_compound 78 = .ok (.iload 6, 2) := by decide +kernel
theorem dX1_compound_80 : decode cX1_compound 80 = .ok (.invokevirtual 77, 3) := by decide +kernel
theorem dX1_compound_83 : decode cX1_compound 83 = .ok (.istore 7, 2) := by decide +kernel
theorem dX1_compound_85 : decode cX1_compound 85 = .ok (.iload 7, 2) := by decide +kernel
theorem dX1_compound_87 : decode cX1_compound 87 = .ok (.ifCond .eq 34, 3) := by decide +kernel
theorem dX1_compound_90 : decode cX1_compound 90 = .ok (.iload_n 2, 1) := by decide +kernel
theorem dX1_compound_91 : decode cX1_compound 91 = .ok (.ifCond .ne 7, 3) := by decide +kernel
theorem dX1_compound_94 : decode cX1_compound 94 = .ok (.iload_n 3, 1) := by decide +kernel
theorem dX1_compound_95 : decode cX1_compound 95 = .ok (.goto 25, 3) := by decide +kernel
theorem dX1_compound_98 : decode cX1_compound 98 = .ok (.iload_n 2, 1) := by decide +kernel
theorem dX1_compound_99 : decode cX1_compound 99 = .ok (.iconst 1, 1) := by decide +kernel
theorem dX1_compound_100 : decode cX1_compound 100 = .ok (.if_icmp .ne 8, 3) := by decide +kernel
theorem dX1_compound_103 : decode cX1_compound 103 = .ok (.iload 7, 2) := by decide +kernel
theorem dX1_compound_105 : decode cX1_compound 105 = .ok (.goto 15, 3) := by decide +kernel
theorem dX1_compound_108 : decode cX1_compound 108 = .ok (.iload_n 2, 1) := by decide +kernel
theorem dX1_compound_109 : decode cX1_compound 109 = .ok (.iconst 2, 1) := by decide +kernel
theorem dX1_compound_110 : decode cX1_compound 110 = .ok (.if_icmp .ne 8, 3) := by decide +kernel
theorem dX1_compound_113 : decode cX1_compound 113 = .ok (.iload 4, 2) := by decide +kernel
theorem dX1_compound_115 : decode cX1_compound 115 = .ok (.goto 5, 3) := by decide +kernel
theorem dX1_compound_118 : decode cX1_compound 118 = .ok (.iload 6, 2) := by decide +kernel
theorem dX1_compound_120 : decode cX1_compound 120 = .ok (.ireturn, 1) := by decide +kernel
theorem dX1_compound_121 : decode cX1_compound 121 = .ok (.iload 6, 2) := by decide +kernel
theorem dX1_compound_123 : decode cX1_compound 123 = .ok (.iconst 2, 1) := by decide +kernel
theorem dX1_compound_124 : decode cX1_compound 124 = .ok (.iload 5, 2) := by decide +kernel
theorem dX1_compound_126 : decode cX1_compound 126 = .ok (.imul, 1) := by decide +kernel
theorem dX1_compound_127 : decode cX1_compound 127 = .ok (.isub, 1) := by decide +kernel
theorem dX1_compound_128 : decode cX1_compound 128 = .ok (.istore 6, 2) := by decide +kernel
theorem dX1_compound_130 : decode cX1_compound 130 = .ok (.goto (-65), 3) := by decide +kernel
theorem dX1_compound_133 : decode cX1_compound 133 = .ok (.iinc 5 1, 3) := by decide +kernel
theorem dX1_compound_136 : decode cX1_compound 136 = .ok (.goto (-87), 3) := by decide +kernel
theorem dX1_compound_139 : decode cX1_compound 139 = .ok (.iinc 4 1, 3) := by decide +kernel
theorem dX1_compound_142 : decode cX1_compound 142 = .ok (.goto (-105), 3) := by decide +kernel
theorem dX1_compound_145 : decode cX1_compound 145 = .ok (.iinc 3 1, 3) := by decide +kernel
theorem dX1_compound_148 : decode cX1_compound 148 = .ok (.goto (-124), 3) := by decide +kernel
theorem dX1_compound_151 : decode cX1_compound 151 = .ok (.ldc 81, 2) := by decide +kernel
theorem dX1_compound_153 : decode cX1_compound 153 = .ok (.ireturn, 1) := by decide +kernel
set_option maxRecDepth 20000 in
theorem ggX1_isTrain_X1_put : GoodIn wsX1_isTrain wsX1_put := goodIn_r _ [7, 8, 9, 10, 11, 12, 13, 14, 15, 16, 17] (by decide +kernel) (by decide +kernel)
set_option maxRecDepth 20000 in
theorem gX1_isTrain_X1_put : GoodIn wsX1_isTrain (wsV RX1 82 RX1 yX1_put wsX1_put) := goodIn_app (goodIn_of _ (by decide +kernel)) ggX1_isTrain_X1_put
theorem dX1_isTrain_0 : decode cX1_isTrain 0 = .ok (.iconst 0, 1) := by decide +kernel
theorem dX1_isTrain_1 : decode cX1_isTrain 1 = .ok (.istore 5, 2) := by decide +kernel
theorem dX1_isTrain_3 : decode cX1_isTrain 3 = .ok (.iload 5, 2) := by decide +kernel
theorem dX1_isTrain_5 : decode cX1_isTrain 5 = .ok (.aload_n 0, 1) := by decide +kernel
theorem dX1_isTrain_6 : decode cX1_isTrain 6 = .ok (.getfield 47, 3) := by decide +kernel
theorem dX1_isTrain_9 : decode cX1_isTrain 9 = .ok (.if_icmp .ge 72, 3) := by decide +kernel
theorem dX1_isTrain_12 : decode cX1_isTrain 12 = .ok (.iconst 0, 1) := by decide +kernel
theorem dX1_isTrain_13 : decode cX1_isTrain 13 = .ok (.istore 6, 2) := by decide +kernel
theorem dX1_isTrain_15 : decode cX1_isTrain 15 = .ok (.iload 6, 2) := by decide +kernel
theorem dX1_isTrain_17 : decode cX1_isTrain 17 = .ok (.aload_n 0, 1) := by decide +kernel
theorem dX1_isTrain_18 : decode cX1_isTrain 18 = .ok (.getfield 47, 3) := by decide +kernel
theorem dX1_isTrain_21 : decode cX1_isTrain 21 = .ok (.if_icmp .ge 54, 3) := by decide +kernel
theorem dX1_isTrain_24 : decode cX1_isTrain 24 = .ok (.iload 5, 2) := by decide +kernel
theorem dX1_isTrain_26 : decode cX1_isTrain 26 = .ok (.iload 6, 2) := by decide +kernel
theorem dX1_isTrain_28 : decode cX1_isTrain 28 = .ok (.if_icmp .eq 41, 3) := by decide +kernel
theorem dX1_isTrain_31 : decode cX1_isTrain 31 = .ok (.aload_n 0, 1) := by decide +kernel
theorem dX1_isTrain_32 : decode cX1_isTrain 32 = .ok (.getfield 17, 3) := by decide +kernel
theorem dX1_isTrain_35 : decode cX1_isTrain 35 = .ok (.iload 5, 2) := by decide +kernel
theorem dX1_isTrain_37 : decode cX1_isTrain 37 = .ok (.iaload, 1) := by decide +kernel
theorem dX1_isTrain_38 : decode cX1_isTrain 38 = .ok (.i2l, 1) := by decide +kernel
theorem dX1_isTrain_39 : decode cX1_isTrain 39 = .ok (.lload_n 3, 1) := by decide +kernel
theorem dX1_isTrain_40 : decode cX1_isTrain 40 = .ok (.lmul, 1) := by decide +kernel
theorem dX1_isTrain_41 : decode cX1_isTrain 41 = .ok (.aload_n 0, 1) := by decide +kernel
theorem dX1_isTrain_42 : decode cX1_isTrain 42 = .ok (.getfield 17, 3) := by decide +kernel
theorem dX1_isTrain_45 : decode cX1_isTrain 45 = .ok (.iload 6, 2) := by decide +kernel
theorem dX1_isTrain_47 : decode cX1_isTrain 47 = .ok (.iaload, 1) := by decide +kernel
theorem dX1_isTrain_48 : decode cX1_isTrain 48 = .ok (.i2l, 1) := by decide +kernel
theorem dX1_isTrain_49 : decode cX1_isTrain 49 = .ok (.lload_n 1, 1) := by decide +kernel
theorem dX1_isTrain_50 : decode cX1_isTrain 50 = .ok (.lmul, 1) := by decide +kernel
theorem dX1_isTrain_51 : decode cX1_isTrain 51 = .ok (.lcmp, 1) := by decide +kernel
theorem dX1_isTrain_52 : decode cX1_isTrain 52 = .ok (.ifCond .ne 17, 3) := by decide +kernel
theorem dX1_isTrain_55 : decode cX1_isTrain 55 = .ok (.aload_n 0, 1) := by decide +kernel
theorem dX1_isTrain_56 : decode cX1_isTrain 56 = .ok (.iload 5, 2) := by decide +kernel
theorem dX1_isTrain_58 : decode cX1_isTrain 58 = .ok (.iload 6, 2) := by decide +kernel
theorem dX1_isTrain_60 : decode cX1_isTrain 60 = .ok (.bipush (-6), 2) := by decide +kernel
theorem dX1_isTrain_62 : decode cX1_isTrain 62 = .ok (.bipush (-6), 2) := by decide +kernel
theorem dX1_isTrain_64 : decode cX1_isTrain 64 = .ok (.invokevirtual 82, 3) := by decide +kernel
theorem dX1_isTrain_67 : decode cX1_isTrain 67 = .ok (.iconst 1, 1) := by decide +kernel
theorem dX1_isTrain_68 : decode cX1_isTrain 68 = .ok (.ireturn, 1) := by decide +kernel
theorem dX1_isTrain_69 : decode cX1_isTrain 69 = .ok (.iinc 6 1, 3) := by decide +kernel
theorem dX1_isTrain_72 : decode cX1_isTrain 72 = .ok (.goto (-57), 3) := by decide +kernel
theorem dX1_isTrain_75 : decode cX1_isTrain 75 = .ok (.iinc 5 1, 3) := by decide +kernel
theorem dX1_isTrain_78 : decode cX1_isTrain 78 = .ok (.goto (-75), 3) := by decide +kernel
theorem dX1_isTrain_81 : decode cX1_isTrain 81 = .ok (.iconst 0, 1) := by decide +kernel
theorem dX1_isTrain_82 : decode cX1_isTrain 82 = .ok (.istore 5, 2) := by decide +kernel
theorem dX1_isTrain_84 : decode cX1_isTrain 84 = .ok (.iload 5, 2) := by decide +kernel
theorem dX1_isTrain_86 : decode cX1_isTrain 86 = .ok (.sipush 10000, 3) := by decide +kernel
theorem dX1_isTrain_89 : decode cX1_isTrain 89 = .ok (.if_icmp .ge 202, 3) := by decide +kernel
theorem dX1_isTrain_92 : decode cX1_isTrain 92 = .ok (.iload 5, 2) := by decide +kernel
theorem dX1_isTrain_94 : decode cX1_isTrain 94 = .ok (.sipush 1000, 3) := by decide +kernel
theorem dX1_isTrain_97 : decode cX1_isTrain 97 = .ok (.idiv, 1) := by decide +kernel
theorem dX1_isTrain_98 : decode cX1_isTrain 98 = .ok (.istore 6, 2) := by decide +kernel
theorem dX1_isTrain_100 : decode cX1_isTrain 100 = .ok (.iload 5, 2) := by decide +kernel
theorem dX1_isTrain_102 : decode cX1_isTrain 102 = .ok (.bipush 100, 2) := by decide +kernel
theorem dX1_isTrain_104 : decode cX1_isTrain 104 = .ok (.idiv, 1) := by decide +kernel
theorem dX1_isTrain_105 : decode cX1_isTrain 105 = .ok (.bipush 10, 2) := by decide +kernel
theorem dX1_isTrain_107 : decode cX1_isTrain 107 = .ok (.irem, 1) := by decide +kernel
theorem dX1_isTrain_108 : decode cX1_isTrain 108 = .ok (.istore 7, 2) := by decide +kernel
theorem dX1_isTrain_110 : decode cX1_isTrain 110 = .ok (.iload 5, 2) := by decide +kernel
theorem dX1_isTrain_112 : decode cX1_isTrain 112 = .ok (.bipush 10, 2) := by decide +kernel
theorem dX1_isTrain_114 : decode cX1_isTrain 114 = .ok (.idiv, 1) := by decide +kernel
theorem dX1_isTrain_115 : decode cX1_isTrain 115 = .ok (.bipush 10, 2) := by decide +kernel
theorem dX1_isTrain_117 : decode cX1_isTrain 117 = .ok (.irem, 1) := by decide +kernel
theorem dX1_isTrain_118 : decode cX1_isTrain 118 = .ok (.istore 8, 2) := by decide +kernel
theorem dX1_isTrain_120 : decode cX1_isTrain 120 = .ok (.iload 5, 2) := by decide +kernel
theorem dX1_isTrain_122 : decode cX1_isTrain 122 = .ok (.bipush 10, 2) := by decide +kernel
theorem dX1_isTrain_124 : decode cX1_isTrain 124 = .ok (.irem, 1) := by decide +kernel
theorem dX1_isTrain_125 : decode cX1_isTrain 125 = .ok (.istore 9, 2) := by decide +kernel
theorem dX1_isTrain_127 : decode cX1_isTrain 127 = .ok (.iload 6, 2) := by decide +kernel
theorem dX1_isTrain_129 : decode cX1_isTrain 129 = .ok (.iload 7, 2) := by decide +kernel
theorem dX1_isTrain_131 : decode cX1_isTrain 131 = .ok (.if_icmp .eq 42, 3) := by decide +kernel
theorem dX1_isTrain_134 : decode cX1_isTrain 134 = .ok (.iload 6, 2) := by decide +kernel
theorem dX1_isTrain_136 : decode cX1_isTrain 136 = .ok (.iload 8, 2) := by decide +kernel
theorem dX1_isTrain_138 : decode cX1_isTrain 138 = .ok (.if_icmp .eq 35, 3) := by decide +kernel
theorem dX1_isTrain_141 : decode cX1_isTrain 141 = .ok (.iload 6, 2) := by decide +kernel
theorem dX1_isTrain_143 : decode cX1_isTrain 143 = .ok (.iload 9, 2) := by decide +kernel
theorem dX1_isTrain_145 : decode cX1_isTrain 145 = .ok (.if_icmp .eq 28, 3) := by decide +kernel
theorem dX1_isTrain_148 : decode cX1_isTrain 148 = .ok (.iload 7, 2) := by decide +kernel
theorem dX1_isTrain_150 : decode cX1_isTrain 150 = .ok (.iload 8, 2) := by decide +kernel
theorem dX1_isTrain_152 : decode cX1_isTrain 152 = .ok (.if_icmp .eq 21, 3) := by decide +kernel
theorem dX1_isTrain_155 : decode cX1_isTrain 155 = .ok (.iload 7, 2) := by decide +kernel
theorem dX1_isTrain_157 : decode cX1_isTrain 157 = .ok (.iload 9, 2) := by decide +kernel
theorem dX1_isTrain_159 : decode cX1_isTrain 159 = .ok (.if_icmp .eq 14, 3) := by decide +kernel
theorem dX1_isTrain_162 : decode cX1_isTrain 162 = .ok (.iload 8, 2) := by decide +kernel
theorem dX1_isTrain_164 : decode cX1_isTrain 164 = .ok (.iload 9, 2) := by decide +kernel
theorem dX1_isTrain_166 : decode cX1_isTrain 166 = .ok (.if_icmp .eq 7, 3) := by decide +kernel
theorem dX1_isTrain_169 : decode cX1_isTrain 169 = .ok (.iconst 1, 1) := by decide +kernel
theorem dX1_isTrain_170 : decode cX1_isTrain 170 = .ok (.goto 4, 3) := by decide +kernel
theorem dX1_isTrain_173 : decode cX1_isTrain 173 = .ok (.iconst 0, 1) := by decide +kernel
theorem dX1_isTrain_174 : decode cX1_isTrain 174 = .ok (.istore 10, 2) := by decide +kernel
theorem dX1_isTrain_176 : decode cX1_isTrain 176 = .ok (.iload 6, 2) := by decide +kernel
theorem dX1_isTrain_178 : decode cX1_isTrain 178 = .ok (.aload_n 0, 1) := by decide +kernel
theorem dX1_isTrain_179 : decode cX1_isTrain 179 = .ok (.getfield 47, 3) := by decide +kernel
theorem dX1_isTrain_182 : decode cX1_isTrain 182 = .ok (.if_icmp .ge 34, 3) := by decide +kernel
theorem dX1_isTrain_185 : decode cX1_isTrain 185 = .ok (.iload 7, 2) := by decide +kernel
theorem dX1_isTrain_187 : decode cX1_isTrain 187 = .ok (.aload_n 0, 1) := by decide +kernel
theorem dX1_isTrain_188 : decode cX1_isTrain 188 = .ok (.getfield 47, 3) := by decide +kernel
theorem dX1_isTrain_191 : decode cX1_isTrain 191 = .ok (.if_icmp .ge 25, 3) := by decide +kernel
theorem dX1_isTrain_194 : decode cX1_isTrain 194 = .ok (.iload 8, 2) := by decide +kernel
theorem dX1_isTrain_196 : decode cX1_isTrain 196 = .ok (.aload_n 0, 1) := by decide +kernel
theorem dX1_isTrain_197 : decode cX1_isTrain 197 = .ok (.getfield 47, 3) := by decide +kernel
theorem dX1_isTrain_200 : decode cX1_isTrain 200 = .ok (.if_icmp .ge 16, 3) := by decide +kernel
theorem dX1_isTrain_203 : decode cX1_isTrain 203 = .ok (.iload 9, 2) := by decide +kernel
theorem dX1_isTrain_205 : decode cX1_isTrain 205 = .ok (.aload_n 0, 1) := by decide +kernel
theorem dX1_isTrain_206 : decode cX1_isTrain 206 = .ok (.getfield 47, 3) := by decide +kernel
theorem dX1_isTrain_209 : decode cX1_isTrain 209 = .ok (.if_icmp .ge 7, 3) := by decide +kernel
theorem dX1_isTrain_212 : decode cX1_isTrain 212 = .ok (.iconst 1, 1) := by decide +kernel
theorem dX1_isTrain_213 : decode cX1_isTrain 213 = .ok (.goto 4, 3) := by decide +kernel
theorem dX1_isTrain_216 : decode cX1_isTrain 216 = .ok (.iconst 0, 1) := by decide +kernel
theorem dX1_isTrain_217 : decode cX1_isTrain 217 = .ok (.istore 11, 2) := by decide +kernel
theorem dX1_isTrain_219 : decode cX1_isTrain 219 = .ok (.iload 10, 2) := by decide +kernel
theorem dX1_isTrain_221 : decode cX1_isTrain 221 = .ok (.ifCond .eq 64, 3) := by decide +kernel
theorem dX1_isTrain_224 : decode cX1_isTrain 224 = .ok (.iload 11, 2) := by decide +kernel
theorem dX1_isTrain_226 : decode cX1_isTrain 226 = .ok (.ifCond .eq 59, 3) := by decide +kernel
theorem dX1_isTrain_229 : decode cX1_isTrain 229 = .ok (.aload_n 0, 1) := by decide +kernel
theorem dX1_isTrain_230 : decode cX1_isTrain 230 = .ok (.getfield 17, 3) := by decide +kernel
theorem dX1_isTrain_233 : decode cX1_isTrain 233 = .ok (.iload 6, 2) := by decide +kernel
theorem dX1_isTrain_235 : decode cX1_isTrain 235 = .ok (.iaload, 1) := by decide +kernel
theorem dX1_isTrain_236 : decode cX1_isTrain 236 = .ok (.i2l, 1) := by decide +kernel
theorem dX1_isTrain_237 : decode cX1_isTrain 237 = .ok (.aload_n 0, 1) := by decide +kernel
theorem dX1_isTrain_238 : decode cX1_isTrain 238 = .ok (.getfield 17, 3) := by decide +kernel
theorem dX1_isTrain_241 : decode cX1_isTrain 241 = .ok (.iload 8, 2) := by decide +kernel
theorem dX1_isTrain_243 : decode cX1_isTrain 243 = .ok (.iaload, 1) := by decide +kernel
theorem dX1_isTrain_244 : decode cX1_isTrain 244 = .ok (.i2l, 1) := by decide +kernel
theorem dX1_isTrain_245 : decode cX1_isTrain 245 = .ok (.lmul, 1) := by decide +kernel
theorem dX1_isTrain_246 : decode cX1_isTrain 246 = .ok (.lload_n 3, 1) := by decide +kernel
theorem dX1_isTrain_247 : decode cX1_isTrain 247 = .ok (.lmul, 1) := by decide +kernel
theorem dX1_isTrain_248 : decode cX1_isTrain 248 = .ok (.aload_n 0, 1) := by decide +kernel
theorem dX1_isTrain_249 : decode cX1_isTrain 249 = .ok (.getfield 17, 3) := by decide +kernel
theorem dX1_isTrain_252 : decode cX1_isTrain 252 = .ok (.iload 7, 2) := by decide +kernel
theorem dX1_isTrain_254 : decode cX1_isTrain 254 = .ok (.iaload, 1) := by decide +kernel
theorem dX1_isTrain_255 : decode cX1_isTrain 255 = .ok (.i2l, 1) := by decide +kernel
theorem dX1_isTrain_256 : decode cX1_isTrain 256 = .ok (.aload_n 0, 1) := by decide +kernel
theorem dX1_isTrain_257 : decode cX1_isTrain 257 = .ok (.getfield 17, 3) := by decide +kernel
theorem dX1_isTrain_260 : decode cX1_isTrain 260 = .ok (.iload 9, 2) := by decide +kernel
theorem dX1_isTrain_262 : decode cX1_isTrain 262 = .ok (.iaload, 1) := by decide +kernel
theorem dX1_isTrain_263 : decode cX1_isTrain 263 = .ok (.i2l, 1) := by decide +kernel
theorem dX1_isTrain_264 : decode cX1_isTrain 264 = .ok (.lmul, 1) := by decide +kernel
theorem dX1_isTrain_265 : decode cX1_isTrain 265 = .ok (.lload_n 1, 1) := by decide +kernel
theorem dX1_isTrain_266 : decode cX1_isTrain 266 = .ok (.lmul, 1) := by decide +kernel
theorem dX1_isTrain_267 : decode cX1_isTrain 267 = .ok (.lcmp, 1) := by decide +kernel
theorem dX1_isTrain_268 : decode cX1_isTrain 268 = .ok (.ifCond .ne 17, 3) := by decide +kernel
theorem dX1_isTrain_271 : decode cX1_isTrain 271 = .ok (.aload_n 0, 1) := by decide +kernel
theorem dX1_isTrain_272 : decode cX1_isTrain 272 = .ok (.iload 6, 2) := by decide +kernel
theorem dX1_isTrain_274 : decode cX1_isTrain 274 = .ok (.iload 7, 2) := by decide +kernel
theorem dX1_isTrain_276 : decode cX1_isTrain 276 = .ok (.iload 8, 2) := by decide +kernel
theorem dX1_isTrain_278 : decode cX1_isTrain 278 = .ok (.iload 9, 2) := by decide +kernel
theorem dX1_isTrain_280 : decode cX1_isTrain 280 = .ok (.invokevirtual 82, 3) := by decide +kernel
theorem dX1_isTrain_283 : decode cX1_isTrain 283 = .ok (.iconst 1, 1) := by decide +kernel
theorem dX1_isTrain_284 : decode cX1_isTrain 284 = .ok (.ireturn, 1) := by decide +kernel
theorem dX1_isTrain_285 : decode cX1_isTrain 285 = .ok (.iinc 5 1, 3) := by decide +kernel
theorem dX1_isTrain_288 : decode cX1_isTrain 288 = .ok (.goto (-204), 3) := by decide +kernel
theorem dX1_isTrain_291 : decode cX1_isTrain 291 = .ok (.iconst 0, 1) := by decide +kernel
theorem dX1_isTrain_292 : decode cX1_isTrain 292 = .ok (.ireturn, 1) := by decide +kernel
theorem dX1_put_0 : decode cX1_put 0 = .ok (.aload_n 0, 1) := by decide +kernel
theorem dX1_put_1 : decode cX1_put 1 = .ok (.getfield 29, 3) := by decide +kernel
theorem dX1_put_4 : decode cX1_put 4 = .ok (.iconst 0, 1) := by decide +kernel
theorem dX1_put_5 : decode cX1_put 5 = .ok (.iload_n 1, 1) := by decide +kernel
theorem dX1_put_6 : decode cX1_put 6 = .ok (.iastore, 1) := by decide +kernel
theorem dX1_put_7 : decode cX1_put 7 = .ok (.aload_n 0, 1) := by decide +kernel
theorem dX1_put_8 : decode cX1_put 8 = .ok (.getfield 29, 3) := by decide +kernel
theorem dX1_put_11 : decode cX1_put 11 = .ok (.iconst 1, 1) := by decide +kernel
theorem dX1_put_12 : decode cX1_put 12 = .ok (.iload_n 2, 1) := by decide +kernel
theorem dX1_put_13 : decode cX1_put 13 = .ok (.iastore, 1) := by decide +kernel
theorem dX1_put_14 : decode cX1_put 14 = .ok (.aload_n 0, 1) := by decide +kernel
theorem dX1_put_15 : decode cX1_put 15 = .ok (.getfield 29, 3) := by decide +kernel
theorem dX1_put_18 : decode cX1_put 18 = .ok (.iconst 2, 1) := by decide +kernel
theorem dX1_put_19 : decode cX1_put 19 = .ok (.iload_n 3, 1) := by decide +kernel
theorem dX1_put_20 : decode cX1_put 20 = .ok (.iastore, 1) := by decide +kernel
theorem dX1_put_21 : decode cX1_put 21 = .ok (.aload_n 0, 1) := by decide +kernel
theorem dX1_put_22 : decode cX1_put 22 = .ok (.getfield 29, 3) := by decide +kernel
theorem dX1_put_25 : decode cX1_put 25 = .ok (.iconst 3, 1) := by decide +kernel
theorem dX1_put_26 : decode cX1_put 26 = .ok (.iload 4, 2) := by decide +kernel
theorem dX1_put_28 : decode cX1_put 28 = .ok (.iastore, 1) := by decide +kernel
theorem dX1_put_29 : decode cX1_put 29 = .ok (.return_, 1) := by decide +kernel
set_option maxRecDepth 20000 in
theorem ggX1_train_X1_in : GoodIn wsX1_train wsX1_in := goodIn_r _ [7] (by decide +kernel) (by decide +kernel)
set_option maxRecDepth 20000 in
theorem gX1_train_X1_in : GoodIn wsX1_train (va_wsS RX1 40 yX1_in wsX1_in) := goodIn_app (goodIn_of _ (by decide +kernel)) ggX1_train_X1_in
set_option maxRecDepth 20000 in
theorem ggX1_train_X1_isTrain : GoodIn wsX1_train wsX1_isTrain := goodIn_r _ [11, 12, 13, 14, 15, 16, 6, 17, 3, 18, 19, 20, 21, 22, 23, 24, 25, 26] (by decide +kernel) (by decide +kernel)
set_option maxRecDepth 20000 in
theorem gX1_train_X1_isTrain : GoodIn wsX1_train (wsV RX1 88 RX1 yX1_isTrain wsX1_isTrain) := goodIn_app (goodIn_of _ (by decide +kernel)) ggX1_train_X1_isTrain
theorem dX1_train_0 : decode cX1_train 0 = .ok (.iload_n 1, 1) := by decide +kernel
theorem dX1_train_1 : decode cX1_train 1 = .ok (.i2l, 1) := by decide +kernel
theorem dX1_train_2 : decode cX1_train 2 = .ok (.lconst 1, 1) := by decide +kernel
theorem dX1_train_3 : decode cX1_train 3 = .ok (.ldc2_w 86, 3) := by decide +kernel
theorem dX1_train_6 : decode cX1_train 6 = .ok (.invokestatic 40, 3) := by decide +kernel
theorem dX1_train_9 : decode cX1_train 9 = .ok (.ifCond .eq 27, 3) := by decide +kernel
theorem dX1_train_12 : decode cX1_train 12 = .ok (.iload_n 2, 1) := by decide +kernel
theorem dX1_train_13 : decode cX1_train 13 = .ok (.i2l, 1) := by decide +kernel
theorem dX1_train_14 : decode cX1_train 14 = .ok (.lconst 1, 1) := by decide +kernel
theorem dX1_train_15 : decode cX1_train 15 = .ok (.ldc2_w 86, 3) := by decide +kernel
theorem dX1_train_18 : decode cX1_train 18 = .ok (.invokestatic 40, 3) := by decide +kernel
theorem dX1_train_21 : decode cX1_train 21 = .ok (.ifCond .eq 15, 3) := by decide +kernel
theorem dX1_train_24 : decode cX1_train 24 = .ok (.iload_n 3, 1) := by decide +kernel
theorem dX1_train_25 : decode cX1_train 25 = .ok (.i2l, 1) := by decide +kernel
theorem dX1_train_26 : decode cX1_train 26 = .ok (.lconst 0, 1) := by decide +kernel
theorem dX1_train_27 : decode cX1_train 27 = .ok (.ldc2_w 74, 3) := by decide +kernel
theorem dX1_train_30 : decode cX1_train 30 = .ok (.invokestatic 40, 3) := by decide +kernel
theorem dX1_train_33 : decode cX1_train 33 = .ok (.ifCond .ne 6, 3) := by decide +kernel
theorem dX1_train_36 : decode cX1_train 36 = .ok (.bipush (-2), 2) := by decide +kernel
theorem dX1_train_38 : decode cX1_train 38 = .ok (.ireturn, 1) := by decide +kernel
theorem dX1_train_39 : decode cX1_train 39 = .ok (.aload_n 0, 1) := by decide +kernel
theorem dX1_train_40 : decode cX1_train 40 = .ok (.iload_n 1, 1) := by decide +kernel
theorem dX1_train_41 : decode cX1_train 41 = .ok (.i2l, 1) := by decide +kernel
theorem dX1_train_42 : decode cX1_train 42 = .ok (.iload_n 2, 1) := by decide +kernel
theorem dX1_train_43 : decode cX1_train 43 = .ok (.i2l, 1) := by decide +kernel
theorem dX1_train_44 : decode cX1_train 44 = .ok (.invokevirtual 88, 3) := by decide +kernel
theorem dX1_train_47 : decode cX1_train 47 = .ok (.ifCond .eq 12, 3) := by decide +kernel
theorem dX1_train_50 : decode cX1_train 50 = .ok (.aload_n 0, 1) := by decide +kernel
theorem dX1_train_51 : decode cX1_train 51 = .ok (.getfield 29, 3) := by decide +kernel
theorem dX1_train_54 : decode cX1_train 54 = .ok (.iload_n 3, 1) := by decide +kernel
theorem dX1_train_55 : decode cX1_train 55 = .ok (.iaload, 1) := by decide +kernel
theorem dX1_train_56 : decode cX1_train 56 = .ok (.goto 5, 3) := by decide +kernel
theorem dX1_train_59 : decode cX1_train 59 = .ok (.bipush (-6), 2) := by decide +kernel
theorem dX1_train_61 : decode cX1_train 61 = .ok (.ireturn, 1) := by decide +kernel
set_option maxRecDepth 20000 in
theorem ggX1_differential_X1_isParts : GoodIn wsX1_differential wsX1_isParts := goodIn_r _ [7, 8, 9, 10, 11, 6, 12] (by decide +kernel) (by decide +kernel)
set_option maxRecDepth 20000 in
theorem gX1_differential_X1_isParts : GoodIn wsX1_differential (va_wsS RX1 67 yX1_isParts wsX1_isParts) := goodIn_app (goodIn_of _ (by decide +kernel)) ggX1_differential_X1_isParts
set_option maxRecDepth 20000 in
theorem ggX1_differential_X1_in : GoodIn wsX1_differential wsX1_in := goodIn_r _ [12] (by decide +kernel) (by decide +kernel)
set_option maxRecDepth 20000 in
theorem gX1_differential_X1_in : GoodIn wsX1_differential (va_wsS RX1 40 yX1_in wsX1_in) := goodIn_app (goodIn_of _ (by decide +kernel)) ggX1_differential_X1_in
set_option maxRecDepth 20000 in
theorem ggX1_differential_X1_plainOf : GoodIn wsX1_differential wsX1_plainOf := goodIn_r _ [16, 17, 2, 18, 29, 30, 31, 32, 33, 34, 35, 36, 37] (by decide +kernel) (by decide +kernel)
set_option maxRecDepth 20000 in
theorem gX1_differential_X1_plainOf : GoodIn wsX1_differential (wsV RX1 70 RX1 yX1_plainOf wsX1_plainOf) := goodIn_app (goodIn_of _ (by decide +kernel)) ggX1_differential_X1_plainOf
set_option maxRecDepth 20000 in
theorem ggX1_differential_X1_isTrain : GoodIn wsX1_differential wsX1_isTrain := goodIn_r _ [22, 23, 24, 25, 26, 27, 6, 28, 3, 29, 30, 31, 32, 33, 34, 35, 36, 37] (by decide +kernel) (by decide +kernel)
set_option maxRecDepth 20000 in
theorem gX1_differential_X1_isTrain : GoodIn wsX1_differential (wsV RX1 88 RX1 yX1_isTrain wsX1_isTrain) := goodIn_app (goodIn_of _ (by decide +kernel)) ggX1_differential_X1_isTrain
theorem dX1_differential_0 : decode cX1_differential 0 = .ok (.iload_n 1, 1) := by decide +kernel
theorem dX1_differential_1 : decode cX1_differential 1 = .ok (.invokestatic 67, 3) := by decide +kernel
theorem dX1_differential_4 : decode cX1_differential 4 = .ok (.ifCond .eq 15, 3) := by decide +kernel
theorem dX1_differential_7 : decode cX1_differential 7 = .ok (.iload_n 2, 1) := by decide +kernel
theorem dX1_differential_8 : decode cX1_differential 8 = .ok (.i2l, 1) := by decide +kernel
theorem dX1_differential_9 : decode cX1_differential 9 = .ok (.lconst 0, 1) := by decide +kernel
theorem dX1_differential_10 : decode cX1_differential 10 = .ok (.ldc2_w 92, 3) := by decide +kernel
theorem dX1_differential_13 : decode cX1_differential 13 = .ok (.invokestatic 40, 3) := by decide +kernel
theorem dX1_differential_16 : decode cX1_differential 16 = .ok (.ifCond .ne 6, 3) := by decide +kernel
theorem dX1_differential_19 : decode cX1_differential 19 = .ok (.bipush (-2), 2) := by decide +kernel
theorem dX1_differential_21 : decode cX1_differential 21 = .ok (.ireturn, 1) := by decide +kernel
theorem dX1_differential_22 : decode cX1_differential 22 = .ok (.iconst 2, 1) := by decide +kernel
theorem dX1_differential_23 : decode cX1_differential 23 = .ok (.istore_n 3, 1) := by decide +kernel
theorem dX1_differential_24 : decode cX1_differential 24 = .ok (.iload_n 3, 1) := by decide +kernel
theorem dX1_differential_25 : decode cX1_differential 25 = .ok (.bipush 22, 2) := by decide +kernel
theorem dX1_differential_27 : decode cX1_differential 27 = .ok (.if_icmp .ge 121, 3) := by decide +kernel
theorem dX1_differential_30 : decode cX1_differential 30 = .ok (.iload_n 3, 1) := by decide +kernel
theorem dX1_differential_31 : decode cX1_differential 31 = .ok (.iconst 2, 1) := by decide +kernel
theorem dX1_differential_32 : decode cX1_differential 32 = .ok (.idiv, 1) := by decide +kernel
theorem dX1_differential_33 : decode cX1_differential 33 = .ok (.istore 4, 2) := by decide +kernel
theorem dX1_differential_35 : decode cX1_differential 35 = .ok (.iload_n 3, 1) := by decide +kernel
theorem dX1_differential_36 : decode cX1_differential 36 = .ok (.iconst 2, 1) := by decide +kernel
theorem dX1_differential_37 : decode cX1_differential 37 = .ok (.irem, 1) := by decide +kernel
theorem dX1_differential_38 : decode cX1_differential 38 = .ok (.ifCond .ne 10, 3) := by decide +kernel
theorem dX1_differential_41 : decode cX1_differential 41 = .ok (.iload_n 1, 1) := by decide +kernel
theorem dX1_differential_42 : decode cX1_differential 42 = .ok (.iload 4, 2) := by decide +kernel
theorem dX1_differential_44 : decode cX1_differential 44 = .ok (.isub, 1) := by decide +kernel
theorem dX1_differential_45 : decode cX1_differential 45 = .ok (.goto 7, 3) := by decide +kernel
theorem dX1_differential_48 : decode cX1_differential 48 = .ok (.iload_n 1, 1) := by decide +kernel
theorem dX1_differential_49 : decode cX1_differential 49 = .ok (.iload 4, 2) := by decide +kernel
theorem dX1_differential_51 : decode cX1_differential 51 = .ok (.iadd, 1) := by decide +kernel
theorem dX1_differential_52 : decode cX1_differential 52 = .ok (.istore 5, 2) := by decide +kernel
theorem dX1_differential_54 : decode cX1_differential 54 = .ok (.iload 5, 2) := by decide +kernel
theorem dX1_differential_56 : decode cX1_differential 56 = .ok (.invokestatic 67, 3) := by decide +kernel
theorem dX1_differential_59 : decode cX1_differential 59 = .ok (.ifCond .eq 83, 3) := by decide +kernel
theorem dX1_differential_62 : decode cX1_differential 62 = .ok (.aload_n 0, 1) := by decide +kernel
theorem dX1_differential_63 : decode cX1_differential 63 = .ok (.iload 5, 2) := by decide +kernel
theorem dX1_differential_65 : decode cX1_differential 65 = .ok (.invokevirtual 70, 3) := by decide +kernel
theorem dX1_differential_68 : decode cX1_differential 68 = .ok (.ifCond .lt 74, 3) := by decide +kernel
theorem dX1_differential_71 : decode cX1_differential 71 = .ok (.aload_n 0, 1) := by decide +kernel
theorem dX1_differential_72 : decode cX1_differential 72 = .ok (.iload 4, 2) := by decide +kernel
theorem dX1_differential_74 : decode cX1_differential 74 = .ok (.i2l, 1) := by decide +kernel
theorem dX1_differential_75 : decode cX1_differential 75 = .ok (.aload_n 0, 1) := by decide +kernel
theorem dX1_differential_76 : decode cX1_differential 76 = .ok (.getfield 7, 3) := by decide +kernel
theorem dX1_differential_79 : decode cX1_differential 79 = .ok (.i2l, 1) := by decide +kernel
theorem dX1_differential_80 : decode cX1_differential 80 = .ok (.lmul, 1) := by decide +kernel
theorem dX1_differential_81 : decode cX1_differential 81 = .ok (.iload 5, 2) := by decide +kernel
theorem dX1_differential_83 : decode cX1_differential 83 = .ok (.i2l, 1) := by decide +kernel
theorem dX1_differential_84 : decode cX1_differential 84 = .ok (.invokevirtual 88, 3) := by decide +kernel
theorem dX1_differential_87 : decode cX1_differential 87 = .ok (.ifCond .eq 55, 3) := by decide +kernel
theorem dX1_differential_90 : decode cX1_differential 90 = .ok (.iload_n 2, 1) := by decide +kernel
theorem dX1_differential_91 : decode cX1_differential 91 = .ok (.ifCond .ne 8, 3) := by decide +kernel
theorem dX1_differential_94 : decode cX1_differential 94 = .ok (.iload 5, 2) := by decide +kernel
theorem dX1_differential_96 : decode cX1_differential 96 = .ok (.goto 45, 3) := by decide +kernel
theorem dX1_differential_99 : decode cX1_differential 99 = .ok (.iload_n 2, 1) := by decide +kernel
theorem dX1_differential_100 : decode cX1_differential 100 = .ok (.iconst 1, 1) := by decide +kernel
theorem dX1_differential_101 : decode cX1_differential 101 = .ok (.if_icmp .ne 12, 3) := by decide +kernel
theorem dX1_differential_104 : decode cX1_differential 104 = .ok (.aload_n 0, 1) := by decide +kernel
theorem dX1_differential_105 : decode cX1_differential 105 = .ok (.iload 5, 2) := by decide +kernel
theorem dX1_differential_107 : decode cX1_differential 107 = .ok (.invokevirtual 70, 3) := by decide +kernel
theorem dX1_differential_110 : decode cX1_differential 110 = .ok (.goto 31, 3) := by decide +kernel
theorem dX1_differential_113 : decode cX1_differential 113 = .ok (.iload_n 2, 1) := by decide +kernel
theorem dX1_differential_114 : decode cX1_differential 114 = .ok (.bipush 6, 2) := by decide +kernel
theorem dX1_differential_116 : decode cX1_differential 116 = .ok (.if_icmp .ne 17, 3) := by decide +kernel
theorem dX1_differential_119 : decode cX1_differential 119 = .ok (.iload 5, 2) := by decide +kernel
theorem dX1_differential_121 : decode cX1_differential 121 = .ok (.iload_n 1, 1) := by decide +kernel
theorem dX1_differential_122 : decode cX1_differential 122 = .ok (.if_icmp .le 7, 3) := by decide +kernel
theorem dX1_differential_125 : decode cX1_differential 125 = .ok (.iconst 1, 1) := by decide +kernel
theorem dX1_differential_126 : decode cX1_differential 126 = .ok (.goto 15, 3) := by decide +kernel
theorem dX1_differential_129 : decode cX1_differential 129 = .ok (.iconst 0, 1) := by decide +kernel
theorem dX1_differential_130 : decode cX1_differential 130 = .ok (.goto 11, 3) := by decide +kernel
theorem dX1_differential_133 : decode cX1_differential 133 = .ok (.aload_n 0, 1) := by decide +kernel
theorem dX1_differential_134 : decode cX1_differential 134 = .ok (.getfield 29, 3) := by decide +kernel
theorem dX1_differential_137 : decode cX1_differential 137 = .ok (.iload_n 2, 1) := by decide +kernel
theorem dX1_differential_138 : decode cX1_differential 138 = .ok (.iconst 2, 1) := by decide +kernel
theorem dX1_differential_139 : decode cX1_differential 139 = .ok (.isub, 1) := by decide +kernel
theorem dX1_differential_140 : decode cX1_differential 140 = .ok (.iaload, 1) := by decide +kernel
theorem dX1_differential_141 : decode cX1_differential 141 = .ok (.ireturn, 1) := by decide +kernel
theorem dX1_differential_142 : decode cX1_differential 142 = .ok (.iinc 3 1, 3) := by decide +kernel
theorem dX1_differential_145 : decode cX1_differential 145 = .ok (.goto (-121), 3) := by decide +kernel
theorem dX1_differential_148 : decode cX1_differential 148 = .ok (.bipush (-6), 2) := by decide +kernel
theorem dX1_differential_150 : decode cX1_differential 150 = .ok (.ireturn, 1) := by decide +kernel
theorem dX1_holeOf_0 : decode cX1_holeOf 0 = .ok (.ldc2_w 36, 3) := by decide +kernel
theorem dX1_holeOf_3 : decode cX1_holeOf 3 = .ok (.iload_n 3, 1) := by decide +kernel
theorem dX1_holeOf_4 : decode cX1_holeOf 4 = .ok (.i2l, 1) := by decide +kernel
theorem dX1_holeOf_5 : decode cX1_holeOf 5 = .ok (.lmul, 1) := by decide +kernel
theorem dX1_holeOf_6 : decode cX1_holeOf 6 = .ok (.aload_n 0, 1) := by decide +kernel
theorem dX1_holeOf_7 : decode cX1_holeOf 7 = .ok (.getfield 7, 3) := by decide +kernel
theorem dX1_holeOf_10 : decode cX1_holeOf 10 = .ok (.i2l, 1) := by decide +kernel
theorem dX1_holeOf_11 : decode cX1_holeOf 11 = .ok (.lmul, 1) := by decide +kernel
theorem dX1_holeOf_12 : decode cX1_holeOf 12 = .ok (.aload_n 0, 1) := by decide +kernel
theorem dX1_holeOf_13 : decode cX1_holeOf 13 = .ok (.getfield 13, 3) := by decide +kernel
theorem dX1_holeOf_16 : decode cX1_holeOf 16 = .ok (.iload_n 1, 1) := by decide +kernel
theorem dX1_holeOf_17 : decode cX1_holeOf 17 = .ok (.iaload, 1) := by decide +kernel
theorem dX1_holeOf_18 : decode cX1_holeOf 18 = .ok (.i2l, 1) := by decide +kernel
theorem dX1_holeOf_19 : decode cX1_holeOf 19 = .ok (.lmul, 1) := by decide +kernel
theorem dX1_holeOf_20 : decode cX1_holeOf 20 = .ok (.iload_n 2, 1) := by decide +kernel
theorem dX1_holeOf_21 : decode cX1_holeOf 21 = .ok (.i2l, 1) := by decide +kernel
theorem dX1_holeOf_22 : decode cX1_holeOf 22 = .ok (.ladd, 1) := by decide +kernel
theorem dX1_holeOf_23 : decode cX1_holeOf 23 = .ok (.ldc2_w 36, 3) := by decide +kernel
theorem dX1_holeOf_26 : decode cX1_holeOf 26 = .ok (.iload_n 2, 1) := by decide +kernel
theorem dX1_holeOf_27 : decode cX1_holeOf 27 = .ok (.i2l, 1) := by decide +kernel
theorem dX1_holeOf_28 : decode cX1_holeOf 28 = .ok (.lmul, 1) := by decide +kernel
theorem dX1_holeOf_29 : decode cX1_holeOf 29 = .ok (.ldiv, 1) := by decide +kernel
theorem dX1_holeOf_30 : decode cX1_holeOf 30 = .ok (.lreturn, 1) := by decide +kernel
set_option maxRecDepth 20000 in
theorem ggX1_isCut_X1_isParts : GoodIn wsX1_isCut wsX1_isParts := goodIn_r _ [4, 5, 6, 7, 8, 3, 9] (by decide +kernel) (by decide +kernel)
set_option maxRecDepth 20000 in
theorem gX1_isCut_X1_isParts : GoodIn wsX1_isCut (va_wsS RX1 67 yX1_isParts wsX1_isParts) := goodIn_app (goodIn_of _ (by decide +kernel)) ggX1_isCut_X1_isParts
set_option maxRecDepth 20000 in
theorem ggX1_isCut_X1_in : GoodIn wsX1_isCut wsX1_in := goodIn_r _ [9] (by decide +kernel) (by decide +kernel)
set_option maxRecDepth 20000 in
theorem gX1_isCut_X1_in : GoodIn wsX1_isCut (va_wsS RX1 40 yX1_in wsX1_in) := goodIn_app (goodIn_of _ (by decide +kernel)) ggX1_isCut_X1_in
theorem dX1_isCut_0 : decode cX1_isCut 0 = .ok (.iload_n 0, 1) := by decide +kernel
theorem dX1_isCut_1 : decode cX1_isCut 1 = .ok (.invokestatic 67, 3) := by decide +kernel
theorem dX1_isCut_4 : decode cX1_isCut 4 = .ok (.ifCond .eq 18, 3) := by decide +kernel
theorem dX1_isCut_7 : decode cX1_isCut 7 = .ok (.iload_n 1, 1) := by decide +kernel
theorem dX1_isCut_8 : decode cX1_isCut 8 = .ok (.i2l, 1) := by decide +kernel
theorem dX1_isCut_9 : decode cX1_isCut 9 = .ok (.lconst 0, 1) := by decide +kernel
theorem dX1_isCut_10 : decode cX1_isCut 10 = .ok (.iload_n 0, 1) := by decide +kernel
theorem dX1_isCut_11 : decode cX1_isCut 11 = .ok (.i2l, 1) := by decide +kernel
theorem dX1_isCut_12 : decode cX1_isCut 12 = .ok (.invokestatic 40, 3) := by decide +kernel
theorem dX1_isCut_15 : decode cX1_isCut 15 = .ok (.ifCond .eq 7, 3) := by decide +kernel
theorem dX1_isCut_18 : decode cX1_isCut 18 = .ok (.iconst 1, 1) := by decide +kernel
theorem dX1_isCut_19 : decode cX1_isCut 19 = .ok (.goto 4, 3) := by decide +kernel
theorem dX1_isCut_22 : decode cX1_isCut 22 = .ok (.iconst 0, 1) := by decide +kernel
theorem dX1_isCut_23 : decode cX1_isCut 23 = .ok (.ireturn, 1) := by decide +kernel
set_option maxRecDepth 20000 in
theorem ggX1_hole_X1_isCircle : GoodIn wsX1_hole wsX1_isCircle := goodIn_r _ [5, 6, 7, 8, 4, 9, 24, 25, 26, 27, 28, 29, 30, 31, 32] (by decide +kernel) (by decide +kernel)
set_option maxRecDepth 20000 in
theorem gX1_hole_X1_isCircle : GoodIn wsX1_hole (wsV RX1 58 RX1 yX1_isCircle wsX1_isCircle) := goodIn_app (goodIn_of _ (by decide +kernel)) ggX1_hole_X1_isCircle
set_option maxRecDepth 20000 in
theorem ggX1_hole_X1_isCut : GoodIn wsX1_hole wsX1_isCut := goodIn_r _ [12, 13, 14, 4, 15, 16, 17, 7, 8, 9] (by decide +kernel) (by decide +kernel)
set_option maxRecDepth 20000 in
theorem gX1_hole_X1_isCut : GoodIn wsX1_hole (va_wsS RX1 94 yX1_isCut wsX1_isCut) := goodIn_app (goodIn_of _ (by decide +kernel)) ggX1_hole_X1_isCut
set_option maxRecDepth 20000 in
theorem ggX1_hole_X1_holeOf : GoodIn wsX1_hole wsX1_holeOf := goodIn_r _ [21, 16, 22, 23, 24, 25, 26, 27, 28, 29, 30, 31, 32] (by decide +kernel) (by decide +kernel)
set_option maxRecDepth 20000 in
theorem gX1_hole_X1_holeOf : GoodIn wsX1_hole (wsV RX1 98 RX1 yX1_holeOf wsX1_holeOf) := goodIn_app (goodIn_of _ (by decide +kernel)) ggX1_hole_X1_holeOf
theorem dX1_hole_0 : decode cX1_hole 0 = .ok (.aload_n 0, 1) := by decide +kernel
theorem dX1_hole_1 : decode cX1_hole 1 = .ok (.iload_n 1, 1) := by decide +kernel
theorem dX1_hole_2 : decode cX1_hole 2 = .ok (.invokevirtual 58, 3) := by decide +kernel
theorem dX1_hole_5 : decode cX1_hole 5 = .ok (.ifCond .ne 5, 3) := by decide +kernel
theorem dX1_hole_8 : decode cX1_hole 8 = .ok (.iconst (-1), 1) := by decide +kernel
theorem dX1_hole_9 : decode cX1_hole 9 = .ok (.ireturn, 1) := by decide +kernel
theorem dX1_hole_10 : decode cX1_hole 10 = .ok (.iload_n 2, 1) := by decide +kernel
theorem dX1_hole_11 : decode cX1_hole 11 = .ok (.iload_n 3, 1) := by decide +kernel
theorem dX1_hole_12 : decode cX1_hole 12 = .ok (.invokestatic 94, 3) := by decide +kernel
theorem dX1_hole_15 : decode cX1_hole 15 = .ok (.ifCond .eq 14, 3) := by decide +kernel
theorem dX1_hole_18 : decode cX1_hole 18 = .ok (.aload_n 0, 1) := by decide +kernel
theorem dX1_hole_19 : decode cX1_hole 19 = .ok (.iload_n 1, 1) := by decide +kernel
theorem dX1_hole_20 : decode cX1_hole 20 = .ok (.iload_n 2, 1) := by decide +kernel
theorem dX1_hole_21 : decode cX1_hole 21 = .ok (.iload_n 3, 1) := by decide +kernel
theorem dX1_hole_22 : decode cX1_hole 22 = .ok (.invokevirtual 98, 3) := by decide +kernel
theorem dX1_hole_25 : decode cX1_hole 25 = .ok (.l2i, 1) := by decide +kernel
theorem dX1_hole_26 : decode cX1_hole 26 = .ok (.goto 5, 3) := by decide +kernel
theorem dX1_hole_29 : decode cX1_hole 29 = .ok (.bipush (-2), 2) := by decide +kernel
theorem dX1_hole_31 : decode cX1_hole 31 = .ok (.ireturn, 1) := by decide +kernel
set_option maxRecDepth 20000 in
theorem ggX1_missOf_X1_holeOf : GoodIn wsX1_missOf wsX1_holeOf := goodIn_r _ [7, 8, 1, 2, 9, 10, 11, 12, 13, 14, 15, 16, 17] (by decide +kernel) (by decide +kernel)
set_option maxRecDepth 20000 in
theorem gX1_missOf_X1_holeOf : GoodIn wsX1_missOf (wsV RX1 98 RX1 yX1_holeOf wsX1_holeOf) := goodIn_app (goodIn_of _ (by decide +kernel)) ggX1_missOf_X1_holeOf
theorem dX1_missOf_0 : decode cX1_missOf 0 = .ok (.aload_n 0, 1) := by decide +kernel
theorem dX1_missOf_1 : decode cX1_missOf 1 = .ok (.iload_n 1, 1) := by decide +kernel
theorem dX1_missOf_2 : decode cX1_missOf 2 = .ok (.iload_n 2, 1) := by decide +kernel
theorem dX1_missOf_3 : decode cX1_missOf 3 = .ok (.iload_n 3, 1) := by decide +kernel
theorem dX1_missOf_4 : decode cX1_missOf 4 = .ok (.invokevirtual 98, 3) := by decide +kernel
theorem dX1_missOf_7 : decode cX1_missOf 7 = .ok (.iload_n 2, 1) := by decide +kernel
theorem dX1_missOf_8 : decode cX1_missOf 8 = .ok (.i2l, 1) := by decide +kernel
theorem dX1_missOf_9 : decode cX1_missOf 9 = .ok (.lmul, 1) := by decide +kernel
theorem dX1_missOf_10 : decode cX1_missOf 10 = .ok (.iload_n 3, 1) := by decide +kernel
theorem dX1_missOf_11 : decode cX1_missOf 11 = .ok (.i2l, 1) := by decide +kernel
theorem dX1_missOf_12 : decode cX1_missOf 12 = .ok (.aload_n 0, 1) := by decide +kernel
theorem dX1_missOf_13 : decode cX1_missOf 13 = .ok (.getfield 7, 3) := by decide +kernel
theorem dX1_missOf_16 : decode cX1_missOf 16 = .ok (.i2l, 1) := by decide +kernel
theorem dX1_missOf_17 : decode cX1_missOf 17 = .ok (.lmul, 1) := by decide +kernel
theorem dX1_missOf_18 : decode cX1_missOf 18 = .ok (.aload_n 0, 1) := by decide +kernel
theorem dX1_missOf_19 : decode cX1_missOf 19 = .ok (.getfield 13, 3) := by decide +kernel
theorem dX1_missOf_22 : decode cX1_missOf 22 = .ok (.iload_n 1, 1) := by decide +kernel
theorem dX1_missOf_23 : decode cX1_missOf 23 = .ok (.iaload, 1) := by decide +kernel
theorem dX1_missOf_24 : decode cX1_missOf 24 = .ok (.i2l, 1) := by decide +kernel
theorem dX1_missOf_25 : decode cX1_missOf 25 = .ok (.lmul, 1) := by decide +kernel
theorem dX1_missOf_26 : decode cX1_missOf 26 = .ok (.lsub, 1) := by decide +kernel
theorem dX1_missOf_27 : decode cX1_missOf 27 = .ok (.lreturn, 1) := by decide +kernel
set_option maxRecDepth 20000 in
theorem ggX1_miss_X1_isCircle : GoodIn wsX1_miss wsX1_isCircle := goodIn_r _ [7, 8, 9, 10, 6, 11, 36, 37, 38, 39, 40, 41, 42, 43, 44] (by decide +kernel) (by decide +kernel)
set_option maxRecDepth 20000 in
theorem gX1_miss_X1_isCircle : GoodIn wsX1_miss (wsV RX1 58 RX1 yX1_isCircle wsX1_isCircle) := goodIn_app (goodIn_of _ (by decide +kernel)) ggX1_miss_X1_isCircle
set_option maxRecDepth 20000 in
theorem ggX1_miss_X1_isCut : GoodIn wsX1_miss wsX1_isCut := goodIn_r _ [14, 15, 16, 6, 17, 18, 19, 9, 10, 11] (by decide +kernel) (by decide +kernel)
set_option maxRecDepth 20000 in
theorem gX1_miss_X1_isCut : GoodIn wsX1_miss (va_wsS RX1 94 yX1_isCut wsX1_isCut) := goodIn_app (goodIn_of _ (by decide +kernel)) ggX1_miss_X1_isCut
set_option maxRecDepth 20000 in
theorem ggX1_miss_X1_in : GoodIn wsX1_miss wsX1_in := goodIn_r _ [11] (by decide +kernel) (by decide +kernel)
set_option maxRecDepth 20000 in
theorem gX1_miss_X1_in : GoodIn wsX1_miss (va_wsS RX1 40 yX1_in wsX1_in) := goodIn_app (goodIn_of _ (by decide +kernel)) ggX1_miss_X1_in
set_option maxRecDepth 20000 in
theorem ggX1_miss_X1_missOf : GoodIn wsX1_miss wsX1_missOf := goodIn_r _ [23, 24, 25, 26, 27, 28, 6, 29, 18, 36, 37, 38, 39, 40, 41, 42, 43, 44] (by decide +kernel) (by decide +kernel)
set_option maxRecDepth 20000 in
theorem gX1_miss_X1_missOf : GoodIn wsX1_miss (wsV RX1 103 RX1 yX1_missOf wsX1_missOf) := goodIn_app (goodIn_of _ (by decide +kernel)) ggX1_miss_X1_missOf
set_option maxRecDepth 20000 in
theorem ggX1_miss_X1_term : GoodIn wsX1_miss wsX1_term := goodIn_r _ [32, 33, 34, 6, 35] (by decide +kernel) (by decide +kernel)
set_option maxRecDepth 20000 in
theorem gX1_miss_X1_term : GoodIn wsX1_miss (va_wsS RX1 106 yX1_term wsX1_term) := goodIn_app (goodIn_of _ (by decide +kernel)) ggX1_miss_X1_term
theorem dX1_miss_0 : decode cX1_miss 0 = .ok (.aload_n 0, 1) := by decide +kernel
theorem dX1_miss_1 : decode cX1_miss 1 = .ok (.iload_n 1, 1) := by decide +kernel
theorem dX1_miss_2 : decode cX1_miss 2 = .ok (.invokevirtual 58, 3) := by decide +kernel
theorem dX1_miss_5 : decode cX1_miss 5 = .ok (.ifCond .ne 6, 3) := by decide +kernel
theorem dX1_miss_8 : decode cX1_miss 8 = .ok (.ldc 102, 2) := by decide +kernel
theorem dX1_miss_10 : decode cX1_miss 10 = .ok (.ireturn, 1) := by decide +kernel
theorem dX1_miss_11 : decode cX1_miss 11 = .ok (.iload_n 2, 1) := by decide +kernel
theorem dX1_miss_12 : decode cX1_miss 12 = .ok (.iload_n 3, 1) := by decide +kernel
theorem dX1_miss_13 : decode cX1_miss 13 = .ok (.invokestatic 94, 3) := by decide +kernel
theorem dX1_miss_16 : decode cX1_miss 16 = .ok (.ifCond .eq 31, 3) := by decide +kernel
theorem dX1_miss_19 : decode cX1_miss 19 = .ok (.iload 4, 2) := by decide +kernel
theorem dX1_miss_21 : decode cX1_miss 21 = .ok (.i2l, 1) := by decide +kernel
theorem dX1_miss_22 : decode cX1_miss 22 = .ok (.lconst 0, 1) := by decide +kernel
theorem dX1_miss_23 : decode cX1_miss 23 = .ok (.lconst 1, 1) := by decide +kernel
theorem dX1_miss_24 : decode cX1_miss 24 = .ok (.invokestatic 40, 3) := by decide +kernel
theorem dX1_miss_27 : decode cX1_miss 27 = .ok (.ifCond .eq 20, 3) := by decide +kernel
theorem dX1_miss_30 : decode cX1_miss 30 = .ok (.aload_n 0, 1) := by decide +kernel
theorem dX1_miss_31 : decode cX1_miss 31 = .ok (.iload_n 1, 1) := by decide +kernel
theorem dX1_miss_32 : decode cX1_miss 32 = .ok (.iload_n 2, 1) := by decide +kernel
theorem dX1_miss_33 : decode cX1_miss 33 = .ok (.iload_n 3, 1) := by decide +kernel
theorem dX1_miss_34 : decode cX1_miss 34 = .ok (.invokevirtual 103, 3) := by decide +kernel
theorem dX1_miss_37 : decode cX1_miss 37 = .ok (.iload_n 2, 1) := by decide +kernel
theorem dX1_miss_38 : decode cX1_miss 38 = .ok (.i2l, 1) := by decide +kernel
theorem dX1_miss_39 : decode cX1_miss 39 = .ok (.iload 4, 2) := by decide +kernel
theorem dX1_miss_41 : decode cX1_miss 41 = .ok (.invokestatic 106, 3) := by decide +kernel
theorem dX1_miss_44 : decode cX1_miss 44 = .ok (.goto 5, 3) := by decide +kernel
theorem dX1_miss_47 : decode cX1_miss 47 = .ok (.ldc 76, 2) := by decide +kernel
theorem dX1_miss_49 : decode cX1_miss 49 = .ok (.ireturn, 1) := by decide +kernel
set_option maxRecDepth 20000 in
theorem ggX1_worstOf_X1_missOf : GoodIn wsX1_worstOf wsX1_missOf := goodIn_r _ [5, 6, 7, 8, 9, 10, 4, 11, 12, 13, 14, 15, 16, 17, 18, 19, 20, 21] (by decide +kernel) (by decide +kernel)
set_option maxRecDepth 20000 in
theorem gX1_worstOf_X1_missOf : GoodIn wsX1_worstOf (wsV RX1 103 RX1 yX1_missOf wsX1_missOf) := goodIn_app (goodIn_of _ (by decide +kernel)) ggX1_worstOf_X1_missOf
theorem dX1_worstOf_0 : decode cX1_worstOf 0 = .ok (.lconst 0, 1) := by decide +kernel
theorem dX1_worstOf_1 : decode cX1_worstOf 1 = .ok (.lstore_n 3, 1) := by decide +kernel
theorem dX1_worstOf_2 : decode cX1_worstOf 2 = .ok (.iconst 0, 1) := by decide +kernel
theorem dX1_worstOf_3 : decode cX1_worstOf 3 = .ok (.istore 5, 2) := by decide +kernel
theorem dX1_worstOf_5 : decode cX1_worstOf 5 = .ok (.iload 5, 2) := by decide +kernel
theorem dX1_worstOf_7 : decode cX1_worstOf 7 = .ok (.iload_n 2, 1) := by decide +kernel
theorem dX1_worstOf_8 : decode cX1_worstOf 8 = .ok (.if_icmp .gt 50, 3) := by decide +kernel
theorem dX1_worstOf_11 : decode cX1_worstOf 11 = .ok (.aload_n 0, 1) := by decide +kernel
theorem dX1_worstOf_12 : decode cX1_worstOf 12 = .ok (.iload_n 1, 1) := by decide +kernel
theorem dX1_worstOf_13 : decode cX1_worstOf 13 = .ok (.iload_n 2, 1) := by decide +kernel
theorem dX1_worstOf_14 : decode cX1_worstOf 14 = .ok (.iload 5, 2) := by decide +kernel
theorem dX1_worstOf_16 : decode cX1_worstOf 16 = .ok (.invokevirtual 103, 3) := by decide +kernel
theorem dX1_worstOf_19 : decode cX1_worstOf 19 = .ok (.lstore 6, 2) := by decide +kernel
theorem dX1_worstOf_21 : decode cX1_worstOf 21 = .ok (.lload 6, 2) := by decide +kernel
theorem dX1_worstOf_23 : decode cX1_worstOf 23 = .ok (.lconst 0, 1) := by decide +kernel
theorem dX1_worstOf_24 : decode cX1_worstOf 24 = .ok (.lcmp, 1) := by decide +kernel
theorem dX1_worstOf_25 : decode cX1_worstOf 25 = .ok (.ifCond .ge 9, 3) := by decide +kernel
theorem dX1_worstOf_28 : decode cX1_worstOf 28 = .ok (.lload 6, 2) := by decide +kernel
theorem dX1_worstOf_30 : decode cX1_worstOf 30 = .ok (.lneg, 1) := by decide +kernel
theorem dX1_worstOf_31 : decode cX1_worstOf 31 = .ok (.goto 5, 3) := by decide +kernel
theorem dX1_worstOf_34 : decode cX1_worstOf 34 = .ok (.lload 6, 2) := by decide +kernel
theorem dX1_worstOf_36 : decode cX1_worstOf 36 = .ok (.lstore 6, 2) := by decide +kernel
theorem dX1_worstOf_38 : decode cX1_worstOf 38 = .ok (.lload 6, 2) := by decide +kernel
theorem dX1_worstOf_40 : decode cX1_worstOf 40 = .ok (.lload_n 3, 1) := by decide +kernel
theorem dX1_worstOf_41 : decode cX1_worstOf 41 = .ok (.lcmp, 1) := by decide +kernel
theorem dX1_worstOf_42 : decode cX1_worstOf 42 = .ok (.ifCond .le 8, 3) := by decide +kernel
theorem dX1_worstOf_45 : decode cX1_worstOf 45 = .ok (.lload 6, 2) := by decide +kernel
theorem dX1_worstOf_47 : decode cX1_worstOf 47 = .ok (.goto 4, 3) := by decide +kernel
theorem dX1_worstOf_50 : decode cX1_worstOf 50 = .ok (.lload_n 3, 1) := by decide +kernel
theorem dX1_worstOf_51 : decode cX1_worstOf 51 = .ok (.lstore_n 3, 1) := by decide +kernel
theorem dX1_worstOf_52 : decode cX1_worstOf 52 = .ok (.iinc 5 1, 3) := by decide +kernel
theorem dX1_worstOf_55 : decode cX1_worstOf 55 = .ok (.goto (-50), 3) := by decide +kernel
theorem dX1_worstOf_58 : decode cX1_worstOf 58 = .ok (.lload_n 3, 1) := by decide +kernel
theorem dX1_worstOf_59 : decode cX1_worstOf 59 = .ok (.lreturn, 1) := by decide +kernel
set_option maxRecDepth 20000 in
theorem ggX1_exact_X1_missOf : GoodIn wsX1_exact wsX1_missOf := goodIn_r _ [5, 6, 7, 8, 9, 10, 4, 11, 12, 13, 14, 15, 16, 17, 18, 19, 20, 21] (by decide +kernel) (by decide +kernel)
set_option maxRecDepth 20000 in
theorem gX1_exact_X1_missOf : GoodIn wsX1_exact (wsV RX1 103 RX1 yX1_missOf wsX1_missOf) := goodIn_app (goodIn_of _ (by decide +kernel)) ggX1_exact_X1_missOf
theorem dX1_exact_0 : decode cX1_exact 0 = .ok (.iconst 0, 1) := by decide +kernel
theorem dX1_exact_1 : decode cX1_exact 1 = .ok (.istore_n 3, 1) := by decide +kernel
theorem dX1_exact_2 : decode cX1_exact 2 = .ok (.iconst 0, 1) := by decide +kernel
theorem dX1_exact_3 : decode cX1_exact 3 = .ok (.istore 4, 2) := by decide +kernel
theorem dX1_exact_5 : decode cX1_exact 5 = .ok (.iload 4, 2) := by decide +kernel
theorem dX1_exact_7 : decode cX1_exact 7 = .ok (.iload_n 2, 1) := by decide +kernel
theorem dX1_exact_8 : decode cX1_exact 8 = .ok (.if_icmp .ge 30, 3) := by decide +kernel
theorem dX1_exact_11 : decode cX1_exact 11 = .ok (.iload_n 3, 1) := by decide +kernel
theorem dX1_exact_12 : decode cX1_exact 12 = .ok (.aload_n 0, 1) := by decide +kernel
theorem dX1_exact_13 : decode cX1_exact 13 = .ok (.iload_n 1, 1) := by decide +kernel
theorem dX1_exact_14 : decode cX1_exact 14 = .ok (.iload_n 2, 1) := by decide +kernel
theorem dX1_exact_15 : decode cX1_exact 15 = .ok (.iload 4, 2) := by decide +kernel
theorem dX1_exact_17 : decode cX1_exact 17 = .ok (.invokevirtual 103, 3) := by decide +kernel
theorem dX1_exact_20 : decode cX1_exact 20 = .ok (.lconst 0, 1) := by decide +kernel
theorem dX1_exact_21 : decode cX1_exact 21 = .ok (.lcmp, 1) := by decide +kernel
theorem dX1_exact_22 : decode cX1_exact 22 = .ok (.ifCond .ne 7, 3) := by decide +kernel
theorem dX1_exact_25 : decode cX1_exact 25 = .ok (.iconst 1, 1) := by decide +kernel
theorem dX1_exact_26 : decode cX1_exact 26 = .ok (.goto 4, 3) := by decide +kernel
theorem dX1_exact_29 : decode cX1_exact 29 = .ok (.iconst 0, 1) := by decide +kernel
theorem dX1_exact_30 : decode cX1_exact 30 = .ok (.iadd, 1) := by decide +kernel
theorem dX1_exact_31 : decode cX1_exact 31 = .ok (.istore_n 3, 1) := by decide +kernel
theorem dX1_exact_32 : decode cX1_exact 32 = .ok (.iinc 4 1, 3) := by decide +kernel
theorem dX1_exact_35 : decode cX1_exact 35 = .ok (.goto (-30), 3) := by decide +kernel
theorem dX1_exact_38 : decode cX1_exact 38 = .ok (.iload_n 3, 1) := by decide +kernel
theorem dX1_exact_39 : decode cX1_exact 39 = .ok (.ireturn, 1) := by decide +kernel
set_option maxRecDepth 20000 in
theorem ggX1_worst_X1_isCircle : GoodIn wsX1_worst wsX1_isCircle := goodIn_r _ [6, 7, 8, 9, 5, 10, 39, 40, 41, 42, 43, 44, 45, 46, 47] (by decide +kernel) (by decide +kernel)
set_option maxRecDepth 20000 in
theorem gX1_worst_X1_isCircle : GoodIn wsX1_worst (wsV RX1 58 RX1 yX1_isCircle wsX1_isCircle) := goodIn_app (goodIn_of _ (by decide +kernel)) ggX1_worst_X1_isCircle
set_option maxRecDepth 20000 in
theorem ggX1_worst_X1_isParts : GoodIn wsX1_worst wsX1_isParts := goodIn_r _ [13, 1, 14, 8, 9, 5, 10] (by decide +kernel) (by decide +kernel)
set_option maxRecDepth 20000 in
theorem gX1_worst_X1_isParts : GoodIn wsX1_worst (va_wsS RX1 67 yX1_isParts wsX1_isParts) := goodIn_app (goodIn_of _ (by decide +kernel)) ggX1_worst_X1_isParts
set_option maxRecDepth 20000 in
theorem ggX1_worst_X1_in : GoodIn wsX1_worst wsX1_in := goodIn_r _ [10] (by decide +kernel) (by decide +kernel)
set_option maxRecDepth 20000 in
theorem gX1_worst_X1_in : GoodIn wsX1_worst (va_wsS RX1 40 yX1_in wsX1_in) := goodIn_app (goodIn_of _ (by decide +kernel)) ggX1_worst_X1_in
set_option maxRecDepth 20000 in
theorem ggX1_worst_X1_exact : GoodIn wsX1_worst wsX1_exact := goodIn_r _ [18, 19, 20, 21, 5, 22, 23, 24, 25, 26, 27, 28, 1, 39, 40, 41, 42, 43, 44, 45, 46, 47] (by decide +kernel) (by decide +kernel)
set_option maxRecDepth 20000 in
theorem gX1_worst_X1_exact : GoodIn wsX1_worst (wsV RX1 110 RX1 yX1_exact wsX1_exact) := goodIn_app (goodIn_of _ (by decide +kernel)) ggX1_worst_X1_exact
set_option maxRecDepth 20000 in
theorem ggX1_worst_X1_worstOf : GoodIn wsX1_worst wsX1_worstOf := goodIn_r _ [32, 19, 20, 21, 5, 22, 23, 24, 25, 26, 27, 28, 1, 39, 40, 41, 42, 43, 44, 45, 46, 47] (by decide +kernel) (by decide +kernel)
set_option maxRecDepth 20000 in
theorem gX1_worst_X1_worstOf : GoodIn wsX1_worst (wsV RX1 114 RX1 yX1_worstOf wsX1_worstOf) := goodIn_app (goodIn_of _ (by decide +kernel)) ggX1_worst_X1_worstOf
set_option maxRecDepth 20000 in
theorem ggX1_worst_X1_term : GoodIn wsX1_worst wsX1_term := goodIn_r _ [35, 36, 37, 5, 38] (by decide +kernel) (by decide +kernel)
set_option maxRecDepth 20000 in
theorem gX1_worst_X1_term : GoodIn wsX1_worst (va_wsS RX1 106 yX1_term wsX1_term) := goodIn_app (goodIn_of _ (by decide +kernel)) ggX1_worst_X1_term
theorem dX1_worst_0 : decode cX1_worst 0 = .ok (.aload_n 0, 1) := by decide +kernel
theorem dX1_worst_1 : decode cX1_worst 1 = .ok (.iload_n 1, 1) := by decide +kernel
theorem dX1_worst_2 : decode cX1_worst 2 = .ok (.invokevirtual 58, 3) := by decide +kernel
theorem dX1_worst_5 : decode cX1_worst 5 = .ok (.ifCond .ne 5, 3) := by decide +kernel
theorem dX1_worst_8 : decode cX1_worst 8 = .ok (.iconst (-1), 1) := by decide +kernel
theorem dX1_worst_9 : decode cX1_worst 9 = .ok (.ireturn, 1) := by decide +kernel
theorem dX1_worst_10 : decode cX1_worst 10 = .ok (.iload_n 2, 1) := by decide +kernel
theorem dX1_worst_11 : decode cX1_worst 11 = .ok (.invokestatic 67, 3) := by decide +kernel
theorem dX1_worst_14 : decode cX1_worst 14 = .ok (.ifCond .eq 15, 3) := by decide +kernel
theorem dX1_worst_17 : decode cX1_worst 17 = .ok (.iload_n 3, 1) := by decide +kernel
theorem dX1_worst_18 : decode cX1_worst 18 = .ok (.i2l, 1) := by decide +kernel
theorem dX1_worst_19 : decode cX1_worst 19 = .ok (.lconst 0, 1) := by decide +kernel
theorem dX1_worst_20 : decode cX1_worst 20 = .ok (.ldc2_w 36, 3) := by decide +kernel
theorem dX1_worst_23 : decode cX1_worst 23 = .ok (.invokestatic 40, 3) := by decide +kernel
theorem dX1_worst_26 : decode cX1_worst 26 = .ok (.ifCond .ne 6, 3) := by decide +kernel
theorem dX1_worst_29 : decode cX1_worst 29 = .ok (.bipush (-2), 2) := by decide +kernel
theorem dX1_worst_31 : decode cX1_worst 31 = .ok (.ireturn, 1) := by decide +kernel
theorem dX1_worst_32 : decode cX1_worst 32 = .ok (.iload_n 3, 1) := by decide +kernel
theorem dX1_worst_33 : decode cX1_worst 33 = .ok (.iconst 2, 1) := by decide +kernel
theorem dX1_worst_34 : decode cX1_worst 34 = .ok (.if_icmp .ne 12, 3) := by decide +kernel
theorem dX1_worst_37 : decode cX1_worst 37 = .ok (.aload_n 0, 1) := by decide +kernel
theorem dX1_worst_38 : decode cX1_worst 38 = .ok (.iload_n 1, 1) := by decide +kernel
theorem dX1_worst_39 : decode cX1_worst 39 = .ok (.iload_n 2, 1) := by decide +kernel
theorem dX1_worst_40 : decode cX1_worst 40 = .ok (.invokevirtual 110, 3) := by decide +kernel
theorem dX1_worst_43 : decode cX1_worst 43 = .ok (.goto 15, 3) := by decide +kernel
theorem dX1_worst_46 : decode cX1_worst 46 = .ok (.aload_n 0, 1) := by decide +kernel
theorem dX1_worst_47 : decode cX1_worst 47 = .ok (.iload_n 1, 1) := by decide +kernel
theorem dX1_worst_48 : decode cX1_worst 48 = .ok (.iload_n 2, 1) := by decide +kernel
theorem dX1_worst_49 : decode cX1_worst 49 = .ok (.invokevirtual 114, 3) := by decide +kernel
theorem dX1_worst_52 : decode cX1_worst 52 = .ok (.iload_n 2, 1) := by decide +kernel
theorem dX1_worst_53 : decode cX1_worst 53 = .ok (.i2l, 1) := by decide +kernel
theorem dX1_worst_54 : decode cX1_worst 54 = .ok (.iload_n 3, 1) := by decide +kernel
theorem dX1_worst_55 : decode cX1_worst 55 = .ok (.invokestatic 106, 3) := by decide +kernel
theorem dX1_worst_58 : decode cX1_worst 58 = .ok (.ireturn, 1) := by decide +kernel
set_option maxRecDepth 20000 in
theorem ggX1_best_X1_isParts : GoodIn wsX1_best wsX1_isParts := goodIn_r _ [6, 7, 8, 9, 10, 5, 11] (by decide +kernel) (by decide +kernel)
set_option maxRecDepth 20000 in
theorem gX1_best_X1_isParts : GoodIn wsX1_best (va_wsS RX1 67 yX1_isParts wsX1_isParts) := goodIn_app (goodIn_of _ (by decide +kernel)) ggX1_best_X1_isParts
set_option maxRecDepth 20000 in
theorem ggX1_best_X1_worstOf : GoodIn wsX1_best wsX1_worstOf := goodIn_r _ [15, 16, 17, 18, 5, 19, 20, 2, 21, 22, 23, 24, 7, 25, 26, 27, 28, 29, 30, 31, 32, 33] (by decide +kernel) (by decide +kernel)
set_option maxRecDepth 20000 in
theorem gX1_best_X1_worstOf : GoodIn wsX1_best (wsV RX1 114 RX1 yX1_worstOf wsX1_worstOf) := goodIn_app (goodIn_of _ (by decide +kernel)) ggX1_best_X1_worstOf
theorem dX1_best_0 : decode cX1_best 0 = .ok (.iload_n 1, 1) := by decide +kernel
theorem dX1_best_1 : decode cX1_best 1 = .ok (.invokestatic 67, 3) := by decide +kernel
theorem dX1_best_4 : decode cX1_best 4 = .ok (.ifCond .ne 6, 3) := by decide +kernel
theorem dX1_best_7 : decode cX1_best 7 = .ok (.bipush (-2), 2) := by decide +kernel
theorem dX1_best_9 : decode cX1_best 9 = .ok (.ireturn, 1) := by decide +kernel
theorem dX1_best_10 : decode cX1_best 10 = .ok (.aload_n 0, 1) := by decide +kernel
theorem dX1_best_11 : decode cX1_best 11 = .ok (.getfield 44, 3) := by decide +kernel
theorem dX1_best_14 : decode cX1_best 14 = .ok (.ifCond .ne 6, 3) := by decide +kernel
theorem dX1_best_17 : decode cX1_best 17 = .ok (.bipush (-3), 2) := by decide +kernel
theorem dX1_best_19 : decode cX1_best 19 = .ok (.ireturn, 1) := by decide +kernel
theorem dX1_best_20 : decode cX1_best 20 = .ok (.iconst 0, 1) := by decide +kernel
theorem dX1_best_21 : decode cX1_best 21 = .ok (.istore_n 2, 1) := by decide +kernel
theorem dX1_best_22 : decode cX1_best 22 = .ok (.iconst 1, 1) := by decide +kernel
theorem dX1_best_23 : decode cX1_best 23 = .ok (.istore_n 3, 1) := by decide +kernel
theorem dX1_best_24 : decode cX1_best 24 = .ok (.iload_n 3, 1) := by decide +kernel
theorem dX1_best_25 : decode cX1_best 25 = .ok (.aload_n 0, 1) := by decide +kernel
theorem dX1_best_26 : decode cX1_best 26 = .ok (.getfield 44, 3) := by decide +kernel
theorem dX1_best_29 : decode cX1_best 29 = .ok (.if_icmp .ge 47, 3) := by decide +kernel
theorem dX1_best_32 : decode cX1_best 32 = .ok (.aload_n 0, 1) := by decide +kernel
theorem dX1_best_33 : decode cX1_best 33 = .ok (.iload_n 3, 1) := by decide +kernel
theorem dX1_best_34 : decode cX1_best 34 = .ok (.iload_n 1, 1) := by decide +kernel
theorem dX1_best_35 : decode cX1_best 35 = .ok (.invokevirtual 114, 3) := by decide +kernel
theorem dX1_best_38 : decode cX1_best 38 = .ok (.aload_n 0, 1) := by decide +kernel
theorem dX1_best_39 : decode cX1_best 39 = .ok (.getfield 13, 3) := by decide +kernel
theorem dX1_best_42 : decode cX1_best 42 = .ok (.iload_n 2, 1) := by decide +kernel
theorem dX1_best_43 : decode cX1_best 43 = .ok (.iaload, 1) := by decide +kernel
theorem dX1_best_44 : decode cX1_best 44 = .ok (.i2l, 1) := by decide +kernel
theorem dX1_best_45 : decode cX1_best 45 = .ok (.lmul, 1) := by decide +kernel
theorem dX1_best_46 : decode cX1_best 46 = .ok (.aload_n 0, 1) := by decide +kernel
theorem dX1_best_47 : decode cX1_best 47 = .ok (.iload_n 2, 1) := by decide +kernel
theorem dX1_best_48 : decode cX1_best 48 = .ok (.iload_n 1, 1) := by decide +kernel
theorem dX1_best_49 : decode cX1_best 49 = .ok (.invokevirtual 114, 3) := by decide +kernel
theorem dX1_best_52 : decode cX1_best 52 = .ok (.aload_n 0, 1) := by decide +kernel
theorem dX1_best_53 : decode cX1_best 53 = .ok (.getfield 13, 3) := by decide +kernel
theorem dX1_best_56 : decode cX1_best 56 = .ok (.iload_n 3, 1) := by decide +kernel
theorem dX1_best_57 : decode cX1_best 57 = .ok (.iaload, 1) := by decide +kernel
theorem dX1_best_58 : decode cX1_best 58 = .ok (.i2l, 1) := by decide +kernel
theorem dX1_best_59 : decode cX1_best 59 = .ok (.lmul, 1) := by decide +kernel
theorem dX1_best_60 : decode cX1_best 60 = .ok (.lcmp, 1) := by decide +kernel
theorem dX1_best_61 : decode cX1_best 61 = .ok (.ifCond .ge 7, 3) := by decide +kernel
theorem dX1_best_64 : decode cX1_best 64 = .ok (.iload_n 3, 1) := by decide +kernel
theorem dX1_best_65 : decode cX1_best 65 = .ok (.goto 4, 3) := by decide +kernel
theorem dX1_best_68 : decode cX1_best 68 = .ok (.iload_n 2, 1) := by decide +kernel
theorem dX1_best_69 : decode cX1_best 69 = .ok (.istore_n 2, 1) := by decide +kernel
theorem dX1_best_70 : decode cX1_best 70 = .ok (.iinc 3 1, 3) := by decide +kernel
theorem dX1_best_73 : decode cX1_best 73 = .ok (.goto (-49), 3) := by decide +kernel
theorem dX1_best_76 : decode cX1_best 76 = .ok (.iload_n 2, 1) := by decide +kernel
theorem dX1_best_77 : decode cX1_best 77 = .ok (.ireturn, 1) := by decide +kernel
set_option maxRecDepth 20000 in
theorem ggX1_error_X1_in : GoodIn wsX1_error wsX1_in := goodIn_r _ [8] (by decide +kernel) (by decide +kernel)
set_option maxRecDepth 20000 in
theorem gX1_error_X1_in : GoodIn wsX1_error (va_wsS RX1 40 yX1_in wsX1_in) := goodIn_app (goodIn_of _ (by decide +kernel)) ggX1_error_X1_in
theorem dX1_error_0 : decode cX1_error 0 = .ok (.iload_n 1, 1) := by decide +kernel
theorem dX1_error_1 : decode cX1_error 1 = .ok (.i2l, 1) := by decide +kernel
theorem dX1_error_2 : decode cX1_error 2 = .ok (.lconst 0, 1) := by decide +kernel
theorem dX1_error_3 : decode cX1_error 3 = .ok (.ldc2_w 118, 3) := by decide +kernel
theorem dX1_error_6 : decode cX1_error 6 = .ok (.invokestatic 40, 3) := by decide +kernel
theorem dX1_error_9 : decode cX1_error 9 = .ok (.ifCond .ne 7, 3) := by decide +kernel
theorem dX1_error_12 : decode cX1_error 12 = .ok (.sipush (-1001), 3) := by decide +kernel
theorem dX1_error_15 : decode cX1_error 15 = .ok (.ireturn, 1) := by decide +kernel
theorem dX1_error_16 : decode cX1_error 16 = .ok (.iload_n 2, 1) := by decide +kernel
theorem dX1_error_17 : decode cX1_error 17 = .ok (.i2l, 1) := by decide +kernel
theorem dX1_error_18 : decode cX1_error 18 = .ok (.ldc2_w 120, 3) := by decide +kernel
theorem dX1_error_21 : decode cX1_error 21 = .ok (.ldc2_w 122, 3) := by decide +kernel
theorem dX1_error_24 : decode cX1_error 24 = .ok (.invokestatic 40, 3) := by decide +kernel
theorem dX1_error_27 : decode cX1_error 27 = .ok (.ifCond .ne 7, 3) := by decide +kernel
theorem dX1_error_30 : decode cX1_error 30 = .ok (.sipush (-1002), 3) := by decide +kernel
theorem dX1_error_33 : decode cX1_error 33 = .ok (.ireturn, 1) := by decide +kernel
theorem dX1_error_34 : decode cX1_error 34 = .ok (.aload_n 0, 1) := by decide +kernel
theorem dX1_error_35 : decode cX1_error 35 = .ok (.getfield 20, 3) := by decide +kernel
theorem dX1_error_38 : decode cX1_error 38 = .ok (.iload_n 1, 1) := by decide +kernel
theorem dX1_error_39 : decode cX1_error 39 = .ok (.iaload, 1) := by decide +kernel
theorem dX1_error_40 : decode cX1_error 40 = .ok (.istore_n 3, 1) := by decide +kernel
theorem dX1_error_41 : decode cX1_error 41 = .ok (.aload_n 0, 1) := by decide +kernel
theorem dX1_error_42 : decode cX1_error 42 = .ok (.getfield 20, 3) := by decide +kernel
theorem dX1_error_45 : decode cX1_error 45 = .ok (.iload_n 1, 1) := by decide +kernel
theorem dX1_error_46 : decode cX1_error 46 = .ok (.iload_n 2, 1) := by decide +kernel
theorem dX1_error_47 : decode cX1_error 47 = .ok (.iastore, 1) := by decide +kernel
theorem dX1_error_48 : decode cX1_error 48 = .ok (.iload_n 3, 1) := by decide +kernel
theorem dX1_error_49 : decode cX1_error 49 = .ok (.ireturn, 1) := by decide +kernel
theorem dX1_errorAt_0 : decode cX1_errorAt 0 = .ok (.ldc2_w 124, 3) := by decide +kernel
theorem dX1_errorAt_3 : decode cX1_errorAt 3 = .ok (.iload_n 3, 1) := by decide +kernel
theorem dX1_errorAt_4 : decode cX1_errorAt 4 = .ok (.i2l, 1) := by decide +kernel
theorem dX1_errorAt_5 : decode cX1_errorAt 5 = .ok (.iload_n 2, 1) := by decide +kernel
theorem dX1_errorAt_6 : decode cX1_errorAt 6 = .ok (.i2l, 1) := by decide +kernel
theorem dX1_errorAt_7 : decode cX1_errorAt 7 = .ok (.lmul, 1) := by decide +kernel
theorem dX1_errorAt_8 : decode cX1_errorAt 8 = .ok (.aload_n 0, 1) := by decide +kernel
theorem dX1_errorAt_9 : decode cX1_errorAt 9 = .ok (.getfield 13, 3) := by decide +kernel
theorem dX1_errorAt_12 : decode cX1_errorAt 12 = .ok (.iload_n 1, 1) := by decide +kernel
theorem dX1_errorAt_13 : decode cX1_errorAt 13 = .ok (.iaload, 1) := by decide +kernel
theorem dX1_errorAt_14 : decode cX1_errorAt 14 = .ok (.i2l, 1) := by decide +kernel
theorem dX1_errorAt_15 : decode cX1_errorAt 15 = .ok (.lrem, 1) := by decide +kernel
theorem dX1_errorAt_16 : decode cX1_errorAt 16 = .ok (.lmul, 1) := by decide +kernel
theorem dX1_errorAt_17 : decode cX1_errorAt 17 = .ok (.lstore 4, 2) := by decide +kernel
theorem dX1_errorAt_19 : decode cX1_errorAt 19 = .ok (.lload 4, 2) := by decide +kernel
theorem dX1_errorAt_21 : decode cX1_errorAt 21 = .ok (.aload_n 0, 1) := by decide +kernel
theorem dX1_errorAt_22 : decode cX1_errorAt 22 = .ok (.getfield 13, 3) := by decide +kernel
theorem dX1_errorAt_25 : decode cX1_errorAt 25 = .ok (.iload_n 1, 1) := by decide +kernel
theorem dX1_errorAt_26 : decode cX1_errorAt 26 = .ok (.iaload, 1) := by decide +kernel
theorem dX1_errorAt_27 : decode cX1_errorAt 27 = .ok (.i2l, 1) := by decide +kernel
theorem dX1_errorAt_28 : decode cX1_errorAt 28 = .ok (.ldiv, 1) := by decide +kernel
theorem dX1_errorAt_29 : decode cX1_errorAt 29 = .ok (.l2i, 1) := by decide +kernel
theorem dX1_errorAt_30 : decode cX1_errorAt 30 = .ok (.istore 6, 2) := by decide +kernel
theorem dX1_errorAt_32 : decode cX1_errorAt 32 = .ok (.lload 4, 2) := by decide +kernel
theorem dX1_errorAt_34 : decode cX1_errorAt 34 = .ok (.aload_n 0, 1) := by decide +kernel
theorem dX1_errorAt_35 : decode cX1_errorAt 35 = .ok (.getfield 13, 3) := by decide +kernel
theorem dX1_errorAt_38 : decode cX1_errorAt 38 = .ok (.iload_n 1, 1) := by decide +kernel
theorem dX1_errorAt_39 : decode cX1_errorAt 39 = .ok (.iaload, 1) := by decide +kernel
theorem dX1_errorAt_40 : decode cX1_errorAt 40 = .ok (.i2l, 1) := by decide +kernel
theorem dX1_errorAt_41 : decode cX1_errorAt 41 = .ok (.lrem, 1) := by decide +kernel
theorem dX1_errorAt_42 : decode cX1_errorAt 42 = .ok (.lstore 7, 2) := by decide +kernel
theorem dX1_errorAt_44 : decode cX1_errorAt 44 = .ok (.aload_n 0, 1) := by decide +kernel
theorem dX1_errorAt_45 : decode cX1_errorAt 45 = .ok (.getfield 20, 3) := by decide +kernel
theorem dX1_errorAt_48 : decode cX1_errorAt 48 = .ok (.iload 6, 2) := by decide +kernel
theorem dX1_errorAt_50 : decode cX1_errorAt 50 = .ok (.iaload, 1) := by decide +kernel
theorem dX1_errorAt_51 : decode cX1_errorAt 51 = .ok (.i2l, 1) := by decide +kernel
theorem dX1_errorAt_52 : decode cX1_errorAt 52 = .ok (.aload_n 0, 1) := by decide +kernel
theorem dX1_errorAt_53 : decode cX1_errorAt 53 = .ok (.getfield 13, 3) := by decide +kernel
theorem dX1_errorAt_56 : decode cX1_errorAt 56 = .ok (.iload_n 1, 1) := by decide +kernel
theorem dX1_errorAt_57 : decode cX1_errorAt 57 = .ok (.iaload, 1) := by decide +kernel
theorem dX1_errorAt_58 : decode cX1_errorAt 58 = .ok (.i2l, 1) := by decide +kernel
theorem dX1_errorAt_59 : decode cX1_errorAt 59 = .ok (.lmul, 1) := by decide +kernel
theorem dX1_errorAt_60 : decode cX1_errorAt 60 = .ok (.aload_n 0, 1) := by decide +kernel
theorem dX1_errorAt_61 : decode cX1_errorAt 61 = .ok (.getfield 20, 3) := by decide +kernel
theorem dX1_errorAt_64 : decode cX1_errorAt 64 = .ok (.iload 6, 2) := by decide +kernel
theorem dX1_errorAt_66 : decode cX1_errorAt 66 = .ok (.iconst 1, 1) := by decide +kernel
theorem dX1_errorAt_67 : decode cX1_errorAt 67 = .ok (.iadd, 1) := by decide +kernel
theorem dX1_errorAt_68 : decode cX1_errorAt 68 = .ok (.bipush 8, 2) := by decide +kernel
theorem dX1_errorAt_70 : decode cX1_errorAt 70 = .ok (.irem, 1) := by decide +kernel
theorem dX1_errorAt_71 : decode cX1_errorAt 71 = .ok (.iaload, 1) := by decide +kernel
theorem dX1_errorAt_72 : decode cX1_errorAt 72 = .ok (.aload_n 0, 1) := by decide +kernel
theorem dX1_errorAt_73 : decode cX1_errorAt 73 = .ok (.getfield 20, 3) := by decide +kernel
theorem dX1_errorAt_76 : decode cX1_errorAt 76 = .ok (.iload 6, 2) := by decide +kernel
theorem dX1_errorAt_78 : decode cX1_errorAt 78 = .ok (.iaload, 1) := by decide +kernel
theorem dX1_errorAt_79 : decode cX1_errorAt 79 = .ok (.isub, 1) := by decide +kernel
theorem dX1_errorAt_80 : decode cX1_errorAt 80 = .ok (.i2l, 1) := by decide +kernel
theorem dX1_errorAt_81 : decode cX1_errorAt 81 = .ok (.lload 7, 2) := by decide +kernel
theorem dX1_errorAt_83 : decode cX1_errorAt 83 = .ok (.lmul, 1) := by decide +kernel
theorem dX1_errorAt_84 : decode cX1_errorAt 84 = .ok (.ladd, 1) := by decide +kernel
theorem dX1_errorAt_85 : decode cX1_errorAt 85 = .ok (.lreturn, 1) := by decide +kernel
set_option maxRecDepth 20000 in
theorem ggX1_isSteps_X1_in : GoodIn wsX1_isSteps wsX1_in := goodIn_r _ [5] (by decide +kernel) (by decide +kernel)
set_option maxRecDepth 20000 in
theorem gX1_isSteps_X1_in : GoodIn wsX1_isSteps (va_wsS RX1 40 yX1_in wsX1_in) := goodIn_app (goodIn_of _ (by decide +kernel)) ggX1_isSteps_X1_in
theorem dX1_isSteps_0 : decode cX1_isSteps 0 = .ok (.iload_n 0, 1) := by decide +kernel
theorem dX1_isSteps_1 : decode cX1_isSteps 1 = .ok (.i2l, 1) := by decide +kernel
theorem dX1_isSteps_2 : decode cX1_isSteps 2 = .ok (.lconst 1, 1) := by decide +kernel
theorem dX1_isSteps_3 : decode cX1_isSteps 3 = .ok (.ldc2_w 126, 3) := by decide +kernel
theorem dX1_isSteps_6 : decode cX1_isSteps 6 = .ok (.invokestatic 40, 3) := by decide +kernel
theorem dX1_isSteps_9 : decode cX1_isSteps 9 = .ok (.ireturn, 1) := by decide +kernel
set_option maxRecDepth 20000 in
theorem ggX1_spoilt_X1_isCircle : GoodIn wsX1_spoilt wsX1_isCircle := goodIn_r _ [9, 10, 11, 12, 8, 13, 30, 31, 32, 33, 34, 35, 36, 37, 38] (by decide +kernel) (by decide +kernel)
set_option maxRecDepth 20000 in
theorem gX1_spoilt_X1_isCircle : GoodIn wsX1_spoilt (wsV RX1 58 RX1 yX1_isCircle wsX1_isCircle) := goodIn_app (goodIn_of _ (by decide +kernel)) ggX1_spoilt_X1_isCircle
set_option maxRecDepth 20000 in
theorem ggX1_spoilt_X1_isSteps : GoodIn wsX1_spoilt wsX1_isSteps := goodIn_r _ [16, 17, 11, 12, 8, 13] (by decide +kernel) (by decide +kernel)
set_option maxRecDepth 20000 in
theorem gX1_spoilt_X1_isSteps : GoodIn wsX1_spoilt (va_wsS RX1 128 yX1_isSteps wsX1_isSteps) := goodIn_app (goodIn_of _ (by decide +kernel)) ggX1_spoilt_X1_isSteps
set_option maxRecDepth 20000 in
theorem ggX1_spoilt_X1_in : GoodIn wsX1_spoilt wsX1_in := goodIn_r _ [13] (by decide +kernel) (by decide +kernel)
set_option maxRecDepth 20000 in
theorem gX1_spoilt_X1_in : GoodIn wsX1_spoilt (va_wsS RX1 40 yX1_in wsX1_in) := goodIn_app (goodIn_of _ (by decide +kernel)) ggX1_spoilt_X1_in
set_option maxRecDepth 20000 in
theorem ggX1_spoilt_X1_errorAt : GoodIn wsX1_spoilt wsX1_errorAt := goodIn_r _ [21, 22, 4, 23, 30, 31, 32, 33, 34, 35, 36, 37, 38] (by decide +kernel) (by decide +kernel)
set_option maxRecDepth 20000 in
theorem gX1_spoilt_X1_errorAt : GoodIn wsX1_spoilt (wsV RX1 133 RX1 yX1_errorAt wsX1_errorAt) := goodIn_app (goodIn_of _ (by decide +kernel)) ggX1_spoilt_X1_errorAt
set_option maxRecDepth 20000 in
theorem ggX1_spoilt_X1_term : GoodIn wsX1_spoilt wsX1_term := goodIn_r _ [26, 27, 28, 8, 29] (by decide +kernel) (by decide +kernel)
set_option maxRecDepth 20000 in
theorem gX1_spoilt_X1_term : GoodIn wsX1_spoilt (va_wsS RX1 106 yX1_term wsX1_term) := goodIn_app (goodIn_of _ (by decide +kernel)) ggX1_spoilt_X1_term
theorem dX1_spoilt_0 : decode cX1_spoilt 0 = .ok (.aload_n 0, 1) := by decide +kernel
theorem dX1_spoilt_1 : decode cX1_spoilt 1 = .ok (.iload_n 1, 1) := by decide +kernel
theorem dX1_spoilt_2 : decode cX1_spoilt 2 = .ok (.invokevirtual 58, 3) := by decide +kernel
theorem dX1_spoilt_5 : decode cX1_spoilt 5 = .ok (.ifCond .ne 6, 3) := by decide +kernel
theorem dX1_spoilt_8 : decode cX1_spoilt 8 = .ok (.ldc 102, 2) := by decide +kernel
theorem dX1_spoilt_10 : decode cX1_spoilt 10 = .ok (.ireturn, 1) := by decide +kernel
theorem dX1_spoilt_11 : decode cX1_spoilt 11 = .ok (.iload_n 2, 1) := by decide +kernel
theorem dX1_spoilt_12 : decode cX1_spoilt 12 = .ok (.invokestatic 128, 3) := by decide +kernel
theorem dX1_spoilt_15 : decode cX1_spoilt 15 = .ok (.ifCond .eq 26, 3) := by decide +kernel
theorem dX1_spoilt_18 : decode cX1_spoilt 18 = .ok (.iload_n 3, 1) := by decide +kernel
theorem dX1_spoilt_19 : decode cX1_spoilt 19 = .ok (.i2l, 1) := by decide +kernel
theorem dX1_spoilt_20 : decode cX1_spoilt 20 = .ok (.lconst 0, 1) := by decide +kernel
theorem dX1_spoilt_21 : decode cX1_spoilt 21 = .ok (.ldc2_w 131, 3) := by decide +kernel
theorem dX1_spoilt_24 : decode cX1_spoilt 24 = .ok (.invokestatic 40, 3) := by decide +kernel
theorem dX1_spoilt_27 : decode cX1_spoilt 27 = .ok (.ifCond .eq 14, 3) := by decide +kernel
theorem dX1_spoilt_30 : decode cX1_spoilt 30 = .ok (.iload 4, 2) := by decide +kernel
theorem dX1_spoilt_32 : decode cX1_spoilt 32 = .ok (.i2l, 1) := by decide +kernel
theorem dX1_spoilt_33 : decode cX1_spoilt 33 = .ok (.lconst 0, 1) := by decide +kernel
theorem dX1_spoilt_34 : decode cX1_spoilt 34 = .ok (.lconst 1, 1) := by decide +kernel
theorem dX1_spoilt_35 : decode cX1_spoilt 35 = .ok (.invokestatic 40, 3) := by decide +kernel
theorem dX1_spoilt_38 : decode cX1_spoilt 38 = .ok (.ifCond .ne 6, 3) := by decide +kernel
theorem dX1_spoilt_41 : decode cX1_spoilt 41 = .ok (.ldc 76, 2) := by decide +kernel
theorem dX1_spoilt_43 : decode cX1_spoilt 43 = .ok (.ireturn, 1) := by decide +kernel
theorem dX1_spoilt_44 : decode cX1_spoilt 44 = .ok (.aload_n 0, 1) := by decide +kernel
theorem dX1_spoilt_45 : decode cX1_spoilt 45 = .ok (.iload_n 1, 1) := by decide +kernel
theorem dX1_spoilt_46 : decode cX1_spoilt 46 = .ok (.iload_n 2, 1) := by decide +kernel
theorem dX1_spoilt_47 : decode cX1_spoilt 47 = .ok (.iload_n 3, 1) := by decide +kernel
theorem dX1_spoilt_48 : decode cX1_spoilt 48 = .ok (.invokevirtual 133, 3) := by decide +kernel
theorem dX1_spoilt_51 : decode cX1_spoilt 51 = .ok (.aload_n 0, 1) := by decide +kernel
theorem dX1_spoilt_52 : decode cX1_spoilt 52 = .ok (.getfield 13, 3) := by decide +kernel
theorem dX1_spoilt_55 : decode cX1_spoilt 55 = .ok (.iload_n 1, 1) := by decide +kernel
theorem dX1_spoilt_56 : decode cX1_spoilt 56 = .ok (.iaload, 1) := by decide +kernel
theorem dX1_spoilt_57 : decode cX1_spoilt 57 = .ok (.i2l, 1) := by decide +kernel
theorem dX1_spoilt_58 : decode cX1_spoilt 58 = .ok (.iload 4, 2) := by decide +kernel
theorem dX1_spoilt_60 : decode cX1_spoilt 60 = .ok (.invokestatic 106, 3) := by decide +kernel
theorem dX1_spoilt_63 : decode cX1_spoilt 63 = .ok (.ireturn, 1) := by decide +kernel
set_option maxRecDepth 20000 in
theorem ggX1_extreme_X1_isCircle : GoodIn wsX1_extreme wsX1_isCircle := goodIn_r _ [6, 7, 8, 9, 5, 10, 22, 23, 24, 25, 26, 27, 28, 29, 30] (by decide +kernel) (by decide +kernel)
set_option maxRecDepth 20000 in
theorem gX1_extreme_X1_isCircle : GoodIn wsX1_extreme (wsV RX1 58 RX1 yX1_isCircle wsX1_isCircle) := goodIn_app (goodIn_of _ (by decide +kernel)) ggX1_extreme_X1_isCircle
set_option maxRecDepth 20000 in
theorem ggX1_extreme_X1_isSteps : GoodIn wsX1_extreme wsX1_isSteps := goodIn_r _ [13, 14, 8, 9, 5, 10] (by decide +kernel) (by decide +kernel)
set_option maxRecDepth 20000 in
theorem gX1_extreme_X1_isSteps : GoodIn wsX1_extreme (va_wsS RX1 128 yX1_isSteps wsX1_isSteps) := goodIn_app (goodIn_of _ (by decide +kernel)) ggX1_extreme_X1_isSteps
set_option maxRecDepth 20000 in
theorem ggX1_extreme_X1_in : GoodIn wsX1_extreme wsX1_in := goodIn_r _ [10] (by decide +kernel) (by decide +kernel)
set_option maxRecDepth 20000 in
theorem gX1_extreme_X1_in : GoodIn wsX1_extreme (va_wsS RX1 40 yX1_in wsX1_in) := goodIn_app (goodIn_of _ (by decide +kernel)) ggX1_extreme_X1_in
set_option maxRecDepth 20000 in
theorem ggX1_extreme_X1_errorAt : GoodIn wsX1_extreme wsX1_errorAt := goodIn_r _ [18, 19, 20, 21, 22, 23, 24, 25, 26, 27, 28, 29, 30] (by decide +kernel) (by decide +kernel)
set_option maxRecDepth 20000 in
theorem gX1_extreme_X1_errorAt : GoodIn wsX1_extreme (wsV RX1 133 RX1 yX1_errorAt wsX1_errorAt) := goodIn_app (goodIn_of _ (by decide +kernel)) ggX1_extreme_X1_errorAt
theorem dX1_extreme_0 : decode cX1_extreme 0 = .ok (.aload_n 0, 1) := by decide +kernel
theorem dX1_extreme_1 : decode cX1_extreme 1 = .ok (.iload_n 1, 1) := by decide +kernel
theorem dX1_extreme_2 : decode cX1_extreme 2 = .ok (.invokevirtual 58, 3) := by decide +kernel
theorem dX1_extreme_5 : decode cX1_extreme 5 = .ok (.ifCond .ne 5, 3) := by decide +kernel
theorem dX1_extreme_8 : decode cX1_extreme 8 = .ok (.iconst (-1), 1) := by decide +kernel
theorem dX1_extreme_9 : decode cX1_extreme 9 = .ok (.ireturn, 1) := by decide +kernel
theorem dX1_extreme_10 : decode cX1_extreme 10 = .ok (.iload_n 2, 1) := by decide +kernel
theorem dX1_extreme_11 : decode cX1_extreme 11 = .ok (.invokestatic 128, 3) := by decide +kernel
theorem dX1_extreme_14 : decode cX1_extreme 14 = .ok (.ifCond .eq 26, 3) := by decide +kernel
theorem dX1_extreme_17 : decode cX1_extreme 17 = .ok (.iload_n 3, 1) := by decide +kernel
theorem dX1_extreme_18 : decode cX1_extreme 18 = .ok (.i2l, 1) := by decide +kernel
theorem dX1_extreme_19 : decode cX1_extreme 19 = .ok (.lconst 0, 1) := by decide +kernel
theorem dX1_extreme_20 : decode cX1_extreme 20 = .ok (.ldc2_w 38, 3) := by decide +kernel
theorem dX1_extreme_23 : decode cX1_extreme 23 = .ok (.invokestatic 40, 3) := by decide +kernel
theorem dX1_extreme_26 : decode cX1_extreme 26 = .ok (.ifCond .eq 14, 3) := by decide +kernel
theorem dX1_extreme_29 : decode cX1_extreme 29 = .ok (.iload 4, 2) := by decide +kernel
theorem dX1_extreme_31 : decode cX1_extreme 31 = .ok (.i2l, 1) := by decide +kernel
theorem dX1_extreme_32 : decode cX1_extreme 32 = .ok (.lconst 0, 1) := by decide +kernel
theorem dX1_extreme_33 : decode cX1_extreme 33 = .ok (.lconst 1, 1) := by decide +kernel
theorem dX1_extreme_34 : decode cX1_extreme 34 = .ok (.invokestatic 40, 3) := by decide +kernel
theorem dX1_extreme_37 : decode cX1_extreme 37 = .ok (.ifCond .ne 6, 3) := by decide +kernel
theorem dX1_extreme_40 : decode cX1_extreme 40 = .ok (.bipush (-2), 2) := by decide +kernel
theorem dX1_extreme_42 : decode cX1_extreme 42 = .ok (.ireturn, 1) := by decide +kernel
theorem dX1_extreme_43 : decode cX1_extreme 43 = .ok (.iconst 0, 1) := by decide +kernel
theorem dX1_extreme_44 : decode cX1_extreme 44 = .ok (.istore 5, 2) := by decide +kernel
theorem dX1_extreme_46 : decode cX1_extreme 46 = .ok (.iconst 1, 1) := by decide +kernel
theorem dX1_extreme_47 : decode cX1_extreme 47 = .ok (.istore 6, 2) := by decide +kernel
theorem dX1_extreme_49 : decode cX1_extreme 49 = .ok (.iload 6, 2) := by decide +kernel
theorem dX1_extreme_51 : decode cX1_extreme 51 = .ok (.iload_n 3, 1) := by decide +kernel
theorem dX1_extreme_52 : decode cX1_extreme 52 = .ok (.if_icmp .gt 65, 3) := by decide +kernel
theorem dX1_extreme_55 : decode cX1_extreme 55 = .ok (.aload_n 0, 1) := by decide +kernel
theorem dX1_extreme_56 : decode cX1_extreme 56 = .ok (.iload_n 1, 1) := by decide +kernel
theorem dX1_extreme_57 : decode cX1_extreme 57 = .ok (.iload_n 2, 1) := by decide +kernel
theorem dX1_extreme_58 : decode cX1_extreme 58 = .ok (.iload 6, 2) := by decide +kernel
theorem dX1_extreme_60 : decode cX1_extreme 60 = .ok (.invokevirtual 133, 3) := by decide +kernel
theorem dX1_extreme_63 : decode cX1_extreme 63 = .ok (.lstore 7, 2) := by decide +kernel
theorem dX1_extreme_65 : decode cX1_extreme 65 = .ok (.aload_n 0, 1) := by decide +kernel
theorem dX1_extreme_66 : decode cX1_extreme 66 = .ok (.iload_n 1, 1) := by decide +kernel
theorem dX1_extreme_67 : decode cX1_extreme 67 = .ok (.iload_n 2, 1) := by decide +kernel
theorem dX1_extreme_68 : decode cX1_extreme 68 = .ok (.iload 5, 2) := by decide +kernel
theorem dX1_extreme_70 : decode cX1_extreme 70 = .ok (.invokevirtual 133, 3) := by decide +kernel
theorem dX1_extreme_73 : decode cX1_extreme 73 = .ok (.lstore 9, 2) := by decide +kernel
theorem dX1_extreme_75 : decode cX1_extreme 75 = .ok (.iload 4, 2) := by decide +kernel
theorem dX1_extreme_77 : decode cX1_extreme 77 = .ok (.ifCond .ne 11, 3) := by decide +kernel
theorem dX1_extreme_80 : decode cX1_extreme 80 = .ok (.lload 7, 2) := by decide +kernel
theorem dX1_extreme_82 : decode cX1_extreme 82 = .ok (.lload 9, 2) := by decide +kernel
theorem dX1_extreme_84 : decode cX1_extreme 84 = .ok (.lcmp, 1) := by decide +kernel
theorem dX1_extreme_85 : decode cX1_extreme 85 = .ok (.ifCond .gt 17, 3) := by decide +kernel
theorem dX1_extreme_88 : decode cX1_extreme 88 = .ok (.iload 4, 2) := by decide +kernel
theorem dX1_extreme_90 : decode cX1_extreme 90 = .ok (.iconst 1, 1) := by decide +kernel
theorem dX1_extreme_91 : decode cX1_extreme 91 = .ok (.if_icmp .ne 16, 3) := by decide +kernel
theorem dX1_extreme_94 : decode cX1_extreme 94 = .ok (.lload 7, 2) := by decide +kernel
theorem dX1_extreme_96 : decode cX1_extreme 96 = .ok (.lload 9, 2) := by decide +kernel
theorem dX1_extreme_98 : decode cX1_extreme 98 = .ok (.lcmp, 1) := by decide +kernel
theorem dX1_extreme_99 : decode cX1_extreme 99 = .ok (.ifCond .ge 8, 3) := by decide +kernel
theorem dX1_extreme_102 : decode cX1_extreme 102 = .ok (.iload 6, 2) := by decide +kernel
theorem dX1_extreme_104 : decode cX1_extreme 104 = .ok (.goto 5, 3) := by decide +kernel
theorem dX1_extreme_107 : decode cX1_extreme 107 = .ok (.iload 5, 2) := by decide +kernel
theorem dX1_extreme_109 : decode cX1_extreme 109 = .ok (.istore 5, 2) := by decide +kernel
theorem dX1_extreme_111 : decode cX1_extreme 111 = .ok (.iinc 6 1, 3) := by decide +kernel
theorem dX1_extreme_114 : decode cX1_extreme 114 = .ok (.goto (-65), 3) := by decide +kernel
theorem dX1_extreme_117 : decode cX1_extreme 117 = .ok (.iload 5, 2) := by decide +kernel
theorem dX1_extreme_119 : decode cX1_extreme 119 = .ok (.ireturn, 1) := by decide +kernel
set_option maxRecDepth 20000 in
theorem ggX1_near_X1_in : GoodIn wsX1_near wsX1_in := goodIn_r _ [6] (by decide +kernel) (by decide +kernel)
set_option maxRecDepth 20000 in
theorem gX1_near_X1_in : GoodIn wsX1_near (va_wsS RX1 40 yX1_in wsX1_in) := goodIn_app (goodIn_of _ (by decide +kernel)) ggX1_near_X1_in
theorem dX1_near_0 : decode cX1_near 0 = .ok (.iload_n 1, 1) := by decide +kernel
theorem dX1_near_1 : decode cX1_near 1 = .ok (.i2l, 1) := by decide +kernel
theorem dX1_near_2 : decode cX1_near 2 = .ok (.lconst 1, 1) := by decide +kernel
theorem dX1_near_3 : decode cX1_near 3 = .ok (.ldc2_w 86, 3) := by decide +kernel
theorem dX1_near_6 : decode cX1_near 6 = .ok (.invokestatic 40, 3) := by decide +kernel
theorem dX1_near_9 : decode cX1_near 9 = .ok (.ifCond .eq 38, 3) := by decide +kernel
theorem dX1_near_12 : decode cX1_near 12 = .ok (.iload_n 2, 1) := by decide +kernel
theorem dX1_near_13 : decode cX1_near 13 = .ok (.i2l, 1) := by decide +kernel
theorem dX1_near_14 : decode cX1_near 14 = .ok (.lconst 1, 1) := by decide +kernel
theorem dX1_near_15 : decode cX1_near 15 = .ok (.ldc2_w 86, 3) := by decide +kernel
theorem dX1_near_18 : decode cX1_near 18 = .ok (.invokestatic 40, 3) := by decide +kernel
theorem dX1_near_21 : decode cX1_near 21 = .ok (.ifCond .eq 26, 3) := by decide +kernel
theorem dX1_near_24 : decode cX1_near 24 = .ok (.iload_n 3, 1) := by decide +kernel
theorem dX1_near_25 : decode cX1_near 25 = .ok (.i2l, 1) := by decide +kernel
theorem dX1_near_26 : decode cX1_near 26 = .ok (.lconst 1, 1) := by decide +kernel
theorem dX1_near_27 : decode cX1_near 27 = .ok (.ldc2_w 131, 3) := by decide +kernel
theorem dX1_near_30 : decode cX1_near 30 = .ok (.invokestatic 40, 3) := by decide +kernel
theorem dX1_near_33 : decode cX1_near 33 = .ok (.ifCond .eq 14, 3) := by decide +kernel
theorem dX1_near_36 : decode cX1_near 36 = .ok (.iload 4, 2) := by decide +kernel
theorem dX1_near_38 : decode cX1_near 38 = .ok (.i2l, 1) := by decide +kernel
theorem dX1_near_39 : decode cX1_near 39 = .ok (.lconst 0, 1) := by decide +kernel
theorem dX1_near_40 : decode cX1_near 40 = .ok (.lconst 1, 1) := by decide +kernel
theorem dX1_near_41 : decode cX1_near 41 = .ok (.invokestatic 40, 3) := by decide +kernel
theorem dX1_near_44 : decode cX1_near 44 = .ok (.ifCond .ne 6, 3) := by decide +kernel
theorem dX1_near_47 : decode cX1_near 47 = .ok (.bipush (-2), 2) := by decide +kernel
theorem dX1_near_49 : decode cX1_near 49 = .ok (.ireturn, 1) := by decide +kernel
theorem dX1_near_50 : decode cX1_near 50 = .ok (.lconst 0, 1) := by decide +kernel
theorem dX1_near_51 : decode cX1_near 51 = .ok (.lstore 5, 2) := by decide +kernel
theorem dX1_near_53 : decode cX1_near 53 = .ok (.lconst 1, 1) := by decide +kernel
theorem dX1_near_54 : decode cX1_near 54 = .ok (.lstore 7, 2) := by decide +kernel
theorem dX1_near_56 : decode cX1_near 56 = .ok (.iload_n 1, 1) := by decide +kernel
theorem dX1_near_57 : decode cX1_near 57 = .ok (.i2l, 1) := by decide +kernel
theorem dX1_near_58 : decode cX1_near 58 = .ok (.lstore 9, 2) := by decide +kernel
theorem dX1_near_60 : decode cX1_near 60 = .ok (.lconst 1, 1) := by decide +kernel
theorem dX1_near_61 : decode cX1_near 61 = .ok (.lstore 11, 2) := by decide +kernel
theorem dX1_near_63 : decode cX1_near 63 = .ok (.lload 11, 2) := by decide +kernel
theorem dX1_near_65 : decode cX1_near 65 = .ok (.iload_n 3, 1) := by decide +kernel
theorem dX1_near_66 : decode cX1_near 66 = .ok (.i2l, 1) := by decide +kernel
theorem dX1_near_67 : decode cX1_near 67 = .ok (.lcmp, 1) := by decide +kernel
theorem dX1_near_68 : decode cX1_near 68 = .ok (.ifCond .gt 103, 3) := by decide +kernel
theorem dX1_near_71 : decode cX1_near 71 = .ok (.iload_n 1, 1) := by decide +kernel
theorem dX1_near_72 : decode cX1_near 72 = .ok (.i2l, 1) := by decide +kernel
theorem dX1_near_73 : decode cX1_near 73 = .ok (.lload 11, 2) := by decide +kernel
theorem dX1_near_75 : decode cX1_near 75 = .ok (.lmul, 1) := by decide +kernel
theorem dX1_near_76 : decode cX1_near 76 = .ok (.iload_n 2, 1) := by decide +kernel
theorem dX1_near_77 : decode cX1_near 77 = .ok (.i2l, 1) := by decide +kernel
theorem dX1_near_78 : decode cX1_near 78 = .ok (.ldiv, 1) := by decide +kernel
theorem dX1_near_79 : decode cX1_near 79 = .ok (.lstore 13, 2) := by decide +kernel
theorem dX1_near_81 : decode cX1_near 81 = .ok (.lload 13, 2) := by decide +kernel
theorem dX1_near_83 : decode cX1_near 83 = .ok (.iload_n 1, 1) := by decide +kernel
theorem dX1_near_84 : decode cX1_near 84 = .ok (.i2l, 1) := by decide +kernel
theorem dX1_near_85 : decode cX1_near 85 = .ok (.lload 11, 2) := by decide +kernel
theorem dX1_near_87 : decode cX1_near 87 = .ok (.lmul, 1) := by decide +kernel
theorem dX1_near_88 : decode cX1_near 88 = .ok (.iload_n 2, 1) := by decide +kernel
theorem dX1_near_89 : decode cX1_near 89 = .ok (.i2l, 1) := by decide +kernel
theorem dX1_near_90 : decode cX1_near 90 = .ok (.ldiv, 1) := by decide +kernel
theorem dX1_near_91 : decode cX1_near 91 = .ok (.lconst 1, 1) := by decide +kernel
theorem dX1_near_92 : decode cX1_near 92 = .ok (.ladd, 1) := by decide +kernel
theorem dX1_near_93 : decode cX1_near 93 = .ok (.lcmp, 1) := by decide +kernel
theorem dX1_near_94 : decode cX1_near 94 = .ok (.ifCond .gt 68, 3) := by decide +kernel
theorem dX1_near_97 : decode cX1_near 97 = .ok (.iload_n 1, 1) := by decide +kernel
theorem dX1_near_98 : decode cX1_near 98 = .ok (.i2l, 1) := by decide +kernel
theorem dX1_near_99 : decode cX1_near 99 = .ok (.lload 11, 2) := by decide +kernel
theorem dX1_near_101 : decode cX1_near 101 = .ok (.lmul, 1) := by decide +kernel
theorem dX1_near_102 : decode cX1_near 102 = .ok (.lload 13, 2) := by decide +kernel
theorem dX1_near_104 : decode cX1_near 104 = .ok (.iload_n 2, 1) := by decide +kernel
theorem dX1_near_105 : decode cX1_near 105 = .ok (.i2l, 1) := by decide +kernel
theorem dX1_near_106 : decode cX1_near 106 = .ok (.lmul, 1) := by decide +kernel
theorem dX1_near_107 : decode cX1_near 107 = .ok (.lsub, 1) := by decide +kernel
theorem dX1_near_108 : decode cX1_near 108 = .ok (.lstore 15, 2) := by decide +kernel
theorem dX1_near_110 : decode cX1_near 110 = .ok (.lload 15, 2) := by decide +kernel
theorem dX1_near_112 : decode cX1_near 112 = .ok (.lconst 0, 1) := by decide +kernel
theorem dX1_near_113 : decode cX1_near 113 = .ok (.lcmp, 1) := by decide +kernel
theorem dX1_near_114 : decode cX1_near 114 = .ok (.ifCond .ge 9, 3) := by decide +kernel
theorem dX1_near_117 : decode cX1_near 117 = .ok (.lload 15, 2) := by decide +kernel
theorem dX1_near_119 : decode cX1_near 119 = .ok (.lneg, 1) := by decide +kernel
theorem dX1_near_120 : decode cX1_near 120 = .ok (.goto 5, 3) := by decide +kernel
theorem dX1_near_123 : decode cX1_near 123 = .ok (.lload 15, 2) := by decide +kernel
theorem dX1_near_125 : decode cX1_near 125 = .ok (.lstore 15, 2) := by decide +kernel
theorem dX1_near_127 : decode cX1_near 127 = .ok (.lload 15, 2) := by decide +kernel
theorem dX1_near_129 : decode cX1_near 129 = .ok (.lload 7, 2) := by decide +kernel
theorem dX1_near_131 : decode cX1_near 131 = .ok (.lmul, 1) := by decide +kernel
theorem dX1_near_132 : decode cX1_near 132 = .ok (.lload 9, 2) := by decide +kernel
theorem dX1_near_134 : decode cX1_near 134 = .ok (.lload 11, 2) := by decide +kernel
theorem dX1_near_136 : decode cX1_near 136 = .ok (.lmul, 1) := by decide +kernel
theorem dX1_near_137 : decode cX1_near 137 = .ok (.lcmp, 1) := by decide +kernel
theorem dX1_near_138 : decode cX1_near 138 = .ok (.ifCond .ge 15, 3) := by decide +kernel
theorem dX1_near_141 : decode cX1_near 141 = .ok (.lload 15, 2) := by decide +kernel
theorem dX1_near_143 : decode cX1_near 143 = .ok (.lstore 9, 2) := by decide +kernel
theorem dX1_near_145 : decode cX1_near 145 = .ok (.lload 13, 2) := by decide +kernel
theorem dX1_near_147 : decode cX1_near 147 = .ok (.lstore 5, 2) := by decide +kernel
theorem dX1_near_149 : decode cX1_near 149 = .ok (.lload 11, 2) := by decide +kernel
theorem dX1_near_151 : decode cX1_near 151 = .ok (.lstore 7, 2) := by decide +kernel
theorem dX1_near_153 : decode cX1_near 153 = .ok (.lload 13, 2) := by decide +kernel
theorem dX1_near_155 : decode cX1_near 155 = .ok (.lconst 1, 1) := by decide +kernel
theorem dX1_near_156 : decode cX1_near 156 = .ok (.ladd, 1) := by decide +kernel
theorem dX1_near_157 : decode cX1_near 157 = .ok (.lstore 13, 2) := by decide +kernel
theorem dX1_near_159 : decode cX1_near 159 = .ok (.goto (-78), 3) := by decide +kernel
theorem dX1_near_162 : decode cX1_near 162 = .ok (.lload 11, 2) := by decide +kernel
theorem dX1_near_164 : decode cX1_near 164 = .ok (.lconst 1, 1) := by decide +kernel
theorem dX1_near_165 : decode cX1_near 165 = .ok (.ladd, 1) := by decide +kernel
theorem dX1_near_166 : decode cX1_near 166 = .ok (.lstore 11, 2) := by decide +kernel
theorem dX1_near_168 : decode cX1_near 168 = .ok (.goto (-105), 3) := by decide +kernel
theorem dX1_near_171 : decode cX1_near 171 = .ok (.iload 4, 2) := by decide +kernel
theorem dX1_near_173 : decode cX1_near 173 = .ok (.ifCond .ne 8, 3) := by decide +kernel
theorem dX1_near_176 : decode cX1_near 176 = .ok (.lload 5, 2) := by decide +kernel
theorem dX1_near_178 : decode cX1_near 178 = .ok (.goto 5, 3) := by decide +kernel
theorem dX1_near_181 : decode cX1_near 181 = .ok (.lload 7, 2) := by decide +kernel
theorem dX1_near_183 : decode cX1_near 183 = .ok (.l2i, 1) := by decide +kernel
theorem dX1_near_184 : decode cX1_near 184 = .ok (.ireturn, 1) := by decide +kernel
set_option maxRecDepth 20000 in
theorem ggX1_vernier_X1_in : GoodIn wsX1_vernier wsX1_in := goodIn_r _ [9] (by decide +kernel) (by decide +kernel)
set_option maxRecDepth 20000 in
theorem gX1_vernier_X1_in : GoodIn wsX1_vernier (va_wsS RX1 40 yX1_in wsX1_in) := goodIn_app (goodIn_of _ (by decide +kernel)) ggX1_vernier_X1_in
theorem dX1_vernier_0 : decode cX1_vernier 0 = .ok (.iload_n 1, 1) := by decide +kernel
theorem dX1_vernier_1 : decode cX1_vernier 1 = .ok (.i2l, 1) := by decide +kernel
theorem dX1_vernier_2 : decode cX1_vernier 2 = .ok (.ldc2_w 36, 3) := by decide +kernel
theorem dX1_vernier_5 : decode cX1_vernier 5 = .ok (.ldc2_w 136, 3) := by decide +kernel
theorem dX1_vernier_8 : decode cX1_vernier 8 = .ok (.invokestatic 40, 3) := by decide +kernel
theorem dX1_vernier_11 : decode cX1_vernier 11 = .ok (.ifCond .eq 17, 3) := by decide +kernel
theorem dX1_vernier_14 : decode cX1_vernier 14 = .ok (.iload_n 2, 1) := by decide +kernel
theorem dX1_vernier_15 : decode cX1_vernier 15 = .ok (.i2l, 1) := by decide +kernel
theorem dX1_vernier_16 : decode cX1_vernier 16 = .ok (.ldc2_w 36, 3) := by decide +kernel
theorem dX1_vernier_19 : decode cX1_vernier 19 = .ok (.ldc2_w 138, 3) := by decide +kernel
theorem dX1_vernier_22 : decode cX1_vernier 22 = .ok (.invokestatic 40, 3) := by decide +kernel
theorem dX1_vernier_25 : decode cX1_vernier 25 = .ok (.ifCond .ne 6, 3) := by decide +kernel
theorem dX1_vernier_28 : decode cX1_vernier 28 = .ok (.bipush (-2), 2) := by decide +kernel
theorem dX1_vernier_30 : decode cX1_vernier 30 = .ok (.ireturn, 1) := by decide +kernel
theorem dX1_vernier_31 : decode cX1_vernier 31 = .ok (.aload_n 0, 1) := by decide +kernel
theorem dX1_vernier_32 : decode cX1_vernier 32 = .ok (.iload_n 1, 1) := by decide +kernel
theorem dX1_vernier_33 : decode cX1_vernier 33 = .ok (.putfield 23, 3) := by decide +kernel
theorem dX1_vernier_36 : decode cX1_vernier 36 = .ok (.aload_n 0, 1) := by decide +kernel
theorem dX1_vernier_37 : decode cX1_vernier 37 = .ok (.iload_n 2, 1) := by decide +kernel
theorem dX1_vernier_38 : decode cX1_vernier 38 = .ok (.putfield 26, 3) := by decide +kernel
theorem dX1_vernier_41 : decode cX1_vernier 41 = .ok (.iconst 1, 1) := by decide +kernel
theorem dX1_vernier_42 : decode cX1_vernier 42 = .ok (.ireturn, 1) := by decide +kernel
theorem dX1_mainOf_0 : decode cX1_mainOf 0 = .ok (.lload_n 1, 1) := by decide +kernel
theorem dX1_mainOf_1 : decode cX1_mainOf 1 = .ok (.aload_n 0, 1) := by decide +kernel
theorem dX1_mainOf_2 : decode cX1_mainOf 2 = .ok (.getfield 23, 3) := by decide +kernel
theorem dX1_mainOf_5 : decode cX1_mainOf 5 = .ok (.i2l, 1) := by decide +kernel
theorem dX1_mainOf_6 : decode cX1_mainOf 6 = .ok (.lmul, 1) := by decide +kernel
theorem dX1_mainOf_7 : decode cX1_mainOf 7 = .ok (.lload_n 3, 1) := by decide +kernel
theorem dX1_mainOf_8 : decode cX1_mainOf 8 = .ok (.ldiv, 1) := by decide +kernel
theorem dX1_mainOf_9 : decode cX1_mainOf 9 = .ok (.lreturn, 1) := by decide +kernel
theorem dX1_lineOf_0 : decode cX1_lineOf 0 = .ok (.lload_n 1, 1) := by decide +kernel
theorem dX1_lineOf_1 : decode cX1_lineOf 1 = .ok (.aload_n 0, 1) := by decide +kernel
theorem dX1_lineOf_2 : decode cX1_lineOf 2 = .ok (.getfield 23, 3) := by decide +kernel
theorem dX1_lineOf_5 : decode cX1_lineOf 5 = .ok (.i2l, 1) := by decide +kernel
theorem dX1_lineOf_6 : decode cX1_lineOf 6 = .ok (.lmul, 1) := by decide +kernel
theorem dX1_lineOf_7 : decode cX1_lineOf 7 = .ok (.lload_n 3, 1) := by decide +kernel
theorem dX1_lineOf_8 : decode cX1_lineOf 8 = .ok (.lrem, 1) := by decide +kernel
theorem dX1_lineOf_9 : decode cX1_lineOf 9 = .ok (.lstore 5, 2) := by decide +kernel
theorem dX1_lineOf_11 : decode cX1_lineOf 11 = .ok (.ldc2_w 36, 3) := by decide +kernel
theorem dX1_lineOf_14 : decode cX1_lineOf 14 = .ok (.lload 5, 2) := by decide +kernel
theorem dX1_lineOf_16 : decode cX1_lineOf 16 = .ok (.lmul, 1) := by decide +kernel
theorem dX1_lineOf_17 : decode cX1_lineOf 17 = .ok (.aload_n 0, 1) := by decide +kernel
theorem dX1_lineOf_18 : decode cX1_lineOf 18 = .ok (.getfield 26, 3) := by decide +kernel
theorem dX1_lineOf_21 : decode cX1_lineOf 21 = .ok (.i2l, 1) := by decide +kernel
theorem dX1_lineOf_22 : decode cX1_lineOf 22 = .ok (.lmul, 1) := by decide +kernel
theorem dX1_lineOf_23 : decode cX1_lineOf 23 = .ok (.lload_n 3, 1) := by decide +kernel
theorem dX1_lineOf_24 : decode cX1_lineOf 24 = .ok (.ladd, 1) := by decide +kernel
theorem dX1_lineOf_25 : decode cX1_lineOf 25 = .ok (.lconst 1, 1) := by decide +kernel
theorem dX1_lineOf_26 : decode cX1_lineOf 26 = .ok (.lsub, 1) := by decide +kernel
theorem dX1_lineOf_27 : decode cX1_lineOf 27 = .ok (.ldc2_w 36, 3) := by decide +kernel
theorem dX1_lineOf_30 : decode cX1_lineOf 30 = .ok (.lload_n 3, 1) := by decide +kernel
theorem dX1_lineOf_31 : decode cX1_lineOf 31 = .ok (.lmul, 1) := by decide +kernel
theorem dX1_lineOf_32 : decode cX1_lineOf 32 = .ok (.ldiv, 1) := by decide +kernel
theorem dX1_lineOf_33 : decode cX1_lineOf 33 = .ok (.lreturn, 1) := by decide +kernel
set_option maxRecDepth 20000 in
theorem ggX1_readOf_X1_mainOf : GoodIn wsX1_readOf wsX1_mainOf := goodIn_r _ [6, 7, 13, 14, 15, 16, 17, 18, 19, 20, 21] (by decide +kernel) (by decide +kernel)
set_option maxRecDepth 20000 in
theorem gX1_readOf_X1_mainOf : GoodIn wsX1_readOf (wsV RX1 140 RX1 yX1_mainOf wsX1_mainOf) := goodIn_app (goodIn_of _ (by decide +kernel)) ggX1_readOf_X1_mainOf
set_option maxRecDepth 20000 in
theorem ggX1_readOf_X1_lineOf : GoodIn wsX1_readOf wsX1_lineOf := goodIn_r _ [11, 7, 12, 1, 13, 14, 15, 16, 17, 18, 19, 20, 21] (by decide +kernel) (by decide +kernel)
set_option maxRecDepth 20000 in
theorem gX1_readOf_X1_lineOf : GoodIn wsX1_readOf (wsV RX1 143 RX1 yX1_lineOf wsX1_lineOf) := goodIn_app (goodIn_of _ (by decide +kernel)) ggX1_readOf_X1_lineOf
theorem dX1_readOf_0 : decode cX1_readOf 0 = .ok (.aload_n 0, 1) := by decide +kernel
theorem dX1_readOf_1 : decode cX1_readOf 1 = .ok (.lload_n 1, 1) := by decide +kernel
theorem dX1_readOf_2 : decode cX1_readOf 2 = .ok (.lload_n 3, 1) := by decide +kernel
theorem dX1_readOf_3 : decode cX1_readOf 3 = .ok (.invokevirtual 140, 3) := by decide +kernel
theorem dX1_readOf_6 : decode cX1_readOf 6 = .ok (.aload_n 0, 1) := by decide +kernel
theorem dX1_readOf_7 : decode cX1_readOf 7 = .ok (.getfield 26, 3) := by decide +kernel
theorem dX1_readOf_10 : decode cX1_readOf 10 = .ok (.i2l, 1) := by decide +kernel
theorem dX1_readOf_11 : decode cX1_readOf 11 = .ok (.lmul, 1) := by decide +kernel
theorem dX1_readOf_12 : decode cX1_readOf 12 = .ok (.aload_n 0, 1) := by decide +kernel
theorem dX1_readOf_13 : decode cX1_readOf 13 = .ok (.lload_n 1, 1) := by decide +kernel
theorem dX1_readOf_14 : decode cX1_readOf 14 = .ok (.lload_n 3, 1) := by decide +kernel
theorem dX1_readOf_15 : decode cX1_readOf 15 = .ok (.invokevirtual 143, 3) := by decide +kernel
theorem dX1_readOf_18 : decode cX1_readOf 18 = .ok (.ladd, 1) := by decide +kernel
theorem dX1_readOf_19 : decode cX1_readOf 19 = .ok (.lreturn, 1) := by decide +kernel
set_option maxRecDepth 20000 in
theorem ggX1_isPlace_X1_in : GoodIn wsX1_isPlace wsX1_in := goodIn_r _ [5] (by decide +kernel) (by decide +kernel)
set_option maxRecDepth 20000 in
theorem gX1_isPlace_X1_in : GoodIn wsX1_isPlace (va_wsS RX1 40 yX1_in wsX1_in) := goodIn_app (goodIn_of _ (by decide +kernel)) ggX1_isPlace_X1_in
theorem dX1_isPlace_0 : decode cX1_isPlace 0 = .ok (.iload_n 1, 1) := by decide +kernel
theorem dX1_isPlace_1 : decode cX1_isPlace 1 = .ok (.i2l, 1) := by decide +kernel
theorem dX1_isPlace_2 : decode cX1_isPlace 2 = .ok (.lconst 1, 1) := by decide +kernel
theorem dX1_isPlace_3 : decode cX1_isPlace 3 = .ok (.ldc2_w 86, 3) := by decide +kernel
theorem dX1_isPlace_6 : decode cX1_isPlace 6 = .ok (.invokestatic 40, 3) := by decide +kernel
theorem dX1_isPlace_9 : decode cX1_isPlace 9 = .ok (.ifCond .eq 20, 3) := by decide +kernel
theorem dX1_isPlace_12 : decode cX1_isPlace 12 = .ok (.iload_n 0, 1) := by decide +kernel
theorem dX1_isPlace_13 : decode cX1_isPlace 13 = .ok (.i2l, 1) := by decide +kernel
theorem dX1_isPlace_14 : decode cX1_isPlace 14 = .ok (.lconst 0, 1) := by decide +kernel
theorem dX1_isPlace_15 : decode cX1_isPlace 15 = .ok (.iload_n 1, 1) := by decide +kernel
theorem dX1_isPlace_16 : decode cX1_isPlace 16 = .ok (.i2l, 1) := by decide +kernel
theorem dX1_isPlace_17 : decode cX1_isPlace 17 = .ok (.lconst 1, 1) := by decide +kernel
theorem dX1_isPlace_18 : decode cX1_isPlace 18 = .ok (.lsub, 1) := by decide +kernel
theorem dX1_isPlace_19 : decode cX1_isPlace 19 = .ok (.invokestatic 40, 3) := by decide +kernel
theorem dX1_isPlace_22 : decode cX1_isPlace 22 = .ok (.ifCond .eq 7, 3) := by decide +kernel
theorem dX1_isPlace_25 : decode cX1_isPlace 25 = .ok (.iconst 1, 1) := by decide +kernel
theorem dX1_isPlace_26 : decode cX1_isPlace 26 = .ok (.goto 4, 3) := by decide +kernel
theorem dX1_isPlace_29 : decode cX1_isPlace 29 = .ok (.iconst 0, 1) := by decide +kernel
theorem dX1_isPlace_30 : decode cX1_isPlace 30 = .ok (.ireturn, 1) := by decide +kernel
set_option maxRecDepth 20000 in
theorem ggX1_read_X1_isPlace : GoodIn wsX1_read wsX1_isPlace := goodIn_r _ [5, 6, 7, 8, 4, 9] (by decide +kernel) (by decide +kernel)
set_option maxRecDepth 20000 in
theorem gX1_read_X1_isPlace : GoodIn wsX1_read (va_wsS RX1 146 yX1_isPlace wsX1_isPlace) := goodIn_app (goodIn_of _ (by decide +kernel)) ggX1_read_X1_isPlace
set_option maxRecDepth 20000 in
theorem ggX1_read_X1_in : GoodIn wsX1_read wsX1_in := goodIn_r _ [9] (by decide +kernel) (by decide +kernel)
set_option maxRecDepth 20000 in
theorem gX1_read_X1_in : GoodIn wsX1_read (va_wsS RX1 40 yX1_in wsX1_in) := goodIn_app (goodIn_of _ (by decide +kernel)) ggX1_read_X1_in
set_option maxRecDepth 20000 in
theorem ggX1_read_X1_mainOf : GoodIn wsX1_read wsX1_mainOf := goodIn_r _ [13, 14, 24, 25, 26, 27, 28, 29, 30, 31, 32] (by decide +kernel) (by decide +kernel)
set_option maxRecDepth 20000 in
theorem gX1_read_X1_mainOf : GoodIn wsX1_read (wsV RX1 140 RX1 yX1_mainOf wsX1_mainOf) := goodIn_app (goodIn_of _ (by decide +kernel)) ggX1_read_X1_mainOf
set_option maxRecDepth 20000 in
theorem ggX1_read_X1_lineOf : GoodIn wsX1_read wsX1_lineOf := goodIn_r _ [18, 14, 1, 19, 24, 25, 26, 27, 28, 29, 30, 31, 32] (by decide +kernel) (by decide +kernel)
set_option maxRecDepth 20000 in
theorem gX1_read_X1_lineOf : GoodIn wsX1_read (wsV RX1 143 RX1 yX1_lineOf wsX1_lineOf) := goodIn_app (goodIn_of _ (by decide +kernel)) ggX1_read_X1_lineOf
set_option maxRecDepth 20000 in
theorem ggX1_read_X1_readOf : GoodIn wsX1_read wsX1_readOf := goodIn_r _ [23, 19, 10, 11, 12, 4, 13, 14, 15, 16, 17, 18, 1, 24, 25, 26, 27, 28, 29, 30, 31, 32] (by decide +kernel) (by decide +kernel)
set_option maxRecDepth 20000 in
theorem gX1_read_X1_readOf : GoodIn wsX1_read (wsV RX1 149 RX1 yX1_readOf wsX1_readOf) := goodIn_app (goodIn_of _ (by decide +kernel)) ggX1_read_X1_readOf
theorem dX1_read_0 : decode cX1_read 0 = .ok (.iload_n 1, 1) := by decide +kernel
theorem dX1_read_1 : decode cX1_read 1 = .ok (.iload_n 2, 1) := by decide +kernel
theorem dX1_read_2 : decode cX1_read 2 = .ok (.invokestatic 146, 3) := by decide +kernel
theorem dX1_read_5 : decode cX1_read 5 = .ok (.ifCond .eq 15, 3) := by decide +kernel
theorem dX1_read_8 : decode cX1_read 8 = .ok (.iload_n 3, 1) := by decide +kernel
theorem dX1_read_9 : decode cX1_read 9 = .ok (.i2l, 1) := by decide +kernel
theorem dX1_read_10 : decode cX1_read 10 = .ok (.lconst 0, 1) := by decide +kernel
theorem dX1_read_11 : decode cX1_read 11 = .ok (.ldc2_w 36, 3) := by decide +kernel
theorem dX1_read_14 : decode cX1_read 14 = .ok (.invokestatic 40, 3) := by decide +kernel
theorem dX1_read_17 : decode cX1_read 17 = .ok (.ifCond .ne 6, 3) := by decide +kernel
theorem dX1_read_20 : decode cX1_read 20 = .ok (.bipush (-2), 2) := by decide +kernel
theorem dX1_read_22 : decode cX1_read 22 = .ok (.ireturn, 1) := by decide +kernel
theorem dX1_read_23 : decode cX1_read 23 = .ok (.iload_n 3, 1) := by decide +kernel
theorem dX1_read_24 : decode cX1_read 24 = .ok (.ifCond .ne 14, 3) := by decide +kernel
theorem dX1_read_27 : decode cX1_read 27 = .ok (.aload_n 0, 1) := by decide +kernel
theorem dX1_read_28 : decode cX1_read 28 = .ok (.iload_n 1, 1) := by decide +kernel
theorem dX1_read_29 : decode cX1_read 29 = .ok (.i2l, 1) := by decide +kernel
theorem dX1_read_30 : decode cX1_read 30 = .ok (.iload_n 2, 1) := by decide +kernel
theorem dX1_read_31 : decode cX1_read 31 = .ok (.i2l, 1) := by decide +kernel
theorem dX1_read_32 : decode cX1_read 32 = .ok (.invokevirtual 140, 3) := by decide +kernel
theorem dX1_read_35 : decode cX1_read 35 = .ok (.goto 27, 3) := by decide +kernel
theorem dX1_read_38 : decode cX1_read 38 = .ok (.iload_n 3, 1) := by decide +kernel
theorem dX1_read_39 : decode cX1_read 39 = .ok (.iconst 1, 1) := by decide +kernel
theorem dX1_read_40 : decode cX1_read 40 = .ok (.if_icmp .ne 14, 3) := by decide +kernel
theorem dX1_read_43 : decode cX1_read 43 = .ok (.aload_n 0, 1) := by decide +kernel
theorem dX1_read_44 : decode cX1_read 44 = .ok (.iload_n 1, 1) := by decide +kernel
theorem dX1_read_45 : decode cX1_read 45 = .ok (.i2l, 1) := by decide +kernel
theorem dX1_read_46 : decode cX1_read 46 = .ok (.iload_n 2, 1) := by decide +kernel
theorem dX1_read_47 : decode cX1_read 47 = .ok (.i2l, 1) := by decide +kernel
theorem dX1_read_48 : decode cX1_read 48 = .ok (.invokevirtual 143, 3) := by decide +kernel
theorem dX1_read_51 : decode cX1_read 51 = .ok (.goto 11, 3) := by decide +kernel
theorem dX1_read_54 : decode cX1_read 54 = .ok (.aload_n 0, 1) := by decide +kernel
theorem dX1_read_55 : decode cX1_read 55 = .ok (.iload_n 1, 1) := by decide +kernel
theorem dX1_read_56 : decode cX1_read 56 = .ok (.i2l, 1) := by decide +kernel
theorem dX1_read_57 : decode cX1_read 57 = .ok (.iload_n 2, 1) := by decide +kernel
theorem dX1_read_58 : decode cX1_read 58 = .ok (.i2l, 1) := by decide +kernel
theorem dX1_read_59 : decode cX1_read 59 = .ok (.invokevirtual 149, 3) := by decide +kernel
theorem dX1_read_62 : decode cX1_read 62 = .ok (.l2i, 1) := by decide +kernel
theorem dX1_read_63 : decode cX1_read 63 = .ok (.ireturn, 1) := by decide +kernel
set_option maxRecDepth 20000 in
theorem ggX1_two_X1_isPlace : GoodIn wsX1_two wsX1_isPlace := goodIn_r _ [13, 6, 14, 15, 12, 16] (by decide +kernel) (by decide +kernel)
set_option maxRecDepth 20000 in
theorem gX1_two_X1_isPlace : GoodIn wsX1_two (va_wsS RX1 146 yX1_isPlace wsX1_isPlace) := goodIn_app (goodIn_of _ (by decide +kernel)) ggX1_two_X1_isPlace
set_option maxRecDepth 20000 in
theorem ggX1_two_X1_in : GoodIn wsX1_two wsX1_in := goodIn_r _ [16] (by decide +kernel) (by decide +kernel)
set_option maxRecDepth 20000 in
theorem gX1_two_X1_in : GoodIn wsX1_two (va_wsS RX1 40 yX1_in wsX1_in) := goodIn_app (goodIn_of _ (by decide +kernel)) ggX1_two_X1_in
set_option maxRecDepth 20000 in
theorem ggX1_two_X1_readOf : GoodIn wsX1_two wsX1_readOf := goodIn_r _ [20, 8, 21, 22, 23, 12, 24, 7, 25, 26, 27, 28, 5, 35, 36, 37, 38, 39, 40, 41, 42, 43] (by decide +kernel) (by decide +kernel)
set_option maxRecDepth 20000 in
theorem gX1_two_X1_readOf : GoodIn wsX1_two (wsV RX1 149 RX1 yX1_readOf wsX1_readOf) := goodIn_app (goodIn_of _ (by decide +kernel)) ggX1_two_X1_readOf
set_option maxRecDepth 20000 in
theorem ggX1_two_X1_term : GoodIn wsX1_two wsX1_term := goodIn_r _ [31, 32, 33, 12, 34] (by decide +kernel) (by decide +kernel)
set_option maxRecDepth 20000 in
theorem gX1_two_X1_term : GoodIn wsX1_two (va_wsS RX1 106 yX1_term wsX1_term) := goodIn_app (goodIn_of _ (by decide +kernel)) ggX1_two_X1_term
theorem dX1_two_0 : decode cX1_two 0 = .ok (.iload_n 1, 1) := by decide +kernel
theorem dX1_two_1 : decode cX1_two 1 = .ok (.iload_n 2, 1) := by decide +kernel
theorem dX1_two_2 : decode cX1_two 2 = .ok (.invokestatic 146, 3) := by decide +kernel
theorem dX1_two_5 : decode cX1_two 5 = .ok (.ifCond .eq 28, 3) := by decide +kernel
theorem dX1_two_8 : decode cX1_two 8 = .ok (.iload_n 3, 1) := by decide +kernel
theorem dX1_two_9 : decode cX1_two 9 = .ok (.i2l, 1) := by decide +kernel
theorem dX1_two_10 : decode cX1_two 10 = .ok (.ldc2_w 152, 3) := by decide +kernel
theorem dX1_two_13 : decode cX1_two 13 = .ok (.ldc2_w 38, 3) := by decide +kernel
theorem dX1_two_16 : decode cX1_two 16 = .ok (.invokestatic 40, 3) := by decide +kernel
theorem dX1_two_19 : decode cX1_two 19 = .ok (.ifCond .eq 14, 3) := by decide +kernel
theorem dX1_two_22 : decode cX1_two 22 = .ok (.iload 4, 2) := by decide +kernel
theorem dX1_two_24 : decode cX1_two 24 = .ok (.i2l, 1) := by decide +kernel
theorem dX1_two_25 : decode cX1_two 25 = .ok (.lconst 0, 1) := by decide +kernel
theorem dX1_two_26 : decode cX1_two 26 = .ok (.lconst 1, 1) := by decide +kernel
theorem dX1_two_27 : decode cX1_two 27 = .ok (.invokestatic 40, 3) := by decide +kernel
theorem dX1_two_30 : decode cX1_two 30 = .ok (.ifCond .ne 6, 3) := by decide +kernel
theorem dX1_two_33 : decode cX1_two 33 = .ok (.ldc 76, 2) := by decide +kernel
theorem dX1_two_35 : decode cX1_two 35 = .ok (.ireturn, 1) := by decide +kernel
theorem dX1_two_36 : decode cX1_two 36 = .ok (.ldc2_w 154, 3) := by decide +kernel
theorem dX1_two_39 : decode cX1_two 39 = .ok (.iload_n 2, 1) := by decide +kernel
theorem dX1_two_40 : decode cX1_two 40 = .ok (.i2l, 1) := by decide +kernel
theorem dX1_two_41 : decode cX1_two 41 = .ok (.lmul, 1) := by decide +kernel
theorem dX1_two_42 : decode cX1_two 42 = .ok (.lstore 5, 2) := by decide +kernel
theorem dX1_two_44 : decode cX1_two 44 = .ok (.ldc2_w 154, 3) := by decide +kernel
theorem dX1_two_47 : decode cX1_two 47 = .ok (.iload_n 1, 1) := by decide +kernel
theorem dX1_two_48 : decode cX1_two 48 = .ok (.i2l, 1) := by decide +kernel
theorem dX1_two_49 : decode cX1_two 49 = .ok (.lmul, 1) := by decide +kernel
theorem dX1_two_50 : decode cX1_two 50 = .ok (.ldc2_w 36, 3) := by decide +kernel
theorem dX1_two_53 : decode cX1_two 53 = .ok (.iload_n 3, 1) := by decide +kernel
theorem dX1_two_54 : decode cX1_two 54 = .ok (.i2l, 1) := by decide +kernel
theorem dX1_two_55 : decode cX1_two 55 = .ok (.lmul, 1) := by decide +kernel
theorem dX1_two_56 : decode cX1_two 56 = .ok (.iload_n 2, 1) := by decide +kernel
theorem dX1_two_57 : decode cX1_two 57 = .ok (.i2l, 1) := by decide +kernel
theorem dX1_two_58 : decode cX1_two 58 = .ok (.lmul, 1) := by decide +kernel
theorem dX1_two_59 : decode cX1_two 59 = .ok (.ladd, 1) := by decide +kernel
theorem dX1_two_60 : decode cX1_two 60 = .ok (.lload 5, 2) := by decide +kernel
theorem dX1_two_62 : decode cX1_two 62 = .ok (.ladd, 1) := by decide +kernel
theorem dX1_two_63 : decode cX1_two 63 = .ok (.lload 5, 2) := by decide +kernel
theorem dX1_two_65 : decode cX1_two 65 = .ok (.lrem, 1) := by decide +kernel
theorem dX1_two_66 : decode cX1_two 66 = .ok (.lstore 7, 2) := by decide +kernel
theorem dX1_two_68 : decode cX1_two 68 = .ok (.ldc2_w 154, 3) := by decide +kernel
theorem dX1_two_71 : decode cX1_two 71 = .ok (.iload_n 1, 1) := by decide +kernel
theorem dX1_two_72 : decode cX1_two 72 = .ok (.i2l, 1) := by decide +kernel
theorem dX1_two_73 : decode cX1_two 73 = .ok (.lmul, 1) := by decide +kernel
theorem dX1_two_74 : decode cX1_two 74 = .ok (.ldc2_w 86, 3) := by decide +kernel
theorem dX1_two_77 : decode cX1_two 77 = .ok (.iload_n 2, 1) := by decide +kernel
theorem dX1_two_78 : decode cX1_two 78 = .ok (.i2l, 1) := by decide +kernel
theorem dX1_two_79 : decode cX1_two 79 = .ok (.lmul, 1) := by decide +kernel
theorem dX1_two_80 : decode cX1_two 80 = .ok (.ladd, 1) := by decide +kernel
theorem dX1_two_81 : decode cX1_two 81 = .ok (.ldc2_w 36, 3) := by decide +kernel
theorem dX1_two_84 : decode cX1_two 84 = .ok (.iload_n 3, 1) := by decide +kernel
theorem dX1_two_85 : decode cX1_two 85 = .ok (.i2l, 1) := by decide +kernel
theorem dX1_two_86 : decode cX1_two 86 = .ok (.lmul, 1) := by decide +kernel
theorem dX1_two_87 : decode cX1_two 87 = .ok (.iload_n 2, 1) := by decide +kernel
theorem dX1_two_88 : decode cX1_two 88 = .ok (.i2l, 1) := by decide +kernel
theorem dX1_two_89 : decode cX1_two 89 = .ok (.lmul, 1) := by decide +kernel
theorem dX1_two_90 : decode cX1_two 90 = .ok (.lsub, 1) := by decide +kernel
theorem dX1_two_91 : decode cX1_two 91 = .ok (.lload 5, 2) := by decide +kernel
theorem dX1_two_93 : decode cX1_two 93 = .ok (.ladd, 1) := by decide +kernel
theorem dX1_two_94 : decode cX1_two 94 = .ok (.lload 5, 2) := by decide +kernel
theorem dX1_two_96 : decode cX1_two 96 = .ok (.lrem, 1) := by decide +kernel
theorem dX1_two_97 : decode cX1_two 97 = .ok (.lstore 9, 2) := by decide +kernel
theorem dX1_two_99 : decode cX1_two 99 = .ok (.aload_n 0, 1) := by decide +kernel
theorem dX1_two_100 : decode cX1_two 100 = .ok (.lload 7, 2) := by decide +kernel
theorem dX1_two_102 : decode cX1_two 102 = .ok (.lload 5, 2) := by decide +kernel
theorem dX1_two_104 : decode cX1_two 104 = .ok (.invokevirtual 149, 3) := by decide +kernel
theorem dX1_two_107 : decode cX1_two 107 = .ok (.lstore 11, 2) := by decide +kernel
theorem dX1_two_109 : decode cX1_two 109 = .ok (.aload_n 0, 1) := by decide +kernel
theorem dX1_two_110 : decode cX1_two 110 = .ok (.lload 9, 2) := by decide +kernel
theorem dX1_two_112 : decode cX1_two 112 = .ok (.lload 5, 2) := by decide +kernel
theorem dX1_two_114 : decode cX1_two 114 = .ok (.invokevirtual 149, 3) := by decide +kernel
theorem dX1_two_117 : decode cX1_two 117 = .ok (.lstore 13, 2) := by decide +kernel
theorem dX1_two_119 : decode cX1_two 119 = .ok (.aload_n 0, 1) := by decide +kernel
theorem dX1_two_120 : decode cX1_two 120 = .ok (.getfield 23, 3) := by decide +kernel
theorem dX1_two_123 : decode cX1_two 123 = .ok (.i2l, 1) := by decide +kernel
theorem dX1_two_124 : decode cX1_two 124 = .ok (.aload_n 0, 1) := by decide +kernel
theorem dX1_two_125 : decode cX1_two 125 = .ok (.getfield 26, 3) := by decide +kernel
theorem dX1_two_128 : decode cX1_two 128 = .ok (.i2l, 1) := by decide +kernel
theorem dX1_two_129 : decode cX1_two 129 = .ok (.lmul, 1) := by decide +kernel
theorem dX1_two_130 : decode cX1_two 130 = .ok (.lstore 15, 2) := by decide +kernel
theorem dX1_two_132 : decode cX1_two 132 = .ok (.ldc2_w 36, 3) := by decide +kernel
theorem dX1_two_135 : decode cX1_two 135 = .ok (.lload 11, 2) := by decide +kernel
theorem dX1_two_137 : decode cX1_two 137 = .ok (.lload 13, 2) := by decide +kernel
theorem dX1_two_139 : decode cX1_two 139 = .ok (.ladd, 1) := by decide +kernel
theorem dX1_two_140 : decode cX1_two 140 = .ok (.lmul, 1) := by decide +kernel
theorem dX1_two_141 : decode cX1_two 141 = .ok (.lload 11, 2) := by decide +kernel
theorem dX1_two_143 : decode cX1_two 143 = .ok (.lload 13, 2) := by decide +kernel
theorem dX1_two_145 : decode cX1_two 145 = .ok (.lcmp, 1) := by decide +kernel
theorem dX1_two_146 : decode cX1_two 146 = .ok (.ifCond .le 8, 3) := by decide +kernel
theorem dX1_two_149 : decode cX1_two 149 = .ok (.lload 15, 2) := by decide +kernel
theorem dX1_two_151 : decode cX1_two 151 = .ok (.goto 6, 3) := by decide +kernel
theorem dX1_two_154 : decode cX1_two 154 = .ok (.lload 15, 2) := by decide +kernel
theorem dX1_two_156 : decode cX1_two 156 = .ok (.lneg, 1) := by decide +kernel
theorem dX1_two_157 : decode cX1_two 157 = .ok (.ladd, 1) := by decide +kernel
theorem dX1_two_158 : decode cX1_two 158 = .ok (.ldc2_w 156, 3) := by decide +kernel
theorem dX1_two_161 : decode cX1_two 161 = .ok (.iload 4, 2) := by decide +kernel
theorem dX1_two_163 : decode cX1_two 163 = .ok (.invokestatic 106, 3) := by decide +kernel
theorem dX1_two_166 : decode cX1_two 166 = .ok (.ireturn, 1) := by decide +kernel
theorem dX1_told_0 : decode cX1_told 0 = .ok (.iload_n 1, 1) := by decide +kernel
theorem dX1_told_1 : decode cX1_told 1 = .ok (.tableswitch 60 0 4 #[35, 40, 45, 50, 55], 35) := by decide +kernel
theorem dX1_told_36 : decode cX1_told 36 = .ok (.aload_n 0, 1) := by decide +kernel
theorem dX1_told_37 : decode cX1_told 37 = .ok (.getfield 7, 3) := by decide +kernel
theorem dX1_told_40 : decode cX1_told 40 = .ok (.ireturn, 1) := by decide +kernel
theorem dX1_told_41 : decode cX1_told 41 = .ok (.aload_n 0, 1) := by decide +kernel
theorem dX1_told_42 : decode cX1_told 42 = .ok (.getfield 44, 3) := by decide +kernel
theorem dX1_told_45 : decode cX1_told 45 = .ok (.ireturn, 1) := by decide +kernel
theorem dX1_told_46 : decode cX1_told 46 = .ok (.aload_n 0, 1) := by decide +kernel
theorem dX1_told_47 : decode cX1_told 47 = .ok (.getfield 47, 3) := by decide +kernel
theorem dX1_told_50 : decode cX1_told 50 = .ok (.ireturn, 1) := by decide +kernel
theorem dX1_told_51 : decode cX1_told 51 = .ok (.aload_n 0, 1) := by decide +kernel
theorem dX1_told_52 : decode cX1_told 52 = .ok (.getfield 23, 3) := by decide +kernel
theorem dX1_told_55 : decode cX1_told 55 = .ok (.ireturn, 1) := by decide +kernel
theorem dX1_told_56 : decode cX1_told 56 = .ok (.aload_n 0, 1) := by decide +kernel
theorem dX1_told_57 : decode cX1_told 57 = .ok (.getfield 26, 3) := by decide +kernel
theorem dX1_told_60 : decode cX1_told 60 = .ok (.ireturn, 1) := by decide +kernel
theorem dX1_told_61 : decode cX1_told 61 = .ok (.bipush (-2), 2) := by decide +kernel
theorem dX1_told_63 : decode cX1_told 63 = .ok (.ireturn, 1) := by decide +kernel
theorem dJ9_floorMod_f86c9_0 : decode cJ9_floorMod_f86c9 0 = .ok (.lload_n 0, 1) := by decide +kernel
theorem dJ9_floorMod_f86c9_1 : decode cJ9_floorMod_f86c9 1 = .ok (.lload_n 2, 1) := by decide +kernel
theorem dJ9_floorMod_f86c9_2 : decode cJ9_floorMod_f86c9 2 = .ok (.lrem, 1) := by decide +kernel
theorem dJ9_floorMod_f86c9_3 : decode cJ9_floorMod_f86c9 3 = .ok (.lstore 4, 2) := by decide +kernel
theorem dJ9_floorMod_f86c9_5 : decode cJ9_floorMod_f86c9 5 = .ok (.lload_n 0, 1) := by decide +kernel
theorem dJ9_floorMod_f86c9_6 : decode cJ9_floorMod_f86c9 6 = .ok (.lload_n 2, 1) := by decide +kernel
theorem dJ9_floorMod_f86c9_7 : decode cJ9_floorMod_f86c9 7 = .ok (.lxor, 1) := by decide +kernel
theorem dJ9_floorMod_f86c9_8 : decode cJ9_floorMod_f86c9 8 = .ok (.lconst 0, 1) := by decide +kernel
theorem dJ9_floorMod_f86c9_9 : decode cJ9_floorMod_f86c9 9 = .ok (.lcmp, 1) := by decide +kernel
theorem dJ9_floorMod_f86c9_10 : decode cJ9_floorMod_f86c9 10 = .ok (.ifCond .ge 15, 3) := by decide +kernel
theorem dJ9_floorMod_f86c9_13 : decode cJ9_floorMod_f86c9 13 = .ok (.lload 4, 2) := by decide +kernel
theorem dJ9_floorMod_f86c9_15 : decode cJ9_floorMod_f86c9 15 = .ok (.lconst 0, 1) := by decide +kernel
theorem dJ9_floorMod_f86c9_16 : decode cJ9_floorMod_f86c9 16 = .ok (.lcmp, 1) := by decide +kernel
theorem dJ9_floorMod_f86c9_17 : decode cJ9_floorMod_f86c9 17 = .ok (.ifCond .eq 8, 3) := by decide +kernel
theorem dJ9_floorMod_f86c9_20 : decode cJ9_floorMod_f86c9 20 = .ok (.lload 4, 2) := by decide +kernel
theorem dJ9_floorMod_f86c9_22 : decode cJ9_floorMod_f86c9 22 = .ok (.lload_n 2, 1) := by decide +kernel
theorem dJ9_floorMod_f86c9_23 : decode cJ9_floorMod_f86c9 23 = .ok (.ladd, 1) := by decide +kernel
theorem dJ9_floorMod_f86c9_24 : decode cJ9_floorMod_f86c9 24 = .ok (.lreturn, 1) := by decide +kernel
theorem dJ9_floorMod_f86c9_25 : decode cJ9_floorMod_f86c9 25 = .ok (.lload 4, 2) := by decide +kernel
theorem dJ9_floorMod_f86c9_27 : decode cJ9_floorMod_f86c9 27 = .ok (.lreturn, 1) := by decide +kernel
theorem dJ9_abs_0f7a4_0 : decode cJ9_abs_0f7a4 0 = .ok (.iload_n 0, 1) := by decide +kernel
theorem dJ9_abs_0f7a4_1 : decode cJ9_abs_0f7a4 1 = .ok (.ifCond .ge 8, 3) := by decide +kernel
theorem dJ9_abs_0f7a4_4 : decode cJ9_abs_0f7a4 4 = .ok (.iload_n 0, 1) := by decide +kernel
theorem dJ9_abs_0f7a4_5 : decode cJ9_abs_0f7a4 5 = .ok (.ineg, 1) := by decide +kernel
theorem dJ9_abs_0f7a4_6 : decode cJ9_abs_0f7a4 6 = .ok (.goto 4, 3) := by decide +kernel
theorem dJ9_abs_0f7a4_9 : decode cJ9_abs_0f7a4 9 = .ok (.iload_n 0, 1) := by decide +kernel
theorem dJ9_abs_0f7a4_10 : decode cJ9_abs_0f7a4 10 = .ok (.ireturn, 1) := by decide +kernel
theorem dJ9_abs_067f4_0 : decode cJ9_abs_067f4 0 = .ok (.lload_n 0, 1) := by decide +kernel
theorem dJ9_abs_067f4_1 : decode cJ9_abs_067f4 1 = .ok (.lconst 0, 1) := by decide +kernel
theorem dJ9_abs_067f4_2 : decode cJ9_abs_067f4 2 = .ok (.lcmp, 1) := by decide +kernel
theorem dJ9_abs_067f4_3 : decode cJ9_abs_067f4 3 = .ok (.ifCond .ge 8, 3) := by decide +kernel
theorem dJ9_abs_067f4_6 : decode cJ9_abs_067f4 6 = .ok (.lload_n 0, 1) := by decide +kernel
theorem dJ9_abs_067f4_7 : decode cJ9_abs_067f4 7 = .ok (.lneg, 1) := by decide +kernel
theorem dJ9_abs_067f4_8 : decode cJ9_abs_067f4 8 = .ok (.goto 4, 3) := by decide +kernel
theorem dJ9_abs_067f4_11 : decode cJ9_abs_067f4 11 = .ok (.lload_n 0, 1) := by decide +kernel
theorem dJ9_abs_067f4_12 : decode cJ9_abs_067f4 12 = .ok (.lreturn, 1) := by decide +kernel
theorem dJ9_max_7cf53_0 : decode cJ9_max_7cf53 0 = .ok (.iload_n 0, 1) := by decide +kernel
theorem dJ9_max_7cf53_1 : decode cJ9_max_7cf53 1 = .ok (.iload_n 1, 1) := by decide +kernel
theorem dJ9_max_7cf53_2 : decode cJ9_max_7cf53 2 = .ok (.if_icmp .lt 7, 3) := by decide +kernel
theorem dJ9_max_7cf53_5 : decode cJ9_max_7cf53 5 = .ok (.iload_n 0, 1) := by decide +kernel
theorem dJ9_max_7cf53_6 : decode cJ9_max_7cf53 6 = .ok (.goto 4, 3) := by decide +kernel
theorem dJ9_max_7cf53_9 : decode cJ9_max_7cf53 9 = .ok (.iload_n 1, 1) := by decide +kernel
theorem dJ9_max_7cf53_10 : decode cJ9_max_7cf53 10 = .ok (.ireturn, 1) := by decide +kernel
