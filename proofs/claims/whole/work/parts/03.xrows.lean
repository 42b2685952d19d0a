theorem dX0_init_0 : decode cX0_init 0 = .ok (.aload_n 0, 1) := by decide +kernel
theorem dX0_init_1 : decode cX0_init 1 = .ok (.invokespecial 1, 3) := by decide +kernel
theorem dX0_init_4 : decode cX0_init 4 = .ok (.aload_n 0, 1) := by decide +kernel
theorem dX0_init_5 : decode cX0_init 5 = .ok (.bipush 8, 2) := by decide +kernel
theorem dX0_init_7 : decode cX0_init 7 = .ok (.newarray .int, 2) := by decide +kernel
theorem dX0_init_9 : decode cX0_init 9 = .ok (.putfield 9, 3) := by decide +kernel
theorem dX0_init_12 : decode cX0_init 12 = .ok (.aload_n 0, 1) := by decide +kernel
theorem dX0_init_13 : decode cX0_init 13 = .ok (.bipush 10, 2) := by decide +kernel
theorem dX0_init_15 : decode cX0_init 15 = .ok (.newarray .int, 2) := by decide +kernel
theorem dX0_init_17 : decode cX0_init 17 = .ok (.putfield 13, 3) := by decide +kernel
theorem dX0_init_20 : decode cX0_init 20 = .ok (.aload_n 0, 1) := by decide +kernel
theorem dX0_init_21 : decode cX0_init 21 = .ok (.bipush 8, 2) := by decide +kernel
theorem dX0_init_23 : decode cX0_init 23 = .ok (.newarray .int, 2) := by decide +kernel
theorem dX0_init_25 : decode cX0_init 25 = .ok (.putfield 16, 3) := by decide +kernel
theorem dX0_init_28 : decode cX0_init 28 = .ok (.aload_n 0, 1) := by decide +kernel
theorem dX0_init_29 : decode cX0_init 29 = .ok (.iconst 4, 1) := by decide +kernel
theorem dX0_init_30 : decode cX0_init 30 = .ok (.newarray .int, 2) := by decide +kernel
theorem dX0_init_32 : decode cX0_init 32 = .ok (.putfield 19, 3) := by decide +kernel
theorem dX0_init_35 : decode cX0_init 35 = .ok (.aload_n 0, 1) := by decide +kernel
theorem dX0_init_36 : decode cX0_init 36 = .ok (.bipush 40, 2) := by decide +kernel
theorem dX0_init_38 : decode cX0_init 38 = .ok (.putfield 22, 3) := by decide +kernel
theorem dX0_init_41 : decode cX0_init 41 = .ok (.aload_n 0, 1) := by decide +kernel
theorem dX0_init_42 : decode cX0_init 42 = .ok (.sipush 360, 3) := by decide +kernel
theorem dX0_init_45 : decode cX0_init 45 = .ok (.putfield 26, 3) := by decide +kernel
theorem dX0_init_48 : decode cX0_init 48 = .ok (.aload_n 0, 1) := by decide +kernel
theorem dX0_init_49 : decode cX0_init 49 = .ok (.bipush 10, 2) := by decide +kernel
theorem dX0_init_51 : decode cX0_init 51 = .ok (.putfield 29, 3) := by decide +kernel
theorem dX0_init_54 : decode cX0_init 54 = .ok (.return_, 1) := by decide +kernel
set_option maxRecDepth 20000 in
theorem ggX0_wheel_X0_isOutside : GoodIn wsX0_wheel wsX0_isOutside := goodIn_r _ [5] (by decide +kernel) (by decide +kernel)
set_option maxRecDepth 20000 in
theorem gX0_wheel_X0_isOutside : GoodIn wsX0_wheel (va_wsS RX0 32 yX0_isOutside wsX0_isOutside) := goodIn_app (goodIn_of _ (by decide +kernel)) ggX0_wheel_X0_isOutside
theorem dX0_wheel_0 : decode cX0_wheel 0 = .ok (.iload_n 1, 1) := by decide +kernel
theorem dX0_wheel_1 : decode cX0_wheel 1 = .ok (.bipush 10, 2) := by decide +kernel
theorem dX0_wheel_3 : decode cX0_wheel 3 = .ok (.sipush 200, 3) := by decide +kernel
theorem dX0_wheel_6 : decode cX0_wheel 6 = .ok (.invokestatic 32, 3) := by decide +kernel
theorem dX0_wheel_9 : decode cX0_wheel 9 = .ok (.ifCond .eq 6, 3) := by decide +kernel
theorem dX0_wheel_12 : decode cX0_wheel 12 = .ok (.bipush (-2), 2) := by decide +kernel
theorem dX0_wheel_14 : decode cX0_wheel 14 = .ok (.ireturn, 1) := by decide +kernel
theorem dX0_wheel_15 : decode cX0_wheel 15 = .ok (.aload_n 0, 1) := by decide +kernel
theorem dX0_wheel_16 : decode cX0_wheel 16 = .ok (.getfield 22, 3) := by decide +kernel
theorem dX0_wheel_19 : decode cX0_wheel 19 = .ok (.istore_n 2, 1) := by decide +kernel
theorem dX0_wheel_20 : decode cX0_wheel 20 = .ok (.aload_n 0, 1) := by decide +kernel
theorem dX0_wheel_21 : decode cX0_wheel 21 = .ok (.iload_n 1, 1) := by decide +kernel
theorem dX0_wheel_22 : decode cX0_wheel 22 = .ok (.putfield 22, 3) := by decide +kernel
theorem dX0_wheel_25 : decode cX0_wheel 25 = .ok (.iload_n 2, 1) := by decide +kernel
theorem dX0_wheel_26 : decode cX0_wheel 26 = .ok (.ireturn, 1) := by decide +kernel
set_option maxRecDepth 20000 in
theorem ggX0_circle_X0_isOutside : GoodIn wsX0_circle wsX0_isOutside := goodIn_r _ [6] (by decide +kernel) (by decide +kernel)
set_option maxRecDepth 20000 in
theorem gX0_circle_X0_isOutside : GoodIn wsX0_circle (va_wsS RX0 32 yX0_isOutside wsX0_isOutside) := goodIn_app (goodIn_of _ (by decide +kernel)) ggX0_circle_X0_isOutside
set_option maxRecDepth 20000 in
theorem ggX0_circle_X0_hasCircleOf : GoodIn wsX0_circle wsX0_hasCircleOf := goodIn_r _ [10, 1, 2, 11, 12, 13, 14, 15, 16, 17, 18, 19] (by decide +kernel) (by decide +kernel)
set_option maxRecDepth 20000 in
theorem gX0_circle_X0_hasCircleOf : GoodIn wsX0_circle (wsV RX0 39 RX0 yX0_hasCircleOf wsX0_hasCircleOf) := goodIn_app (goodIn_of _ (by decide +kernel)) ggX0_circle_X0_hasCircleOf
theorem dX0_circle_0 : decode cX0_circle 0 = .ok (.iload_n 1, 1) := by decide +kernel
theorem dX0_circle_1 : decode cX0_circle 1 = .ok (.iconst 5, 1) := by decide +kernel
theorem dX0_circle_2 : decode cX0_circle 2 = .ok (.bipush 120, 2) := by decide +kernel
theorem dX0_circle_4 : decode cX0_circle 4 = .ok (.invokestatic 32, 3) := by decide +kernel
theorem dX0_circle_7 : decode cX0_circle 7 = .ok (.ifCond .eq 6, 3) := by decide +kernel
theorem dX0_circle_10 : decode cX0_circle 10 = .ok (.bipush (-2), 2) := by decide +kernel
theorem dX0_circle_12 : decode cX0_circle 12 = .ok (.ireturn, 1) := by decide +kernel
theorem dX0_circle_13 : decode cX0_circle 13 = .ok (.aload_n 0, 1) := by decide +kernel
theorem dX0_circle_14 : decode cX0_circle 14 = .ok (.getfield 36, 3) := by decide +kernel
theorem dX0_circle_17 : decode cX0_circle 17 = .ok (.bipush 8, 2) := by decide +kernel
theorem dX0_circle_19 : decode cX0_circle 19 = .ok (.if_icmp .lt 6, 3) := by decide +kernel
theorem dX0_circle_22 : decode cX0_circle 22 = .ok (.bipush (-4), 2) := by decide +kernel
theorem dX0_circle_24 : decode cX0_circle 24 = .ok (.ireturn, 1) := by decide +kernel
theorem dX0_circle_25 : decode cX0_circle 25 = .ok (.aload_n 0, 1) := by decide +kernel
theorem dX0_circle_26 : decode cX0_circle 26 = .ok (.iload_n 1, 1) := by decide +kernel
theorem dX0_circle_27 : decode cX0_circle 27 = .ok (.invokevirtual 39, 3) := by decide +kernel
theorem dX0_circle_30 : decode cX0_circle 30 = .ok (.ifCond .eq 6, 3) := by decide +kernel
theorem dX0_circle_33 : decode cX0_circle 33 = .ok (.bipush (-5), 2) := by decide +kernel
theorem dX0_circle_35 : decode cX0_circle 35 = .ok (.ireturn, 1) := by decide +kernel
theorem dX0_circle_36 : decode cX0_circle 36 = .ok (.aload_n 0, 1) := by decide +kernel
theorem dX0_circle_37 : decode cX0_circle 37 = .ok (.getfield 9, 3) := by decide +kernel
theorem dX0_circle_40 : decode cX0_circle 40 = .ok (.aload_n 0, 1) := by decide +kernel
theorem dX0_circle_41 : decode cX0_circle 41 = .ok (.getfield 36, 3) := by decide +kernel
theorem dX0_circle_44 : decode cX0_circle 44 = .ok (.iload_n 1, 1) := by decide +kernel
theorem dX0_circle_45 : decode cX0_circle 45 = .ok (.iastore, 1) := by decide +kernel
theorem dX0_circle_46 : decode cX0_circle 46 = .ok (.aload_n 0, 1) := by decide +kernel
theorem dX0_circle_47 : decode cX0_circle 47 = .ok (.dup, 1) := by decide +kernel
theorem dX0_circle_48 : decode cX0_circle 48 = .ok (.getfield 36, 3) := by decide +kernel
theorem dX0_circle_51 : decode cX0_circle 51 = .ok (.iconst 1, 1) := by decide +kernel
theorem dX0_circle_52 : decode cX0_circle 52 = .ok (.iadd, 1) := by decide +kernel
theorem dX0_circle_53 : decode cX0_circle 53 = .ok (.putfield 36, 3) := by decide +kernel
theorem dX0_circle_56 : decode cX0_circle 56 = .ok (.aload_n 0, 1) := by decide +kernel
theorem dX0_circle_57 : decode cX0_circle 57 = .ok (.getfield 36, 3) := by decide +kernel
theorem dX0_circle_60 : decode cX0_circle 60 = .ok (.iconst 1, 1) := by decide +kernel
theorem dX0_circle_61 : decode cX0_circle 61 = .ok (.isub, 1) := by decide +kernel
theorem dX0_circle_62 : decode cX0_circle 62 = .ok (.ireturn, 1) := by decide +kernel
set_option maxRecDepth 20000 in
theorem ggX0_holes_X0_holesAt : GoodIn wsX0_holes wsX0_holesAt := goodIn_r _ [5, 6, 7, 8, 9, 10, 11, 12, 13, 14, 15, 16] (by decide +kernel) (by decide +kernel)
set_option maxRecDepth 20000 in
theorem gX0_holes_X0_holesAt : GoodIn wsX0_holes (wsV RX0 43 RX0 yX0_holesAt wsX0_holesAt) := goodIn_app (goodIn_of _ (by decide +kernel)) ggX0_holes_X0_holesAt
theorem dX0_holes_0 : decode cX0_holes 0 = .ok (.aload_n 0, 1) := by decide +kernel
theorem dX0_holes_1 : decode cX0_holes 1 = .ok (.iload_n 1, 1) := by decide +kernel
theorem dX0_holes_2 : decode cX0_holes 2 = .ok (.invokevirtual 43, 3) := by decide +kernel
theorem dX0_holes_5 : decode cX0_holes 5 = .ok (.istore_n 2, 1) := by decide +kernel
theorem dX0_holes_6 : decode cX0_holes 6 = .ok (.iload_n 2, 1) := by decide +kernel
theorem dX0_holes_7 : decode cX0_holes 7 = .ok (.ifCond .ne 7, 3) := by decide +kernel
theorem dX0_holes_10 : decode cX0_holes 10 = .ok (.iconst (-1), 1) := by decide +kernel
theorem dX0_holes_11 : decode cX0_holes 11 = .ok (.goto 4, 3) := by decide +kernel
theorem dX0_holes_14 : decode cX0_holes 14 = .ok (.iload_n 2, 1) := by decide +kernel
theorem dX0_holes_15 : decode cX0_holes 15 = .ok (.ireturn, 1) := by decide +kernel
set_option maxRecDepth 20000 in
theorem ggX0_gear_X0_isOutside : GoodIn wsX0_gear wsX0_isOutside := goodIn_r _ [6] (by decide +kernel) (by decide +kernel)
set_option maxRecDepth 20000 in
theorem gX0_gear_X0_isOutside : GoodIn wsX0_gear (va_wsS RX0 32 yX0_isOutside wsX0_isOutside) := goodIn_app (goodIn_of _ (by decide +kernel)) ggX0_gear_X0_isOutside
theorem dX0_gear_0 : decode cX0_gear 0 = .ok (.iload_n 1, 1) := by decide +kernel
theorem dX0_gear_1 : decode cX0_gear 1 = .ok (.bipush 12, 2) := by decide +kernel
theorem dX0_gear_3 : decode cX0_gear 3 = .ok (.bipush 120, 2) := by decide +kernel
theorem dX0_gear_5 : decode cX0_gear 5 = .ok (.invokestatic 32, 3) := by decide +kernel
theorem dX0_gear_8 : decode cX0_gear 8 = .ok (.ifCond .eq 6, 3) := by decide +kernel
theorem dX0_gear_11 : decode cX0_gear 11 = .ok (.bipush (-2), 2) := by decide +kernel
theorem dX0_gear_13 : decode cX0_gear 13 = .ok (.ireturn, 1) := by decide +kernel
theorem dX0_gear_14 : decode cX0_gear 14 = .ok (.aload_n 0, 1) := by decide +kernel
theorem dX0_gear_15 : decode cX0_gear 15 = .ok (.getfield 47, 3) := by decide +kernel
theorem dX0_gear_18 : decode cX0_gear 18 = .ok (.bipush 10, 2) := by decide +kernel
theorem dX0_gear_20 : decode cX0_gear 20 = .ok (.if_icmp .lt 6, 3) := by decide +kernel
theorem dX0_gear_23 : decode cX0_gear 23 = .ok (.bipush (-4), 2) := by decide +kernel
theorem dX0_gear_25 : decode cX0_gear 25 = .ok (.ireturn, 1) := by decide +kernel
theorem dX0_gear_26 : decode cX0_gear 26 = .ok (.aload_n 0, 1) := by decide +kernel
theorem dX0_gear_27 : decode cX0_gear 27 = .ok (.getfield 13, 3) := by decide +kernel
theorem dX0_gear_30 : decode cX0_gear 30 = .ok (.aload_n 0, 1) := by decide +kernel
theorem dX0_gear_31 : decode cX0_gear 31 = .ok (.getfield 47, 3) := by decide +kernel
theorem dX0_gear_34 : decode cX0_gear 34 = .ok (.iload_n 1, 1) := by decide +kernel
theorem dX0_gear_35 : decode cX0_gear 35 = .ok (.iastore, 1) := by decide +kernel
theorem dX0_gear_36 : decode cX0_gear 36 = .ok (.aload_n 0, 1) := by decide +kernel
theorem dX0_gear_37 : decode cX0_gear 37 = .ok (.dup, 1) := by decide +kernel
theorem dX0_gear_38 : decode cX0_gear 38 = .ok (.getfield 47, 3) := by decide +kernel
theorem dX0_gear_41 : decode cX0_gear 41 = .ok (.iconst 1, 1) := by decide +kernel
theorem dX0_gear_42 : decode cX0_gear 42 = .ok (.iadd, 1) := by decide +kernel
theorem dX0_gear_43 : decode cX0_gear 43 = .ok (.putfield 47, 3) := by decide +kernel
theorem dX0_gear_46 : decode cX0_gear 46 = .ok (.aload_n 0, 1) := by decide +kernel
theorem dX0_gear_47 : decode cX0_gear 47 = .ok (.getfield 47, 3) := by decide +kernel
theorem dX0_gear_50 : decode cX0_gear 50 = .ok (.iconst 1, 1) := by decide +kernel
theorem dX0_gear_51 : decode cX0_gear 51 = .ok (.isub, 1) := by decide +kernel
theorem dX0_gear_52 : decode cX0_gear 52 = .ok (.ireturn, 1) := by decide +kernel
theorem dX0_teeth_0 : decode cX0_teeth 0 = .ok (.iload_n 1, 1) := by decide +kernel
theorem dX0_teeth_1 : decode cX0_teeth 1 = .ok (.ifCond .lt 11, 3) := by decide +kernel
theorem dX0_teeth_4 : decode cX0_teeth 4 = .ok (.iload_n 1, 1) := by decide +kernel
theorem dX0_teeth_5 : decode cX0_teeth 5 = .ok (.aload_n 0, 1) := by decide +kernel
theorem dX0_teeth_6 : decode cX0_teeth 6 = .ok (.getfield 47, 3) := by decide +kernel
theorem dX0_teeth_9 : decode cX0_teeth 9 = .ok (.if_icmp .lt 7, 3) := by decide +kernel
theorem dX0_teeth_12 : decode cX0_teeth 12 = .ok (.iconst (-1), 1) := by decide +kernel
theorem dX0_teeth_13 : decode cX0_teeth 13 = .ok (.goto 9, 3) := by decide +kernel
theorem dX0_teeth_16 : decode cX0_teeth 16 = .ok (.aload_n 0, 1) := by decide +kernel
theorem dX0_teeth_17 : decode cX0_teeth 17 = .ok (.getfield 13, 3) := by decide +kernel
theorem dX0_teeth_20 : decode cX0_teeth 20 = .ok (.iload_n 1, 1) := by decide +kernel
theorem dX0_teeth_21 : decode cX0_teeth 21 = .ok (.iaload, 1) := by decide +kernel
theorem dX0_teeth_22 : decode cX0_teeth 22 = .ok (.ireturn, 1) := by decide +kernel
set_option maxRecDepth 20000 in
theorem ggX0_plain_X0_isNoNumberOfParts : GoodIn wsX0_plain wsX0_isNoNumberOfParts := goodIn_r _ [5, 6, 7, 4, 8] (by decide +kernel) (by decide +kernel)
set_option maxRecDepth 20000 in
theorem gX0_plain_X0_isNoNumberOfParts : GoodIn wsX0_plain (va_wsS RX0 50 yX0_isNoNumberOfParts wsX0_isNoNumberOfParts) := goodIn_app (goodIn_of _ (by decide +kernel)) ggX0_plain_X0_isNoNumberOfParts
set_option maxRecDepth 20000 in
theorem ggX0_plain_X0_isOutside : GoodIn wsX0_plain wsX0_isOutside := goodIn_r _ [8] (by decide +kernel) (by decide +kernel)
set_option maxRecDepth 20000 in
theorem gX0_plain_X0_isOutside : GoodIn wsX0_plain (va_wsS RX0 32 yX0_isOutside wsX0_isOutside) := goodIn_app (goodIn_of _ (by decide +kernel)) ggX0_plain_X0_isOutside
set_option maxRecDepth 20000 in
theorem ggX0_plain_X0_plainCircle : GoodIn wsX0_plain wsX0_plainCircle := goodIn_r _ [12, 13, 1, 14, 15, 16, 4, 17, 22, 23, 24, 25, 26, 27, 28, 29, 30] (by decide +kernel) (by decide +kernel)
set_option maxRecDepth 20000 in
theorem gX0_plain_X0_plainCircle : GoodIn wsX0_plain (wsV RX0 53 RX0 yX0_plainCircle wsX0_plainCircle) := goodIn_app (goodIn_of _ (by decide +kernel)) ggX0_plain_X0_plainCircle
set_option maxRecDepth 20000 in
theorem ggX0_plain_X0_holesAt : GoodIn wsX0_plain wsX0_holesAt := goodIn_r _ [21, 13, 14, 22, 23, 24, 25, 26, 27, 28, 29, 30] (by decide +kernel) (by decide +kernel)
set_option maxRecDepth 20000 in
theorem gX0_plain_X0_holesAt : GoodIn wsX0_plain (wsV RX0 43 RX0 yX0_holesAt wsX0_holesAt) := goodIn_app (goodIn_of _ (by decide +kernel)) ggX0_plain_X0_holesAt
theorem dX0_plain_0 : decode cX0_plain 0 = .ok (.iload_n 1, 1) := by decide +kernel
theorem dX0_plain_1 : decode cX0_plain 1 = .ok (.invokestatic 50, 3) := by decide +kernel
theorem dX0_plain_4 : decode cX0_plain 4 = .ok (.ifCond .ne 12, 3) := by decide +kernel
theorem dX0_plain_7 : decode cX0_plain 7 = .ok (.iload_n 2, 1) := by decide +kernel
theorem dX0_plain_8 : decode cX0_plain 8 = .ok (.iconst 0, 1) := by decide +kernel
theorem dX0_plain_9 : decode cX0_plain 9 = .ok (.iconst 2, 1) := by decide +kernel
theorem dX0_plain_10 : decode cX0_plain 10 = .ok (.invokestatic 32, 3) := by decide +kernel
theorem dX0_plain_13 : decode cX0_plain 13 = .ok (.ifCond .eq 6, 3) := by decide +kernel
theorem dX0_plain_16 : decode cX0_plain 16 = .ok (.bipush (-2), 2) := by decide +kernel
theorem dX0_plain_18 : decode cX0_plain 18 = .ok (.ireturn, 1) := by decide +kernel
theorem dX0_plain_19 : decode cX0_plain 19 = .ok (.aload_n 0, 1) := by decide +kernel
theorem dX0_plain_20 : decode cX0_plain 20 = .ok (.iload_n 1, 1) := by decide +kernel
theorem dX0_plain_21 : decode cX0_plain 21 = .ok (.invokevirtual 53, 3) := by decide +kernel
theorem dX0_plain_24 : decode cX0_plain 24 = .ok (.istore_n 3, 1) := by decide +kernel
theorem dX0_plain_25 : decode cX0_plain 25 = .ok (.iload_n 2, 1) := by decide +kernel
theorem dX0_plain_26 : decode cX0_plain 26 = .ok (.ifCond .eq 9, 3) := by decide +kernel
theorem dX0_plain_29 : decode cX0_plain 29 = .ok (.iload_n 3, 1) := by decide +kernel
theorem dX0_plain_30 : decode cX0_plain 30 = .ok (.bipush (-6), 2) := by decide +kernel
theorem dX0_plain_32 : decode cX0_plain 32 = .ok (.if_icmp .ne 5, 3) := by decide +kernel
theorem dX0_plain_35 : decode cX0_plain 35 = .ok (.iload_n 3, 1) := by decide +kernel
theorem dX0_plain_36 : decode cX0_plain 36 = .ok (.ireturn, 1) := by decide +kernel
theorem dX0_plain_37 : decode cX0_plain 37 = .ok (.iload_n 2, 1) := by decide +kernel
theorem dX0_plain_38 : decode cX0_plain 38 = .ok (.iconst 1, 1) := by decide +kernel
theorem dX0_plain_39 : decode cX0_plain 39 = .ok (.if_icmp .ne 12, 3) := by decide +kernel
theorem dX0_plain_42 : decode cX0_plain 42 = .ok (.aload_n 0, 1) := by decide +kernel
theorem dX0_plain_43 : decode cX0_plain 43 = .ok (.getfield 22, 3) := by decide +kernel
theorem dX0_plain_46 : decode cX0_plain 46 = .ok (.iload_n 1, 1) := by decide +kernel
theorem dX0_plain_47 : decode cX0_plain 47 = .ok (.idiv, 1) := by decide +kernel
theorem dX0_plain_48 : decode cX0_plain 48 = .ok (.goto 17, 3) := by decide +kernel
theorem dX0_plain_51 : decode cX0_plain 51 = .ok (.aload_n 0, 1) := by decide +kernel
theorem dX0_plain_52 : decode cX0_plain 52 = .ok (.getfield 22, 3) := by decide +kernel
theorem dX0_plain_55 : decode cX0_plain 55 = .ok (.iload_n 1, 1) := by decide +kernel
theorem dX0_plain_56 : decode cX0_plain 56 = .ok (.irem, 1) := by decide +kernel
theorem dX0_plain_57 : decode cX0_plain 57 = .ok (.aload_n 0, 1) := by decide +kernel
theorem dX0_plain_58 : decode cX0_plain 58 = .ok (.iload_n 3, 1) := by decide +kernel
theorem dX0_plain_59 : decode cX0_plain 59 = .ok (.invokevirtual 43, 3) := by decide +kernel
theorem dX0_plain_62 : decode cX0_plain 62 = .ok (.imul, 1) := by decide +kernel
theorem dX0_plain_63 : decode cX0_plain 63 = .ok (.iload_n 1, 1) := by decide +kernel
theorem dX0_plain_64 : decode cX0_plain 64 = .ok (.idiv, 1) := by decide +kernel
theorem dX0_plain_65 : decode cX0_plain 65 = .ok (.ireturn, 1) := by decide +kernel
set_option maxRecDepth 20000 in
theorem ggX0_compound_X0_isNoNumberOfParts : GoodIn wsX0_compound wsX0_isNoNumberOfParts := goodIn_r _ [8, 9, 10, 7, 11] (by decide +kernel) (by decide +kernel)
set_option maxRecDepth 20000 in
theorem gX0_compound_X0_isNoNumberOfParts : GoodIn wsX0_compound (va_wsS RX0 50 yX0_isNoNumberOfParts wsX0_isNoNumberOfParts) := goodIn_app (goodIn_of _ (by decide +kernel)) ggX0_compound_X0_isNoNumberOfParts
set_option maxRecDepth 20000 in
theorem ggX0_compound_X0_isOutside : GoodIn wsX0_compound wsX0_isOutside := goodIn_r _ [11] (by decide +kernel) (by decide +kernel)
set_option maxRecDepth 20000 in
theorem gX0_compound_X0_isOutside : GoodIn wsX0_compound (va_wsS RX0 32 yX0_isOutside wsX0_isOutside) := goodIn_app (goodIn_of _ (by decide +kernel)) ggX0_compound_X0_isOutside
set_option maxRecDepth 20000 in
theorem ggX0_compound_X0_secondStep : GoodIn wsX0_compound wsX0_secondStep := goodIn_r _ [15, 16, 17, 18, 7, 19, 20, 21, 22, 23, 28, 29, 30, 31, 32, 33, 34, 35, 36] (by decide +kernel) (by decide +kernel)
set_option maxRecDepth 20000 in
theorem gX0_compound_X0_secondStep : GoodIn wsX0_compound (wsV RX0 57 RX0 yX0_secondStep wsX0_secondStep) := goodIn_app (goodIn_of _ (by decide +kernel)) ggX0_compound_X0_secondStep
set_option maxRecDepth 20000 in
theorem ggX0_compound_X0_compoundTerm : GoodIn wsX0_compound wsX0_compoundTerm := goodIn_r _ [27, 3, 16, 17, 18, 7, 19, 20, 21, 22, 23, 28, 29, 30, 31, 32, 33, 34, 35, 36] (by decide +kernel) (by decide +kernel)
set_option maxRecDepth 20000 in
theorem gX0_compound_X0_compoundTerm : GoodIn wsX0_compound (wsV RX0 61 RX0 yX0_compoundTerm wsX0_compoundTerm) := goodIn_app (goodIn_of _ (by decide +kernel)) ggX0_compound_X0_compoundTerm
theorem dX0_compound_0 : decode cX0_compound 0 = .ok (.iload_n 1, 1) := by decide +kernel
theorem dX0_compound_1 : decode cX0_compound 1 = .ok (.invokestatic 50, 3) := by decide +kernel
theorem dX0_compound_4 : decode cX0_compound 4 = .ok (.ifCond .ne 12, 3) := by decide +kernel
theorem dX0_compound_7 : decode cX0_compound 7 = .ok (.iload_n 2, 1) := by decide +kernel
theorem dX0_compound_8 : decode cX0_compound 8 = .ok (.iconst 0, 1) := by decide +kernel
theorem dX0_compound_9 : decode cX0_compound 9 = .ok (.iconst 3, 1) := by decide +kernel
theorem dX0_compound_10 : decode cX0_compound 10 = .ok (.invokestatic 32, 3) := by decide +kernel
theorem dX0_compound_13 : decode cX0_compound 13 = .ok (.ifCond .eq 6, 3) := by decide +kernel
theorem dX0_compound_16 : decode cX0_compound 16 = .ok (.ldc 56, 2) := by decide +kernel
theorem dX0_compound_18 : decode cX0_compound 18 = .ok (.ireturn, 1) := by decide +kernel
theorem dX0_compound_19 : decode cX0_compound 19 = .ok (.iconst 0, 1) := by decide +kernel
theorem dX0_compound_20 : decode cX0_compound 20 = .ok (.istore_n 3, 1) := by decide +kernel
theorem dX0_compound_21 : decode cX0_compound 21 = .ok (.iload_n 3, 1) := by decide +kernel
theorem dX0_compound_22 : decode cX0_compound 22 = .ok (.aload_n 0, 1) := by decide +kernel
theorem dX0_compound_23 : decode cX0_compound 23 = .ok (.getfield 36, 3) := by decide +kernel
theorem dX0_compound_26 : decode cX0_compound 26 = .ok (.if_icmp .ge 66, 3) := by decide +kernel
theorem dX0_compound_29 : decode cX0_compound 29 = .ok (.iload_n 3, 1) := by decide +kernel
theorem dX0_compound_30 : decode cX0_compound 30 = .ok (.iconst 1, 1) := by decide +kernel
theorem dX0_compound_31 : decode cX0_compound 31 = .ok (.iadd, 1) := by decide +kernel
theorem dX0_compound_32 : decode cX0_compound 32 = .ok (.istore 4, 2) := by decide +kernel
theorem dX0_compound_34 : decode cX0_compound 34 = .ok (.iload 4, 2) := by decide +kernel
theorem dX0_compound_36 : decode cX0_compound 36 = .ok (.aload_n 0, 1) := by decide +kernel
theorem dX0_compound_37 : decode cX0_compound 37 = .ok (.getfield 36, 3) := by decide +kernel
theorem dX0_compound_40 : decode cX0_compound 40 = .ok (.if_icmp .ge 46, 3) := by decide +kernel
theorem dX0_compound_43 : decode cX0_compound 43 = .ok (.aload_n 0, 1) := by decide +kernel
theorem dX0_compound_44 : decode cX0_compound 44 = .ok (.aload_n 0, 1) := by decide +kernel
theorem dX0_compound_45 : decode cX0_compound 45 = .ok (.getfield 9, 3) := by decide +kernel
theorem dX0_compound_48 : decode cX0_compound 48 = .ok (.iload_n 3, 1) := by decide +kernel
theorem dX0_compound_49 : decode cX0_compound 49 = .ok (.iaload, 1) := by decide +kernel
theorem dX0_compound_50 : decode cX0_compound 50 = .ok (.aload_n 0, 1) := by decide +kernel
theorem dX0_compound_51 : decode cX0_compound 51 = .ok (.getfield 9, 3) := by decide +kernel
theorem dX0_compound_54 : decode cX0_compound 54 = .ok (.iload 4, 2) := by decide +kernel
theorem dX0_compound_56 : decode cX0_compound 56 = .ok (.iaload, 1) := by decide +kernel
theorem dX0_compound_57 : decode cX0_compound 57 = .ok (.iload_n 1, 1) := by decide +kernel
theorem dX0_compound_58 : decode cX0_compound 58 = .ok (.invokevirtual 57, 3) := by decide +kernel
theorem dX0_compound_61 : decode cX0_compound 61 = .ok (.istore 5, 2) := by decide +kernel
theorem dX0_compound_63 : decode cX0_compound 63 = .ok (.iload 5, 2) := by decide +kernel
theorem dX0_compound_65 : decode cX0_compound 65 = .ok (.ifCond .eq 15, 3) := by decide +kernel
theorem dX0_compound_68 : decode cX0_compound 68 = .ok (.aload_n 0, 1) := by decide +kernel
theorem dX0_compound_69 : decode cX0_compound 69 = .ok (.iload_n 3, 1) := by decide +kernel
theorem dX0_compound_70 : decode cX0_compound 70 = .ok (.iload 4, 2) := by decide +kernel
theorem dX0_compound_72 : decode cX0_compound 72 = .ok (.iload_n 1, 1) := by decide +kernel
theorem dX0_compound_73 : decode cX0_compound 73 = .ok (.iload 5, 2) := by decide +kernel
theorem dX0_compound_75 : decode cX0_compound 75 = .ok (.iload_n 2, 1) := by decide +kernel
theorem dX0_compound_76 : decode cX0_compound 76 = .ok (.invokevirtual 61, 3) := by decide +kernel
theorem dX0_compound_79 : decode cX0_compound 79 = .ok (.ireturn, 1) := by decide +kernel
theorem dX0_compound_80 : decode cX0_compound 80 = .ok (.iinc 4 1, 3) := by decide +kernel
theorem dX0_compound_83 : decode cX0_compound 83 = .ok (.goto (-49), 3) := by decide +kernel
theorem dX0_compound_86 : decode cX0_compound 86 = .ok (.iinc 3 1, 3) := by decide +kernel
theorem dX0_compound_89 : decode cX0_compound 89 = .ok (.goto (-68), 3) := by decide +kernel
theorem dX0_compound_92 : decode cX0_compound 92 = .ok (.ldc 65, 2) := by decide +kernel
theorem dX0_compound_94 : decode cX0_compound 94 = .ok (.ireturn, 1) := by decide +kernel
set_option maxRecDepth 20000 in
theorem ggX0_differential_X0_isNoNumberOfParts : GoodIn wsX0_differential wsX0_isNoNumberOfParts := goodIn_r _ [5, 6, 7, 4, 8] (by decide +kernel) (by decide +kernel)
set_option maxRecDepth 20000 in
theorem gX0_differential_X0_isNoNumberOfParts : GoodIn wsX0_differential (va_wsS RX0 50 yX0_isNoNumberOfParts wsX0_isNoNumberOfParts) := goodIn_app (goodIn_of _ (by decide +kernel)) ggX0_differential_X0_isNoNumberOfParts
set_option maxRecDepth 20000 in
theorem ggX0_differential_X0_isOutside : GoodIn wsX0_differential wsX0_isOutside := goodIn_r _ [8] (by decide +kernel) (by decide +kernel)
set_option maxRecDepth 20000 in
theorem gX0_differential_X0_isOutside : GoodIn wsX0_differential (va_wsS RX0 32 yX0_isOutside wsX0_isOutside) := goodIn_app (goodIn_of _ (by decide +kernel)) ggX0_differential_X0_isOutside
set_option maxRecDepth 20000 in
theorem ggX0_differential_X0_partsBeside : GoodIn wsX0_differential wsX0_partsBeside := goodIn_r _ [12, 13, 14, 15, 4, 16, 17, 18, 19, 20, 21, 2, 3, 5, 6, 7, 8, 22, 23, 24, 25, 26, 27, 28, 29, 30, 31, 32, 33, 34, 35, 36, 37, 38, 39, 40, 41, 42, 43, 44, 45, 46, 47, 48, 1, 49, 50, 51, 52, 53, 54, 55, 56, 57, 58, 59, 60, 61, 62, 63, 64, 65] (by decide +kernel) (by decide +kernel)
set_option maxRecDepth 20000 in
theorem gX0_differential_X0_partsBeside : GoodIn wsX0_differential (wsV RX0 66 RX0 yX0_partsBeside wsX0_partsBeside) := goodIn_app (goodIn_of _ (by decide +kernel)) ggX0_differential_X0_partsBeside
set_option maxRecDepth 20000 in
theorem ggX0_differential_X0_plainCircle : GoodIn wsX0_differential wsX0_plainCircle := goodIn_r _ [25, 26, 21, 27, 28, 29, 4, 30, 57, 58, 59, 60, 61, 62, 63, 64, 65] (by decide +kernel) (by decide +kernel)
set_option maxRecDepth 20000 in
theorem gX0_differential_X0_plainCircle : GoodIn wsX0_differential (wsV RX0 53 RX0 yX0_plainCircle wsX0_plainCircle) := goodIn_app (goodIn_of _ (by decide +kernel)) ggX0_differential_X0_plainCircle
theorem dX0_differential_0 : decode cX0_differential 0 = .ok (.iload_n 1, 1) := by decide +kernel
theorem dX0_differential_1 : decode cX0_differential 1 = .ok (.invokestatic 50, 3) := by decide +kernel
theorem dX0_differential_4 : decode cX0_differential 4 = .ok (.ifCond .ne 13, 3) := by decide +kernel
theorem dX0_differential_7 : decode cX0_differential 7 = .ok (.iload_n 2, 1) := by decide +kernel
theorem dX0_differential_8 : decode cX0_differential 8 = .ok (.iconst 0, 1) := by decide +kernel
theorem dX0_differential_9 : decode cX0_differential 9 = .ok (.bipush 6, 2) := by decide +kernel
theorem dX0_differential_11 : decode cX0_differential 11 = .ok (.invokestatic 32, 3) := by decide +kernel
theorem dX0_differential_14 : decode cX0_differential 14 = .ok (.ifCond .eq 6, 3) := by decide +kernel
theorem dX0_differential_17 : decode cX0_differential 17 = .ok (.bipush (-2), 2) := by decide +kernel
theorem dX0_differential_19 : decode cX0_differential 19 = .ok (.ireturn, 1) := by decide +kernel
theorem dX0_differential_20 : decode cX0_differential 20 = .ok (.aload_n 0, 1) := by decide +kernel
theorem dX0_differential_21 : decode cX0_differential 21 = .ok (.iload_n 1, 1) := by decide +kernel
theorem dX0_differential_22 : decode cX0_differential 22 = .ok (.invokevirtual 66, 3) := by decide +kernel
theorem dX0_differential_25 : decode cX0_differential 25 = .ok (.istore_n 3, 1) := by decide +kernel
theorem dX0_differential_26 : decode cX0_differential 26 = .ok (.iload_n 2, 1) := by decide +kernel
theorem dX0_differential_27 : decode cX0_differential 27 = .ok (.ifCond .eq 9, 3) := by decide +kernel
theorem dX0_differential_30 : decode cX0_differential 30 = .ok (.iload_n 3, 1) := by decide +kernel
theorem dX0_differential_31 : decode cX0_differential 31 = .ok (.bipush (-6), 2) := by decide +kernel
theorem dX0_differential_33 : decode cX0_differential 33 = .ok (.if_icmp .ne 5, 3) := by decide +kernel
theorem dX0_differential_36 : decode cX0_differential 36 = .ok (.iload_n 3, 1) := by decide +kernel
theorem dX0_differential_37 : decode cX0_differential 37 = .ok (.ireturn, 1) := by decide +kernel
theorem dX0_differential_38 : decode cX0_differential 38 = .ok (.iload_n 2, 1) := by decide +kernel
theorem dX0_differential_39 : decode cX0_differential 39 = .ok (.iconst 1, 1) := by decide +kernel
theorem dX0_differential_40 : decode cX0_differential 40 = .ok (.if_icmp .ne 9, 3) := by decide +kernel
theorem dX0_differential_43 : decode cX0_differential 43 = .ok (.aload_n 0, 1) := by decide +kernel
theorem dX0_differential_44 : decode cX0_differential 44 = .ok (.iload_n 3, 1) := by decide +kernel
theorem dX0_differential_45 : decode cX0_differential 45 = .ok (.invokevirtual 53, 3) := by decide +kernel
theorem dX0_differential_48 : decode cX0_differential 48 = .ok (.ireturn, 1) := by decide +kernel
theorem dX0_differential_49 : decode cX0_differential 49 = .ok (.iload_n 2, 1) := by decide +kernel
theorem dX0_differential_50 : decode cX0_differential 50 = .ok (.bipush 6, 2) := by decide +kernel
theorem dX0_differential_52 : decode cX0_differential 52 = .ok (.if_icmp .ne 14, 3) := by decide +kernel
theorem dX0_differential_55 : decode cX0_differential 55 = .ok (.iload_n 3, 1) := by decide +kernel
theorem dX0_differential_56 : decode cX0_differential 56 = .ok (.iload_n 1, 1) := by decide +kernel
theorem dX0_differential_57 : decode cX0_differential 57 = .ok (.if_icmp .le 7, 3) := by decide +kernel
theorem dX0_differential_60 : decode cX0_differential 60 = .ok (.iconst 1, 1) := by decide +kernel
theorem dX0_differential_61 : decode cX0_differential 61 = .ok (.goto 4, 3) := by decide +kernel
theorem dX0_differential_64 : decode cX0_differential 64 = .ok (.iconst 0, 1) := by decide +kernel
theorem dX0_differential_65 : decode cX0_differential 65 = .ok (.ireturn, 1) := by decide +kernel
theorem dX0_differential_66 : decode cX0_differential 66 = .ok (.aload_n 0, 1) := by decide +kernel
theorem dX0_differential_67 : decode cX0_differential 67 = .ok (.getfield 19, 3) := by decide +kernel
theorem dX0_differential_70 : decode cX0_differential 70 = .ok (.iload_n 2, 1) := by decide +kernel
theorem dX0_differential_71 : decode cX0_differential 71 = .ok (.iconst 2, 1) := by decide +kernel
theorem dX0_differential_72 : decode cX0_differential 72 = .ok (.isub, 1) := by decide +kernel
theorem dX0_differential_73 : decode cX0_differential 73 = .ok (.iaload, 1) := by decide +kernel
theorem dX0_differential_74 : decode cX0_differential 74 = .ok (.ireturn, 1) := by decide +kernel
set_option maxRecDepth 20000 in
theorem ggX0_train_X0_isNoShare : GoodIn wsX0_train wsX0_isNoShare := goodIn_r _ [5, 6, 7, 8, 4, 9] (by decide +kernel) (by decide +kernel)
set_option maxRecDepth 20000 in
theorem gX0_train_X0_isNoShare : GoodIn wsX0_train (va_wsS RX0 69 yX0_isNoShare wsX0_isNoShare) := goodIn_app (goodIn_of _ (by decide +kernel)) ggX0_train_X0_isNoShare
set_option maxRecDepth 20000 in
theorem ggX0_train_X0_isOutside : GoodIn wsX0_train wsX0_isOutside := goodIn_r _ [9] (by decide +kernel) (by decide +kernel)
set_option maxRecDepth 20000 in
theorem gX0_train_X0_isOutside : GoodIn wsX0_train (va_wsS RX0 32 yX0_isOutside wsX0_isOutside) := goodIn_app (goodIn_of _ (by decide +kernel)) ggX0_train_X0_isOutside
set_option maxRecDepth 20000 in
theorem ggX0_train_X0_findTrain : GoodIn wsX0_train wsX0_findTrain := goodIn_r _ [13, 14, 15, 16, 4, 17, 18, 19, 20, 21, 22, 23, 24, 25, 26, 27, 28, 29, 30, 1, 31, 32, 33, 34, 35, 36, 37, 38, 39, 40, 41, 42, 43, 44, 45, 46, 47] (by decide +kernel) (by decide +kernel)
set_option maxRecDepth 20000 in
theorem gX0_train_X0_findTrain : GoodIn wsX0_train (wsV RX0 73 RX0 yX0_findTrain wsX0_findTrain) := goodIn_app (goodIn_of _ (by decide +kernel)) ggX0_train_X0_findTrain
theorem dX0_train_0 : decode cX0_train 0 = .ok (.iload_n 1, 1) := by decide +kernel
theorem dX0_train_1 : decode cX0_train 1 = .ok (.iload_n 2, 1) := by decide +kernel
theorem dX0_train_2 : decode cX0_train 2 = .ok (.invokestatic 69, 3) := by decide +kernel
theorem dX0_train_5 : decode cX0_train 5 = .ok (.ifCond .ne 12, 3) := by decide +kernel
theorem dX0_train_8 : decode cX0_train 8 = .ok (.iload_n 3, 1) := by decide +kernel
theorem dX0_train_9 : decode cX0_train 9 = .ok (.iconst 0, 1) := by decide +kernel
theorem dX0_train_10 : decode cX0_train 10 = .ok (.iconst 3, 1) := by decide +kernel
theorem dX0_train_11 : decode cX0_train 11 = .ok (.invokestatic 32, 3) := by decide +kernel
theorem dX0_train_14 : decode cX0_train 14 = .ok (.ifCond .eq 6, 3) := by decide +kernel
theorem dX0_train_17 : decode cX0_train 17 = .ok (.bipush (-2), 2) := by decide +kernel
theorem dX0_train_19 : decode cX0_train 19 = .ok (.ireturn, 1) := by decide +kernel
theorem dX0_train_20 : decode cX0_train 20 = .ok (.aload_n 0, 1) := by decide +kernel
theorem dX0_train_21 : decode cX0_train 21 = .ok (.iload_n 1, 1) := by decide +kernel
theorem dX0_train_22 : decode cX0_train 22 = .ok (.i2l, 1) := by decide +kernel
theorem dX0_train_23 : decode cX0_train 23 = .ok (.iload_n 2, 1) := by decide +kernel
theorem dX0_train_24 : decode cX0_train 24 = .ok (.i2l, 1) := by decide +kernel
theorem dX0_train_25 : decode cX0_train 25 = .ok (.invokevirtual 73, 3) := by decide +kernel
theorem dX0_train_28 : decode cX0_train 28 = .ok (.ifCond .eq 12, 3) := by decide +kernel
theorem dX0_train_31 : decode cX0_train 31 = .ok (.aload_n 0, 1) := by decide +kernel
theorem dX0_train_32 : decode cX0_train 32 = .ok (.getfield 19, 3) := by decide +kernel
theorem dX0_train_35 : decode cX0_train 35 = .ok (.iload_n 3, 1) := by decide +kernel
theorem dX0_train_36 : decode cX0_train 36 = .ok (.iaload, 1) := by decide +kernel
theorem dX0_train_37 : decode cX0_train 37 = .ok (.goto 5, 3) := by decide +kernel
theorem dX0_train_40 : decode cX0_train 40 = .ok (.bipush (-6), 2) := by decide +kernel
theorem dX0_train_42 : decode cX0_train 42 = .ok (.ireturn, 1) := by decide +kernel
set_option maxRecDepth 20000 in
theorem ggX0_hole_X0_holesAt : GoodIn wsX0_hole wsX0_holesAt := goodIn_r _ [5, 6, 7, 23, 24, 25, 26, 27, 28, 29, 30, 31] (by decide +kernel) (by decide +kernel)
set_option maxRecDepth 20000 in
theorem gX0_hole_X0_holesAt : GoodIn wsX0_hole (wsV RX0 43 RX0 yX0_holesAt wsX0_holesAt) := goodIn_app (goodIn_of _ (by decide +kernel)) ggX0_hole_X0_holesAt
set_option maxRecDepth 20000 in
theorem ggX0_hole_X0_isNoNumberOfParts : GoodIn wsX0_hole wsX0_isNoNumberOfParts := goodIn_r _ [10, 11, 12, 4, 13] (by decide +kernel) (by decide +kernel)
set_option maxRecDepth 20000 in
theorem gX0_hole_X0_isNoNumberOfParts : GoodIn wsX0_hole (va_wsS RX0 50 yX0_isNoNumberOfParts wsX0_isNoNumberOfParts) := goodIn_app (goodIn_of _ (by decide +kernel)) ggX0_hole_X0_isNoNumberOfParts
set_option maxRecDepth 20000 in
theorem ggX0_hole_X0_isOutside : GoodIn wsX0_hole wsX0_isOutside := goodIn_r _ [13] (by decide +kernel) (by decide +kernel)
set_option maxRecDepth 20000 in
theorem gX0_hole_X0_isOutside : GoodIn wsX0_hole (va_wsS RX0 32 yX0_isOutside wsX0_isOutside) := goodIn_app (goodIn_of _ (by decide +kernel)) ggX0_hole_X0_isOutside
set_option maxRecDepth 20000 in
theorem ggX0_hole_X0_nearestHole : GoodIn wsX0_hole wsX0_nearestHole := goodIn_r _ [17, 18, 19, 20, 4, 21, 22, 23, 24, 25, 26, 27, 28, 29, 30, 31] (by decide +kernel) (by decide +kernel)
set_option maxRecDepth 20000 in
theorem gX0_hole_X0_nearestHole : GoodIn wsX0_hole (wsV RX0 77 RX0 yX0_nearestHole wsX0_nearestHole) := goodIn_app (goodIn_of _ (by decide +kernel)) ggX0_hole_X0_nearestHole
theorem dX0_hole_0 : decode cX0_hole 0 = .ok (.aload_n 0, 1) := by decide +kernel
theorem dX0_hole_1 : decode cX0_hole 1 = .ok (.iload_n 1, 1) := by decide +kernel
theorem dX0_hole_2 : decode cX0_hole 2 = .ok (.invokevirtual 43, 3) := by decide +kernel
theorem dX0_hole_5 : decode cX0_hole 5 = .ok (.istore 4, 2) := by decide +kernel
theorem dX0_hole_7 : decode cX0_hole 7 = .ok (.iload 4, 2) := by decide +kernel
theorem dX0_hole_9 : decode cX0_hole 9 = .ok (.ifCond .ne 5, 3) := by decide +kernel
theorem dX0_hole_12 : decode cX0_hole 12 = .ok (.iconst (-1), 1) := by decide +kernel
theorem dX0_hole_13 : decode cX0_hole 13 = .ok (.ireturn, 1) := by decide +kernel
theorem dX0_hole_14 : decode cX0_hole 14 = .ok (.iload_n 2, 1) := by decide +kernel
theorem dX0_hole_15 : decode cX0_hole 15 = .ok (.invokestatic 50, 3) := by decide +kernel
theorem dX0_hole_18 : decode cX0_hole 18 = .ok (.ifCond .ne 12, 3) := by decide +kernel
theorem dX0_hole_21 : decode cX0_hole 21 = .ok (.iload_n 3, 1) := by decide +kernel
theorem dX0_hole_22 : decode cX0_hole 22 = .ok (.iconst 0, 1) := by decide +kernel
theorem dX0_hole_23 : decode cX0_hole 23 = .ok (.iload_n 2, 1) := by decide +kernel
theorem dX0_hole_24 : decode cX0_hole 24 = .ok (.invokestatic 32, 3) := by decide +kernel
theorem dX0_hole_27 : decode cX0_hole 27 = .ok (.ifCond .eq 6, 3) := by decide +kernel
theorem dX0_hole_30 : decode cX0_hole 30 = .ok (.bipush (-2), 2) := by decide +kernel
theorem dX0_hole_32 : decode cX0_hole 32 = .ok (.ireturn, 1) := by decide +kernel
theorem dX0_hole_33 : decode cX0_hole 33 = .ok (.aload_n 0, 1) := by decide +kernel
theorem dX0_hole_34 : decode cX0_hole 34 = .ok (.iload 4, 2) := by decide +kernel
theorem dX0_hole_36 : decode cX0_hole 36 = .ok (.iload_n 2, 1) := by decide +kernel
theorem dX0_hole_37 : decode cX0_hole 37 = .ok (.iload_n 3, 1) := by decide +kernel
theorem dX0_hole_38 : decode cX0_hole 38 = .ok (.invokevirtual 77, 3) := by decide +kernel
theorem dX0_hole_41 : decode cX0_hole 41 = .ok (.ireturn, 1) := by decide +kernel
set_option maxRecDepth 20000 in
theorem ggX0_miss_X0_holesAt : GoodIn wsX0_miss wsX0_holesAt := goodIn_r _ [7, 8, 9, 39, 40, 41, 42, 43, 44, 45, 46, 47] (by decide +kernel) (by decide +kernel)
set_option maxRecDepth 20000 in
theorem gX0_miss_X0_holesAt : GoodIn wsX0_miss (wsV RX0 43 RX0 yX0_holesAt wsX0_holesAt) := goodIn_app (goodIn_of _ (by decide +kernel)) ggX0_miss_X0_holesAt
set_option maxRecDepth 20000 in
theorem ggX0_miss_X0_isNoNumberOfParts : GoodIn wsX0_miss wsX0_isNoNumberOfParts := goodIn_r _ [12, 13, 14, 6, 15] (by decide +kernel) (by decide +kernel)
set_option maxRecDepth 20000 in
theorem gX0_miss_X0_isNoNumberOfParts : GoodIn wsX0_miss (va_wsS RX0 50 yX0_isNoNumberOfParts wsX0_isNoNumberOfParts) := goodIn_app (goodIn_of _ (by decide +kernel)) ggX0_miss_X0_isNoNumberOfParts
set_option maxRecDepth 20000 in
theorem ggX0_miss_X0_isOutside : GoodIn wsX0_miss wsX0_isOutside := goodIn_r _ [15] (by decide +kernel) (by decide +kernel)
set_option maxRecDepth 20000 in
theorem gX0_miss_X0_isOutside : GoodIn wsX0_miss (va_wsS RX0 32 yX0_isOutside wsX0_isOutside) := goodIn_app (goodIn_of _ (by decide +kernel)) ggX0_miss_X0_isOutside
set_option maxRecDepth 20000 in
theorem ggX0_miss_X0_missUpper : GoodIn wsX0_miss wsX0_missUpper := goodIn_r _ [19, 20, 21, 22, 23, 6, 24, 25, 26, 27, 28, 39, 40, 41, 42, 43, 44, 45, 46, 47] (by decide +kernel) (by decide +kernel)
set_option maxRecDepth 20000 in
theorem gX0_miss_X0_missUpper : GoodIn wsX0_miss (wsV RX0 81 RX0 yX0_missUpper wsX0_missUpper) := goodIn_app (goodIn_of _ (by decide +kernel)) ggX0_miss_X0_missUpper
set_option maxRecDepth 20000 in
theorem ggX0_miss_X0_lowestTerm : GoodIn wsX0_miss wsX0_lowestTerm := goodIn_r _ [31, 32, 33, 34, 35, 36, 37, 6, 38] (by decide +kernel) (by decide +kernel)
set_option maxRecDepth 20000 in
theorem gX0_miss_X0_lowestTerm : GoodIn wsX0_miss (va_wsS RX0 84 yX0_lowestTerm wsX0_lowestTerm) := goodIn_app (goodIn_of _ (by decide +kernel)) ggX0_miss_X0_lowestTerm
theorem dX0_miss_0 : decode cX0_miss 0 = .ok (.aload_n 0, 1) := by decide +kernel
theorem dX0_miss_1 : decode cX0_miss 1 = .ok (.iload_n 1, 1) := by decide +kernel
theorem dX0_miss_2 : decode cX0_miss 2 = .ok (.invokevirtual 43, 3) := by decide +kernel
theorem dX0_miss_5 : decode cX0_miss 5 = .ok (.istore 5, 2) := by decide +kernel
theorem dX0_miss_7 : decode cX0_miss 7 = .ok (.iload 5, 2) := by decide +kernel
theorem dX0_miss_9 : decode cX0_miss 9 = .ok (.ifCond .ne 6, 3) := by decide +kernel
theorem dX0_miss_12 : decode cX0_miss 12 = .ok (.ldc 80, 2) := by decide +kernel
theorem dX0_miss_14 : decode cX0_miss 14 = .ok (.ireturn, 1) := by decide +kernel
theorem dX0_miss_15 : decode cX0_miss 15 = .ok (.iload_n 2, 1) := by decide +kernel
theorem dX0_miss_16 : decode cX0_miss 16 = .ok (.invokestatic 50, 3) := by decide +kernel
theorem dX0_miss_19 : decode cX0_miss 19 = .ok (.ifCond .ne 22, 3) := by decide +kernel
theorem dX0_miss_22 : decode cX0_miss 22 = .ok (.iload_n 3, 1) := by decide +kernel
theorem dX0_miss_23 : decode cX0_miss 23 = .ok (.iconst 0, 1) := by decide +kernel
theorem dX0_miss_24 : decode cX0_miss 24 = .ok (.iload_n 2, 1) := by decide +kernel
theorem dX0_miss_25 : decode cX0_miss 25 = .ok (.invokestatic 32, 3) := by decide +kernel
theorem dX0_miss_28 : decode cX0_miss 28 = .ok (.ifCond .ne 13, 3) := by decide +kernel
theorem dX0_miss_31 : decode cX0_miss 31 = .ok (.iload 4, 2) := by decide +kernel
theorem dX0_miss_33 : decode cX0_miss 33 = .ok (.iconst 0, 1) := by decide +kernel
theorem dX0_miss_34 : decode cX0_miss 34 = .ok (.iconst 1, 1) := by decide +kernel
theorem dX0_miss_35 : decode cX0_miss 35 = .ok (.invokestatic 32, 3) := by decide +kernel
theorem dX0_miss_38 : decode cX0_miss 38 = .ok (.ifCond .eq 6, 3) := by decide +kernel
theorem dX0_miss_41 : decode cX0_miss 41 = .ok (.ldc 56, 2) := by decide +kernel
theorem dX0_miss_43 : decode cX0_miss 43 = .ok (.ireturn, 1) := by decide +kernel
theorem dX0_miss_44 : decode cX0_miss 44 = .ok (.aload_n 0, 1) := by decide +kernel
theorem dX0_miss_45 : decode cX0_miss 45 = .ok (.iload 5, 2) := by decide +kernel
theorem dX0_miss_47 : decode cX0_miss 47 = .ok (.iload_n 2, 1) := by decide +kernel
theorem dX0_miss_48 : decode cX0_miss 48 = .ok (.iload_n 3, 1) := by decide +kernel
theorem dX0_miss_49 : decode cX0_miss 49 = .ok (.invokevirtual 81, 3) := by decide +kernel
theorem dX0_miss_52 : decode cX0_miss 52 = .ok (.i2l, 1) := by decide +kernel
theorem dX0_miss_53 : decode cX0_miss 53 = .ok (.iload_n 2, 1) := by decide +kernel
theorem dX0_miss_54 : decode cX0_miss 54 = .ok (.i2l, 1) := by decide +kernel
theorem dX0_miss_55 : decode cX0_miss 55 = .ok (.iload 4, 2) := by decide +kernel
theorem dX0_miss_57 : decode cX0_miss 57 = .ok (.invokestatic 84, 3) := by decide +kernel
theorem dX0_miss_60 : decode cX0_miss 60 = .ok (.ireturn, 1) := by decide +kernel
set_option maxRecDepth 20000 in
theorem ggX0_worst_X0_holesAt : GoodIn wsX0_worst wsX0_holesAt := goodIn_r _ [5, 6, 7, 51, 52, 53, 54, 55, 56, 57, 58, 59] (by decide +kernel) (by decide +kernel)
set_option maxRecDepth 20000 in
theorem gX0_worst_X0_holesAt : GoodIn wsX0_worst (wsV RX0 43 RX0 yX0_holesAt wsX0_holesAt) := goodIn_app (goodIn_of _ (by decide +kernel)) ggX0_worst_X0_holesAt
set_option maxRecDepth 20000 in
theorem ggX0_worst_X0_isNoNumberOfParts : GoodIn wsX0_worst wsX0_isNoNumberOfParts := goodIn_r _ [10, 11, 12, 4, 13] (by decide +kernel) (by decide +kernel)
set_option maxRecDepth 20000 in
theorem gX0_worst_X0_isNoNumberOfParts : GoodIn wsX0_worst (va_wsS RX0 50 yX0_isNoNumberOfParts wsX0_isNoNumberOfParts) := goodIn_app (goodIn_of _ (by decide +kernel)) ggX0_worst_X0_isNoNumberOfParts
set_option maxRecDepth 20000 in
theorem ggX0_worst_X0_isOutside : GoodIn wsX0_worst wsX0_isOutside := goodIn_r _ [13] (by decide +kernel) (by decide +kernel)
set_option maxRecDepth 20000 in
theorem gX0_worst_X0_isOutside : GoodIn wsX0_worst (va_wsS RX0 32 yX0_isOutside wsX0_isOutside) := goodIn_app (goodIn_of _ (by decide +kernel)) ggX0_worst_X0_isOutside
set_option maxRecDepth 20000 in
theorem ggX0_worst_X0_exactCuts : GoodIn wsX0_worst wsX0_exactCuts := goodIn_r _ [17, 18, 19, 20, 4, 21, 22, 23, 24, 25, 26, 27, 28, 29, 30, 51, 52, 53, 54, 55, 56, 57, 58, 59] (by decide +kernel) (by decide +kernel)
set_option maxRecDepth 20000 in
theorem gX0_worst_X0_exactCuts : GoodIn wsX0_worst (wsV RX0 88 RX0 yX0_exactCuts wsX0_exactCuts) := goodIn_app (goodIn_of _ (by decide +kernel)) ggX0_worst_X0_exactCuts
set_option maxRecDepth 20000 in
theorem ggX0_worst_X0_worstUpper : GoodIn wsX0_worst wsX0_worstUpper := goodIn_r _ [34, 35, 36, 37, 38, 39, 40, 41, 18, 19, 20, 4, 21, 22, 23, 24, 25, 26, 27, 28, 29, 30, 51, 52, 53, 54, 55, 56, 57, 58, 59] (by decide +kernel) (by decide +kernel)
set_option maxRecDepth 20000 in
theorem gX0_worst_X0_worstUpper : GoodIn wsX0_worst (wsV RX0 92 RX0 yX0_worstUpper wsX0_worstUpper) := goodIn_app (goodIn_of _ (by decide +kernel)) ggX0_worst_X0_worstUpper
set_option maxRecDepth 20000 in
theorem ggX0_worst_X0_lowestTerm : GoodIn wsX0_worst wsX0_lowestTerm := goodIn_r _ [44, 45, 46, 37, 47, 48, 49, 4, 50] (by decide +kernel) (by decide +kernel)
set_option maxRecDepth 20000 in
theorem gX0_worst_X0_lowestTerm : GoodIn wsX0_worst (va_wsS RX0 84 yX0_lowestTerm wsX0_lowestTerm) := goodIn_app (goodIn_of _ (by decide +kernel)) ggX0_worst_X0_lowestTerm
theorem dX0_worst_0 : decode cX0_worst 0 = .ok (.aload_n 0, 1) := by decide +kernel
theorem dX0_worst_1 : decode cX0_worst 1 = .ok (.iload_n 1, 1) := by decide +kernel
theorem dX0_worst_2 : decode cX0_worst 2 = .ok (.invokevirtual 43, 3) := by decide +kernel
theorem dX0_worst_5 : decode cX0_worst 5 = .ok (.istore 4, 2) := by decide +kernel
theorem dX0_worst_7 : decode cX0_worst 7 = .ok (.iload 4, 2) := by decide +kernel
theorem dX0_worst_9 : decode cX0_worst 9 = .ok (.ifCond .ne 5, 3) := by decide +kernel
theorem dX0_worst_12 : decode cX0_worst 12 = .ok (.iconst (-1), 1) := by decide +kernel
theorem dX0_worst_13 : decode cX0_worst 13 = .ok (.ireturn, 1) := by decide +kernel
theorem dX0_worst_14 : decode cX0_worst 14 = .ok (.iload_n 2, 1) := by decide +kernel
theorem dX0_worst_15 : decode cX0_worst 15 = .ok (.invokestatic 50, 3) := by decide +kernel
theorem dX0_worst_18 : decode cX0_worst 18 = .ok (.ifCond .ne 12, 3) := by decide +kernel
theorem dX0_worst_21 : decode cX0_worst 21 = .ok (.iload_n 3, 1) := by decide +kernel
theorem dX0_worst_22 : decode cX0_worst 22 = .ok (.iconst 0, 1) := by decide +kernel
theorem dX0_worst_23 : decode cX0_worst 23 = .ok (.iconst 2, 1) := by decide +kernel
theorem dX0_worst_24 : decode cX0_worst 24 = .ok (.invokestatic 32, 3) := by decide +kernel
theorem dX0_worst_27 : decode cX0_worst 27 = .ok (.ifCond .eq 6, 3) := by decide +kernel
theorem dX0_worst_30 : decode cX0_worst 30 = .ok (.bipush (-2), 2) := by decide +kernel
theorem dX0_worst_32 : decode cX0_worst 32 = .ok (.ireturn, 1) := by decide +kernel
theorem dX0_worst_33 : decode cX0_worst 33 = .ok (.iload_n 3, 1) := by decide +kernel
theorem dX0_worst_34 : decode cX0_worst 34 = .ok (.iconst 2, 1) := by decide +kernel
theorem dX0_worst_35 : decode cX0_worst 35 = .ok (.if_icmp .ne 13, 3) := by decide +kernel
theorem dX0_worst_38 : decode cX0_worst 38 = .ok (.aload_n 0, 1) := by decide +kernel
theorem dX0_worst_39 : decode cX0_worst 39 = .ok (.iload 4, 2) := by decide +kernel
theorem dX0_worst_41 : decode cX0_worst 41 = .ok (.iload_n 2, 1) := by decide +kernel
theorem dX0_worst_42 : decode cX0_worst 42 = .ok (.invokevirtual 88, 3) := by decide +kernel
theorem dX0_worst_45 : decode cX0_worst 45 = .ok (.goto 17, 3) := by decide +kernel
theorem dX0_worst_48 : decode cX0_worst 48 = .ok (.aload_n 0, 1) := by decide +kernel
theorem dX0_worst_49 : decode cX0_worst 49 = .ok (.iload 4, 2) := by decide +kernel
theorem dX0_worst_51 : decode cX0_worst 51 = .ok (.iload_n 2, 1) := by decide +kernel
theorem dX0_worst_52 : decode cX0_worst 52 = .ok (.invokevirtual 92, 3) := by decide +kernel
theorem dX0_worst_55 : decode cX0_worst 55 = .ok (.i2l, 1) := by decide +kernel
theorem dX0_worst_56 : decode cX0_worst 56 = .ok (.iload_n 2, 1) := by decide +kernel
theorem dX0_worst_57 : decode cX0_worst 57 = .ok (.i2l, 1) := by decide +kernel
theorem dX0_worst_58 : decode cX0_worst 58 = .ok (.iload_n 3, 1) := by decide +kernel
theorem dX0_worst_59 : decode cX0_worst 59 = .ok (.invokestatic 84, 3) := by decide +kernel
theorem dX0_worst_62 : decode cX0_worst 62 = .ok (.ireturn, 1) := by decide +kernel
set_option maxRecDepth 20000 in
theorem ggX0_best_X0_isNoNumberOfParts : GoodIn wsX0_best wsX0_isNoNumberOfParts := goodIn_r _ [6, 7, 8, 5, 9] (by decide +kernel) (by decide +kernel)
set_option maxRecDepth 20000 in
theorem gX0_best_X0_isNoNumberOfParts : GoodIn wsX0_best (va_wsS RX0 50 yX0_isNoNumberOfParts wsX0_isNoNumberOfParts) := goodIn_app (goodIn_of _ (by decide +kernel)) ggX0_best_X0_isNoNumberOfParts
set_option maxRecDepth 20000 in
theorem ggX0_best_X0_worstUpper : GoodIn wsX0_best wsX0_worstUpper := goodIn_r _ [13, 14, 15, 16, 17, 18, 19, 20, 21, 22, 23, 5, 24, 25, 26, 27, 28, 29, 30, 31, 32, 33, 34, 35, 36, 37, 38, 39, 40, 41, 42] (by decide +kernel) (by decide +kernel)
set_option maxRecDepth 20000 in
theorem gX0_best_X0_worstUpper : GoodIn wsX0_best (wsV RX0 92 RX0 yX0_worstUpper wsX0_worstUpper) := goodIn_app (goodIn_of _ (by decide +kernel)) ggX0_best_X0_worstUpper
theorem dX0_best_0 : decode cX0_best 0 = .ok (.iload_n 1, 1) := by decide +kernel
theorem dX0_best_1 : decode cX0_best 1 = .ok (.invokestatic 50, 3) := by decide +kernel
theorem dX0_best_4 : decode cX0_best 4 = .ok (.ifCond .eq 6, 3) := by decide +kernel
theorem dX0_best_7 : decode cX0_best 7 = .ok (.bipush (-2), 2) := by decide +kernel
theorem dX0_best_9 : decode cX0_best 9 = .ok (.ireturn, 1) := by decide +kernel
theorem dX0_best_10 : decode cX0_best 10 = .ok (.aload_n 0, 1) := by decide +kernel
theorem dX0_best_11 : decode cX0_best 11 = .ok (.getfield 36, 3) := by decide +kernel
theorem dX0_best_14 : decode cX0_best 14 = .ok (.ifCond .ne 6, 3) := by decide +kernel
theorem dX0_best_17 : decode cX0_best 17 = .ok (.bipush (-3), 2) := by decide +kernel
theorem dX0_best_19 : decode cX0_best 19 = .ok (.ireturn, 1) := by decide +kernel
theorem dX0_best_20 : decode cX0_best 20 = .ok (.iconst 0, 1) := by decide +kernel
theorem dX0_best_21 : decode cX0_best 21 = .ok (.istore_n 2, 1) := by decide +kernel
theorem dX0_best_22 : decode cX0_best 22 = .ok (.aload_n 0, 1) := by decide +kernel
theorem dX0_best_23 : decode cX0_best 23 = .ok (.aload_n 0, 1) := by decide +kernel
theorem dX0_best_24 : decode cX0_best 24 = .ok (.getfield 9, 3) := by decide +kernel
theorem dX0_best_27 : decode cX0_best 27 = .ok (.iconst 0, 1) := by decide +kernel
theorem dX0_best_28 : decode cX0_best 28 = .ok (.iaload, 1) := by decide +kernel
theorem dX0_best_29 : decode cX0_best 29 = .ok (.iload_n 1, 1) := by decide +kernel
theorem dX0_best_30 : decode cX0_best 30 = .ok (.invokevirtual 92, 3) := by decide +kernel
theorem dX0_best_33 : decode cX0_best 33 = .ok (.istore_n 3, 1) := by decide +kernel
theorem dX0_best_34 : decode cX0_best 34 = .ok (.iconst 1, 1) := by decide +kernel
theorem dX0_best_35 : decode cX0_best 35 = .ok (.istore 4, 2) := by decide +kernel
theorem dX0_best_37 : decode cX0_best 37 = .ok (.iload 4, 2) := by decide +kernel
theorem dX0_best_39 : decode cX0_best 39 = .ok (.aload_n 0, 1) := by decide +kernel
theorem dX0_best_40 : decode cX0_best 40 = .ok (.getfield 36, 3) := by decide +kernel
theorem dX0_best_43 : decode cX0_best 43 = .ok (.if_icmp .ge 50, 3) := by decide +kernel
theorem dX0_best_46 : decode cX0_best 46 = .ok (.aload_n 0, 1) := by decide +kernel
theorem dX0_best_47 : decode cX0_best 47 = .ok (.aload_n 0, 1) := by decide +kernel
theorem dX0_best_48 : decode cX0_best 48 = .ok (.getfield 9, 3) := by decide +kernel
theorem dX0_best_51 : decode cX0_best 51 = .ok (.iload 4, 2) := by decide +kernel
theorem dX0_best_53 : decode cX0_best 53 = .ok (.iaload, 1) := by decide +kernel
theorem dX0_best_54 : decode cX0_best 54 = .ok (.iload_n 1, 1) := by decide +kernel
theorem dX0_best_55 : decode cX0_best 55 = .ok (.invokevirtual 92, 3) := by decide +kernel
theorem dX0_best_58 : decode cX0_best 58 = .ok (.istore 5, 2) := by decide +kernel
theorem dX0_best_60 : decode cX0_best 60 = .ok (.iload 5, 2) := by decide +kernel
theorem dX0_best_62 : decode cX0_best 62 = .ok (.aload_n 0, 1) := by decide +kernel
theorem dX0_best_63 : decode cX0_best 63 = .ok (.getfield 9, 3) := by decide +kernel
theorem dX0_best_66 : decode cX0_best 66 = .ok (.iload_n 2, 1) := by decide +kernel
theorem dX0_best_67 : decode cX0_best 67 = .ok (.iaload, 1) := by decide +kernel
theorem dX0_best_68 : decode cX0_best 68 = .ok (.imul, 1) := by decide +kernel
theorem dX0_best_69 : decode cX0_best 69 = .ok (.iload_n 3, 1) := by decide +kernel
theorem dX0_best_70 : decode cX0_best 70 = .ok (.aload_n 0, 1) := by decide +kernel
theorem dX0_best_71 : decode cX0_best 71 = .ok (.getfield 9, 3) := by decide +kernel
theorem dX0_best_74 : decode cX0_best 74 = .ok (.iload 4, 2) := by decide +kernel
theorem dX0_best_76 : decode cX0_best 76 = .ok (.iaload, 1) := by decide +kernel
theorem dX0_best_77 : decode cX0_best 77 = .ok (.imul, 1) := by decide +kernel
theorem dX0_best_78 : decode cX0_best 78 = .ok (.if_icmp .ge 9, 3) := by decide +kernel
theorem dX0_best_81 : decode cX0_best 81 = .ok (.iload 4, 2) := by decide +kernel
theorem dX0_best_83 : decode cX0_best 83 = .ok (.istore_n 2, 1) := by decide +kernel
theorem dX0_best_84 : decode cX0_best 84 = .ok (.iload 5, 2) := by decide +kernel
theorem dX0_best_86 : decode cX0_best 86 = .ok (.istore_n 3, 1) := by decide +kernel
theorem dX0_best_87 : decode cX0_best 87 = .ok (.iinc 4 1, 3) := by decide +kernel
theorem dX0_best_90 : decode cX0_best 90 = .ok (.goto (-53), 3) := by decide +kernel
theorem dX0_best_93 : decode cX0_best 93 = .ok (.iload_n 2, 1) := by decide +kernel
theorem dX0_best_94 : decode cX0_best 94 = .ok (.ireturn, 1) := by decide +kernel
set_option maxRecDepth 20000 in
theorem ggX0_error_X0_isOutside : GoodIn wsX0_error wsX0_isOutside := goodIn_r _ [5] (by decide +kernel) (by decide +kernel)
set_option maxRecDepth 20000 in
theorem gX0_error_X0_isOutside : GoodIn wsX0_error (va_wsS RX0 32 yX0_isOutside wsX0_isOutside) := goodIn_app (goodIn_of _ (by decide +kernel)) ggX0_error_X0_isOutside
theorem dX0_error_0 : decode cX0_error 0 = .ok (.iload_n 1, 1) := by decide +kernel
theorem dX0_error_1 : decode cX0_error 1 = .ok (.iconst 0, 1) := by decide +kernel
theorem dX0_error_2 : decode cX0_error 2 = .ok (.bipush 7, 2) := by decide +kernel
theorem dX0_error_4 : decode cX0_error 4 = .ok (.invokestatic 32, 3) := by decide +kernel
theorem dX0_error_7 : decode cX0_error 7 = .ok (.ifCond .eq 7, 3) := by decide +kernel
theorem dX0_error_10 : decode cX0_error 10 = .ok (.sipush (-1001), 3) := by decide +kernel
theorem dX0_error_13 : decode cX0_error 13 = .ok (.ireturn, 1) := by decide +kernel
theorem dX0_error_14 : decode cX0_error 14 = .ok (.iload_n 2, 1) := by decide +kernel
theorem dX0_error_15 : decode cX0_error 15 = .ok (.bipush (-100), 2) := by decide +kernel
theorem dX0_error_17 : decode cX0_error 17 = .ok (.bipush 100, 2) := by decide +kernel
theorem dX0_error_19 : decode cX0_error 19 = .ok (.invokestatic 32, 3) := by decide +kernel
theorem dX0_error_22 : decode cX0_error 22 = .ok (.ifCond .eq 7, 3) := by decide +kernel
theorem dX0_error_25 : decode cX0_error 25 = .ok (.sipush (-1002), 3) := by decide +kernel
theorem dX0_error_28 : decode cX0_error 28 = .ok (.ireturn, 1) := by decide +kernel
theorem dX0_error_29 : decode cX0_error 29 = .ok (.aload_n 0, 1) := by decide +kernel
theorem dX0_error_30 : decode cX0_error 30 = .ok (.getfield 16, 3) := by decide +kernel
theorem dX0_error_33 : decode cX0_error 33 = .ok (.iload_n 1, 1) := by decide +kernel
theorem dX0_error_34 : decode cX0_error 34 = .ok (.iaload, 1) := by decide +kernel
theorem dX0_error_35 : decode cX0_error 35 = .ok (.istore_n 3, 1) := by decide +kernel
theorem dX0_error_36 : decode cX0_error 36 = .ok (.aload_n 0, 1) := by decide +kernel
theorem dX0_error_37 : decode cX0_error 37 = .ok (.getfield 16, 3) := by decide +kernel
theorem dX0_error_40 : decode cX0_error 40 = .ok (.iload_n 1, 1) := by decide +kernel
theorem dX0_error_41 : decode cX0_error 41 = .ok (.iload_n 2, 1) := by decide +kernel
theorem dX0_error_42 : decode cX0_error 42 = .ok (.iastore, 1) := by decide +kernel
theorem dX0_error_43 : decode cX0_error 43 = .ok (.iload_n 3, 1) := by decide +kernel
theorem dX0_error_44 : decode cX0_error 44 = .ok (.ireturn, 1) := by decide +kernel
set_option maxRecDepth 20000 in
theorem ggX0_spoilt_X0_holesAt : GoodIn wsX0_spoilt wsX0_holesAt := goodIn_r _ [7, 8, 9, 32, 33, 34, 35, 36, 37, 38, 39, 40] (by decide +kernel) (by decide +kernel)
set_option maxRecDepth 20000 in
theorem gX0_spoilt_X0_holesAt : GoodIn wsX0_spoilt (wsV RX0 43 RX0 yX0_holesAt wsX0_holesAt) := goodIn_app (goodIn_of _ (by decide +kernel)) ggX0_spoilt_X0_holesAt
set_option maxRecDepth 20000 in
theorem ggX0_spoilt_X0_isNoStep : GoodIn wsX0_spoilt wsX0_isNoStep := goodIn_r _ [12, 13, 14, 15, 6, 16] (by decide +kernel) (by decide +kernel)
set_option maxRecDepth 20000 in
theorem gX0_spoilt_X0_isNoStep : GoodIn wsX0_spoilt (va_wsS RX0 95 yX0_isNoStep wsX0_isNoStep) := goodIn_app (goodIn_of _ (by decide +kernel)) ggX0_spoilt_X0_isNoStep
set_option maxRecDepth 20000 in
theorem ggX0_spoilt_X0_isOutside : GoodIn wsX0_spoilt wsX0_isOutside := goodIn_r _ [16] (by decide +kernel) (by decide +kernel)
set_option maxRecDepth 20000 in
theorem gX0_spoilt_X0_isOutside : GoodIn wsX0_spoilt (va_wsS RX0 32 yX0_isOutside wsX0_isOutside) := goodIn_app (goodIn_of _ (by decide +kernel)) ggX0_spoilt_X0_isOutside
set_option maxRecDepth 20000 in
theorem ggX0_spoilt_X0_errorUpper : GoodIn wsX0_spoilt wsX0_errorUpper := goodIn_r _ [20, 21, 32, 33, 34, 35, 36, 37, 38, 39, 40] (by decide +kernel) (by decide +kernel)
set_option maxRecDepth 20000 in
theorem gX0_spoilt_X0_errorUpper : GoodIn wsX0_spoilt (wsV RX0 98 RX0 yX0_errorUpper wsX0_errorUpper) := goodIn_app (goodIn_of _ (by decide +kernel)) ggX0_spoilt_X0_errorUpper
set_option maxRecDepth 20000 in
theorem ggX0_spoilt_X0_lowestTerm : GoodIn wsX0_spoilt wsX0_lowestTerm := goodIn_r _ [24, 25, 26, 27, 28, 29, 30, 6, 31] (by decide +kernel) (by decide +kernel)
set_option maxRecDepth 20000 in
theorem gX0_spoilt_X0_lowestTerm : GoodIn wsX0_spoilt (va_wsS RX0 84 yX0_lowestTerm wsX0_lowestTerm) := goodIn_app (goodIn_of _ (by decide +kernel)) ggX0_spoilt_X0_lowestTerm
theorem dX0_spoilt_0 : decode cX0_spoilt 0 = .ok (.aload_n 0, 1) := by decide +kernel
theorem dX0_spoilt_1 : decode cX0_spoilt 1 = .ok (.iload_n 1, 1) := by decide +kernel
theorem dX0_spoilt_2 : decode cX0_spoilt 2 = .ok (.invokevirtual 43, 3) := by decide +kernel
theorem dX0_spoilt_5 : decode cX0_spoilt 5 = .ok (.istore 5, 2) := by decide +kernel
theorem dX0_spoilt_7 : decode cX0_spoilt 7 = .ok (.iload 5, 2) := by decide +kernel
theorem dX0_spoilt_9 : decode cX0_spoilt 9 = .ok (.ifCond .ne 6, 3) := by decide +kernel
theorem dX0_spoilt_12 : decode cX0_spoilt 12 = .ok (.ldc 80, 2) := by decide +kernel
theorem dX0_spoilt_14 : decode cX0_spoilt 14 = .ok (.ireturn, 1) := by decide +kernel
theorem dX0_spoilt_15 : decode cX0_spoilt 15 = .ok (.iload_n 2, 1) := by decide +kernel
theorem dX0_spoilt_16 : decode cX0_spoilt 16 = .ok (.invokestatic 95, 3) := by decide +kernel
theorem dX0_spoilt_19 : decode cX0_spoilt 19 = .ok (.ifCond .ne 24, 3) := by decide +kernel
theorem dX0_spoilt_22 : decode cX0_spoilt 22 = .ok (.iload_n 3, 1) := by decide +kernel
theorem dX0_spoilt_23 : decode cX0_spoilt 23 = .ok (.iconst 0, 1) := by decide +kernel
theorem dX0_spoilt_24 : decode cX0_spoilt 24 = .ok (.sipush 10000, 3) := by decide +kernel
theorem dX0_spoilt_27 : decode cX0_spoilt 27 = .ok (.invokestatic 32, 3) := by decide +kernel
theorem dX0_spoilt_30 : decode cX0_spoilt 30 = .ok (.ifCond .ne 13, 3) := by decide +kernel
theorem dX0_spoilt_33 : decode cX0_spoilt 33 = .ok (.iload 4, 2) := by decide +kernel
theorem dX0_spoilt_35 : decode cX0_spoilt 35 = .ok (.iconst 0, 1) := by decide +kernel
theorem dX0_spoilt_36 : decode cX0_spoilt 36 = .ok (.iconst 1, 1) := by decide +kernel
theorem dX0_spoilt_37 : decode cX0_spoilt 37 = .ok (.invokestatic 32, 3) := by decide +kernel
theorem dX0_spoilt_40 : decode cX0_spoilt 40 = .ok (.ifCond .eq 6, 3) := by decide +kernel
theorem dX0_spoilt_43 : decode cX0_spoilt 43 = .ok (.ldc 56, 2) := by decide +kernel
theorem dX0_spoilt_45 : decode cX0_spoilt 45 = .ok (.ireturn, 1) := by decide +kernel
theorem dX0_spoilt_46 : decode cX0_spoilt 46 = .ok (.aload_n 0, 1) := by decide +kernel
theorem dX0_spoilt_47 : decode cX0_spoilt 47 = .ok (.iload 5, 2) := by decide +kernel
theorem dX0_spoilt_49 : decode cX0_spoilt 49 = .ok (.iload_n 2, 1) := by decide +kernel
theorem dX0_spoilt_50 : decode cX0_spoilt 50 = .ok (.iload_n 3, 1) := by decide +kernel
theorem dX0_spoilt_51 : decode cX0_spoilt 51 = .ok (.invokevirtual 98, 3) := by decide +kernel
theorem dX0_spoilt_54 : decode cX0_spoilt 54 = .ok (.i2l, 1) := by decide +kernel
theorem dX0_spoilt_55 : decode cX0_spoilt 55 = .ok (.iload 5, 2) := by decide +kernel
theorem dX0_spoilt_57 : decode cX0_spoilt 57 = .ok (.i2l, 1) := by decide +kernel
theorem dX0_spoilt_58 : decode cX0_spoilt 58 = .ok (.iload 4, 2) := by decide +kernel
theorem dX0_spoilt_60 : decode cX0_spoilt 60 = .ok (.invokestatic 84, 3) := by decide +kernel
theorem dX0_spoilt_63 : decode cX0_spoilt 63 = .ok (.ireturn, 1) := by decide +kernel
set_option maxRecDepth 20000 in
theorem ggX0_extreme_X0_holesAt : GoodIn wsX0_extreme wsX0_holesAt := goodIn_r _ [5, 6, 7, 20, 21, 22, 23, 24, 25, 26, 27, 28] (by decide +kernel) (by decide +kernel)
set_option maxRecDepth 20000 in
theorem gX0_extreme_X0_holesAt : GoodIn wsX0_extreme (wsV RX0 43 RX0 yX0_holesAt wsX0_holesAt) := goodIn_app (goodIn_of _ (by decide +kernel)) ggX0_extreme_X0_holesAt
set_option maxRecDepth 20000 in
theorem ggX0_extreme_X0_isNoStep : GoodIn wsX0_extreme wsX0_isNoStep := goodIn_r _ [10, 11, 12, 13, 4, 14] (by decide +kernel) (by decide +kernel)
set_option maxRecDepth 20000 in
theorem gX0_extreme_X0_isNoStep : GoodIn wsX0_extreme (va_wsS RX0 95 yX0_isNoStep wsX0_isNoStep) := goodIn_app (goodIn_of _ (by decide +kernel)) ggX0_extreme_X0_isNoStep
set_option maxRecDepth 20000 in
theorem ggX0_extreme_X0_isOutside : GoodIn wsX0_extreme wsX0_isOutside := goodIn_r _ [14] (by decide +kernel) (by decide +kernel)
set_option maxRecDepth 20000 in
theorem gX0_extreme_X0_isOutside : GoodIn wsX0_extreme (va_wsS RX0 32 yX0_isOutside wsX0_isOutside) := goodIn_app (goodIn_of _ (by decide +kernel)) ggX0_extreme_X0_isOutside
set_option maxRecDepth 20000 in
theorem ggX0_extreme_X0_errorUpper : GoodIn wsX0_extreme wsX0_errorUpper := goodIn_r _ [18, 19, 20, 21, 22, 23, 24, 25, 26, 27, 28] (by decide +kernel) (by decide +kernel)
set_option maxRecDepth 20000 in
theorem gX0_extreme_X0_errorUpper : GoodIn wsX0_extreme (wsV RX0 98 RX0 yX0_errorUpper wsX0_errorUpper) := goodIn_app (goodIn_of _ (by decide +kernel)) ggX0_extreme_X0_errorUpper
theorem dX0_extreme_0 : decode cX0_extreme 0 = .ok (.aload_n 0, 1) := by decide +kernel
theorem dX0_extreme_1 : decode cX0_extreme 1 = .ok (.iload_n 1, 1) := by decide +kernel
theorem dX0_extreme_2 : decode cX0_extreme 2 = .ok (.invokevirtual 43, 3) := by decide +kernel
theorem dX0_extreme_5 : decode cX0_extreme 5 = .ok (.istore 5, 2) := by decide +kernel
theorem dX0_extreme_7 : decode cX0_extreme 7 = .ok (.iload 5, 2) := by decide +kernel
theorem dX0_extreme_9 : decode cX0_extreme 9 = .ok (.ifCond .ne 5, 3) := by decide +kernel
theorem dX0_extreme_12 : decode cX0_extreme 12 = .ok (.iconst (-1), 1) := by decide +kernel
theorem dX0_extreme_13 : decode cX0_extreme 13 = .ok (.ireturn, 1) := by decide +kernel
theorem dX0_extreme_14 : decode cX0_extreme 14 = .ok (.iload_n 2, 1) := by decide +kernel
theorem dX0_extreme_15 : decode cX0_extreme 15 = .ok (.invokestatic 95, 3) := by decide +kernel
theorem dX0_extreme_18 : decode cX0_extreme 18 = .ok (.ifCond .ne 24, 3) := by decide +kernel
theorem dX0_extreme_21 : decode cX0_extreme 21 = .ok (.iload_n 3, 1) := by decide +kernel
theorem dX0_extreme_22 : decode cX0_extreme 22 = .ok (.iconst 0, 1) := by decide +kernel
theorem dX0_extreme_23 : decode cX0_extreme 23 = .ok (.sipush 1000, 3) := by decide +kernel
theorem dX0_extreme_26 : decode cX0_extreme 26 = .ok (.invokestatic 32, 3) := by decide +kernel
theorem dX0_extreme_29 : decode cX0_extreme 29 = .ok (.ifCond .ne 13, 3) := by decide +kernel
theorem dX0_extreme_32 : decode cX0_extreme 32 = .ok (.iload 4, 2) := by decide +kernel
theorem dX0_extreme_34 : decode cX0_extreme 34 = .ok (.iconst 0, 1) := by decide +kernel
theorem dX0_extreme_35 : decode cX0_extreme 35 = .ok (.iconst 1, 1) := by decide +kernel
theorem dX0_extreme_36 : decode cX0_extreme 36 = .ok (.invokestatic 32, 3) := by decide +kernel
theorem dX0_extreme_39 : decode cX0_extreme 39 = .ok (.ifCond .eq 6, 3) := by decide +kernel
theorem dX0_extreme_42 : decode cX0_extreme 42 = .ok (.bipush (-2), 2) := by decide +kernel
theorem dX0_extreme_44 : decode cX0_extreme 44 = .ok (.ireturn, 1) := by decide +kernel
theorem dX0_extreme_45 : decode cX0_extreme 45 = .ok (.iconst 0, 1) := by decide +kernel
theorem dX0_extreme_46 : decode cX0_extreme 46 = .ok (.istore 6, 2) := by decide +kernel
theorem dX0_extreme_48 : decode cX0_extreme 48 = .ok (.aload_n 0, 1) := by decide +kernel
theorem dX0_extreme_49 : decode cX0_extreme 49 = .ok (.iload 5, 2) := by decide +kernel
theorem dX0_extreme_51 : decode cX0_extreme 51 = .ok (.iload_n 2, 1) := by decide +kernel
theorem dX0_extreme_52 : decode cX0_extreme 52 = .ok (.iconst 0, 1) := by decide +kernel
theorem dX0_extreme_53 : decode cX0_extreme 53 = .ok (.invokevirtual 98, 3) := by decide +kernel
theorem dX0_extreme_56 : decode cX0_extreme 56 = .ok (.istore 7, 2) := by decide +kernel
theorem dX0_extreme_58 : decode cX0_extreme 58 = .ok (.iconst 1, 1) := by decide +kernel
theorem dX0_extreme_59 : decode cX0_extreme 59 = .ok (.istore 8, 2) := by decide +kernel
theorem dX0_extreme_61 : decode cX0_extreme 61 = .ok (.iload 8, 2) := by decide +kernel
theorem dX0_extreme_63 : decode cX0_extreme 63 = .ok (.iload_n 3, 1) := by decide +kernel
theorem dX0_extreme_64 : decode cX0_extreme 64 = .ok (.if_icmp .gt 50, 3) := by decide +kernel
theorem dX0_extreme_67 : decode cX0_extreme 67 = .ok (.aload_n 0, 1) := by decide +kernel
theorem dX0_extreme_68 : decode cX0_extreme 68 = .ok (.iload 5, 2) := by decide +kernel
theorem dX0_extreme_70 : decode cX0_extreme 70 = .ok (.iload_n 2, 1) := by decide +kernel
theorem dX0_extreme_71 : decode cX0_extreme 71 = .ok (.iload 8, 2) := by decide +kernel
theorem dX0_extreme_73 : decode cX0_extreme 73 = .ok (.invokevirtual 98, 3) := by decide +kernel
theorem dX0_extreme_76 : decode cX0_extreme 76 = .ok (.istore 9, 2) := by decide +kernel
theorem dX0_extreme_78 : decode cX0_extreme 78 = .ok (.iload 4, 2) := by decide +kernel
theorem dX0_extreme_80 : decode cX0_extreme 80 = .ok (.ifCond .ne 13, 3) := by decide +kernel
theorem dX0_extreme_83 : decode cX0_extreme 83 = .ok (.iload 9, 2) := by decide +kernel
theorem dX0_extreme_85 : decode cX0_extreme 85 = .ok (.iload 7, 2) := by decide +kernel
theorem dX0_extreme_87 : decode cX0_extreme 87 = .ok (.if_icmp .le 21, 3) := by decide +kernel
theorem dX0_extreme_90 : decode cX0_extreme 90 = .ok (.goto 10, 3) := by decide +kernel
theorem dX0_extreme_93 : decode cX0_extreme 93 = .ok (.iload 9, 2) := by decide +kernel
theorem dX0_extreme_95 : decode cX0_extreme 95 = .ok (.iload 7, 2) := by decide +kernel
theorem dX0_extreme_97 : decode cX0_extreme 97 = .ok (.if_icmp .ge 11, 3) := by decide +kernel
theorem dX0_extreme_100 : decode cX0_extreme 100 = .ok (.iload 8, 2) := by decide +kernel
theorem dX0_extreme_102 : decode cX0_extreme 102 = .ok (.istore 6, 2) := by decide +kernel
theorem dX0_extreme_104 : decode cX0_extreme 104 = .ok (.iload 9, 2) := by decide +kernel
theorem dX0_extreme_106 : decode cX0_extreme 106 = .ok (.istore 7, 2) := by decide +kernel
theorem dX0_extreme_108 : decode cX0_extreme 108 = .ok (.iinc 8 1, 3) := by decide +kernel
theorem dX0_extreme_111 : decode cX0_extreme 111 = .ok (.goto (-50), 3) := by decide +kernel
theorem dX0_extreme_114 : decode cX0_extreme 114 = .ok (.iload 6, 2) := by decide +kernel
theorem dX0_extreme_116 : decode cX0_extreme 116 = .ok (.ireturn, 1) := by decide +kernel
set_option maxRecDepth 20000 in
theorem ggX0_near_X0_isNoShare : GoodIn wsX0_near wsX0_isNoShare := goodIn_r _ [4, 5, 6, 7, 3, 8] (by decide +kernel) (by decide +kernel)
set_option maxRecDepth 20000 in
theorem gX0_near_X0_isNoShare : GoodIn wsX0_near (va_wsS RX0 69 yX0_isNoShare wsX0_isNoShare) := goodIn_app (goodIn_of _ (by decide +kernel)) ggX0_near_X0_isNoShare
set_option maxRecDepth 20000 in
theorem ggX0_near_X0_isOutside : GoodIn wsX0_near wsX0_isOutside := goodIn_r _ [8] (by decide +kernel) (by decide +kernel)
set_option maxRecDepth 20000 in
theorem gX0_near_X0_isOutside : GoodIn wsX0_near (va_wsS RX0 32 yX0_isOutside wsX0_isOutside) := goodIn_app (goodIn_of _ (by decide +kernel)) ggX0_near_X0_isOutside
set_option maxRecDepth 20000 in
theorem ggX0_near_X0_nearestLower : GoodIn wsX0_near wsX0_nearestLower := goodIn_r _ [11, 12, 13, 3, 14, 15, 16, 17, 18, 19, 20, 21, 22] (by decide +kernel) (by decide +kernel)
set_option maxRecDepth 20000 in
theorem gX0_near_X0_nearestLower : GoodIn wsX0_near (va_wsS RX0 101 yX0_nearestLower wsX0_nearestLower) := goodIn_app (goodIn_of _ (by decide +kernel)) ggX0_near_X0_nearestLower
set_option maxRecDepth 20000 in
theorem ggX0_near_X0_nearestOrLesser : GoodIn wsX0_near wsX0_nearestOrLesser := goodIn_r _ [21, 22] (by decide +kernel) (by decide +kernel)
set_option maxRecDepth 20000 in
theorem gX0_near_X0_nearestOrLesser : GoodIn wsX0_near (va_wsS RX0 104 yX0_nearestOrLesser wsX0_nearestOrLesser) := goodIn_app (goodIn_of _ (by decide +kernel)) ggX0_near_X0_nearestOrLesser
theorem dX0_near_0 : decode cX0_near 0 = .ok (.iload_n 1, 1) := by decide +kernel
theorem dX0_near_1 : decode cX0_near 1 = .ok (.iload_n 2, 1) := by decide +kernel
theorem dX0_near_2 : decode cX0_near 2 = .ok (.invokestatic 69, 3) := by decide +kernel
theorem dX0_near_5 : decode cX0_near 5 = .ok (.ifCond .ne 24, 3) := by decide +kernel
theorem dX0_near_8 : decode cX0_near 8 = .ok (.iload_n 3, 1) := by decide +kernel
theorem dX0_near_9 : decode cX0_near 9 = .ok (.iconst 1, 1) := by decide +kernel
theorem dX0_near_10 : decode cX0_near 10 = .ok (.sipush 10000, 3) := by decide +kernel
theorem dX0_near_13 : decode cX0_near 13 = .ok (.invokestatic 32, 3) := by decide +kernel
theorem dX0_near_16 : decode cX0_near 16 = .ok (.ifCond .ne 13, 3) := by decide +kernel
theorem dX0_near_19 : decode cX0_near 19 = .ok (.iload 4, 2) := by decide +kernel
theorem dX0_near_21 : decode cX0_near 21 = .ok (.iconst 0, 1) := by decide +kernel
theorem dX0_near_22 : decode cX0_near 22 = .ok (.iconst 1, 1) := by decide +kernel
theorem dX0_near_23 : decode cX0_near 23 = .ok (.invokestatic 32, 3) := by decide +kernel
theorem dX0_near_26 : decode cX0_near 26 = .ok (.ifCond .eq 6, 3) := by decide +kernel
theorem dX0_near_29 : decode cX0_near 29 = .ok (.bipush (-2), 2) := by decide +kernel
theorem dX0_near_31 : decode cX0_near 31 = .ok (.ireturn, 1) := by decide +kernel
theorem dX0_near_32 : decode cX0_near 32 = .ok (.iload_n 1, 1) := by decide +kernel
theorem dX0_near_33 : decode cX0_near 33 = .ok (.iload_n 2, 1) := by decide +kernel
theorem dX0_near_34 : decode cX0_near 34 = .ok (.iload_n 3, 1) := by decide +kernel
theorem dX0_near_35 : decode cX0_near 35 = .ok (.invokestatic 101, 3) := by decide +kernel
theorem dX0_near_38 : decode cX0_near 38 = .ok (.istore 5, 2) := by decide +kernel
theorem dX0_near_40 : decode cX0_near 40 = .ok (.iload 4, 2) := by decide +kernel
theorem dX0_near_42 : decode cX0_near 42 = .ok (.iconst 1, 1) := by decide +kernel
theorem dX0_near_43 : decode cX0_near 43 = .ok (.if_icmp .ne 8, 3) := by decide +kernel
theorem dX0_near_46 : decode cX0_near 46 = .ok (.iload 5, 2) := by decide +kernel
theorem dX0_near_48 : decode cX0_near 48 = .ok (.goto 15, 3) := by decide +kernel
theorem dX0_near_51 : decode cX0_near 51 = .ok (.iload_n 1, 1) := by decide +kernel
theorem dX0_near_52 : decode cX0_near 52 = .ok (.i2l, 1) := by decide +kernel
theorem dX0_near_53 : decode cX0_near 53 = .ok (.iload 5, 2) := by decide +kernel
theorem dX0_near_55 : decode cX0_near 55 = .ok (.i2l, 1) := by decide +kernel
theorem dX0_near_56 : decode cX0_near 56 = .ok (.lmul, 1) := by decide +kernel
theorem dX0_near_57 : decode cX0_near 57 = .ok (.iload_n 2, 1) := by decide +kernel
theorem dX0_near_58 : decode cX0_near 58 = .ok (.i2l, 1) := by decide +kernel
theorem dX0_near_59 : decode cX0_near 59 = .ok (.invokestatic 104, 3) := by decide +kernel
theorem dX0_near_62 : decode cX0_near 62 = .ok (.l2i, 1) := by decide +kernel
theorem dX0_near_63 : decode cX0_near 63 = .ok (.ireturn, 1) := by decide +kernel
set_option maxRecDepth 20000 in
theorem ggX0_vernier_X0_isOutside : GoodIn wsX0_vernier wsX0_isOutside := goodIn_r _ [6] (by decide +kernel) (by decide +kernel)
set_option maxRecDepth 20000 in
theorem gX0_vernier_X0_isOutside : GoodIn wsX0_vernier (va_wsS RX0 32 yX0_isOutside wsX0_isOutside) := goodIn_app (goodIn_of _ (by decide +kernel)) ggX0_vernier_X0_isOutside
theorem dX0_vernier_0 : decode cX0_vernier 0 = .ok (.iload_n 1, 1) := by decide +kernel
theorem dX0_vernier_1 : decode cX0_vernier 1 = .ok (.iconst 2, 1) := by decide +kernel
theorem dX0_vernier_2 : decode cX0_vernier 2 = .ok (.sipush 720, 3) := by decide +kernel
theorem dX0_vernier_5 : decode cX0_vernier 5 = .ok (.invokestatic 32, 3) := by decide +kernel
theorem dX0_vernier_8 : decode cX0_vernier 8 = .ok (.ifCond .ne 13, 3) := by decide +kernel
theorem dX0_vernier_11 : decode cX0_vernier 11 = .ok (.iload_n 2, 1) := by decide +kernel
theorem dX0_vernier_12 : decode cX0_vernier 12 = .ok (.iconst 2, 1) := by decide +kernel
theorem dX0_vernier_13 : decode cX0_vernier 13 = .ok (.bipush 60, 2) := by decide +kernel
theorem dX0_vernier_15 : decode cX0_vernier 15 = .ok (.invokestatic 32, 3) := by decide +kernel
theorem dX0_vernier_18 : decode cX0_vernier 18 = .ok (.ifCond .eq 6, 3) := by decide +kernel
theorem dX0_vernier_21 : decode cX0_vernier 21 = .ok (.bipush (-2), 2) := by decide +kernel
theorem dX0_vernier_23 : decode cX0_vernier 23 = .ok (.ireturn, 1) := by decide +kernel
theorem dX0_vernier_24 : decode cX0_vernier 24 = .ok (.aload_n 0, 1) := by decide +kernel
theorem dX0_vernier_25 : decode cX0_vernier 25 = .ok (.iload_n 1, 1) := by decide +kernel
theorem dX0_vernier_26 : decode cX0_vernier 26 = .ok (.putfield 26, 3) := by decide +kernel
theorem dX0_vernier_29 : decode cX0_vernier 29 = .ok (.aload_n 0, 1) := by decide +kernel
theorem dX0_vernier_30 : decode cX0_vernier 30 = .ok (.iload_n 2, 1) := by decide +kernel
theorem dX0_vernier_31 : decode cX0_vernier 31 = .ok (.putfield 29, 3) := by decide +kernel
theorem dX0_vernier_34 : decode cX0_vernier 34 = .ok (.iconst 1, 1) := by decide +kernel
theorem dX0_vernier_35 : decode cX0_vernier 35 = .ok (.ireturn, 1) := by decide +kernel
set_option maxRecDepth 20000 in
theorem ggX0_read_X0_isNoPlace : GoodIn wsX0_read wsX0_isNoPlace := goodIn_r _ [4, 5, 6, 7, 3, 8] (by decide +kernel) (by decide +kernel)
set_option maxRecDepth 20000 in
theorem gX0_read_X0_isNoPlace : GoodIn wsX0_read (va_wsS RX0 108 yX0_isNoPlace wsX0_isNoPlace) := goodIn_app (goodIn_of _ (by decide +kernel)) ggX0_read_X0_isNoPlace
set_option maxRecDepth 20000 in
theorem ggX0_read_X0_isOutside : GoodIn wsX0_read wsX0_isOutside := goodIn_r _ [8] (by decide +kernel) (by decide +kernel)
set_option maxRecDepth 20000 in
theorem gX0_read_X0_isOutside : GoodIn wsX0_read (va_wsS RX0 32 yX0_isOutside wsX0_isOutside) := goodIn_app (goodIn_of _ (by decide +kernel)) ggX0_read_X0_isOutside
set_option maxRecDepth 20000 in
theorem ggX0_read_X0_mainMark : GoodIn wsX0_read wsX0_mainMark := goodIn_r _ [12, 13, 27, 28, 29, 30, 31, 32, 33, 34, 35] (by decide +kernel) (by decide +kernel)
set_option maxRecDepth 20000 in
theorem gX0_read_X0_mainMark : GoodIn wsX0_read (wsV RX0 111 RX0 yX0_mainMark wsX0_mainMark) := goodIn_app (goodIn_of _ (by decide +kernel)) ggX0_read_X0_mainMark
set_option maxRecDepth 20000 in
theorem ggX0_read_X0_vernierLine : GoodIn wsX0_read wsX0_vernierLine := goodIn_r _ [17, 13, 18, 9, 10, 11, 3, 12, 19, 20, 21, 22, 27, 28, 29, 30, 31, 32, 33, 34, 35] (by decide +kernel) (by decide +kernel)
set_option maxRecDepth 20000 in
theorem gX0_read_X0_vernierLine : GoodIn wsX0_read (wsV RX0 114 RX0 yX0_vernierLine wsX0_vernierLine) := goodIn_app (goodIn_of _ (by decide +kernel)) ggX0_read_X0_vernierLine
set_option maxRecDepth 20000 in
theorem ggX0_read_X0_readParts : GoodIn wsX0_read wsX0_readParts := goodIn_r _ [26, 18, 9, 10, 11, 3, 12, 13, 14, 15, 16, 17, 19, 20, 21, 22, 27, 28, 29, 30, 31, 32, 33, 34, 35] (by decide +kernel) (by decide +kernel)
set_option maxRecDepth 20000 in
theorem gX0_read_X0_readParts : GoodIn wsX0_read (wsV RX0 117 RX0 yX0_readParts wsX0_readParts) := goodIn_app (goodIn_of _ (by decide +kernel)) ggX0_read_X0_readParts
theorem dX0_read_0 : decode cX0_read 0 = .ok (.iload_n 1, 1) := by decide +kernel
theorem dX0_read_1 : decode cX0_read 1 = .ok (.iload_n 2, 1) := by decide +kernel
theorem dX0_read_2 : decode cX0_read 2 = .ok (.invokestatic 108, 3) := by decide +kernel
theorem dX0_read_5 : decode cX0_read 5 = .ok (.ifCond .ne 12, 3) := by decide +kernel
theorem dX0_read_8 : decode cX0_read 8 = .ok (.iload_n 3, 1) := by decide +kernel
theorem dX0_read_9 : decode cX0_read 9 = .ok (.iconst 0, 1) := by decide +kernel
theorem dX0_read_10 : decode cX0_read 10 = .ok (.iconst 2, 1) := by decide +kernel
theorem dX0_read_11 : decode cX0_read 11 = .ok (.invokestatic 32, 3) := by decide +kernel
theorem dX0_read_14 : decode cX0_read 14 = .ok (.ifCond .eq 6, 3) := by decide +kernel
theorem dX0_read_17 : decode cX0_read 17 = .ok (.bipush (-2), 2) := by decide +kernel
theorem dX0_read_19 : decode cX0_read 19 = .ok (.ireturn, 1) := by decide +kernel
theorem dX0_read_20 : decode cX0_read 20 = .ok (.iload_n 3, 1) := by decide +kernel
theorem dX0_read_21 : decode cX0_read 21 = .ok (.ifCond .ne 13, 3) := by decide +kernel
theorem dX0_read_24 : decode cX0_read 24 = .ok (.aload_n 0, 1) := by decide +kernel
theorem dX0_read_25 : decode cX0_read 25 = .ok (.iload_n 1, 1) := by decide +kernel
theorem dX0_read_26 : decode cX0_read 26 = .ok (.i2l, 1) := by decide +kernel
theorem dX0_read_27 : decode cX0_read 27 = .ok (.iload_n 2, 1) := by decide +kernel
theorem dX0_read_28 : decode cX0_read 28 = .ok (.i2l, 1) := by decide +kernel
theorem dX0_read_29 : decode cX0_read 29 = .ok (.invokevirtual 111, 3) := by decide +kernel
theorem dX0_read_32 : decode cX0_read 32 = .ok (.l2i, 1) := by decide +kernel
theorem dX0_read_33 : decode cX0_read 33 = .ok (.ireturn, 1) := by decide +kernel
theorem dX0_read_34 : decode cX0_read 34 = .ok (.iload_n 3, 1) := by decide +kernel
theorem dX0_read_35 : decode cX0_read 35 = .ok (.iconst 1, 1) := by decide +kernel
theorem dX0_read_36 : decode cX0_read 36 = .ok (.if_icmp .ne 14, 3) := by decide +kernel
theorem dX0_read_39 : decode cX0_read 39 = .ok (.aload_n 0, 1) := by decide +kernel
theorem dX0_read_40 : decode cX0_read 40 = .ok (.iload_n 1, 1) := by decide +kernel
theorem dX0_read_41 : decode cX0_read 41 = .ok (.i2l, 1) := by decide +kernel
theorem dX0_read_42 : decode cX0_read 42 = .ok (.iload_n 2, 1) := by decide +kernel
theorem dX0_read_43 : decode cX0_read 43 = .ok (.i2l, 1) := by decide +kernel
theorem dX0_read_44 : decode cX0_read 44 = .ok (.invokevirtual 114, 3) := by decide +kernel
theorem dX0_read_47 : decode cX0_read 47 = .ok (.goto 11, 3) := by decide +kernel
theorem dX0_read_50 : decode cX0_read 50 = .ok (.aload_n 0, 1) := by decide +kernel
theorem dX0_read_51 : decode cX0_read 51 = .ok (.iload_n 1, 1) := by decide +kernel
theorem dX0_read_52 : decode cX0_read 52 = .ok (.i2l, 1) := by decide +kernel
theorem dX0_read_53 : decode cX0_read 53 = .ok (.iload_n 2, 1) := by decide +kernel
theorem dX0_read_54 : decode cX0_read 54 = .ok (.i2l, 1) := by decide +kernel
theorem dX0_read_55 : decode cX0_read 55 = .ok (.invokevirtual 117, 3) := by decide +kernel
theorem dX0_read_58 : decode cX0_read 58 = .ok (.l2i, 1) := by decide +kernel
theorem dX0_read_59 : decode cX0_read 59 = .ok (.ireturn, 1) := by decide +kernel
set_option maxRecDepth 20000 in
theorem ggX0_two_X0_isNoPlace : GoodIn wsX0_two wsX0_isNoPlace := goodIn_r _ [10, 11, 12, 13, 9, 14] (by decide +kernel) (by decide +kernel)
set_option maxRecDepth 20000 in
theorem gX0_two_X0_isNoPlace : GoodIn wsX0_two (va_wsS RX0 108 yX0_isNoPlace wsX0_isNoPlace) := goodIn_app (goodIn_of _ (by decide +kernel)) ggX0_two_X0_isNoPlace
set_option maxRecDepth 20000 in
theorem ggX0_two_X0_isOutside : GoodIn wsX0_two wsX0_isOutside := goodIn_r _ [14] (by decide +kernel) (by decide +kernel)
set_option maxRecDepth 20000 in
theorem gX0_two_X0_isOutside : GoodIn wsX0_two (va_wsS RX0 32 yX0_isOutside wsX0_isOutside) := goodIn_app (goodIn_of _ (by decide +kernel)) ggX0_two_X0_isOutside
set_option maxRecDepth 20000 in
theorem ggX0_two_J9_floorMod_f86c9 : GoodIn wsX0_two wsJ9_floorMod_f86c9 := goodIn_r _ [18] (by decide +kernel) (by decide +kernel)
set_option maxRecDepth 20000 in
theorem gX0_two_J9_floorMod_f86c9 : GoodIn wsX0_two (va_wsS RX0 122 yJ9_floorMod_f86c9 wsJ9_floorMod_f86c9) := goodIn_app (goodIn_of _ (by decide +kernel)) ggX0_two_J9_floorMod_f86c9
set_option maxRecDepth 20000 in
theorem ggX0_two_X0_readParts : GoodIn wsX0_two wsX0_readParts := goodIn_r _ [22, 5, 23, 24, 25, 9, 26, 4, 27, 28, 29, 30, 31, 32, 33, 3, 44, 45, 46, 47, 48, 49, 50, 51, 52] (by decide +kernel) (by decide +kernel)
set_option maxRecDepth 20000 in
theorem gX0_two_X0_readParts : GoodIn wsX0_two (wsV RX0 117 RX0 yX0_readParts wsX0_readParts) := goodIn_app (goodIn_of _ (by decide +kernel)) ggX0_two_X0_readParts
set_option maxRecDepth 20000 in
theorem ggX0_two_X0_lowestTerm : GoodIn wsX0_two wsX0_lowestTerm := goodIn_r _ [36, 37, 38, 39, 40, 41, 42, 9, 43] (by decide +kernel) (by decide +kernel)
set_option maxRecDepth 20000 in
theorem gX0_two_X0_lowestTerm : GoodIn wsX0_two (va_wsS RX0 84 yX0_lowestTerm wsX0_lowestTerm) := goodIn_app (goodIn_of _ (by decide +kernel)) ggX0_two_X0_lowestTerm
theorem dX0_two_0 : decode cX0_two 0 = .ok (.iload_n 1, 1) := by decide +kernel
theorem dX0_two_1 : decode cX0_two 1 = .ok (.iload_n 2, 1) := by decide +kernel
theorem dX0_two_2 : decode cX0_two 2 = .ok (.invokestatic 108, 3) := by decide +kernel
theorem dX0_two_5 : decode cX0_two 5 = .ok (.ifCond .ne 26, 3) := by decide +kernel
theorem dX0_two_8 : decode cX0_two 8 = .ok (.iload_n 3, 1) := by decide +kernel
theorem dX0_two_9 : decode cX0_two 9 = .ok (.sipush (-1000), 3) := by decide +kernel
theorem dX0_two_12 : decode cX0_two 12 = .ok (.sipush 1000, 3) := by decide +kernel
theorem dX0_two_15 : decode cX0_two 15 = .ok (.invokestatic 32, 3) := by decide +kernel
theorem dX0_two_18 : decode cX0_two 18 = .ok (.ifCond .ne 13, 3) := by decide +kernel
theorem dX0_two_21 : decode cX0_two 21 = .ok (.iload 4, 2) := by decide +kernel
theorem dX0_two_23 : decode cX0_two 23 = .ok (.iconst 0, 1) := by decide +kernel
theorem dX0_two_24 : decode cX0_two 24 = .ok (.iconst 1, 1) := by decide +kernel
theorem dX0_two_25 : decode cX0_two 25 = .ok (.invokestatic 32, 3) := by decide +kernel
theorem dX0_two_28 : decode cX0_two 28 = .ok (.ifCond .eq 6, 3) := by decide +kernel
theorem dX0_two_31 : decode cX0_two 31 = .ok (.ldc 56, 2) := by decide +kernel
theorem dX0_two_33 : decode cX0_two 33 = .ok (.ireturn, 1) := by decide +kernel
theorem dX0_two_34 : decode cX0_two 34 = .ok (.iload_n 2, 1) := by decide +kernel
theorem dX0_two_35 : decode cX0_two 35 = .ok (.i2l, 1) := by decide +kernel
theorem dX0_two_36 : decode cX0_two 36 = .ok (.ldc2_w 120, 3) := by decide +kernel
theorem dX0_two_39 : decode cX0_two 39 = .ok (.lmul, 1) := by decide +kernel
theorem dX0_two_40 : decode cX0_two 40 = .ok (.lstore 5, 2) := by decide +kernel
theorem dX0_two_42 : decode cX0_two 42 = .ok (.iload_n 1, 1) := by decide +kernel
theorem dX0_two_43 : decode cX0_two 43 = .ok (.i2l, 1) := by decide +kernel
theorem dX0_two_44 : decode cX0_two 44 = .ok (.ldc2_w 120, 3) := by decide +kernel
theorem dX0_two_47 : decode cX0_two 47 = .ok (.lmul, 1) := by decide +kernel
theorem dX0_two_48 : decode cX0_two 48 = .ok (.lstore 7, 2) := by decide +kernel
theorem dX0_two_50 : decode cX0_two 50 = .ok (.iload_n 3, 1) := by decide +kernel
theorem dX0_two_51 : decode cX0_two 51 = .ok (.i2l, 1) := by decide +kernel
theorem dX0_two_52 : decode cX0_two 52 = .ok (.iload_n 2, 1) := by decide +kernel
theorem dX0_two_53 : decode cX0_two 53 = .ok (.i2l, 1) := by decide +kernel
theorem dX0_two_54 : decode cX0_two 54 = .ok (.lmul, 1) := by decide +kernel
theorem dX0_two_55 : decode cX0_two 55 = .ok (.lstore 9, 2) := by decide +kernel
theorem dX0_two_57 : decode cX0_two 57 = .ok (.aload_n 0, 1) := by decide +kernel
theorem dX0_two_58 : decode cX0_two 58 = .ok (.lload 7, 2) := by decide +kernel
theorem dX0_two_60 : decode cX0_two 60 = .ok (.lload 9, 2) := by decide +kernel
theorem dX0_two_62 : decode cX0_two 62 = .ok (.ladd, 1) := by decide +kernel
theorem dX0_two_63 : decode cX0_two 63 = .ok (.lload 5, 2) := by decide +kernel
theorem dX0_two_65 : decode cX0_two 65 = .ok (.invokestatic 122, 3) := by decide +kernel
theorem dX0_two_68 : decode cX0_two 68 = .ok (.lload 5, 2) := by decide +kernel
theorem dX0_two_70 : decode cX0_two 70 = .ok (.invokevirtual 117, 3) := by decide +kernel
theorem dX0_two_73 : decode cX0_two 73 = .ok (.lstore 11, 2) := by decide +kernel
theorem dX0_two_75 : decode cX0_two 75 = .ok (.aload_n 0, 1) := by decide +kernel
theorem dX0_two_76 : decode cX0_two 76 = .ok (.lload 7, 2) := by decide +kernel
theorem dX0_two_78 : decode cX0_two 78 = .ok (.lload 5, 2) := by decide +kernel
theorem dX0_two_80 : decode cX0_two 80 = .ok (.ldc2_w 127, 3) := by decide +kernel
theorem dX0_two_83 : decode cX0_two 83 = .ok (.ldiv, 1) := by decide +kernel
theorem dX0_two_84 : decode cX0_two 84 = .ok (.ladd, 1) := by decide +kernel
theorem dX0_two_85 : decode cX0_two 85 = .ok (.lload 9, 2) := by decide +kernel
theorem dX0_two_87 : decode cX0_two 87 = .ok (.lsub, 1) := by decide +kernel
theorem dX0_two_88 : decode cX0_two 88 = .ok (.lload 5, 2) := by decide +kernel
theorem dX0_two_90 : decode cX0_two 90 = .ok (.invokestatic 122, 3) := by decide +kernel
theorem dX0_two_93 : decode cX0_two 93 = .ok (.lload 5, 2) := by decide +kernel
theorem dX0_two_95 : decode cX0_two 95 = .ok (.invokevirtual 117, 3) := by decide +kernel
theorem dX0_two_98 : decode cX0_two 98 = .ok (.lstore 13, 2) := by decide +kernel
theorem dX0_two_100 : decode cX0_two 100 = .ok (.aload_n 0, 1) := by decide +kernel
theorem dX0_two_101 : decode cX0_two 101 = .ok (.getfield 26, 3) := by decide +kernel
theorem dX0_two_104 : decode cX0_two 104 = .ok (.i2l, 1) := by decide +kernel
theorem dX0_two_105 : decode cX0_two 105 = .ok (.aload_n 0, 1) := by decide +kernel
theorem dX0_two_106 : decode cX0_two 106 = .ok (.getfield 29, 3) := by decide +kernel
theorem dX0_two_109 : decode cX0_two 109 = .ok (.i2l, 1) := by decide +kernel
theorem dX0_two_110 : decode cX0_two 110 = .ok (.lmul, 1) := by decide +kernel
theorem dX0_two_111 : decode cX0_two 111 = .ok (.lstore 15, 2) := by decide +kernel
theorem dX0_two_113 : decode cX0_two 113 = .ok (.ldc2_w 127, 3) := by decide +kernel
theorem dX0_two_116 : decode cX0_two 116 = .ok (.lload 11, 2) := by decide +kernel
theorem dX0_two_118 : decode cX0_two 118 = .ok (.lload 13, 2) := by decide +kernel
theorem dX0_two_120 : decode cX0_two 120 = .ok (.ladd, 1) := by decide +kernel
theorem dX0_two_121 : decode cX0_two 121 = .ok (.lmul, 1) := by decide +kernel
theorem dX0_two_122 : decode cX0_two 122 = .ok (.lstore 17, 2) := by decide +kernel
theorem dX0_two_124 : decode cX0_two 124 = .ok (.lload 11, 2) := by decide +kernel
theorem dX0_two_126 : decode cX0_two 126 = .ok (.lload 13, 2) := by decide +kernel
theorem dX0_two_128 : decode cX0_two 128 = .ok (.lcmp, 1) := by decide +kernel
theorem dX0_two_129 : decode cX0_two 129 = .ok (.ifCond .le 11, 3) := by decide +kernel
theorem dX0_two_132 : decode cX0_two 132 = .ok (.lload 17, 2) := by decide +kernel
theorem dX0_two_134 : decode cX0_two 134 = .ok (.lload 15, 2) := by decide +kernel
theorem dX0_two_136 : decode cX0_two 136 = .ok (.ladd, 1) := by decide +kernel
theorem dX0_two_137 : decode cX0_two 137 = .ok (.goto 8, 3) := by decide +kernel
theorem dX0_two_140 : decode cX0_two 140 = .ok (.lload 17, 2) := by decide +kernel
theorem dX0_two_142 : decode cX0_two 142 = .ok (.lload 15, 2) := by decide +kernel
theorem dX0_two_144 : decode cX0_two 144 = .ok (.lsub, 1) := by decide +kernel
theorem dX0_two_145 : decode cX0_two 145 = .ok (.ldc2_w 129, 3) := by decide +kernel
theorem dX0_two_148 : decode cX0_two 148 = .ok (.iload 4, 2) := by decide +kernel
theorem dX0_two_150 : decode cX0_two 150 = .ok (.invokestatic 84, 3) := by decide +kernel
theorem dX0_two_153 : decode cX0_two 153 = .ok (.ireturn, 1) := by decide +kernel
theorem dX0_told_0 : decode cX0_told 0 = .ok (.iload_n 1, 1) := by decide +kernel
theorem dX0_told_1 : decode cX0_told 1 = .ok (.tableswitch 60 0 4 #[35, 40, 45, 50, 55], 35) := by decide +kernel
theorem dX0_told_36 : decode cX0_told 36 = .ok (.aload_n 0, 1) := by decide +kernel
theorem dX0_told_37 : decode cX0_told 37 = .ok (.getfield 22, 3) := by decide +kernel
theorem dX0_told_40 : decode cX0_told 40 = .ok (.ireturn, 1) := by decide +kernel
theorem dX0_told_41 : decode cX0_told 41 = .ok (.aload_n 0, 1) := by decide +kernel
theorem dX0_told_42 : decode cX0_told 42 = .ok (.getfield 36, 3) := by decide +kernel
theorem dX0_told_45 : decode cX0_told 45 = .ok (.ireturn, 1) := by decide +kernel
theorem dX0_told_46 : decode cX0_told 46 = .ok (.aload_n 0, 1) := by decide +kernel
theorem dX0_told_47 : decode cX0_told 47 = .ok (.getfield 47, 3) := by decide +kernel
theorem dX0_told_50 : decode cX0_told 50 = .ok (.ireturn, 1) := by decide +kernel
theorem dX0_told_51 : decode cX0_told 51 = .ok (.aload_n 0, 1) := by decide +kernel
theorem dX0_told_52 : decode cX0_told 52 = .ok (.getfield 26, 3) := by decide +kernel
theorem dX0_told_55 : decode cX0_told 55 = .ok (.ireturn, 1) := by decide +kernel
theorem dX0_told_56 : decode cX0_told 56 = .ok (.aload_n 0, 1) := by decide +kernel
theorem dX0_told_57 : decode cX0_told 57 = .ok (.getfield 29, 3) := by decide +kernel
theorem dX0_told_60 : decode cX0_told 60 = .ok (.ireturn, 1) := by decide +kernel
theorem dX0_told_61 : decode cX0_told 61 = .ok (.bipush (-2), 2) := by decide +kernel
theorem dX0_told_63 : decode cX0_told 63 = .ok (.ireturn, 1) := by decide +kernel
theorem dX0_isOutside_0 : decode cX0_isOutside 0 = .ok (.iload_n 0, 1) := by decide +kernel
theorem dX0_isOutside_1 : decode cX0_isOutside 1 = .ok (.iload_n 1, 1) := by decide +kernel
theorem dX0_isOutside_2 : decode cX0_isOutside 2 = .ok (.if_icmp .lt 8, 3) := by decide +kernel
theorem dX0_isOutside_5 : decode cX0_isOutside 5 = .ok (.iload_n 0, 1) := by decide +kernel
theorem dX0_isOutside_6 : decode cX0_isOutside 6 = .ok (.iload_n 2, 1) := by decide +kernel
theorem dX0_isOutside_7 : decode cX0_isOutside 7 = .ok (.if_icmp .le 7, 3) := by decide +kernel
theorem dX0_isOutside_10 : decode cX0_isOutside 10 = .ok (.iconst 1, 1) := by decide +kernel
theorem dX0_isOutside_11 : decode cX0_isOutside 11 = .ok (.goto 4, 3) := by decide +kernel
theorem dX0_isOutside_14 : decode cX0_isOutside 14 = .ok (.iconst 0, 1) := by decide +kernel
theorem dX0_isOutside_15 : decode cX0_isOutside 15 = .ok (.ireturn, 1) := by decide +kernel
set_option maxRecDepth 20000 in
theorem ggX0_isNoNumberOfParts_X0_isOutside : GoodIn wsX0_isNoNumberOfParts wsX0_isOutside := goodIn_r _ [4] (by decide +kernel) (by decide +kernel)
set_option maxRecDepth 20000 in
theorem gX0_isNoNumberOfParts_X0_isOutside : GoodIn wsX0_isNoNumberOfParts (va_wsS RX0 32 yX0_isOutside wsX0_isOutside) := goodIn_app (goodIn_of _ (by decide +kernel)) ggX0_isNoNumberOfParts_X0_isOutside
theorem dX0_isNoNumberOfParts_0 : decode cX0_isNoNumberOfParts 0 = .ok (.iload_n 0, 1) := by decide +kernel
theorem dX0_isNoNumberOfParts_1 : decode cX0_isNoNumberOfParts 1 = .ok (.iconst 2, 1) := by decide +kernel
theorem dX0_isNoNumberOfParts_2 : decode cX0_isNoNumberOfParts 2 = .ok (.sipush 1000, 3) := by decide +kernel
theorem dX0_isNoNumberOfParts_5 : decode cX0_isNoNumberOfParts 5 = .ok (.invokestatic 32, 3) := by decide +kernel
theorem dX0_isNoNumberOfParts_8 : decode cX0_isNoNumberOfParts 8 = .ok (.ireturn, 1) := by decide +kernel
set_option maxRecDepth 20000 in
theorem ggX0_isNoShare_X0_isOutside : GoodIn wsX0_isNoShare wsX0_isOutside := goodIn_r _ [5] (by decide +kernel) (by decide +kernel)
set_option maxRecDepth 20000 in
theorem gX0_isNoShare_X0_isOutside : GoodIn wsX0_isNoShare (va_wsS RX0 32 yX0_isOutside wsX0_isOutside) := goodIn_app (goodIn_of _ (by decide +kernel)) ggX0_isNoShare_X0_isOutside
theorem dX0_isNoShare_0 : decode cX0_isNoShare 0 = .ok (.iload_n 0, 1) := by decide +kernel
theorem dX0_isNoShare_1 : decode cX0_isNoShare 1 = .ok (.iconst 1, 1) := by decide +kernel
theorem dX0_isNoShare_2 : decode cX0_isNoShare 2 = .ok (.ldc 131, 2) := by decide +kernel
theorem dX0_isNoShare_4 : decode cX0_isNoShare 4 = .ok (.invokestatic 32, 3) := by decide +kernel
theorem dX0_isNoShare_7 : decode cX0_isNoShare 7 = .ok (.ifCond .ne 13, 3) := by decide +kernel
theorem dX0_isNoShare_10 : decode cX0_isNoShare 10 = .ok (.iload_n 1, 1) := by decide +kernel
theorem dX0_isNoShare_11 : decode cX0_isNoShare 11 = .ok (.iconst 1, 1) := by decide +kernel
theorem dX0_isNoShare_12 : decode cX0_isNoShare 12 = .ok (.ldc 131, 2) := by decide +kernel
theorem dX0_isNoShare_14 : decode cX0_isNoShare 14 = .ok (.invokestatic 32, 3) := by decide +kernel
theorem dX0_isNoShare_17 : decode cX0_isNoShare 17 = .ok (.ifCond .eq 7, 3) := by decide +kernel
theorem dX0_isNoShare_20 : decode cX0_isNoShare 20 = .ok (.iconst 1, 1) := by decide +kernel
theorem dX0_isNoShare_21 : decode cX0_isNoShare 21 = .ok (.goto 4, 3) := by decide +kernel
theorem dX0_isNoShare_24 : decode cX0_isNoShare 24 = .ok (.iconst 0, 1) := by decide +kernel
theorem dX0_isNoShare_25 : decode cX0_isNoShare 25 = .ok (.ireturn, 1) := by decide +kernel
set_option maxRecDepth 20000 in
theorem ggX0_isNoPlace_X0_isOutside : GoodIn wsX0_isNoPlace wsX0_isOutside := goodIn_r _ [5] (by decide +kernel) (by decide +kernel)
set_option maxRecDepth 20000 in
theorem gX0_isNoPlace_X0_isOutside : GoodIn wsX0_isNoPlace (va_wsS RX0 32 yX0_isOutside wsX0_isOutside) := goodIn_app (goodIn_of _ (by decide +kernel)) ggX0_isNoPlace_X0_isOutside
theorem dX0_isNoPlace_0 : decode cX0_isNoPlace 0 = .ok (.iload_n 1, 1) := by decide +kernel
theorem dX0_isNoPlace_1 : decode cX0_isNoPlace 1 = .ok (.iconst 1, 1) := by decide +kernel
theorem dX0_isNoPlace_2 : decode cX0_isNoPlace 2 = .ok (.ldc 131, 2) := by decide +kernel
theorem dX0_isNoPlace_4 : decode cX0_isNoPlace 4 = .ok (.invokestatic 32, 3) := by decide +kernel
theorem dX0_isNoPlace_7 : decode cX0_isNoPlace 7 = .ok (.ifCond .ne 14, 3) := by decide +kernel
theorem dX0_isNoPlace_10 : decode cX0_isNoPlace 10 = .ok (.iload_n 0, 1) := by decide +kernel
theorem dX0_isNoPlace_11 : decode cX0_isNoPlace 11 = .ok (.iconst 0, 1) := by decide +kernel
theorem dX0_isNoPlace_12 : decode cX0_isNoPlace 12 = .ok (.iload_n 1, 1) := by decide +kernel
theorem dX0_isNoPlace_13 : decode cX0_isNoPlace 13 = .ok (.iconst 1, 1) := by decide +kernel
theorem dX0_isNoPlace_14 : decode cX0_isNoPlace 14 = .ok (.isub, 1) := by decide +kernel
theorem dX0_isNoPlace_15 : decode cX0_isNoPlace 15 = .ok (.invokestatic 32, 3) := by decide +kernel
theorem dX0_isNoPlace_18 : decode cX0_isNoPlace 18 = .ok (.ifCond .eq 7, 3) := by decide +kernel
theorem dX0_isNoPlace_21 : decode cX0_isNoPlace 21 = .ok (.iconst 1, 1) := by decide +kernel
theorem dX0_isNoPlace_22 : decode cX0_isNoPlace 22 = .ok (.goto 4, 3) := by decide +kernel
theorem dX0_isNoPlace_25 : decode cX0_isNoPlace 25 = .ok (.iconst 0, 1) := by decide +kernel
theorem dX0_isNoPlace_26 : decode cX0_isNoPlace 26 = .ok (.ireturn, 1) := by decide +kernel
set_option maxRecDepth 20000 in
theorem ggX0_isNoStep_X0_isOutside : GoodIn wsX0_isNoStep wsX0_isOutside := goodIn_r _ [5] (by decide +kernel) (by decide +kernel)
set_option maxRecDepth 20000 in
theorem gX0_isNoStep_X0_isOutside : GoodIn wsX0_isNoStep (va_wsS RX0 32 yX0_isOutside wsX0_isOutside) := goodIn_app (goodIn_of _ (by decide +kernel)) ggX0_isNoStep_X0_isOutside
theorem dX0_isNoStep_0 : decode cX0_isNoStep 0 = .ok (.iload_n 0, 1) := by decide +kernel
theorem dX0_isNoStep_1 : decode cX0_isNoStep 1 = .ok (.iconst 1, 1) := by decide +kernel
theorem dX0_isNoStep_2 : decode cX0_isNoStep 2 = .ok (.ldc 132, 2) := by decide +kernel
theorem dX0_isNoStep_4 : decode cX0_isNoStep 4 = .ok (.invokestatic 32, 3) := by decide +kernel
theorem dX0_isNoStep_7 : decode cX0_isNoStep 7 = .ok (.ireturn, 1) := by decide +kernel
theorem dX0_holesAt_0 : decode cX0_holesAt 0 = .ok (.iload_n 1, 1) := by decide +kernel
theorem dX0_holesAt_1 : decode cX0_holesAt 1 = .ok (.ifCond .lt 11, 3) := by decide +kernel
theorem dX0_holesAt_4 : decode cX0_holesAt 4 = .ok (.iload_n 1, 1) := by decide +kernel
theorem dX0_holesAt_5 : decode cX0_holesAt 5 = .ok (.aload_n 0, 1) := by decide +kernel
theorem dX0_holesAt_6 : decode cX0_holesAt 6 = .ok (.getfield 36, 3) := by decide +kernel
theorem dX0_holesAt_9 : decode cX0_holesAt 9 = .ok (.if_icmp .lt 7, 3) := by decide +kernel
theorem dX0_holesAt_12 : decode cX0_holesAt 12 = .ok (.iconst 0, 1) := by decide +kernel
theorem dX0_holesAt_13 : decode cX0_holesAt 13 = .ok (.goto 9, 3) := by decide +kernel
theorem dX0_holesAt_16 : decode cX0_holesAt 16 = .ok (.aload_n 0, 1) := by decide +kernel
theorem dX0_holesAt_17 : decode cX0_holesAt 17 = .ok (.getfield 9, 3) := by decide +kernel
theorem dX0_holesAt_20 : decode cX0_holesAt 20 = .ok (.iload_n 1, 1) := by decide +kernel
theorem dX0_holesAt_21 : decode cX0_holesAt 21 = .ok (.iaload, 1) := by decide +kernel
theorem dX0_holesAt_22 : decode cX0_holesAt 22 = .ok (.ireturn, 1) := by decide +kernel
theorem dX0_hasCircleOf_0 : decode cX0_hasCircleOf 0 = .ok (.iconst 0, 1) := by decide +kernel
theorem dX0_hasCircleOf_1 : decode cX0_hasCircleOf 1 = .ok (.istore_n 2, 1) := by decide +kernel
theorem dX0_hasCircleOf_2 : decode cX0_hasCircleOf 2 = .ok (.iload_n 2, 1) := by decide +kernel
theorem dX0_hasCircleOf_3 : decode cX0_hasCircleOf 3 = .ok (.aload_n 0, 1) := by decide +kernel
theorem dX0_hasCircleOf_4 : decode cX0_hasCircleOf 4 = .ok (.getfield 36, 3) := by decide +kernel
theorem dX0_hasCircleOf_7 : decode cX0_hasCircleOf 7 = .ok (.if_icmp .ge 21, 3) := by decide +kernel
theorem dX0_hasCircleOf_10 : decode cX0_hasCircleOf 10 = .ok (.aload_n 0, 1) := by decide +kernel
theorem dX0_hasCircleOf_11 : decode cX0_hasCircleOf 11 = .ok (.getfield 9, 3) := by decide +kernel
theorem dX0_hasCircleOf_14 : decode cX0_hasCircleOf 14 = .ok (.iload_n 2, 1) := by decide +kernel
theorem dX0_hasCircleOf_15 : decode cX0_hasCircleOf 15 = .ok (.iaload, 1) := by decide +kernel
theorem dX0_hasCircleOf_16 : decode cX0_hasCircleOf 16 = .ok (.iload_n 1, 1) := by decide +kernel
theorem dX0_hasCircleOf_17 : decode cX0_hasCircleOf 17 = .ok (.if_icmp .ne 5, 3) := by decide +kernel
theorem dX0_hasCircleOf_20 : decode cX0_hasCircleOf 20 = .ok (.iconst 1, 1) := by decide +kernel
theorem dX0_hasCircleOf_21 : decode cX0_hasCircleOf 21 = .ok (.ireturn, 1) := by decide +kernel
theorem dX0_hasCircleOf_22 : decode cX0_hasCircleOf 22 = .ok (.iinc 2 1, 3) := by decide +kernel
theorem dX0_hasCircleOf_25 : decode cX0_hasCircleOf 25 = .ok (.goto (-23), 3) := by decide +kernel
theorem dX0_hasCircleOf_28 : decode cX0_hasCircleOf 28 = .ok (.iconst 0, 1) := by decide +kernel
theorem dX0_hasCircleOf_29 : decode cX0_hasCircleOf 29 = .ok (.ireturn, 1) := by decide +kernel
set_option maxRecDepth 20000 in
theorem ggX0_plainCircle_X0_exactQuotient : GoodIn wsX0_plainCircle wsX0_exactQuotient := goodIn_r _ [7] (by decide +kernel) (by decide +kernel)
set_option maxRecDepth 20000 in
theorem gX0_plainCircle_X0_exactQuotient : GoodIn wsX0_plainCircle (va_wsS RX0 133 yX0_exactQuotient wsX0_exactQuotient) := goodIn_app (goodIn_of _ (by decide +kernel)) ggX0_plainCircle_X0_exactQuotient
theorem dX0_plainCircle_0 : decode cX0_plainCircle 0 = .ok (.bipush (-6), 2) := by decide +kernel
theorem dX0_plainCircle_2 : decode cX0_plainCircle 2 = .ok (.istore_n 2, 1) := by decide +kernel
theorem dX0_plainCircle_3 : decode cX0_plainCircle 3 = .ok (.iconst 0, 1) := by decide +kernel
theorem dX0_plainCircle_4 : decode cX0_plainCircle 4 = .ok (.istore_n 3, 1) := by decide +kernel
theorem dX0_plainCircle_5 : decode cX0_plainCircle 5 = .ok (.iload_n 3, 1) := by decide +kernel
theorem dX0_plainCircle_6 : decode cX0_plainCircle 6 = .ok (.aload_n 0, 1) := by decide +kernel
theorem dX0_plainCircle_7 : decode cX0_plainCircle 7 = .ok (.getfield 36, 3) := by decide +kernel
theorem dX0_plainCircle_10 : decode cX0_plainCircle 10 = .ok (.if_icmp .ge 66, 3) := by decide +kernel
theorem dX0_plainCircle_13 : decode cX0_plainCircle 13 = .ok (.aload_n 0, 1) := by decide +kernel
theorem dX0_plainCircle_14 : decode cX0_plainCircle 14 = .ok (.getfield 22, 3) := by decide +kernel
theorem dX0_plainCircle_17 : decode cX0_plainCircle 17 = .ok (.aload_n 0, 1) := by decide +kernel
theorem dX0_plainCircle_18 : decode cX0_plainCircle 18 = .ok (.getfield 9, 3) := by decide +kernel
theorem dX0_plainCircle_21 : decode cX0_plainCircle 21 = .ok (.iload_n 3, 1) := by decide +kernel
theorem dX0_plainCircle_22 : decode cX0_plainCircle 22 = .ok (.iaload, 1) := by decide +kernel
theorem dX0_plainCircle_23 : decode cX0_plainCircle 23 = .ok (.imul, 1) := by decide +kernel
theorem dX0_plainCircle_24 : decode cX0_plainCircle 24 = .ok (.i2l, 1) := by decide +kernel
theorem dX0_plainCircle_25 : decode cX0_plainCircle 25 = .ok (.iload_n 1, 1) := by decide +kernel
theorem dX0_plainCircle_26 : decode cX0_plainCircle 26 = .ok (.i2l, 1) := by decide +kernel
theorem dX0_plainCircle_27 : decode cX0_plainCircle 27 = .ok (.invokestatic 133, 3) := by decide +kernel
theorem dX0_plainCircle_30 : decode cX0_plainCircle 30 = .ok (.lconst 0, 1) := by decide +kernel
theorem dX0_plainCircle_31 : decode cX0_plainCircle 31 = .ok (.lcmp, 1) := by decide +kernel
theorem dX0_plainCircle_32 : decode cX0_plainCircle 32 = .ok (.ifCond .eq 7, 3) := by decide +kernel
theorem dX0_plainCircle_35 : decode cX0_plainCircle 35 = .ok (.iconst 1, 1) := by decide +kernel
theorem dX0_plainCircle_36 : decode cX0_plainCircle 36 = .ok (.goto 4, 3) := by decide +kernel
theorem dX0_plainCircle_39 : decode cX0_plainCircle 39 = .ok (.iconst 0, 1) := by decide +kernel
theorem dX0_plainCircle_40 : decode cX0_plainCircle 40 = .ok (.istore 4, 2) := by decide +kernel
theorem dX0_plainCircle_42 : decode cX0_plainCircle 42 = .ok (.iload 4, 2) := by decide +kernel
theorem dX0_plainCircle_44 : decode cX0_plainCircle 44 = .ok (.ifCond .eq 26, 3) := by decide +kernel
theorem dX0_plainCircle_47 : decode cX0_plainCircle 47 = .ok (.iload_n 2, 1) := by decide +kernel
theorem dX0_plainCircle_48 : decode cX0_plainCircle 48 = .ok (.bipush (-6), 2) := by decide +kernel
theorem dX0_plainCircle_50 : decode cX0_plainCircle 50 = .ok (.if_icmp .eq 18, 3) := by decide +kernel
theorem dX0_plainCircle_53 : decode cX0_plainCircle 53 = .ok (.aload_n 0, 1) := by decide +kernel
theorem dX0_plainCircle_54 : decode cX0_plainCircle 54 = .ok (.getfield 9, 3) := by decide +kernel
theorem dX0_plainCircle_57 : decode cX0_plainCircle 57 = .ok (.iload_n 3, 1) := by decide +kernel
theorem dX0_plainCircle_58 : decode cX0_plainCircle 58 = .ok (.iaload, 1) := by decide +kernel
theorem dX0_plainCircle_59 : decode cX0_plainCircle 59 = .ok (.aload_n 0, 1) := by decide +kernel
theorem dX0_plainCircle_60 : decode cX0_plainCircle 60 = .ok (.getfield 9, 3) := by decide +kernel
theorem dX0_plainCircle_63 : decode cX0_plainCircle 63 = .ok (.iload_n 2, 1) := by decide +kernel
theorem dX0_plainCircle_64 : decode cX0_plainCircle 64 = .ok (.iaload, 1) := by decide +kernel
theorem dX0_plainCircle_65 : decode cX0_plainCircle 65 = .ok (.if_icmp .ge 5, 3) := by decide +kernel
theorem dX0_plainCircle_68 : decode cX0_plainCircle 68 = .ok (.iload_n 3, 1) := by decide +kernel
theorem dX0_plainCircle_69 : decode cX0_plainCircle 69 = .ok (.istore_n 2, 1) := by decide +kernel
theorem dX0_plainCircle_70 : decode cX0_plainCircle 70 = .ok (.iinc 3 1, 3) := by decide +kernel
theorem dX0_plainCircle_73 : decode cX0_plainCircle 73 = .ok (.goto (-68), 3) := by decide +kernel
theorem dX0_plainCircle_76 : decode cX0_plainCircle 76 = .ok (.iload_n 2, 1) := by decide +kernel
theorem dX0_plainCircle_77 : decode cX0_plainCircle 77 = .ok (.ireturn, 1) := by decide +kernel
set_option maxRecDepth 20000 in
theorem ggX0_secondStep_X0_firstStep : GoodIn wsX0_secondStep wsX0_firstStep := goodIn_r _ [5, 6, 7, 8, 4, 9, 10, 11, 12, 13, 14, 15, 16, 17, 18] (by decide +kernel) (by decide +kernel)
set_option maxRecDepth 20000 in
theorem gX0_secondStep_X0_firstStep : GoodIn wsX0_secondStep (wsV RX0 136 RX0 yX0_firstStep wsX0_firstStep) := goodIn_app (goodIn_of _ (by decide +kernel)) ggX0_secondStep_X0_firstStep
theorem dX0_secondStep_0 : decode cX0_secondStep 0 = .ok (.iconst 1, 1) := by decide +kernel
theorem dX0_secondStep_1 : decode cX0_secondStep 1 = .ok (.istore 4, 2) := by decide +kernel
theorem dX0_secondStep_3 : decode cX0_secondStep 3 = .ok (.iload 4, 2) := by decide +kernel
theorem dX0_secondStep_5 : decode cX0_secondStep 5 = .ok (.iload_n 2, 1) := by decide +kernel
theorem dX0_secondStep_6 : decode cX0_secondStep 6 = .ok (.if_icmp .gt 41, 3) := by decide +kernel
theorem dX0_secondStep_9 : decode cX0_secondStep 9 = .ok (.aload_n 0, 1) := by decide +kernel
theorem dX0_secondStep_10 : decode cX0_secondStep 10 = .ok (.iload_n 1, 1) := by decide +kernel
theorem dX0_secondStep_11 : decode cX0_secondStep 11 = .ok (.iload_n 2, 1) := by decide +kernel
theorem dX0_secondStep_12 : decode cX0_secondStep 12 = .ok (.iload_n 3, 1) := by decide +kernel
theorem dX0_secondStep_13 : decode cX0_secondStep 13 = .ok (.iload 4, 2) := by decide +kernel
theorem dX0_secondStep_15 : decode cX0_secondStep 15 = .ok (.invokevirtual 136, 3) := by decide +kernel
theorem dX0_secondStep_18 : decode cX0_secondStep 18 = .ok (.ifCond .eq 6, 3) := by decide +kernel
theorem dX0_secondStep_21 : decode cX0_secondStep 21 = .ok (.iload 4, 2) := by decide +kernel
theorem dX0_secondStep_23 : decode cX0_secondStep 23 = .ok (.ireturn, 1) := by decide +kernel
theorem dX0_secondStep_24 : decode cX0_secondStep 24 = .ok (.aload_n 0, 1) := by decide +kernel
theorem dX0_secondStep_25 : decode cX0_secondStep 25 = .ok (.iload_n 1, 1) := by decide +kernel
theorem dX0_secondStep_26 : decode cX0_secondStep 26 = .ok (.iload_n 2, 1) := by decide +kernel
theorem dX0_secondStep_27 : decode cX0_secondStep 27 = .ok (.iload_n 3, 1) := by decide +kernel
theorem dX0_secondStep_28 : decode cX0_secondStep 28 = .ok (.iload 4, 2) := by decide +kernel
theorem dX0_secondStep_30 : decode cX0_secondStep 30 = .ok (.ineg, 1) := by decide +kernel
theorem dX0_secondStep_31 : decode cX0_secondStep 31 = .ok (.invokevirtual 136, 3) := by decide +kernel
theorem dX0_secondStep_34 : decode cX0_secondStep 34 = .ok (.ifCond .eq 7, 3) := by decide +kernel
theorem dX0_secondStep_37 : decode cX0_secondStep 37 = .ok (.iload 4, 2) := by decide +kernel
theorem dX0_secondStep_39 : decode cX0_secondStep 39 = .ok (.ineg, 1) := by decide +kernel
theorem dX0_secondStep_40 : decode cX0_secondStep 40 = .ok (.ireturn, 1) := by decide +kernel
theorem dX0_secondStep_41 : decode cX0_secondStep 41 = .ok (.iinc 4 1, 3) := by decide +kernel
theorem dX0_secondStep_44 : decode cX0_secondStep 44 = .ok (.goto (-41), 3) := by decide +kernel
theorem dX0_secondStep_47 : decode cX0_secondStep 47 = .ok (.iconst 0, 1) := by decide +kernel
theorem dX0_secondStep_48 : decode cX0_secondStep 48 = .ok (.ireturn, 1) := by decide +kernel
set_option maxRecDepth 20000 in
theorem ggX0_firstStep_X0_exactQuotient : GoodIn wsX0_firstStep wsX0_exactQuotient := goodIn_r _ [5] (by decide +kernel) (by decide +kernel)
set_option maxRecDepth 20000 in
theorem gX0_firstStep_X0_exactQuotient : GoodIn wsX0_firstStep (va_wsS RX0 133 yX0_exactQuotient wsX0_exactQuotient) := goodIn_app (goodIn_of _ (by decide +kernel)) ggX0_firstStep_X0_exactQuotient
theorem dX0_firstStep_0 : decode cX0_firstStep 0 = .ok (.aload_n 0, 1) := by decide +kernel
theorem dX0_firstStep_1 : decode cX0_firstStep 1 = .ok (.getfield 22, 3) := by decide +kernel
theorem dX0_firstStep_4 : decode cX0_firstStep 4 = .ok (.iload_n 2, 1) := by decide +kernel
theorem dX0_firstStep_5 : decode cX0_firstStep 5 = .ok (.imul, 1) := by decide +kernel
theorem dX0_firstStep_6 : decode cX0_firstStep 6 = .ok (.iload 4, 2) := by decide +kernel
theorem dX0_firstStep_8 : decode cX0_firstStep 8 = .ok (.iload_n 3, 1) := by decide +kernel
theorem dX0_firstStep_9 : decode cX0_firstStep 9 = .ok (.imul, 1) := by decide +kernel
theorem dX0_firstStep_10 : decode cX0_firstStep 10 = .ok (.isub, 1) := by decide +kernel
theorem dX0_firstStep_11 : decode cX0_firstStep 11 = .ok (.istore 5, 2) := by decide +kernel
theorem dX0_firstStep_13 : decode cX0_firstStep 13 = .ok (.iload_n 1, 1) := by decide +kernel
theorem dX0_firstStep_14 : decode cX0_firstStep 14 = .ok (.iload 5, 2) := by decide +kernel
theorem dX0_firstStep_16 : decode cX0_firstStep 16 = .ok (.imul, 1) := by decide +kernel
theorem dX0_firstStep_17 : decode cX0_firstStep 17 = .ok (.i2l, 1) := by decide +kernel
theorem dX0_firstStep_18 : decode cX0_firstStep 18 = .ok (.iload_n 3, 1) := by decide +kernel
theorem dX0_firstStep_19 : decode cX0_firstStep 19 = .ok (.iload_n 2, 1) := by decide +kernel
theorem dX0_firstStep_20 : decode cX0_firstStep 20 = .ok (.imul, 1) := by decide +kernel
theorem dX0_firstStep_21 : decode cX0_firstStep 21 = .ok (.i2l, 1) := by decide +kernel
theorem dX0_firstStep_22 : decode cX0_firstStep 22 = .ok (.invokestatic 133, 3) := by decide +kernel
theorem dX0_firstStep_25 : decode cX0_firstStep 25 = .ok (.l2i, 1) := by decide +kernel
theorem dX0_firstStep_26 : decode cX0_firstStep 26 = .ok (.ireturn, 1) := by decide +kernel
set_option maxRecDepth 20000 in
theorem ggX0_compoundTerm_X0_firstStep : GoodIn wsX0_compoundTerm wsX0_firstStep := goodIn_r _ [6, 7, 8, 9, 5, 10, 11, 12, 13, 14, 15, 16, 17, 18, 19] (by decide +kernel) (by decide +kernel)
set_option maxRecDepth 20000 in
theorem gX0_compoundTerm_X0_firstStep : GoodIn wsX0_compoundTerm (wsV RX0 136 RX0 yX0_firstStep wsX0_firstStep) := goodIn_app (goodIn_of _ (by decide +kernel)) ggX0_compoundTerm_X0_firstStep
theorem dX0_compoundTerm_0 : decode cX0_compoundTerm 0 = .ok (.iload 5, 2) := by decide +kernel
theorem dX0_compoundTerm_2 : decode cX0_compoundTerm 2 = .ok (.tableswitch 50 0 2 #[26, 28, 48], 26) := by decide +kernel
theorem dX0_compoundTerm_28 : decode cX0_compoundTerm 28 = .ok (.iload_n 1, 1) := by decide +kernel
theorem dX0_compoundTerm_29 : decode cX0_compoundTerm 29 = .ok (.ireturn, 1) := by decide +kernel
theorem dX0_compoundTerm_30 : decode cX0_compoundTerm 30 = .ok (.aload_n 0, 1) := by decide +kernel
theorem dX0_compoundTerm_31 : decode cX0_compoundTerm 31 = .ok (.aload_n 0, 1) := by decide +kernel
theorem dX0_compoundTerm_32 : decode cX0_compoundTerm 32 = .ok (.getfield 9, 3) := by decide +kernel
theorem dX0_compoundTerm_35 : decode cX0_compoundTerm 35 = .ok (.iload_n 1, 1) := by decide +kernel
theorem dX0_compoundTerm_36 : decode cX0_compoundTerm 36 = .ok (.iaload, 1) := by decide +kernel
theorem dX0_compoundTerm_37 : decode cX0_compoundTerm 37 = .ok (.aload_n 0, 1) := by decide +kernel
theorem dX0_compoundTerm_38 : decode cX0_compoundTerm 38 = .ok (.getfield 9, 3) := by decide +kernel
theorem dX0_compoundTerm_41 : decode cX0_compoundTerm 41 = .ok (.iload_n 2, 1) := by decide +kernel
theorem dX0_compoundTerm_42 : decode cX0_compoundTerm 42 = .ok (.iaload, 1) := by decide +kernel
theorem dX0_compoundTerm_43 : decode cX0_compoundTerm 43 = .ok (.iload_n 3, 1) := by decide +kernel
theorem dX0_compoundTerm_44 : decode cX0_compoundTerm 44 = .ok (.iload 4, 2) := by decide +kernel
theorem dX0_compoundTerm_46 : decode cX0_compoundTerm 46 = .ok (.invokevirtual 136, 3) := by decide +kernel
theorem dX0_compoundTerm_49 : decode cX0_compoundTerm 49 = .ok (.ireturn, 1) := by decide +kernel
theorem dX0_compoundTerm_50 : decode cX0_compoundTerm 50 = .ok (.iload_n 2, 1) := by decide +kernel
theorem dX0_compoundTerm_51 : decode cX0_compoundTerm 51 = .ok (.ireturn, 1) := by decide +kernel
theorem dX0_compoundTerm_52 : decode cX0_compoundTerm 52 = .ok (.iload 4, 2) := by decide +kernel
theorem dX0_compoundTerm_54 : decode cX0_compoundTerm 54 = .ok (.ireturn, 1) := by decide +kernel
set_option maxRecDepth 20000 in
theorem ggX0_partsBeside_X0_standsIn : GoodIn wsX0_partsBeside wsX0_standsIn := goodIn_r _ [5, 6, 7, 8, 9, 10, 11, 12, 4, 13, 14, 15, 16, 17, 18, 19, 20, 21, 22, 23, 24, 25, 26, 27, 28, 29, 30, 31, 32, 33, 34, 35, 36, 37, 38, 39, 40, 41, 42, 43, 44, 45, 46, 47, 48, 49, 50, 51, 52, 53, 54, 55, 56, 57, 58, 59, 60, 61] (by decide +kernel) (by decide +kernel)
set_option maxRecDepth 20000 in
theorem gX0_partsBeside_X0_standsIn : GoodIn wsX0_partsBeside (wsV RX0 140 RX0 yX0_standsIn wsX0_standsIn) := goodIn_app (goodIn_of _ (by decide +kernel)) ggX0_partsBeside_X0_standsIn
theorem dX0_partsBeside_0 : decode cX0_partsBeside 0 = .ok (.iconst 1, 1) := by decide +kernel
theorem dX0_partsBeside_1 : decode cX0_partsBeside 1 = .ok (.istore_n 2, 1) := by decide +kernel
theorem dX0_partsBeside_2 : decode cX0_partsBeside 2 = .ok (.iload_n 2, 1) := by decide +kernel
theorem dX0_partsBeside_3 : decode cX0_partsBeside 3 = .ok (.bipush 10, 2) := by decide +kernel
theorem dX0_partsBeside_5 : decode cX0_partsBeside 5 = .ok (.if_icmp .gt 39, 3) := by decide +kernel
theorem dX0_partsBeside_8 : decode cX0_partsBeside 8 = .ok (.aload_n 0, 1) := by decide +kernel
theorem dX0_partsBeside_9 : decode cX0_partsBeside 9 = .ok (.iload_n 1, 1) := by decide +kernel
theorem dX0_partsBeside_10 : decode cX0_partsBeside 10 = .ok (.iload_n 2, 1) := by decide +kernel
theorem dX0_partsBeside_11 : decode cX0_partsBeside 11 = .ok (.isub, 1) := by decide +kernel
theorem dX0_partsBeside_12 : decode cX0_partsBeside 12 = .ok (.iload_n 1, 1) := by decide +kernel
theorem dX0_partsBeside_13 : decode cX0_partsBeside 13 = .ok (.invokevirtual 140, 3) := by decide +kernel
theorem dX0_partsBeside_16 : decode cX0_partsBeside 16 = .ok (.ifCond .eq 7, 3) := by decide +kernel
theorem dX0_partsBeside_19 : decode cX0_partsBeside 19 = .ok (.iload_n 1, 1) := by decide +kernel
theorem dX0_partsBeside_20 : decode cX0_partsBeside 20 = .ok (.iload_n 2, 1) := by decide +kernel
theorem dX0_partsBeside_21 : decode cX0_partsBeside 21 = .ok (.isub, 1) := by decide +kernel
theorem dX0_partsBeside_22 : decode cX0_partsBeside 22 = .ok (.ireturn, 1) := by decide +kernel
theorem dX0_partsBeside_23 : decode cX0_partsBeside 23 = .ok (.aload_n 0, 1) := by decide +kernel
theorem dX0_partsBeside_24 : decode cX0_partsBeside 24 = .ok (.iload_n 1, 1) := by decide +kernel
theorem dX0_partsBeside_25 : decode cX0_partsBeside 25 = .ok (.iload_n 2, 1) := by decide +kernel
theorem dX0_partsBeside_26 : decode cX0_partsBeside 26 = .ok (.iadd, 1) := by decide +kernel
theorem dX0_partsBeside_27 : decode cX0_partsBeside 27 = .ok (.iload_n 1, 1) := by decide +kernel
theorem dX0_partsBeside_28 : decode cX0_partsBeside 28 = .ok (.invokevirtual 140, 3) := by decide +kernel
theorem dX0_partsBeside_31 : decode cX0_partsBeside 31 = .ok (.ifCond .eq 7, 3) := by decide +kernel
theorem dX0_partsBeside_34 : decode cX0_partsBeside 34 = .ok (.iload_n 1, 1) := by decide +kernel
theorem dX0_partsBeside_35 : decode cX0_partsBeside 35 = .ok (.iload_n 2, 1) := by decide +kernel
theorem dX0_partsBeside_36 : decode cX0_partsBeside 36 = .ok (.iadd, 1) := by decide +kernel
theorem dX0_partsBeside_37 : decode cX0_partsBeside 37 = .ok (.ireturn, 1) := by decide +kernel
theorem dX0_partsBeside_38 : decode cX0_partsBeside 38 = .ok (.iinc 2 1, 3) := by decide +kernel
theorem dX0_partsBeside_41 : decode cX0_partsBeside 41 = .ok (.goto (-39), 3) := by decide +kernel
theorem dX0_partsBeside_44 : decode cX0_partsBeside 44 = .ok (.bipush (-6), 2) := by decide +kernel
theorem dX0_partsBeside_46 : decode cX0_partsBeside 46 = .ok (.ireturn, 1) := by decide +kernel
set_option maxRecDepth 20000 in
theorem ggX0_standsIn_X0_isNoNumberOfParts : GoodIn wsX0_standsIn wsX0_isNoNumberOfParts := goodIn_r _ [9, 10, 11, 8, 12] (by decide +kernel) (by decide +kernel)
set_option maxRecDepth 20000 in
theorem gX0_standsIn_X0_isNoNumberOfParts : GoodIn wsX0_standsIn (va_wsS RX0 50 yX0_isNoNumberOfParts wsX0_isNoNumberOfParts) := goodIn_app (goodIn_of _ (by decide +kernel)) ggX0_standsIn_X0_isNoNumberOfParts
set_option maxRecDepth 20000 in
theorem ggX0_standsIn_X0_plainCircle : GoodIn wsX0_standsIn wsX0_plainCircle := goodIn_r _ [16, 17, 5, 18, 19, 20, 8, 21, 49, 50, 51, 52, 53, 54, 55, 56, 57] (by decide +kernel) (by decide +kernel)
set_option maxRecDepth 20000 in
theorem gX0_standsIn_X0_plainCircle : GoodIn wsX0_standsIn (wsV RX0 53 RX0 yX0_plainCircle wsX0_plainCircle) := goodIn_app (goodIn_of _ (by decide +kernel)) ggX0_standsIn_X0_plainCircle
set_option maxRecDepth 20000 in
theorem ggX0_standsIn_X0_findTrain : GoodIn wsX0_standsIn wsX0_findTrain := goodIn_r _ [25, 26, 27, 28, 8, 29, 30, 31, 19, 20, 21, 32, 33, 34, 35, 36, 37, 38, 39, 40, 41, 42, 43, 44, 45, 46, 47, 48, 49, 50, 51, 52, 53, 54, 55, 56, 57] (by decide +kernel) (by decide +kernel)
set_option maxRecDepth 20000 in
theorem gX0_standsIn_X0_findTrain : GoodIn wsX0_standsIn (wsV RX0 73 RX0 yX0_findTrain wsX0_findTrain) := goodIn_app (goodIn_of _ (by decide +kernel)) ggX0_standsIn_X0_findTrain
theorem dX0_standsIn_0 : decode cX0_standsIn 0 = .ok (.iload_n 1, 1) := by decide +kernel
theorem dX0_standsIn_1 : decode cX0_standsIn 1 = .ok (.invokestatic 50, 3) := by decide +kernel
theorem dX0_standsIn_4 : decode cX0_standsIn 4 = .ok (.ifCond .ne 38, 3) := by decide +kernel
theorem dX0_standsIn_7 : decode cX0_standsIn 7 = .ok (.aload_n 0, 1) := by decide +kernel
theorem dX0_standsIn_8 : decode cX0_standsIn 8 = .ok (.iload_n 1, 1) := by decide +kernel
theorem dX0_standsIn_9 : decode cX0_standsIn 9 = .ok (.invokevirtual 53, 3) := by decide +kernel
theorem dX0_standsIn_12 : decode cX0_standsIn 12 = .ok (.bipush (-6), 2) := by decide +kernel
theorem dX0_standsIn_14 : decode cX0_standsIn 14 = .ok (.if_icmp .eq 28, 3) := by decide +kernel
theorem dX0_standsIn_17 : decode cX0_standsIn 17 = .ok (.aload_n 0, 1) := by decide +kernel
theorem dX0_standsIn_18 : decode cX0_standsIn 18 = .ok (.iload_n 1, 1) := by decide +kernel
theorem dX0_standsIn_19 : decode cX0_standsIn 19 = .ok (.iload_n 2, 1) := by decide +kernel
theorem dX0_standsIn_20 : decode cX0_standsIn 20 = .ok (.isub, 1) := by decide +kernel
theorem dX0_standsIn_21 : decode cX0_standsIn 21 = .ok (.invokestatic 143, 3) := by decide +kernel
theorem dX0_standsIn_24 : decode cX0_standsIn 24 = .ok (.aload_n 0, 1) := by decide +kernel
theorem dX0_standsIn_25 : decode cX0_standsIn 25 = .ok (.getfield 22, 3) := by decide +kernel
theorem dX0_standsIn_28 : decode cX0_standsIn 28 = .ok (.imul, 1) := by decide +kernel
theorem dX0_standsIn_29 : decode cX0_standsIn 29 = .ok (.i2l, 1) := by decide +kernel
theorem dX0_standsIn_30 : decode cX0_standsIn 30 = .ok (.iload_n 1, 1) := by decide +kernel
theorem dX0_standsIn_31 : decode cX0_standsIn 31 = .ok (.i2l, 1) := by decide +kernel
theorem dX0_standsIn_32 : decode cX0_standsIn 32 = .ok (.invokevirtual 73, 3) := by decide +kernel
theorem dX0_standsIn_35 : decode cX0_standsIn 35 = .ok (.ifCond .eq 7, 3) := by decide +kernel
theorem dX0_standsIn_38 : decode cX0_standsIn 38 = .ok (.iconst 1, 1) := by decide +kernel
theorem dX0_standsIn_39 : decode cX0_standsIn 39 = .ok (.goto 4, 3) := by decide +kernel
theorem dX0_standsIn_42 : decode cX0_standsIn 42 = .ok (.iconst 0, 1) := by decide +kernel
theorem dX0_standsIn_43 : decode cX0_standsIn 43 = .ok (.ireturn, 1) := by decide +kernel
set_option maxRecDepth 20000 in
theorem ggX0_findTrain_X0_findTwoGears : GoodIn wsX0_findTrain wsX0_findTwoGears := goodIn_r _ [5, 6, 7, 8, 9, 4, 10, 11, 12, 13, 14, 15, 16, 17, 18, 19, 28, 29, 30, 31, 32, 33, 34, 35, 36] (by decide +kernel) (by decide +kernel)
set_option maxRecDepth 20000 in
theorem gX0_findTrain_X0_findTwoGears : GoodIn wsX0_findTrain (wsV RX0 146 RX0 yX0_findTwoGears wsX0_findTwoGears) := goodIn_app (goodIn_of _ (by decide +kernel)) ggX0_findTrain_X0_findTwoGears
set_option maxRecDepth 20000 in
theorem ggX0_findTrain_X0_findFourGears : GoodIn wsX0_findTrain wsX0_findFourGears := goodIn_r _ [23, 6, 24, 25, 26, 4, 27, 7, 8, 9, 10, 11, 12, 13, 14, 15, 16, 17, 18, 19, 28, 29, 30, 31, 32, 33, 34, 35, 36] (by decide +kernel) (by decide +kernel)
set_option maxRecDepth 20000 in
theorem gX0_findTrain_X0_findFourGears : GoodIn wsX0_findTrain (wsV RX0 149 RX0 yX0_findFourGears wsX0_findFourGears) := goodIn_app (goodIn_of _ (by decide +kernel)) ggX0_findTrain_X0_findFourGears
theorem dX0_findTrain_0 : decode cX0_findTrain 0 = .ok (.aload_n 0, 1) := by decide +kernel
theorem dX0_findTrain_1 : decode cX0_findTrain 1 = .ok (.lload_n 1, 1) := by decide +kernel
theorem dX0_findTrain_2 : decode cX0_findTrain 2 = .ok (.lload_n 3, 1) := by decide +kernel
theorem dX0_findTrain_3 : decode cX0_findTrain 3 = .ok (.invokevirtual 146, 3) := by decide +kernel
theorem dX0_findTrain_6 : decode cX0_findTrain 6 = .ok (.ifCond .ne 12, 3) := by decide +kernel
theorem dX0_findTrain_9 : decode cX0_findTrain 9 = .ok (.aload_n 0, 1) := by decide +kernel
theorem dX0_findTrain_10 : decode cX0_findTrain 10 = .ok (.lload_n 1, 1) := by decide +kernel
theorem dX0_findTrain_11 : decode cX0_findTrain 11 = .ok (.lload_n 3, 1) := by decide +kernel
theorem dX0_findTrain_12 : decode cX0_findTrain 12 = .ok (.invokevirtual 149, 3) := by decide +kernel
theorem dX0_findTrain_15 : decode cX0_findTrain 15 = .ok (.ifCond .eq 7, 3) := by decide +kernel
theorem dX0_findTrain_18 : decode cX0_findTrain 18 = .ok (.iconst 1, 1) := by decide +kernel
theorem dX0_findTrain_19 : decode cX0_findTrain 19 = .ok (.goto 4, 3) := by decide +kernel
theorem dX0_findTrain_22 : decode cX0_findTrain 22 = .ok (.iconst 0, 1) := by decide +kernel
theorem dX0_findTrain_23 : decode cX0_findTrain 23 = .ok (.ireturn, 1) := by decide +kernel
set_option maxRecDepth 20000 in
theorem ggX0_findTwoGears_X0_exactQuotient : GoodIn wsX0_findTwoGears wsX0_exactQuotient := goodIn_r _ [6] (by decide +kernel) (by decide +kernel)
set_option maxRecDepth 20000 in
theorem gX0_findTwoGears_X0_exactQuotient : GoodIn wsX0_findTwoGears (va_wsS RX0 133 yX0_exactQuotient wsX0_exactQuotient) := goodIn_app (goodIn_of _ (by decide +kernel)) ggX0_findTwoGears_X0_exactQuotient
set_option maxRecDepth 20000 in
theorem ggX0_findTwoGears_X0_gearWith : GoodIn wsX0_findTwoGears wsX0_gearWith := goodIn_r _ [10, 1, 2, 16, 17, 18, 19, 20, 21, 22, 23, 24] (by decide +kernel) (by decide +kernel)
set_option maxRecDepth 20000 in
theorem gX0_findTwoGears_X0_gearWith : GoodIn wsX0_findTwoGears (wsV RX0 152 RX0 yX0_gearWith wsX0_gearWith) := goodIn_app (goodIn_of _ (by decide +kernel)) ggX0_findTwoGears_X0_gearWith
set_option maxRecDepth 20000 in
theorem ggX0_findTwoGears_X0_keepTrain : GoodIn wsX0_findTwoGears wsX0_keepTrain := goodIn_r _ [14, 15, 16, 17, 18, 19, 20, 21, 22, 23, 24] (by decide +kernel) (by decide +kernel)
set_option maxRecDepth 20000 in
theorem gX0_findTwoGears_X0_keepTrain : GoodIn wsX0_findTwoGears (wsV RX0 156 RX0 yX0_keepTrain wsX0_keepTrain) := goodIn_app (goodIn_of _ (by decide +kernel)) ggX0_findTwoGears_X0_keepTrain
theorem dX0_findTwoGears_0 : decode cX0_findTwoGears 0 = .ok (.iconst 0, 1) := by decide +kernel
theorem dX0_findTwoGears_1 : decode cX0_findTwoGears 1 = .ok (.istore 5, 2) := by decide +kernel
theorem dX0_findTwoGears_3 : decode cX0_findTwoGears 3 = .ok (.iload 5, 2) := by decide +kernel
theorem dX0_findTwoGears_5 : decode cX0_findTwoGears 5 = .ok (.aload_n 0, 1) := by decide +kernel
theorem dX0_findTwoGears_6 : decode cX0_findTwoGears 6 = .ok (.getfield 47, 3) := by decide +kernel
theorem dX0_findTwoGears_9 : decode cX0_findTwoGears 9 = .ok (.if_icmp .ge 55, 3) := by decide +kernel
theorem dX0_findTwoGears_12 : decode cX0_findTwoGears 12 = .ok (.aload_n 0, 1) := by decide +kernel
theorem dX0_findTwoGears_13 : decode cX0_findTwoGears 13 = .ok (.aload_n 0, 1) := by decide +kernel
theorem dX0_findTwoGears_14 : decode cX0_findTwoGears 14 = .ok (.getfield 13, 3) := by decide +kernel
theorem dX0_findTwoGears_17 : decode cX0_findTwoGears 17 = .ok (.iload 5, 2) := by decide +kernel
theorem dX0_findTwoGears_19 : decode cX0_findTwoGears 19 = .ok (.iaload, 1) := by decide +kernel
theorem dX0_findTwoGears_20 : decode cX0_findTwoGears 20 = .ok (.i2l, 1) := by decide +kernel
theorem dX0_findTwoGears_21 : decode cX0_findTwoGears 21 = .ok (.lload_n 3, 1) := by decide +kernel
theorem dX0_findTwoGears_22 : decode cX0_findTwoGears 22 = .ok (.lmul, 1) := by decide +kernel
theorem dX0_findTwoGears_23 : decode cX0_findTwoGears 23 = .ok (.lload_n 1, 1) := by decide +kernel
theorem dX0_findTwoGears_24 : decode cX0_findTwoGears 24 = .ok (.invokestatic 133, 3) := by decide +kernel
theorem dX0_findTwoGears_27 : decode cX0_findTwoGears 27 = .ok (.iload 5, 2) := by decide +kernel
theorem dX0_findTwoGears_29 : decode cX0_findTwoGears 29 = .ok (.iload 5, 2) := by decide +kernel
theorem dX0_findTwoGears_31 : decode cX0_findTwoGears 31 = .ok (.iload 5, 2) := by decide +kernel
theorem dX0_findTwoGears_33 : decode cX0_findTwoGears 33 = .ok (.invokevirtual 152, 3) := by decide +kernel
theorem dX0_findTwoGears_36 : decode cX0_findTwoGears 36 = .ok (.istore 6, 2) := by decide +kernel
theorem dX0_findTwoGears_38 : decode cX0_findTwoGears 38 = .ok (.iload 6, 2) := by decide +kernel
theorem dX0_findTwoGears_40 : decode cX0_findTwoGears 40 = .ok (.bipush (-6), 2) := by decide +kernel
theorem dX0_findTwoGears_42 : decode cX0_findTwoGears 42 = .ok (.if_icmp .eq 16, 3) := by decide +kernel
theorem dX0_findTwoGears_45 : decode cX0_findTwoGears 45 = .ok (.aload_n 0, 1) := by decide +kernel
theorem dX0_findTwoGears_46 : decode cX0_findTwoGears 46 = .ok (.iload 5, 2) := by decide +kernel
theorem dX0_findTwoGears_48 : decode cX0_findTwoGears 48 = .ok (.iload 6, 2) := by decide +kernel
theorem dX0_findTwoGears_50 : decode cX0_findTwoGears 50 = .ok (.bipush (-6), 2) := by decide +kernel
theorem dX0_findTwoGears_52 : decode cX0_findTwoGears 52 = .ok (.bipush (-6), 2) := by decide +kernel
theorem dX0_findTwoGears_54 : decode cX0_findTwoGears 54 = .ok (.invokevirtual 156, 3) := by decide +kernel
theorem dX0_findTwoGears_57 : decode cX0_findTwoGears 57 = .ok (.ireturn, 1) := by decide +kernel
theorem dX0_findTwoGears_58 : decode cX0_findTwoGears 58 = .ok (.iinc 5 1, 3) := by decide +kernel
theorem dX0_findTwoGears_61 : decode cX0_findTwoGears 61 = .ok (.goto (-58), 3) := by decide +kernel
theorem dX0_findTwoGears_64 : decode cX0_findTwoGears 64 = .ok (.iconst 0, 1) := by decide +kernel
theorem dX0_findTwoGears_65 : decode cX0_findTwoGears 65 = .ok (.ireturn, 1) := by decide +kernel
set_option maxRecDepth 20000 in
theorem ggX0_findFourGears_X0_findSecondPair : GoodIn wsX0_findFourGears wsX0_findSecondPair := goodIn_r _ [6, 1, 7, 8, 9, 5, 10, 11, 12, 13, 14, 15, 16, 17, 18, 19, 20, 21, 22, 23, 24, 25, 26, 27, 28] (by decide +kernel) (by decide +kernel)
set_option maxRecDepth 20000 in
theorem gX0_findFourGears_X0_findSecondPair : GoodIn wsX0_findFourGears (wsV RX0 160 RX0 yX0_findSecondPair wsX0_findSecondPair) := goodIn_app (goodIn_of _ (by decide +kernel)) ggX0_findFourGears_X0_findSecondPair
theorem dX0_findFourGears_0 : decode cX0_findFourGears 0 = .ok (.iconst 0, 1) := by decide +kernel
theorem dX0_findFourGears_1 : decode cX0_findFourGears 1 = .ok (.istore 5, 2) := by decide +kernel
theorem dX0_findFourGears_3 : decode cX0_findFourGears 3 = .ok (.iload 5, 2) := by decide +kernel
theorem dX0_findFourGears_5 : decode cX0_findFourGears 5 = .ok (.aload_n 0, 1) := by decide +kernel
theorem dX0_findFourGears_6 : decode cX0_findFourGears 6 = .ok (.getfield 47, 3) := by decide +kernel
theorem dX0_findFourGears_9 : decode cX0_findFourGears 9 = .ok (.if_icmp .ge 49, 3) := by decide +kernel
theorem dX0_findFourGears_12 : decode cX0_findFourGears 12 = .ok (.iconst 0, 1) := by decide +kernel
theorem dX0_findFourGears_13 : decode cX0_findFourGears 13 = .ok (.istore 6, 2) := by decide +kernel
theorem dX0_findFourGears_15 : decode cX0_findFourGears 15 = .ok (.iload 6, 2) := by decide +kernel
theorem dX0_findFourGears_17 : decode cX0_findFourGears 17 = .ok (.aload_n 0, 1) := by decide +kernel
theorem dX0_findFourGears_18 : decode cX0_findFourGears 18 = .ok (.getfield 47, 3) := by decide +kernel
theorem dX0_findFourGears_21 : decode cX0_findFourGears 21 = .ok (.if_icmp .ge 31, 3) := by decide +kernel
theorem dX0_findFourGears_24 : decode cX0_findFourGears 24 = .ok (.iload 6, 2) := by decide +kernel
theorem dX0_findFourGears_26 : decode cX0_findFourGears 26 = .ok (.iload 5, 2) := by decide +kernel
theorem dX0_findFourGears_28 : decode cX0_findFourGears 28 = .ok (.if_icmp .eq 18, 3) := by decide +kernel
theorem dX0_findFourGears_31 : decode cX0_findFourGears 31 = .ok (.aload_n 0, 1) := by decide +kernel
theorem dX0_findFourGears_32 : decode cX0_findFourGears 32 = .ok (.iload 5, 2) := by decide +kernel
theorem dX0_findFourGears_34 : decode cX0_findFourGears 34 = .ok (.iload 6, 2) := by decide +kernel
theorem dX0_findFourGears_36 : decode cX0_findFourGears 36 = .ok (.lload_n 1, 1) := by decide +kernel
theorem dX0_findFourGears_37 : decode cX0_findFourGears 37 = .ok (.lload_n 3, 1) := by decide +kernel
theorem dX0_findFourGears_38 : decode cX0_findFourGears 38 = .ok (.invokevirtual 160, 3) := by decide +kernel
theorem dX0_findFourGears_41 : decode cX0_findFourGears 41 = .ok (.ifCond .eq 5, 3) := by decide +kernel
theorem dX0_findFourGears_44 : decode cX0_findFourGears 44 = .ok (.iconst 1, 1) := by decide +kernel
theorem dX0_findFourGears_45 : decode cX0_findFourGears 45 = .ok (.ireturn, 1) := by decide +kernel
theorem dX0_findFourGears_46 : decode cX0_findFourGears 46 = .ok (.iinc 6 1, 3) := by decide +kernel
theorem dX0_findFourGears_49 : decode cX0_findFourGears 49 = .ok (.goto (-34), 3) := by decide +kernel
theorem dX0_findFourGears_52 : decode cX0_findFourGears 52 = .ok (.iinc 5 1, 3) := by decide +kernel
theorem dX0_findFourGears_55 : decode cX0_findFourGears 55 = .ok (.goto (-52), 3) := by decide +kernel
theorem dX0_findFourGears_58 : decode cX0_findFourGears 58 = .ok (.iconst 0, 1) := by decide +kernel
theorem dX0_findFourGears_59 : decode cX0_findFourGears 59 = .ok (.ireturn, 1) := by decide +kernel
set_option maxRecDepth 20000 in
theorem ggX0_findSecondPair_X0_exactQuotient : GoodIn wsX0_findSecondPair wsX0_exactQuotient := goodIn_r _ [6] (by decide +kernel) (by decide +kernel)
set_option maxRecDepth 20000 in
theorem gX0_findSecondPair_X0_exactQuotient : GoodIn wsX0_findSecondPair (va_wsS RX0 133 yX0_exactQuotient wsX0_exactQuotient) := goodIn_app (goodIn_of _ (by decide +kernel)) ggX0_findSecondPair_X0_exactQuotient
set_option maxRecDepth 20000 in
theorem ggX0_findSecondPair_X0_gearWith : GoodIn wsX0_findSecondPair wsX0_gearWith := goodIn_r _ [10, 1, 2, 16, 17, 18, 19, 20, 21, 22, 23, 24] (by decide +kernel) (by decide +kernel)
set_option maxRecDepth 20000 in
theorem gX0_findSecondPair_X0_gearWith : GoodIn wsX0_findSecondPair (wsV RX0 152 RX0 yX0_gearWith wsX0_gearWith) := goodIn_app (goodIn_of _ (by decide +kernel)) ggX0_findSecondPair_X0_gearWith
set_option maxRecDepth 20000 in
theorem ggX0_findSecondPair_X0_keepTrain : GoodIn wsX0_findSecondPair wsX0_keepTrain := goodIn_r _ [14, 15, 16, 17, 18, 19, 20, 21, 22, 23, 24] (by decide +kernel) (by decide +kernel)
set_option maxRecDepth 20000 in
theorem gX0_findSecondPair_X0_keepTrain : GoodIn wsX0_findSecondPair (wsV RX0 156 RX0 yX0_keepTrain wsX0_keepTrain) := goodIn_app (goodIn_of _ (by decide +kernel)) ggX0_findSecondPair_X0_keepTrain
theorem dX0_findSecondPair_0 : decode cX0_findSecondPair 0 = .ok (.iconst 0, 1) := by decide +kernel
theorem dX0_findSecondPair_1 : decode cX0_findSecondPair 1 = .ok (.istore 7, 2) := by decide +kernel
theorem dX0_findSecondPair_3 : decode cX0_findSecondPair 3 = .ok (.iload 7, 2) := by decide +kernel
theorem dX0_findSecondPair_5 : decode cX0_findSecondPair 5 = .ok (.aload_n 0, 1) := by decide +kernel
theorem dX0_findSecondPair_6 : decode cX0_findSecondPair 6 = .ok (.getfield 47, 3) := by decide +kernel
theorem dX0_findSecondPair_9 : decode cX0_findSecondPair 9 = .ok (.if_icmp .ge 83, 3) := by decide +kernel
theorem dX0_findSecondPair_12 : decode cX0_findSecondPair 12 = .ok (.iload 7, 2) := by decide +kernel
theorem dX0_findSecondPair_14 : decode cX0_findSecondPair 14 = .ok (.iload_n 1, 1) := by decide +kernel
theorem dX0_findSecondPair_15 : decode cX0_findSecondPair 15 = .ok (.if_icmp .eq 71, 3) := by decide +kernel
theorem dX0_findSecondPair_18 : decode cX0_findSecondPair 18 = .ok (.iload 7, 2) := by decide +kernel
theorem dX0_findSecondPair_20 : decode cX0_findSecondPair 20 = .ok (.iload_n 2, 1) := by decide +kernel
theorem dX0_findSecondPair_21 : decode cX0_findSecondPair 21 = .ok (.if_icmp .eq 65, 3) := by decide +kernel
theorem dX0_findSecondPair_24 : decode cX0_findSecondPair 24 = .ok (.aload_n 0, 1) := by decide +kernel
theorem dX0_findSecondPair_25 : decode cX0_findSecondPair 25 = .ok (.getfield 13, 3) := by decide +kernel
theorem dX0_findSecondPair_28 : decode cX0_findSecondPair 28 = .ok (.iload_n 1, 1) := by decide +kernel
theorem dX0_findSecondPair_29 : decode cX0_findSecondPair 29 = .ok (.iaload, 1) := by decide +kernel
theorem dX0_findSecondPair_30 : decode cX0_findSecondPair 30 = .ok (.aload_n 0, 1) := by decide +kernel
theorem dX0_findSecondPair_31 : decode cX0_findSecondPair 31 = .ok (.getfield 13, 3) := by decide +kernel
theorem dX0_findSecondPair_34 : decode cX0_findSecondPair 34 = .ok (.iload 7, 2) := by decide +kernel
theorem dX0_findSecondPair_36 : decode cX0_findSecondPair 36 = .ok (.iaload, 1) := by decide +kernel
theorem dX0_findSecondPair_37 : decode cX0_findSecondPair 37 = .ok (.imul, 1) := by decide +kernel
theorem dX0_findSecondPair_38 : decode cX0_findSecondPair 38 = .ok (.i2l, 1) := by decide +kernel
theorem dX0_findSecondPair_39 : decode cX0_findSecondPair 39 = .ok (.lload 5, 2) := by decide +kernel
theorem dX0_findSecondPair_41 : decode cX0_findSecondPair 41 = .ok (.lmul, 1) := by decide +kernel
theorem dX0_findSecondPair_42 : decode cX0_findSecondPair 42 = .ok (.lstore 8, 2) := by decide +kernel
theorem dX0_findSecondPair_44 : decode cX0_findSecondPair 44 = .ok (.aload_n 0, 1) := by decide +kernel
theorem dX0_findSecondPair_45 : decode cX0_findSecondPair 45 = .ok (.lload 8, 2) := by decide +kernel
theorem dX0_findSecondPair_47 : decode cX0_findSecondPair 47 = .ok (.aload_n 0, 1) := by decide +kernel
theorem dX0_findSecondPair_48 : decode cX0_findSecondPair 48 = .ok (.getfield 13, 3) := by decide +kernel
theorem dX0_findSecondPair_51 : decode cX0_findSecondPair 51 = .ok (.iload_n 2, 1) := by decide +kernel
theorem dX0_findSecondPair_52 : decode cX0_findSecondPair 52 = .ok (.iaload, 1) := by decide +kernel
theorem dX0_findSecondPair_53 : decode cX0_findSecondPair 53 = .ok (.i2l, 1) := by decide +kernel
theorem dX0_findSecondPair_54 : decode cX0_findSecondPair 54 = .ok (.lload_n 3, 1) := by decide +kernel
theorem dX0_findSecondPair_55 : decode cX0_findSecondPair 55 = .ok (.lmul, 1) := by decide +kernel
theorem dX0_findSecondPair_56 : decode cX0_findSecondPair 56 = .ok (.invokestatic 133, 3) := by decide +kernel
theorem dX0_findSecondPair_59 : decode cX0_findSecondPair 59 = .ok (.iload_n 1, 1) := by decide +kernel
theorem dX0_findSecondPair_60 : decode cX0_findSecondPair 60 = .ok (.iload_n 2, 1) := by decide +kernel
theorem dX0_findSecondPair_61 : decode cX0_findSecondPair 61 = .ok (.iload 7, 2) := by decide +kernel
theorem dX0_findSecondPair_63 : decode cX0_findSecondPair 63 = .ok (.invokevirtual 152, 3) := by decide +kernel
theorem dX0_findSecondPair_66 : decode cX0_findSecondPair 66 = .ok (.istore 10, 2) := by decide +kernel
theorem dX0_findSecondPair_68 : decode cX0_findSecondPair 68 = .ok (.iload 10, 2) := by decide +kernel
theorem dX0_findSecondPair_70 : decode cX0_findSecondPair 70 = .ok (.bipush (-6), 2) := by decide +kernel
theorem dX0_findSecondPair_72 : decode cX0_findSecondPair 72 = .ok (.if_icmp .eq 14, 3) := by decide +kernel
theorem dX0_findSecondPair_75 : decode cX0_findSecondPair 75 = .ok (.aload_n 0, 1) := by decide +kernel
theorem dX0_findSecondPair_76 : decode cX0_findSecondPair 76 = .ok (.iload_n 1, 1) := by decide +kernel
theorem dX0_findSecondPair_77 : decode cX0_findSecondPair 77 = .ok (.iload_n 2, 1) := by decide +kernel
theorem dX0_findSecondPair_78 : decode cX0_findSecondPair 78 = .ok (.iload 7, 2) := by decide +kernel
theorem dX0_findSecondPair_80 : decode cX0_findSecondPair 80 = .ok (.iload 10, 2) := by decide +kernel
theorem dX0_findSecondPair_82 : decode cX0_findSecondPair 82 = .ok (.invokevirtual 156, 3) := by decide +kernel
theorem dX0_findSecondPair_85 : decode cX0_findSecondPair 85 = .ok (.ireturn, 1) := by decide +kernel
theorem dX0_findSecondPair_86 : decode cX0_findSecondPair 86 = .ok (.iinc 7 1, 3) := by decide +kernel
theorem dX0_findSecondPair_89 : decode cX0_findSecondPair 89 = .ok (.goto (-86), 3) := by decide +kernel
theorem dX0_findSecondPair_92 : decode cX0_findSecondPair 92 = .ok (.iconst 0, 1) := by decide +kernel
theorem dX0_findSecondPair_93 : decode cX0_findSecondPair 93 = .ok (.ireturn, 1) := by decide +kernel
theorem dX0_gearWith_0 : decode cX0_gearWith 0 = .ok (.iconst 0, 1) := by decide +kernel
theorem dX0_gearWith_1 : decode cX0_gearWith 1 = .ok (.istore 6, 2) := by decide +kernel
theorem dX0_gearWith_3 : decode cX0_gearWith 3 = .ok (.iload 6, 2) := by decide +kernel
theorem dX0_gearWith_5 : decode cX0_gearWith 5 = .ok (.aload_n 0, 1) := by decide +kernel
theorem dX0_gearWith_6 : decode cX0_gearWith 6 = .ok (.getfield 47, 3) := by decide +kernel
theorem dX0_gearWith_9 : decode cX0_gearWith 9 = .ok (.if_icmp .ge 45, 3) := by decide +kernel
theorem dX0_gearWith_12 : decode cX0_gearWith 12 = .ok (.aload_n 0, 1) := by decide +kernel
theorem dX0_gearWith_13 : decode cX0_gearWith 13 = .ok (.getfield 13, 3) := by decide +kernel
theorem dX0_gearWith_16 : decode cX0_gearWith 16 = .ok (.iload 6, 2) := by decide +kernel
theorem dX0_gearWith_18 : decode cX0_gearWith 18 = .ok (.iaload, 1) := by decide +kernel
theorem dX0_gearWith_19 : decode cX0_gearWith 19 = .ok (.i2l, 1) := by decide +kernel
theorem dX0_gearWith_20 : decode cX0_gearWith 20 = .ok (.lload_n 1, 1) := by decide +kernel
theorem dX0_gearWith_21 : decode cX0_gearWith 21 = .ok (.lcmp, 1) := by decide +kernel
theorem dX0_gearWith_22 : decode cX0_gearWith 22 = .ok (.ifCond .ne 26, 3) := by decide +kernel
theorem dX0_gearWith_25 : decode cX0_gearWith 25 = .ok (.iload 6, 2) := by decide +kernel
theorem dX0_gearWith_27 : decode cX0_gearWith 27 = .ok (.iload_n 3, 1) := by decide +kernel
theorem dX0_gearWith_28 : decode cX0_gearWith 28 = .ok (.if_icmp .eq 20, 3) := by decide +kernel
theorem dX0_gearWith_31 : decode cX0_gearWith 31 = .ok (.iload 6, 2) := by decide +kernel
theorem dX0_gearWith_33 : decode cX0_gearWith 33 = .ok (.iload 4, 2) := by decide +kernel
theorem dX0_gearWith_35 : decode cX0_gearWith 35 = .ok (.if_icmp .eq 13, 3) := by decide +kernel
theorem dX0_gearWith_38 : decode cX0_gearWith 38 = .ok (.iload 6, 2) := by decide +kernel
theorem dX0_gearWith_40 : decode cX0_gearWith 40 = .ok (.iload 5, 2) := by decide +kernel
theorem dX0_gearWith_42 : decode cX0_gearWith 42 = .ok (.if_icmp .eq 6, 3) := by decide +kernel
theorem dX0_gearWith_45 : decode cX0_gearWith 45 = .ok (.iload 6, 2) := by decide +kernel
theorem dX0_gearWith_47 : decode cX0_gearWith 47 = .ok (.ireturn, 1) := by decide +kernel
theorem dX0_gearWith_48 : decode cX0_gearWith 48 = .ok (.iinc 6 1, 3) := by decide +kernel
theorem dX0_gearWith_51 : decode cX0_gearWith 51 = .ok (.goto (-48), 3) := by decide +kernel
theorem dX0_gearWith_54 : decode cX0_gearWith 54 = .ok (.bipush (-6), 2) := by decide +kernel
theorem dX0_gearWith_56 : decode cX0_gearWith 56 = .ok (.ireturn, 1) := by decide +kernel
theorem dX0_keepTrain_0 : decode cX0_keepTrain 0 = .ok (.aload_n 0, 1) := by decide +kernel
theorem dX0_keepTrain_1 : decode cX0_keepTrain 1 = .ok (.getfield 19, 3) := by decide +kernel
theorem dX0_keepTrain_4 : decode cX0_keepTrain 4 = .ok (.iconst 0, 1) := by decide +kernel
theorem dX0_keepTrain_5 : decode cX0_keepTrain 5 = .ok (.iload_n 1, 1) := by decide +kernel
theorem dX0_keepTrain_6 : decode cX0_keepTrain 6 = .ok (.iastore, 1) := by decide +kernel
theorem dX0_keepTrain_7 : decode cX0_keepTrain 7 = .ok (.aload_n 0, 1) := by decide +kernel
theorem dX0_keepTrain_8 : decode cX0_keepTrain 8 = .ok (.getfield 19, 3) := by decide +kernel
theorem dX0_keepTrain_11 : decode cX0_keepTrain 11 = .ok (.iconst 1, 1) := by decide +kernel
theorem dX0_keepTrain_12 : decode cX0_keepTrain 12 = .ok (.iload_n 2, 1) := by decide +kernel
theorem dX0_keepTrain_13 : decode cX0_keepTrain 13 = .ok (.iastore, 1) := by decide +kernel
theorem dX0_keepTrain_14 : decode cX0_keepTrain 14 = .ok (.aload_n 0, 1) := by decide +kernel
theorem dX0_keepTrain_15 : decode cX0_keepTrain 15 = .ok (.getfield 19, 3) := by decide +kernel
theorem dX0_keepTrain_18 : decode cX0_keepTrain 18 = .ok (.iconst 2, 1) := by decide +kernel
theorem dX0_keepTrain_19 : decode cX0_keepTrain 19 = .ok (.iload_n 3, 1) := by decide +kernel
theorem dX0_keepTrain_20 : decode cX0_keepTrain 20 = .ok (.iastore, 1) := by decide +kernel
theorem dX0_keepTrain_21 : decode cX0_keepTrain 21 = .ok (.aload_n 0, 1) := by decide +kernel
theorem dX0_keepTrain_22 : decode cX0_keepTrain 22 = .ok (.getfield 19, 3) := by decide +kernel
theorem dX0_keepTrain_25 : decode cX0_keepTrain 25 = .ok (.iconst 3, 1) := by decide +kernel
theorem dX0_keepTrain_26 : decode cX0_keepTrain 26 = .ok (.iload 4, 2) := by decide +kernel
theorem dX0_keepTrain_28 : decode cX0_keepTrain 28 = .ok (.iastore, 1) := by decide +kernel
theorem dX0_keepTrain_29 : decode cX0_keepTrain 29 = .ok (.iconst 1, 1) := by decide +kernel
theorem dX0_keepTrain_30 : decode cX0_keepTrain 30 = .ok (.ireturn, 1) := by decide +kernel
set_option maxRecDepth 20000 in
theorem ggX0_nearestHole_X0_nearestOrGreater : GoodIn wsX0_nearestHole wsX0_nearestOrGreater := goodIn_r _ [5, 6] (by decide +kernel) (by decide +kernel)
set_option maxRecDepth 20000 in
theorem gX0_nearestHole_X0_nearestOrGreater : GoodIn wsX0_nearestHole (va_wsS RX0 164 yX0_nearestOrGreater wsX0_nearestOrGreater) := goodIn_app (goodIn_of _ (by decide +kernel)) ggX0_nearestHole_X0_nearestOrGreater
theorem dX0_nearestHole_0 : decode cX0_nearestHole 0 = .ok (.iload_n 3, 1) := by decide +kernel
theorem dX0_nearestHole_1 : decode cX0_nearestHole 1 = .ok (.aload_n 0, 1) := by decide +kernel
theorem dX0_nearestHole_2 : decode cX0_nearestHole 2 = .ok (.getfield 22, 3) := by decide +kernel
theorem dX0_nearestHole_5 : decode cX0_nearestHole 5 = .ok (.imul, 1) := by decide +kernel
theorem dX0_nearestHole_6 : decode cX0_nearestHole 6 = .ok (.iload_n 1, 1) := by decide +kernel
theorem dX0_nearestHole_7 : decode cX0_nearestHole 7 = .ok (.imul, 1) := by decide +kernel
theorem dX0_nearestHole_8 : decode cX0_nearestHole 8 = .ok (.i2l, 1) := by decide +kernel
theorem dX0_nearestHole_9 : decode cX0_nearestHole 9 = .ok (.iload_n 2, 1) := by decide +kernel
theorem dX0_nearestHole_10 : decode cX0_nearestHole 10 = .ok (.i2l, 1) := by decide +kernel
theorem dX0_nearestHole_11 : decode cX0_nearestHole 11 = .ok (.invokestatic 164, 3) := by decide +kernel
theorem dX0_nearestHole_14 : decode cX0_nearestHole 14 = .ok (.l2i, 1) := by decide +kernel
theorem dX0_nearestHole_15 : decode cX0_nearestHole 15 = .ok (.ireturn, 1) := by decide +kernel
set_option maxRecDepth 20000 in
theorem ggX0_missUpper_X0_nearestHole : GoodIn wsX0_missUpper wsX0_nearestHole := goodIn_r _ [6, 1, 7, 8, 5, 9, 10, 11, 12, 13, 14, 15, 16, 17, 18, 19] (by decide +kernel) (by decide +kernel)
set_option maxRecDepth 20000 in
theorem gX0_missUpper_X0_nearestHole : GoodIn wsX0_missUpper (wsV RX0 77 RX0 yX0_nearestHole wsX0_nearestHole) := goodIn_app (goodIn_of _ (by decide +kernel)) ggX0_missUpper_X0_nearestHole
theorem dX0_missUpper_0 : decode cX0_missUpper 0 = .ok (.aload_n 0, 1) := by decide +kernel
theorem dX0_missUpper_1 : decode cX0_missUpper 1 = .ok (.iload_n 1, 1) := by decide +kernel
theorem dX0_missUpper_2 : decode cX0_missUpper 2 = .ok (.iload_n 2, 1) := by decide +kernel
theorem dX0_missUpper_3 : decode cX0_missUpper 3 = .ok (.iload_n 3, 1) := by decide +kernel
theorem dX0_missUpper_4 : decode cX0_missUpper 4 = .ok (.invokevirtual 77, 3) := by decide +kernel
theorem dX0_missUpper_7 : decode cX0_missUpper 7 = .ok (.iload_n 2, 1) := by decide +kernel
theorem dX0_missUpper_8 : decode cX0_missUpper 8 = .ok (.imul, 1) := by decide +kernel
theorem dX0_missUpper_9 : decode cX0_missUpper 9 = .ok (.iload_n 3, 1) := by decide +kernel
theorem dX0_missUpper_10 : decode cX0_missUpper 10 = .ok (.aload_n 0, 1) := by decide +kernel
theorem dX0_missUpper_11 : decode cX0_missUpper 11 = .ok (.getfield 22, 3) := by decide +kernel
theorem dX0_missUpper_14 : decode cX0_missUpper 14 = .ok (.imul, 1) := by decide +kernel
theorem dX0_missUpper_15 : decode cX0_missUpper 15 = .ok (.iload_n 1, 1) := by decide +kernel
theorem dX0_missUpper_16 : decode cX0_missUpper 16 = .ok (.imul, 1) := by decide +kernel
theorem dX0_missUpper_17 : decode cX0_missUpper 17 = .ok (.isub, 1) := by decide +kernel
theorem dX0_missUpper_18 : decode cX0_missUpper 18 = .ok (.ireturn, 1) := by decide +kernel
set_option maxRecDepth 20000 in
theorem ggX0_worstUpper_X0_missUpper : GoodIn wsX0_worstUpper wsX0_missUpper := goodIn_r _ [12, 13, 14, 15, 16, 11, 17, 18, 19, 20, 21, 22, 23, 24, 25, 26, 27, 28, 29, 30] (by decide +kernel) (by decide +kernel)
set_option maxRecDepth 20000 in
theorem gX0_worstUpper_X0_missUpper : GoodIn wsX0_worstUpper (wsV RX0 81 RX0 yX0_missUpper wsX0_missUpper) := goodIn_app (goodIn_of _ (by decide +kernel)) ggX0_worstUpper_X0_missUpper
theorem dX0_worstUpper_0 : decode cX0_worstUpper 0 = .ok (.iconst 0, 1) := by decide +kernel
theorem dX0_worstUpper_1 : decode cX0_worstUpper 1 = .ok (.istore_n 3, 1) := by decide +kernel
theorem dX0_worstUpper_2 : decode cX0_worstUpper 2 = .ok (.iconst 0, 1) := by decide +kernel
theorem dX0_worstUpper_3 : decode cX0_worstUpper 3 = .ok (.istore 4, 2) := by decide +kernel
theorem dX0_worstUpper_5 : decode cX0_worstUpper 5 = .ok (.iload 4, 2) := by decide +kernel
theorem dX0_worstUpper_7 : decode cX0_worstUpper 7 = .ok (.iload_n 2, 1) := by decide +kernel
theorem dX0_worstUpper_8 : decode cX0_worstUpper 8 = .ok (.if_icmp .gt 25, 3) := by decide +kernel
theorem dX0_worstUpper_11 : decode cX0_worstUpper 11 = .ok (.iload_n 3, 1) := by decide +kernel
theorem dX0_worstUpper_12 : decode cX0_worstUpper 12 = .ok (.aload_n 0, 1) := by decide +kernel
theorem dX0_worstUpper_13 : decode cX0_worstUpper 13 = .ok (.iload_n 1, 1) := by decide +kernel
theorem dX0_worstUpper_14 : decode cX0_worstUpper 14 = .ok (.iload_n 2, 1) := by decide +kernel
theorem dX0_worstUpper_15 : decode cX0_worstUpper 15 = .ok (.iload 4, 2) := by decide +kernel
theorem dX0_worstUpper_17 : decode cX0_worstUpper 17 = .ok (.invokevirtual 81, 3) := by decide +kernel
theorem dX0_worstUpper_20 : decode cX0_worstUpper 20 = .ok (.invokestatic 143, 3) := by decide +kernel
theorem dX0_worstUpper_23 : decode cX0_worstUpper 23 = .ok (.invokestatic 167, 3) := by decide +kernel
theorem dX0_worstUpper_26 : decode cX0_worstUpper 26 = .ok (.istore_n 3, 1) := by decide +kernel
theorem dX0_worstUpper_27 : decode cX0_worstUpper 27 = .ok (.iinc 4 1, 3) := by decide +kernel
theorem dX0_worstUpper_30 : decode cX0_worstUpper 30 = .ok (.goto (-25), 3) := by decide +kernel
theorem dX0_worstUpper_33 : decode cX0_worstUpper 33 = .ok (.iload_n 3, 1) := by decide +kernel
theorem dX0_worstUpper_34 : decode cX0_worstUpper 34 = .ok (.ireturn, 1) := by decide +kernel
set_option maxRecDepth 20000 in
theorem ggX0_exactCuts_X0_missUpper : GoodIn wsX0_exactCuts wsX0_missUpper := goodIn_r _ [5, 6, 7, 8, 9, 4, 10, 11, 12, 13, 14, 15, 16, 17, 18, 19, 20, 21, 22, 23] (by decide +kernel) (by decide +kernel)
set_option maxRecDepth 20000 in
theorem gX0_exactCuts_X0_missUpper : GoodIn wsX0_exactCuts (wsV RX0 81 RX0 yX0_missUpper wsX0_missUpper) := goodIn_app (goodIn_of _ (by decide +kernel)) ggX0_exactCuts_X0_missUpper
theorem dX0_exactCuts_0 : decode cX0_exactCuts 0 = .ok (.iconst 0, 1) := by decide +kernel
theorem dX0_exactCuts_1 : decode cX0_exactCuts 1 = .ok (.istore_n 3, 1) := by decide +kernel
theorem dX0_exactCuts_2 : decode cX0_exactCuts 2 = .ok (.iconst 0, 1) := by decide +kernel
theorem dX0_exactCuts_3 : decode cX0_exactCuts 3 = .ok (.istore 4, 2) := by decide +kernel
theorem dX0_exactCuts_5 : decode cX0_exactCuts 5 = .ok (.iload 4, 2) := by decide +kernel
theorem dX0_exactCuts_7 : decode cX0_exactCuts 7 = .ok (.iload_n 2, 1) := by decide +kernel
theorem dX0_exactCuts_8 : decode cX0_exactCuts 8 = .ok (.if_icmp .ge 23, 3) := by decide +kernel
theorem dX0_exactCuts_11 : decode cX0_exactCuts 11 = .ok (.aload_n 0, 1) := by decide +kernel
theorem dX0_exactCuts_12 : decode cX0_exactCuts 12 = .ok (.iload_n 1, 1) := by decide +kernel
theorem dX0_exactCuts_13 : decode cX0_exactCuts 13 = .ok (.iload_n 2, 1) := by decide +kernel
theorem dX0_exactCuts_14 : decode cX0_exactCuts 14 = .ok (.iload 4, 2) := by decide +kernel
theorem dX0_exactCuts_16 : decode cX0_exactCuts 16 = .ok (.invokevirtual 81, 3) := by decide +kernel
theorem dX0_exactCuts_19 : decode cX0_exactCuts 19 = .ok (.ifCond .ne 6, 3) := by decide +kernel
theorem dX0_exactCuts_22 : decode cX0_exactCuts 22 = .ok (.iinc 3 1, 3) := by decide +kernel
theorem dX0_exactCuts_25 : decode cX0_exactCuts 25 = .ok (.iinc 4 1, 3) := by decide +kernel
theorem dX0_exactCuts_28 : decode cX0_exactCuts 28 = .ok (.goto (-23), 3) := by decide +kernel
theorem dX0_exactCuts_31 : decode cX0_exactCuts 31 = .ok (.iload_n 3, 1) := by decide +kernel
theorem dX0_exactCuts_32 : decode cX0_exactCuts 32 = .ok (.ireturn, 1) := by decide +kernel
theorem dX0_errorUpper_0 : decode cX0_errorUpper 0 = .ok (.iload_n 1, 1) := by decide +kernel
theorem dX0_errorUpper_1 : decode cX0_errorUpper 1 = .ok (.iconst 1, 1) := by decide +kernel
theorem dX0_errorUpper_2 : decode cX0_errorUpper 2 = .ok (.if_icmp .ge 5, 3) := by decide +kernel
theorem dX0_errorUpper_5 : decode cX0_errorUpper 5 = .ok (.iconst 0, 1) := by decide +kernel
theorem dX0_errorUpper_6 : decode cX0_errorUpper 6 = .ok (.ireturn, 1) := by decide +kernel
theorem dX0_errorUpper_7 : decode cX0_errorUpper 7 = .ok (.iload_n 3, 1) := by decide +kernel
theorem dX0_errorUpper_8 : decode cX0_errorUpper 8 = .ok (.i2l, 1) := by decide +kernel
theorem dX0_errorUpper_9 : decode cX0_errorUpper 9 = .ok (.iload_n 2, 1) := by decide +kernel
theorem dX0_errorUpper_10 : decode cX0_errorUpper 10 = .ok (.i2l, 1) := by decide +kernel
theorem dX0_errorUpper_11 : decode cX0_errorUpper 11 = .ok (.lmul, 1) := by decide +kernel
theorem dX0_errorUpper_12 : decode cX0_errorUpper 12 = .ok (.iload_n 1, 1) := by decide +kernel
theorem dX0_errorUpper_13 : decode cX0_errorUpper 13 = .ok (.i2l, 1) := by decide +kernel
theorem dX0_errorUpper_14 : decode cX0_errorUpper 14 = .ok (.lrem, 1) := by decide +kernel
theorem dX0_errorUpper_15 : decode cX0_errorUpper 15 = .ok (.l2i, 1) := by decide +kernel
theorem dX0_errorUpper_16 : decode cX0_errorUpper 16 = .ok (.istore 4, 2) := by decide +kernel
theorem dX0_errorUpper_18 : decode cX0_errorUpper 18 = .ok (.iload 4, 2) := by decide +kernel
theorem dX0_errorUpper_20 : decode cX0_errorUpper 20 = .ok (.bipush 8, 2) := by decide +kernel
theorem dX0_errorUpper_22 : decode cX0_errorUpper 22 = .ok (.imul, 1) := by decide +kernel
theorem dX0_errorUpper_23 : decode cX0_errorUpper 23 = .ok (.iload_n 1, 1) := by decide +kernel
theorem dX0_errorUpper_24 : decode cX0_errorUpper 24 = .ok (.idiv, 1) := by decide +kernel
theorem dX0_errorUpper_25 : decode cX0_errorUpper 25 = .ok (.istore 5, 2) := by decide +kernel
theorem dX0_errorUpper_27 : decode cX0_errorUpper 27 = .ok (.iload 4, 2) := by decide +kernel
theorem dX0_errorUpper_29 : decode cX0_errorUpper 29 = .ok (.bipush 8, 2) := by decide +kernel
theorem dX0_errorUpper_31 : decode cX0_errorUpper 31 = .ok (.imul, 1) := by decide +kernel
theorem dX0_errorUpper_32 : decode cX0_errorUpper 32 = .ok (.iload_n 1, 1) := by decide +kernel
theorem dX0_errorUpper_33 : decode cX0_errorUpper 33 = .ok (.irem, 1) := by decide +kernel
theorem dX0_errorUpper_34 : decode cX0_errorUpper 34 = .ok (.istore 6, 2) := by decide +kernel
theorem dX0_errorUpper_36 : decode cX0_errorUpper 36 = .ok (.aload_n 0, 1) := by decide +kernel
theorem dX0_errorUpper_37 : decode cX0_errorUpper 37 = .ok (.getfield 16, 3) := by decide +kernel
theorem dX0_errorUpper_40 : decode cX0_errorUpper 40 = .ok (.iload 5, 2) := by decide +kernel
theorem dX0_errorUpper_42 : decode cX0_errorUpper 42 = .ok (.bipush 8, 2) := by decide +kernel
theorem dX0_errorUpper_44 : decode cX0_errorUpper 44 = .ok (.irem, 1) := by decide +kernel
theorem dX0_errorUpper_45 : decode cX0_errorUpper 45 = .ok (.iaload, 1) := by decide +kernel
theorem dX0_errorUpper_46 : decode cX0_errorUpper 46 = .ok (.iload_n 1, 1) := by decide +kernel
theorem dX0_errorUpper_47 : decode cX0_errorUpper 47 = .ok (.iload 6, 2) := by decide +kernel
theorem dX0_errorUpper_49 : decode cX0_errorUpper 49 = .ok (.isub, 1) := by decide +kernel
theorem dX0_errorUpper_50 : decode cX0_errorUpper 50 = .ok (.imul, 1) := by decide +kernel
theorem dX0_errorUpper_51 : decode cX0_errorUpper 51 = .ok (.aload_n 0, 1) := by decide +kernel
theorem dX0_errorUpper_52 : decode cX0_errorUpper 52 = .ok (.getfield 16, 3) := by decide +kernel
theorem dX0_errorUpper_55 : decode cX0_errorUpper 55 = .ok (.iload 5, 2) := by decide +kernel
theorem dX0_errorUpper_57 : decode cX0_errorUpper 57 = .ok (.iconst 1, 1) := by decide +kernel
theorem dX0_errorUpper_58 : decode cX0_errorUpper 58 = .ok (.iadd, 1) := by decide +kernel
theorem dX0_errorUpper_59 : decode cX0_errorUpper 59 = .ok (.bipush 8, 2) := by decide +kernel
theorem dX0_errorUpper_61 : decode cX0_errorUpper 61 = .ok (.irem, 1) := by decide +kernel
theorem dX0_errorUpper_62 : decode cX0_errorUpper 62 = .ok (.iaload, 1) := by decide +kernel
theorem dX0_errorUpper_63 : decode cX0_errorUpper 63 = .ok (.iload 6, 2) := by decide +kernel
theorem dX0_errorUpper_65 : decode cX0_errorUpper 65 = .ok (.imul, 1) := by decide +kernel
theorem dX0_errorUpper_66 : decode cX0_errorUpper 66 = .ok (.iadd, 1) := by decide +kernel
theorem dX0_errorUpper_67 : decode cX0_errorUpper 67 = .ok (.ireturn, 1) := by decide +kernel
set_option maxRecDepth 20000 in
theorem ggX0_nearestLower_X0_gapUpper : GoodIn wsX0_nearestLower wsX0_gapUpper := goodIn_r _ [4, 5, 6, 7, 8, 9, 10, 3, 11, 12] (by decide +kernel) (by decide +kernel)
set_option maxRecDepth 20000 in
theorem gX0_nearestLower_X0_gapUpper : GoodIn wsX0_nearestLower (va_wsS RX0 170 yX0_gapUpper wsX0_gapUpper) := goodIn_app (goodIn_of _ (by decide +kernel)) ggX0_nearestLower_X0_gapUpper
theorem dX0_nearestLower_0 : decode cX0_nearestLower 0 = .ok (.iconst 1, 1) := by decide +kernel
theorem dX0_nearestLower_1 : decode cX0_nearestLower 1 = .ok (.istore_n 3, 1) := by decide +kernel
theorem dX0_nearestLower_2 : decode cX0_nearestLower 2 = .ok (.iload_n 0, 1) := by decide +kernel
theorem dX0_nearestLower_3 : decode cX0_nearestLower 3 = .ok (.iload_n 1, 1) := by decide +kernel
theorem dX0_nearestLower_4 : decode cX0_nearestLower 4 = .ok (.iconst 1, 1) := by decide +kernel
theorem dX0_nearestLower_5 : decode cX0_nearestLower 5 = .ok (.invokestatic 170, 3) := by decide +kernel
theorem dX0_nearestLower_8 : decode cX0_nearestLower 8 = .ok (.lstore 4, 2) := by decide +kernel
theorem dX0_nearestLower_10 : decode cX0_nearestLower 10 = .ok (.iconst 2, 1) := by decide +kernel
theorem dX0_nearestLower_11 : decode cX0_nearestLower 11 = .ok (.istore 6, 2) := by decide +kernel
theorem dX0_nearestLower_13 : decode cX0_nearestLower 13 = .ok (.iload 6, 2) := by decide +kernel
theorem dX0_nearestLower_15 : decode cX0_nearestLower 15 = .ok (.iload_n 2, 1) := by decide +kernel
theorem dX0_nearestLower_16 : decode cX0_nearestLower 16 = .ok (.if_icmp .gt 47, 3) := by decide +kernel
theorem dX0_nearestLower_19 : decode cX0_nearestLower 19 = .ok (.lload 4, 2) := by decide +kernel
theorem dX0_nearestLower_21 : decode cX0_nearestLower 21 = .ok (.lconst 0, 1) := by decide +kernel
theorem dX0_nearestLower_22 : decode cX0_nearestLower 22 = .ok (.lcmp, 1) := by decide +kernel
theorem dX0_nearestLower_23 : decode cX0_nearestLower 23 = .ok (.ifCond .le 40, 3) := by decide +kernel
theorem dX0_nearestLower_26 : decode cX0_nearestLower 26 = .ok (.iload_n 0, 1) := by decide +kernel
theorem dX0_nearestLower_27 : decode cX0_nearestLower 27 = .ok (.iload_n 1, 1) := by decide +kernel
theorem dX0_nearestLower_28 : decode cX0_nearestLower 28 = .ok (.iload 6, 2) := by decide +kernel
theorem dX0_nearestLower_30 : decode cX0_nearestLower 30 = .ok (.invokestatic 170, 3) := by decide +kernel
theorem dX0_nearestLower_33 : decode cX0_nearestLower 33 = .ok (.lstore 7, 2) := by decide +kernel
theorem dX0_nearestLower_35 : decode cX0_nearestLower 35 = .ok (.lload 7, 2) := by decide +kernel
theorem dX0_nearestLower_37 : decode cX0_nearestLower 37 = .ok (.iload_n 3, 1) := by decide +kernel
theorem dX0_nearestLower_38 : decode cX0_nearestLower 38 = .ok (.i2l, 1) := by decide +kernel
theorem dX0_nearestLower_39 : decode cX0_nearestLower 39 = .ok (.lmul, 1) := by decide +kernel
theorem dX0_nearestLower_40 : decode cX0_nearestLower 40 = .ok (.lload 4, 2) := by decide +kernel
theorem dX0_nearestLower_42 : decode cX0_nearestLower 42 = .ok (.iload 6, 2) := by decide +kernel
theorem dX0_nearestLower_44 : decode cX0_nearestLower 44 = .ok (.i2l, 1) := by decide +kernel
theorem dX0_nearestLower_45 : decode cX0_nearestLower 45 = .ok (.lmul, 1) := by decide +kernel
theorem dX0_nearestLower_46 : decode cX0_nearestLower 46 = .ok (.lcmp, 1) := by decide +kernel
theorem dX0_nearestLower_47 : decode cX0_nearestLower 47 = .ok (.ifCond .ge 10, 3) := by decide +kernel
theorem dX0_nearestLower_50 : decode cX0_nearestLower 50 = .ok (.iload 6, 2) := by decide +kernel
theorem dX0_nearestLower_52 : decode cX0_nearestLower 52 = .ok (.istore_n 3, 1) := by decide +kernel
theorem dX0_nearestLower_53 : decode cX0_nearestLower 53 = .ok (.lload 7, 2) := by decide +kernel
theorem dX0_nearestLower_55 : decode cX0_nearestLower 55 = .ok (.lstore 4, 2) := by decide +kernel
theorem dX0_nearestLower_57 : decode cX0_nearestLower 57 = .ok (.iinc 6 1, 3) := by decide +kernel
theorem dX0_nearestLower_60 : decode cX0_nearestLower 60 = .ok (.goto (-47), 3) := by decide +kernel
theorem dX0_nearestLower_63 : decode cX0_nearestLower 63 = .ok (.iload_n 3, 1) := by decide +kernel
theorem dX0_nearestLower_64 : decode cX0_nearestLower 64 = .ok (.ireturn, 1) := by decide +kernel
set_option maxRecDepth 20000 in
theorem ggX0_gapUpper_X0_nearestOrLesser : GoodIn wsX0_gapUpper wsX0_nearestOrLesser := goodIn_r _ [8, 9] (by decide +kernel) (by decide +kernel)
set_option maxRecDepth 20000 in
theorem gX0_gapUpper_X0_nearestOrLesser : GoodIn wsX0_gapUpper (va_wsS RX0 104 yX0_nearestOrLesser wsX0_nearestOrLesser) := goodIn_app (goodIn_of _ (by decide +kernel)) ggX0_gapUpper_X0_nearestOrLesser
theorem dX0_gapUpper_0 : decode cX0_gapUpper 0 = .ok (.iload_n 0, 1) := by decide +kernel
theorem dX0_gapUpper_1 : decode cX0_gapUpper 1 = .ok (.i2l, 1) := by decide +kernel
theorem dX0_gapUpper_2 : decode cX0_gapUpper 2 = .ok (.iload_n 2, 1) := by decide +kernel
theorem dX0_gapUpper_3 : decode cX0_gapUpper 3 = .ok (.i2l, 1) := by decide +kernel
theorem dX0_gapUpper_4 : decode cX0_gapUpper 4 = .ok (.lmul, 1) := by decide +kernel
theorem dX0_gapUpper_5 : decode cX0_gapUpper 5 = .ok (.lstore_n 3, 1) := by decide +kernel
theorem dX0_gapUpper_6 : decode cX0_gapUpper 6 = .ok (.lload_n 3, 1) := by decide +kernel
theorem dX0_gapUpper_7 : decode cX0_gapUpper 7 = .ok (.iload_n 1, 1) := by decide +kernel
theorem dX0_gapUpper_8 : decode cX0_gapUpper 8 = .ok (.i2l, 1) := by decide +kernel
theorem dX0_gapUpper_9 : decode cX0_gapUpper 9 = .ok (.invokestatic 104, 3) := by decide +kernel
theorem dX0_gapUpper_12 : decode cX0_gapUpper 12 = .ok (.iload_n 1, 1) := by decide +kernel
theorem dX0_gapUpper_13 : decode cX0_gapUpper 13 = .ok (.i2l, 1) := by decide +kernel
theorem dX0_gapUpper_14 : decode cX0_gapUpper 14 = .ok (.lmul, 1) := by decide +kernel
theorem dX0_gapUpper_15 : decode cX0_gapUpper 15 = .ok (.lload_n 3, 1) := by decide +kernel
theorem dX0_gapUpper_16 : decode cX0_gapUpper 16 = .ok (.lsub, 1) := by decide +kernel
theorem dX0_gapUpper_17 : decode cX0_gapUpper 17 = .ok (.invokestatic 174, 3) := by decide +kernel
theorem dX0_gapUpper_20 : decode cX0_gapUpper 20 = .ok (.lreturn, 1) := by decide +kernel
theorem dX0_mainMark_0 : decode cX0_mainMark 0 = .ok (.lload_n 3, 1) := by decide +kernel
theorem dX0_mainMark_1 : decode cX0_mainMark 1 = .ok (.lconst 1, 1) := by decide +kernel
theorem dX0_mainMark_2 : decode cX0_mainMark 2 = .ok (.lcmp, 1) := by decide +kernel
theorem dX0_mainMark_3 : decode cX0_mainMark 3 = .ok (.ifCond .ge 7, 3) := by decide +kernel
theorem dX0_mainMark_6 : decode cX0_mainMark 6 = .ok (.lconst 0, 1) := by decide +kernel
theorem dX0_mainMark_7 : decode cX0_mainMark 7 = .ok (.goto 12, 3) := by decide +kernel
theorem dX0_mainMark_10 : decode cX0_mainMark 10 = .ok (.lload_n 1, 1) := by decide +kernel
theorem dX0_mainMark_11 : decode cX0_mainMark 11 = .ok (.aload_n 0, 1) := by decide +kernel
theorem dX0_mainMark_12 : decode cX0_mainMark 12 = .ok (.getfield 26, 3) := by decide +kernel
theorem dX0_mainMark_15 : decode cX0_mainMark 15 = .ok (.i2l, 1) := by decide +kernel
theorem dX0_mainMark_16 : decode cX0_mainMark 16 = .ok (.lmul, 1) := by decide +kernel
theorem dX0_mainMark_17 : decode cX0_mainMark 17 = .ok (.lload_n 3, 1) := by decide +kernel
theorem dX0_mainMark_18 : decode cX0_mainMark 18 = .ok (.ldiv, 1) := by decide +kernel
theorem dX0_mainMark_19 : decode cX0_mainMark 19 = .ok (.lreturn, 1) := by decide +kernel
set_option maxRecDepth 20000 in
theorem ggX0_vernierLine_X0_mainMark : GoodIn wsX0_vernierLine wsX0_mainMark := goodIn_r _ [7, 1, 12, 13, 14, 15, 16, 17, 18, 19, 20] (by decide +kernel) (by decide +kernel)
set_option maxRecDepth 20000 in
theorem gX0_vernierLine_X0_mainMark : GoodIn wsX0_vernierLine (wsV RX0 111 RX0 yX0_mainMark wsX0_mainMark) := goodIn_app (goodIn_of _ (by decide +kernel)) ggX0_vernierLine_X0_mainMark
set_option maxRecDepth 20000 in
theorem ggX0_vernierLine_X0_nearestOrLesser : GoodIn wsX0_vernierLine wsX0_nearestOrLesser := goodIn_r _ [10, 11] (by decide +kernel) (by decide +kernel)
set_option maxRecDepth 20000 in
theorem gX0_vernierLine_X0_nearestOrLesser : GoodIn wsX0_vernierLine (va_wsS RX0 104 yX0_nearestOrLesser wsX0_nearestOrLesser) := goodIn_app (goodIn_of _ (by decide +kernel)) ggX0_vernierLine_X0_nearestOrLesser
theorem dX0_vernierLine_0 : decode cX0_vernierLine 0 = .ok (.lload_n 1, 1) := by decide +kernel
theorem dX0_vernierLine_1 : decode cX0_vernierLine 1 = .ok (.aload_n 0, 1) := by decide +kernel
theorem dX0_vernierLine_2 : decode cX0_vernierLine 2 = .ok (.getfield 26, 3) := by decide +kernel
theorem dX0_vernierLine_5 : decode cX0_vernierLine 5 = .ok (.i2l, 1) := by decide +kernel
theorem dX0_vernierLine_6 : decode cX0_vernierLine 6 = .ok (.lmul, 1) := by decide +kernel
theorem dX0_vernierLine_7 : decode cX0_vernierLine 7 = .ok (.aload_n 0, 1) := by decide +kernel
theorem dX0_vernierLine_8 : decode cX0_vernierLine 8 = .ok (.lload_n 1, 1) := by decide +kernel
theorem dX0_vernierLine_9 : decode cX0_vernierLine 9 = .ok (.lload_n 3, 1) := by decide +kernel
theorem dX0_vernierLine_10 : decode cX0_vernierLine 10 = .ok (.invokevirtual 111, 3) := by decide +kernel
theorem dX0_vernierLine_13 : decode cX0_vernierLine 13 = .ok (.lload_n 3, 1) := by decide +kernel
theorem dX0_vernierLine_14 : decode cX0_vernierLine 14 = .ok (.lmul, 1) := by decide +kernel
theorem dX0_vernierLine_15 : decode cX0_vernierLine 15 = .ok (.lsub, 1) := by decide +kernel
theorem dX0_vernierLine_16 : decode cX0_vernierLine 16 = .ok (.lstore 5, 2) := by decide +kernel
theorem dX0_vernierLine_18 : decode cX0_vernierLine 18 = .ok (.lload 5, 2) := by decide +kernel
theorem dX0_vernierLine_20 : decode cX0_vernierLine 20 = .ok (.aload_n 0, 1) := by decide +kernel
theorem dX0_vernierLine_21 : decode cX0_vernierLine 21 = .ok (.getfield 29, 3) := by decide +kernel
theorem dX0_vernierLine_24 : decode cX0_vernierLine 24 = .ok (.i2l, 1) := by decide +kernel
theorem dX0_vernierLine_25 : decode cX0_vernierLine 25 = .ok (.lmul, 1) := by decide +kernel
theorem dX0_vernierLine_26 : decode cX0_vernierLine 26 = .ok (.lload_n 3, 1) := by decide +kernel
theorem dX0_vernierLine_27 : decode cX0_vernierLine 27 = .ok (.invokestatic 104, 3) := by decide +kernel
theorem dX0_vernierLine_30 : decode cX0_vernierLine 30 = .ok (.lreturn, 1) := by decide +kernel
set_option maxRecDepth 20000 in
theorem ggX0_readParts_X0_mainMark : GoodIn wsX0_readParts wsX0_mainMark := goodIn_r _ [6, 7, 16, 17, 18, 19, 20, 21, 22, 23, 24] (by decide +kernel) (by decide +kernel)
set_option maxRecDepth 20000 in
theorem gX0_readParts_X0_mainMark : GoodIn wsX0_readParts (wsV RX0 111 RX0 yX0_mainMark wsX0_mainMark) := goodIn_app (goodIn_of _ (by decide +kernel)) ggX0_readParts_X0_mainMark
set_option maxRecDepth 20000 in
theorem ggX0_readParts_X0_vernierLine : GoodIn wsX0_readParts wsX0_vernierLine := goodIn_r _ [11, 7, 1, 2, 3, 4, 5, 6, 12, 13, 14, 15, 16, 17, 18, 19, 20, 21, 22, 23, 24] (by decide +kernel) (by decide +kernel)
set_option maxRecDepth 20000 in
theorem gX0_readParts_X0_vernierLine : GoodIn wsX0_readParts (wsV RX0 114 RX0 yX0_vernierLine wsX0_vernierLine) := goodIn_app (goodIn_of _ (by decide +kernel)) ggX0_readParts_X0_vernierLine
theorem dX0_readParts_0 : decode cX0_readParts 0 = .ok (.aload_n 0, 1) := by decide +kernel
theorem dX0_readParts_1 : decode cX0_readParts 1 = .ok (.lload_n 1, 1) := by decide +kernel
theorem dX0_readParts_2 : decode cX0_readParts 2 = .ok (.lload_n 3, 1) := by decide +kernel
theorem dX0_readParts_3 : decode cX0_readParts 3 = .ok (.invokevirtual 111, 3) := by decide +kernel
theorem dX0_readParts_6 : decode cX0_readParts 6 = .ok (.aload_n 0, 1) := by decide +kernel
theorem dX0_readParts_7 : decode cX0_readParts 7 = .ok (.getfield 29, 3) := by decide +kernel
theorem dX0_readParts_10 : decode cX0_readParts 10 = .ok (.i2l, 1) := by decide +kernel
theorem dX0_readParts_11 : decode cX0_readParts 11 = .ok (.lmul, 1) := by decide +kernel
theorem dX0_readParts_12 : decode cX0_readParts 12 = .ok (.aload_n 0, 1) := by decide +kernel
theorem dX0_readParts_13 : decode cX0_readParts 13 = .ok (.lload_n 1, 1) := by decide +kernel
theorem dX0_readParts_14 : decode cX0_readParts 14 = .ok (.lload_n 3, 1) := by decide +kernel
theorem dX0_readParts_15 : decode cX0_readParts 15 = .ok (.invokevirtual 114, 3) := by decide +kernel
theorem dX0_readParts_18 : decode cX0_readParts 18 = .ok (.ladd, 1) := by decide +kernel
theorem dX0_readParts_19 : decode cX0_readParts 19 = .ok (.lreturn, 1) := by decide +kernel
theorem dX0_nearestOrLesser_0 : decode cX0_nearestOrLesser 0 = .ok (.lload_n 2, 1) := by decide +kernel
theorem dX0_nearestOrLesser_1 : decode cX0_nearestOrLesser 1 = .ok (.lconst 1, 1) := by decide +kernel
theorem dX0_nearestOrLesser_2 : decode cX0_nearestOrLesser 2 = .ok (.lcmp, 1) := by decide +kernel
theorem dX0_nearestOrLesser_3 : decode cX0_nearestOrLesser 3 = .ok (.ifCond .ge 7, 3) := by decide +kernel
theorem dX0_nearestOrLesser_6 : decode cX0_nearestOrLesser 6 = .ok (.lconst 0, 1) := by decide +kernel
theorem dX0_nearestOrLesser_7 : decode cX0_nearestOrLesser 7 = .ok (.goto 18, 3) := by decide +kernel
theorem dX0_nearestOrLesser_10 : decode cX0_nearestOrLesser 10 = .ok (.ldc2_w 127, 3) := by decide +kernel
theorem dX0_nearestOrLesser_13 : decode cX0_nearestOrLesser 13 = .ok (.lload_n 0, 1) := by decide +kernel
theorem dX0_nearestOrLesser_14 : decode cX0_nearestOrLesser 14 = .ok (.lmul, 1) := by decide +kernel
theorem dX0_nearestOrLesser_15 : decode cX0_nearestOrLesser 15 = .ok (.lload_n 2, 1) := by decide +kernel
theorem dX0_nearestOrLesser_16 : decode cX0_nearestOrLesser 16 = .ok (.ladd, 1) := by decide +kernel
theorem dX0_nearestOrLesser_17 : decode cX0_nearestOrLesser 17 = .ok (.lconst 1, 1) := by decide +kernel
theorem dX0_nearestOrLesser_18 : decode cX0_nearestOrLesser 18 = .ok (.lsub, 1) := by decide +kernel
theorem dX0_nearestOrLesser_19 : decode cX0_nearestOrLesser 19 = .ok (.ldc2_w 127, 3) := by decide +kernel
theorem dX0_nearestOrLesser_22 : decode cX0_nearestOrLesser 22 = .ok (.lload_n 2, 1) := by decide +kernel
theorem dX0_nearestOrLesser_23 : decode cX0_nearestOrLesser 23 = .ok (.lmul, 1) := by decide +kernel
theorem dX0_nearestOrLesser_24 : decode cX0_nearestOrLesser 24 = .ok (.ldiv, 1) := by decide +kernel
theorem dX0_nearestOrLesser_25 : decode cX0_nearestOrLesser 25 = .ok (.lreturn, 1) := by decide +kernel
theorem dX0_nearestOrGreater_0 : decode cX0_nearestOrGreater 0 = .ok (.lload_n 2, 1) := by decide +kernel
theorem dX0_nearestOrGreater_1 : decode cX0_nearestOrGreater 1 = .ok (.lconst 1, 1) := by decide +kernel
theorem dX0_nearestOrGreater_2 : decode cX0_nearestOrGreater 2 = .ok (.lcmp, 1) := by decide +kernel
theorem dX0_nearestOrGreater_3 : decode cX0_nearestOrGreater 3 = .ok (.ifCond .ge 7, 3) := by decide +kernel
theorem dX0_nearestOrGreater_6 : decode cX0_nearestOrGreater 6 = .ok (.lconst 0, 1) := by decide +kernel
theorem dX0_nearestOrGreater_7 : decode cX0_nearestOrGreater 7 = .ok (.goto 16, 3) := by decide +kernel
theorem dX0_nearestOrGreater_10 : decode cX0_nearestOrGreater 10 = .ok (.ldc2_w 127, 3) := by decide +kernel
theorem dX0_nearestOrGreater_13 : decode cX0_nearestOrGreater 13 = .ok (.lload_n 0, 1) := by decide +kernel
theorem dX0_nearestOrGreater_14 : decode cX0_nearestOrGreater 14 = .ok (.lmul, 1) := by decide +kernel
theorem dX0_nearestOrGreater_15 : decode cX0_nearestOrGreater 15 = .ok (.lload_n 2, 1) := by decide +kernel
theorem dX0_nearestOrGreater_16 : decode cX0_nearestOrGreater 16 = .ok (.ladd, 1) := by decide +kernel
theorem dX0_nearestOrGreater_17 : decode cX0_nearestOrGreater 17 = .ok (.ldc2_w 127, 3) := by decide +kernel
theorem dX0_nearestOrGreater_20 : decode cX0_nearestOrGreater 20 = .ok (.lload_n 2, 1) := by decide +kernel
theorem dX0_nearestOrGreater_21 : decode cX0_nearestOrGreater 21 = .ok (.lmul, 1) := by decide +kernel
theorem dX0_nearestOrGreater_22 : decode cX0_nearestOrGreater 22 = .ok (.ldiv, 1) := by decide +kernel
theorem dX0_nearestOrGreater_23 : decode cX0_nearestOrGreater 23 = .ok (.lreturn, 1) := by decide +kernel
theorem dX0_exactQuotient_0 : decode cX0_exactQuotient 0 = .ok (.lload_n 2, 1) := by decide +kernel
theorem dX0_exactQuotient_1 : decode cX0_exactQuotient 1 = .ok (.lconst 1, 1) := by decide +kernel
theorem dX0_exactQuotient_2 : decode cX0_exactQuotient 2 = .ok (.lcmp, 1) := by decide +kernel
theorem dX0_exactQuotient_3 : decode cX0_exactQuotient 3 = .ok (.ifCond .lt 11, 3) := by decide +kernel
theorem dX0_exactQuotient_6 : decode cX0_exactQuotient 6 = .ok (.lload_n 0, 1) := by decide +kernel
theorem dX0_exactQuotient_7 : decode cX0_exactQuotient 7 = .ok (.lload_n 2, 1) := by decide +kernel
theorem dX0_exactQuotient_8 : decode cX0_exactQuotient 8 = .ok (.lrem, 1) := by decide +kernel
theorem dX0_exactQuotient_9 : decode cX0_exactQuotient 9 = .ok (.lconst 0, 1) := by decide +kernel
theorem dX0_exactQuotient_10 : decode cX0_exactQuotient 10 = .ok (.lcmp, 1) := by decide +kernel
theorem dX0_exactQuotient_11 : decode cX0_exactQuotient 11 = .ok (.ifCond .eq 7, 3) := by decide +kernel
theorem dX0_exactQuotient_14 : decode cX0_exactQuotient 14 = .ok (.lconst 0, 1) := by decide +kernel
theorem dX0_exactQuotient_15 : decode cX0_exactQuotient 15 = .ok (.goto 6, 3) := by decide +kernel
theorem dX0_exactQuotient_18 : decode cX0_exactQuotient 18 = .ok (.lload_n 0, 1) := by decide +kernel
theorem dX0_exactQuotient_19 : decode cX0_exactQuotient 19 = .ok (.lload_n 2, 1) := by decide +kernel
theorem dX0_exactQuotient_20 : decode cX0_exactQuotient 20 = .ok (.ldiv, 1) := by decide +kernel
theorem dX0_exactQuotient_21 : decode cX0_exactQuotient 21 = .ok (.lreturn, 1) := by decide +kernel
set_option maxRecDepth 20000 in
theorem ggX0_lowestTerm_X0_commonMeasure : GoodIn wsX0_lowestTerm wsX0_commonMeasure := goodIn_r _ [8] (by decide +kernel) (by decide +kernel)
set_option maxRecDepth 20000 in
theorem gX0_lowestTerm_X0_commonMeasure : GoodIn wsX0_lowestTerm (va_wsS RX0 177 yX0_commonMeasure wsX0_commonMeasure) := goodIn_app (goodIn_of _ (by decide +kernel)) ggX0_lowestTerm_X0_commonMeasure
theorem dX0_lowestTerm_0 : decode cX0_lowestTerm 0 = .ok (.iload 4, 2) := by decide +kernel
theorem dX0_lowestTerm_2 : decode cX0_lowestTerm 2 = .ok (.ifCond .ne 7, 3) := by decide +kernel
theorem dX0_lowestTerm_5 : decode cX0_lowestTerm 5 = .ok (.lload_n 0, 1) := by decide +kernel
theorem dX0_lowestTerm_6 : decode cX0_lowestTerm 6 = .ok (.goto 4, 3) := by decide +kernel
theorem dX0_lowestTerm_9 : decode cX0_lowestTerm 9 = .ok (.lload_n 2, 1) := by decide +kernel
theorem dX0_lowestTerm_10 : decode cX0_lowestTerm 10 = .ok (.lstore 5, 2) := by decide +kernel
theorem dX0_lowestTerm_12 : decode cX0_lowestTerm 12 = .ok (.lload_n 0, 1) := by decide +kernel
theorem dX0_lowestTerm_13 : decode cX0_lowestTerm 13 = .ok (.invokestatic 174, 3) := by decide +kernel
theorem dX0_lowestTerm_16 : decode cX0_lowestTerm 16 = .ok (.lload_n 2, 1) := by decide +kernel
theorem dX0_lowestTerm_17 : decode cX0_lowestTerm 17 = .ok (.invokestatic 177, 3) := by decide +kernel
theorem dX0_lowestTerm_20 : decode cX0_lowestTerm 20 = .ok (.lstore 7, 2) := by decide +kernel
theorem dX0_lowestTerm_22 : decode cX0_lowestTerm 22 = .ok (.lload 7, 2) := by decide +kernel
theorem dX0_lowestTerm_24 : decode cX0_lowestTerm 24 = .ok (.lconst 1, 1) := by decide +kernel
theorem dX0_lowestTerm_25 : decode cX0_lowestTerm 25 = .ok (.lcmp, 1) := by decide +kernel
theorem dX0_lowestTerm_26 : decode cX0_lowestTerm 26 = .ok (.ifCond .ge 8, 3) := by decide +kernel
theorem dX0_lowestTerm_29 : decode cX0_lowestTerm 29 = .ok (.lload 5, 2) := by decide +kernel
theorem dX0_lowestTerm_31 : decode cX0_lowestTerm 31 = .ok (.goto 8, 3) := by decide +kernel
theorem dX0_lowestTerm_34 : decode cX0_lowestTerm 34 = .ok (.lload 5, 2) := by decide +kernel
theorem dX0_lowestTerm_36 : decode cX0_lowestTerm 36 = .ok (.lload 7, 2) := by decide +kernel
theorem dX0_lowestTerm_38 : decode cX0_lowestTerm 38 = .ok (.ldiv, 1) := by decide +kernel
theorem dX0_lowestTerm_39 : decode cX0_lowestTerm 39 = .ok (.l2i, 1) := by decide +kernel
theorem dX0_lowestTerm_40 : decode cX0_lowestTerm 40 = .ok (.ireturn, 1) := by decide +kernel
theorem dX0_commonMeasure_0 : decode cX0_commonMeasure 0 = .ok (.iconst 0, 1) := by decide +kernel
theorem dX0_commonMeasure_1 : decode cX0_commonMeasure 1 = .ok (.istore 4, 2) := by decide +kernel
theorem dX0_commonMeasure_3 : decode cX0_commonMeasure 3 = .ok (.iload 4, 2) := by decide +kernel
theorem dX0_commonMeasure_5 : decode cX0_commonMeasure 5 = .ok (.bipush 100, 2) := by decide +kernel
theorem dX0_commonMeasure_7 : decode cX0_commonMeasure 7 = .ok (.if_icmp .ge 25, 3) := by decide +kernel
theorem dX0_commonMeasure_10 : decode cX0_commonMeasure 10 = .ok (.lload_n 2, 1) := by decide +kernel
theorem dX0_commonMeasure_11 : decode cX0_commonMeasure 11 = .ok (.lconst 0, 1) := by decide +kernel
theorem dX0_commonMeasure_12 : decode cX0_commonMeasure 12 = .ok (.lcmp, 1) := by decide +kernel
theorem dX0_commonMeasure_13 : decode cX0_commonMeasure 13 = .ok (.ifCond .eq 19, 3) := by decide +kernel
theorem dX0_commonMeasure_16 : decode cX0_commonMeasure 16 = .ok (.lload_n 0, 1) := by decide +kernel
theorem dX0_commonMeasure_17 : decode cX0_commonMeasure 17 = .ok (.lload_n 2, 1) := by decide +kernel
theorem dX0_commonMeasure_18 : decode cX0_commonMeasure 18 = .ok (.lrem, 1) := by decide +kernel
theorem dX0_commonMeasure_19 : decode cX0_commonMeasure 19 = .ok (.lstore 5, 2) := by decide +kernel
theorem dX0_commonMeasure_21 : decode cX0_commonMeasure 21 = .ok (.lload_n 2, 1) := by decide +kernel
theorem dX0_commonMeasure_22 : decode cX0_commonMeasure 22 = .ok (.lstore_n 0, 1) := by decide +kernel
theorem dX0_commonMeasure_23 : decode cX0_commonMeasure 23 = .ok (.lload 5, 2) := by decide +kernel
theorem dX0_commonMeasure_25 : decode cX0_commonMeasure 25 = .ok (.lstore_n 2, 1) := by decide +kernel
theorem dX0_commonMeasure_26 : decode cX0_commonMeasure 26 = .ok (.iinc 4 1, 3) := by decide +kernel
theorem dX0_commonMeasure_29 : decode cX0_commonMeasure 29 = .ok (.goto (-26), 3) := by decide +kernel
theorem dX0_commonMeasure_32 : decode cX0_commonMeasure 32 = .ok (.lload_n 0, 1) := by decide +kernel
theorem dX0_commonMeasure_33 : decode cX0_commonMeasure 33 = .ok (.lreturn, 1) := by decide +kernel
