theorem dX3_putPixel_0 : decode cX3_putPixel 0 = .ok (.bipush 8, 2) := by decide +kernel
theorem dX3_putPixel_2 : decode cX3_putPixel 2 = .ok (.iload_n 2, 1) := by decide +kernel
theorem dX3_putPixel_3 : decode cX3_putPixel 3 = .ok (.imul, 1) := by decide +kernel
theorem dX3_putPixel_4 : decode cX3_putPixel 4 = .ok (.iload_n 3, 1) := by decide +kernel
theorem dX3_putPixel_5 : decode cX3_putPixel 5 = .ok (.iadd, 1) := by decide +kernel
theorem dX3_putPixel_6 : decode cX3_putPixel 6 = .ok (.istore 5, 2) := by decide +kernel
theorem dX3_putPixel_8 : decode cX3_putPixel 8 = .ok (.lconst 1, 1) := by decide +kernel
theorem dX3_putPixel_9 : decode cX3_putPixel 9 = .ok (.iload 5, 2) := by decide +kernel
theorem dX3_putPixel_11 : decode cX3_putPixel 11 = .ok (.lshl, 1) := by decide +kernel
theorem dX3_putPixel_12 : decode cX3_putPixel 12 = .ok (.ldc2_w 39, 3) := by decide +kernel
theorem dX3_putPixel_15 : decode cX3_putPixel 15 = .ok (.lxor, 1) := by decide +kernel
theorem dX3_putPixel_16 : decode cX3_putPixel 16 = .ok (.lstore 6, 2) := by decide +kernel
theorem dX3_putPixel_18 : decode cX3_putPixel 18 = .ok (.aload_n 0, 1) := by decide +kernel
theorem dX3_putPixel_19 : decode cX3_putPixel 19 = .ok (.iload_n 1, 1) := by decide +kernel
theorem dX3_putPixel_20 : decode cX3_putPixel 20 = .ok (.aload_n 0, 1) := by decide +kernel
theorem dX3_putPixel_21 : decode cX3_putPixel 21 = .ok (.iload_n 1, 1) := by decide +kernel
theorem dX3_putPixel_22 : decode cX3_putPixel 22 = .ok (.invokevirtual 32, 3) := by decide +kernel
theorem dX3_putPixel_25 : decode cX3_putPixel 25 = .ok (.lload 6, 2) := by decide +kernel
theorem dX3_putPixel_27 : decode cX3_putPixel 27 = .ok (.land, 1) := by decide +kernel
theorem dX3_putPixel_28 : decode cX3_putPixel 28 = .ok (.iload 4, 2) := by decide +kernel
theorem dX3_putPixel_30 : decode cX3_putPixel 30 = .ok (.iconst 1, 1) := by decide +kernel
theorem dX3_putPixel_31 : decode cX3_putPixel 31 = .ok (.iand, 1) := by decide +kernel
theorem dX3_putPixel_32 : decode cX3_putPixel 32 = .ok (.i2l, 1) := by decide +kernel
theorem dX3_putPixel_33 : decode cX3_putPixel 33 = .ok (.iload 5, 2) := by decide +kernel
theorem dX3_putPixel_35 : decode cX3_putPixel 35 = .ok (.lshl, 1) := by decide +kernel
theorem dX3_putPixel_36 : decode cX3_putPixel 36 = .ok (.lor, 1) := by decide +kernel
theorem dX3_putPixel_37 : decode cX3_putPixel 37 = .ok (.aload_n 0, 1) := by decide +kernel
theorem dX3_putPixel_38 : decode cX3_putPixel 38 = .ok (.iload_n 1, 1) := by decide +kernel
theorem dX3_putPixel_39 : decode cX3_putPixel 39 = .ok (.invokevirtual 36, 3) := by decide +kernel
theorem dX3_putPixel_42 : decode cX3_putPixel 42 = .ok (.lload 6, 2) := by decide +kernel
theorem dX3_putPixel_44 : decode cX3_putPixel 44 = .ok (.land, 1) := by decide +kernel
theorem dX3_putPixel_45 : decode cX3_putPixel 45 = .ok (.iload 4, 2) := by decide +kernel
theorem dX3_putPixel_47 : decode cX3_putPixel 47 = .ok (.iconst 1, 1) := by decide +kernel
theorem dX3_putPixel_48 : decode cX3_putPixel 48 = .ok (.ishr, 1) := by decide +kernel
theorem dX3_putPixel_49 : decode cX3_putPixel 49 = .ok (.iconst 1, 1) := by decide +kernel
theorem dX3_putPixel_50 : decode cX3_putPixel 50 = .ok (.iand, 1) := by decide +kernel
theorem dX3_putPixel_51 : decode cX3_putPixel 51 = .ok (.i2l, 1) := by decide +kernel
theorem dX3_putPixel_52 : decode cX3_putPixel 52 = .ok (.iload 5, 2) := by decide +kernel
theorem dX3_putPixel_54 : decode cX3_putPixel 54 = .ok (.lshl, 1) := by decide +kernel
theorem dX3_putPixel_55 : decode cX3_putPixel 55 = .ok (.lor, 1) := by decide +kernel
theorem dX3_putPixel_56 : decode cX3_putPixel 56 = .ok (.invokevirtual 28, 3) := by decide +kernel
theorem dX3_putPixel_59 : decode cX3_putPixel 59 = .ok (.return_, 1) := by decide +kernel
set_option maxRecDepth 20000 in
theorem ggX3_putRows_X3_lowOf : GoodIn wsX3_putRows wsX3_lowOf := goodIn_r _ [6, 7, 17, 18, 19] (by decide +kernel) (by decide +kernel)
set_option maxRecDepth 20000 in
theorem gX3_putRows_X3_lowOf : GoodIn wsX3_putRows (wsV RX3 32 RX3 yX3_lowOf wsX3_lowOf) := goodIn_app (goodIn_of _ (by decide +kernel)) ggX3_putRows_X3_lowOf
set_option maxRecDepth 20000 in
theorem ggX3_putRows_X3_highOf : GoodIn wsX3_putRows wsX3_highOf := goodIn_r _ [11, 12, 17, 18, 19] (by decide +kernel) (by decide +kernel)
set_option maxRecDepth 20000 in
theorem gX3_putRows_X3_highOf : GoodIn wsX3_putRows (wsV RX3 36 RX3 yX3_highOf wsX3_highOf) := goodIn_app (goodIn_of _ (by decide +kernel)) ggX3_putRows_X3_highOf
set_option maxRecDepth 20000 in
theorem ggX3_putRows_X3_putPlanes : GoodIn wsX3_putRows wsX3_putPlanes := goodIn_r _ [16, 7, 12, 17, 18, 19] (by decide +kernel) (by decide +kernel)
set_option maxRecDepth 20000 in
theorem gX3_putRows_X3_putPlanes : GoodIn wsX3_putRows (wsV RX3 28 RX3 yX3_putPlanes wsX3_putPlanes) := goodIn_app (goodIn_of _ (by decide +kernel)) ggX3_putRows_X3_putPlanes
theorem dX3_putRows_0 : decode cX3_putRows 0 = .ok (.iload_n 2, 1) := by decide +kernel
theorem dX3_putRows_1 : decode cX3_putRows 1 = .ok (.bipush 8, 2) := by decide +kernel
theorem dX3_putRows_3 : decode cX3_putRows 3 = .ok (.if_icmp .lt 7, 3) := by decide +kernel
theorem dX3_putRows_6 : decode cX3_putRows 6 = .ok (.lconst 0, 1) := by decide +kernel
theorem dX3_putRows_7 : decode cX3_putRows 7 = .ok (.goto 11, 3) := by decide +kernel
theorem dX3_putRows_10 : decode cX3_putRows 10 = .ok (.ldc2_w 39, 3) := by decide +kernel
theorem dX3_putRows_13 : decode cX3_putRows 13 = .ok (.bipush 8, 2) := by decide +kernel
theorem dX3_putRows_15 : decode cX3_putRows 15 = .ok (.iload_n 2, 1) := by decide +kernel
theorem dX3_putRows_16 : decode cX3_putRows 16 = .ok (.imul, 1) := by decide +kernel
theorem dX3_putRows_17 : decode cX3_putRows 17 = .ok (.lshl, 1) := by decide +kernel
theorem dX3_putRows_18 : decode cX3_putRows 18 = .ok (.lstore 7, 2) := by decide +kernel
theorem dX3_putRows_20 : decode cX3_putRows 20 = .ok (.aload_n 0, 1) := by decide +kernel
theorem dX3_putRows_21 : decode cX3_putRows 21 = .ok (.iload_n 1, 1) := by decide +kernel
theorem dX3_putRows_22 : decode cX3_putRows 22 = .ok (.aload_n 0, 1) := by decide +kernel
theorem dX3_putRows_23 : decode cX3_putRows 23 = .ok (.iload_n 1, 1) := by decide +kernel
theorem dX3_putRows_24 : decode cX3_putRows 24 = .ok (.invokevirtual 32, 3) := by decide +kernel
theorem dX3_putRows_27 : decode cX3_putRows 27 = .ok (.lload 7, 2) := by decide +kernel
theorem dX3_putRows_29 : decode cX3_putRows 29 = .ok (.land, 1) := by decide +kernel
theorem dX3_putRows_30 : decode cX3_putRows 30 = .ok (.lload_n 3, 1) := by decide +kernel
theorem dX3_putRows_31 : decode cX3_putRows 31 = .ok (.lor, 1) := by decide +kernel
theorem dX3_putRows_32 : decode cX3_putRows 32 = .ok (.aload_n 0, 1) := by decide +kernel
theorem dX3_putRows_33 : decode cX3_putRows 33 = .ok (.iload_n 1, 1) := by decide +kernel
theorem dX3_putRows_34 : decode cX3_putRows 34 = .ok (.invokevirtual 36, 3) := by decide +kernel
theorem dX3_putRows_37 : decode cX3_putRows 37 = .ok (.lload 7, 2) := by decide +kernel
theorem dX3_putRows_39 : decode cX3_putRows 39 = .ok (.land, 1) := by decide +kernel
theorem dX3_putRows_40 : decode cX3_putRows 40 = .ok (.lload 5, 2) := by decide +kernel
theorem dX3_putRows_42 : decode cX3_putRows 42 = .ok (.lor, 1) := by decide +kernel
theorem dX3_putRows_43 : decode cX3_putRows 43 = .ok (.invokevirtual 28, 3) := by decide +kernel
theorem dX3_putRows_46 : decode cX3_putRows 46 = .ok (.return_, 1) := by decide +kernel
set_option maxRecDepth 20000 in
theorem ggX3_filledInRow_X3_lowOf : GoodIn wsX3_filledInRow wsX3_lowOf := goodIn_r _ [6, 7, 25, 26, 27] (by decide +kernel) (by decide +kernel)
set_option maxRecDepth 20000 in
theorem gX3_filledInRow_X3_lowOf : GoodIn wsX3_filledInRow (wsV RX3 32 RX3 yX3_lowOf wsX3_lowOf) := goodIn_app (goodIn_of _ (by decide +kernel)) ggX3_filledInRow_X3_lowOf
set_option maxRecDepth 20000 in
theorem ggX3_filledInRow_X3_highOf : GoodIn wsX3_filledInRow wsX3_highOf := goodIn_r _ [11, 12, 25, 26, 27] (by decide +kernel) (by decide +kernel)
set_option maxRecDepth 20000 in
theorem gX3_filledInRow_X3_highOf : GoodIn wsX3_filledInRow (wsV RX3 36 RX3 yX3_highOf wsX3_highOf) := goodIn_app (goodIn_of _ (by decide +kernel)) ggX3_filledInRow_X3_highOf
set_option maxRecDepth 20000 in
theorem ggX3_filledInRow_X3_mirrored : GoodIn wsX3_filledInRow wsX3_mirrored := goodIn_r _ [15, 16, 17, 18, 19, 20, 21, 22, 23, 5, 24] (by decide +kernel) (by decide +kernel)
set_option maxRecDepth 20000 in
theorem gX3_filledInRow_X3_mirrored : GoodIn wsX3_filledInRow (va_wsS RX3 41 yX3_mirrored wsX3_mirrored) := goodIn_app (goodIn_of _ (by decide +kernel)) ggX3_filledInRow_X3_mirrored
theorem dX3_filledInRow_0 : decode cX3_filledInRow 0 = .ok (.aload_n 0, 1) := by decide +kernel
theorem dX3_filledInRow_1 : decode cX3_filledInRow 1 = .ok (.iload_n 1, 1) := by decide +kernel
theorem dX3_filledInRow_2 : decode cX3_filledInRow 2 = .ok (.invokevirtual 32, 3) := by decide +kernel
theorem dX3_filledInRow_5 : decode cX3_filledInRow 5 = .ok (.aload_n 0, 1) := by decide +kernel
theorem dX3_filledInRow_6 : decode cX3_filledInRow 6 = .ok (.iload_n 1, 1) := by decide +kernel
theorem dX3_filledInRow_7 : decode cX3_filledInRow 7 = .ok (.invokevirtual 36, 3) := by decide +kernel
theorem dX3_filledInRow_10 : decode cX3_filledInRow 10 = .ok (.lor, 1) := by decide +kernel
theorem dX3_filledInRow_11 : decode cX3_filledInRow 11 = .ok (.iload_n 2, 1) := by decide +kernel
theorem dX3_filledInRow_12 : decode cX3_filledInRow 12 = .ok (.invokestatic 41, 3) := by decide +kernel
theorem dX3_filledInRow_15 : decode cX3_filledInRow 15 = .ok (.lstore 4, 2) := by decide +kernel
theorem dX3_filledInRow_17 : decode cX3_filledInRow 17 = .ok (.lload 4, 2) := by decide +kernel
theorem dX3_filledInRow_19 : decode cX3_filledInRow 19 = .ok (.bipush 8, 2) := by decide +kernel
theorem dX3_filledInRow_21 : decode cX3_filledInRow 21 = .ok (.iload_n 3, 1) := by decide +kernel
theorem dX3_filledInRow_22 : decode cX3_filledInRow 22 = .ok (.imul, 1) := by decide +kernel
theorem dX3_filledInRow_23 : decode cX3_filledInRow 23 = .ok (.lushr, 1) := by decide +kernel
theorem dX3_filledInRow_24 : decode cX3_filledInRow 24 = .ok (.ldc2_w 45, 3) := by decide +kernel
theorem dX3_filledInRow_27 : decode cX3_filledInRow 27 = .ok (.land, 1) := by decide +kernel
theorem dX3_filledInRow_28 : decode cX3_filledInRow 28 = .ok (.l2i, 1) := by decide +kernel
theorem dX3_filledInRow_29 : decode cX3_filledInRow 29 = .ok (.ireturn, 1) := by decide +kernel
set_option maxRecDepth 20000 in
theorem ggX3_shareOf_X3_lowOf : GoodIn wsX3_shareOf wsX3_lowOf := goodIn_r _ [6, 7, 20, 21, 22] (by decide +kernel) (by decide +kernel)
set_option maxRecDepth 20000 in
theorem gX3_shareOf_X3_lowOf : GoodIn wsX3_shareOf (wsV RX3 32 RX3 yX3_lowOf wsX3_lowOf) := goodIn_app (goodIn_of _ (by decide +kernel)) ggX3_shareOf_X3_lowOf
set_option maxRecDepth 20000 in
theorem ggX3_shareOf_X3_highOf : GoodIn wsX3_shareOf wsX3_highOf := goodIn_r _ [11, 12, 20, 21, 22] (by decide +kernel) (by decide +kernel)
set_option maxRecDepth 20000 in
theorem gX3_shareOf_X3_highOf : GoodIn wsX3_shareOf (wsV RX3 36 RX3 yX3_highOf wsX3_highOf) := goodIn_app (goodIn_of _ (by decide +kernel)) ggX3_shareOf_X3_highOf
set_option maxRecDepth 20000 in
theorem ggX3_shareOf_J13_bitCount_95d88 : GoodIn wsX3_shareOf wsJ13_bitCount_95d88 := goodIn_r _ [16, 17, 18, 19] (by decide +kernel) (by decide +kernel)
set_option maxRecDepth 20000 in
theorem gX3_shareOf_J13_bitCount_95d88 : GoodIn wsX3_shareOf (va_wsS RX3 47 yJ13_bitCount_95d88 wsJ13_bitCount_95d88) := goodIn_app (goodIn_of _ (by decide +kernel)) ggX3_shareOf_J13_bitCount_95d88
theorem dX3_shareOf_0 : decode cX3_shareOf 0 = .ok (.aload_n 0, 1) := by decide +kernel
theorem dX3_shareOf_1 : decode cX3_shareOf 1 = .ok (.iload_n 1, 1) := by decide +kernel
theorem dX3_shareOf_2 : decode cX3_shareOf 2 = .ok (.invokevirtual 32, 3) := by decide +kernel
theorem dX3_shareOf_5 : decode cX3_shareOf 5 = .ok (.aload_n 0, 1) := by decide +kernel
theorem dX3_shareOf_6 : decode cX3_shareOf 6 = .ok (.iload_n 1, 1) := by decide +kernel
theorem dX3_shareOf_7 : decode cX3_shareOf 7 = .ok (.invokevirtual 36, 3) := by decide +kernel
theorem dX3_shareOf_10 : decode cX3_shareOf 10 = .ok (.lor, 1) := by decide +kernel
theorem dX3_shareOf_11 : decode cX3_shareOf 11 = .ok (.invokestatic 47, 3) := by decide +kernel
theorem dX3_shareOf_14 : decode cX3_shareOf 14 = .ok (.i2f, 1) := by decide +kernel
theorem dX3_shareOf_15 : decode cX3_shareOf 15 = .ok (.ldc 53, 2) := by decide +kernel
theorem dX3_shareOf_17 : decode cX3_shareOf 17 = .ok (.fdiv, 1) := by decide +kernel
theorem dX3_shareOf_18 : decode cX3_shareOf 18 = .ok (.freturn, 1) := by decide +kernel
set_option maxRecDepth 20000 in
theorem ggX3_wayToMatch_X3_lowOf : GoodIn wsX3_wayToMatch wsX3_lowOf := goodIn_r _ [5, 6, 24, 25, 26] (by decide +kernel) (by decide +kernel)
set_option maxRecDepth 20000 in
theorem gX3_wayToMatch_X3_lowOf : GoodIn wsX3_wayToMatch (wsV RX3 32 RX3 yX3_lowOf wsX3_lowOf) := goodIn_app (goodIn_of _ (by decide +kernel)) ggX3_wayToMatch_X3_lowOf
set_option maxRecDepth 20000 in
theorem ggX3_wayToMatch_X3_mirrored : GoodIn wsX3_wayToMatch wsX3_mirrored := goodIn_r _ [9, 10, 11, 12, 13, 14, 15, 16, 17, 4, 18] (by decide +kernel) (by decide +kernel)
set_option maxRecDepth 20000 in
theorem gX3_wayToMatch_X3_mirrored : GoodIn wsX3_wayToMatch (va_wsS RX3 41 yX3_mirrored wsX3_mirrored) := goodIn_app (goodIn_of _ (by decide +kernel)) ggX3_wayToMatch_X3_mirrored
set_option maxRecDepth 20000 in
theorem ggX3_wayToMatch_X3_highOf : GoodIn wsX3_wayToMatch wsX3_highOf := goodIn_r _ [22, 23, 24, 25, 26] (by decide +kernel) (by decide +kernel)
set_option maxRecDepth 20000 in
theorem gX3_wayToMatch_X3_highOf : GoodIn wsX3_wayToMatch (wsV RX3 36 RX3 yX3_highOf wsX3_highOf) := goodIn_app (goodIn_of _ (by decide +kernel)) ggX3_wayToMatch_X3_highOf
theorem dX3_wayToMatch_0 : decode cX3_wayToMatch 0 = .ok (.aload_n 0, 1) := by decide +kernel
theorem dX3_wayToMatch_1 : decode cX3_wayToMatch 1 = .ok (.iload_n 1, 1) := by decide +kernel
theorem dX3_wayToMatch_2 : decode cX3_wayToMatch 2 = .ok (.invokevirtual 32, 3) := by decide +kernel
theorem dX3_wayToMatch_5 : decode cX3_wayToMatch 5 = .ok (.iload_n 2, 1) := by decide +kernel
theorem dX3_wayToMatch_6 : decode cX3_wayToMatch 6 = .ok (.invokestatic 41, 3) := by decide +kernel
theorem dX3_wayToMatch_9 : decode cX3_wayToMatch 9 = .ok (.lstore 4, 2) := by decide +kernel
theorem dX3_wayToMatch_11 : decode cX3_wayToMatch 11 = .ok (.aload_n 0, 1) := by decide +kernel
theorem dX3_wayToMatch_12 : decode cX3_wayToMatch 12 = .ok (.iload_n 1, 1) := by decide +kernel
theorem dX3_wayToMatch_13 : decode cX3_wayToMatch 13 = .ok (.invokevirtual 36, 3) := by decide +kernel
theorem dX3_wayToMatch_16 : decode cX3_wayToMatch 16 = .ok (.iload_n 2, 1) := by decide +kernel
theorem dX3_wayToMatch_17 : decode cX3_wayToMatch 17 = .ok (.invokestatic 41, 3) := by decide +kernel
theorem dX3_wayToMatch_20 : decode cX3_wayToMatch 20 = .ok (.lstore 6, 2) := by decide +kernel
theorem dX3_wayToMatch_22 : decode cX3_wayToMatch 22 = .ok (.iconst 0, 1) := by decide +kernel
theorem dX3_wayToMatch_23 : decode cX3_wayToMatch 23 = .ok (.istore 8, 2) := by decide +kernel
theorem dX3_wayToMatch_25 : decode cX3_wayToMatch 25 = .ok (.iload 8, 2) := by decide +kernel
theorem dX3_wayToMatch_27 : decode cX3_wayToMatch 27 = .ok (.iconst 4, 1) := by decide +kernel
theorem dX3_wayToMatch_28 : decode cX3_wayToMatch 28 = .ok (.if_icmp .ge 44, 3) := by decide +kernel
theorem dX3_wayToMatch_31 : decode cX3_wayToMatch 31 = .ok (.aload_n 0, 1) := by decide +kernel
theorem dX3_wayToMatch_32 : decode cX3_wayToMatch 32 = .ok (.iload_n 3, 1) := by decide +kernel
theorem dX3_wayToMatch_33 : decode cX3_wayToMatch 33 = .ok (.invokevirtual 32, 3) := by decide +kernel
theorem dX3_wayToMatch_36 : decode cX3_wayToMatch 36 = .ok (.iload 8, 2) := by decide +kernel
theorem dX3_wayToMatch_38 : decode cX3_wayToMatch 38 = .ok (.invokestatic 41, 3) := by decide +kernel
theorem dX3_wayToMatch_41 : decode cX3_wayToMatch 41 = .ok (.lload 4, 2) := by decide +kernel
theorem dX3_wayToMatch_43 : decode cX3_wayToMatch 43 = .ok (.lcmp, 1) := by decide +kernel
theorem dX3_wayToMatch_44 : decode cX3_wayToMatch 44 = .ok (.ifCond .ne 22, 3) := by decide +kernel
theorem dX3_wayToMatch_47 : decode cX3_wayToMatch 47 = .ok (.aload_n 0, 1) := by decide +kernel
theorem dX3_wayToMatch_48 : decode cX3_wayToMatch 48 = .ok (.iload_n 3, 1) := by decide +kernel
theorem dX3_wayToMatch_49 : decode cX3_wayToMatch 49 = .ok (.invokevirtual 36, 3) := by decide +kernel
theorem dX3_wayToMatch_52 : decode cX3_wayToMatch 52 = .ok (.iload 8, 2) := by decide +kernel
theorem dX3_wayToMatch_54 : decode cX3_wayToMatch 54 = .ok (.invokestatic 41, 3) := by decide +kernel
theorem dX3_wayToMatch_57 : decode cX3_wayToMatch 57 = .ok (.lload 6, 2) := by decide +kernel
theorem dX3_wayToMatch_59 : decode cX3_wayToMatch 59 = .ok (.lcmp, 1) := by decide +kernel
theorem dX3_wayToMatch_60 : decode cX3_wayToMatch 60 = .ok (.ifCond .ne 6, 3) := by decide +kernel
theorem dX3_wayToMatch_63 : decode cX3_wayToMatch 63 = .ok (.iload 8, 2) := by decide +kernel
theorem dX3_wayToMatch_65 : decode cX3_wayToMatch 65 = .ok (.ireturn, 1) := by decide +kernel
theorem dX3_wayToMatch_66 : decode cX3_wayToMatch 66 = .ok (.iinc 8 1, 3) := by decide +kernel
theorem dX3_wayToMatch_69 : decode cX3_wayToMatch 69 = .ok (.goto (-44), 3) := by decide +kernel
theorem dX3_wayToMatch_72 : decode cX3_wayToMatch 72 = .ok (.bipush (-5), 2) := by decide +kernel
theorem dX3_wayToMatch_74 : decode cX3_wayToMatch 74 = .ok (.ireturn, 1) := by decide +kernel
set_option maxRecDepth 20000 in
theorem ggX3_lowestAlike_X3_wayToMatch : GoodIn wsX3_lowestAlike wsX3_wayToMatch := goodIn_r _ [5, 6, 7, 8, 4, 9, 10, 11, 12, 13, 14, 15, 16, 17, 18, 19, 20, 21, 22, 23, 24, 25, 26, 27, 28, 29, 30] (by decide +kernel) (by decide +kernel)
set_option maxRecDepth 20000 in
theorem gX3_lowestAlike_X3_wayToMatch : GoodIn wsX3_lowestAlike (wsV RX3 54 RX3 yX3_wayToMatch wsX3_wayToMatch) := goodIn_app (goodIn_of _ (by decide +kernel)) ggX3_lowestAlike_X3_wayToMatch
theorem dX3_lowestAlike_0 : decode cX3_lowestAlike 0 = .ok (.iconst 0, 1) := by decide +kernel
theorem dX3_lowestAlike_1 : decode cX3_lowestAlike 1 = .ok (.istore_n 2, 1) := by decide +kernel
theorem dX3_lowestAlike_2 : decode cX3_lowestAlike 2 = .ok (.iload_n 2, 1) := by decide +kernel
theorem dX3_lowestAlike_3 : decode cX3_lowestAlike 3 = .ok (.iload_n 1, 1) := by decide +kernel
theorem dX3_lowestAlike_4 : decode cX3_lowestAlike 4 = .ok (.if_icmp .ge 23, 3) := by decide +kernel
theorem dX3_lowestAlike_7 : decode cX3_lowestAlike 7 = .ok (.aload_n 0, 1) := by decide +kernel
theorem dX3_lowestAlike_8 : decode cX3_lowestAlike 8 = .ok (.iload_n 1, 1) := by decide +kernel
theorem dX3_lowestAlike_9 : decode cX3_lowestAlike 9 = .ok (.iconst 0, 1) := by decide +kernel
theorem dX3_lowestAlike_10 : decode cX3_lowestAlike 10 = .ok (.iload_n 2, 1) := by decide +kernel
theorem dX3_lowestAlike_11 : decode cX3_lowestAlike 11 = .ok (.invokevirtual 54, 3) := by decide +kernel
theorem dX3_lowestAlike_14 : decode cX3_lowestAlike 14 = .ok (.bipush (-5), 2) := by decide +kernel
theorem dX3_lowestAlike_16 : decode cX3_lowestAlike 16 = .ok (.if_icmp .eq 5, 3) := by decide +kernel
theorem dX3_lowestAlike_19 : decode cX3_lowestAlike 19 = .ok (.iload_n 2, 1) := by decide +kernel
theorem dX3_lowestAlike_20 : decode cX3_lowestAlike 20 = .ok (.ireturn, 1) := by decide +kernel
theorem dX3_lowestAlike_21 : decode cX3_lowestAlike 21 = .ok (.iinc 2 1, 3) := by decide +kernel
theorem dX3_lowestAlike_24 : decode cX3_lowestAlike 24 = .ok (.goto (-22), 3) := by decide +kernel
theorem dX3_lowestAlike_27 : decode cX3_lowestAlike 27 = .ok (.iload_n 1, 1) := by decide +kernel
theorem dX3_lowestAlike_28 : decode cX3_lowestAlike 28 = .ok (.ireturn, 1) := by decide +kernel
set_option maxRecDepth 20000 in
theorem ggX3_mirrored_X3_exchanged : GoodIn wsX3_mirrored wsX3_exchanged := goodIn_r _ [10] (by decide +kernel) (by decide +kernel)
set_option maxRecDepth 20000 in
theorem gX3_mirrored_X3_exchanged : GoodIn wsX3_mirrored (va_wsS RX3 60 yX3_exchanged wsX3_exchanged) := goodIn_app (goodIn_of _ (by decide +kernel)) ggX3_mirrored_X3_exchanged
theorem dX3_mirrored_0 : decode cX3_mirrored 0 = .ok (.lload_n 0, 1) := by decide +kernel
theorem dX3_mirrored_1 : decode cX3_mirrored 1 = .ok (.lstore_n 3, 1) := by decide +kernel
theorem dX3_mirrored_2 : decode cX3_mirrored 2 = .ok (.iload_n 2, 1) := by decide +kernel
theorem dX3_mirrored_3 : decode cX3_mirrored 3 = .ok (.iconst 1, 1) := by decide +kernel
theorem dX3_mirrored_4 : decode cX3_mirrored 4 = .ok (.iand, 1) := by decide +kernel
theorem dX3_mirrored_5 : decode cX3_mirrored 5 = .ok (.ifCond .eq 30, 3) := by decide +kernel
theorem dX3_mirrored_8 : decode cX3_mirrored 8 = .ok (.lload_n 3, 1) := by decide +kernel
theorem dX3_mirrored_9 : decode cX3_mirrored 9 = .ok (.iconst 1, 1) := by decide +kernel
theorem dX3_mirrored_10 : decode cX3_mirrored 10 = .ok (.ldc2_w 58, 3) := by decide +kernel
theorem dX3_mirrored_13 : decode cX3_mirrored 13 = .ok (.invokestatic 60, 3) := by decide +kernel
theorem dX3_mirrored_16 : decode cX3_mirrored 16 = .ok (.lstore_n 3, 1) := by decide +kernel
theorem dX3_mirrored_17 : decode cX3_mirrored 17 = .ok (.lload_n 3, 1) := by decide +kernel
theorem dX3_mirrored_18 : decode cX3_mirrored 18 = .ok (.iconst 2, 1) := by decide +kernel
theorem dX3_mirrored_19 : decode cX3_mirrored 19 = .ok (.ldc2_w 64, 3) := by decide +kernel
theorem dX3_mirrored_22 : decode cX3_mirrored 22 = .ok (.invokestatic 60, 3) := by decide +kernel
theorem dX3_mirrored_25 : decode cX3_mirrored 25 = .ok (.lstore_n 3, 1) := by decide +kernel
theorem dX3_mirrored_26 : decode cX3_mirrored 26 = .ok (.lload_n 3, 1) := by decide +kernel
theorem dX3_mirrored_27 : decode cX3_mirrored 27 = .ok (.iconst 4, 1) := by decide +kernel
theorem dX3_mirrored_28 : decode cX3_mirrored 28 = .ok (.ldc2_w 66, 3) := by decide +kernel
theorem dX3_mirrored_31 : decode cX3_mirrored 31 = .ok (.invokestatic 60, 3) := by decide +kernel
theorem dX3_mirrored_34 : decode cX3_mirrored 34 = .ok (.lstore_n 3, 1) := by decide +kernel
theorem dX3_mirrored_35 : decode cX3_mirrored 35 = .ok (.iload_n 2, 1) := by decide +kernel
theorem dX3_mirrored_36 : decode cX3_mirrored 36 = .ok (.iconst 2, 1) := by decide +kernel
theorem dX3_mirrored_37 : decode cX3_mirrored 37 = .ok (.iand, 1) := by decide +kernel
theorem dX3_mirrored_38 : decode cX3_mirrored 38 = .ok (.ifCond .eq 33, 3) := by decide +kernel
theorem dX3_mirrored_41 : decode cX3_mirrored 41 = .ok (.lload_n 3, 1) := by decide +kernel
theorem dX3_mirrored_42 : decode cX3_mirrored 42 = .ok (.bipush 8, 2) := by decide +kernel
theorem dX3_mirrored_44 : decode cX3_mirrored 44 = .ok (.ldc2_w 68, 3) := by decide +kernel
theorem dX3_mirrored_47 : decode cX3_mirrored 47 = .ok (.invokestatic 60, 3) := by decide +kernel
theorem dX3_mirrored_50 : decode cX3_mirrored 50 = .ok (.lstore_n 3, 1) := by decide +kernel
theorem dX3_mirrored_51 : decode cX3_mirrored 51 = .ok (.lload_n 3, 1) := by decide +kernel
theorem dX3_mirrored_52 : decode cX3_mirrored 52 = .ok (.bipush 16, 2) := by decide +kernel
theorem dX3_mirrored_54 : decode cX3_mirrored 54 = .ok (.ldc2_w 70, 3) := by decide +kernel
theorem dX3_mirrored_57 : decode cX3_mirrored 57 = .ok (.invokestatic 60, 3) := by decide +kernel
theorem dX3_mirrored_60 : decode cX3_mirrored 60 = .ok (.lstore_n 3, 1) := by decide +kernel
theorem dX3_mirrored_61 : decode cX3_mirrored 61 = .ok (.lload_n 3, 1) := by decide +kernel
theorem dX3_mirrored_62 : decode cX3_mirrored 62 = .ok (.bipush 32, 2) := by decide +kernel
theorem dX3_mirrored_64 : decode cX3_mirrored 64 = .ok (.ldc2_w 72, 3) := by decide +kernel
theorem dX3_mirrored_67 : decode cX3_mirrored 67 = .ok (.invokestatic 60, 3) := by decide +kernel
theorem dX3_mirrored_70 : decode cX3_mirrored 70 = .ok (.lstore_n 3, 1) := by decide +kernel
theorem dX3_mirrored_71 : decode cX3_mirrored 71 = .ok (.lload_n 3, 1) := by decide +kernel
theorem dX3_mirrored_72 : decode cX3_mirrored 72 = .ok (.lreturn, 1) := by decide +kernel
theorem dX3_exchanged_0 : decode cX3_exchanged 0 = .ok (.lload_n 0, 1) := by decide +kernel
theorem dX3_exchanged_1 : decode cX3_exchanged 1 = .ok (.iload_n 2, 1) := by decide +kernel
theorem dX3_exchanged_2 : decode cX3_exchanged 2 = .ok (.lushr, 1) := by decide +kernel
theorem dX3_exchanged_3 : decode cX3_exchanged 3 = .ok (.lload_n 3, 1) := by decide +kernel
theorem dX3_exchanged_4 : decode cX3_exchanged 4 = .ok (.land, 1) := by decide +kernel
theorem dX3_exchanged_5 : decode cX3_exchanged 5 = .ok (.lload_n 0, 1) := by decide +kernel
theorem dX3_exchanged_6 : decode cX3_exchanged 6 = .ok (.lload_n 3, 1) := by decide +kernel
theorem dX3_exchanged_7 : decode cX3_exchanged 7 = .ok (.land, 1) := by decide +kernel
theorem dX3_exchanged_8 : decode cX3_exchanged 8 = .ok (.iload_n 2, 1) := by decide +kernel
theorem dX3_exchanged_9 : decode cX3_exchanged 9 = .ok (.lshl, 1) := by decide +kernel
theorem dX3_exchanged_10 : decode cX3_exchanged 10 = .ok (.lor, 1) := by decide +kernel
theorem dX3_exchanged_11 : decode cX3_exchanged 11 = .ok (.lreturn, 1) := by decide +kernel
set_option maxRecDepth 20000 in
theorem ggX4_init_X3_init : GoodIn wsX4_init wsX3_init := goodIn_r _ [15, 16, 2, 3, 17, 18, 19, 29, 30, 31] (by decide +kernel) (by decide +kernel)
set_option maxRecDepth 20000 in
theorem gX4_init_X3_init_n17 : GoodIn wsX4_init (wsX3_init) := ggX4_init_X3_init
theorem dX4_init_0 : decode cX4_init 0 = .ok (.aload_n 0, 1) := by decide +kernel
theorem dX4_init_1 : decode cX4_init 1 = .ok (.invokespecial 3, 3) := by decide +kernel
theorem dX4_init_4 : decode cX4_init 4 = .ok (.aload_n 0, 1) := by decide +kernel
theorem dX4_init_5 : decode cX4_init 5 = .ok (.iconst 4, 1) := by decide +kernel
theorem dX4_init_6 : decode cX4_init 6 = .ok (.putfield 9, 3) := by decide +kernel
theorem dX4_init_9 : decode cX4_init 9 = .ok (.aload_n 0, 1) := by decide +kernel
theorem dX4_init_10 : decode cX4_init 10 = .ok (.new 15, 3) := by decide +kernel
theorem dX4_init_13 : decode cX4_init 13 = .ok (.dup, 1) := by decide +kernel
theorem dX4_init_14 : decode cX4_init 14 = .ok (.invokespecial 17, 3) := by decide +kernel
theorem dX4_init_17 : decode cX4_init 17 = .ok (.putfield 18, 3) := by decide +kernel
theorem dX4_init_20 : decode cX4_init 20 = .ok (.aload_n 0, 1) := by decide +kernel
theorem dX4_init_21 : decode cX4_init 21 = .ok (.bipush 120, 2) := by decide +kernel
theorem dX4_init_23 : decode cX4_init 23 = .ok (.newarray .int, 2) := by decide +kernel
theorem dX4_init_25 : decode cX4_init 25 = .ok (.putfield 22, 3) := by decide +kernel
theorem dX4_init_28 : decode cX4_init 28 = .ok (.aload_n 0, 1) := by decide +kernel
theorem dX4_init_29 : decode cX4_init 29 = .ok (.bipush 16, 2) := by decide +kernel
theorem dX4_init_31 : decode cX4_init 31 = .ok (.newarray .int, 2) := by decide +kernel
theorem dX4_init_33 : decode cX4_init 33 = .ok (.putfield 26, 3) := by decide +kernel
theorem dX4_init_36 : decode cX4_init 36 = .ok (.aload_n 0, 1) := by decide +kernel
theorem dX4_init_37 : decode cX4_init 37 = .ok (.bipush 32, 2) := by decide +kernel
theorem dX4_init_39 : decode cX4_init 39 = .ok (.newarray .int, 2) := by decide +kernel
theorem dX4_init_41 : decode cX4_init 41 = .ok (.putfield 29, 3) := by decide +kernel
theorem dX4_init_44 : decode cX4_init 44 = .ok (.aload_n 0, 1) := by decide +kernel
theorem dX4_init_45 : decode cX4_init 45 = .ok (.bipush 32, 2) := by decide +kernel
theorem dX4_init_47 : decode cX4_init 47 = .ok (.newarray .int, 2) := by decide +kernel
theorem dX4_init_49 : decode cX4_init 49 = .ok (.putfield 32, 3) := by decide +kernel
theorem dX4_init_52 : decode cX4_init 52 = .ok (.iconst 0, 1) := by decide +kernel
theorem dX4_init_53 : decode cX4_init 53 = .ok (.istore_n 1, 1) := by decide +kernel
theorem dX4_init_54 : decode cX4_init 54 = .ok (.iload_n 1, 1) := by decide +kernel
theorem dX4_init_55 : decode cX4_init 55 = .ok (.iconst 4, 1) := by decide +kernel
theorem dX4_init_56 : decode cX4_init 56 = .ok (.if_icmp .ge 38, 3) := by decide +kernel
theorem dX4_init_59 : decode cX4_init 59 = .ok (.iconst 1, 1) := by decide +kernel
theorem dX4_init_60 : decode cX4_init 60 = .ok (.istore_n 2, 1) := by decide +kernel
theorem dX4_init_61 : decode cX4_init 61 = .ok (.iload_n 2, 1) := by decide +kernel
theorem dX4_init_62 : decode cX4_init 62 = .ok (.iconst 4, 1) := by decide +kernel
theorem dX4_init_63 : decode cX4_init 63 = .ok (.if_icmp .ge 25, 3) := by decide +kernel
theorem dX4_init_66 : decode cX4_init 66 = .ok (.aload_n 0, 1) := by decide +kernel
theorem dX4_init_67 : decode cX4_init 67 = .ok (.getfield 26, 3) := by decide +kernel
theorem dX4_init_70 : decode cX4_init 70 = .ok (.iconst 4, 1) := by decide +kernel
theorem dX4_init_71 : decode cX4_init 71 = .ok (.iload_n 1, 1) := by decide +kernel
theorem dX4_init_72 : decode cX4_init 72 = .ok (.imul, 1) := by decide +kernel
theorem dX4_init_73 : decode cX4_init 73 = .ok (.iload_n 2, 1) := by decide +kernel
theorem dX4_init_74 : decode cX4_init 74 = .ok (.iadd, 1) := by decide +kernel
theorem dX4_init_75 : decode cX4_init 75 = .ok (.bipush 16, 2) := by decide +kernel
theorem dX4_init_77 : decode cX4_init 77 = .ok (.iload_n 1, 1) := by decide +kernel
theorem dX4_init_78 : decode cX4_init 78 = .ok (.imul, 1) := by decide +kernel
theorem dX4_init_79 : decode cX4_init 79 = .ok (.iload_n 2, 1) := by decide +kernel
theorem dX4_init_80 : decode cX4_init 80 = .ok (.iadd, 1) := by decide +kernel
theorem dX4_init_81 : decode cX4_init 81 = .ok (.iastore, 1) := by decide +kernel
theorem dX4_init_82 : decode cX4_init 82 = .ok (.iinc 2 1, 3) := by decide +kernel
theorem dX4_init_85 : decode cX4_init 85 = .ok (.goto (-24), 3) := by decide +kernel
theorem dX4_init_88 : decode cX4_init 88 = .ok (.iinc 1 1, 3) := by decide +kernel
theorem dX4_init_91 : decode cX4_init 91 = .ok (.goto (-37), 3) := by decide +kernel
theorem dX4_init_94 : decode cX4_init 94 = .ok (.return_, 1) := by decide +kernel
set_option maxRecDepth 20000 in
theorem ggX4_copyFrom_X3_copyFrom : GoodIn wsX4_copyFrom wsX3_copyFrom := goodIn_r _ [18, 19, 20, 21, 8, 9, 10, 22, 32, 33, 34] (by decide +kernel) (by decide +kernel)
set_option maxRecDepth 20000 in
theorem gX4_copyFrom_X3_copyFrom : GoodIn wsX4_copyFrom (wsV RX4 44 RX3 yX3_copyFrom wsX3_copyFrom) := goodIn_app (goodIn_of _ (by decide +kernel)) ggX4_copyFrom_X3_copyFrom
theorem dX4_copyFrom_0 : decode cX4_copyFrom 0 = .ok (.aload_n 0, 1) := by decide +kernel
theorem dX4_copyFrom_1 : decode cX4_copyFrom 1 = .ok (.aload_n 1, 1) := by decide +kernel
theorem dX4_copyFrom_2 : decode cX4_copyFrom 2 = .ok (.getfield 35, 3) := by decide +kernel
theorem dX4_copyFrom_5 : decode cX4_copyFrom 5 = .ok (.putfield 35, 3) := by decide +kernel
theorem dX4_copyFrom_8 : decode cX4_copyFrom 8 = .ok (.aload_n 0, 1) := by decide +kernel
theorem dX4_copyFrom_9 : decode cX4_copyFrom 9 = .ok (.aload_n 1, 1) := by decide +kernel
theorem dX4_copyFrom_10 : decode cX4_copyFrom 10 = .ok (.getfield 9, 3) := by decide +kernel
theorem dX4_copyFrom_13 : decode cX4_copyFrom 13 = .ok (.putfield 9, 3) := by decide +kernel
theorem dX4_copyFrom_16 : decode cX4_copyFrom 16 = .ok (.aload_n 0, 1) := by decide +kernel
theorem dX4_copyFrom_17 : decode cX4_copyFrom 17 = .ok (.aload_n 1, 1) := by decide +kernel
theorem dX4_copyFrom_18 : decode cX4_copyFrom 18 = .ok (.getfield 38, 3) := by decide +kernel
theorem dX4_copyFrom_21 : decode cX4_copyFrom 21 = .ok (.putfield 38, 3) := by decide +kernel
theorem dX4_copyFrom_24 : decode cX4_copyFrom 24 = .ok (.aload_n 0, 1) := by decide +kernel
theorem dX4_copyFrom_25 : decode cX4_copyFrom 25 = .ok (.aload_n 1, 1) := by decide +kernel
theorem dX4_copyFrom_26 : decode cX4_copyFrom 26 = .ok (.getfield 41, 3) := by decide +kernel
theorem dX4_copyFrom_29 : decode cX4_copyFrom 29 = .ok (.putfield 41, 3) := by decide +kernel
theorem dX4_copyFrom_32 : decode cX4_copyFrom 32 = .ok (.aload_n 0, 1) := by decide +kernel
theorem dX4_copyFrom_33 : decode cX4_copyFrom 33 = .ok (.getfield 18, 3) := by decide +kernel
theorem dX4_copyFrom_36 : decode cX4_copyFrom 36 = .ok (.aload_n 1, 1) := by decide +kernel
theorem dX4_copyFrom_37 : decode cX4_copyFrom 37 = .ok (.getfield 18, 3) := by decide +kernel
theorem dX4_copyFrom_40 : decode cX4_copyFrom 40 = .ok (.invokevirtual 44, 3) := by decide +kernel
theorem dX4_copyFrom_43 : decode cX4_copyFrom 43 = .ok (.aload_n 1, 1) := by decide +kernel
theorem dX4_copyFrom_44 : decode cX4_copyFrom 44 = .ok (.getfield 22, 3) := by decide +kernel
theorem dX4_copyFrom_47 : decode cX4_copyFrom 47 = .ok (.iconst 0, 1) := by decide +kernel
theorem dX4_copyFrom_48 : decode cX4_copyFrom 48 = .ok (.aload_n 0, 1) := by decide +kernel
theorem dX4_copyFrom_49 : decode cX4_copyFrom 49 = .ok (.getfield 22, 3) := by decide +kernel
theorem dX4_copyFrom_52 : decode cX4_copyFrom 52 = .ok (.iconst 0, 1) := by decide +kernel
theorem dX4_copyFrom_53 : decode cX4_copyFrom 53 = .ok (.bipush 120, 2) := by decide +kernel
theorem dX4_copyFrom_55 : decode cX4_copyFrom 55 = .ok (.invokestatic 48, 3) := by decide +kernel
theorem dX4_copyFrom_58 : decode cX4_copyFrom 58 = .ok (.aload_n 1, 1) := by decide +kernel
theorem dX4_copyFrom_59 : decode cX4_copyFrom 59 = .ok (.getfield 26, 3) := by decide +kernel
theorem dX4_copyFrom_62 : decode cX4_copyFrom 62 = .ok (.iconst 0, 1) := by decide +kernel
theorem dX4_copyFrom_63 : decode cX4_copyFrom 63 = .ok (.aload_n 0, 1) := by decide +kernel
theorem dX4_copyFrom_64 : decode cX4_copyFrom 64 = .ok (.getfield 26, 3) := by decide +kernel
theorem dX4_copyFrom_67 : decode cX4_copyFrom 67 = .ok (.iconst 0, 1) := by decide +kernel
theorem dX4_copyFrom_68 : decode cX4_copyFrom 68 = .ok (.bipush 16, 2) := by decide +kernel
theorem dX4_copyFrom_70 : decode cX4_copyFrom 70 = .ok (.invokestatic 48, 3) := by decide +kernel
theorem dX4_copyFrom_73 : decode cX4_copyFrom 73 = .ok (.aload_n 1, 1) := by decide +kernel
theorem dX4_copyFrom_74 : decode cX4_copyFrom 74 = .ok (.getfield 29, 3) := by decide +kernel
theorem dX4_copyFrom_77 : decode cX4_copyFrom 77 = .ok (.iconst 0, 1) := by decide +kernel
theorem dX4_copyFrom_78 : decode cX4_copyFrom 78 = .ok (.aload_n 0, 1) := by decide +kernel
theorem dX4_copyFrom_79 : decode cX4_copyFrom 79 = .ok (.getfield 29, 3) := by decide +kernel
theorem dX4_copyFrom_82 : decode cX4_copyFrom 82 = .ok (.iconst 0, 1) := by decide +kernel
theorem dX4_copyFrom_83 : decode cX4_copyFrom 83 = .ok (.bipush 32, 2) := by decide +kernel
theorem dX4_copyFrom_85 : decode cX4_copyFrom 85 = .ok (.invokestatic 48, 3) := by decide +kernel
theorem dX4_copyFrom_88 : decode cX4_copyFrom 88 = .ok (.aload_n 1, 1) := by decide +kernel
theorem dX4_copyFrom_89 : decode cX4_copyFrom 89 = .ok (.getfield 32, 3) := by decide +kernel
theorem dX4_copyFrom_92 : decode cX4_copyFrom 92 = .ok (.iconst 0, 1) := by decide +kernel
theorem dX4_copyFrom_93 : decode cX4_copyFrom 93 = .ok (.aload_n 0, 1) := by decide +kernel
theorem dX4_copyFrom_94 : decode cX4_copyFrom 94 = .ok (.getfield 32, 3) := by decide +kernel
theorem dX4_copyFrom_97 : decode cX4_copyFrom 97 = .ok (.iconst 0, 1) := by decide +kernel
theorem dX4_copyFrom_98 : decode cX4_copyFrom 98 = .ok (.bipush 32, 2) := by decide +kernel
theorem dX4_copyFrom_100 : decode cX4_copyFrom 100 = .ok (.invokestatic 48, 3) := by decide +kernel
theorem dX4_copyFrom_103 : decode cX4_copyFrom 103 = .ok (.return_, 1) := by decide +kernel
theorem dX4_property_0 : decode cX4_property 0 = .ok (.bipush 6, 2) := by decide +kernel
theorem dX4_property_2 : decode cX4_property 2 = .ok (.iload_n 1, 1) := by decide +kernel
theorem dX4_property_3 : decode cX4_property 3 = .ok (.imul, 1) := by decide +kernel
theorem dX4_property_4 : decode cX4_property 4 = .ok (.iload_n 2, 1) := by decide +kernel
theorem dX4_property_5 : decode cX4_property 5 = .ok (.iadd, 1) := by decide +kernel
theorem dX4_property_6 : decode cX4_property 6 = .ok (.istore_n 3, 1) := by decide +kernel
theorem dX4_property_7 : decode cX4_property 7 = .ok (.iload_n 3, 1) := by decide +kernel
theorem dX4_property_8 : decode cX4_property 8 = .ok (.ifCond .lt 21, 3) := by decide +kernel
theorem dX4_property_11 : decode cX4_property 11 = .ok (.iload_n 3, 1) := by decide +kernel
theorem dX4_property_12 : decode cX4_property 12 = .ok (.aload_n 0, 1) := by decide +kernel
theorem dX4_property_13 : decode cX4_property 13 = .ok (.getfield 22, 3) := by decide +kernel
theorem dX4_property_16 : decode cX4_property 16 = .ok (.arraylength, 1) := by decide +kernel
theorem dX4_property_17 : decode cX4_property 17 = .ok (.if_icmp .ge 12, 3) := by decide +kernel
theorem dX4_property_20 : decode cX4_property 20 = .ok (.aload_n 0, 1) := by decide +kernel
theorem dX4_property_21 : decode cX4_property 21 = .ok (.getfield 22, 3) := by decide +kernel
theorem dX4_property_24 : decode cX4_property 24 = .ok (.iload_n 3, 1) := by decide +kernel
theorem dX4_property_25 : decode cX4_property 25 = .ok (.iaload, 1) := by decide +kernel
theorem dX4_property_26 : decode cX4_property 26 = .ok (.goto 4, 3) := by decide +kernel
theorem dX4_property_29 : decode cX4_property 29 = .ok (.iconst 0, 1) := by decide +kernel
theorem dX4_property_30 : decode cX4_property 30 = .ok (.ireturn, 1) := by decide +kernel
theorem dX4_putProperty_0 : decode cX4_putProperty 0 = .ok (.bipush 6, 2) := by decide +kernel
theorem dX4_putProperty_2 : decode cX4_putProperty 2 = .ok (.iload_n 1, 1) := by decide +kernel
theorem dX4_putProperty_3 : decode cX4_putProperty 3 = .ok (.imul, 1) := by decide +kernel
theorem dX4_putProperty_4 : decode cX4_putProperty 4 = .ok (.iload_n 2, 1) := by decide +kernel
theorem dX4_putProperty_5 : decode cX4_putProperty 5 = .ok (.iadd, 1) := by decide +kernel
theorem dX4_putProperty_6 : decode cX4_putProperty 6 = .ok (.istore 4, 2) := by decide +kernel
theorem dX4_putProperty_8 : decode cX4_putProperty 8 = .ok (.iload 4, 2) := by decide +kernel
theorem dX4_putProperty_10 : decode cX4_putProperty 10 = .ok (.ifCond .lt 21, 3) := by decide +kernel
theorem dX4_putProperty_13 : decode cX4_putProperty 13 = .ok (.iload 4, 2) := by decide +kernel
theorem dX4_putProperty_15 : decode cX4_putProperty 15 = .ok (.aload_n 0, 1) := by decide +kernel
theorem dX4_putProperty_16 : decode cX4_putProperty 16 = .ok (.getfield 22, 3) := by decide +kernel
theorem dX4_putProperty_19 : decode cX4_putProperty 19 = .ok (.arraylength, 1) := by decide +kernel
theorem dX4_putProperty_20 : decode cX4_putProperty 20 = .ok (.if_icmp .ge 11, 3) := by decide +kernel
theorem dX4_putProperty_23 : decode cX4_putProperty 23 = .ok (.aload_n 0, 1) := by decide +kernel
theorem dX4_putProperty_24 : decode cX4_putProperty 24 = .ok (.getfield 22, 3) := by decide +kernel
theorem dX4_putProperty_27 : decode cX4_putProperty 27 = .ok (.iload 4, 2) := by decide +kernel
theorem dX4_putProperty_29 : decode cX4_putProperty 29 = .ok (.iload_n 3, 1) := by decide +kernel
theorem dX4_putProperty_30 : decode cX4_putProperty 30 = .ok (.iastore, 1) := by decide +kernel
theorem dX4_putProperty_31 : decode cX4_putProperty 31 = .ok (.return_, 1) := by decide +kernel
theorem dX4_colorOf_0 : decode cX4_colorOf 0 = .ok (.iconst 4, 1) := by decide +kernel
theorem dX4_colorOf_1 : decode cX4_colorOf 1 = .ok (.iload_n 1, 1) := by decide +kernel
theorem dX4_colorOf_2 : decode cX4_colorOf 2 = .ok (.imul, 1) := by decide +kernel
theorem dX4_colorOf_3 : decode cX4_colorOf 3 = .ok (.iload_n 2, 1) := by decide +kernel
theorem dX4_colorOf_4 : decode cX4_colorOf 4 = .ok (.iadd, 1) := by decide +kernel
theorem dX4_colorOf_5 : decode cX4_colorOf 5 = .ok (.istore_n 3, 1) := by decide +kernel
theorem dX4_colorOf_6 : decode cX4_colorOf 6 = .ok (.iload_n 3, 1) := by decide +kernel
theorem dX4_colorOf_7 : decode cX4_colorOf 7 = .ok (.ifCond .lt 21, 3) := by decide +kernel
theorem dX4_colorOf_10 : decode cX4_colorOf 10 = .ok (.iload_n 3, 1) := by decide +kernel
theorem dX4_colorOf_11 : decode cX4_colorOf 11 = .ok (.aload_n 0, 1) := by decide +kernel
theorem dX4_colorOf_12 : decode cX4_colorOf 12 = .ok (.getfield 26, 3) := by decide +kernel
theorem dX4_colorOf_15 : decode cX4_colorOf 15 = .ok (.arraylength, 1) := by decide +kernel
theorem dX4_colorOf_16 : decode cX4_colorOf 16 = .ok (.if_icmp .ge 12, 3) := by decide +kernel
theorem dX4_colorOf_19 : decode cX4_colorOf 19 = .ok (.aload_n 0, 1) := by decide +kernel
theorem dX4_colorOf_20 : decode cX4_colorOf 20 = .ok (.getfield 26, 3) := by decide +kernel
theorem dX4_colorOf_23 : decode cX4_colorOf 23 = .ok (.iload_n 3, 1) := by decide +kernel
theorem dX4_colorOf_24 : decode cX4_colorOf 24 = .ok (.iaload, 1) := by decide +kernel
theorem dX4_colorOf_25 : decode cX4_colorOf 25 = .ok (.goto 4, 3) := by decide +kernel
theorem dX4_colorOf_28 : decode cX4_colorOf 28 = .ok (.iconst 0, 1) := by decide +kernel
theorem dX4_colorOf_29 : decode cX4_colorOf 29 = .ok (.ireturn, 1) := by decide +kernel
theorem dX4_putColor_0 : decode cX4_putColor 0 = .ok (.iconst 4, 1) := by decide +kernel
theorem dX4_putColor_1 : decode cX4_putColor 1 = .ok (.iload_n 1, 1) := by decide +kernel
theorem dX4_putColor_2 : decode cX4_putColor 2 = .ok (.imul, 1) := by decide +kernel
theorem dX4_putColor_3 : decode cX4_putColor 3 = .ok (.iload_n 2, 1) := by decide +kernel
theorem dX4_putColor_4 : decode cX4_putColor 4 = .ok (.iadd, 1) := by decide +kernel
theorem dX4_putColor_5 : decode cX4_putColor 5 = .ok (.istore 4, 2) := by decide +kernel
theorem dX4_putColor_7 : decode cX4_putColor 7 = .ok (.iload 4, 2) := by decide +kernel
theorem dX4_putColor_9 : decode cX4_putColor 9 = .ok (.ifCond .lt 21, 3) := by decide +kernel
theorem dX4_putColor_12 : decode cX4_putColor 12 = .ok (.iload 4, 2) := by decide +kernel
theorem dX4_putColor_14 : decode cX4_putColor 14 = .ok (.aload_n 0, 1) := by decide +kernel
theorem dX4_putColor_15 : decode cX4_putColor 15 = .ok (.getfield 26, 3) := by decide +kernel
theorem dX4_putColor_18 : decode cX4_putColor 18 = .ok (.arraylength, 1) := by decide +kernel
theorem dX4_putColor_19 : decode cX4_putColor 19 = .ok (.if_icmp .ge 11, 3) := by decide +kernel
theorem dX4_putColor_22 : decode cX4_putColor 22 = .ok (.aload_n 0, 1) := by decide +kernel
theorem dX4_putColor_23 : decode cX4_putColor 23 = .ok (.getfield 26, 3) := by decide +kernel
theorem dX4_putColor_26 : decode cX4_putColor 26 = .ok (.iload 4, 2) := by decide +kernel
theorem dX4_putColor_28 : decode cX4_putColor 28 = .ok (.iload_n 3, 1) := by decide +kernel
theorem dX4_putColor_29 : decode cX4_putColor 29 = .ok (.iastore, 1) := by decide +kernel
theorem dX4_putColor_30 : decode cX4_putColor 30 = .ok (.return_, 1) := by decide +kernel
theorem dX4_lowerOfSwap_0 : decode cX4_lowerOfSwap 0 = .ok (.iload_n 1, 1) := by decide +kernel
theorem dX4_lowerOfSwap_1 : decode cX4_lowerOfSwap 1 = .ok (.ifCond .lt 21, 3) := by decide +kernel
theorem dX4_lowerOfSwap_4 : decode cX4_lowerOfSwap 4 = .ok (.iload_n 1, 1) := by decide +kernel
theorem dX4_lowerOfSwap_5 : decode cX4_lowerOfSwap 5 = .ok (.aload_n 0, 1) := by decide +kernel
theorem dX4_lowerOfSwap_6 : decode cX4_lowerOfSwap 6 = .ok (.getfield 29, 3) := by decide +kernel
theorem dX4_lowerOfSwap_9 : decode cX4_lowerOfSwap 9 = .ok (.arraylength, 1) := by decide +kernel
theorem dX4_lowerOfSwap_10 : decode cX4_lowerOfSwap 10 = .ok (.if_icmp .ge 12, 3) := by decide +kernel
theorem dX4_lowerOfSwap_13 : decode cX4_lowerOfSwap 13 = .ok (.aload_n 0, 1) := by decide +kernel
theorem dX4_lowerOfSwap_14 : decode cX4_lowerOfSwap 14 = .ok (.getfield 29, 3) := by decide +kernel
theorem dX4_lowerOfSwap_17 : decode cX4_lowerOfSwap 17 = .ok (.iload_n 1, 1) := by decide +kernel
theorem dX4_lowerOfSwap_18 : decode cX4_lowerOfSwap 18 = .ok (.iaload, 1) := by decide +kernel
theorem dX4_lowerOfSwap_19 : decode cX4_lowerOfSwap 19 = .ok (.goto 4, 3) := by decide +kernel
theorem dX4_lowerOfSwap_22 : decode cX4_lowerOfSwap 22 = .ok (.iconst 0, 1) := by decide +kernel
theorem dX4_lowerOfSwap_23 : decode cX4_lowerOfSwap 23 = .ok (.ireturn, 1) := by decide +kernel
theorem dX4_upperOfSwap_0 : decode cX4_upperOfSwap 0 = .ok (.iload_n 1, 1) := by decide +kernel
theorem dX4_upperOfSwap_1 : decode cX4_upperOfSwap 1 = .ok (.ifCond .lt 21, 3) := by decide +kernel
theorem dX4_upperOfSwap_4 : decode cX4_upperOfSwap 4 = .ok (.iload_n 1, 1) := by decide +kernel
theorem dX4_upperOfSwap_5 : decode cX4_upperOfSwap 5 = .ok (.aload_n 0, 1) := by decide +kernel
theorem dX4_upperOfSwap_6 : decode cX4_upperOfSwap 6 = .ok (.getfield 32, 3) := by decide +kernel
theorem dX4_upperOfSwap_9 : decode cX4_upperOfSwap 9 = .ok (.arraylength, 1) := by decide +kernel
theorem dX4_upperOfSwap_10 : decode cX4_upperOfSwap 10 = .ok (.if_icmp .ge 12, 3) := by decide +kernel
theorem dX4_upperOfSwap_13 : decode cX4_upperOfSwap 13 = .ok (.aload_n 0, 1) := by decide +kernel
theorem dX4_upperOfSwap_14 : decode cX4_upperOfSwap 14 = .ok (.getfield 32, 3) := by decide +kernel
theorem dX4_upperOfSwap_17 : decode cX4_upperOfSwap 17 = .ok (.iload_n 1, 1) := by decide +kernel
theorem dX4_upperOfSwap_18 : decode cX4_upperOfSwap 18 = .ok (.iaload, 1) := by decide +kernel
theorem dX4_upperOfSwap_19 : decode cX4_upperOfSwap 19 = .ok (.goto 4, 3) := by decide +kernel
theorem dX4_upperOfSwap_22 : decode cX4_upperOfSwap 22 = .ok (.iconst 0, 1) := by decide +kernel
theorem dX4_upperOfSwap_23 : decode cX4_upperOfSwap 23 = .ok (.ireturn, 1) := by decide +kernel
set_option maxRecDepth 20000 in
theorem ggX4_hasSwap_X4_lowerOfSwap : GoodIn wsX4_hasSwap wsX4_lowerOfSwap := goodIn_r _ [5, 6, 12, 13, 14, 15, 16, 17, 18, 19, 20] (by decide +kernel) (by decide +kernel)
set_option maxRecDepth 20000 in
theorem gX4_hasSwap_X4_lowerOfSwap : GoodIn wsX4_hasSwap (wsV RX4 54 RX4 yX4_lowerOfSwap wsX4_lowerOfSwap) := goodIn_app (goodIn_of _ (by decide +kernel)) ggX4_hasSwap_X4_lowerOfSwap
set_option maxRecDepth 20000 in
theorem ggX4_hasSwap_X4_upperOfSwap : GoodIn wsX4_hasSwap wsX4_upperOfSwap := goodIn_r _ [10, 11, 12, 13, 14, 15, 16, 17, 18, 19, 20] (by decide +kernel) (by decide +kernel)
set_option maxRecDepth 20000 in
theorem gX4_hasSwap_X4_upperOfSwap : GoodIn wsX4_hasSwap (wsV RX4 58 RX4 yX4_upperOfSwap wsX4_upperOfSwap) := goodIn_app (goodIn_of _ (by decide +kernel)) ggX4_hasSwap_X4_upperOfSwap
theorem dX4_hasSwap_0 : decode cX4_hasSwap 0 = .ok (.aload_n 0, 1) := by decide +kernel
theorem dX4_hasSwap_1 : decode cX4_hasSwap 1 = .ok (.iload_n 1, 1) := by decide +kernel
theorem dX4_hasSwap_2 : decode cX4_hasSwap 2 = .ok (.invokevirtual 54, 3) := by decide +kernel
theorem dX4_hasSwap_5 : decode cX4_hasSwap 5 = .ok (.aload_n 0, 1) := by decide +kernel
theorem dX4_hasSwap_6 : decode cX4_hasSwap 6 = .ok (.iload_n 1, 1) := by decide +kernel
theorem dX4_hasSwap_7 : decode cX4_hasSwap 7 = .ok (.invokevirtual 58, 3) := by decide +kernel
theorem dX4_hasSwap_10 : decode cX4_hasSwap 10 = .ok (.if_icmp .eq 7, 3) := by decide +kernel
theorem dX4_hasSwap_13 : decode cX4_hasSwap 13 = .ok (.iconst 1, 1) := by decide +kernel
theorem dX4_hasSwap_14 : decode cX4_hasSwap 14 = .ok (.goto 4, 3) := by decide +kernel
theorem dX4_hasSwap_17 : decode cX4_hasSwap 17 = .ok (.iconst 0, 1) := by decide +kernel
theorem dX4_hasSwap_18 : decode cX4_hasSwap 18 = .ok (.ireturn, 1) := by decide +kernel
theorem dX4_putSwap_0 : decode cX4_putSwap 0 = .ok (.iload_n 1, 1) := by decide +kernel
theorem dX4_putSwap_1 : decode cX4_putSwap 1 = .ok (.ifCond .lt 43, 3) := by decide +kernel
theorem dX4_putSwap_4 : decode cX4_putSwap 4 = .ok (.iload_n 1, 1) := by decide +kernel
theorem dX4_putSwap_5 : decode cX4_putSwap 5 = .ok (.aload_n 0, 1) := by decide +kernel
theorem dX4_putSwap_6 : decode cX4_putSwap 6 = .ok (.getfield 29, 3) := by decide +kernel
theorem dX4_putSwap_9 : decode cX4_putSwap 9 = .ok (.arraylength, 1) := by decide +kernel
theorem dX4_putSwap_10 : decode cX4_putSwap 10 = .ok (.if_icmp .ge 34, 3) := by decide +kernel
theorem dX4_putSwap_13 : decode cX4_putSwap 13 = .ok (.iload_n 1, 1) := by decide +kernel
theorem dX4_putSwap_14 : decode cX4_putSwap 14 = .ok (.aload_n 0, 1) := by decide +kernel
theorem dX4_putSwap_15 : decode cX4_putSwap 15 = .ok (.getfield 32, 3) := by decide +kernel
theorem dX4_putSwap_18 : decode cX4_putSwap 18 = .ok (.arraylength, 1) := by decide +kernel
theorem dX4_putSwap_19 : decode cX4_putSwap 19 = .ok (.if_icmp .ge 25, 3) := by decide +kernel
theorem dX4_putSwap_22 : decode cX4_putSwap 22 = .ok (.aload_n 0, 1) := by decide +kernel
theorem dX4_putSwap_23 : decode cX4_putSwap 23 = .ok (.getfield 29, 3) := by decide +kernel
theorem dX4_putSwap_26 : decode cX4_putSwap 26 = .ok (.iload_n 1, 1) := by decide +kernel
theorem dX4_putSwap_27 : decode cX4_putSwap 27 = .ok (.iload_n 2, 1) := by decide +kernel
theorem dX4_putSwap_28 : decode cX4_putSwap 28 = .ok (.iload_n 3, 1) := by decide +kernel
theorem dX4_putSwap_29 : decode cX4_putSwap 29 = .ok (.invokestatic 61, 3) := by decide +kernel
theorem dX4_putSwap_32 : decode cX4_putSwap 32 = .ok (.iastore, 1) := by decide +kernel
theorem dX4_putSwap_33 : decode cX4_putSwap 33 = .ok (.aload_n 0, 1) := by decide +kernel
theorem dX4_putSwap_34 : decode cX4_putSwap 34 = .ok (.getfield 32, 3) := by decide +kernel
theorem dX4_putSwap_37 : decode cX4_putSwap 37 = .ok (.iload_n 1, 1) := by decide +kernel
theorem dX4_putSwap_38 : decode cX4_putSwap 38 = .ok (.iload_n 2, 1) := by decide +kernel
theorem dX4_putSwap_39 : decode cX4_putSwap 39 = .ok (.iload_n 3, 1) := by decide +kernel
theorem dX4_putSwap_40 : decode cX4_putSwap 40 = .ok (.invokestatic 67, 3) := by decide +kernel
theorem dX4_putSwap_43 : decode cX4_putSwap 43 = .ok (.iastore, 1) := by decide +kernel
theorem dX4_putSwap_44 : decode cX4_putSwap 44 = .ok (.return_, 1) := by decide +kernel
set_option maxRecDepth 20000 in
theorem ggX4_linesWithSwap_X4_hasSwap : GoodIn wsX4_linesWithSwap wsX4_hasSwap := goodIn_r _ [5, 6, 7, 8, 4, 9, 10, 11, 12, 13, 14, 15, 16, 17, 18, 19, 20, 21, 22, 23, 24] (by decide +kernel) (by decide +kernel)
set_option maxRecDepth 20000 in
theorem gX4_linesWithSwap_X4_hasSwap : GoodIn wsX4_linesWithSwap (wsV RX4 70 RX4 yX4_hasSwap wsX4_hasSwap) := goodIn_app (goodIn_of _ (by decide +kernel)) ggX4_linesWithSwap_X4_hasSwap
theorem dX4_linesWithSwap_0 : decode cX4_linesWithSwap 0 = .ok (.iconst 0, 1) := by decide +kernel
theorem dX4_linesWithSwap_1 : decode cX4_linesWithSwap 1 = .ok (.istore_n 1, 1) := by decide +kernel
theorem dX4_linesWithSwap_2 : decode cX4_linesWithSwap 2 = .ok (.iconst 0, 1) := by decide +kernel
theorem dX4_linesWithSwap_3 : decode cX4_linesWithSwap 3 = .ok (.istore_n 2, 1) := by decide +kernel
theorem dX4_linesWithSwap_4 : decode cX4_linesWithSwap 4 = .ok (.iload_n 2, 1) := by decide +kernel
theorem dX4_linesWithSwap_5 : decode cX4_linesWithSwap 5 = .ok (.bipush 32, 2) := by decide +kernel
theorem dX4_linesWithSwap_7 : decode cX4_linesWithSwap 7 = .ok (.if_icmp .ge 20, 3) := by decide +kernel
theorem dX4_linesWithSwap_10 : decode cX4_linesWithSwap 10 = .ok (.aload_n 0, 1) := by decide +kernel
theorem dX4_linesWithSwap_11 : decode cX4_linesWithSwap 11 = .ok (.iload_n 2, 1) := by decide +kernel
theorem dX4_linesWithSwap_12 : decode cX4_linesWithSwap 12 = .ok (.invokevirtual 70, 3) := by decide +kernel
theorem dX4_linesWithSwap_15 : decode cX4_linesWithSwap 15 = .ok (.ifCond .eq 6, 3) := by decide +kernel
theorem dX4_linesWithSwap_18 : decode cX4_linesWithSwap 18 = .ok (.iinc 1 1, 3) := by decide +kernel
theorem dX4_linesWithSwap_21 : decode cX4_linesWithSwap 21 = .ok (.iinc 2 1, 3) := by decide +kernel
theorem dX4_linesWithSwap_24 : decode cX4_linesWithSwap 24 = .ok (.goto (-20), 3) := by decide +kernel
theorem dX4_linesWithSwap_27 : decode cX4_linesWithSwap 27 = .ok (.iload_n 1, 1) := by decide +kernel
theorem dX4_linesWithSwap_28 : decode cX4_linesWithSwap 28 = .ok (.ireturn, 1) := by decide +kernel
set_option maxRecDepth 20000 in
theorem ggX4_paletteOnLine_X4_lowerOfSwap : GoodIn wsX4_paletteOnLine wsX4_lowerOfSwap := goodIn_r _ [5, 6, 12, 13, 14, 15, 16, 17, 18, 19, 20] (by decide +kernel) (by decide +kernel)
set_option maxRecDepth 20000 in
theorem gX4_paletteOnLine_X4_lowerOfSwap : GoodIn wsX4_paletteOnLine (wsV RX4 54 RX4 yX4_lowerOfSwap wsX4_lowerOfSwap) := goodIn_app (goodIn_of _ (by decide +kernel)) ggX4_paletteOnLine_X4_lowerOfSwap
set_option maxRecDepth 20000 in
theorem ggX4_paletteOnLine_X4_upperOfSwap : GoodIn wsX4_paletteOnLine wsX4_upperOfSwap := goodIn_r _ [10, 11, 12, 13, 14, 15, 16, 17, 18, 19, 20] (by decide +kernel) (by decide +kernel)
set_option maxRecDepth 20000 in
theorem gX4_paletteOnLine_X4_upperOfSwap : GoodIn wsX4_paletteOnLine (wsV RX4 58 RX4 yX4_upperOfSwap wsX4_upperOfSwap) := goodIn_app (goodIn_of _ (by decide +kernel)) ggX4_paletteOnLine_X4_upperOfSwap
theorem dX4_paletteOnLine_0 : decode cX4_paletteOnLine 0 = .ok (.iload_n 1, 1) := by decide +kernel
theorem dX4_paletteOnLine_1 : decode cX4_paletteOnLine 1 = .ok (.aload_n 0, 1) := by decide +kernel
theorem dX4_paletteOnLine_2 : decode cX4_paletteOnLine 2 = .ok (.iload_n 2, 1) := by decide +kernel
theorem dX4_paletteOnLine_3 : decode cX4_paletteOnLine 3 = .ok (.invokevirtual 54, 3) := by decide +kernel
theorem dX4_paletteOnLine_6 : decode cX4_paletteOnLine 6 = .ok (.if_icmp .ne 9, 3) := by decide +kernel
theorem dX4_paletteOnLine_9 : decode cX4_paletteOnLine 9 = .ok (.aload_n 0, 1) := by decide +kernel
theorem dX4_paletteOnLine_10 : decode cX4_paletteOnLine 10 = .ok (.iload_n 2, 1) := by decide +kernel
theorem dX4_paletteOnLine_11 : decode cX4_paletteOnLine 11 = .ok (.invokevirtual 58, 3) := by decide +kernel
theorem dX4_paletteOnLine_14 : decode cX4_paletteOnLine 14 = .ok (.ireturn, 1) := by decide +kernel
theorem dX4_paletteOnLine_15 : decode cX4_paletteOnLine 15 = .ok (.iload_n 1, 1) := by decide +kernel
theorem dX4_paletteOnLine_16 : decode cX4_paletteOnLine 16 = .ok (.aload_n 0, 1) := by decide +kernel
theorem dX4_paletteOnLine_17 : decode cX4_paletteOnLine 17 = .ok (.iload_n 2, 1) := by decide +kernel
theorem dX4_paletteOnLine_18 : decode cX4_paletteOnLine 18 = .ok (.invokevirtual 58, 3) := by decide +kernel
theorem dX4_paletteOnLine_21 : decode cX4_paletteOnLine 21 = .ok (.if_icmp .ne 11, 3) := by decide +kernel
theorem dX4_paletteOnLine_24 : decode cX4_paletteOnLine 24 = .ok (.aload_n 0, 1) := by decide +kernel
theorem dX4_paletteOnLine_25 : decode cX4_paletteOnLine 25 = .ok (.iload_n 2, 1) := by decide +kernel
theorem dX4_paletteOnLine_26 : decode cX4_paletteOnLine 26 = .ok (.invokevirtual 54, 3) := by decide +kernel
theorem dX4_paletteOnLine_29 : decode cX4_paletteOnLine 29 = .ok (.goto 4, 3) := by decide +kernel
theorem dX4_paletteOnLine_32 : decode cX4_paletteOnLine 32 = .ok (.iload_n 1, 1) := by decide +kernel
theorem dX4_paletteOnLine_33 : decode cX4_paletteOnLine 33 = .ok (.ireturn, 1) := by decide +kernel
set_option maxRecDepth 20000 in
theorem ggX4_isOnAndCovers_X4_property : GoodIn wsX4_isOnAndCovers wsX4_property := goodIn_r _ [5, 6, 7, 8, 9, 10, 11, 12, 13, 14, 15] (by decide +kernel) (by decide +kernel)
set_option maxRecDepth 20000 in
theorem gX4_isOnAndCovers_X4_property : GoodIn wsX4_isOnAndCovers (wsV RX4 74 RX4 yX4_property wsX4_property) := goodIn_app (goodIn_of _ (by decide +kernel)) ggX4_isOnAndCovers_X4_property
theorem dX4_isOnAndCovers_0 : decode cX4_isOnAndCovers 0 = .ok (.iload_n 2, 1) := by decide +kernel
theorem dX4_isOnAndCovers_1 : decode cX4_isOnAndCovers 1 = .ok (.aload_n 0, 1) := by decide +kernel
theorem dX4_isOnAndCovers_2 : decode cX4_isOnAndCovers 2 = .ok (.iload_n 1, 1) := by decide +kernel
theorem dX4_isOnAndCovers_3 : decode cX4_isOnAndCovers 3 = .ok (.iconst 5, 1) := by decide +kernel
theorem dX4_isOnAndCovers_4 : decode cX4_isOnAndCovers 4 = .ok (.invokevirtual 74, 3) := by decide +kernel
theorem dX4_isOnAndCovers_7 : decode cX4_isOnAndCovers 7 = .ok (.isub, 1) := by decide +kernel
theorem dX4_isOnAndCovers_8 : decode cX4_isOnAndCovers 8 = .ok (.istore_n 3, 1) := by decide +kernel
theorem dX4_isOnAndCovers_9 : decode cX4_isOnAndCovers 9 = .ok (.aload_n 0, 1) := by decide +kernel
theorem dX4_isOnAndCovers_10 : decode cX4_isOnAndCovers 10 = .ok (.iload_n 1, 1) := by decide +kernel
theorem dX4_isOnAndCovers_11 : decode cX4_isOnAndCovers 11 = .ok (.iconst 3, 1) := by decide +kernel
theorem dX4_isOnAndCovers_12 : decode cX4_isOnAndCovers 12 = .ok (.invokevirtual 74, 3) := by decide +kernel
theorem dX4_isOnAndCovers_15 : decode cX4_isOnAndCovers 15 = .ok (.iconst 1, 1) := by decide +kernel
theorem dX4_isOnAndCovers_16 : decode cX4_isOnAndCovers 16 = .ok (.if_icmp .ne 17, 3) := by decide +kernel
theorem dX4_isOnAndCovers_19 : decode cX4_isOnAndCovers 19 = .ok (.iload_n 3, 1) := by decide +kernel
theorem dX4_isOnAndCovers_20 : decode cX4_isOnAndCovers 20 = .ok (.ifCond .lt 13, 3) := by decide +kernel
theorem dX4_isOnAndCovers_23 : decode cX4_isOnAndCovers 23 = .ok (.iload_n 3, 1) := by decide +kernel
theorem dX4_isOnAndCovers_24 : decode cX4_isOnAndCovers 24 = .ok (.bipush 8, 2) := by decide +kernel
theorem dX4_isOnAndCovers_26 : decode cX4_isOnAndCovers 26 = .ok (.if_icmp .ge 7, 3) := by decide +kernel
theorem dX4_isOnAndCovers_29 : decode cX4_isOnAndCovers 29 = .ok (.iconst 1, 1) := by decide +kernel
theorem dX4_isOnAndCovers_30 : decode cX4_isOnAndCovers 30 = .ok (.goto 4, 3) := by decide +kernel
theorem dX4_isOnAndCovers_33 : decode cX4_isOnAndCovers 33 = .ok (.iconst 0, 1) := by decide +kernel
theorem dX4_isOnAndCovers_34 : decode cX4_isOnAndCovers 34 = .ok (.ireturn, 1) := by decide +kernel
set_option maxRecDepth 20000 in
theorem ggX4_linesCovered_X4_property : GoodIn wsX4_linesCovered wsX4_property := goodIn_r _ [12, 13, 14, 15, 16, 17, 18, 19, 20, 21, 22] (by decide +kernel) (by decide +kernel)
set_option maxRecDepth 20000 in
theorem gX4_linesCovered_X4_property : GoodIn wsX4_linesCovered (wsV RX4 74 RX4 yX4_property wsX4_property) := goodIn_app (goodIn_of _ (by decide +kernel)) ggX4_linesCovered_X4_property
theorem dX4_linesCovered_0 : decode cX4_linesCovered 0 = .ok (.aload_n 0, 1) := by decide +kernel
theorem dX4_linesCovered_1 : decode cX4_linesCovered 1 = .ok (.iload_n 1, 1) := by decide +kernel
theorem dX4_linesCovered_2 : decode cX4_linesCovered 2 = .ok (.iconst 5, 1) := by decide +kernel
theorem dX4_linesCovered_3 : decode cX4_linesCovered 3 = .ok (.invokevirtual 74, 3) := by decide +kernel
theorem dX4_linesCovered_6 : decode cX4_linesCovered 6 = .ok (.istore_n 2, 1) := by decide +kernel
theorem dX4_linesCovered_7 : decode cX4_linesCovered 7 = .ok (.iload_n 2, 1) := by decide +kernel
theorem dX4_linesCovered_8 : decode cX4_linesCovered 8 = .ok (.bipush 8, 2) := by decide +kernel
theorem dX4_linesCovered_10 : decode cX4_linesCovered 10 = .ok (.iadd, 1) := by decide +kernel
theorem dX4_linesCovered_11 : decode cX4_linesCovered 11 = .ok (.bipush 32, 2) := by decide +kernel
theorem dX4_linesCovered_13 : decode cX4_linesCovered 13 = .ok (.invokestatic 61, 3) := by decide +kernel
theorem dX4_linesCovered_16 : decode cX4_linesCovered 16 = .ok (.iload_n 2, 1) := by decide +kernel
theorem dX4_linesCovered_17 : decode cX4_linesCovered 17 = .ok (.iconst 0, 1) := by decide +kernel
theorem dX4_linesCovered_18 : decode cX4_linesCovered 18 = .ok (.invokestatic 67, 3) := by decide +kernel
theorem dX4_linesCovered_21 : decode cX4_linesCovered 21 = .ok (.isub, 1) := by decide +kernel
theorem dX4_linesCovered_22 : decode cX4_linesCovered 22 = .ok (.ireturn, 1) := by decide +kernel
set_option maxRecDepth 20000 in
theorem ggX4_spritesOn_X4_property : GoodIn wsX4_spritesOn wsX4_property := goodIn_r _ [6, 7, 8, 9, 10, 11, 12, 13, 14, 15, 16] (by decide +kernel) (by decide +kernel)
set_option maxRecDepth 20000 in
theorem gX4_spritesOn_X4_property : GoodIn wsX4_spritesOn (wsV RX4 74 RX4 yX4_property wsX4_property) := goodIn_app (goodIn_of _ (by decide +kernel)) ggX4_spritesOn_X4_property
theorem dX4_spritesOn_0 : decode cX4_spritesOn 0 = .ok (.iconst 0, 1) := by decide +kernel
theorem dX4_spritesOn_1 : decode cX4_spritesOn 1 = .ok (.istore_n 1, 1) := by decide +kernel
theorem dX4_spritesOn_2 : decode cX4_spritesOn 2 = .ok (.iconst 0, 1) := by decide +kernel
theorem dX4_spritesOn_3 : decode cX4_spritesOn 3 = .ok (.istore_n 2, 1) := by decide +kernel
theorem dX4_spritesOn_4 : decode cX4_spritesOn 4 = .ok (.iload_n 2, 1) := by decide +kernel
theorem dX4_spritesOn_5 : decode cX4_spritesOn 5 = .ok (.aload_n 0, 1) := by decide +kernel
theorem dX4_spritesOn_6 : decode cX4_spritesOn 6 = .ok (.getfield 41, 3) := by decide +kernel
theorem dX4_spritesOn_9 : decode cX4_spritesOn 9 = .ok (.if_icmp .ge 18, 3) := by decide +kernel
theorem dX4_spritesOn_12 : decode cX4_spritesOn 12 = .ok (.iload_n 1, 1) := by decide +kernel
theorem dX4_spritesOn_13 : decode cX4_spritesOn 13 = .ok (.aload_n 0, 1) := by decide +kernel
theorem dX4_spritesOn_14 : decode cX4_spritesOn 14 = .ok (.iload_n 2, 1) := by decide +kernel
theorem dX4_spritesOn_15 : decode cX4_spritesOn 15 = .ok (.iconst 3, 1) := by decide +kernel
theorem dX4_spritesOn_16 : decode cX4_spritesOn 16 = .ok (.invokevirtual 74, 3) := by decide +kernel
theorem dX4_spritesOn_19 : decode cX4_spritesOn 19 = .ok (.iadd, 1) := by decide +kernel
theorem dX4_spritesOn_20 : decode cX4_spritesOn 20 = .ok (.istore_n 1, 1) := by decide +kernel
theorem dX4_spritesOn_21 : decode cX4_spritesOn 21 = .ok (.iinc 2 1, 3) := by decide +kernel
theorem dX4_spritesOn_24 : decode cX4_spritesOn 24 = .ok (.goto (-20), 3) := by decide +kernel
theorem dX4_spritesOn_27 : decode cX4_spritesOn 27 = .ok (.iload_n 1, 1) := by decide +kernel
theorem dX4_spritesOn_28 : decode cX4_spritesOn 28 = .ok (.ireturn, 1) := by decide +kernel
set_option maxRecDepth 20000 in
theorem ggX4_partsNotUsed_X4_isUsed : GoodIn wsX4_partsNotUsed wsX4_isUsed := goodIn_r _ [7, 8, 9, 10, 11, 6, 12, 13, 14, 15, 16, 17, 18, 19, 20, 21, 22] (by decide +kernel) (by decide +kernel)
set_option maxRecDepth 20000 in
theorem gX4_partsNotUsed_X4_isUsed : GoodIn wsX4_partsNotUsed (wsV RX4 80 RX4 yX4_isUsed wsX4_isUsed) := goodIn_app (goodIn_of _ (by decide +kernel)) ggX4_partsNotUsed_X4_isUsed
theorem dX4_partsNotUsed_0 : decode cX4_partsNotUsed 0 = .ok (.iconst 0, 1) := by decide +kernel
theorem dX4_partsNotUsed_1 : decode cX4_partsNotUsed 1 = .ok (.istore_n 1, 1) := by decide +kernel
theorem dX4_partsNotUsed_2 : decode cX4_partsNotUsed 2 = .ok (.iconst 0, 1) := by decide +kernel
theorem dX4_partsNotUsed_3 : decode cX4_partsNotUsed 3 = .ok (.istore_n 2, 1) := by decide +kernel
theorem dX4_partsNotUsed_4 : decode cX4_partsNotUsed 4 = .ok (.iload_n 2, 1) := by decide +kernel
theorem dX4_partsNotUsed_5 : decode cX4_partsNotUsed 5 = .ok (.aload_n 0, 1) := by decide +kernel
theorem dX4_partsNotUsed_6 : decode cX4_partsNotUsed 6 = .ok (.getfield 18, 3) := by decide +kernel
theorem dX4_partsNotUsed_9 : decode cX4_partsNotUsed 9 = .ok (.getfield 77, 3) := by decide +kernel
theorem dX4_partsNotUsed_12 : decode cX4_partsNotUsed 12 = .ok (.if_icmp .ge 20, 3) := by decide +kernel
theorem dX4_partsNotUsed_15 : decode cX4_partsNotUsed 15 = .ok (.aload_n 0, 1) := by decide +kernel
theorem dX4_partsNotUsed_16 : decode cX4_partsNotUsed 16 = .ok (.iload_n 2, 1) := by decide +kernel
theorem dX4_partsNotUsed_17 : decode cX4_partsNotUsed 17 = .ok (.invokevirtual 80, 3) := by decide +kernel
theorem dX4_partsNotUsed_20 : decode cX4_partsNotUsed 20 = .ok (.ifCond .ne 6, 3) := by decide +kernel
theorem dX4_partsNotUsed_23 : decode cX4_partsNotUsed 23 = .ok (.iinc 1 1, 3) := by decide +kernel
theorem dX4_partsNotUsed_26 : decode cX4_partsNotUsed 26 = .ok (.iinc 2 1, 3) := by decide +kernel
theorem dX4_partsNotUsed_29 : decode cX4_partsNotUsed 29 = .ok (.goto (-25), 3) := by decide +kernel
theorem dX4_partsNotUsed_32 : decode cX4_partsNotUsed 32 = .ok (.iload_n 1, 1) := by decide +kernel
theorem dX4_partsNotUsed_33 : decode cX4_partsNotUsed 33 = .ok (.ireturn, 1) := by decide +kernel
set_option maxRecDepth 20000 in
theorem ggX4_isUsed_X4_property : GoodIn wsX4_isUsed wsX4_property := goodIn_r _ [6, 7, 8, 9, 10, 11, 12, 13, 14, 15, 16] (by decide +kernel) (by decide +kernel)
set_option maxRecDepth 20000 in
theorem gX4_isUsed_X4_property : GoodIn wsX4_isUsed (wsV RX4 74 RX4 yX4_property wsX4_property) := goodIn_app (goodIn_of _ (by decide +kernel)) ggX4_isUsed_X4_property
theorem dX4_isUsed_0 : decode cX4_isUsed 0 = .ok (.iconst 0, 1) := by decide +kernel
theorem dX4_isUsed_1 : decode cX4_isUsed 1 = .ok (.istore_n 2, 1) := by decide +kernel
theorem dX4_isUsed_2 : decode cX4_isUsed 2 = .ok (.iload_n 2, 1) := by decide +kernel
theorem dX4_isUsed_3 : decode cX4_isUsed 3 = .ok (.aload_n 0, 1) := by decide +kernel
theorem dX4_isUsed_4 : decode cX4_isUsed 4 = .ok (.getfield 41, 3) := by decide +kernel
theorem dX4_isUsed_7 : decode cX4_isUsed 7 = .ok (.if_icmp .ge 21, 3) := by decide +kernel
theorem dX4_isUsed_10 : decode cX4_isUsed 10 = .ok (.aload_n 0, 1) := by decide +kernel
theorem dX4_isUsed_11 : decode cX4_isUsed 11 = .ok (.iload_n 2, 1) := by decide +kernel
theorem dX4_isUsed_12 : decode cX4_isUsed 12 = .ok (.iconst 0, 1) := by decide +kernel
theorem dX4_isUsed_13 : decode cX4_isUsed 13 = .ok (.invokevirtual 74, 3) := by decide +kernel
theorem dX4_isUsed_16 : decode cX4_isUsed 16 = .ok (.iload_n 1, 1) := by decide +kernel
theorem dX4_isUsed_17 : decode cX4_isUsed 17 = .ok (.if_icmp .ne 5, 3) := by decide +kernel
theorem dX4_isUsed_20 : decode cX4_isUsed 20 = .ok (.iconst 1, 1) := by decide +kernel
theorem dX4_isUsed_21 : decode cX4_isUsed 21 = .ok (.ireturn, 1) := by decide +kernel
theorem dX4_isUsed_22 : decode cX4_isUsed 22 = .ok (.iinc 2 1, 3) := by decide +kernel
theorem dX4_isUsed_25 : decode cX4_isUsed 25 = .ok (.goto (-23), 3) := by decide +kernel
theorem dX4_isUsed_28 : decode cX4_isUsed 28 = .ok (.iconst 0, 1) := by decide +kernel
theorem dX4_isUsed_29 : decode cX4_isUsed 29 = .ok (.ireturn, 1) := by decide +kernel
theorem dX5_init_0 : decode cX5_init 0 = .ok (.aload_n 0, 1) := by decide +kernel
theorem dX5_init_1 : decode cX5_init 1 = .ok (.invokespecial 3, 3) := by decide +kernel
theorem dX5_init_4 : decode cX5_init 4 = .ok (.aload_n 0, 1) := by decide +kernel
theorem dX5_init_5 : decode cX5_init 5 = .ok (.bipush 20, 2) := by decide +kernel
theorem dX5_init_7 : decode cX5_init 7 = .ok (.newarray .int, 2) := by decide +kernel
theorem dX5_init_9 : decode cX5_init 9 = .ok (.putfield 9, 3) := by decide +kernel
theorem dX5_init_12 : decode cX5_init 12 = .ok (.aload_n 0, 1) := by decide +kernel
theorem dX5_init_13 : decode cX5_init 13 = .ok (.bipush 20, 2) := by decide +kernel
theorem dX5_init_15 : decode cX5_init 15 = .ok (.newarray .int, 2) := by decide +kernel
theorem dX5_init_17 : decode cX5_init 17 = .ok (.putfield 15, 3) := by decide +kernel
theorem dX5_init_20 : decode cX5_init 20 = .ok (.aload_n 0, 1) := by decide +kernel
theorem dX5_init_21 : decode cX5_init 21 = .ok (.bipush 20, 2) := by decide +kernel
theorem dX5_init_23 : decode cX5_init 23 = .ok (.newarray .int, 2) := by decide +kernel
theorem dX5_init_25 : decode cX5_init 25 = .ok (.putfield 18, 3) := by decide +kernel
theorem dX5_init_28 : decode cX5_init 28 = .ok (.aload_n 0, 1) := by decide +kernel
theorem dX5_init_29 : decode cX5_init 29 = .ok (.aload_n 1, 1) := by decide +kernel
theorem dX5_init_30 : decode cX5_init 30 = .ok (.putfield 21, 3) := by decide +kernel
theorem dX5_init_33 : decode cX5_init 33 = .ok (.return_, 1) := by decide +kernel
set_option maxRecDepth 20000 in
theorem ggX5_countCovering_X4_isOnAndCovers : GoodIn wsX5_countCovering wsX4_isOnAndCovers := goodIn_r _ [7, 8, 9, 10, 6, 11, 12, 17, 18, 19, 20, 21, 22, 23, 24, 25] (by decide +kernel) (by decide +kernel)
set_option maxRecDepth 20000 in
theorem gX5_countCovering_X4_isOnAndCovers : GoodIn wsX5_countCovering (wsV RX5 31 RX4 yX4_isOnAndCovers wsX4_isOnAndCovers) := goodIn_app (goodIn_of _ (by decide +kernel)) ggX5_countCovering_X4_isOnAndCovers
theorem dX5_countCovering_0 : decode cX5_countCovering 0 = .ok (.iconst 0, 1) := by decide +kernel
theorem dX5_countCovering_1 : decode cX5_countCovering 1 = .ok (.istore_n 2, 1) := by decide +kernel
theorem dX5_countCovering_2 : decode cX5_countCovering 2 = .ok (.iconst 0, 1) := by decide +kernel
theorem dX5_countCovering_3 : decode cX5_countCovering 3 = .ok (.istore_n 3, 1) := by decide +kernel
theorem dX5_countCovering_4 : decode cX5_countCovering 4 = .ok (.iload_n 3, 1) := by decide +kernel
theorem dX5_countCovering_5 : decode cX5_countCovering 5 = .ok (.aload_n 0, 1) := by decide +kernel
theorem dX5_countCovering_6 : decode cX5_countCovering 6 = .ok (.getfield 21, 3) := by decide +kernel
theorem dX5_countCovering_9 : decode cX5_countCovering 9 = .ok (.getfield 25, 3) := by decide +kernel
theorem dX5_countCovering_12 : decode cX5_countCovering 12 = .ok (.if_icmp .ge 24, 3) := by decide +kernel
theorem dX5_countCovering_15 : decode cX5_countCovering 15 = .ok (.aload_n 0, 1) := by decide +kernel
theorem dX5_countCovering_16 : decode cX5_countCovering 16 = .ok (.getfield 21, 3) := by decide +kernel
theorem dX5_countCovering_19 : decode cX5_countCovering 19 = .ok (.iload_n 3, 1) := by decide +kernel
theorem dX5_countCovering_20 : decode cX5_countCovering 20 = .ok (.iload_n 1, 1) := by decide +kernel
theorem dX5_countCovering_21 : decode cX5_countCovering 21 = .ok (.invokevirtual 31, 3) := by decide +kernel
theorem dX5_countCovering_24 : decode cX5_countCovering 24 = .ok (.ifCond .eq 6, 3) := by decide +kernel
theorem dX5_countCovering_27 : decode cX5_countCovering 27 = .ok (.iinc 2 1, 3) := by decide +kernel
theorem dX5_countCovering_30 : decode cX5_countCovering 30 = .ok (.iinc 3 1, 3) := by decide +kernel
theorem dX5_countCovering_33 : decode cX5_countCovering 33 = .ok (.goto (-29), 3) := by decide +kernel
theorem dX5_countCovering_36 : decode cX5_countCovering 36 = .ok (.iload_n 2, 1) := by decide +kernel
theorem dX5_countCovering_37 : decode cX5_countCovering 37 = .ok (.ireturn, 1) := by decide +kernel
set_option maxRecDepth 20000 in
theorem ggX5_mostCovering_X5_countCovering : GoodIn wsX5_mostCovering wsX5_countCovering := goodIn_r _ [9, 10, 11, 12, 13, 14, 15, 16, 17, 18, 19, 20, 21, 22, 23, 24, 25, 26, 27, 28, 29, 30, 31, 32, 33, 34] (by decide +kernel) (by decide +kernel)
set_option maxRecDepth 20000 in
theorem gX5_mostCovering_X5_countCovering : GoodIn wsX5_mostCovering (wsV RX5 35 RX5 yX5_countCovering wsX5_countCovering) := goodIn_app (goodIn_of _ (by decide +kernel)) ggX5_mostCovering_X5_countCovering
theorem dX5_mostCovering_0 : decode cX5_mostCovering 0 = .ok (.iconst 0, 1) := by decide +kernel
theorem dX5_mostCovering_1 : decode cX5_mostCovering 1 = .ok (.istore_n 1, 1) := by decide +kernel
theorem dX5_mostCovering_2 : decode cX5_mostCovering 2 = .ok (.iconst 0, 1) := by decide +kernel
theorem dX5_mostCovering_3 : decode cX5_mostCovering 3 = .ok (.istore_n 2, 1) := by decide +kernel
theorem dX5_mostCovering_4 : decode cX5_mostCovering 4 = .ok (.iload_n 2, 1) := by decide +kernel
theorem dX5_mostCovering_5 : decode cX5_mostCovering 5 = .ok (.bipush 32, 2) := by decide +kernel
theorem dX5_mostCovering_7 : decode cX5_mostCovering 7 = .ok (.if_icmp .ge 19, 3) := by decide +kernel
theorem dX5_mostCovering_10 : decode cX5_mostCovering 10 = .ok (.iload_n 1, 1) := by decide +kernel
theorem dX5_mostCovering_11 : decode cX5_mostCovering 11 = .ok (.aload_n 0, 1) := by decide +kernel
theorem dX5_mostCovering_12 : decode cX5_mostCovering 12 = .ok (.iload_n 2, 1) := by decide +kernel
theorem dX5_mostCovering_13 : decode cX5_mostCovering 13 = .ok (.invokevirtual 35, 3) := by decide +kernel
theorem dX5_mostCovering_16 : decode cX5_mostCovering 16 = .ok (.invokestatic 39, 3) := by decide +kernel
theorem dX5_mostCovering_19 : decode cX5_mostCovering 19 = .ok (.istore_n 1, 1) := by decide +kernel
theorem dX5_mostCovering_20 : decode cX5_mostCovering 20 = .ok (.iinc 2 1, 3) := by decide +kernel
theorem dX5_mostCovering_23 : decode cX5_mostCovering 23 = .ok (.goto (-19), 3) := by decide +kernel
theorem dX5_mostCovering_26 : decode cX5_mostCovering 26 = .ok (.iload_n 1, 1) := by decide +kernel
theorem dX5_mostCovering_27 : decode cX5_mostCovering 27 = .ok (.ireturn, 1) := by decide +kernel
set_option maxRecDepth 20000 in
theorem ggX5_countOverfullLines_X5_countCovering : GoodIn wsX5_countOverfullLines wsX5_countCovering := goodIn_r _ [7, 1, 8, 9, 10, 11, 12, 13, 14, 15, 16, 17, 18, 19, 20, 21, 22, 23, 24, 25, 26, 27, 28, 29, 30, 31] (by decide +kernel) (by decide +kernel)
set_option maxRecDepth 20000 in
theorem gX5_countOverfullLines_X5_countCovering : GoodIn wsX5_countOverfullLines (wsV RX5 35 RX5 yX5_countCovering wsX5_countCovering) := goodIn_app (goodIn_of _ (by decide +kernel)) ggX5_countOverfullLines_X5_countCovering
theorem dX5_countOverfullLines_0 : decode cX5_countOverfullLines 0 = .ok (.iconst 0, 1) := by decide +kernel
theorem dX5_countOverfullLines_1 : decode cX5_countOverfullLines 1 = .ok (.istore_n 1, 1) := by decide +kernel
theorem dX5_countOverfullLines_2 : decode cX5_countOverfullLines 2 = .ok (.iconst 0, 1) := by decide +kernel
theorem dX5_countOverfullLines_3 : decode cX5_countOverfullLines 3 = .ok (.istore_n 2, 1) := by decide +kernel
theorem dX5_countOverfullLines_4 : decode cX5_countOverfullLines 4 = .ok (.iload_n 2, 1) := by decide +kernel
theorem dX5_countOverfullLines_5 : decode cX5_countOverfullLines 5 = .ok (.bipush 32, 2) := by decide +kernel
theorem dX5_countOverfullLines_7 : decode cX5_countOverfullLines 7 = .ok (.if_icmp .ge 27, 3) := by decide +kernel
theorem dX5_countOverfullLines_10 : decode cX5_countOverfullLines 10 = .ok (.aload_n 0, 1) := by decide +kernel
theorem dX5_countOverfullLines_11 : decode cX5_countOverfullLines 11 = .ok (.iload_n 2, 1) := by decide +kernel
theorem dX5_countOverfullLines_12 : decode cX5_countOverfullLines 12 = .ok (.invokevirtual 35, 3) := by decide +kernel
theorem dX5_countOverfullLines_15 : decode cX5_countOverfullLines 15 = .ok (.aload_n 0, 1) := by decide +kernel
theorem dX5_countOverfullLines_16 : decode cX5_countOverfullLines 16 = .ok (.getfield 21, 3) := by decide +kernel
theorem dX5_countOverfullLines_19 : decode cX5_countOverfullLines 19 = .ok (.getfield 45, 3) := by decide +kernel
theorem dX5_countOverfullLines_22 : decode cX5_countOverfullLines 22 = .ok (.if_icmp .le 6, 3) := by decide +kernel
theorem dX5_countOverfullLines_25 : decode cX5_countOverfullLines 25 = .ok (.iinc 1 1, 3) := by decide +kernel
theorem dX5_countOverfullLines_28 : decode cX5_countOverfullLines 28 = .ok (.iinc 2 1, 3) := by decide +kernel
theorem dX5_countOverfullLines_31 : decode cX5_countOverfullLines 31 = .ok (.goto (-27), 3) := by decide +kernel
theorem dX5_countOverfullLines_34 : decode cX5_countOverfullLines 34 = .ok (.iload_n 1, 1) := by decide +kernel
theorem dX5_countOverfullLines_35 : decode cX5_countOverfullLines 35 = .ok (.ireturn, 1) := by decide +kernel
set_option maxRecDepth 20000 in
theorem ggX5_findShown_X4_isOnAndCovers : GoodIn wsX5_findShown wsX4_isOnAndCovers := goodIn_r _ [14, 15, 16, 17, 13, 18, 19, 24, 25, 26, 27, 28, 29, 30, 31, 32] (by decide +kernel) (by decide +kernel)
set_option maxRecDepth 20000 in
theorem gX5_findShown_X4_isOnAndCovers : GoodIn wsX5_findShown (wsV RX5 31 RX4 yX4_isOnAndCovers wsX4_isOnAndCovers) := goodIn_app (goodIn_of _ (by decide +kernel)) ggX5_findShown_X4_isOnAndCovers
theorem dX5_findShown_0 : decode cX5_findShown 0 = .ok (.aload_n 0, 1) := by decide +kernel
theorem dX5_findShown_1 : decode cX5_findShown 1 = .ok (.getfield 21, 3) := by decide +kernel
theorem dX5_findShown_4 : decode cX5_findShown 4 = .ok (.getfield 25, 3) := by decide +kernel
theorem dX5_findShown_7 : decode cX5_findShown 7 = .ok (.istore_n 3, 1) := by decide +kernel
theorem dX5_findShown_8 : decode cX5_findShown 8 = .ok (.iload_n 3, 1) := by decide +kernel
theorem dX5_findShown_9 : decode cX5_findShown 9 = .ok (.ifCond .gt 5, 3) := by decide +kernel
theorem dX5_findShown_12 : decode cX5_findShown 12 = .ok (.iconst 0, 1) := by decide +kernel
theorem dX5_findShown_13 : decode cX5_findShown 13 = .ok (.ireturn, 1) := by decide +kernel
theorem dX5_findShown_14 : decode cX5_findShown 14 = .ok (.aload_n 0, 1) := by decide +kernel
theorem dX5_findShown_15 : decode cX5_findShown 15 = .ok (.getfield 21, 3) := by decide +kernel
theorem dX5_findShown_18 : decode cX5_findShown 18 = .ok (.getfield 45, 3) := by decide +kernel
theorem dX5_findShown_21 : decode cX5_findShown 21 = .ok (.aload_n 0, 1) := by decide +kernel
theorem dX5_findShown_22 : decode cX5_findShown 22 = .ok (.getfield 9, 3) := by decide +kernel
theorem dX5_findShown_25 : decode cX5_findShown 25 = .ok (.arraylength, 1) := by decide +kernel
theorem dX5_findShown_26 : decode cX5_findShown 26 = .ok (.invokestatic 48, 3) := by decide +kernel
theorem dX5_findShown_29 : decode cX5_findShown 29 = .ok (.istore 4, 2) := by decide +kernel
theorem dX5_findShown_31 : decode cX5_findShown 31 = .ok (.iload_n 2, 1) := by decide +kernel
theorem dX5_findShown_32 : decode cX5_findShown 32 = .ok (.aload_n 0, 1) := by decide +kernel
theorem dX5_findShown_33 : decode cX5_findShown 33 = .ok (.getfield 21, 3) := by decide +kernel
theorem dX5_findShown_36 : decode cX5_findShown 36 = .ok (.getfield 51, 3) := by decide +kernel
theorem dX5_findShown_39 : decode cX5_findShown 39 = .ok (.imul, 1) := by decide +kernel
theorem dX5_findShown_40 : decode cX5_findShown 40 = .ok (.iload_n 3, 1) := by decide +kernel
theorem dX5_findShown_41 : decode cX5_findShown 41 = .ok (.irem, 1) := by decide +kernel
theorem dX5_findShown_42 : decode cX5_findShown 42 = .ok (.istore 5, 2) := by decide +kernel
theorem dX5_findShown_44 : decode cX5_findShown 44 = .ok (.iconst 0, 1) := by decide +kernel
theorem dX5_findShown_45 : decode cX5_findShown 45 = .ok (.istore 6, 2) := by decide +kernel
theorem dX5_findShown_47 : decode cX5_findShown 47 = .ok (.iconst 0, 1) := by decide +kernel
theorem dX5_findShown_48 : decode cX5_findShown 48 = .ok (.istore 7, 2) := by decide +kernel
theorem dX5_findShown_50 : decode cX5_findShown 50 = .ok (.iload 7, 2) := by decide +kernel
theorem dX5_findShown_52 : decode cX5_findShown 52 = .ok (.iload_n 3, 1) := by decide +kernel
theorem dX5_findShown_53 : decode cX5_findShown 53 = .ok (.if_icmp .ge 50, 3) := by decide +kernel
theorem dX5_findShown_56 : decode cX5_findShown 56 = .ok (.iload 6, 2) := by decide +kernel
theorem dX5_findShown_58 : decode cX5_findShown 58 = .ok (.iload 4, 2) := by decide +kernel
theorem dX5_findShown_60 : decode cX5_findShown 60 = .ok (.if_icmp .ge 43, 3) := by decide +kernel
theorem dX5_findShown_63 : decode cX5_findShown 63 = .ok (.iload 5, 2) := by decide +kernel
theorem dX5_findShown_65 : decode cX5_findShown 65 = .ok (.iload 7, 2) := by decide +kernel
theorem dX5_findShown_67 : decode cX5_findShown 67 = .ok (.iadd, 1) := by decide +kernel
theorem dX5_findShown_68 : decode cX5_findShown 68 = .ok (.iload_n 3, 1) := by decide +kernel
theorem dX5_findShown_69 : decode cX5_findShown 69 = .ok (.irem, 1) := by decide +kernel
theorem dX5_findShown_70 : decode cX5_findShown 70 = .ok (.istore 8, 2) := by decide +kernel
theorem dX5_findShown_72 : decode cX5_findShown 72 = .ok (.aload_n 0, 1) := by decide +kernel
theorem dX5_findShown_73 : decode cX5_findShown 73 = .ok (.getfield 21, 3) := by decide +kernel
theorem dX5_findShown_76 : decode cX5_findShown 76 = .ok (.iload 8, 2) := by decide +kernel
theorem dX5_findShown_78 : decode cX5_findShown 78 = .ok (.iload_n 1, 1) := by decide +kernel
theorem dX5_findShown_79 : decode cX5_findShown 79 = .ok (.invokevirtual 31, 3) := by decide +kernel
theorem dX5_findShown_82 : decode cX5_findShown 82 = .ok (.ifCond .eq 15, 3) := by decide +kernel
theorem dX5_findShown_85 : decode cX5_findShown 85 = .ok (.aload_n 0, 1) := by decide +kernel
theorem dX5_findShown_86 : decode cX5_findShown 86 = .ok (.getfield 9, 3) := by decide +kernel
