theorem dX6_setColor_14 : decode cX6_setColor 14 = .ok (.iload_n 2, 1) := by decide +kernel
theorem dX6_setColor_15 : decode cX6_setColor 15 = .ok (.iconst 4, 1) := by decide +kernel
theorem dX6_setColor_16 : decode cX6_setColor 16 = .ok (.if_icmp .ge 13, 3) := by decide +kernel
theorem dX6_setColor_19 : decode cX6_setColor 19 = .ok (.iload_n 3, 1) := by decide +kernel
theorem dX6_setColor_20 : decode cX6_setColor 20 = .ok (.ifCond .lt 9, 3) := by decide +kernel
theorem dX6_setColor_23 : decode cX6_setColor 23 = .ok (.iload_n 3, 1) := by decide +kernel
theorem dX6_setColor_24 : decode cX6_setColor 24 = .ok (.bipush 64, 2) := by decide +kernel
theorem dX6_setColor_26 : decode cX6_setColor 26 = .ok (.if_icmp .lt 6, 3) := by decide +kernel
theorem dX6_setColor_29 : decode cX6_setColor 29 = .ok (.bipush (-2), 2) := by decide +kernel
theorem dX6_setColor_31 : decode cX6_setColor 31 = .ok (.ireturn, 1) := by decide +kernel
theorem dX6_setColor_32 : decode cX6_setColor 32 = .ok (.aload_n 0, 1) := by decide +kernel
theorem dX6_setColor_33 : decode cX6_setColor 33 = .ok (.getfield 42, 3) := by decide +kernel
theorem dX6_setColor_36 : decode cX6_setColor 36 = .ok (.aload_n 0, 1) := by decide +kernel
theorem dX6_setColor_37 : decode cX6_setColor 37 = .ok (.getfield 10, 3) := by decide +kernel
theorem dX6_setColor_40 : decode cX6_setColor 40 = .ok (.invokevirtual 60, 3) := by decide +kernel
theorem dX6_setColor_43 : decode cX6_setColor 43 = .ok (.aload_n 0, 1) := by decide +kernel
theorem dX6_setColor_44 : decode cX6_setColor 44 = .ok (.getfield 10, 3) := by decide +kernel
theorem dX6_setColor_47 : decode cX6_setColor 47 = .ok (.iload_n 1, 1) := by decide +kernel
theorem dX6_setColor_48 : decode cX6_setColor 48 = .ok (.iload_n 2, 1) := by decide +kernel
theorem dX6_setColor_49 : decode cX6_setColor 49 = .ok (.invokevirtual 117, 3) := by decide +kernel
theorem dX6_setColor_52 : decode cX6_setColor 52 = .ok (.istore 4, 2) := by decide +kernel
theorem dX6_setColor_54 : decode cX6_setColor 54 = .ok (.aload_n 0, 1) := by decide +kernel
theorem dX6_setColor_55 : decode cX6_setColor 55 = .ok (.getfield 10, 3) := by decide +kernel
theorem dX6_setColor_58 : decode cX6_setColor 58 = .ok (.iload_n 1, 1) := by decide +kernel
theorem dX6_setColor_59 : decode cX6_setColor 59 = .ok (.iload_n 2, 1) := by decide +kernel
theorem dX6_setColor_60 : decode cX6_setColor 60 = .ok (.iload_n 3, 1) := by decide +kernel
theorem dX6_setColor_61 : decode cX6_setColor 61 = .ok (.invokevirtual 121, 3) := by decide +kernel
theorem dX6_setColor_64 : decode cX6_setColor 64 = .ok (.iload 4, 2) := by decide +kernel
theorem dX6_setColor_66 : decode cX6_setColor 66 = .ok (.ireturn, 1) := by decide +kernel
set_option maxRecDepth 20000 in
theorem ggX6_addSprite_X6_isNoPart : GoodIn wsX6_addSprite wsX6_isNoPart := goodIn_r _ [8, 1, 9, 10, 61, 62, 63, 64, 65, 66, 67, 68, 69, 70, 71, 72, 73, 74, 75, 76, 77, 78] (by decide +kernel) (by decide +kernel)
set_option maxRecDepth 20000 in
theorem gX6_addSprite_X6_isNoPart : GoodIn wsX6_addSprite (wsV RX6 66 RX6 yX6_isNoPart wsX6_isNoPart) := goodIn_app (goodIn_of _ (by decide +kernel)) ggX6_addSprite_X6_isNoPart
set_option maxRecDepth 20000 in
theorem ggX6_addSprite_X6_isNoPlaceOnScreen : GoodIn wsX6_addSprite wsX6_isNoPlaceOnScreen := goodIn_r _ [13] (by decide +kernel) (by decide +kernel)
set_option maxRecDepth 20000 in
theorem gX6_addSprite_X6_isNoPlaceOnScreen : GoodIn wsX6_addSprite (va_wsS RX6 125 yX6_isNoPlaceOnScreen wsX6_isNoPlaceOnScreen) := goodIn_app (goodIn_of _ (by decide +kernel)) ggX6_addSprite_X6_isNoPlaceOnScreen
set_option maxRecDepth 20000 in
theorem ggX6_addSprite_X0_remember : GoodIn wsX6_addSprite wsX0_remember := goodIn_r _ [18, 19, 20, 21, 22, 23, 17, 24, 25, 26, 27, 28, 29, 30, 31, 32, 33, 34, 35, 36, 37, 38, 39, 40, 41, 42, 43, 44, 45, 46, 47, 48, 49, 50, 51, 52, 53, 54, 55, 56, 79, 80, 81, 67, 68, 69, 70, 71, 72, 73, 74, 75, 76, 77, 78] (by decide +kernel) (by decide +kernel)
set_option maxRecDepth 20000 in
theorem gX6_addSprite_X0_remember : GoodIn wsX6_addSprite (wsV RX6 60 RX0 yX0_remember wsX0_remember) := goodIn_app (goodIn_of _ (by decide +kernel)) ggX6_addSprite_X0_remember
set_option maxRecDepth 20000 in
theorem ggX6_addSprite_X4_putProperty : GoodIn wsX6_addSprite wsX4_putProperty := goodIn_r _ [60, 40, 67, 68, 69, 70, 71, 72, 73, 74, 75] (by decide +kernel) (by decide +kernel)
set_option maxRecDepth 20000 in
theorem gX6_addSprite_X4_putProperty : GoodIn wsX6_addSprite (wsV RX6 131 RX4 yX4_putProperty wsX4_putProperty) := goodIn_app (goodIn_of _ (by decide +kernel)) ggX6_addSprite_X4_putProperty
theorem dX6_addSprite_0 : decode cX6_addSprite 0 = .ok (.aload_n 0, 1) := by decide +kernel
theorem dX6_addSprite_1 : decode cX6_addSprite 1 = .ok (.iload_n 1, 1) := by decide +kernel
theorem dX6_addSprite_2 : decode cX6_addSprite 2 = .ok (.invokevirtual 66, 3) := by decide +kernel
theorem dX6_addSprite_5 : decode cX6_addSprite 5 = .ok (.ifCond .eq 5, 3) := by decide +kernel
theorem dX6_addSprite_8 : decode cX6_addSprite 8 = .ok (.iconst (-1), 1) := by decide +kernel
theorem dX6_addSprite_9 : decode cX6_addSprite 9 = .ok (.ireturn, 1) := by decide +kernel
theorem dX6_addSprite_10 : decode cX6_addSprite 10 = .ok (.iload_n 2, 1) := by decide +kernel
theorem dX6_addSprite_11 : decode cX6_addSprite 11 = .ok (.iload_n 3, 1) := by decide +kernel
theorem dX6_addSprite_12 : decode cX6_addSprite 12 = .ok (.invokestatic 125, 3) := by decide +kernel
theorem dX6_addSprite_15 : decode cX6_addSprite 15 = .ok (.ifCond .eq 6, 3) := by decide +kernel
theorem dX6_addSprite_18 : decode cX6_addSprite 18 = .ok (.bipush (-2), 2) := by decide +kernel
theorem dX6_addSprite_20 : decode cX6_addSprite 20 = .ok (.ireturn, 1) := by decide +kernel
theorem dX6_addSprite_21 : decode cX6_addSprite 21 = .ok (.aload_n 0, 1) := by decide +kernel
theorem dX6_addSprite_22 : decode cX6_addSprite 22 = .ok (.getfield 10, 3) := by decide +kernel
theorem dX6_addSprite_25 : decode cX6_addSprite 25 = .ok (.getfield 128, 3) := by decide +kernel
theorem dX6_addSprite_28 : decode cX6_addSprite 28 = .ok (.istore 4, 2) := by decide +kernel
theorem dX6_addSprite_30 : decode cX6_addSprite 30 = .ok (.iload 4, 2) := by decide +kernel
theorem dX6_addSprite_32 : decode cX6_addSprite 32 = .ok (.bipush 20, 2) := by decide +kernel
theorem dX6_addSprite_34 : decode cX6_addSprite 34 = .ok (.if_icmp .lt 6, 3) := by decide +kernel
theorem dX6_addSprite_37 : decode cX6_addSprite 37 = .ok (.bipush (-3), 2) := by decide +kernel
theorem dX6_addSprite_39 : decode cX6_addSprite 39 = .ok (.ireturn, 1) := by decide +kernel
theorem dX6_addSprite_40 : decode cX6_addSprite 40 = .ok (.aload_n 0, 1) := by decide +kernel
theorem dX6_addSprite_41 : decode cX6_addSprite 41 = .ok (.getfield 42, 3) := by decide +kernel
theorem dX6_addSprite_44 : decode cX6_addSprite 44 = .ok (.aload_n 0, 1) := by decide +kernel
theorem dX6_addSprite_45 : decode cX6_addSprite 45 = .ok (.getfield 10, 3) := by decide +kernel
theorem dX6_addSprite_48 : decode cX6_addSprite 48 = .ok (.invokevirtual 60, 3) := by decide +kernel
theorem dX6_addSprite_51 : decode cX6_addSprite 51 = .ok (.aload_n 0, 1) := by decide +kernel
theorem dX6_addSprite_52 : decode cX6_addSprite 52 = .ok (.getfield 10, 3) := by decide +kernel
theorem dX6_addSprite_55 : decode cX6_addSprite 55 = .ok (.iload 4, 2) := by decide +kernel
theorem dX6_addSprite_57 : decode cX6_addSprite 57 = .ok (.iconst 1, 1) := by decide +kernel
theorem dX6_addSprite_58 : decode cX6_addSprite 58 = .ok (.iadd, 1) := by decide +kernel
theorem dX6_addSprite_59 : decode cX6_addSprite 59 = .ok (.putfield 128, 3) := by decide +kernel
theorem dX6_addSprite_62 : decode cX6_addSprite 62 = .ok (.aload_n 0, 1) := by decide +kernel
theorem dX6_addSprite_63 : decode cX6_addSprite 63 = .ok (.getfield 10, 3) := by decide +kernel
theorem dX6_addSprite_66 : decode cX6_addSprite 66 = .ok (.iload 4, 2) := by decide +kernel
theorem dX6_addSprite_68 : decode cX6_addSprite 68 = .ok (.iconst 0, 1) := by decide +kernel
theorem dX6_addSprite_69 : decode cX6_addSprite 69 = .ok (.iload_n 1, 1) := by decide +kernel
theorem dX6_addSprite_70 : decode cX6_addSprite 70 = .ok (.invokevirtual 131, 3) := by decide +kernel
theorem dX6_addSprite_73 : decode cX6_addSprite 73 = .ok (.aload_n 0, 1) := by decide +kernel
theorem dX6_addSprite_74 : decode cX6_addSprite 74 = .ok (.getfield 10, 3) := by decide +kernel
theorem dX6_addSprite_77 : decode cX6_addSprite 77 = .ok (.iload 4, 2) := by decide +kernel
theorem dX6_addSprite_79 : decode cX6_addSprite 79 = .ok (.iconst 1, 1) := by decide +kernel
theorem dX6_addSprite_80 : decode cX6_addSprite 80 = .ok (.iconst 0, 1) := by decide +kernel
theorem dX6_addSprite_81 : decode cX6_addSprite 81 = .ok (.invokevirtual 131, 3) := by decide +kernel
theorem dX6_addSprite_84 : decode cX6_addSprite 84 = .ok (.aload_n 0, 1) := by decide +kernel
theorem dX6_addSprite_85 : decode cX6_addSprite 85 = .ok (.getfield 10, 3) := by decide +kernel
theorem dX6_addSprite_88 : decode cX6_addSprite 88 = .ok (.iload 4, 2) := by decide +kernel
theorem dX6_addSprite_90 : decode cX6_addSprite 90 = .ok (.iconst 2, 1) := by decide +kernel
theorem dX6_addSprite_91 : decode cX6_addSprite 91 = .ok (.iconst 0, 1) := by decide +kernel
theorem dX6_addSprite_92 : decode cX6_addSprite 92 = .ok (.invokevirtual 131, 3) := by decide +kernel
theorem dX6_addSprite_95 : decode cX6_addSprite 95 = .ok (.aload_n 0, 1) := by decide +kernel
theorem dX6_addSprite_96 : decode cX6_addSprite 96 = .ok (.getfield 10, 3) := by decide +kernel
theorem dX6_addSprite_99 : decode cX6_addSprite 99 = .ok (.iload 4, 2) := by decide +kernel
theorem dX6_addSprite_101 : decode cX6_addSprite 101 = .ok (.iconst 3, 1) := by decide +kernel
theorem dX6_addSprite_102 : decode cX6_addSprite 102 = .ok (.iconst 1, 1) := by decide +kernel
theorem dX6_addSprite_103 : decode cX6_addSprite 103 = .ok (.invokevirtual 131, 3) := by decide +kernel
theorem dX6_addSprite_106 : decode cX6_addSprite 106 = .ok (.aload_n 0, 1) := by decide +kernel
theorem dX6_addSprite_107 : decode cX6_addSprite 107 = .ok (.getfield 10, 3) := by decide +kernel
theorem dX6_addSprite_110 : decode cX6_addSprite 110 = .ok (.iload 4, 2) := by decide +kernel
theorem dX6_addSprite_112 : decode cX6_addSprite 112 = .ok (.iconst 4, 1) := by decide +kernel
theorem dX6_addSprite_113 : decode cX6_addSprite 113 = .ok (.iload_n 2, 1) := by decide +kernel
theorem dX6_addSprite_114 : decode cX6_addSprite 114 = .ok (.invokevirtual 131, 3) := by decide +kernel
theorem dX6_addSprite_117 : decode cX6_addSprite 117 = .ok (.aload_n 0, 1) := by decide +kernel
theorem dX6_addSprite_118 : decode cX6_addSprite 118 = .ok (.getfield 10, 3) := by decide +kernel
theorem dX6_addSprite_121 : decode cX6_addSprite 121 = .ok (.iload 4, 2) := by decide +kernel
theorem dX6_addSprite_123 : decode cX6_addSprite 123 = .ok (.iconst 5, 1) := by decide +kernel
theorem dX6_addSprite_124 : decode cX6_addSprite 124 = .ok (.iload_n 3, 1) := by decide +kernel
theorem dX6_addSprite_125 : decode cX6_addSprite 125 = .ok (.invokevirtual 131, 3) := by decide +kernel
theorem dX6_addSprite_128 : decode cX6_addSprite 128 = .ok (.iload 4, 2) := by decide +kernel
theorem dX6_addSprite_130 : decode cX6_addSprite 130 = .ok (.ireturn, 1) := by decide +kernel
set_option maxRecDepth 20000 in
theorem ggX6_move_X6_isNoSprite : GoodIn wsX6_move wsX6_isNoSprite := goodIn_r _ [7, 2, 8, 74, 75, 76, 77, 78, 79, 80, 81, 82, 83, 84, 85, 86, 87, 88] (by decide +kernel) (by decide +kernel)
set_option maxRecDepth 20000 in
theorem gX6_move_X6_isNoSprite : GoodIn wsX6_move (wsV RX6 134 RX6 yX6_isNoSprite wsX6_isNoSprite) := goodIn_app (goodIn_of _ (by decide +kernel)) ggX6_move_X6_isNoSprite
set_option maxRecDepth 20000 in
theorem ggX6_move_X6_isNoPlaceOnScreen : GoodIn wsX6_move wsX6_isNoPlaceOnScreen := goodIn_r _ [11] (by decide +kernel) (by decide +kernel)
set_option maxRecDepth 20000 in
theorem gX6_move_X6_isNoPlaceOnScreen : GoodIn wsX6_move (va_wsS RX6 125 yX6_isNoPlaceOnScreen wsX6_isNoPlaceOnScreen) := goodIn_app (goodIn_of _ (by decide +kernel)) ggX6_move_X6_isNoPlaceOnScreen
set_option maxRecDepth 20000 in
theorem ggX6_move_X0_remember : GoodIn wsX6_move wsX0_remember := goodIn_r _ [16, 17, 18, 19, 20, 21, 15, 22, 23, 24, 25, 26, 27, 28, 29, 30, 31, 32, 33, 34, 35, 36, 37, 38, 39, 40, 41, 42, 43, 44, 45, 46, 47, 48, 49, 50, 51, 52, 53, 54, 89, 90, 91, 80, 81, 82, 83, 84, 85, 86, 87, 88, 92, 93, 94] (by decide +kernel) (by decide +kernel)
set_option maxRecDepth 20000 in
theorem gX6_move_X0_remember : GoodIn wsX6_move (wsV RX6 60 RX0 yX0_remember wsX0_remember) := goodIn_app (goodIn_of _ (by decide +kernel)) ggX6_move_X0_remember
set_option maxRecDepth 20000 in
theorem ggX6_move_X4_putProperty : GoodIn wsX6_move wsX4_putProperty := goodIn_r _ [58, 38, 80, 81, 82, 83, 84, 85, 86, 87, 88] (by decide +kernel) (by decide +kernel)
set_option maxRecDepth 20000 in
theorem gX6_move_X4_putProperty : GoodIn wsX6_move (wsV RX6 131 RX4 yX4_putProperty wsX4_putProperty) := goodIn_app (goodIn_of _ (by decide +kernel)) ggX6_move_X4_putProperty
set_option maxRecDepth 20000 in
theorem ggX6_move_X4_linesCovered : GoodIn wsX6_move wsX4_linesCovered := goodIn_r _ [62, 63, 64, 65, 66, 67, 68, 69, 70, 71, 72, 31, 73, 38, 80, 81, 82, 83, 84, 85, 86, 87, 88] (by decide +kernel) (by decide +kernel)
set_option maxRecDepth 20000 in
theorem gX6_move_X4_linesCovered : GoodIn wsX6_move (wsV RX6 137 RX4 yX4_linesCovered wsX4_linesCovered) := goodIn_app (goodIn_of _ (by decide +kernel)) ggX6_move_X4_linesCovered
theorem dX6_move_0 : decode cX6_move 0 = .ok (.aload_n 0, 1) := by decide +kernel
theorem dX6_move_1 : decode cX6_move 1 = .ok (.iload_n 1, 1) := by decide +kernel
theorem dX6_move_2 : decode cX6_move 2 = .ok (.invokevirtual 134, 3) := by decide +kernel
theorem dX6_move_5 : decode cX6_move 5 = .ok (.ifCond .eq 5, 3) := by decide +kernel
theorem dX6_move_8 : decode cX6_move 8 = .ok (.iconst (-1), 1) := by decide +kernel
theorem dX6_move_9 : decode cX6_move 9 = .ok (.ireturn, 1) := by decide +kernel
theorem dX6_move_10 : decode cX6_move 10 = .ok (.iload_n 2, 1) := by decide +kernel
theorem dX6_move_11 : decode cX6_move 11 = .ok (.iload_n 3, 1) := by decide +kernel
theorem dX6_move_12 : decode cX6_move 12 = .ok (.invokestatic 125, 3) := by decide +kernel
theorem dX6_move_15 : decode cX6_move 15 = .ok (.ifCond .eq 6, 3) := by decide +kernel
theorem dX6_move_18 : decode cX6_move 18 = .ok (.bipush (-2), 2) := by decide +kernel
theorem dX6_move_20 : decode cX6_move 20 = .ok (.ireturn, 1) := by decide +kernel
theorem dX6_move_21 : decode cX6_move 21 = .ok (.aload_n 0, 1) := by decide +kernel
theorem dX6_move_22 : decode cX6_move 22 = .ok (.getfield 42, 3) := by decide +kernel
theorem dX6_move_25 : decode cX6_move 25 = .ok (.aload_n 0, 1) := by decide +kernel
theorem dX6_move_26 : decode cX6_move 26 = .ok (.getfield 10, 3) := by decide +kernel
theorem dX6_move_29 : decode cX6_move 29 = .ok (.invokevirtual 60, 3) := by decide +kernel
theorem dX6_move_32 : decode cX6_move 32 = .ok (.aload_n 0, 1) := by decide +kernel
theorem dX6_move_33 : decode cX6_move 33 = .ok (.getfield 10, 3) := by decide +kernel
theorem dX6_move_36 : decode cX6_move 36 = .ok (.iload_n 1, 1) := by decide +kernel
theorem dX6_move_37 : decode cX6_move 37 = .ok (.iconst 4, 1) := by decide +kernel
theorem dX6_move_38 : decode cX6_move 38 = .ok (.iload_n 2, 1) := by decide +kernel
theorem dX6_move_39 : decode cX6_move 39 = .ok (.invokevirtual 131, 3) := by decide +kernel
theorem dX6_move_42 : decode cX6_move 42 = .ok (.aload_n 0, 1) := by decide +kernel
theorem dX6_move_43 : decode cX6_move 43 = .ok (.getfield 10, 3) := by decide +kernel
theorem dX6_move_46 : decode cX6_move 46 = .ok (.iload_n 1, 1) := by decide +kernel
theorem dX6_move_47 : decode cX6_move 47 = .ok (.iconst 5, 1) := by decide +kernel
theorem dX6_move_48 : decode cX6_move 48 = .ok (.iload_n 3, 1) := by decide +kernel
theorem dX6_move_49 : decode cX6_move 49 = .ok (.invokevirtual 131, 3) := by decide +kernel
theorem dX6_move_52 : decode cX6_move 52 = .ok (.aload_n 0, 1) := by decide +kernel
theorem dX6_move_53 : decode cX6_move 53 = .ok (.getfield 10, 3) := by decide +kernel
theorem dX6_move_56 : decode cX6_move 56 = .ok (.iload_n 1, 1) := by decide +kernel
theorem dX6_move_57 : decode cX6_move 57 = .ok (.invokevirtual 137, 3) := by decide +kernel
theorem dX6_move_60 : decode cX6_move 60 = .ok (.ireturn, 1) := by decide +kernel
set_option maxRecDepth 20000 in
theorem ggX6_set_X6_isNoSprite : GoodIn wsX6_set wsX6_isNoSprite := goodIn_r _ [7, 2, 8, 66, 67, 68, 69, 70, 71, 72, 73, 74, 75, 76, 77, 78, 79, 80] (by decide +kernel) (by decide +kernel)
set_option maxRecDepth 20000 in
theorem gX6_set_X6_isNoSprite : GoodIn wsX6_set (wsV RX6 134 RX6 yX6_isNoSprite wsX6_isNoSprite) := goodIn_app (goodIn_of _ (by decide +kernel)) ggX6_set_X6_isNoSprite
set_option maxRecDepth 20000 in
theorem ggX6_set_X6_valuesOf : GoodIn wsX6_set wsX6_valuesOf := goodIn_r _ [12, 2, 13, 14, 66, 67, 68, 69, 70, 71, 72, 73, 74, 75, 76, 77, 78, 79, 80, 81, 82, 83] (by decide +kernel) (by decide +kernel)
set_option maxRecDepth 20000 in
theorem gX6_set_X6_valuesOf : GoodIn wsX6_set (wsV RX6 141 RX6 yX6_valuesOf wsX6_valuesOf) := goodIn_app (goodIn_of _ (by decide +kernel)) ggX6_set_X6_valuesOf
set_option maxRecDepth 20000 in
theorem ggX6_set_X0_remember : GoodIn wsX6_set wsX0_remember := goodIn_r _ [19, 20, 21, 22, 23, 24, 18, 25, 26, 27, 28, 29, 30, 31, 32, 33, 34, 35, 36, 37, 38, 39, 40, 41, 42, 43, 44, 45, 46, 47, 48, 49, 50, 51, 52, 53, 54, 55, 56, 57, 84, 85, 86, 72, 73, 74, 75, 76, 77, 78, 79, 80, 81, 82, 83] (by decide +kernel) (by decide +kernel)
set_option maxRecDepth 20000 in
theorem gX6_set_X0_remember : GoodIn wsX6_set (wsV RX6 60 RX0 yX0_remember wsX0_remember) := goodIn_app (goodIn_of _ (by decide +kernel)) ggX6_set_X0_remember
set_option maxRecDepth 20000 in
theorem ggX6_set_X4_property : GoodIn wsX6_set wsX4_property := goodIn_r _ [61, 41, 72, 73, 74, 75, 76, 77, 78, 79, 80] (by decide +kernel) (by decide +kernel)
set_option maxRecDepth 20000 in
theorem gX6_set_X4_property : GoodIn wsX6_set (wsV RX6 144 RX4 yX4_property wsX4_property) := goodIn_app (goodIn_of _ (by decide +kernel)) ggX6_set_X4_property
set_option maxRecDepth 20000 in
theorem ggX6_set_X4_putProperty : GoodIn wsX6_set wsX4_putProperty := goodIn_r _ [65, 41, 72, 73, 74, 75, 76, 77, 78, 79, 80] (by decide +kernel) (by decide +kernel)
set_option maxRecDepth 20000 in
theorem gX6_set_X4_putProperty : GoodIn wsX6_set (wsV RX6 131 RX4 yX4_putProperty wsX4_putProperty) := goodIn_app (goodIn_of _ (by decide +kernel)) ggX6_set_X4_putProperty
theorem dX6_set_0 : decode cX6_set 0 = .ok (.aload_n 0, 1) := by decide +kernel
theorem dX6_set_1 : decode cX6_set 1 = .ok (.iload_n 1, 1) := by decide +kernel
theorem dX6_set_2 : decode cX6_set 2 = .ok (.invokevirtual 134, 3) := by decide +kernel
theorem dX6_set_5 : decode cX6_set 5 = .ok (.ifCond .eq 5, 3) := by decide +kernel
theorem dX6_set_8 : decode cX6_set 8 = .ok (.iconst (-1), 1) := by decide +kernel
theorem dX6_set_9 : decode cX6_set 9 = .ok (.ireturn, 1) := by decide +kernel
theorem dX6_set_10 : decode cX6_set 10 = .ok (.iload_n 3, 1) := by decide +kernel
theorem dX6_set_11 : decode cX6_set 11 = .ok (.ifCond .lt 12, 3) := by decide +kernel
theorem dX6_set_14 : decode cX6_set 14 = .ok (.iload_n 3, 1) := by decide +kernel
theorem dX6_set_15 : decode cX6_set 15 = .ok (.aload_n 0, 1) := by decide +kernel
theorem dX6_set_16 : decode cX6_set 16 = .ok (.iload_n 2, 1) := by decide +kernel
theorem dX6_set_17 : decode cX6_set 17 = .ok (.invokevirtual 141, 3) := by decide +kernel
theorem dX6_set_20 : decode cX6_set 20 = .ok (.if_icmp .lt 6, 3) := by decide +kernel
theorem dX6_set_23 : decode cX6_set 23 = .ok (.bipush (-2), 2) := by decide +kernel
theorem dX6_set_25 : decode cX6_set 25 = .ok (.ireturn, 1) := by decide +kernel
theorem dX6_set_26 : decode cX6_set 26 = .ok (.aload_n 0, 1) := by decide +kernel
theorem dX6_set_27 : decode cX6_set 27 = .ok (.getfield 42, 3) := by decide +kernel
theorem dX6_set_30 : decode cX6_set 30 = .ok (.aload_n 0, 1) := by decide +kernel
theorem dX6_set_31 : decode cX6_set 31 = .ok (.getfield 10, 3) := by decide +kernel
theorem dX6_set_34 : decode cX6_set 34 = .ok (.invokevirtual 60, 3) := by decide +kernel
theorem dX6_set_37 : decode cX6_set 37 = .ok (.aload_n 0, 1) := by decide +kernel
theorem dX6_set_38 : decode cX6_set 38 = .ok (.getfield 10, 3) := by decide +kernel
theorem dX6_set_41 : decode cX6_set 41 = .ok (.iload_n 1, 1) := by decide +kernel
theorem dX6_set_42 : decode cX6_set 42 = .ok (.iload_n 2, 1) := by decide +kernel
theorem dX6_set_43 : decode cX6_set 43 = .ok (.invokevirtual 144, 3) := by decide +kernel
theorem dX6_set_46 : decode cX6_set 46 = .ok (.istore 4, 2) := by decide +kernel
theorem dX6_set_48 : decode cX6_set 48 = .ok (.aload_n 0, 1) := by decide +kernel
theorem dX6_set_49 : decode cX6_set 49 = .ok (.getfield 10, 3) := by decide +kernel
theorem dX6_set_52 : decode cX6_set 52 = .ok (.iload_n 1, 1) := by decide +kernel
theorem dX6_set_53 : decode cX6_set 53 = .ok (.iload_n 2, 1) := by decide +kernel
theorem dX6_set_54 : decode cX6_set 54 = .ok (.iload_n 3, 1) := by decide +kernel
theorem dX6_set_55 : decode cX6_set 55 = .ok (.invokevirtual 131, 3) := by decide +kernel
theorem dX6_set_58 : decode cX6_set 58 = .ok (.iload 4, 2) := by decide +kernel
theorem dX6_set_60 : decode cX6_set 60 = .ok (.ireturn, 1) := by decide +kernel
set_option maxRecDepth 20000 in
theorem ggX6_swap_X6_isNoLine : GoodIn wsX6_swap wsX6_isNoLine := goodIn_r _ [6] (by decide +kernel) (by decide +kernel)
set_option maxRecDepth 20000 in
theorem gX6_swap_X6_isNoLine : GoodIn wsX6_swap (va_wsS RX6 147 yX6_isNoLine wsX6_isNoLine) := goodIn_app (goodIn_of _ (by decide +kernel)) ggX6_swap_X6_isNoLine
set_option maxRecDepth 20000 in
theorem ggX6_swap_X6_isNoPalette : GoodIn wsX6_swap wsX6_isNoPalette := goodIn_r _ [9] (by decide +kernel) (by decide +kernel)
set_option maxRecDepth 20000 in
theorem gX6_swap_X6_isNoPalette : GoodIn wsX6_swap (va_wsS RX6 114 yX6_isNoPalette wsX6_isNoPalette) := goodIn_app (goodIn_of _ (by decide +kernel)) ggX6_swap_X6_isNoPalette
set_option maxRecDepth 20000 in
theorem ggX6_swap_X0_remember : GoodIn wsX6_swap wsX0_remember := goodIn_r _ [14, 15, 16, 17, 18, 19, 13, 20, 21, 22, 23, 24, 25, 26, 27, 28, 29, 30, 31, 32, 33, 34, 35, 36, 37, 38, 39, 40, 41, 42, 43, 44, 45, 46, 47, 48, 49, 50, 51, 52, 86, 87, 88, 89, 90, 91, 92, 93, 94, 95, 96, 97, 98, 99, 100] (by decide +kernel) (by decide +kernel)
set_option maxRecDepth 20000 in
theorem gX6_swap_X0_remember : GoodIn wsX6_swap (wsV RX6 60 RX0 yX0_remember wsX0_remember) := goodIn_app (goodIn_of _ (by decide +kernel)) ggX6_swap_X0_remember
set_option maxRecDepth 20000 in
theorem ggX6_swap_X4_putSwap : GoodIn wsX6_swap wsX4_putSwap := goodIn_r _ [56, 42, 43, 57, 58, 59, 60, 61, 62, 63, 89, 90, 91, 92, 93, 94, 95, 96, 97] (by decide +kernel) (by decide +kernel)
set_option maxRecDepth 20000 in
theorem gX6_swap_X4_putSwap : GoodIn wsX6_swap (wsV RX6 150 RX4 yX4_putSwap wsX4_putSwap) := goodIn_app (goodIn_of _ (by decide +kernel)) ggX6_swap_X4_putSwap
set_option maxRecDepth 20000 in
theorem ggX6_swap_X4_linesWithSwap : GoodIn wsX6_swap wsX4_linesWithSwap := goodIn_r _ [67, 68, 69, 70, 29, 71, 72, 73, 74, 75, 42, 76, 77, 78, 79, 43, 89, 90, 91, 92, 93, 94, 95, 96, 97] (by decide +kernel) (by decide +kernel)
set_option maxRecDepth 20000 in
theorem gX6_swap_X4_linesWithSwap : GoodIn wsX6_swap (wsV RX6 153 RX4 yX4_linesWithSwap wsX4_linesWithSwap) := goodIn_app (goodIn_of _ (by decide +kernel)) ggX6_swap_X4_linesWithSwap
theorem dX6_swap_0 : decode cX6_swap 0 = .ok (.iload_n 1, 1) := by decide +kernel
theorem dX6_swap_1 : decode cX6_swap 1 = .ok (.invokestatic 147, 3) := by decide +kernel
theorem dX6_swap_4 : decode cX6_swap 4 = .ok (.ifCond .ne 25, 3) := by decide +kernel
theorem dX6_swap_7 : decode cX6_swap 7 = .ok (.iload_n 2, 1) := by decide +kernel
theorem dX6_swap_8 : decode cX6_swap 8 = .ok (.invokestatic 147, 3) := by decide +kernel
theorem dX6_swap_11 : decode cX6_swap 11 = .ok (.ifCond .ne 18, 3) := by decide +kernel
theorem dX6_swap_14 : decode cX6_swap 14 = .ok (.iload_n 3, 1) := by decide +kernel
theorem dX6_swap_15 : decode cX6_swap 15 = .ok (.invokestatic 114, 3) := by decide +kernel
theorem dX6_swap_18 : decode cX6_swap 18 = .ok (.ifCond .ne 11, 3) := by decide +kernel
theorem dX6_swap_21 : decode cX6_swap 21 = .ok (.iload 4, 2) := by decide +kernel
theorem dX6_swap_23 : decode cX6_swap 23 = .ok (.invokestatic 114, 3) := by decide +kernel
theorem dX6_swap_26 : decode cX6_swap 26 = .ok (.ifCond .eq 5, 3) := by decide +kernel
theorem dX6_swap_29 : decode cX6_swap 29 = .ok (.iconst (-1), 1) := by decide +kernel
theorem dX6_swap_30 : decode cX6_swap 30 = .ok (.ireturn, 1) := by decide +kernel
theorem dX6_swap_31 : decode cX6_swap 31 = .ok (.iload_n 2, 1) := by decide +kernel
theorem dX6_swap_32 : decode cX6_swap 32 = .ok (.iload_n 1, 1) := by decide +kernel
theorem dX6_swap_33 : decode cX6_swap 33 = .ok (.if_icmp .ge 6, 3) := by decide +kernel
theorem dX6_swap_36 : decode cX6_swap 36 = .ok (.bipush (-2), 2) := by decide +kernel
theorem dX6_swap_38 : decode cX6_swap 38 = .ok (.ireturn, 1) := by decide +kernel
theorem dX6_swap_39 : decode cX6_swap 39 = .ok (.aload_n 0, 1) := by decide +kernel
theorem dX6_swap_40 : decode cX6_swap 40 = .ok (.getfield 42, 3) := by decide +kernel
theorem dX6_swap_43 : decode cX6_swap 43 = .ok (.aload_n 0, 1) := by decide +kernel
theorem dX6_swap_44 : decode cX6_swap 44 = .ok (.getfield 10, 3) := by decide +kernel
theorem dX6_swap_47 : decode cX6_swap 47 = .ok (.invokevirtual 60, 3) := by decide +kernel
theorem dX6_swap_50 : decode cX6_swap 50 = .ok (.iload_n 1, 1) := by decide +kernel
theorem dX6_swap_51 : decode cX6_swap 51 = .ok (.istore 5, 2) := by decide +kernel
theorem dX6_swap_53 : decode cX6_swap 53 = .ok (.iload 5, 2) := by decide +kernel
theorem dX6_swap_55 : decode cX6_swap 55 = .ok (.iload_n 2, 1) := by decide +kernel
theorem dX6_swap_56 : decode cX6_swap 56 = .ok (.if_icmp .gt 21, 3) := by decide +kernel
theorem dX6_swap_59 : decode cX6_swap 59 = .ok (.aload_n 0, 1) := by decide +kernel
theorem dX6_swap_60 : decode cX6_swap 60 = .ok (.getfield 10, 3) := by decide +kernel
theorem dX6_swap_63 : decode cX6_swap 63 = .ok (.iload 5, 2) := by decide +kernel
theorem dX6_swap_65 : decode cX6_swap 65 = .ok (.iload_n 3, 1) := by decide +kernel
theorem dX6_swap_66 : decode cX6_swap 66 = .ok (.iload 4, 2) := by decide +kernel
theorem dX6_swap_68 : decode cX6_swap 68 = .ok (.invokevirtual 150, 3) := by decide +kernel
theorem dX6_swap_71 : decode cX6_swap 71 = .ok (.iinc 5 1, 3) := by decide +kernel
theorem dX6_swap_74 : decode cX6_swap 74 = .ok (.goto (-21), 3) := by decide +kernel
theorem dX6_swap_77 : decode cX6_swap 77 = .ok (.aload_n 0, 1) := by decide +kernel
theorem dX6_swap_78 : decode cX6_swap 78 = .ok (.getfield 10, 3) := by decide +kernel
theorem dX6_swap_81 : decode cX6_swap 81 = .ok (.invokevirtual 153, 3) := by decide +kernel
theorem dX6_swap_84 : decode cX6_swap 84 = .ok (.ireturn, 1) := by decide +kernel
set_option maxRecDepth 20000 in
theorem ggX6_setLimit_X0_remember : GoodIn wsX6_setLimit wsX0_remember := goodIn_r _ [8, 9, 10, 11, 12, 13, 7, 14, 15, 16, 17, 18, 19, 20, 21, 22, 23, 24, 25, 26, 27, 28, 29, 30, 31, 32, 33, 34, 35, 36, 37, 38, 39, 40, 41, 42, 43, 44, 45, 46, 62, 63, 64, 53, 54, 55, 56, 57, 58, 59, 60, 61, 65, 66, 67] (by decide +kernel) (by decide +kernel)
set_option maxRecDepth 20000 in
theorem gX6_setLimit_X0_remember : GoodIn wsX6_setLimit (wsV RX6 60 RX0 yX0_remember wsX0_remember) := goodIn_app (goodIn_of _ (by decide +kernel)) ggX6_setLimit_X0_remember
theorem dX6_setLimit_0 : decode cX6_setLimit 0 = .ok (.iload_n 1, 1) := by decide +kernel
theorem dX6_setLimit_1 : decode cX6_setLimit 1 = .ok (.iconst 1, 1) := by decide +kernel
theorem dX6_setLimit_2 : decode cX6_setLimit 2 = .ok (.if_icmp .lt 9, 3) := by decide +kernel
theorem dX6_setLimit_5 : decode cX6_setLimit 5 = .ok (.iload_n 1, 1) := by decide +kernel
theorem dX6_setLimit_6 : decode cX6_setLimit 6 = .ok (.bipush 20, 2) := by decide +kernel
theorem dX6_setLimit_8 : decode cX6_setLimit 8 = .ok (.if_icmp .le 6, 3) := by decide +kernel
theorem dX6_setLimit_11 : decode cX6_setLimit 11 = .ok (.bipush (-2), 2) := by decide +kernel
theorem dX6_setLimit_13 : decode cX6_setLimit 13 = .ok (.ireturn, 1) := by decide +kernel
theorem dX6_setLimit_14 : decode cX6_setLimit 14 = .ok (.aload_n 0, 1) := by decide +kernel
theorem dX6_setLimit_15 : decode cX6_setLimit 15 = .ok (.getfield 42, 3) := by decide +kernel
theorem dX6_setLimit_18 : decode cX6_setLimit 18 = .ok (.aload_n 0, 1) := by decide +kernel
theorem dX6_setLimit_19 : decode cX6_setLimit 19 = .ok (.getfield 10, 3) := by decide +kernel
theorem dX6_setLimit_22 : decode cX6_setLimit 22 = .ok (.invokevirtual 60, 3) := by decide +kernel
theorem dX6_setLimit_25 : decode cX6_setLimit 25 = .ok (.aload_n 0, 1) := by decide +kernel
theorem dX6_setLimit_26 : decode cX6_setLimit 26 = .ok (.getfield 10, 3) := by decide +kernel
theorem dX6_setLimit_29 : decode cX6_setLimit 29 = .ok (.getfield 156, 3) := by decide +kernel
theorem dX6_setLimit_32 : decode cX6_setLimit 32 = .ok (.istore_n 2, 1) := by decide +kernel
theorem dX6_setLimit_33 : decode cX6_setLimit 33 = .ok (.aload_n 0, 1) := by decide +kernel
theorem dX6_setLimit_34 : decode cX6_setLimit 34 = .ok (.getfield 10, 3) := by decide +kernel
theorem dX6_setLimit_37 : decode cX6_setLimit 37 = .ok (.iload_n 1, 1) := by decide +kernel
theorem dX6_setLimit_38 : decode cX6_setLimit 38 = .ok (.putfield 156, 3) := by decide +kernel
theorem dX6_setLimit_41 : decode cX6_setLimit 41 = .ok (.iload_n 2, 1) := by decide +kernel
theorem dX6_setLimit_42 : decode cX6_setLimit 42 = .ok (.ireturn, 1) := by decide +kernel
set_option maxRecDepth 20000 in
theorem ggX6_setStride_X0_remember : GoodIn wsX6_setStride wsX0_remember := goodIn_r _ [8, 9, 10, 11, 12, 13, 7, 14, 15, 16, 17, 18, 19, 20, 21, 22, 23, 24, 25, 26, 27, 28, 29, 30, 31, 32, 33, 34, 35, 36, 37, 38, 39, 40, 41, 42, 43, 44, 45, 46, 62, 63, 64, 53, 54, 55, 56, 57, 58, 59, 60, 61, 65, 66, 67] (by decide +kernel) (by decide +kernel)
set_option maxRecDepth 20000 in
theorem gX6_setStride_X0_remember : GoodIn wsX6_setStride (wsV RX6 60 RX0 yX0_remember wsX0_remember) := goodIn_app (goodIn_of _ (by decide +kernel)) ggX6_setStride_X0_remember
theorem dX6_setStride_0 : decode cX6_setStride 0 = .ok (.iload_n 1, 1) := by decide +kernel
theorem dX6_setStride_1 : decode cX6_setStride 1 = .ok (.ifCond .lt 9, 3) := by decide +kernel
theorem dX6_setStride_4 : decode cX6_setStride 4 = .ok (.iload_n 1, 1) := by decide +kernel
theorem dX6_setStride_5 : decode cX6_setStride 5 = .ok (.bipush 20, 2) := by decide +kernel
theorem dX6_setStride_7 : decode cX6_setStride 7 = .ok (.if_icmp .lt 6, 3) := by decide +kernel
theorem dX6_setStride_10 : decode cX6_setStride 10 = .ok (.bipush (-2), 2) := by decide +kernel
theorem dX6_setStride_12 : decode cX6_setStride 12 = .ok (.ireturn, 1) := by decide +kernel
theorem dX6_setStride_13 : decode cX6_setStride 13 = .ok (.aload_n 0, 1) := by decide +kernel
theorem dX6_setStride_14 : decode cX6_setStride 14 = .ok (.getfield 42, 3) := by decide +kernel
theorem dX6_setStride_17 : decode cX6_setStride 17 = .ok (.aload_n 0, 1) := by decide +kernel
theorem dX6_setStride_18 : decode cX6_setStride 18 = .ok (.getfield 10, 3) := by decide +kernel
theorem dX6_setStride_21 : decode cX6_setStride 21 = .ok (.invokevirtual 60, 3) := by decide +kernel
theorem dX6_setStride_24 : decode cX6_setStride 24 = .ok (.aload_n 0, 1) := by decide +kernel
theorem dX6_setStride_25 : decode cX6_setStride 25 = .ok (.getfield 10, 3) := by decide +kernel
theorem dX6_setStride_28 : decode cX6_setStride 28 = .ok (.getfield 159, 3) := by decide +kernel
theorem dX6_setStride_31 : decode cX6_setStride 31 = .ok (.istore_n 2, 1) := by decide +kernel
theorem dX6_setStride_32 : decode cX6_setStride 32 = .ok (.aload_n 0, 1) := by decide +kernel
theorem dX6_setStride_33 : decode cX6_setStride 33 = .ok (.getfield 10, 3) := by decide +kernel
theorem dX6_setStride_36 : decode cX6_setStride 36 = .ok (.iload_n 1, 1) := by decide +kernel
theorem dX6_setStride_37 : decode cX6_setStride 37 = .ok (.putfield 159, 3) := by decide +kernel
theorem dX6_setStride_40 : decode cX6_setStride 40 = .ok (.iload_n 2, 1) := by decide +kernel
theorem dX6_setStride_41 : decode cX6_setStride 41 = .ok (.ireturn, 1) := by decide +kernel
set_option maxRecDepth 20000 in
theorem ggX6_next_X0_remember : GoodIn wsX6_next wsX0_remember := goodIn_r _ [10, 11, 12, 13, 14, 15, 9, 16, 17, 18, 19, 20, 21, 22, 23, 24, 25, 26, 27, 28, 29, 30, 31, 32, 33, 34, 35, 36, 37, 38, 39, 40, 41, 42, 43, 44, 45, 46, 47, 48, 64, 65, 66, 55, 56, 57, 58, 59, 60, 61, 62, 63, 67, 68, 69] (by decide +kernel) (by decide +kernel)
set_option maxRecDepth 20000 in
theorem gX6_next_X0_remember : GoodIn wsX6_next (wsV RX6 60 RX0 yX0_remember wsX0_remember) := goodIn_app (goodIn_of _ (by decide +kernel)) ggX6_next_X0_remember
theorem dX6_next_0 : decode cX6_next 0 = .ok (.iload_n 1, 1) := by decide +kernel
theorem dX6_next_1 : decode cX6_next 1 = .ok (.iconst 1, 1) := by decide +kernel
theorem dX6_next_2 : decode cX6_next 2 = .ok (.if_icmp .lt 9, 3) := by decide +kernel
theorem dX6_next_5 : decode cX6_next 5 = .ok (.iload_n 1, 1) := by decide +kernel
theorem dX6_next_6 : decode cX6_next 6 = .ok (.ldc 162, 2) := by decide +kernel
theorem dX6_next_8 : decode cX6_next 8 = .ok (.if_icmp .le 6, 3) := by decide +kernel
theorem dX6_next_11 : decode cX6_next 11 = .ok (.bipush (-2), 2) := by decide +kernel
theorem dX6_next_13 : decode cX6_next 13 = .ok (.ireturn, 1) := by decide +kernel
theorem dX6_next_14 : decode cX6_next 14 = .ok (.aload_n 0, 1) := by decide +kernel
theorem dX6_next_15 : decode cX6_next 15 = .ok (.getfield 10, 3) := by decide +kernel
theorem dX6_next_18 : decode cX6_next 18 = .ok (.getfield 163, 3) := by decide +kernel
theorem dX6_next_21 : decode cX6_next 21 = .ok (.ldc 166, 2) := by decide +kernel
theorem dX6_next_23 : decode cX6_next 23 = .ok (.iload_n 1, 1) := by decide +kernel
theorem dX6_next_24 : decode cX6_next 24 = .ok (.isub, 1) := by decide +kernel
theorem dX6_next_25 : decode cX6_next 25 = .ok (.if_icmp .le 6, 3) := by decide +kernel
theorem dX6_next_28 : decode cX6_next 28 = .ok (.bipush (-4), 2) := by decide +kernel
theorem dX6_next_30 : decode cX6_next 30 = .ok (.ireturn, 1) := by decide +kernel
theorem dX6_next_31 : decode cX6_next 31 = .ok (.aload_n 0, 1) := by decide +kernel
theorem dX6_next_32 : decode cX6_next 32 = .ok (.getfield 42, 3) := by decide +kernel
theorem dX6_next_35 : decode cX6_next 35 = .ok (.aload_n 0, 1) := by decide +kernel
theorem dX6_next_36 : decode cX6_next 36 = .ok (.getfield 10, 3) := by decide +kernel
theorem dX6_next_39 : decode cX6_next 39 = .ok (.invokevirtual 60, 3) := by decide +kernel
theorem dX6_next_42 : decode cX6_next 42 = .ok (.aload_n 0, 1) := by decide +kernel
theorem dX6_next_43 : decode cX6_next 43 = .ok (.getfield 10, 3) := by decide +kernel
theorem dX6_next_46 : decode cX6_next 46 = .ok (.aload_n 0, 1) := by decide +kernel
theorem dX6_next_47 : decode cX6_next 47 = .ok (.getfield 10, 3) := by decide +kernel
theorem dX6_next_50 : decode cX6_next 50 = .ok (.getfield 163, 3) := by decide +kernel
theorem dX6_next_53 : decode cX6_next 53 = .ok (.iload_n 1, 1) := by decide +kernel
theorem dX6_next_54 : decode cX6_next 54 = .ok (.iadd, 1) := by decide +kernel
theorem dX6_next_55 : decode cX6_next 55 = .ok (.putfield 163, 3) := by decide +kernel
theorem dX6_next_58 : decode cX6_next 58 = .ok (.aload_n 0, 1) := by decide +kernel
theorem dX6_next_59 : decode cX6_next 59 = .ok (.getfield 10, 3) := by decide +kernel
theorem dX6_next_62 : decode cX6_next 62 = .ok (.getfield 163, 3) := by decide +kernel
theorem dX6_next_65 : decode cX6_next 65 = .ok (.ireturn, 1) := by decide +kernel
set_option maxRecDepth 20000 in
theorem ggX6_undo_X0_takeBack : GoodIn wsX6_undo wsX0_takeBack := goodIn_r _ [8, 9, 10, 11, 12, 7, 13, 14, 15, 16, 17, 18, 19, 20, 21, 22, 23, 24, 25, 26, 27, 28, 29, 30, 31, 32, 33, 34, 35, 36, 37, 38, 39, 40, 41, 42, 43, 44, 45, 46, 53, 54, 55, 56, 57, 58, 59, 60, 61, 62, 63, 64, 65, 66, 67] (by decide +kernel) (by decide +kernel)
set_option maxRecDepth 20000 in
theorem gX6_undo_X0_takeBack : GoodIn wsX6_undo (wsV RX6 170 RX0 yX0_takeBack wsX0_takeBack) := goodIn_app (goodIn_of _ (by decide +kernel)) ggX6_undo_X0_takeBack
theorem dX6_undo_0 : decode cX6_undo 0 = .ok (.aload_n 0, 1) := by decide +kernel
theorem dX6_undo_1 : decode cX6_undo 1 = .ok (.getfield 42, 3) := by decide +kernel
theorem dX6_undo_4 : decode cX6_undo 4 = .ok (.getfield 167, 3) := by decide +kernel
theorem dX6_undo_7 : decode cX6_undo 7 = .ok (.ifCond .ne 6, 3) := by decide +kernel
theorem dX6_undo_10 : decode cX6_undo 10 = .ok (.bipush (-5), 2) := by decide +kernel
theorem dX6_undo_12 : decode cX6_undo 12 = .ok (.ireturn, 1) := by decide +kernel
theorem dX6_undo_13 : decode cX6_undo 13 = .ok (.aload_n 0, 1) := by decide +kernel
theorem dX6_undo_14 : decode cX6_undo 14 = .ok (.getfield 42, 3) := by decide +kernel
theorem dX6_undo_17 : decode cX6_undo 17 = .ok (.aload_n 0, 1) := by decide +kernel
theorem dX6_undo_18 : decode cX6_undo 18 = .ok (.getfield 10, 3) := by decide +kernel
theorem dX6_undo_21 : decode cX6_undo 21 = .ok (.invokevirtual 170, 3) := by decide +kernel
theorem dX6_undo_24 : decode cX6_undo 24 = .ok (.aload_n 0, 1) := by decide +kernel
theorem dX6_undo_25 : decode cX6_undo 25 = .ok (.getfield 42, 3) := by decide +kernel
theorem dX6_undo_28 : decode cX6_undo 28 = .ok (.getfield 167, 3) := by decide +kernel
theorem dX6_undo_31 : decode cX6_undo 31 = .ok (.ireturn, 1) := by decide +kernel
set_option maxRecDepth 20000 in
theorem ggX6_keep_X6_isNoSlot : GoodIn wsX6_keep wsX6_isNoSlot := goodIn_r _ [10] (by decide +kernel) (by decide +kernel)
set_option maxRecDepth 20000 in
theorem gX6_keep_X6_isNoSlot : GoodIn wsX6_keep (va_wsS RX6 173 yX6_isNoSlot wsX6_isNoSlot) := goodIn_app (goodIn_of _ (by decide +kernel)) ggX6_keep_X6_isNoSlot
set_option maxRecDepth 20000 in
theorem ggX6_keep_X4_init : GoodIn wsX6_keep wsX4_init := goodIn_r _ [13, 14, 15, 16, 17, 18, 19, 20, 21, 22, 23, 24, 25, 26, 27, 28, 29, 30, 31, 32, 56, 57, 58, 59, 60, 61, 62, 63, 64, 65, 66, 67] (by decide +kernel) (by decide +kernel)
set_option maxRecDepth 20000 in
theorem gX6_keep_X4_init : GoodIn wsX6_keep (wsX4_init) := ggX6_keep_X4_init
set_option maxRecDepth 20000 in
theorem ggX6_keep_X4_copyFrom : GoodIn wsX6_keep wsX4_copyFrom := goodIn_r _ [36, 37, 17, 38, 39, 21, 23, 40, 41, 42, 43, 24, 25, 26, 44, 45, 46, 20, 47, 48, 31, 49, 32, 56, 57, 58, 59, 60, 61, 62, 63, 64, 65, 66, 67] (by decide +kernel) (by decide +kernel)
set_option maxRecDepth 20000 in
theorem gX6_keep_X4_copyFrom : GoodIn wsX6_keep (wsV RX6 176 RX4 yX4_copyFrom wsX4_copyFrom) := goodIn_app (goodIn_of _ (by decide +kernel)) ggX6_keep_X4_copyFrom
theorem dX6_keep_0 : decode cX6_keep 0 = .ok (.iload_n 1, 1) := by decide +kernel
theorem dX6_keep_1 : decode cX6_keep 1 = .ok (.invokestatic 173, 3) := by decide +kernel
theorem dX6_keep_4 : decode cX6_keep 4 = .ok (.ifCond .eq 5, 3) := by decide +kernel
theorem dX6_keep_7 : decode cX6_keep 7 = .ok (.iconst (-1), 1) := by decide +kernel
theorem dX6_keep_8 : decode cX6_keep 8 = .ok (.ireturn, 1) := by decide +kernel
theorem dX6_keep_9 : decode cX6_keep 9 = .ok (.aload_n 0, 1) := by decide +kernel
theorem dX6_keep_10 : decode cX6_keep 10 = .ok (.getfield 46, 3) := by decide +kernel
theorem dX6_keep_13 : decode cX6_keep 13 = .ok (.iload_n 1, 1) := by decide +kernel
theorem dX6_keep_14 : decode cX6_keep 14 = .ok (.aaload, 1) := by decide +kernel
theorem dX6_keep_15 : decode cX6_keep 15 = .ok (.ifnonnull 16, 3) := by decide +kernel
theorem dX6_keep_18 : decode cX6_keep 18 = .ok (.aload_n 0, 1) := by decide +kernel
theorem dX6_keep_19 : decode cX6_keep 19 = .ok (.getfield 46, 3) := by decide +kernel
theorem dX6_keep_22 : decode cX6_keep 22 = .ok (.iload_n 1, 1) := by decide +kernel
theorem dX6_keep_23 : decode cX6_keep 23 = .ok (.new 7, 3) := by decide +kernel
theorem dX6_keep_26 : decode cX6_keep 26 = .ok (.dup, 1) := by decide +kernel
theorem dX6_keep_27 : decode cX6_keep 27 = .ok (.invokespecial 9, 3) := by decide +kernel
theorem dX6_keep_30 : decode cX6_keep 30 = .ok (.aastore, 1) := by decide +kernel
theorem dX6_keep_31 : decode cX6_keep 31 = .ok (.aload_n 0, 1) := by decide +kernel
theorem dX6_keep_32 : decode cX6_keep 32 = .ok (.getfield 46, 3) := by decide +kernel
theorem dX6_keep_35 : decode cX6_keep 35 = .ok (.iload_n 1, 1) := by decide +kernel
theorem dX6_keep_36 : decode cX6_keep 36 = .ok (.aaload, 1) := by decide +kernel
theorem dX6_keep_37 : decode cX6_keep 37 = .ok (.aload_n 0, 1) := by decide +kernel
theorem dX6_keep_38 : decode cX6_keep 38 = .ok (.getfield 10, 3) := by decide +kernel
theorem dX6_keep_41 : decode cX6_keep 41 = .ok (.invokevirtual 176, 3) := by decide +kernel
theorem dX6_keep_44 : decode cX6_keep 44 = .ok (.aload_n 0, 1) := by decide +kernel
theorem dX6_keep_45 : decode cX6_keep 45 = .ok (.getfield 10, 3) := by decide +kernel
theorem dX6_keep_48 : decode cX6_keep 48 = .ok (.getfield 163, 3) := by decide +kernel
theorem dX6_keep_51 : decode cX6_keep 51 = .ok (.ireturn, 1) := by decide +kernel
set_option maxRecDepth 20000 in
theorem ggX6_restore_X6_isNoSlot : GoodIn wsX6_restore wsX6_isNoSlot := goodIn_r _ [8] (by decide +kernel) (by decide +kernel)
set_option maxRecDepth 20000 in
theorem gX6_restore_X6_isNoSlot : GoodIn wsX6_restore (va_wsS RX6 173 yX6_isNoSlot wsX6_isNoSlot) := goodIn_app (goodIn_of _ (by decide +kernel)) ggX6_restore_X6_isNoSlot
set_option maxRecDepth 20000 in
theorem ggX6_restore_X0_remember : GoodIn wsX6_restore wsX0_remember := goodIn_r _ [13, 14, 15, 16, 17, 18, 12, 19, 20, 21, 22, 23, 24, 25, 26, 27, 28, 29, 30, 31, 32, 33, 34, 35, 36, 37, 38, 39, 40, 41, 42, 43, 44, 45, 46, 47, 48, 49, 50, 51, 68, 69, 70, 59, 60, 61, 62, 63, 64, 65, 66, 67, 71, 72, 73] (by decide +kernel) (by decide +kernel)
set_option maxRecDepth 20000 in
theorem gX6_restore_X0_remember : GoodIn wsX6_restore (wsV RX6 60 RX0 yX0_remember wsX0_remember) := goodIn_app (goodIn_of _ (by decide +kernel)) ggX6_restore_X0_remember
set_option maxRecDepth 20000 in
theorem ggX6_restore_X4_copyFrom : GoodIn wsX6_restore wsX4_copyFrom := goodIn_r _ [29, 30, 31, 32, 33, 34, 35, 36, 37, 38, 39, 40, 41, 42, 43, 44, 45, 46, 47, 48, 49, 50, 51, 59, 60, 61, 62, 63, 64, 65, 66, 67, 71, 72, 73] (by decide +kernel) (by decide +kernel)
set_option maxRecDepth 20000 in
theorem gX6_restore_X4_copyFrom : GoodIn wsX6_restore (wsV RX6 176 RX4 yX4_copyFrom wsX4_copyFrom) := goodIn_app (goodIn_of _ (by decide +kernel)) ggX6_restore_X4_copyFrom
theorem dX6_restore_0 : decode cX6_restore 0 = .ok (.iload_n 1, 1) := by decide +kernel
theorem dX6_restore_1 : decode cX6_restore 1 = .ok (.invokestatic 173, 3) := by decide +kernel
theorem dX6_restore_4 : decode cX6_restore 4 = .ok (.ifCond .eq 5, 3) := by decide +kernel
theorem dX6_restore_7 : decode cX6_restore 7 = .ok (.iconst (-1), 1) := by decide +kernel
theorem dX6_restore_8 : decode cX6_restore 8 = .ok (.ireturn, 1) := by decide +kernel
theorem dX6_restore_9 : decode cX6_restore 9 = .ok (.aload_n 0, 1) := by decide +kernel
theorem dX6_restore_10 : decode cX6_restore 10 = .ok (.getfield 46, 3) := by decide +kernel
theorem dX6_restore_13 : decode cX6_restore 13 = .ok (.iload_n 1, 1) := by decide +kernel
theorem dX6_restore_14 : decode cX6_restore 14 = .ok (.aaload, 1) := by decide +kernel
theorem dX6_restore_15 : decode cX6_restore 15 = .ok (.astore_n 2, 1) := by decide +kernel
theorem dX6_restore_16 : decode cX6_restore 16 = .ok (.aload_n 2, 1) := by decide +kernel
theorem dX6_restore_17 : decode cX6_restore 17 = .ok (.ifnonnull 6, 3) := by decide +kernel
theorem dX6_restore_20 : decode cX6_restore 20 = .ok (.bipush (-5), 2) := by decide +kernel
theorem dX6_restore_22 : decode cX6_restore 22 = .ok (.ireturn, 1) := by decide +kernel
theorem dX6_restore_23 : decode cX6_restore 23 = .ok (.aload_n 0, 1) := by decide +kernel
theorem dX6_restore_24 : decode cX6_restore 24 = .ok (.getfield 42, 3) := by decide +kernel
theorem dX6_restore_27 : decode cX6_restore 27 = .ok (.aload_n 0, 1) := by decide +kernel
theorem dX6_restore_28 : decode cX6_restore 28 = .ok (.getfield 10, 3) := by decide +kernel
theorem dX6_restore_31 : decode cX6_restore 31 = .ok (.invokevirtual 60, 3) := by decide +kernel
theorem dX6_restore_34 : decode cX6_restore 34 = .ok (.aload_n 0, 1) := by decide +kernel
theorem dX6_restore_35 : decode cX6_restore 35 = .ok (.getfield 10, 3) := by decide +kernel
theorem dX6_restore_38 : decode cX6_restore 38 = .ok (.aload_n 2, 1) := by decide +kernel
theorem dX6_restore_39 : decode cX6_restore 39 = .ok (.invokevirtual 176, 3) := by decide +kernel
theorem dX6_restore_42 : decode cX6_restore 42 = .ok (.aload_n 0, 1) := by decide +kernel
theorem dX6_restore_43 : decode cX6_restore 43 = .ok (.getfield 10, 3) := by decide +kernel
theorem dX6_restore_46 : decode cX6_restore 46 = .ok (.getfield 163, 3) := by decide +kernel
theorem dX6_restore_49 : decode cX6_restore 49 = .ok (.ireturn, 1) := by decide +kernel
set_option maxRecDepth 20000 in
theorem ggX6_pixel_X6_isNoPart : GoodIn wsX6_pixel wsX6_isNoPart := goodIn_r _ [7, 1, 2, 8, 27, 28, 29, 30, 31, 32, 33, 34, 35, 36, 37, 38, 39, 40, 41, 42, 43, 44] (by decide +kernel) (by decide +kernel)
set_option maxRecDepth 20000 in
theorem gX6_pixel_X6_isNoPart : GoodIn wsX6_pixel (wsV RX6 66 RX6 yX6_isNoPart wsX6_isNoPart) := goodIn_app (goodIn_of _ (by decide +kernel)) ggX6_pixel_X6_isNoPart
set_option maxRecDepth 20000 in
theorem ggX6_pixel_X6_isNoPlaceInPart : GoodIn wsX6_pixel wsX6_isNoPlaceInPart := goodIn_r _ [11] (by decide +kernel) (by decide +kernel)
set_option maxRecDepth 20000 in
theorem gX6_pixel_X6_isNoPlaceInPart : GoodIn wsX6_pixel (va_wsS RX6 70 yX6_isNoPlaceInPart wsX6_isNoPlaceInPart) := goodIn_app (goodIn_of _ (by decide +kernel)) ggX6_pixel_X6_isNoPlaceInPart
set_option maxRecDepth 20000 in
theorem ggX6_pixel_X3_pixelAt : GoodIn wsX6_pixel wsX3_pixelAt := goodIn_r _ [16, 17, 18, 19, 15, 20, 21, 22, 23, 24, 25, 26, 42, 43, 44] (by decide +kernel) (by decide +kernel)
set_option maxRecDepth 20000 in
theorem gX6_pixel_X3_pixelAt : GoodIn wsX6_pixel (wsV RX6 74 RX3 yX3_pixelAt wsX3_pixelAt) := goodIn_app (goodIn_of _ (by decide +kernel)) ggX6_pixel_X3_pixelAt
theorem dX6_pixel_0 : decode cX6_pixel 0 = .ok (.aload_n 0, 1) := by decide +kernel
theorem dX6_pixel_1 : decode cX6_pixel 1 = .ok (.iload_n 1, 1) := by decide +kernel
theorem dX6_pixel_2 : decode cX6_pixel 2 = .ok (.invokevirtual 66, 3) := by decide +kernel
theorem dX6_pixel_5 : decode cX6_pixel 5 = .ok (.ifCond .eq 5, 3) := by decide +kernel
theorem dX6_pixel_8 : decode cX6_pixel 8 = .ok (.iconst (-1), 1) := by decide +kernel
theorem dX6_pixel_9 : decode cX6_pixel 9 = .ok (.ireturn, 1) := by decide +kernel
theorem dX6_pixel_10 : decode cX6_pixel 10 = .ok (.iload_n 2, 1) := by decide +kernel
theorem dX6_pixel_11 : decode cX6_pixel 11 = .ok (.iload_n 3, 1) := by decide +kernel
theorem dX6_pixel_12 : decode cX6_pixel 12 = .ok (.invokestatic 70, 3) := by decide +kernel
theorem dX6_pixel_15 : decode cX6_pixel 15 = .ok (.ifCond .eq 6, 3) := by decide +kernel
theorem dX6_pixel_18 : decode cX6_pixel 18 = .ok (.bipush (-2), 2) := by decide +kernel
theorem dX6_pixel_20 : decode cX6_pixel 20 = .ok (.ireturn, 1) := by decide +kernel
theorem dX6_pixel_21 : decode cX6_pixel 21 = .ok (.aload_n 0, 1) := by decide +kernel
theorem dX6_pixel_22 : decode cX6_pixel 22 = .ok (.getfield 10, 3) := by decide +kernel
theorem dX6_pixel_25 : decode cX6_pixel 25 = .ok (.getfield 50, 3) := by decide +kernel
theorem dX6_pixel_28 : decode cX6_pixel 28 = .ok (.iload_n 1, 1) := by decide +kernel
theorem dX6_pixel_29 : decode cX6_pixel 29 = .ok (.iconst 0, 1) := by decide +kernel
theorem dX6_pixel_30 : decode cX6_pixel 30 = .ok (.iload_n 2, 1) := by decide +kernel
theorem dX6_pixel_31 : decode cX6_pixel 31 = .ok (.iload_n 3, 1) := by decide +kernel
theorem dX6_pixel_32 : decode cX6_pixel 32 = .ok (.invokevirtual 74, 3) := by decide +kernel
theorem dX6_pixel_35 : decode cX6_pixel 35 = .ok (.ireturn, 1) := by decide +kernel
set_option maxRecDepth 20000 in
theorem ggX6_alike_X6_isNoPart : GoodIn wsX6_alike wsX6_isNoPart := goodIn_r _ [7, 1, 2, 8, 36, 37, 38, 39, 40, 41, 42, 43, 44, 45, 46, 47, 48, 49, 50, 51, 52, 53] (by decide +kernel) (by decide +kernel)
set_option maxRecDepth 20000 in
theorem gX6_alike_X6_isNoPart : GoodIn wsX6_alike (wsV RX6 66 RX6 yX6_isNoPart wsX6_isNoPart) := goodIn_app (goodIn_of _ (by decide +kernel)) ggX6_alike_X6_isNoPart
set_option maxRecDepth 20000 in
theorem ggX6_alike_X3_wayToMatch : GoodIn wsX6_alike wsX3_wayToMatch := goodIn_r _ [13, 14, 15, 16, 12, 17, 18, 19, 20, 21, 22, 23, 24, 25, 26, 27, 28, 29, 30, 31, 32, 33, 34, 35, 51, 52, 53] (by decide +kernel) (by decide +kernel)
set_option maxRecDepth 20000 in
theorem gX6_alike_X3_wayToMatch : GoodIn wsX6_alike (wsV RX6 183 RX3 yX3_wayToMatch wsX3_wayToMatch) := goodIn_app (goodIn_of _ (by decide +kernel)) ggX6_alike_X3_wayToMatch
theorem dX6_alike_0 : decode cX6_alike 0 = .ok (.aload_n 0, 1) := by decide +kernel
theorem dX6_alike_1 : decode cX6_alike 1 = .ok (.iload_n 1, 1) := by decide +kernel
theorem dX6_alike_2 : decode cX6_alike 2 = .ok (.invokevirtual 66, 3) := by decide +kernel
theorem dX6_alike_5 : decode cX6_alike 5 = .ok (.ifCond .ne 11, 3) := by decide +kernel
theorem dX6_alike_8 : decode cX6_alike 8 = .ok (.aload_n 0, 1) := by decide +kernel
theorem dX6_alike_9 : decode cX6_alike 9 = .ok (.iload_n 2, 1) := by decide +kernel
theorem dX6_alike_10 : decode cX6_alike 10 = .ok (.invokevirtual 66, 3) := by decide +kernel
theorem dX6_alike_13 : decode cX6_alike 13 = .ok (.ifCond .eq 5, 3) := by decide +kernel
theorem dX6_alike_16 : decode cX6_alike 16 = .ok (.iconst (-1), 1) := by decide +kernel
theorem dX6_alike_17 : decode cX6_alike 17 = .ok (.ireturn, 1) := by decide +kernel
theorem dX6_alike_18 : decode cX6_alike 18 = .ok (.aload_n 0, 1) := by decide +kernel
theorem dX6_alike_19 : decode cX6_alike 19 = .ok (.getfield 10, 3) := by decide +kernel
theorem dX6_alike_22 : decode cX6_alike 22 = .ok (.getfield 50, 3) := by decide +kernel
theorem dX6_alike_25 : decode cX6_alike 25 = .ok (.iload_n 1, 1) := by decide +kernel
theorem dX6_alike_26 : decode cX6_alike 26 = .ok (.iconst 0, 1) := by decide +kernel
theorem dX6_alike_27 : decode cX6_alike 27 = .ok (.iload_n 2, 1) := by decide +kernel
theorem dX6_alike_28 : decode cX6_alike 28 = .ok (.invokevirtual 183, 3) := by decide +kernel
theorem dX6_alike_31 : decode cX6_alike 31 = .ok (.ireturn, 1) := by decide +kernel
set_option maxRecDepth 20000 in
theorem ggX6_color_X6_isNoLine : GoodIn wsX6_color wsX6_isNoLine := goodIn_r _ [7] (by decide +kernel) (by decide +kernel)
set_option maxRecDepth 20000 in
theorem gX6_color_X6_isNoLine : GoodIn wsX6_color (va_wsS RX6 147 yX6_isNoLine wsX6_isNoLine) := goodIn_app (goodIn_of _ (by decide +kernel)) ggX6_color_X6_isNoLine
set_option maxRecDepth 20000 in
theorem ggX6_color_X5_shownSet : GoodIn wsX6_color wsX5_shownSet := goodIn_r _ [12, 13, 14, 15, 16, 11, 17, 18, 19, 20, 21, 22, 23, 24, 25, 26, 27, 28, 29, 30, 31, 32, 33, 34, 35, 99, 100, 101, 102, 90, 91, 92, 93, 94, 95, 96, 97, 98] (by decide +kernel) (by decide +kernel)
set_option maxRecDepth 20000 in
theorem gX6_color_X5_shownSet : GoodIn wsX6_color (wsV RX6 187 RX5 yX5_shownSet wsX5_shownSet) := goodIn_app (goodIn_of _ (by decide +kernel)) ggX6_color_X5_shownSet
set_option maxRecDepth 20000 in
theorem ggX6_color_X5_colorAt : GoodIn wsX6_color wsX5_colorAt := goodIn_r _ [39, 18, 19, 40, 6, 41, 42, 43, 44, 11, 45, 46, 47, 32, 33, 29, 34, 35, 48, 49, 50, 51, 52, 53, 54, 55, 56, 57, 58, 59, 60, 61, 62, 63, 64, 65, 66, 67, 68, 69, 70, 71, 72, 73, 74, 75, 76, 77, 78, 79, 80, 81, 82, 83, 99, 100, 101, 102, 90, 91, 92, 93, 94, 95, 96, 97, 98, 103, 104, 105] (by decide +kernel) (by decide +kernel)
set_option maxRecDepth 20000 in
theorem gX6_color_X5_colorAt : GoodIn wsX6_color (wsV RX6 190 RX5 yX5_colorAt wsX5_colorAt) := goodIn_app (goodIn_of _ (by decide +kernel)) ggX6_color_X5_colorAt
theorem dX6_color_0 : decode cX6_color 0 = .ok (.iload_n 1, 1) := by decide +kernel
theorem dX6_color_1 : decode cX6_color 1 = .ok (.invokestatic 147, 3) := by decide +kernel
theorem dX6_color_4 : decode cX6_color 4 = .ok (.ifCond .ne 13, 3) := by decide +kernel
theorem dX6_color_7 : decode cX6_color 7 = .ok (.iload_n 2, 1) := by decide +kernel
theorem dX6_color_8 : decode cX6_color 8 = .ok (.ifCond .lt 9, 3) := by decide +kernel
theorem dX6_color_11 : decode cX6_color 11 = .ok (.iload_n 2, 1) := by decide +kernel
theorem dX6_color_12 : decode cX6_color 12 = .ok (.bipush 32, 2) := by decide +kernel
theorem dX6_color_14 : decode cX6_color 14 = .ok (.if_icmp .lt 5, 3) := by decide +kernel
theorem dX6_color_17 : decode cX6_color 17 = .ok (.iconst (-1), 1) := by decide +kernel
theorem dX6_color_18 : decode cX6_color 18 = .ok (.ireturn, 1) := by decide +kernel
theorem dX6_color_19 : decode cX6_color 19 = .ok (.aload_n 0, 1) := by decide +kernel
theorem dX6_color_20 : decode cX6_color 20 = .ok (.getfield 21, 3) := by decide +kernel
theorem dX6_color_23 : decode cX6_color 23 = .ok (.iload_n 1, 1) := by decide +kernel
theorem dX6_color_24 : decode cX6_color 24 = .ok (.iload_n 2, 1) := by decide +kernel
theorem dX6_color_25 : decode cX6_color 25 = .ok (.aload_n 0, 1) := by decide +kernel
theorem dX6_color_26 : decode cX6_color 26 = .ok (.getfield 21, 3) := by decide +kernel
theorem dX6_color_29 : decode cX6_color 29 = .ok (.iload_n 1, 1) := by decide +kernel
theorem dX6_color_30 : decode cX6_color 30 = .ok (.aload_n 0, 1) := by decide +kernel
theorem dX6_color_31 : decode cX6_color 31 = .ok (.getfield 10, 3) := by decide +kernel
theorem dX6_color_34 : decode cX6_color 34 = .ok (.getfield 163, 3) := by decide +kernel
theorem dX6_color_37 : decode cX6_color 37 = .ok (.invokevirtual 187, 3) := by decide +kernel
theorem dX6_color_40 : decode cX6_color 40 = .ok (.invokevirtual 190, 3) := by decide +kernel
theorem dX6_color_43 : decode cX6_color 43 = .ok (.ireturn, 1) := by decide +kernel
set_option maxRecDepth 20000 in
theorem ggX6_sprite_X6_isNoSprite : GoodIn wsX6_sprite wsX6_isNoSprite := goodIn_r _ [7, 1, 8, 108, 109, 110, 111, 112, 113, 114, 115, 116, 117, 118, 119, 120, 121, 122] (by decide +kernel) (by decide +kernel)
set_option maxRecDepth 20000 in
theorem gX6_sprite_X6_isNoSprite : GoodIn wsX6_sprite (wsV RX6 134 RX6 yX6_isNoSprite wsX6_isNoSprite) := goodIn_app (goodIn_of _ (by decide +kernel)) ggX6_sprite_X6_isNoSprite
set_option maxRecDepth 20000 in
theorem ggX6_sprite_X4_property : GoodIn wsX6_sprite wsX4_property := goodIn_r _ [13, 14, 114, 115, 116, 117, 118, 119, 120, 121, 122] (by decide +kernel) (by decide +kernel)
set_option maxRecDepth 20000 in
theorem gX6_sprite_X4_property : GoodIn wsX6_sprite (wsV RX6 144 RX4 yX4_property wsX4_property) := goodIn_app (goodIn_of _ (by decide +kernel)) ggX6_sprite_X4_property
set_option maxRecDepth 20000 in
theorem ggX6_sprite_X5_linesShowing : GoodIn wsX6_sprite wsX5_linesShowing := goodIn_r _ [19, 20, 21, 22, 23, 24, 12, 25, 26, 10, 11, 13, 14, 27, 28, 29, 18, 30, 31, 32, 33, 34, 35, 36, 37, 38, 39, 40, 41, 42, 43, 6, 44, 123, 124, 125, 126, 114, 115, 116, 117, 118, 119, 120, 121, 122] (by decide +kernel) (by decide +kernel)
set_option maxRecDepth 20000 in
theorem gX6_sprite_X5_linesShowing : GoodIn wsX6_sprite (wsV RX6 193 RX5 yX5_linesShowing wsX5_linesShowing) := goodIn_app (goodIn_of _ (by decide +kernel)) ggX6_sprite_X5_linesShowing
set_option maxRecDepth 20000 in
theorem ggX6_sprite_X4_linesCovered : GoodIn wsX6_sprite wsX4_linesCovered := goodIn_r _ [48, 49, 39, 40, 41, 50, 51, 52, 26, 10, 11, 12, 13, 14, 114, 115, 116, 117, 118, 119, 120, 121, 122] (by decide +kernel) (by decide +kernel)
set_option maxRecDepth 20000 in
theorem gX6_sprite_X4_linesCovered : GoodIn wsX6_sprite (wsV RX6 137 RX4 yX4_linesCovered wsX4_linesCovered) := goodIn_app (goodIn_of _ (by decide +kernel)) ggX6_sprite_X4_linesCovered
set_option maxRecDepth 20000 in
theorem ggX6_sprite_X5_partnersOf : GoodIn wsX6_sprite wsX5_partnersOf := goodIn_r _ [56, 57, 58, 59, 60, 18, 61, 20, 21, 62, 27, 28, 29, 30, 31, 32, 33, 34, 35, 36, 37, 38, 39, 40, 41, 42, 22, 23, 24, 12, 25, 26, 10, 11, 13, 14, 43, 6, 44, 63, 64, 65, 66, 67, 68, 69, 70, 71, 72, 73, 74, 75, 76, 77, 78, 79, 80, 81, 82, 83, 84, 85, 86, 87, 88, 89, 90, 91, 92, 93, 94, 95, 96, 97, 98, 99, 100, 123, 124, 125, 126, 114, 115, 116, 117, 118, 119, 120, 121, 122, 127, 128, 129] (by decide +kernel) (by decide +kernel)
set_option maxRecDepth 20000 in
theorem gX6_sprite_X5_partnersOf : GoodIn wsX6_sprite (wsV RX6 196 RX5 yX5_partnersOf wsX5_partnersOf) := goodIn_app (goodIn_of _ (by decide +kernel)) ggX6_sprite_X5_partnersOf
set_option maxRecDepth 20000 in
theorem ggX6_sprite_J6_bitCount_0f7a4 : GoodIn wsX6_sprite wsJ6_bitCount_0f7a4 := goodIn_r _ [104, 105, 106, 107] (by decide +kernel) (by decide +kernel)
set_option maxRecDepth 20000 in
theorem gX6_sprite_J6_bitCount_0f7a4 : GoodIn wsX6_sprite (va_wsS RX6 199 yJ6_bitCount_0f7a4 wsJ6_bitCount_0f7a4) := goodIn_app (goodIn_of _ (by decide +kernel)) ggX6_sprite_J6_bitCount_0f7a4
theorem dX6_sprite_0 : decode cX6_sprite 0 = .ok (.aload_n 0, 1) := by decide +kernel
theorem dX6_sprite_1 : decode cX6_sprite 1 = .ok (.iload_n 1, 1) := by decide +kernel
theorem dX6_sprite_2 : decode cX6_sprite 2 = .ok (.invokevirtual 134, 3) := by decide +kernel
theorem dX6_sprite_5 : decode cX6_sprite 5 = .ok (.ifCond .eq 5, 3) := by decide +kernel
theorem dX6_sprite_8 : decode cX6_sprite 8 = .ok (.iconst (-1), 1) := by decide +kernel
theorem dX6_sprite_9 : decode cX6_sprite 9 = .ok (.ireturn, 1) := by decide +kernel
theorem dX6_sprite_10 : decode cX6_sprite 10 = .ok (.iload_n 2, 1) := by decide +kernel
theorem dX6_sprite_11 : decode cX6_sprite 11 = .ok (.ifCond .lt 19, 3) := by decide +kernel
theorem dX6_sprite_14 : decode cX6_sprite 14 = .ok (.iload_n 2, 1) := by decide +kernel
theorem dX6_sprite_15 : decode cX6_sprite 15 = .ok (.bipush 6, 2) := by decide +kernel
theorem dX6_sprite_17 : decode cX6_sprite 17 = .ok (.if_icmp .ge 13, 3) := by decide +kernel
theorem dX6_sprite_20 : decode cX6_sprite 20 = .ok (.aload_n 0, 1) := by decide +kernel
theorem dX6_sprite_21 : decode cX6_sprite 21 = .ok (.getfield 10, 3) := by decide +kernel
theorem dX6_sprite_24 : decode cX6_sprite 24 = .ok (.iload_n 1, 1) := by decide +kernel
theorem dX6_sprite_25 : decode cX6_sprite 25 = .ok (.iload_n 2, 1) := by decide +kernel
theorem dX6_sprite_26 : decode cX6_sprite 26 = .ok (.invokevirtual 144, 3) := by decide +kernel
theorem dX6_sprite_29 : decode cX6_sprite 29 = .ok (.ireturn, 1) := by decide +kernel
theorem dX6_sprite_30 : decode cX6_sprite 30 = .ok (.iload_n 2, 1) := by decide +kernel
theorem dX6_sprite_31 : decode cX6_sprite 31 = .ok (.tableswitch 55 6 8 #[25, 34, 43], 25) := by decide +kernel
theorem dX6_sprite_56 : decode cX6_sprite 56 = .ok (.aload_n 0, 1) := by decide +kernel
theorem dX6_sprite_57 : decode cX6_sprite 57 = .ok (.getfield 21, 3) := by decide +kernel
theorem dX6_sprite_60 : decode cX6_sprite 60 = .ok (.iload_n 1, 1) := by decide +kernel
theorem dX6_sprite_61 : decode cX6_sprite 61 = .ok (.invokevirtual 193, 3) := by decide +kernel
theorem dX6_sprite_64 : decode cX6_sprite 64 = .ok (.ireturn, 1) := by decide +kernel
theorem dX6_sprite_65 : decode cX6_sprite 65 = .ok (.aload_n 0, 1) := by decide +kernel
theorem dX6_sprite_66 : decode cX6_sprite 66 = .ok (.getfield 10, 3) := by decide +kernel
theorem dX6_sprite_69 : decode cX6_sprite 69 = .ok (.iload_n 1, 1) := by decide +kernel
theorem dX6_sprite_70 : decode cX6_sprite 70 = .ok (.invokevirtual 137, 3) := by decide +kernel
theorem dX6_sprite_73 : decode cX6_sprite 73 = .ok (.ireturn, 1) := by decide +kernel
theorem dX6_sprite_74 : decode cX6_sprite 74 = .ok (.aload_n 0, 1) := by decide +kernel
theorem dX6_sprite_75 : decode cX6_sprite 75 = .ok (.getfield 21, 3) := by decide +kernel
theorem dX6_sprite_78 : decode cX6_sprite 78 = .ok (.iload_n 1, 1) := by decide +kernel
theorem dX6_sprite_79 : decode cX6_sprite 79 = .ok (.invokevirtual 196, 3) := by decide +kernel
theorem dX6_sprite_82 : decode cX6_sprite 82 = .ok (.invokestatic 199, 3) := by decide +kernel
theorem dX6_sprite_85 : decode cX6_sprite 85 = .ok (.ireturn, 1) := by decide +kernel
theorem dX6_sprite_86 : decode cX6_sprite 86 = .ok (.bipush (-2), 2) := by decide +kernel
theorem dX6_sprite_88 : decode cX6_sprite 88 = .ok (.ireturn, 1) := by decide +kernel
set_option maxRecDepth 20000 in
theorem ggX6_line_X6_isNoLine : GoodIn wsX6_line wsX6_isNoLine := goodIn_r _ [7] (by decide +kernel) (by decide +kernel)
set_option maxRecDepth 20000 in
theorem gX6_line_X6_isNoLine : GoodIn wsX6_line (va_wsS RX6 147 yX6_isNoLine wsX6_isNoLine) := goodIn_app (goodIn_of _ (by decide +kernel)) ggX6_line_X6_isNoLine
set_option maxRecDepth 20000 in
theorem ggX6_line_X5_countCovering : GoodIn wsX6_line wsX5_countCovering := goodIn_r _ [12, 13, 14, 15, 16, 17, 18, 19, 20, 21, 22, 23, 24, 115, 116, 117, 118, 106, 107, 108, 109, 110, 111, 112, 113, 114] (by decide +kernel) (by decide +kernel)
set_option maxRecDepth 20000 in
theorem gX6_line_X5_countCovering : GoodIn wsX6_line (wsV RX6 204 RX5 yX5_countCovering wsX5_countCovering) := goodIn_app (goodIn_of _ (by decide +kernel)) ggX6_line_X5_countCovering
set_option maxRecDepth 20000 in
theorem ggX6_line_X5_findShown : GoodIn wsX6_line wsX5_findShown := goodIn_r _ [28, 13, 14, 29, 30, 31, 32, 33, 34, 35, 15, 16, 17, 18, 19, 20, 21, 22, 23, 24, 115, 116, 117, 118, 106, 107, 108, 109, 110, 111, 112, 113, 114] (by decide +kernel) (by decide +kernel)
set_option maxRecDepth 20000 in
theorem gX6_line_X5_findShown : GoodIn wsX6_line (wsV RX6 207 RX5 yX5_findShown wsX5_findShown) := goodIn_app (goodIn_of _ (by decide +kernel)) ggX6_line_X5_findShown
set_option maxRecDepth 20000 in
theorem ggX6_line_X5_countColored : GoodIn wsX6_line wsX5_countColored := goodIn_r _ [39, 13, 40, 41, 42, 43, 11, 44, 30, 45, 26, 27, 28, 14, 29, 31, 32, 33, 34, 35, 15, 16, 17, 18, 19, 20, 21, 22, 23, 24, 46, 47, 48, 49, 50, 6, 51, 52, 53, 54, 55, 56, 57, 58, 59, 60, 61, 62, 63, 64, 65, 66, 67, 68, 69, 70, 71, 72, 73, 74, 75, 76, 77, 78, 79, 80, 81, 82, 83, 84, 85, 86, 87, 88, 89, 90, 91, 92, 93, 115, 116, 117, 118, 106, 107, 108, 109, 110, 111, 112, 113, 114, 119, 120, 121] (by decide +kernel) (by decide +kernel)
set_option maxRecDepth 20000 in
theorem gX6_line_X5_countColored : GoodIn wsX6_line (wsV RX6 210 RX5 yX5_countColored wsX5_countColored) := goodIn_app (goodIn_of _ (by decide +kernel)) ggX6_line_X5_countColored
set_option maxRecDepth 20000 in
theorem ggX6_line_X4_hasSwap : GoodIn wsX6_line wsX4_hasSwap := goodIn_r _ [97, 79, 80, 81, 18, 82, 83, 84, 85, 86, 87, 88, 106, 107, 108, 109, 110, 111, 112, 113, 114] (by decide +kernel) (by decide +kernel)
set_option maxRecDepth 20000 in
theorem gX6_line_X4_hasSwap : GoodIn wsX6_line (wsV RX6 213 RX4 yX4_hasSwap wsX4_hasSwap) := goodIn_app (goodIn_of _ (by decide +kernel)) ggX6_line_X4_hasSwap
set_option maxRecDepth 20000 in
theorem ggX6_line_X4_lowerOfSwap : GoodIn wsX6_line wsX4_lowerOfSwap := goodIn_r _ [82, 83, 106, 107, 108, 109, 110, 111, 112, 113, 114] (by decide +kernel) (by decide +kernel)
set_option maxRecDepth 20000 in
theorem gX6_line_X4_lowerOfSwap : GoodIn wsX6_line (wsV RX6 216 RX4 yX4_lowerOfSwap wsX4_lowerOfSwap) := goodIn_app (goodIn_of _ (by decide +kernel)) ggX6_line_X4_lowerOfSwap
set_option maxRecDepth 20000 in
theorem ggX6_line_X4_upperOfSwap : GoodIn wsX6_line wsX4_upperOfSwap := goodIn_r _ [87, 88, 106, 107, 108, 109, 110, 111, 112, 113, 114] (by decide +kernel) (by decide +kernel)
set_option maxRecDepth 20000 in
theorem gX6_line_X4_upperOfSwap : GoodIn wsX6_line (wsV RX6 219 RX4 yX4_upperOfSwap wsX4_upperOfSwap) := goodIn_app (goodIn_of _ (by decide +kernel)) ggX6_line_X4_upperOfSwap
theorem dX6_line_0 : decode cX6_line 0 = .ok (.iload_n 1, 1) := by decide +kernel
theorem dX6_line_1 : decode cX6_line 1 = .ok (.invokestatic 147, 3) := by decide +kernel
theorem dX6_line_4 : decode cX6_line 4 = .ok (.ifCond .eq 5, 3) := by decide +kernel
theorem dX6_line_7 : decode cX6_line 7 = .ok (.iconst (-1), 1) := by decide +kernel
theorem dX6_line_8 : decode cX6_line 8 = .ok (.ireturn, 1) := by decide +kernel
theorem dX6_line_9 : decode cX6_line 9 = .ok (.iload_n 2, 1) := by decide +kernel
theorem dX6_line_10 : decode cX6_line 10 = .ok (.tableswitch 118 0 4 #[34, 43, 59, 68, 93], 34) := by decide +kernel
theorem dX6_line_44 : decode cX6_line 44 = .ok (.aload_n 0, 1) := by decide +kernel
theorem dX6_line_45 : decode cX6_line 45 = .ok (.getfield 21, 3) := by decide +kernel
theorem dX6_line_48 : decode cX6_line 48 = .ok (.iload_n 1, 1) := by decide +kernel
theorem dX6_line_49 : decode cX6_line 49 = .ok (.invokevirtual 204, 3) := by decide +kernel
theorem dX6_line_52 : decode cX6_line 52 = .ok (.ireturn, 1) := by decide +kernel
theorem dX6_line_53 : decode cX6_line 53 = .ok (.aload_n 0, 1) := by decide +kernel
theorem dX6_line_54 : decode cX6_line 54 = .ok (.getfield 21, 3) := by decide +kernel
theorem dX6_line_57 : decode cX6_line 57 = .ok (.iload_n 1, 1) := by decide +kernel
theorem dX6_line_58 : decode cX6_line 58 = .ok (.aload_n 0, 1) := by decide +kernel
theorem dX6_line_59 : decode cX6_line 59 = .ok (.getfield 10, 3) := by decide +kernel
theorem dX6_line_62 : decode cX6_line 62 = .ok (.getfield 163, 3) := by decide +kernel
theorem dX6_line_65 : decode cX6_line 65 = .ok (.invokevirtual 207, 3) := by decide +kernel
theorem dX6_line_68 : decode cX6_line 68 = .ok (.ireturn, 1) := by decide +kernel
theorem dX6_line_69 : decode cX6_line 69 = .ok (.aload_n 0, 1) := by decide +kernel
theorem dX6_line_70 : decode cX6_line 70 = .ok (.getfield 21, 3) := by decide +kernel
theorem dX6_line_73 : decode cX6_line 73 = .ok (.iload_n 1, 1) := by decide +kernel
theorem dX6_line_74 : decode cX6_line 74 = .ok (.invokevirtual 210, 3) := by decide +kernel
theorem dX6_line_77 : decode cX6_line 77 = .ok (.ireturn, 1) := by decide +kernel
theorem dX6_line_78 : decode cX6_line 78 = .ok (.aload_n 0, 1) := by decide +kernel
theorem dX6_line_79 : decode cX6_line 79 = .ok (.getfield 10, 3) := by decide +kernel
theorem dX6_line_82 : decode cX6_line 82 = .ok (.iload_n 1, 1) := by decide +kernel
theorem dX6_line_83 : decode cX6_line 83 = .ok (.invokevirtual 213, 3) := by decide +kernel
theorem dX6_line_86 : decode cX6_line 86 = .ok (.ifCond .eq 14, 3) := by decide +kernel
theorem dX6_line_89 : decode cX6_line 89 = .ok (.aload_n 0, 1) := by decide +kernel
theorem dX6_line_90 : decode cX6_line 90 = .ok (.getfield 10, 3) := by decide +kernel
theorem dX6_line_93 : decode cX6_line 93 = .ok (.iload_n 1, 1) := by decide +kernel
theorem dX6_line_94 : decode cX6_line 94 = .ok (.invokevirtual 216, 3) := by decide +kernel
theorem dX6_line_97 : decode cX6_line 97 = .ok (.goto 5, 3) := by decide +kernel
theorem dX6_line_100 : decode cX6_line 100 = .ok (.bipush (-5), 2) := by decide +kernel
theorem dX6_line_102 : decode cX6_line 102 = .ok (.ireturn, 1) := by decide +kernel
theorem dX6_line_103 : decode cX6_line 103 = .ok (.aload_n 0, 1) := by decide +kernel
theorem dX6_line_104 : decode cX6_line 104 = .ok (.getfield 10, 3) := by decide +kernel
theorem dX6_line_107 : decode cX6_line 107 = .ok (.iload_n 1, 1) := by decide +kernel
theorem dX6_line_108 : decode cX6_line 108 = .ok (.invokevirtual 213, 3) := by decide +kernel
theorem dX6_line_111 : decode cX6_line 111 = .ok (.ifCond .eq 14, 3) := by decide +kernel
theorem dX6_line_114 : decode cX6_line 114 = .ok (.aload_n 0, 1) := by decide +kernel
theorem dX6_line_115 : decode cX6_line 115 = .ok (.getfield 10, 3) := by decide +kernel
theorem dX6_line_118 : decode cX6_line 118 = .ok (.iload_n 1, 1) := by decide +kernel
theorem dX6_line_119 : decode cX6_line 119 = .ok (.invokevirtual 219, 3) := by decide +kernel
theorem dX6_line_122 : decode cX6_line 122 = .ok (.goto 5, 3) := by decide +kernel
theorem dX6_line_125 : decode cX6_line 125 = .ok (.bipush (-5), 2) := by decide +kernel
theorem dX6_line_127 : decode cX6_line 127 = .ok (.ireturn, 1) := by decide +kernel
theorem dX6_line_128 : decode cX6_line 128 = .ok (.bipush (-2), 2) := by decide +kernel
theorem dX6_line_130 : decode cX6_line 130 = .ok (.ireturn, 1) := by decide +kernel
set_option maxRecDepth 20000 in
theorem ggX6_shown_X6_isNoLine : GoodIn wsX6_shown wsX6_isNoLine := goodIn_r _ [5] (by decide +kernel) (by decide +kernel)
set_option maxRecDepth 20000 in
theorem gX6_shown_X6_isNoLine : GoodIn wsX6_shown (va_wsS RX6 147 yX6_isNoLine wsX6_isNoLine) := goodIn_app (goodIn_of _ (by decide +kernel)) ggX6_shown_X6_isNoLine
set_option maxRecDepth 20000 in
theorem ggX6_shown_X5_shownAt : GoodIn wsX6_shown wsX5_shownAt := goodIn_r _ [10, 11, 12, 13, 14, 15, 16, 9, 17, 18, 19, 20, 21, 22, 23, 24, 25, 26, 27, 28, 29, 30, 31, 32, 33, 34, 41, 42, 43, 44, 45, 46, 47, 48, 49, 50, 51, 52, 53] (by decide +kernel) (by decide +kernel)
set_option maxRecDepth 20000 in
theorem gX6_shown_X5_shownAt : GoodIn wsX6_shown (wsV RX6 225 RX5 yX5_shownAt wsX5_shownAt) := goodIn_app (goodIn_of _ (by decide +kernel)) ggX6_shown_X5_shownAt
theorem dX6_shown_0 : decode cX6_shown 0 = .ok (.iload_n 1, 1) := by decide +kernel
theorem dX6_shown_1 : decode cX6_shown 1 = .ok (.invokestatic 147, 3) := by decide +kernel
theorem dX6_shown_4 : decode cX6_shown 4 = .ok (.ifCond .eq 5, 3) := by decide +kernel
theorem dX6_shown_7 : decode cX6_shown 7 = .ok (.iconst (-1), 1) := by decide +kernel
theorem dX6_shown_8 : decode cX6_shown 8 = .ok (.ireturn, 1) := by decide +kernel
theorem dX6_shown_9 : decode cX6_shown 9 = .ok (.iload_n 2, 1) := by decide +kernel
theorem dX6_shown_10 : decode cX6_shown 10 = .ok (.ifCond .ge 6, 3) := by decide +kernel
theorem dX6_shown_13 : decode cX6_shown 13 = .ok (.bipush (-2), 2) := by decide +kernel
theorem dX6_shown_15 : decode cX6_shown 15 = .ok (.ireturn, 1) := by decide +kernel
theorem dX6_shown_16 : decode cX6_shown 16 = .ok (.aload_n 0, 1) := by decide +kernel
theorem dX6_shown_17 : decode cX6_shown 17 = .ok (.getfield 21, 3) := by decide +kernel
theorem dX6_shown_20 : decode cX6_shown 20 = .ok (.iload_n 1, 1) := by decide +kernel
theorem dX6_shown_21 : decode cX6_shown 21 = .ok (.iload_n 2, 1) := by decide +kernel
theorem dX6_shown_22 : decode cX6_shown 22 = .ok (.invokevirtual 225, 3) := by decide +kernel
theorem dX6_shown_25 : decode cX6_shown 25 = .ok (.ireturn, 1) := by decide +kernel
set_option maxRecDepth 20000 in
theorem ggX6_meet_X6_isNoSprite : GoodIn wsX6_meet wsX6_isNoSprite := goodIn_r _ [6, 7, 8, 89, 90, 91, 92, 93, 94, 95, 96, 97, 98, 99, 100, 101, 102, 103] (by decide +kernel) (by decide +kernel)
set_option maxRecDepth 20000 in
theorem gX6_meet_X6_isNoSprite : GoodIn wsX6_meet (wsV RX6 134 RX6 yX6_isNoSprite wsX6_isNoSprite) := goodIn_app (goodIn_of _ (by decide +kernel)) ggX6_meet_X6_isNoSprite
set_option maxRecDepth 20000 in
theorem ggX6_meet_X5_partnersOf : GoodIn wsX6_meet wsX5_partnersOf := goodIn_r _ [13, 14, 15, 16, 17, 12, 18, 19, 20, 21, 22, 23, 24, 25, 26, 27, 28, 29, 30, 31, 32, 33, 34, 35, 36, 37, 38, 39, 40, 41, 42, 43, 44, 45, 46, 47, 48, 5, 49, 50, 51, 52, 53, 54, 55, 56, 57, 58, 59, 60, 61, 62, 63, 64, 65, 66, 67, 68, 69, 70, 71, 72, 73, 74, 75, 76, 77, 78, 79, 80, 81, 82, 83, 84, 85, 86, 87, 104, 105, 106, 107, 95, 96, 97, 98, 99, 100, 101, 102, 103, 108, 109, 110] (by decide +kernel) (by decide +kernel)
set_option maxRecDepth 20000 in
theorem gX6_meet_X5_partnersOf : GoodIn wsX6_meet (wsV RX6 196 RX5 yX5_partnersOf wsX5_partnersOf) := goodIn_app (goodIn_of _ (by decide +kernel)) ggX6_meet_X5_partnersOf
set_option maxRecDepth 20000 in
theorem ggX6_meet_X6_contains : GoodIn wsX6_meet wsX6_contains := goodIn_r _ [49] (by decide +kernel) (by decide +kernel)
set_option maxRecDepth 20000 in
theorem gX6_meet_X6_contains : GoodIn wsX6_meet (va_wsS RX6 228 yX6_contains wsX6_contains) := goodIn_app (goodIn_of _ (by decide +kernel)) ggX6_meet_X6_contains
theorem dX6_meet_0 : decode cX6_meet 0 = .ok (.aload_n 0, 1) := by decide +kernel
theorem dX6_meet_1 : decode cX6_meet 1 = .ok (.iload_n 1, 1) := by decide +kernel
theorem dX6_meet_2 : decode cX6_meet 2 = .ok (.invokevirtual 134, 3) := by decide +kernel
theorem dX6_meet_5 : decode cX6_meet 5 = .ok (.ifCond .ne 11, 3) := by decide +kernel
theorem dX6_meet_8 : decode cX6_meet 8 = .ok (.aload_n 0, 1) := by decide +kernel
theorem dX6_meet_9 : decode cX6_meet 9 = .ok (.iload_n 2, 1) := by decide +kernel
theorem dX6_meet_10 : decode cX6_meet 10 = .ok (.invokevirtual 134, 3) := by decide +kernel
theorem dX6_meet_13 : decode cX6_meet 13 = .ok (.ifCond .eq 5, 3) := by decide +kernel
theorem dX6_meet_16 : decode cX6_meet 16 = .ok (.iconst (-1), 1) := by decide +kernel
theorem dX6_meet_17 : decode cX6_meet 17 = .ok (.ireturn, 1) := by decide +kernel
theorem dX6_meet_18 : decode cX6_meet 18 = .ok (.iload_n 1, 1) := by decide +kernel
theorem dX6_meet_19 : decode cX6_meet 19 = .ok (.iload_n 2, 1) := by decide +kernel
theorem dX6_meet_20 : decode cX6_meet 20 = .ok (.if_icmp .ne 6, 3) := by decide +kernel
theorem dX6_meet_23 : decode cX6_meet 23 = .ok (.bipush (-2), 2) := by decide +kernel
theorem dX6_meet_25 : decode cX6_meet 25 = .ok (.ireturn, 1) := by decide +kernel
theorem dX6_meet_26 : decode cX6_meet 26 = .ok (.aload_n 0, 1) := by decide +kernel
theorem dX6_meet_27 : decode cX6_meet 27 = .ok (.getfield 21, 3) := by decide +kernel
theorem dX6_meet_30 : decode cX6_meet 30 = .ok (.iload_n 1, 1) := by decide +kernel
theorem dX6_meet_31 : decode cX6_meet 31 = .ok (.invokevirtual 196, 3) := by decide +kernel
theorem dX6_meet_34 : decode cX6_meet 34 = .ok (.iload_n 2, 1) := by decide +kernel
theorem dX6_meet_35 : decode cX6_meet 35 = .ok (.invokestatic 228, 3) := by decide +kernel
theorem dX6_meet_38 : decode cX6_meet 38 = .ok (.ifCond .eq 7, 3) := by decide +kernel
theorem dX6_meet_41 : decode cX6_meet 41 = .ok (.iconst 1, 1) := by decide +kernel
theorem dX6_meet_42 : decode cX6_meet 42 = .ok (.goto 4, 3) := by decide +kernel
theorem dX6_meet_45 : decode cX6_meet 45 = .ok (.iconst 0, 1) := by decide +kernel
theorem dX6_meet_46 : decode cX6_meet 46 = .ok (.ireturn, 1) := by decide +kernel
set_option maxRecDepth 20000 in
theorem ggX6_shownIn_X6_isNoLine : GoodIn wsX6_shownIn wsX6_isNoLine := goodIn_r _ [7] (by decide +kernel) (by decide +kernel)
set_option maxRecDepth 20000 in
theorem gX6_shownIn_X6_isNoLine : GoodIn wsX6_shownIn (va_wsS RX6 147 yX6_isNoLine wsX6_isNoLine) := goodIn_app (goodIn_of _ (by decide +kernel)) ggX6_shownIn_X6_isNoLine
set_option maxRecDepth 20000 in
theorem ggX6_shownIn_X6_isNoSprite : GoodIn wsX6_shownIn wsX6_isNoSprite := goodIn_r _ [11, 2, 12, 44, 45, 46, 47, 48, 49, 50, 51, 52, 53, 54, 55, 56, 57, 58] (by decide +kernel) (by decide +kernel)
set_option maxRecDepth 20000 in
theorem gX6_shownIn_X6_isNoSprite : GoodIn wsX6_shownIn (wsV RX6 134 RX6 yX6_isNoSprite wsX6_isNoSprite) := goodIn_app (goodIn_of _ (by decide +kernel)) ggX6_shownIn_X6_isNoSprite
set_option maxRecDepth 20000 in
theorem ggX6_shownIn_X5_shownSet : GoodIn wsX6_shownIn wsX5_shownSet := goodIn_r _ [17, 18, 19, 20, 21, 16, 22, 23, 24, 25, 26, 27, 28, 29, 30, 31, 32, 33, 34, 35, 36, 37, 38, 39, 40, 59, 60, 61, 62, 50, 51, 52, 53, 54, 55, 56, 57, 58] (by decide +kernel) (by decide +kernel)
set_option maxRecDepth 20000 in
theorem gX6_shownIn_X5_shownSet : GoodIn wsX6_shownIn (wsV RX6 187 RX5 yX5_shownSet wsX5_shownSet) := goodIn_app (goodIn_of _ (by decide +kernel)) ggX6_shownIn_X5_shownSet
set_option maxRecDepth 20000 in
theorem ggX6_shownIn_X6_contains : GoodIn wsX6_shownIn wsX6_contains := goodIn_r _ [43] (by decide +kernel) (by decide +kernel)
set_option maxRecDepth 20000 in
theorem gX6_shownIn_X6_contains : GoodIn wsX6_shownIn (va_wsS RX6 228 yX6_contains wsX6_contains) := goodIn_app (goodIn_of _ (by decide +kernel)) ggX6_shownIn_X6_contains
theorem dX6_shownIn_0 : decode cX6_shownIn 0 = .ok (.iload_n 1, 1) := by decide +kernel
theorem dX6_shownIn_1 : decode cX6_shownIn 1 = .ok (.invokestatic 147, 3) := by decide +kernel
theorem dX6_shownIn_4 : decode cX6_shownIn 4 = .ok (.ifCond .ne 11, 3) := by decide +kernel
theorem dX6_shownIn_7 : decode cX6_shownIn 7 = .ok (.aload_n 0, 1) := by decide +kernel
theorem dX6_shownIn_8 : decode cX6_shownIn 8 = .ok (.iload_n 2, 1) := by decide +kernel
theorem dX6_shownIn_9 : decode cX6_shownIn 9 = .ok (.invokevirtual 134, 3) := by decide +kernel
theorem dX6_shownIn_12 : decode cX6_shownIn 12 = .ok (.ifCond .eq 5, 3) := by decide +kernel
theorem dX6_shownIn_15 : decode cX6_shownIn 15 = .ok (.iconst (-1), 1) := by decide +kernel
theorem dX6_shownIn_16 : decode cX6_shownIn 16 = .ok (.ireturn, 1) := by decide +kernel
theorem dX6_shownIn_17 : decode cX6_shownIn 17 = .ok (.iconst 0, 1) := by decide +kernel
theorem dX6_shownIn_18 : decode cX6_shownIn 18 = .ok (.istore_n 3, 1) := by decide +kernel
theorem dX6_shownIn_19 : decode cX6_shownIn 19 = .ok (.iload_n 3, 1) := by decide +kernel
theorem dX6_shownIn_20 : decode cX6_shownIn 20 = .ok (.bipush 20, 2) := by decide +kernel
theorem dX6_shownIn_22 : decode cX6_shownIn 22 = .ok (.if_icmp .gt 35, 3) := by decide +kernel
theorem dX6_shownIn_25 : decode cX6_shownIn 25 = .ok (.aload_n 0, 1) := by decide +kernel
theorem dX6_shownIn_26 : decode cX6_shownIn 26 = .ok (.getfield 21, 3) := by decide +kernel
theorem dX6_shownIn_29 : decode cX6_shownIn 29 = .ok (.iload_n 1, 1) := by decide +kernel
theorem dX6_shownIn_30 : decode cX6_shownIn 30 = .ok (.aload_n 0, 1) := by decide +kernel
theorem dX6_shownIn_31 : decode cX6_shownIn 31 = .ok (.getfield 10, 3) := by decide +kernel
theorem dX6_shownIn_34 : decode cX6_shownIn 34 = .ok (.getfield 163, 3) := by decide +kernel
theorem dX6_shownIn_37 : decode cX6_shownIn 37 = .ok (.iload_n 3, 1) := by decide +kernel
theorem dX6_shownIn_38 : decode cX6_shownIn 38 = .ok (.iadd, 1) := by decide +kernel
theorem dX6_shownIn_39 : decode cX6_shownIn 39 = .ok (.invokevirtual 187, 3) := by decide +kernel
theorem dX6_shownIn_42 : decode cX6_shownIn 42 = .ok (.iload_n 2, 1) := by decide +kernel
theorem dX6_shownIn_43 : decode cX6_shownIn 43 = .ok (.invokestatic 228, 3) := by decide +kernel
theorem dX6_shownIn_46 : decode cX6_shownIn 46 = .ok (.ifCond .eq 5, 3) := by decide +kernel
theorem dX6_shownIn_49 : decode cX6_shownIn 49 = .ok (.iload_n 3, 1) := by decide +kernel
theorem dX6_shownIn_50 : decode cX6_shownIn 50 = .ok (.ireturn, 1) := by decide +kernel
theorem dX6_shownIn_51 : decode cX6_shownIn 51 = .ok (.iinc 3 1, 3) := by decide +kernel
theorem dX6_shownIn_54 : decode cX6_shownIn 54 = .ok (.goto (-35), 3) := by decide +kernel
theorem dX6_shownIn_57 : decode cX6_shownIn 57 = .ok (.bipush (-5), 2) := by decide +kernel
theorem dX6_shownIn_59 : decode cX6_shownIn 59 = .ok (.ireturn, 1) := by decide +kernel
set_option maxRecDepth 20000 in
theorem ggX6_count_X4_spritesOn : GoodIn wsX6_count wsX4_spritesOn := goodIn_r _ [17, 18, 19, 20, 21, 16, 22, 23, 174, 175, 176, 177, 178, 179, 180, 181, 182] (by decide +kernel) (by decide +kernel)
set_option maxRecDepth 20000 in
theorem gX6_count_X4_spritesOn : GoodIn wsX6_count (wsV RX6 231 RX4 yX4_spritesOn wsX4_spritesOn) := goodIn_app (goodIn_of _ (by decide +kernel)) ggX6_count_X4_spritesOn
set_option maxRecDepth 20000 in
theorem ggX6_count_X5_countOverfullLines : GoodIn wsX6_count wsX5_countOverfullLines := goodIn_r _ [28, 29, 30, 31, 32, 33, 27, 34, 35, 36, 37, 38, 16, 39, 19, 20, 21, 22, 23, 198, 199, 200, 201, 174, 175, 176, 177, 178, 179, 180, 181, 182] (by decide +kernel) (by decide +kernel)
set_option maxRecDepth 20000 in
theorem gX6_count_X5_countOverfullLines : GoodIn wsX6_count (wsV RX6 234 RX5 yX5_countOverfullLines wsX5_countOverfullLines) := goodIn_app (goodIn_of _ (by decide +kernel)) ggX6_count_X5_countOverfullLines
set_option maxRecDepth 20000 in
theorem ggX6_count_X5_mostCovering : GoodIn wsX6_count wsX5_mostCovering := goodIn_r _ [43, 44, 45, 46, 47, 31, 32, 33, 27, 34, 29, 35, 36, 37, 38, 16, 39, 19, 20, 21, 22, 23, 198, 199, 200, 201, 174, 175, 176, 177, 178, 179, 180, 181, 182] (by decide +kernel) (by decide +kernel)
set_option maxRecDepth 20000 in
theorem gX6_count_X5_mostCovering : GoodIn wsX6_count (wsV RX6 237 RX5 yX5_mostCovering wsX5_mostCovering) := goodIn_app (goodIn_of _ (by decide +kernel)) ggX6_count_X5_mostCovering
set_option maxRecDepth 20000 in
theorem ggX6_count_X4_linesWithSwap : GoodIn wsX6_count wsX4_linesWithSwap := goodIn_r _ [51, 52, 53, 54, 16, 55, 56, 57, 58, 59, 60, 61, 62, 63, 64, 65, 174, 175, 176, 177, 178, 179, 180, 181, 182] (by decide +kernel) (by decide +kernel)
set_option maxRecDepth 20000 in
theorem gX6_count_X4_linesWithSwap : GoodIn wsX6_count (wsV RX6 153 RX4 yX4_linesWithSwap wsX4_linesWithSwap) := goodIn_app (goodIn_of _ (by decide +kernel)) ggX6_count_X4_linesWithSwap
set_option maxRecDepth 20000 in
theorem ggX6_count_X5_countMeetingPairs : GoodIn wsX6_count wsX5_countMeetingPairs := goodIn_r _ [69, 70, 71, 72, 73, 27, 74, 29, 75, 76, 77, 78, 79, 80, 81, 82, 83, 84, 85, 35, 30, 86, 87, 46, 88, 89, 36, 37, 38, 16, 39, 19, 20, 21, 22, 23, 90, 91, 92, 93, 94, 95, 96, 97, 98, 99, 100, 101, 102, 103, 104, 105, 106, 107, 108, 109, 110, 111, 112, 113, 114, 115, 116, 117, 118, 119, 120, 121, 122, 123, 124, 125, 126, 127, 128, 129, 130, 131, 132, 133, 134, 135, 136, 137, 198, 199, 200, 201, 174, 175, 176, 177, 178, 179, 180, 181, 182, 183, 184, 185] (by decide +kernel) (by decide +kernel)
set_option maxRecDepth 20000 in
theorem gX6_count_X5_countMeetingPairs : GoodIn wsX6_count (wsV RX6 240 RX5 yX5_countMeetingPairs wsX5_countMeetingPairs) := goodIn_app (goodIn_of _ (by decide +kernel)) ggX6_count_X5_countMeetingPairs
