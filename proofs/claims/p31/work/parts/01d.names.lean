theorem dX5_findShown_89 : decode cX5_findShown 89 = .ok (.iload 6, 2) := by decide +kernel
theorem dX5_findShown_91 : decode cX5_findShown 91 = .ok (.iload 8, 2) := by decide +kernel
theorem dX5_findShown_93 : decode cX5_findShown 93 = .ok (.iastore, 1) := by decide +kernel
theorem dX5_findShown_94 : decode cX5_findShown 94 = .ok (.iinc 6 1, 3) := by decide +kernel
theorem dX5_findShown_97 : decode cX5_findShown 97 = .ok (.iinc 7 1, 3) := by decide +kernel
theorem dX5_findShown_100 : decode cX5_findShown 100 = .ok (.goto (-50), 3) := by decide +kernel
theorem dX5_findShown_103 : decode cX5_findShown 103 = .ok (.iload 6, 2) := by decide +kernel
theorem dX5_findShown_105 : decode cX5_findShown 105 = .ok (.ireturn, 1) := by decide +kernel
set_option maxRecDepth 20000 in
theorem ggX5_shownAt_X5_findShown : GoodIn wsX5_shownAt wsX5_findShown := goodIn_r _ [8, 1, 9, 10, 3, 11, 12, 13, 14, 15, 16, 17, 18, 19, 20, 21, 22, 23, 24, 25, 26, 27, 28, 29, 30, 31, 32, 33, 34, 35, 36, 37, 38] (by decide +kernel) (by decide +kernel)
set_option maxRecDepth 20000 in
theorem gX5_shownAt_X5_findShown : GoodIn wsX5_shownAt (wsV RX5 57 RX5 yX5_findShown wsX5_findShown) := goodIn_app (goodIn_of _ (by decide +kernel)) ggX5_shownAt_X5_findShown
theorem dX5_shownAt_0 : decode cX5_shownAt 0 = .ok (.aload_n 0, 1) := by decide +kernel
theorem dX5_shownAt_1 : decode cX5_shownAt 1 = .ok (.iload_n 1, 1) := by decide +kernel
theorem dX5_shownAt_2 : decode cX5_shownAt 2 = .ok (.aload_n 0, 1) := by decide +kernel
theorem dX5_shownAt_3 : decode cX5_shownAt 3 = .ok (.getfield 21, 3) := by decide +kernel
theorem dX5_shownAt_6 : decode cX5_shownAt 6 = .ok (.getfield 54, 3) := by decide +kernel
theorem dX5_shownAt_9 : decode cX5_shownAt 9 = .ok (.invokevirtual 57, 3) := by decide +kernel
theorem dX5_shownAt_12 : decode cX5_shownAt 12 = .ok (.istore_n 3, 1) := by decide +kernel
theorem dX5_shownAt_13 : decode cX5_shownAt 13 = .ok (.iload_n 2, 1) := by decide +kernel
theorem dX5_shownAt_14 : decode cX5_shownAt 14 = .ok (.ifCond .lt 26, 3) := by decide +kernel
theorem dX5_shownAt_17 : decode cX5_shownAt 17 = .ok (.iload_n 2, 1) := by decide +kernel
theorem dX5_shownAt_18 : decode cX5_shownAt 18 = .ok (.iload_n 3, 1) := by decide +kernel
theorem dX5_shownAt_19 : decode cX5_shownAt 19 = .ok (.if_icmp .ge 21, 3) := by decide +kernel
theorem dX5_shownAt_22 : decode cX5_shownAt 22 = .ok (.iload_n 2, 1) := by decide +kernel
theorem dX5_shownAt_23 : decode cX5_shownAt 23 = .ok (.aload_n 0, 1) := by decide +kernel
theorem dX5_shownAt_24 : decode cX5_shownAt 24 = .ok (.getfield 9, 3) := by decide +kernel
theorem dX5_shownAt_27 : decode cX5_shownAt 27 = .ok (.arraylength, 1) := by decide +kernel
theorem dX5_shownAt_28 : decode cX5_shownAt 28 = .ok (.if_icmp .ge 12, 3) := by decide +kernel
theorem dX5_shownAt_31 : decode cX5_shownAt 31 = .ok (.aload_n 0, 1) := by decide +kernel
theorem dX5_shownAt_32 : decode cX5_shownAt 32 = .ok (.getfield 9, 3) := by decide +kernel
theorem dX5_shownAt_35 : decode cX5_shownAt 35 = .ok (.iload_n 2, 1) := by decide +kernel
theorem dX5_shownAt_36 : decode cX5_shownAt 36 = .ok (.iaload, 1) := by decide +kernel
theorem dX5_shownAt_37 : decode cX5_shownAt 37 = .ok (.goto 5, 3) := by decide +kernel
theorem dX5_shownAt_40 : decode cX5_shownAt 40 = .ok (.bipush (-5), 2) := by decide +kernel
theorem dX5_shownAt_42 : decode cX5_shownAt 42 = .ok (.ireturn, 1) := by decide +kernel
set_option maxRecDepth 20000 in
theorem ggX5_shownSet_X5_findShown : GoodIn wsX5_shownSet wsX5_findShown := goodIn_r _ [6, 7, 8, 9, 1, 10, 11, 12, 13, 14, 15, 16, 17, 18, 19, 20, 21, 22, 23, 24, 25, 26, 27, 28, 29, 30, 31, 32, 33, 34, 35, 36, 37] (by decide +kernel) (by decide +kernel)
set_option maxRecDepth 20000 in
theorem gX5_shownSet_X5_findShown : GoodIn wsX5_shownSet (wsV RX5 57 RX5 yX5_findShown wsX5_findShown) := goodIn_app (goodIn_of _ (by decide +kernel)) ggX5_shownSet_X5_findShown
theorem dX5_shownSet_0 : decode cX5_shownSet 0 = .ok (.aload_n 0, 1) := by decide +kernel
theorem dX5_shownSet_1 : decode cX5_shownSet 1 = .ok (.iload_n 1, 1) := by decide +kernel
theorem dX5_shownSet_2 : decode cX5_shownSet 2 = .ok (.iload_n 2, 1) := by decide +kernel
theorem dX5_shownSet_3 : decode cX5_shownSet 3 = .ok (.invokevirtual 57, 3) := by decide +kernel
theorem dX5_shownSet_6 : decode cX5_shownSet 6 = .ok (.istore_n 3, 1) := by decide +kernel
theorem dX5_shownSet_7 : decode cX5_shownSet 7 = .ok (.iconst 0, 1) := by decide +kernel
theorem dX5_shownSet_8 : decode cX5_shownSet 8 = .ok (.istore 4, 2) := by decide +kernel
theorem dX5_shownSet_10 : decode cX5_shownSet 10 = .ok (.iconst 0, 1) := by decide +kernel
theorem dX5_shownSet_11 : decode cX5_shownSet 11 = .ok (.istore 5, 2) := by decide +kernel
theorem dX5_shownSet_13 : decode cX5_shownSet 13 = .ok (.iload 5, 2) := by decide +kernel
theorem dX5_shownSet_15 : decode cX5_shownSet 15 = .ok (.iload_n 3, 1) := by decide +kernel
theorem dX5_shownSet_16 : decode cX5_shownSet 16 = .ok (.if_icmp .ge 33, 3) := by decide +kernel
theorem dX5_shownSet_19 : decode cX5_shownSet 19 = .ok (.iload 5, 2) := by decide +kernel
theorem dX5_shownSet_21 : decode cX5_shownSet 21 = .ok (.aload_n 0, 1) := by decide +kernel
theorem dX5_shownSet_22 : decode cX5_shownSet 22 = .ok (.getfield 9, 3) := by decide +kernel
theorem dX5_shownSet_25 : decode cX5_shownSet 25 = .ok (.arraylength, 1) := by decide +kernel
theorem dX5_shownSet_26 : decode cX5_shownSet 26 = .ok (.if_icmp .ge 23, 3) := by decide +kernel
theorem dX5_shownSet_29 : decode cX5_shownSet 29 = .ok (.iload 4, 2) := by decide +kernel
theorem dX5_shownSet_31 : decode cX5_shownSet 31 = .ok (.iconst 1, 1) := by decide +kernel
theorem dX5_shownSet_32 : decode cX5_shownSet 32 = .ok (.aload_n 0, 1) := by decide +kernel
theorem dX5_shownSet_33 : decode cX5_shownSet 33 = .ok (.getfield 9, 3) := by decide +kernel
theorem dX5_shownSet_36 : decode cX5_shownSet 36 = .ok (.iload 5, 2) := by decide +kernel
theorem dX5_shownSet_38 : decode cX5_shownSet 38 = .ok (.iaload, 1) := by decide +kernel
theorem dX5_shownSet_39 : decode cX5_shownSet 39 = .ok (.ishl, 1) := by decide +kernel
theorem dX5_shownSet_40 : decode cX5_shownSet 40 = .ok (.ior, 1) := by decide +kernel
theorem dX5_shownSet_41 : decode cX5_shownSet 41 = .ok (.istore 4, 2) := by decide +kernel
theorem dX5_shownSet_43 : decode cX5_shownSet 43 = .ok (.iinc 5 1, 3) := by decide +kernel
theorem dX5_shownSet_46 : decode cX5_shownSet 46 = .ok (.goto (-33), 3) := by decide +kernel
theorem dX5_shownSet_49 : decode cX5_shownSet 49 = .ok (.iload 4, 2) := by decide +kernel
theorem dX5_shownSet_51 : decode cX5_shownSet 51 = .ok (.ireturn, 1) := by decide +kernel
set_option maxRecDepth 20000 in
theorem ggX5_linesShowing_X4_isOnAndCovers : GoodIn wsX5_linesShowing wsX4_isOnAndCovers := goodIn_r _ [7, 8, 9, 10, 6, 11, 12, 37, 38, 39, 40, 41, 42, 43, 44, 45] (by decide +kernel) (by decide +kernel)
set_option maxRecDepth 20000 in
theorem gX5_linesShowing_X4_isOnAndCovers : GoodIn wsX5_linesShowing (wsV RX5 31 RX4 yX4_isOnAndCovers wsX4_isOnAndCovers) := goodIn_app (goodIn_of _ (by decide +kernel)) ggX5_linesShowing_X4_isOnAndCovers
set_option maxRecDepth 20000 in
theorem ggX5_linesShowing_X5_shownSet : GoodIn wsX5_linesShowing wsX5_shownSet := goodIn_r _ [17, 18, 19, 20, 21, 16, 22, 1, 23, 24, 25, 26, 27, 28, 29, 3, 4, 5, 6, 7, 8, 9, 10, 11, 12, 33, 34, 35, 36, 37, 38, 39, 40, 41, 42, 43, 44, 45] (by decide +kernel) (by decide +kernel)
set_option maxRecDepth 20000 in
theorem gX5_linesShowing_X5_shownSet : GoodIn wsX5_linesShowing (wsV RX5 60 RX5 yX5_shownSet wsX5_shownSet) := goodIn_app (goodIn_of _ (by decide +kernel)) ggX5_linesShowing_X5_shownSet
set_option maxRecDepth 20000 in
theorem ggX5_linesShowing_X6_contains : GoodIn wsX5_linesShowing wsX6_contains := goodIn_r _ [32] (by decide +kernel) (by decide +kernel)
set_option maxRecDepth 20000 in
theorem gX5_linesShowing_X6_contains_n63 : GoodIn wsX5_linesShowing (wsX6_contains) := ggX5_linesShowing_X6_contains
theorem dX5_linesShowing_0 : decode cX5_linesShowing 0 = .ok (.iconst 0, 1) := by decide +kernel
theorem dX5_linesShowing_1 : decode cX5_linesShowing 1 = .ok (.istore_n 2, 1) := by decide +kernel
theorem dX5_linesShowing_2 : decode cX5_linesShowing 2 = .ok (.iconst 0, 1) := by decide +kernel
theorem dX5_linesShowing_3 : decode cX5_linesShowing 3 = .ok (.istore_n 3, 1) := by decide +kernel
theorem dX5_linesShowing_4 : decode cX5_linesShowing 4 = .ok (.iload_n 3, 1) := by decide +kernel
theorem dX5_linesShowing_5 : decode cX5_linesShowing 5 = .ok (.bipush 32, 2) := by decide +kernel
theorem dX5_linesShowing_7 : decode cX5_linesShowing 7 = .ok (.if_icmp .ge 43, 3) := by decide +kernel
theorem dX5_linesShowing_10 : decode cX5_linesShowing 10 = .ok (.aload_n 0, 1) := by decide +kernel
theorem dX5_linesShowing_11 : decode cX5_linesShowing 11 = .ok (.getfield 21, 3) := by decide +kernel
theorem dX5_linesShowing_14 : decode cX5_linesShowing 14 = .ok (.iload_n 1, 1) := by decide +kernel
theorem dX5_linesShowing_15 : decode cX5_linesShowing 15 = .ok (.iload_n 3, 1) := by decide +kernel
theorem dX5_linesShowing_16 : decode cX5_linesShowing 16 = .ok (.invokevirtual 31, 3) := by decide +kernel
theorem dX5_linesShowing_19 : decode cX5_linesShowing 19 = .ok (.ifCond .eq 25, 3) := by decide +kernel
theorem dX5_linesShowing_22 : decode cX5_linesShowing 22 = .ok (.aload_n 0, 1) := by decide +kernel
theorem dX5_linesShowing_23 : decode cX5_linesShowing 23 = .ok (.iload_n 3, 1) := by decide +kernel
theorem dX5_linesShowing_24 : decode cX5_linesShowing 24 = .ok (.aload_n 0, 1) := by decide +kernel
theorem dX5_linesShowing_25 : decode cX5_linesShowing 25 = .ok (.getfield 21, 3) := by decide +kernel
theorem dX5_linesShowing_28 : decode cX5_linesShowing 28 = .ok (.getfield 54, 3) := by decide +kernel
theorem dX5_linesShowing_31 : decode cX5_linesShowing 31 = .ok (.invokevirtual 60, 3) := by decide +kernel
theorem dX5_linesShowing_34 : decode cX5_linesShowing 34 = .ok (.iload_n 1, 1) := by decide +kernel
theorem dX5_linesShowing_35 : decode cX5_linesShowing 35 = .ok (.invokestatic 63, 3) := by decide +kernel
theorem dX5_linesShowing_38 : decode cX5_linesShowing 38 = .ok (.ifCond .eq 6, 3) := by decide +kernel
theorem dX5_linesShowing_41 : decode cX5_linesShowing 41 = .ok (.iinc 2 1, 3) := by decide +kernel
theorem dX5_linesShowing_44 : decode cX5_linesShowing 44 = .ok (.iinc 3 1, 3) := by decide +kernel
theorem dX5_linesShowing_47 : decode cX5_linesShowing 47 = .ok (.goto (-43), 3) := by decide +kernel
theorem dX5_linesShowing_50 : decode cX5_linesShowing 50 = .ok (.iload_n 2, 1) := by decide +kernel
theorem dX5_linesShowing_51 : decode cX5_linesShowing 51 = .ok (.ireturn, 1) := by decide +kernel
set_option maxRecDepth 20000 in
theorem ggX5_colorAt_X6_contains : GoodIn wsX5_colorAt wsX6_contains := goodIn_r _ [5] (by decide +kernel) (by decide +kernel)
set_option maxRecDepth 20000 in
theorem gX5_colorAt_X6_contains_n63 : GoodIn wsX5_colorAt (wsX6_contains) := ggX5_colorAt_X6_contains
set_option maxRecDepth 20000 in
theorem ggX5_colorAt_X5_pixelOf : GoodIn wsX5_colorAt wsX5_pixelOf := goodIn_r _ [10, 1, 11, 12, 13, 14, 15, 16, 17, 18, 4, 19, 20, 21, 22, 23, 24, 25, 26, 27, 28, 29, 30, 31, 32, 33, 34, 54, 55, 56, 57, 58, 59, 60, 61, 62, 63, 64, 65, 66, 67, 68, 69] (by decide +kernel) (by decide +kernel)
set_option maxRecDepth 20000 in
theorem gX5_colorAt_X5_pixelOf : GoodIn wsX5_colorAt (wsV RX5 66 RX5 yX5_pixelOf wsX5_pixelOf) := goodIn_app (goodIn_of _ (by decide +kernel)) ggX5_colorAt_X5_pixelOf
set_option maxRecDepth 20000 in
theorem ggX5_colorAt_X4_property : GoodIn wsX5_colorAt wsX4_property := goodIn_r _ [16, 17, 58, 59, 60, 61, 62, 63, 64, 65, 66] (by decide +kernel) (by decide +kernel)
set_option maxRecDepth 20000 in
theorem gX5_colorAt_X4_property : GoodIn wsX5_colorAt (wsV RX5 70 RX4 yX4_property wsX4_property) := goodIn_app (goodIn_of _ (by decide +kernel)) ggX5_colorAt_X4_property
set_option maxRecDepth 20000 in
theorem ggX5_colorAt_X4_paletteOnLine : GoodIn wsX5_colorAt wsX4_paletteOnLine := goodIn_r _ [38, 39, 40, 41, 15, 42, 43, 44, 45, 46, 47, 48, 58, 59, 60, 61, 62, 63, 64, 65, 66] (by decide +kernel) (by decide +kernel)
set_option maxRecDepth 20000 in
theorem gX5_colorAt_X4_paletteOnLine : GoodIn wsX5_colorAt (wsV RX5 73 RX4 yX4_paletteOnLine wsX4_paletteOnLine) := goodIn_app (goodIn_of _ (by decide +kernel)) ggX5_colorAt_X4_paletteOnLine
set_option maxRecDepth 20000 in
theorem ggX5_colorAt_X4_colorOf : GoodIn wsX5_colorAt wsX4_colorOf := goodIn_r _ [52, 53, 58, 59, 60, 61, 62, 63, 64, 65, 66] (by decide +kernel) (by decide +kernel)
set_option maxRecDepth 20000 in
theorem gX5_colorAt_X4_colorOf : GoodIn wsX5_colorAt (wsV RX5 76 RX4 yX4_colorOf wsX4_colorOf) := goodIn_app (goodIn_of _ (by decide +kernel)) ggX5_colorAt_X4_colorOf
theorem dX5_colorAt_0 : decode cX5_colorAt 0 = .ok (.iconst 0, 1) := by decide +kernel
theorem dX5_colorAt_1 : decode cX5_colorAt 1 = .ok (.istore 4, 2) := by decide +kernel
theorem dX5_colorAt_3 : decode cX5_colorAt 3 = .ok (.iload 4, 2) := by decide +kernel
theorem dX5_colorAt_5 : decode cX5_colorAt 5 = .ok (.aload_n 0, 1) := by decide +kernel
theorem dX5_colorAt_6 : decode cX5_colorAt 6 = .ok (.getfield 21, 3) := by decide +kernel
theorem dX5_colorAt_9 : decode cX5_colorAt 9 = .ok (.getfield 25, 3) := by decide +kernel
theorem dX5_colorAt_12 : decode cX5_colorAt 12 = .ok (.if_icmp .ge 65, 3) := by decide +kernel
theorem dX5_colorAt_15 : decode cX5_colorAt 15 = .ok (.iload_n 3, 1) := by decide +kernel
theorem dX5_colorAt_16 : decode cX5_colorAt 16 = .ok (.iload 4, 2) := by decide +kernel
theorem dX5_colorAt_18 : decode cX5_colorAt 18 = .ok (.invokestatic 63, 3) := by decide +kernel
theorem dX5_colorAt_21 : decode cX5_colorAt 21 = .ok (.ifCond .eq 50, 3) := by decide +kernel
theorem dX5_colorAt_24 : decode cX5_colorAt 24 = .ok (.aload_n 0, 1) := by decide +kernel
theorem dX5_colorAt_25 : decode cX5_colorAt 25 = .ok (.iload 4, 2) := by decide +kernel
theorem dX5_colorAt_27 : decode cX5_colorAt 27 = .ok (.iload_n 1, 1) := by decide +kernel
theorem dX5_colorAt_28 : decode cX5_colorAt 28 = .ok (.iload_n 2, 1) := by decide +kernel
theorem dX5_colorAt_29 : decode cX5_colorAt 29 = .ok (.invokevirtual 66, 3) := by decide +kernel
theorem dX5_colorAt_32 : decode cX5_colorAt 32 = .ok (.istore 5, 2) := by decide +kernel
theorem dX5_colorAt_34 : decode cX5_colorAt 34 = .ok (.iload 5, 2) := by decide +kernel
theorem dX5_colorAt_36 : decode cX5_colorAt 36 = .ok (.ifCond .eq 35, 3) := by decide +kernel
theorem dX5_colorAt_39 : decode cX5_colorAt 39 = .ok (.aload_n 0, 1) := by decide +kernel
theorem dX5_colorAt_40 : decode cX5_colorAt 40 = .ok (.getfield 21, 3) := by decide +kernel
theorem dX5_colorAt_43 : decode cX5_colorAt 43 = .ok (.iload 4, 2) := by decide +kernel
theorem dX5_colorAt_45 : decode cX5_colorAt 45 = .ok (.iconst 2, 1) := by decide +kernel
theorem dX5_colorAt_46 : decode cX5_colorAt 46 = .ok (.invokevirtual 70, 3) := by decide +kernel
theorem dX5_colorAt_49 : decode cX5_colorAt 49 = .ok (.istore 6, 2) := by decide +kernel
theorem dX5_colorAt_51 : decode cX5_colorAt 51 = .ok (.aload_n 0, 1) := by decide +kernel
theorem dX5_colorAt_52 : decode cX5_colorAt 52 = .ok (.getfield 21, 3) := by decide +kernel
theorem dX5_colorAt_55 : decode cX5_colorAt 55 = .ok (.aload_n 0, 1) := by decide +kernel
theorem dX5_colorAt_56 : decode cX5_colorAt 56 = .ok (.getfield 21, 3) := by decide +kernel
theorem dX5_colorAt_59 : decode cX5_colorAt 59 = .ok (.iload 6, 2) := by decide +kernel
theorem dX5_colorAt_61 : decode cX5_colorAt 61 = .ok (.iload_n 1, 1) := by decide +kernel
theorem dX5_colorAt_62 : decode cX5_colorAt 62 = .ok (.invokevirtual 73, 3) := by decide +kernel
theorem dX5_colorAt_65 : decode cX5_colorAt 65 = .ok (.iload 5, 2) := by decide +kernel
theorem dX5_colorAt_67 : decode cX5_colorAt 67 = .ok (.invokevirtual 76, 3) := by decide +kernel
theorem dX5_colorAt_70 : decode cX5_colorAt 70 = .ok (.ireturn, 1) := by decide +kernel
theorem dX5_colorAt_71 : decode cX5_colorAt 71 = .ok (.iinc 4 1, 3) := by decide +kernel
theorem dX5_colorAt_74 : decode cX5_colorAt 74 = .ok (.goto (-71), 3) := by decide +kernel
theorem dX5_colorAt_77 : decode cX5_colorAt 77 = .ok (.iconst 0, 1) := by decide +kernel
theorem dX5_colorAt_78 : decode cX5_colorAt 78 = .ok (.ireturn, 1) := by decide +kernel
set_option maxRecDepth 20000 in
theorem ggX5_pixelOf_X4_property : GoodIn wsX5_pixelOf wsX4_property := goodIn_r _ [7, 8, 31, 32, 33, 34, 35, 36, 37, 38, 39] (by decide +kernel) (by decide +kernel)
set_option maxRecDepth 20000 in
theorem gX5_pixelOf_X4_property : GoodIn wsX5_pixelOf (wsV RX5 70 RX4 yX4_property wsX4_property) := goodIn_app (goodIn_of _ (by decide +kernel)) ggX5_pixelOf_X4_property
set_option maxRecDepth 20000 in
theorem ggX5_pixelOf_X6_isNoPlaceInPart : GoodIn wsX5_pixelOf wsX6_isNoPlaceInPart := goodIn_r _ [11] (by decide +kernel) (by decide +kernel)
set_option maxRecDepth 20000 in
theorem gX5_pixelOf_X6_isNoPlaceInPart_n79 : GoodIn wsX5_pixelOf (wsX6_isNoPlaceInPart) := ggX5_pixelOf_X6_isNoPlaceInPart
set_option maxRecDepth 20000 in
theorem ggX5_pixelOf_X3_pixelAt : GoodIn wsX5_pixelOf wsX3_pixelAt := goodIn_r _ [16, 17, 18, 19, 15, 20, 21, 22, 23, 24, 25, 26, 40, 41, 42] (by decide +kernel) (by decide +kernel)
set_option maxRecDepth 20000 in
theorem gX5_pixelOf_X3_pixelAt : GoodIn wsX5_pixelOf (wsV RX5 86 RX3 yX3_pixelAt wsX3_pixelAt) := goodIn_app (goodIn_of _ (by decide +kernel)) ggX5_pixelOf_X3_pixelAt
theorem dX5_pixelOf_0 : decode cX5_pixelOf 0 = .ok (.iload_n 2, 1) := by decide +kernel
theorem dX5_pixelOf_1 : decode cX5_pixelOf 1 = .ok (.aload_n 0, 1) := by decide +kernel
theorem dX5_pixelOf_2 : decode cX5_pixelOf 2 = .ok (.getfield 21, 3) := by decide +kernel
theorem dX5_pixelOf_5 : decode cX5_pixelOf 5 = .ok (.iload_n 1, 1) := by decide +kernel
theorem dX5_pixelOf_6 : decode cX5_pixelOf 6 = .ok (.iconst 5, 1) := by decide +kernel
theorem dX5_pixelOf_7 : decode cX5_pixelOf 7 = .ok (.invokevirtual 70, 3) := by decide +kernel
theorem dX5_pixelOf_10 : decode cX5_pixelOf 10 = .ok (.isub, 1) := by decide +kernel
theorem dX5_pixelOf_11 : decode cX5_pixelOf 11 = .ok (.istore 4, 2) := by decide +kernel
theorem dX5_pixelOf_13 : decode cX5_pixelOf 13 = .ok (.iload_n 3, 1) := by decide +kernel
theorem dX5_pixelOf_14 : decode cX5_pixelOf 14 = .ok (.aload_n 0, 1) := by decide +kernel
theorem dX5_pixelOf_15 : decode cX5_pixelOf 15 = .ok (.getfield 21, 3) := by decide +kernel
theorem dX5_pixelOf_18 : decode cX5_pixelOf 18 = .ok (.iload_n 1, 1) := by decide +kernel
theorem dX5_pixelOf_19 : decode cX5_pixelOf 19 = .ok (.iconst 4, 1) := by decide +kernel
theorem dX5_pixelOf_20 : decode cX5_pixelOf 20 = .ok (.invokevirtual 70, 3) := by decide +kernel
theorem dX5_pixelOf_23 : decode cX5_pixelOf 23 = .ok (.isub, 1) := by decide +kernel
theorem dX5_pixelOf_24 : decode cX5_pixelOf 24 = .ok (.istore 5, 2) := by decide +kernel
theorem dX5_pixelOf_26 : decode cX5_pixelOf 26 = .ok (.iload 4, 2) := by decide +kernel
theorem dX5_pixelOf_28 : decode cX5_pixelOf 28 = .ok (.iload 5, 2) := by decide +kernel
theorem dX5_pixelOf_30 : decode cX5_pixelOf 30 = .ok (.invokestatic 79, 3) := by decide +kernel
theorem dX5_pixelOf_33 : decode cX5_pixelOf 33 = .ok (.ifCond .eq 5, 3) := by decide +kernel
theorem dX5_pixelOf_36 : decode cX5_pixelOf 36 = .ok (.iconst 0, 1) := by decide +kernel
theorem dX5_pixelOf_37 : decode cX5_pixelOf 37 = .ok (.ireturn, 1) := by decide +kernel
theorem dX5_pixelOf_38 : decode cX5_pixelOf 38 = .ok (.aload_n 0, 1) := by decide +kernel
theorem dX5_pixelOf_39 : decode cX5_pixelOf 39 = .ok (.getfield 21, 3) := by decide +kernel
theorem dX5_pixelOf_42 : decode cX5_pixelOf 42 = .ok (.iload_n 1, 1) := by decide +kernel
theorem dX5_pixelOf_43 : decode cX5_pixelOf 43 = .ok (.iconst 1, 1) := by decide +kernel
theorem dX5_pixelOf_44 : decode cX5_pixelOf 44 = .ok (.invokevirtual 70, 3) := by decide +kernel
theorem dX5_pixelOf_47 : decode cX5_pixelOf 47 = .ok (.istore 6, 2) := by decide +kernel
theorem dX5_pixelOf_49 : decode cX5_pixelOf 49 = .ok (.aload_n 0, 1) := by decide +kernel
theorem dX5_pixelOf_50 : decode cX5_pixelOf 50 = .ok (.getfield 21, 3) := by decide +kernel
theorem dX5_pixelOf_53 : decode cX5_pixelOf 53 = .ok (.getfield 82, 3) := by decide +kernel
theorem dX5_pixelOf_56 : decode cX5_pixelOf 56 = .ok (.aload_n 0, 1) := by decide +kernel
theorem dX5_pixelOf_57 : decode cX5_pixelOf 57 = .ok (.getfield 21, 3) := by decide +kernel
theorem dX5_pixelOf_60 : decode cX5_pixelOf 60 = .ok (.iload_n 1, 1) := by decide +kernel
theorem dX5_pixelOf_61 : decode cX5_pixelOf 61 = .ok (.iconst 0, 1) := by decide +kernel
theorem dX5_pixelOf_62 : decode cX5_pixelOf 62 = .ok (.invokevirtual 70, 3) := by decide +kernel
theorem dX5_pixelOf_65 : decode cX5_pixelOf 65 = .ok (.iload 6, 2) := by decide +kernel
theorem dX5_pixelOf_67 : decode cX5_pixelOf 67 = .ok (.iload 4, 2) := by decide +kernel
theorem dX5_pixelOf_69 : decode cX5_pixelOf 69 = .ok (.iload 5, 2) := by decide +kernel
theorem dX5_pixelOf_71 : decode cX5_pixelOf 71 = .ok (.invokevirtual 86, 3) := by decide +kernel
theorem dX5_pixelOf_74 : decode cX5_pixelOf 74 = .ok (.ireturn, 1) := by decide +kernel
set_option maxRecDepth 20000 in
theorem ggX5_countColored_X5_shownSet : GoodIn wsX5_countColored wsX5_shownSet := goodIn_r _ [7, 8, 9, 10, 11, 6, 12, 1, 13, 14, 15, 16, 17, 18, 19, 20, 21, 22, 23, 24, 25, 26, 27, 28, 29, 79, 80, 81, 82, 83, 84, 85, 86, 87, 88, 89, 90, 91] (by decide +kernel) (by decide +kernel)
set_option maxRecDepth 20000 in
theorem gX5_countColored_X5_shownSet : GoodIn wsX5_countColored (wsV RX5 60 RX5 yX5_shownSet wsX5_shownSet) := goodIn_app (goodIn_of _ (by decide +kernel)) ggX5_countColored_X5_shownSet
set_option maxRecDepth 20000 in
theorem ggX5_countColored_X5_colorAt : GoodIn wsX5_countColored wsX5_colorAt := goodIn_r _ [33, 1, 13, 34, 35, 36, 37, 38, 39, 6, 40, 41, 42, 26, 27, 23, 28, 29, 43, 44, 45, 46, 47, 48, 49, 50, 51, 52, 53, 54, 55, 56, 57, 58, 59, 60, 61, 62, 63, 64, 65, 66, 67, 68, 69, 70, 71, 72, 73, 74, 75, 76, 77, 78, 79, 80, 81, 82, 83, 84, 85, 86, 87, 88, 89, 90, 91, 92, 93, 94] (by decide +kernel) (by decide +kernel)
set_option maxRecDepth 20000 in
theorem gX5_countColored_X5_colorAt : GoodIn wsX5_countColored (wsV RX5 92 RX5 yX5_colorAt wsX5_colorAt) := goodIn_app (goodIn_of _ (by decide +kernel)) ggX5_countColored_X5_colorAt
theorem dX5_countColored_0 : decode cX5_countColored 0 = .ok (.aload_n 0, 1) := by decide +kernel
theorem dX5_countColored_1 : decode cX5_countColored 1 = .ok (.iload_n 1, 1) := by decide +kernel
theorem dX5_countColored_2 : decode cX5_countColored 2 = .ok (.aload_n 0, 1) := by decide +kernel
theorem dX5_countColored_3 : decode cX5_countColored 3 = .ok (.getfield 21, 3) := by decide +kernel
theorem dX5_countColored_6 : decode cX5_countColored 6 = .ok (.getfield 54, 3) := by decide +kernel
theorem dX5_countColored_9 : decode cX5_countColored 9 = .ok (.invokevirtual 60, 3) := by decide +kernel
theorem dX5_countColored_12 : decode cX5_countColored 12 = .ok (.istore_n 2, 1) := by decide +kernel
theorem dX5_countColored_13 : decode cX5_countColored 13 = .ok (.iconst 0, 1) := by decide +kernel
theorem dX5_countColored_14 : decode cX5_countColored 14 = .ok (.istore_n 3, 1) := by decide +kernel
theorem dX5_countColored_15 : decode cX5_countColored 15 = .ok (.iconst 0, 1) := by decide +kernel
theorem dX5_countColored_16 : decode cX5_countColored 16 = .ok (.istore 4, 2) := by decide +kernel
theorem dX5_countColored_18 : decode cX5_countColored 18 = .ok (.iload 4, 2) := by decide +kernel
theorem dX5_countColored_20 : decode cX5_countColored 20 = .ok (.bipush 32, 2) := by decide +kernel
theorem dX5_countColored_22 : decode cX5_countColored 22 = .ok (.if_icmp .ge 23, 3) := by decide +kernel
theorem dX5_countColored_25 : decode cX5_countColored 25 = .ok (.aload_n 0, 1) := by decide +kernel
theorem dX5_countColored_26 : decode cX5_countColored 26 = .ok (.iload_n 1, 1) := by decide +kernel
theorem dX5_countColored_27 : decode cX5_countColored 27 = .ok (.iload 4, 2) := by decide +kernel
theorem dX5_countColored_29 : decode cX5_countColored 29 = .ok (.iload_n 2, 1) := by decide +kernel
theorem dX5_countColored_30 : decode cX5_countColored 30 = .ok (.invokevirtual 92, 3) := by decide +kernel
theorem dX5_countColored_33 : decode cX5_countColored 33 = .ok (.ifCond .eq 6, 3) := by decide +kernel
theorem dX5_countColored_36 : decode cX5_countColored 36 = .ok (.iinc 3 1, 3) := by decide +kernel
theorem dX5_countColored_39 : decode cX5_countColored 39 = .ok (.iinc 4 1, 3) := by decide +kernel
theorem dX5_countColored_42 : decode cX5_countColored 42 = .ok (.goto (-24), 3) := by decide +kernel
theorem dX5_countColored_45 : decode cX5_countColored 45 = .ok (.iload_n 3, 1) := by decide +kernel
theorem dX5_countColored_46 : decode cX5_countColored 46 = .ok (.ireturn, 1) := by decide +kernel
set_option maxRecDepth 20000 in
theorem ggX5_weightOf_X5_shownSet : GoodIn wsX5_weightOf wsX5_shownSet := goodIn_r _ [9, 10, 11, 12, 13, 8, 14, 1, 3, 15, 16, 17, 18, 19, 20, 21, 22, 23, 24, 25, 26, 27, 28, 29, 30, 58, 59, 60, 61, 62, 63, 64, 65, 66, 67, 68, 69, 70] (by decide +kernel) (by decide +kernel)
set_option maxRecDepth 20000 in
theorem gX5_weightOf_X5_shownSet : GoodIn wsX5_weightOf (wsV RX5 60 RX5 yX5_shownSet wsX5_shownSet) := goodIn_app (goodIn_of _ (by decide +kernel)) ggX5_weightOf_X5_shownSet
set_option maxRecDepth 20000 in
theorem ggX5_weightOf_X6_contains : GoodIn wsX5_weightOf wsX6_contains := goodIn_r _ [33] (by decide +kernel) (by decide +kernel)
set_option maxRecDepth 20000 in
theorem gX5_weightOf_X6_contains_n63 : GoodIn wsX5_weightOf (wsX6_contains) := ggX5_weightOf_X6_contains
set_option maxRecDepth 20000 in
theorem ggX5_weightOf_X4_property : GoodIn wsX5_weightOf wsX4_property := goodIn_r _ [29, 30, 62, 63, 64, 65, 66, 67, 68, 69, 70] (by decide +kernel) (by decide +kernel)
set_option maxRecDepth 20000 in
theorem gX5_weightOf_X4_property : GoodIn wsX5_weightOf (wsV RX5 70 RX4 yX4_property wsX4_property) := goodIn_app (goodIn_of _ (by decide +kernel)) ggX5_weightOf_X4_property
set_option maxRecDepth 20000 in
theorem ggX5_weightOf_X3_shareOf : GoodIn wsX5_weightOf wsX3_shareOf := goodIn_r _ [39, 40, 41, 42, 43, 38, 44, 45, 46, 47, 48, 49, 50, 51, 52, 53, 54, 55, 56, 57, 71, 72, 73] (by decide +kernel) (by decide +kernel)
set_option maxRecDepth 20000 in
theorem gX5_weightOf_X3_shareOf : GoodIn wsX5_weightOf (wsV RX5 95 RX3 yX3_shareOf wsX3_shareOf) := goodIn_app (goodIn_of _ (by decide +kernel)) ggX5_weightOf_X3_shareOf
theorem dX5_weightOf_0 : decode cX5_weightOf 0 = .ok (.aload_n 0, 1) := by decide +kernel
theorem dX5_weightOf_1 : decode cX5_weightOf 1 = .ok (.iload_n 1, 1) := by decide +kernel
theorem dX5_weightOf_2 : decode cX5_weightOf 2 = .ok (.aload_n 0, 1) := by decide +kernel
theorem dX5_weightOf_3 : decode cX5_weightOf 3 = .ok (.getfield 21, 3) := by decide +kernel
theorem dX5_weightOf_6 : decode cX5_weightOf 6 = .ok (.getfield 54, 3) := by decide +kernel
theorem dX5_weightOf_9 : decode cX5_weightOf 9 = .ok (.invokevirtual 60, 3) := by decide +kernel
theorem dX5_weightOf_12 : decode cX5_weightOf 12 = .ok (.istore_n 2, 1) := by decide +kernel
theorem dX5_weightOf_13 : decode cX5_weightOf 13 = .ok (.fconst 0, 1) := by decide +kernel
theorem dX5_weightOf_14 : decode cX5_weightOf 14 = .ok (.fstore_n 3, 1) := by decide +kernel
theorem dX5_weightOf_15 : decode cX5_weightOf 15 = .ok (.iconst 0, 1) := by decide +kernel
theorem dX5_weightOf_16 : decode cX5_weightOf 16 = .ok (.istore 4, 2) := by decide +kernel
theorem dX5_weightOf_18 : decode cX5_weightOf 18 = .ok (.iload 4, 2) := by decide +kernel
theorem dX5_weightOf_20 : decode cX5_weightOf 20 = .ok (.aload_n 0, 1) := by decide +kernel
theorem dX5_weightOf_21 : decode cX5_weightOf 21 = .ok (.getfield 21, 3) := by decide +kernel
theorem dX5_weightOf_24 : decode cX5_weightOf 24 = .ok (.getfield 25, 3) := by decide +kernel
theorem dX5_weightOf_27 : decode cX5_weightOf 27 = .ok (.if_icmp .ge 41, 3) := by decide +kernel
theorem dX5_weightOf_30 : decode cX5_weightOf 30 = .ok (.iload_n 2, 1) := by decide +kernel
theorem dX5_weightOf_31 : decode cX5_weightOf 31 = .ok (.iload 4, 2) := by decide +kernel
theorem dX5_weightOf_33 : decode cX5_weightOf 33 = .ok (.invokestatic 63, 3) := by decide +kernel
theorem dX5_weightOf_36 : decode cX5_weightOf 36 = .ok (.ifCond .eq 26, 3) := by decide +kernel
theorem dX5_weightOf_39 : decode cX5_weightOf 39 = .ok (.fload_n 3, 1) := by decide +kernel
theorem dX5_weightOf_40 : decode cX5_weightOf 40 = .ok (.aload_n 0, 1) := by decide +kernel
theorem dX5_weightOf_41 : decode cX5_weightOf 41 = .ok (.getfield 21, 3) := by decide +kernel
theorem dX5_weightOf_44 : decode cX5_weightOf 44 = .ok (.getfield 82, 3) := by decide +kernel
theorem dX5_weightOf_47 : decode cX5_weightOf 47 = .ok (.aload_n 0, 1) := by decide +kernel
theorem dX5_weightOf_48 : decode cX5_weightOf 48 = .ok (.getfield 21, 3) := by decide +kernel
theorem dX5_weightOf_51 : decode cX5_weightOf 51 = .ok (.iload 4, 2) := by decide +kernel
theorem dX5_weightOf_53 : decode cX5_weightOf 53 = .ok (.iconst 0, 1) := by decide +kernel
theorem dX5_weightOf_54 : decode cX5_weightOf 54 = .ok (.invokevirtual 70, 3) := by decide +kernel
theorem dX5_weightOf_57 : decode cX5_weightOf 57 = .ok (.invokevirtual 95, 3) := by decide +kernel
theorem dX5_weightOf_60 : decode cX5_weightOf 60 = .ok (.fadd, 1) := by decide +kernel
theorem dX5_weightOf_61 : decode cX5_weightOf 61 = .ok (.fstore_n 3, 1) := by decide +kernel
theorem dX5_weightOf_62 : decode cX5_weightOf 62 = .ok (.iinc 4 1, 3) := by decide +kernel
theorem dX5_weightOf_65 : decode cX5_weightOf 65 = .ok (.goto (-47), 3) := by decide +kernel
theorem dX5_weightOf_68 : decode cX5_weightOf 68 = .ok (.fload_n 3, 1) := by decide +kernel
theorem dX5_weightOf_69 : decode cX5_weightOf 69 = .ok (.freturn, 1) := by decide +kernel
set_option maxRecDepth 20000 in
theorem ggX5_sumOfWholeWeights_X5_weightOf : GoodIn wsX5_sumOfWholeWeights wsX5_weightOf := goodIn_r _ [5, 6, 7, 8, 9, 10, 11, 12, 4, 13, 14, 15, 16, 17, 18, 19, 20, 21, 22, 23, 24, 25, 26, 27, 28, 29, 30, 31, 32, 33, 34, 35, 36, 37, 38, 39, 40, 41, 42, 43, 44, 45, 46, 47, 48, 49, 50, 51, 52, 53, 54, 55, 56, 57, 58, 59, 60, 61, 62, 63, 64, 65, 66, 67, 68, 69, 70, 71, 72, 73, 74, 75, 76, 77] (by decide +kernel) (by decide +kernel)
set_option maxRecDepth 20000 in
theorem gX5_sumOfWholeWeights_X5_weightOf : GoodIn wsX5_sumOfWholeWeights (wsV RX5 99 RX5 yX5_weightOf wsX5_weightOf) := goodIn_app (goodIn_of _ (by decide +kernel)) ggX5_sumOfWholeWeights_X5_weightOf
theorem dX5_sumOfWholeWeights_0 : decode cX5_sumOfWholeWeights 0 = .ok (.iconst 0, 1) := by decide +kernel
theorem dX5_sumOfWholeWeights_1 : decode cX5_sumOfWholeWeights 1 = .ok (.istore_n 1, 1) := by decide +kernel
theorem dX5_sumOfWholeWeights_2 : decode cX5_sumOfWholeWeights 2 = .ok (.iconst 0, 1) := by decide +kernel
theorem dX5_sumOfWholeWeights_3 : decode cX5_sumOfWholeWeights 3 = .ok (.istore_n 2, 1) := by decide +kernel
theorem dX5_sumOfWholeWeights_4 : decode cX5_sumOfWholeWeights 4 = .ok (.iload_n 2, 1) := by decide +kernel
theorem dX5_sumOfWholeWeights_5 : decode cX5_sumOfWholeWeights 5 = .ok (.bipush 32, 2) := by decide +kernel
theorem dX5_sumOfWholeWeights_7 : decode cX5_sumOfWholeWeights 7 = .ok (.if_icmp .ge 18, 3) := by decide +kernel
theorem dX5_sumOfWholeWeights_10 : decode cX5_sumOfWholeWeights 10 = .ok (.iload_n 1, 1) := by decide +kernel
theorem dX5_sumOfWholeWeights_11 : decode cX5_sumOfWholeWeights 11 = .ok (.aload_n 0, 1) := by decide +kernel
theorem dX5_sumOfWholeWeights_12 : decode cX5_sumOfWholeWeights 12 = .ok (.iload_n 2, 1) := by decide +kernel
theorem dX5_sumOfWholeWeights_13 : decode cX5_sumOfWholeWeights 13 = .ok (.invokevirtual 99, 3) := by decide +kernel
theorem dX5_sumOfWholeWeights_16 : decode cX5_sumOfWholeWeights 16 = .ok (.f2i, 1) := by decide +kernel
theorem dX5_sumOfWholeWeights_17 : decode cX5_sumOfWholeWeights 17 = .ok (.iadd, 1) := by decide +kernel
theorem dX5_sumOfWholeWeights_18 : decode cX5_sumOfWholeWeights 18 = .ok (.istore_n 1, 1) := by decide +kernel
theorem dX5_sumOfWholeWeights_19 : decode cX5_sumOfWholeWeights 19 = .ok (.iinc 2 1, 3) := by decide +kernel
theorem dX5_sumOfWholeWeights_22 : decode cX5_sumOfWholeWeights 22 = .ok (.goto (-18), 3) := by decide +kernel
theorem dX5_sumOfWholeWeights_25 : decode cX5_sumOfWholeWeights 25 = .ok (.iload_n 1, 1) := by decide +kernel
theorem dX5_sumOfWholeWeights_26 : decode cX5_sumOfWholeWeights 26 = .ok (.ireturn, 1) := by decide +kernel
set_option maxRecDepth 20000 in
theorem ggX5_partnersOf_X5_findPartners : GoodIn wsX5_partnersOf wsX5_findPartners := goodIn_r _ [6, 1, 7, 8, 9, 10, 11, 12, 5, 13, 14, 15, 16, 17, 18, 19, 20, 21, 22, 23, 24, 25, 26, 27, 28, 29, 30, 31, 32, 33, 34, 35, 36, 37, 38, 39, 40, 41, 42, 43, 44, 45, 46, 47, 48, 49, 50, 51, 52, 53, 54, 55, 56, 57, 58, 59, 60, 61, 62, 63, 64, 65, 66, 67, 68, 69, 70, 71, 72, 73, 74, 75, 76, 77, 78, 79, 80, 81, 82, 83, 84, 85, 86, 87, 88, 89, 90, 91, 92] (by decide +kernel) (by decide +kernel)
set_option maxRecDepth 20000 in
theorem gX5_partnersOf_X5_findPartners : GoodIn wsX5_partnersOf (wsV RX5 102 RX5 yX5_findPartners wsX5_findPartners) := goodIn_app (goodIn_of _ (by decide +kernel)) ggX5_partnersOf_X5_findPartners
theorem dX5_partnersOf_0 : decode cX5_partnersOf 0 = .ok (.aload_n 0, 1) := by decide +kernel
theorem dX5_partnersOf_1 : decode cX5_partnersOf 1 = .ok (.invokevirtual 102, 3) := by decide +kernel
theorem dX5_partnersOf_4 : decode cX5_partnersOf 4 = .ok (.iload_n 1, 1) := by decide +kernel
theorem dX5_partnersOf_5 : decode cX5_partnersOf 5 = .ok (.ifCond .lt 21, 3) := by decide +kernel
theorem dX5_partnersOf_8 : decode cX5_partnersOf 8 = .ok (.iload_n 1, 1) := by decide +kernel
theorem dX5_partnersOf_9 : decode cX5_partnersOf 9 = .ok (.aload_n 0, 1) := by decide +kernel
theorem dX5_partnersOf_10 : decode cX5_partnersOf 10 = .ok (.getfield 18, 3) := by decide +kernel
theorem dX5_partnersOf_13 : decode cX5_partnersOf 13 = .ok (.arraylength, 1) := by decide +kernel
theorem dX5_partnersOf_14 : decode cX5_partnersOf 14 = .ok (.if_icmp .ge 12, 3) := by decide +kernel
theorem dX5_partnersOf_17 : decode cX5_partnersOf 17 = .ok (.aload_n 0, 1) := by decide +kernel
theorem dX5_partnersOf_18 : decode cX5_partnersOf 18 = .ok (.getfield 18, 3) := by decide +kernel
theorem dX5_partnersOf_21 : decode cX5_partnersOf 21 = .ok (.iload_n 1, 1) := by decide +kernel
theorem dX5_partnersOf_22 : decode cX5_partnersOf 22 = .ok (.iaload, 1) := by decide +kernel
theorem dX5_partnersOf_23 : decode cX5_partnersOf 23 = .ok (.goto 4, 3) := by decide +kernel
theorem dX5_partnersOf_26 : decode cX5_partnersOf 26 = .ok (.iconst 0, 1) := by decide +kernel
theorem dX5_partnersOf_27 : decode cX5_partnersOf 27 = .ok (.ireturn, 1) := by decide +kernel
set_option maxRecDepth 20000 in
theorem ggX5_countMeetingPairs_X5_findPartners : GoodIn wsX5_countMeetingPairs wsX5_findPartners := goodIn_r _ [6, 1, 7, 8, 9, 10, 11, 12, 5, 13, 14, 15, 16, 17, 18, 19, 20, 21, 22, 23, 24, 25, 26, 27, 28, 29, 30, 31, 32, 33, 34, 35, 36, 37, 38, 39, 40, 41, 42, 43, 44, 45, 46, 47, 48, 49, 50, 51, 52, 53, 54, 55, 56, 57, 58, 59, 60, 61, 62, 63, 64, 65, 66, 67, 68, 69, 70, 71, 72, 73, 74, 75, 76, 84, 85, 86, 87, 88, 89, 90, 91, 92, 93, 94, 95, 96, 97, 98, 99] (by decide +kernel) (by decide +kernel)
set_option maxRecDepth 20000 in
theorem gX5_countMeetingPairs_X5_findPartners : GoodIn wsX5_countMeetingPairs (wsV RX5 102 RX5 yX5_findPartners wsX5_findPartners) := goodIn_app (goodIn_of _ (by decide +kernel)) ggX5_countMeetingPairs_X5_findPartners
set_option maxRecDepth 20000 in
theorem ggX5_countMeetingPairs_J6_bitCount_0f7a4 : GoodIn wsX5_countMeetingPairs wsJ6_bitCount_0f7a4 := goodIn_r _ [80, 81, 82, 83] (by decide +kernel) (by decide +kernel)
set_option maxRecDepth 20000 in
theorem gX5_countMeetingPairs_J6_bitCount_0f7a4 : GoodIn wsX5_countMeetingPairs (va_wsS RX5 105 yJ6_bitCount_0f7a4 wsJ6_bitCount_0f7a4) := goodIn_app (goodIn_of _ (by decide +kernel)) ggX5_countMeetingPairs_J6_bitCount_0f7a4
theorem dX5_countMeetingPairs_0 : decode cX5_countMeetingPairs 0 = .ok (.aload_n 0, 1) := by decide +kernel
theorem dX5_countMeetingPairs_1 : decode cX5_countMeetingPairs 1 = .ok (.invokevirtual 102, 3) := by decide +kernel
theorem dX5_countMeetingPairs_4 : decode cX5_countMeetingPairs 4 = .ok (.iconst 0, 1) := by decide +kernel
theorem dX5_countMeetingPairs_5 : decode cX5_countMeetingPairs 5 = .ok (.istore_n 1, 1) := by decide +kernel
theorem dX5_countMeetingPairs_6 : decode cX5_countMeetingPairs 6 = .ok (.iconst 0, 1) := by decide +kernel
theorem dX5_countMeetingPairs_7 : decode cX5_countMeetingPairs 7 = .ok (.istore_n 2, 1) := by decide +kernel
theorem dX5_countMeetingPairs_8 : decode cX5_countMeetingPairs 8 = .ok (.iload_n 2, 1) := by decide +kernel
theorem dX5_countMeetingPairs_9 : decode cX5_countMeetingPairs 9 = .ok (.aload_n 0, 1) := by decide +kernel
theorem dX5_countMeetingPairs_10 : decode cX5_countMeetingPairs 10 = .ok (.getfield 18, 3) := by decide +kernel
theorem dX5_countMeetingPairs_13 : decode cX5_countMeetingPairs 13 = .ok (.arraylength, 1) := by decide +kernel
theorem dX5_countMeetingPairs_14 : decode cX5_countMeetingPairs 14 = .ok (.if_icmp .ge 21, 3) := by decide +kernel
theorem dX5_countMeetingPairs_17 : decode cX5_countMeetingPairs 17 = .ok (.iload_n 1, 1) := by decide +kernel
theorem dX5_countMeetingPairs_18 : decode cX5_countMeetingPairs 18 = .ok (.aload_n 0, 1) := by decide +kernel
theorem dX5_countMeetingPairs_19 : decode cX5_countMeetingPairs 19 = .ok (.getfield 18, 3) := by decide +kernel
theorem dX5_countMeetingPairs_22 : decode cX5_countMeetingPairs 22 = .ok (.iload_n 2, 1) := by decide +kernel
theorem dX5_countMeetingPairs_23 : decode cX5_countMeetingPairs 23 = .ok (.iaload, 1) := by decide +kernel
theorem dX5_countMeetingPairs_24 : decode cX5_countMeetingPairs 24 = .ok (.invokestatic 105, 3) := by decide +kernel
theorem dX5_countMeetingPairs_27 : decode cX5_countMeetingPairs 27 = .ok (.iadd, 1) := by decide +kernel
theorem dX5_countMeetingPairs_28 : decode cX5_countMeetingPairs 28 = .ok (.istore_n 1, 1) := by decide +kernel
theorem dX5_countMeetingPairs_29 : decode cX5_countMeetingPairs 29 = .ok (.iinc 2 1, 3) := by decide +kernel
theorem dX5_countMeetingPairs_32 : decode cX5_countMeetingPairs 32 = .ok (.goto (-24), 3) := by decide +kernel
theorem dX5_countMeetingPairs_35 : decode cX5_countMeetingPairs 35 = .ok (.iload_n 1, 1) := by decide +kernel
theorem dX5_countMeetingPairs_36 : decode cX5_countMeetingPairs 36 = .ok (.iconst 2, 1) := by decide +kernel
theorem dX5_countMeetingPairs_37 : decode cX5_countMeetingPairs 37 = .ok (.idiv, 1) := by decide +kernel
theorem dX5_countMeetingPairs_38 : decode cX5_countMeetingPairs 38 = .ok (.ireturn, 1) := by decide +kernel
set_option maxRecDepth 20000 in
theorem ggX5_findPartners_X5_shownSet : GoodIn wsX5_findPartners wsX5_shownSet := goodIn_r _ [9, 10, 11, 12, 13, 8, 14, 2, 15, 16, 17, 18, 19, 20, 21, 22, 23, 24, 25, 26, 27, 28, 29, 30, 31, 73, 74, 75, 76, 77, 78, 79, 80, 81, 82, 83, 84, 85] (by decide +kernel) (by decide +kernel)
set_option maxRecDepth 20000 in
theorem gX5_findPartners_X5_shownSet : GoodIn wsX5_findPartners (wsV RX5 60 RX5 yX5_shownSet wsX5_shownSet) := goodIn_app (goodIn_of _ (by decide +kernel)) ggX5_findPartners_X5_shownSet
set_option maxRecDepth 20000 in
theorem ggX5_findPartners_X6_contains : GoodIn wsX5_findPartners wsX6_contains := goodIn_r _ [34] (by decide +kernel) (by decide +kernel)
set_option maxRecDepth 20000 in
theorem gX5_findPartners_X6_contains_n63 : GoodIn wsX5_findPartners (wsX6_contains) := ggX5_findPartners_X6_contains
set_option maxRecDepth 20000 in
theorem ggX5_findPartners_X5_columnsOf : GoodIn wsX5_findPartners wsX5_columnsOf := goodIn_r _ [38, 2, 39, 40, 28, 29, 25, 30, 31, 41, 42, 43, 44, 45, 46, 47, 48, 49, 50, 51, 52, 53, 54, 55, 56, 57, 58, 59, 60, 61, 62, 63, 64, 65, 66, 67, 68, 73, 74, 75, 76, 77, 78, 79, 80, 81, 82, 83, 84, 85, 86, 87, 88] (by decide +kernel) (by decide +kernel)
set_option maxRecDepth 20000 in
theorem gX5_findPartners_X5_columnsOf : GoodIn wsX5_findPartners (wsV RX5 110 RX5 yX5_columnsOf wsX5_columnsOf) := goodIn_app (goodIn_of _ (by decide +kernel)) ggX5_findPartners_X5_columnsOf
set_option maxRecDepth 20000 in
theorem ggX5_findPartners_X5_addPartnersOnLine : GoodIn wsX5_findPartners wsX5_addPartnersOnLine := goodIn_r _ [72, 4, 1, 73, 74, 75, 76] (by decide +kernel) (by decide +kernel)
set_option maxRecDepth 20000 in
theorem gX5_findPartners_X5_addPartnersOnLine : GoodIn wsX5_findPartners (wsV RX5 113 RX5 yX5_addPartnersOnLine wsX5_addPartnersOnLine) := goodIn_app (goodIn_of _ (by decide +kernel)) ggX5_findPartners_X5_addPartnersOnLine
theorem dX5_findPartners_0 : decode cX5_findPartners 0 = .ok (.iconst 0, 1) := by decide +kernel
theorem dX5_findPartners_1 : decode cX5_findPartners 1 = .ok (.istore_n 1, 1) := by decide +kernel
theorem dX5_findPartners_2 : decode cX5_findPartners 2 = .ok (.iload_n 1, 1) := by decide +kernel
theorem dX5_findPartners_3 : decode cX5_findPartners 3 = .ok (.aload_n 0, 1) := by decide +kernel
theorem dX5_findPartners_4 : decode cX5_findPartners 4 = .ok (.getfield 18, 3) := by decide +kernel
theorem dX5_findPartners_7 : decode cX5_findPartners 7 = .ok (.arraylength, 1) := by decide +kernel
theorem dX5_findPartners_8 : decode cX5_findPartners 8 = .ok (.if_icmp .ge 16, 3) := by decide +kernel
theorem dX5_findPartners_11 : decode cX5_findPartners 11 = .ok (.aload_n 0, 1) := by decide +kernel
theorem dX5_findPartners_12 : decode cX5_findPartners 12 = .ok (.getfield 18, 3) := by decide +kernel
theorem dX5_findPartners_15 : decode cX5_findPartners 15 = .ok (.iload_n 1, 1) := by decide +kernel
theorem dX5_findPartners_16 : decode cX5_findPartners 16 = .ok (.iconst 0, 1) := by decide +kernel
theorem dX5_findPartners_17 : decode cX5_findPartners 17 = .ok (.iastore, 1) := by decide +kernel
theorem dX5_findPartners_18 : decode cX5_findPartners 18 = .ok (.iinc 1 1, 3) := by decide +kernel
theorem dX5_findPartners_21 : decode cX5_findPartners 21 = .ok (.goto (-19), 3) := by decide +kernel
theorem dX5_findPartners_24 : decode cX5_findPartners 24 = .ok (.iconst 0, 1) := by decide +kernel
theorem dX5_findPartners_25 : decode cX5_findPartners 25 = .ok (.istore_n 1, 1) := by decide +kernel
theorem dX5_findPartners_26 : decode cX5_findPartners 26 = .ok (.iload_n 1, 1) := by decide +kernel
theorem dX5_findPartners_27 : decode cX5_findPartners 27 = .ok (.bipush 32, 2) := by decide +kernel
theorem dX5_findPartners_29 : decode cX5_findPartners 29 = .ok (.if_icmp .ge 67, 3) := by decide +kernel
theorem dX5_findPartners_32 : decode cX5_findPartners 32 = .ok (.aload_n 0, 1) := by decide +kernel
theorem dX5_findPartners_33 : decode cX5_findPartners 33 = .ok (.iload_n 1, 1) := by decide +kernel
theorem dX5_findPartners_34 : decode cX5_findPartners 34 = .ok (.aload_n 0, 1) := by decide +kernel
theorem dX5_findPartners_35 : decode cX5_findPartners 35 = .ok (.getfield 21, 3) := by decide +kernel
theorem dX5_findPartners_38 : decode cX5_findPartners 38 = .ok (.getfield 54, 3) := by decide +kernel
theorem dX5_findPartners_41 : decode cX5_findPartners 41 = .ok (.invokevirtual 60, 3) := by decide +kernel
theorem dX5_findPartners_44 : decode cX5_findPartners 44 = .ok (.istore_n 2, 1) := by decide +kernel
theorem dX5_findPartners_45 : decode cX5_findPartners 45 = .ok (.iconst 0, 1) := by decide +kernel
theorem dX5_findPartners_46 : decode cX5_findPartners 46 = .ok (.istore_n 3, 1) := by decide +kernel
theorem dX5_findPartners_47 : decode cX5_findPartners 47 = .ok (.iload_n 3, 1) := by decide +kernel
theorem dX5_findPartners_48 : decode cX5_findPartners 48 = .ok (.aload_n 0, 1) := by decide +kernel
theorem dX5_findPartners_49 : decode cX5_findPartners 49 = .ok (.getfield 15, 3) := by decide +kernel
theorem dX5_findPartners_52 : decode cX5_findPartners 52 = .ok (.arraylength, 1) := by decide +kernel
theorem dX5_findPartners_53 : decode cX5_findPartners 53 = .ok (.if_icmp .ge 33, 3) := by decide +kernel
theorem dX5_findPartners_56 : decode cX5_findPartners 56 = .ok (.aload_n 0, 1) := by decide +kernel
theorem dX5_findPartners_57 : decode cX5_findPartners 57 = .ok (.getfield 15, 3) := by decide +kernel
theorem dX5_findPartners_60 : decode cX5_findPartners 60 = .ok (.iload_n 3, 1) := by decide +kernel
theorem dX5_findPartners_61 : decode cX5_findPartners 61 = .ok (.iload_n 2, 1) := by decide +kernel
theorem dX5_findPartners_62 : decode cX5_findPartners 62 = .ok (.iload_n 3, 1) := by decide +kernel
theorem dX5_findPartners_63 : decode cX5_findPartners 63 = .ok (.invokestatic 63, 3) := by decide +kernel
theorem dX5_findPartners_66 : decode cX5_findPartners 66 = .ok (.ifCond .eq 12, 3) := by decide +kernel
theorem dX5_findPartners_69 : decode cX5_findPartners 69 = .ok (.aload_n 0, 1) := by decide +kernel
theorem dX5_findPartners_70 : decode cX5_findPartners 70 = .ok (.iload_n 3, 1) := by decide +kernel
theorem dX5_findPartners_71 : decode cX5_findPartners 71 = .ok (.iload_n 1, 1) := by decide +kernel
theorem dX5_findPartners_72 : decode cX5_findPartners 72 = .ok (.invokevirtual 110, 3) := by decide +kernel
theorem dX5_findPartners_75 : decode cX5_findPartners 75 = .ok (.goto 4, 3) := by decide +kernel
theorem dX5_findPartners_78 : decode cX5_findPartners 78 = .ok (.iconst 0, 1) := by decide +kernel
theorem dX5_findPartners_79 : decode cX5_findPartners 79 = .ok (.iastore, 1) := by decide +kernel
theorem dX5_findPartners_80 : decode cX5_findPartners 80 = .ok (.iinc 3 1, 3) := by decide +kernel
theorem dX5_findPartners_83 : decode cX5_findPartners 83 = .ok (.goto (-36), 3) := by decide +kernel
theorem dX5_findPartners_86 : decode cX5_findPartners 86 = .ok (.aload_n 0, 1) := by decide +kernel
theorem dX5_findPartners_87 : decode cX5_findPartners 87 = .ok (.invokevirtual 113, 3) := by decide +kernel
theorem dX5_findPartners_90 : decode cX5_findPartners 90 = .ok (.iinc 1 1, 3) := by decide +kernel
theorem dX5_findPartners_93 : decode cX5_findPartners 93 = .ok (.goto (-67), 3) := by decide +kernel
theorem dX5_findPartners_96 : decode cX5_findPartners 96 = .ok (.return_, 1) := by decide +kernel
set_option maxRecDepth 20000 in
theorem ggX5_columnsOf_X4_property : GoodIn wsX5_columnsOf wsX4_property := goodIn_r _ [7, 8, 41, 42, 43, 44, 45, 46, 47, 48, 49] (by decide +kernel) (by decide +kernel)
set_option maxRecDepth 20000 in
theorem gX5_columnsOf_X4_property : GoodIn wsX5_columnsOf (wsV RX5 70 RX4 yX4_property wsX4_property) := goodIn_app (goodIn_of _ (by decide +kernel)) ggX5_columnsOf_X4_property
set_option maxRecDepth 20000 in
theorem ggX5_columnsOf_X3_filledInRow : GoodIn wsX5_columnsOf wsX3_filledInRow := goodIn_r _ [13, 14, 15, 16, 17, 12, 18, 19, 20, 21, 22, 23, 24, 25, 26, 27, 28, 29, 30, 31, 32, 33, 34, 35, 36, 50, 51, 52] (by decide +kernel) (by decide +kernel)
set_option maxRecDepth 20000 in
theorem gX5_columnsOf_X3_filledInRow : GoodIn wsX5_columnsOf (wsV RX5 116 RX3 yX3_filledInRow wsX3_filledInRow) := goodIn_app (goodIn_of _ (by decide +kernel)) ggX5_columnsOf_X3_filledInRow
theorem dX5_columnsOf_0 : decode cX5_columnsOf 0 = .ok (.iload_n 2, 1) := by decide +kernel
theorem dX5_columnsOf_1 : decode cX5_columnsOf 1 = .ok (.aload_n 0, 1) := by decide +kernel
theorem dX5_columnsOf_2 : decode cX5_columnsOf 2 = .ok (.getfield 21, 3) := by decide +kernel
theorem dX5_columnsOf_5 : decode cX5_columnsOf 5 = .ok (.iload_n 1, 1) := by decide +kernel
theorem dX5_columnsOf_6 : decode cX5_columnsOf 6 = .ok (.iconst 5, 1) := by decide +kernel
theorem dX5_columnsOf_7 : decode cX5_columnsOf 7 = .ok (.invokevirtual 70, 3) := by decide +kernel
theorem dX5_columnsOf_10 : decode cX5_columnsOf 10 = .ok (.isub, 1) := by decide +kernel
theorem dX5_columnsOf_11 : decode cX5_columnsOf 11 = .ok (.istore_n 3, 1) := by decide +kernel
theorem dX5_columnsOf_12 : decode cX5_columnsOf 12 = .ok (.aload_n 0, 1) := by decide +kernel
theorem dX5_columnsOf_13 : decode cX5_columnsOf 13 = .ok (.getfield 21, 3) := by decide +kernel
theorem dX5_columnsOf_16 : decode cX5_columnsOf 16 = .ok (.iload_n 1, 1) := by decide +kernel
theorem dX5_columnsOf_17 : decode cX5_columnsOf 17 = .ok (.iconst 1, 1) := by decide +kernel
theorem dX5_columnsOf_18 : decode cX5_columnsOf 18 = .ok (.invokevirtual 70, 3) := by decide +kernel
theorem dX5_columnsOf_21 : decode cX5_columnsOf 21 = .ok (.istore 4, 2) := by decide +kernel
theorem dX5_columnsOf_23 : decode cX5_columnsOf 23 = .ok (.aload_n 0, 1) := by decide +kernel
theorem dX5_columnsOf_24 : decode cX5_columnsOf 24 = .ok (.getfield 21, 3) := by decide +kernel
theorem dX5_columnsOf_27 : decode cX5_columnsOf 27 = .ok (.getfield 82, 3) := by decide +kernel
theorem dX5_columnsOf_30 : decode cX5_columnsOf 30 = .ok (.aload_n 0, 1) := by decide +kernel
theorem dX5_columnsOf_31 : decode cX5_columnsOf 31 = .ok (.getfield 21, 3) := by decide +kernel
theorem dX5_columnsOf_34 : decode cX5_columnsOf 34 = .ok (.iload_n 1, 1) := by decide +kernel
theorem dX5_columnsOf_35 : decode cX5_columnsOf 35 = .ok (.iconst 0, 1) := by decide +kernel
theorem dX5_columnsOf_36 : decode cX5_columnsOf 36 = .ok (.invokevirtual 70, 3) := by decide +kernel
theorem dX5_columnsOf_39 : decode cX5_columnsOf 39 = .ok (.iload 4, 2) := by decide +kernel
theorem dX5_columnsOf_41 : decode cX5_columnsOf 41 = .ok (.iload_n 3, 1) := by decide +kernel
theorem dX5_columnsOf_42 : decode cX5_columnsOf 42 = .ok (.invokevirtual 116, 3) := by decide +kernel
theorem dX5_columnsOf_45 : decode cX5_columnsOf 45 = .ok (.istore 5, 2) := by decide +kernel
theorem dX5_columnsOf_47 : decode cX5_columnsOf 47 = .ok (.aload_n 0, 1) := by decide +kernel
theorem dX5_columnsOf_48 : decode cX5_columnsOf 48 = .ok (.getfield 21, 3) := by decide +kernel
theorem dX5_columnsOf_51 : decode cX5_columnsOf 51 = .ok (.iload_n 1, 1) := by decide +kernel
theorem dX5_columnsOf_52 : decode cX5_columnsOf 52 = .ok (.iconst 4, 1) := by decide +kernel
theorem dX5_columnsOf_53 : decode cX5_columnsOf 53 = .ok (.invokevirtual 70, 3) := by decide +kernel
theorem dX5_columnsOf_56 : decode cX5_columnsOf 56 = .ok (.istore 6, 2) := by decide +kernel
theorem dX5_columnsOf_58 : decode cX5_columnsOf 58 = .ok (.iload 6, 2) := by decide +kernel
theorem dX5_columnsOf_60 : decode cX5_columnsOf 60 = .ok (.ifCond .lt 11, 3) := by decide +kernel
theorem dX5_columnsOf_63 : decode cX5_columnsOf 63 = .ok (.iload 5, 2) := by decide +kernel
theorem dX5_columnsOf_65 : decode cX5_columnsOf 65 = .ok (.iload 6, 2) := by decide +kernel
theorem dX5_columnsOf_67 : decode cX5_columnsOf 67 = .ok (.ishl, 1) := by decide +kernel
theorem dX5_columnsOf_68 : decode cX5_columnsOf 68 = .ok (.goto 9, 3) := by decide +kernel
theorem dX5_columnsOf_71 : decode cX5_columnsOf 71 = .ok (.iload 5, 2) := by decide +kernel
theorem dX5_columnsOf_73 : decode cX5_columnsOf 73 = .ok (.iload 6, 2) := by decide +kernel
theorem dX5_columnsOf_75 : decode cX5_columnsOf 75 = .ok (.ineg, 1) := by decide +kernel
theorem dX5_columnsOf_76 : decode cX5_columnsOf 76 = .ok (.ishr, 1) := by decide +kernel
theorem dX5_columnsOf_77 : decode cX5_columnsOf 77 = .ok (.ireturn, 1) := by decide +kernel
theorem dX5_addPartnersOnLine_0 : decode cX5_addPartnersOnLine 0 = .ok (.iconst 0, 1) := by decide +kernel
theorem dX5_addPartnersOnLine_1 : decode cX5_addPartnersOnLine 1 = .ok (.istore_n 1, 1) := by decide +kernel
theorem dX5_addPartnersOnLine_2 : decode cX5_addPartnersOnLine 2 = .ok (.iload_n 1, 1) := by decide +kernel
theorem dX5_addPartnersOnLine_3 : decode cX5_addPartnersOnLine 3 = .ok (.bipush 20, 2) := by decide +kernel
theorem dX5_addPartnersOnLine_5 : decode cX5_addPartnersOnLine 5 = .ok (.if_icmp .ge 62, 3) := by decide +kernel
theorem dX5_addPartnersOnLine_8 : decode cX5_addPartnersOnLine 8 = .ok (.iconst 0, 1) := by decide +kernel
theorem dX5_addPartnersOnLine_9 : decode cX5_addPartnersOnLine 9 = .ok (.istore_n 2, 1) := by decide +kernel
theorem dX5_addPartnersOnLine_10 : decode cX5_addPartnersOnLine 10 = .ok (.iload_n 2, 1) := by decide +kernel
theorem dX5_addPartnersOnLine_11 : decode cX5_addPartnersOnLine 11 = .ok (.iload_n 1, 1) := by decide +kernel
theorem dX5_addPartnersOnLine_12 : decode cX5_addPartnersOnLine 12 = .ok (.if_icmp .ge 49, 3) := by decide +kernel
theorem dX5_addPartnersOnLine_15 : decode cX5_addPartnersOnLine 15 = .ok (.aload_n 0, 1) := by decide +kernel
theorem dX5_addPartnersOnLine_16 : decode cX5_addPartnersOnLine 16 = .ok (.getfield 15, 3) := by decide +kernel
theorem dX5_addPartnersOnLine_19 : decode cX5_addPartnersOnLine 19 = .ok (.iload_n 1, 1) := by decide +kernel
theorem dX5_addPartnersOnLine_20 : decode cX5_addPartnersOnLine 20 = .ok (.iaload, 1) := by decide +kernel
theorem dX5_addPartnersOnLine_21 : decode cX5_addPartnersOnLine 21 = .ok (.aload_n 0, 1) := by decide +kernel
theorem dX5_addPartnersOnLine_22 : decode cX5_addPartnersOnLine 22 = .ok (.getfield 15, 3) := by decide +kernel
theorem dX5_addPartnersOnLine_25 : decode cX5_addPartnersOnLine 25 = .ok (.iload_n 2, 1) := by decide +kernel
theorem dX5_addPartnersOnLine_26 : decode cX5_addPartnersOnLine 26 = .ok (.iaload, 1) := by decide +kernel
theorem dX5_addPartnersOnLine_27 : decode cX5_addPartnersOnLine 27 = .ok (.iand, 1) := by decide +kernel
theorem dX5_addPartnersOnLine_28 : decode cX5_addPartnersOnLine 28 = .ok (.ifCond .eq 27, 3) := by decide +kernel
theorem dX5_addPartnersOnLine_31 : decode cX5_addPartnersOnLine 31 = .ok (.aload_n 0, 1) := by decide +kernel
theorem dX5_addPartnersOnLine_32 : decode cX5_addPartnersOnLine 32 = .ok (.getfield 18, 3) := by decide +kernel
theorem dX5_addPartnersOnLine_35 : decode cX5_addPartnersOnLine 35 = .ok (.iload_n 1, 1) := by decide +kernel
theorem dX5_addPartnersOnLine_36 : decode cX5_addPartnersOnLine 36 = .ok (.dup2, 1) := by decide +kernel
theorem dX5_addPartnersOnLine_37 : decode cX5_addPartnersOnLine 37 = .ok (.iaload, 1) := by decide +kernel
theorem dX5_addPartnersOnLine_38 : decode cX5_addPartnersOnLine 38 = .ok (.iconst 1, 1) := by decide +kernel
theorem dX5_addPartnersOnLine_39 : decode cX5_addPartnersOnLine 39 = .ok (.iload_n 2, 1) := by decide +kernel
theorem dX5_addPartnersOnLine_40 : decode cX5_addPartnersOnLine 40 = .ok (.ishl, 1) := by decide +kernel
theorem dX5_addPartnersOnLine_41 : decode cX5_addPartnersOnLine 41 = .ok (.ior, 1) := by decide +kernel
theorem dX5_addPartnersOnLine_42 : decode cX5_addPartnersOnLine 42 = .ok (.iastore, 1) := by decide +kernel
theorem dX5_addPartnersOnLine_43 : decode cX5_addPartnersOnLine 43 = .ok (.aload_n 0, 1) := by decide +kernel
theorem dX5_addPartnersOnLine_44 : decode cX5_addPartnersOnLine 44 = .ok (.getfield 18, 3) := by decide +kernel
theorem dX5_addPartnersOnLine_47 : decode cX5_addPartnersOnLine 47 = .ok (.iload_n 2, 1) := by decide +kernel
theorem dX5_addPartnersOnLine_48 : decode cX5_addPartnersOnLine 48 = .ok (.dup2, 1) := by decide +kernel
theorem dX5_addPartnersOnLine_49 : decode cX5_addPartnersOnLine 49 = .ok (.iaload, 1) := by decide +kernel
theorem dX5_addPartnersOnLine_50 : decode cX5_addPartnersOnLine 50 = .ok (.iconst 1, 1) := by decide +kernel
theorem dX5_addPartnersOnLine_51 : decode cX5_addPartnersOnLine 51 = .ok (.iload_n 1, 1) := by decide +kernel
theorem dX5_addPartnersOnLine_52 : decode cX5_addPartnersOnLine 52 = .ok (.ishl, 1) := by decide +kernel
theorem dX5_addPartnersOnLine_53 : decode cX5_addPartnersOnLine 53 = .ok (.ior, 1) := by decide +kernel
theorem dX5_addPartnersOnLine_54 : decode cX5_addPartnersOnLine 54 = .ok (.iastore, 1) := by decide +kernel
theorem dX5_addPartnersOnLine_55 : decode cX5_addPartnersOnLine 55 = .ok (.iinc 2 1, 3) := by decide +kernel
theorem dX5_addPartnersOnLine_58 : decode cX5_addPartnersOnLine 58 = .ok (.goto (-48), 3) := by decide +kernel
theorem dX5_addPartnersOnLine_61 : decode cX5_addPartnersOnLine 61 = .ok (.iinc 1 1, 3) := by decide +kernel
theorem dX5_addPartnersOnLine_64 : decode cX5_addPartnersOnLine 64 = .ok (.goto (-62), 3) := by decide +kernel
theorem dX5_addPartnersOnLine_67 : decode cX5_addPartnersOnLine 67 = .ok (.return_, 1) := by decide +kernel
set_option maxRecDepth 20000 in
theorem ggX6_init_X4_init : GoodIn wsX6_init wsX4_init := goodIn_r _ [27, 28, 2, 3, 29, 30, 31, 32, 33, 34, 35, 36, 37, 38, 39, 40, 41, 42, 43, 44, 74, 75, 76, 77, 78, 79, 80, 81, 82, 109, 110, 111] (by decide +kernel) (by decide +kernel)
set_option maxRecDepth 20000 in
theorem gX6_init_X4_init : GoodIn wsX6_init (wsX4_init) := ggX6_init_X4_init
set_option maxRecDepth 20000 in
theorem ggX6_init_X5_init : GoodIn wsX6_init wsX5_init := goodIn_r _ [47, 48, 2, 3, 34, 49, 50, 51, 52, 89, 90, 91, 92] (by decide +kernel) (by decide +kernel)
set_option maxRecDepth 20000 in
theorem gX6_init_X5_init : GoodIn wsX6_init (wsX5_init) := ggX6_init_X5_init
set_option maxRecDepth 20000 in
theorem ggX6_init_X1_init : GoodIn wsX6_init wsX1_init := goodIn_r _ [55, 56, 2, 3, 34, 57, 58, 59, 60, 61, 93, 94, 95, 96] (by decide +kernel) (by decide +kernel)
set_option maxRecDepth 20000 in
theorem gX6_init_X1_init : GoodIn wsX6_init (wsX1_init) := ggX6_init_X1_init
set_option maxRecDepth 20000 in
theorem ggX6_init_X2_init : GoodIn wsX6_init wsX2_init := goodIn_r _ [63, 64, 2, 3, 65, 66, 97, 98, 99, 100, 101, 102, 103, 104, 105] (by decide +kernel) (by decide +kernel)
set_option maxRecDepth 20000 in
theorem gX6_init_X2_init_n34 : GoodIn wsX6_init (wsX2_init) := ggX6_init_X2_init
set_option maxRecDepth 20000 in
theorem ggX6_init_X0_init : GoodIn wsX6_init wsX0_init := goodIn_r _ [69, 70, 2, 3, 71, 72, 5, 6, 73, 26, 27, 28, 29, 30, 31, 32, 33, 34, 35, 36, 37, 38, 39, 40, 41, 42, 43, 44, 106, 107, 108, 74, 75, 76, 77, 78, 79, 80, 81, 82, 109, 110, 111] (by decide +kernel) (by decide +kernel)
set_option maxRecDepth 20000 in
theorem gX6_init_X0_init : GoodIn wsX6_init (wsX0_init) := ggX6_init_X0_init
theorem dX6_init_0 : decode cX6_init 0 = .ok (.aload_n 0, 1) := by decide +kernel
theorem dX6_init_1 : decode cX6_init 1 = .ok (.invokespecial 1, 3) := by decide +kernel
theorem dX6_init_4 : decode cX6_init 4 = .ok (.aload_n 0, 1) := by decide +kernel
theorem dX6_init_5 : decode cX6_init 5 = .ok (.new 7, 3) := by decide +kernel
theorem dX6_init_8 : decode cX6_init 8 = .ok (.dup, 1) := by decide +kernel
theorem dX6_init_9 : decode cX6_init 9 = .ok (.invokespecial 9, 3) := by decide +kernel
theorem dX6_init_12 : decode cX6_init 12 = .ok (.putfield 10, 3) := by decide +kernel
theorem dX6_init_15 : decode cX6_init 15 = .ok (.aload_n 0, 1) := by decide +kernel
theorem dX6_init_16 : decode cX6_init 16 = .ok (.new 16, 3) := by decide +kernel
theorem dX6_init_19 : decode cX6_init 19 = .ok (.dup, 1) := by decide +kernel
theorem dX6_init_20 : decode cX6_init 20 = .ok (.aload_n 0, 1) := by decide +kernel
theorem dX6_init_21 : decode cX6_init 21 = .ok (.getfield 10, 3) := by decide +kernel
theorem dX6_init_24 : decode cX6_init 24 = .ok (.invokespecial 18, 3) := by decide +kernel
theorem dX6_init_27 : decode cX6_init 27 = .ok (.putfield 21, 3) := by decide +kernel
theorem dX6_init_30 : decode cX6_init 30 = .ok (.aload_n 0, 1) := by decide +kernel
theorem dX6_init_31 : decode cX6_init 31 = .ok (.new 25, 3) := by decide +kernel
theorem dX6_init_34 : decode cX6_init 34 = .ok (.dup, 1) := by decide +kernel
theorem dX6_init_35 : decode cX6_init 35 = .ok (.aload_n 0, 1) := by decide +kernel
theorem dX6_init_36 : decode cX6_init 36 = .ok (.getfield 10, 3) := by decide +kernel
theorem dX6_init_39 : decode cX6_init 39 = .ok (.invokespecial 27, 3) := by decide +kernel
theorem dX6_init_42 : decode cX6_init 42 = .ok (.putfield 28, 3) := by decide +kernel
theorem dX6_init_45 : decode cX6_init 45 = .ok (.aload_n 0, 1) := by decide +kernel
theorem dX6_init_46 : decode cX6_init 46 = .ok (.new 32, 3) := by decide +kernel
theorem dX6_init_49 : decode cX6_init 49 = .ok (.dup, 1) := by decide +kernel
theorem dX6_init_50 : decode cX6_init 50 = .ok (.invokespecial 34, 3) := by decide +kernel
theorem dX6_init_53 : decode cX6_init 53 = .ok (.putfield 35, 3) := by decide +kernel
theorem dX6_init_56 : decode cX6_init 56 = .ok (.aload_n 0, 1) := by decide +kernel
theorem dX6_init_57 : decode cX6_init 57 = .ok (.new 39, 3) := by decide +kernel
theorem dX6_init_60 : decode cX6_init 60 = .ok (.dup, 1) := by decide +kernel
theorem dX6_init_61 : decode cX6_init 61 = .ok (.invokespecial 41, 3) := by decide +kernel
theorem dX6_init_64 : decode cX6_init 64 = .ok (.putfield 42, 3) := by decide +kernel
theorem dX6_init_67 : decode cX6_init 67 = .ok (.aload_n 0, 1) := by decide +kernel
theorem dX6_init_68 : decode cX6_init 68 = .ok (.iconst 2, 1) := by decide +kernel
theorem dX6_init_69 : decode cX6_init 69 = .ok (.anewarray 7, 3) := by decide +kernel
theorem dX6_init_72 : decode cX6_init 72 = .ok (.putfield 46, 3) := by decide +kernel
theorem dX6_init_75 : decode cX6_init 75 = .ok (.return_, 1) := by decide +kernel
set_option maxRecDepth 20000 in
theorem ggX6_addPart_X0_remember : GoodIn wsX6_addPart wsX0_remember := goodIn_r _ [9, 10, 11, 12, 13, 14, 8, 15, 16, 17, 18, 19, 20, 21, 22, 23, 24, 25, 26, 27, 28, 29, 30, 31, 32, 33, 34, 35, 36, 37, 38, 39, 40, 41, 42, 43, 44, 45, 46, 47, 74, 75, 76, 62, 63, 64, 65, 66, 67, 68, 69, 70, 71, 72, 73] (by decide +kernel) (by decide +kernel)
set_option maxRecDepth 20000 in
theorem gX6_addPart_X0_remember : GoodIn wsX6_addPart (wsV RX6 60 RX0 yX0_remember wsX0_remember) := goodIn_app (goodIn_of _ (by decide +kernel)) ggX6_addPart_X0_remember
set_option maxRecDepth 20000 in
theorem ggX6_addPart_X3_addBlank : GoodIn wsX6_addPart wsX3_addBlank := goodIn_r _ [51, 44, 52, 53, 54, 42, 55, 45, 47, 71, 72, 73] (by decide +kernel) (by decide +kernel)
set_option maxRecDepth 20000 in
theorem gX6_addPart_X3_addBlank : GoodIn wsX6_addPart (wsV RX6 63 RX3 yX3_addBlank wsX3_addBlank) := goodIn_app (goodIn_of _ (by decide +kernel)) ggX6_addPart_X3_addBlank
theorem dX6_addPart_0 : decode cX6_addPart 0 = .ok (.aload_n 0, 1) := by decide +kernel
theorem dX6_addPart_1 : decode cX6_addPart 1 = .ok (.getfield 10, 3) := by decide +kernel
theorem dX6_addPart_4 : decode cX6_addPart 4 = .ok (.getfield 50, 3) := by decide +kernel
theorem dX6_addPart_7 : decode cX6_addPart 7 = .ok (.getfield 54, 3) := by decide +kernel
theorem dX6_addPart_10 : decode cX6_addPart 10 = .ok (.istore_n 1, 1) := by decide +kernel
theorem dX6_addPart_11 : decode cX6_addPart 11 = .ok (.iload_n 1, 1) := by decide +kernel
theorem dX6_addPart_12 : decode cX6_addPart 12 = .ok (.bipush 24, 2) := by decide +kernel
theorem dX6_addPart_14 : decode cX6_addPart 14 = .ok (.if_icmp .lt 6, 3) := by decide +kernel
theorem dX6_addPart_17 : decode cX6_addPart 17 = .ok (.bipush (-3), 2) := by decide +kernel
theorem dX6_addPart_19 : decode cX6_addPart 19 = .ok (.ireturn, 1) := by decide +kernel
theorem dX6_addPart_20 : decode cX6_addPart 20 = .ok (.aload_n 0, 1) := by decide +kernel
theorem dX6_addPart_21 : decode cX6_addPart 21 = .ok (.getfield 42, 3) := by decide +kernel
theorem dX6_addPart_24 : decode cX6_addPart 24 = .ok (.aload_n 0, 1) := by decide +kernel
theorem dX6_addPart_25 : decode cX6_addPart 25 = .ok (.getfield 10, 3) := by decide +kernel
theorem dX6_addPart_28 : decode cX6_addPart 28 = .ok (.invokevirtual 60, 3) := by decide +kernel
theorem dX6_addPart_31 : decode cX6_addPart 31 = .ok (.aload_n 0, 1) := by decide +kernel
theorem dX6_addPart_32 : decode cX6_addPart 32 = .ok (.getfield 10, 3) := by decide +kernel
theorem dX6_addPart_35 : decode cX6_addPart 35 = .ok (.getfield 50, 3) := by decide +kernel
theorem dX6_addPart_38 : decode cX6_addPart 38 = .ok (.invokevirtual 63, 3) := by decide +kernel
theorem dX6_addPart_41 : decode cX6_addPart 41 = .ok (.iload_n 1, 1) := by decide +kernel
theorem dX6_addPart_42 : decode cX6_addPart 42 = .ok (.ireturn, 1) := by decide +kernel
set_option maxRecDepth 20000 in
theorem ggX6_setPixel_X6_isNoPart : GoodIn wsX6_setPixel wsX6_isNoPart := goodIn_r _ [8, 2, 3, 9, 77, 78, 79, 80, 81, 82, 83, 84, 85, 86, 87, 88, 89, 90, 91, 92, 93, 94] (by decide +kernel) (by decide +kernel)
set_option maxRecDepth 20000 in
theorem gX6_setPixel_X6_isNoPart : GoodIn wsX6_setPixel (wsV RX6 66 RX6 yX6_isNoPart wsX6_isNoPart) := goodIn_app (goodIn_of _ (by decide +kernel)) ggX6_setPixel_X6_isNoPart
set_option maxRecDepth 20000 in
theorem ggX6_setPixel_X6_isNoPlaceInPart : GoodIn wsX6_setPixel wsX6_isNoPlaceInPart := goodIn_r _ [12] (by decide +kernel) (by decide +kernel)
set_option maxRecDepth 20000 in
theorem gX6_setPixel_X6_isNoPlaceInPart : GoodIn wsX6_setPixel (va_wsS RX6 70 yX6_isNoPlaceInPart wsX6_isNoPlaceInPart) := goodIn_app (goodIn_of _ (by decide +kernel)) ggX6_setPixel_X6_isNoPlaceInPart
set_option maxRecDepth 20000 in
theorem ggX6_setPixel_X0_remember : GoodIn wsX6_setPixel wsX0_remember := goodIn_r _ [17, 18, 19, 20, 21, 22, 16, 23, 24, 25, 26, 27, 28, 29, 30, 31, 32, 33, 34, 35, 36, 37, 38, 39, 40, 41, 42, 43, 44, 45, 46, 47, 48, 49, 50, 51, 52, 53, 54, 55, 95, 96, 97, 83, 84, 85, 86, 87, 88, 89, 90, 91, 92, 93, 94] (by decide +kernel) (by decide +kernel)
set_option maxRecDepth 20000 in
theorem gX6_setPixel_X0_remember : GoodIn wsX6_setPixel (wsV RX6 60 RX0 yX0_remember wsX0_remember) := goodIn_app (goodIn_of _ (by decide +kernel)) ggX6_setPixel_X0_remember
set_option maxRecDepth 20000 in
theorem ggX6_setPixel_X3_pixelAt : GoodIn wsX6_setPixel wsX3_pixelAt := goodIn_r _ [59, 60, 61, 62, 50, 63, 53, 64, 65, 66, 67, 55, 92, 93, 94] (by decide +kernel) (by decide +kernel)
set_option maxRecDepth 20000 in
theorem gX6_setPixel_X3_pixelAt : GoodIn wsX6_setPixel (wsV RX6 74 RX3 yX3_pixelAt wsX3_pixelAt) := goodIn_app (goodIn_of _ (by decide +kernel)) ggX6_setPixel_X3_pixelAt
set_option maxRecDepth 20000 in
theorem ggX6_setPixel_X3_putPixel : GoodIn wsX6_setPixel wsX3_putPixel := goodIn_r _ [71, 72, 60, 61, 62, 50, 63, 53, 64, 65, 66, 67, 55, 73, 74, 75, 76, 92, 93, 94] (by decide +kernel) (by decide +kernel)
set_option maxRecDepth 20000 in
theorem gX6_setPixel_X3_putPixel : GoodIn wsX6_setPixel (wsV RX6 78 RX3 yX3_putPixel wsX3_putPixel) := goodIn_app (goodIn_of _ (by decide +kernel)) ggX6_setPixel_X3_putPixel
theorem dX6_setPixel_0 : decode cX6_setPixel 0 = .ok (.aload_n 0, 1) := by decide +kernel
theorem dX6_setPixel_1 : decode cX6_setPixel 1 = .ok (.iload_n 1, 1) := by decide +kernel
theorem dX6_setPixel_2 : decode cX6_setPixel 2 = .ok (.invokevirtual 66, 3) := by decide +kernel
theorem dX6_setPixel_5 : decode cX6_setPixel 5 = .ok (.ifCond .eq 5, 3) := by decide +kernel
theorem dX6_setPixel_8 : decode cX6_setPixel 8 = .ok (.iconst (-1), 1) := by decide +kernel
theorem dX6_setPixel_9 : decode cX6_setPixel 9 = .ok (.ireturn, 1) := by decide +kernel
theorem dX6_setPixel_10 : decode cX6_setPixel 10 = .ok (.iload_n 2, 1) := by decide +kernel
theorem dX6_setPixel_11 : decode cX6_setPixel 11 = .ok (.iload_n 3, 1) := by decide +kernel
theorem dX6_setPixel_12 : decode cX6_setPixel 12 = .ok (.invokestatic 70, 3) := by decide +kernel
theorem dX6_setPixel_15 : decode cX6_setPixel 15 = .ok (.ifCond .ne 14, 3) := by decide +kernel
theorem dX6_setPixel_18 : decode cX6_setPixel 18 = .ok (.iload 4, 2) := by decide +kernel
theorem dX6_setPixel_20 : decode cX6_setPixel 20 = .ok (.ifCond .lt 9, 3) := by decide +kernel
theorem dX6_setPixel_23 : decode cX6_setPixel 23 = .ok (.iload 4, 2) := by decide +kernel
theorem dX6_setPixel_25 : decode cX6_setPixel 25 = .ok (.iconst 4, 1) := by decide +kernel
theorem dX6_setPixel_26 : decode cX6_setPixel 26 = .ok (.if_icmp .lt 6, 3) := by decide +kernel
theorem dX6_setPixel_29 : decode cX6_setPixel 29 = .ok (.bipush (-2), 2) := by decide +kernel
theorem dX6_setPixel_31 : decode cX6_setPixel 31 = .ok (.ireturn, 1) := by decide +kernel
theorem dX6_setPixel_32 : decode cX6_setPixel 32 = .ok (.aload_n 0, 1) := by decide +kernel
theorem dX6_setPixel_33 : decode cX6_setPixel 33 = .ok (.getfield 42, 3) := by decide +kernel
theorem dX6_setPixel_36 : decode cX6_setPixel 36 = .ok (.aload_n 0, 1) := by decide +kernel
theorem dX6_setPixel_37 : decode cX6_setPixel 37 = .ok (.getfield 10, 3) := by decide +kernel
theorem dX6_setPixel_40 : decode cX6_setPixel 40 = .ok (.invokevirtual 60, 3) := by decide +kernel
theorem dX6_setPixel_43 : decode cX6_setPixel 43 = .ok (.aload_n 0, 1) := by decide +kernel
theorem dX6_setPixel_44 : decode cX6_setPixel 44 = .ok (.getfield 10, 3) := by decide +kernel
theorem dX6_setPixel_47 : decode cX6_setPixel 47 = .ok (.getfield 50, 3) := by decide +kernel
theorem dX6_setPixel_50 : decode cX6_setPixel 50 = .ok (.iload_n 1, 1) := by decide +kernel
theorem dX6_setPixel_51 : decode cX6_setPixel 51 = .ok (.iconst 0, 1) := by decide +kernel
theorem dX6_setPixel_52 : decode cX6_setPixel 52 = .ok (.iload_n 2, 1) := by decide +kernel
theorem dX6_setPixel_53 : decode cX6_setPixel 53 = .ok (.iload_n 3, 1) := by decide +kernel
theorem dX6_setPixel_54 : decode cX6_setPixel 54 = .ok (.invokevirtual 74, 3) := by decide +kernel
theorem dX6_setPixel_57 : decode cX6_setPixel 57 = .ok (.istore 5, 2) := by decide +kernel
theorem dX6_setPixel_59 : decode cX6_setPixel 59 = .ok (.aload_n 0, 1) := by decide +kernel
theorem dX6_setPixel_60 : decode cX6_setPixel 60 = .ok (.getfield 10, 3) := by decide +kernel
theorem dX6_setPixel_63 : decode cX6_setPixel 63 = .ok (.getfield 50, 3) := by decide +kernel
theorem dX6_setPixel_66 : decode cX6_setPixel 66 = .ok (.iload_n 1, 1) := by decide +kernel
theorem dX6_setPixel_67 : decode cX6_setPixel 67 = .ok (.iload_n 2, 1) := by decide +kernel
theorem dX6_setPixel_68 : decode cX6_setPixel 68 = .ok (.iload_n 3, 1) := by decide +kernel
theorem dX6_setPixel_69 : decode cX6_setPixel 69 = .ok (.iload 4, 2) := by decide +kernel
theorem dX6_setPixel_71 : decode cX6_setPixel 71 = .ok (.invokevirtual 78, 3) := by decide +kernel
theorem dX6_setPixel_74 : decode cX6_setPixel 74 = .ok (.iload 5, 2) := by decide +kernel
theorem dX6_setPixel_76 : decode cX6_setPixel 76 = .ok (.ireturn, 1) := by decide +kernel
set_option maxRecDepth 20000 in
theorem ggX6_type_X2_append : GoodIn wsX6_type wsX2_append := goodIn_r _ [7, 8, 9, 16, 17, 18, 19, 20, 21, 22, 23, 24] (by decide +kernel) (by decide +kernel)
set_option maxRecDepth 20000 in
theorem gX6_type_X2_append : GoodIn wsX6_type (wsV RX6 85 RX2 yX2_append wsX2_append) := goodIn_app (goodIn_of _ (by decide +kernel)) ggX6_type_X2_append
theorem dX6_type_0 : decode cX6_type 0 = .ok (.aload_n 0, 1) := by decide +kernel
theorem dX6_type_1 : decode cX6_type 1 = .ok (.getfield 35, 3) := by decide +kernel
theorem dX6_type_4 : decode cX6_type 4 = .ok (.getfield 82, 3) := by decide +kernel
theorem dX6_type_7 : decode cX6_type 7 = .ok (.bipush 60, 2) := by decide +kernel
theorem dX6_type_9 : decode cX6_type 9 = .ok (.if_icmp .lt 6, 3) := by decide +kernel
theorem dX6_type_12 : decode cX6_type 12 = .ok (.bipush (-3), 2) := by decide +kernel
theorem dX6_type_14 : decode cX6_type 14 = .ok (.ireturn, 1) := by decide +kernel
theorem dX6_type_15 : decode cX6_type 15 = .ok (.aload_n 0, 1) := by decide +kernel
theorem dX6_type_16 : decode cX6_type 16 = .ok (.getfield 35, 3) := by decide +kernel
theorem dX6_type_19 : decode cX6_type 19 = .ok (.iload_n 1, 1) := by decide +kernel
theorem dX6_type_20 : decode cX6_type 20 = .ok (.invokevirtual 85, 3) := by decide +kernel
theorem dX6_type_23 : decode cX6_type 23 = .ok (.aload_n 0, 1) := by decide +kernel
theorem dX6_type_24 : decode cX6_type 24 = .ok (.getfield 35, 3) := by decide +kernel
theorem dX6_type_27 : decode cX6_type 27 = .ok (.getfield 82, 3) := by decide +kernel
theorem dX6_type_30 : decode cX6_type 30 = .ok (.ireturn, 1) := by decide +kernel
theorem dX6_clearText_0 : decode cX6_clearText 0 = .ok (.aload_n 0, 1) := by decide +kernel
theorem dX6_clearText_1 : decode cX6_clearText 1 = .ok (.getfield 35, 3) := by decide +kernel
theorem dX6_clearText_4 : decode cX6_clearText 4 = .ok (.getfield 82, 3) := by decide +kernel
theorem dX6_clearText_7 : decode cX6_clearText 7 = .ok (.istore_n 1, 1) := by decide +kernel
theorem dX6_clearText_8 : decode cX6_clearText 8 = .ok (.aload_n 0, 1) := by decide +kernel
theorem dX6_clearText_9 : decode cX6_clearText 9 = .ok (.getfield 35, 3) := by decide +kernel
theorem dX6_clearText_12 : decode cX6_clearText 12 = .ok (.iconst 0, 1) := by decide +kernel
theorem dX6_clearText_13 : decode cX6_clearText 13 = .ok (.putfield 82, 3) := by decide +kernel
theorem dX6_clearText_16 : decode cX6_clearText 16 = .ok (.iload_n 1, 1) := by decide +kernel
theorem dX6_clearText_17 : decode cX6_clearText 17 = .ok (.ireturn, 1) := by decide +kernel
set_option maxRecDepth 20000 in
theorem ggX6_draw_X6_isNoPart : GoodIn wsX6_draw wsX6_isNoPart := goodIn_r _ [12, 3, 5, 13, 108, 109, 110, 111, 112, 113, 123, 124, 125, 126, 127, 128, 129, 130, 131, 132, 133, 134] (by decide +kernel) (by decide +kernel)
set_option maxRecDepth 20000 in
theorem gX6_draw_X6_isNoPart : GoodIn wsX6_draw (wsV RX6 66 RX6 yX6_isNoPart wsX6_isNoPart) := goodIn_app (goodIn_of _ (by decide +kernel)) ggX6_draw_X6_isNoPart
set_option maxRecDepth 20000 in
theorem ggX6_draw_X2_read : GoodIn wsX6_draw wsX2_read := goodIn_r _ [18, 19, 20, 21, 22, 23, 24, 25, 26, 27, 28, 29, 17, 30, 31, 32, 33, 34, 35, 36, 37, 38, 39, 40, 41, 42, 43, 44, 45, 46, 47, 114, 115, 116, 117, 118, 119, 120, 121, 122] (by decide +kernel) (by decide +kernel)
set_option maxRecDepth 20000 in
theorem gX6_draw_X2_read : GoodIn wsX6_draw (wsV RX6 89 RX2 yX2_read wsX2_read) := goodIn_app (goodIn_of _ (by decide +kernel)) ggX6_draw_X2_read
set_option maxRecDepth 20000 in
theorem ggX6_draw_X0_remember : GoodIn wsX6_draw wsX0_remember := goodIn_r _ [52, 53, 54, 55, 56, 57, 51, 58, 59, 60, 61, 62, 63, 64, 65, 66, 67, 68, 69, 70, 71, 72, 73, 74, 75, 76, 77, 78, 79, 80, 81, 82, 83, 84, 85, 86, 87, 88, 89, 90, 135, 136, 137, 123, 124, 125, 126, 127, 128, 129, 130, 131, 132, 133, 134] (by decide +kernel) (by decide +kernel)
set_option maxRecDepth 20000 in
theorem gX6_draw_X0_remember : GoodIn wsX6_draw (wsV RX6 60 RX0 yX0_remember wsX0_remember) := goodIn_app (goodIn_of _ (by decide +kernel)) ggX6_draw_X0_remember
set_option maxRecDepth 20000 in
theorem ggX6_draw_X3_putRows : GoodIn wsX6_draw wsX3_putRows := goodIn_r _ [94, 95, 96, 97, 98, 85, 99, 88, 100, 101, 102, 103, 90, 104, 105, 106, 107, 132, 133, 134] (by decide +kernel) (by decide +kernel)
set_option maxRecDepth 20000 in
theorem gX6_draw_X3_putRows : GoodIn wsX6_draw (wsV RX6 103 RX3 yX3_putRows wsX3_putRows) := goodIn_app (goodIn_of _ (by decide +kernel)) ggX6_draw_X3_putRows
theorem dX6_draw_0 : decode cX6_draw 0 = .ok (.aload_n 0, 1) := by decide +kernel
theorem dX6_draw_1 : decode cX6_draw 1 = .ok (.iload_n 1, 1) := by decide +kernel
theorem dX6_draw_2 : decode cX6_draw 2 = .ok (.invokevirtual 66, 3) := by decide +kernel
theorem dX6_draw_5 : decode cX6_draw 5 = .ok (.ifCond .eq 5, 3) := by decide +kernel
theorem dX6_draw_8 : decode cX6_draw 8 = .ok (.iconst (-1), 1) := by decide +kernel
theorem dX6_draw_9 : decode cX6_draw 9 = .ok (.ireturn, 1) := by decide +kernel
theorem dX6_draw_10 : decode cX6_draw 10 = .ok (.aload_n 0, 1) := by decide +kernel
theorem dX6_draw_11 : decode cX6_draw 11 = .ok (.getfield 35, 3) := by decide +kernel
theorem dX6_draw_14 : decode cX6_draw 14 = .ok (.invokevirtual 89, 3) := by decide +kernel
theorem dX6_draw_17 : decode cX6_draw 17 = .ok (.istore_n 2, 1) := by decide +kernel
theorem dX6_draw_18 : decode cX6_draw 18 = .ok (.iload_n 2, 1) := by decide +kernel
theorem dX6_draw_19 : decode cX6_draw 19 = .ok (.bipush (-5), 2) := by decide +kernel
theorem dX6_draw_21 : decode cX6_draw 21 = .ok (.if_icmp .eq 8, 3) := by decide +kernel
theorem dX6_draw_24 : decode cX6_draw 24 = .ok (.bipush (-100), 2) := by decide +kernel
theorem dX6_draw_26 : decode cX6_draw 26 = .ok (.iload_n 2, 1) := by decide +kernel
theorem dX6_draw_27 : decode cX6_draw 27 = .ok (.isub, 1) := by decide +kernel
theorem dX6_draw_28 : decode cX6_draw 28 = .ok (.ireturn, 1) := by decide +kernel
theorem dX6_draw_29 : decode cX6_draw 29 = .ok (.aload_n 0, 1) := by decide +kernel
theorem dX6_draw_30 : decode cX6_draw 30 = .ok (.getfield 42, 3) := by decide +kernel
theorem dX6_draw_33 : decode cX6_draw 33 = .ok (.aload_n 0, 1) := by decide +kernel
theorem dX6_draw_34 : decode cX6_draw 34 = .ok (.getfield 10, 3) := by decide +kernel
theorem dX6_draw_37 : decode cX6_draw 37 = .ok (.invokevirtual 60, 3) := by decide +kernel
theorem dX6_draw_40 : decode cX6_draw 40 = .ok (.aload_n 0, 1) := by decide +kernel
theorem dX6_draw_41 : decode cX6_draw 41 = .ok (.getfield 35, 3) := by decide +kernel
theorem dX6_draw_44 : decode cX6_draw 44 = .ok (.getfield 93, 3) := by decide +kernel
theorem dX6_draw_47 : decode cX6_draw 47 = .ok (.iconst 1, 1) := by decide +kernel
theorem dX6_draw_48 : decode cX6_draw 48 = .ok (.iadd, 1) := by decide +kernel
theorem dX6_draw_49 : decode cX6_draw 49 = .ok (.istore_n 3, 1) := by decide +kernel
theorem dX6_draw_50 : decode cX6_draw 50 = .ok (.aload_n 0, 1) := by decide +kernel
theorem dX6_draw_51 : decode cX6_draw 51 = .ok (.getfield 10, 3) := by decide +kernel
theorem dX6_draw_54 : decode cX6_draw 54 = .ok (.getfield 50, 3) := by decide +kernel
theorem dX6_draw_57 : decode cX6_draw 57 = .ok (.iload_n 1, 1) := by decide +kernel
theorem dX6_draw_58 : decode cX6_draw 58 = .ok (.iload_n 3, 1) := by decide +kernel
theorem dX6_draw_59 : decode cX6_draw 59 = .ok (.aload_n 0, 1) := by decide +kernel
theorem dX6_draw_60 : decode cX6_draw 60 = .ok (.getfield 35, 3) := by decide +kernel
theorem dX6_draw_63 : decode cX6_draw 63 = .ok (.getfield 96, 3) := by decide +kernel
theorem dX6_draw_66 : decode cX6_draw 66 = .ok (.aload_n 0, 1) := by decide +kernel
theorem dX6_draw_67 : decode cX6_draw 67 = .ok (.getfield 35, 3) := by decide +kernel
theorem dX6_draw_70 : decode cX6_draw 70 = .ok (.getfield 100, 3) := by decide +kernel
theorem dX6_draw_73 : decode cX6_draw 73 = .ok (.invokevirtual 103, 3) := by decide +kernel
theorem dX6_draw_76 : decode cX6_draw 76 = .ok (.iload_n 3, 1) := by decide +kernel
theorem dX6_draw_77 : decode cX6_draw 77 = .ok (.ireturn, 1) := by decide +kernel
set_option maxRecDepth 20000 in
theorem ggX6_pack_X1_plan : GoodIn wsX6_pack wsX1_plan := goodIn_r _ [8, 9, 10, 11, 12, 13, 14, 15, 7, 16, 17, 18, 19, 20, 21, 22, 23, 24, 25, 26, 27, 28, 29, 30, 31, 32, 33, 34, 35, 36, 37, 38, 39, 40, 41, 42, 43, 44, 45, 46, 47, 48, 49, 50, 51, 52, 53, 54, 55, 56, 57, 58, 59, 60, 61, 62, 63, 64, 65, 66, 67, 68, 69, 70, 71, 72, 136, 137, 138, 139, 140, 141, 142, 143, 144, 145, 146, 147, 148, 149, 150, 151] (by decide +kernel) (by decide +kernel)
set_option maxRecDepth 20000 in
theorem gX6_pack_X1_plan : GoodIn wsX6_pack (wsV RX6 107 RX1 yX1_plan wsX1_plan) := goodIn_app (goodIn_of _ (by decide +kernel)) ggX6_pack_X1_plan
set_option maxRecDepth 20000 in
theorem ggX6_pack_X0_remember : GoodIn wsX6_pack wsX0_remember := goodIn_r _ [77, 78, 79, 80, 81, 82, 76, 83, 84, 85, 86, 87, 88, 89, 90, 91, 61, 92, 93, 94, 95, 96, 97, 63, 98, 99, 100, 101, 102, 103, 104, 105, 106, 107, 25, 108, 109, 35, 110, 52, 152, 153, 154, 140, 141, 142, 143, 144, 145, 146, 147, 148, 149, 150, 151] (by decide +kernel) (by decide +kernel)
set_option maxRecDepth 20000 in
theorem gX6_pack_X0_remember : GoodIn wsX6_pack (wsV RX6 60 RX0 yX0_remember wsX0_remember) := goodIn_app (goodIn_of _ (by decide +kernel)) ggX6_pack_X0_remember
set_option maxRecDepth 20000 in
theorem ggX6_pack_X1_carryOut : GoodIn wsX6_pack wsX1_carryOut := goodIn_r _ [114, 10, 57, 12, 11, 17, 115, 116, 117, 7, 118, 72, 58, 59, 60, 61, 62, 63, 64, 65, 66, 67, 9, 119, 28, 29, 25, 30, 31, 32, 33, 34, 35, 36, 37, 38, 39, 40, 41, 42, 43, 44, 45, 46, 47, 48, 49, 50, 51, 52, 120, 121, 122, 123, 13, 14, 15, 16, 18, 19, 20, 21, 124, 125, 126, 127, 128, 129, 136, 137, 138, 139, 140, 141, 142, 143, 144, 145, 146, 147, 148, 149, 150, 151] (by decide +kernel) (by decide +kernel)
set_option maxRecDepth 20000 in
theorem gX6_pack_X1_carryOut : GoodIn wsX6_pack (wsV RX6 111 RX1 yX1_carryOut wsX1_carryOut) := goodIn_app (goodIn_of _ (by decide +kernel)) ggX6_pack_X1_carryOut
theorem dX6_pack_0 : decode cX6_pack 0 = .ok (.aload_n 0, 1) := by decide +kernel
theorem dX6_pack_1 : decode cX6_pack 1 = .ok (.getfield 28, 3) := by decide +kernel
theorem dX6_pack_4 : decode cX6_pack 4 = .ok (.iload_n 1, 1) := by decide +kernel
theorem dX6_pack_5 : decode cX6_pack 5 = .ok (.invokevirtual 107, 3) := by decide +kernel
theorem dX6_pack_8 : decode cX6_pack 8 = .ok (.istore_n 2, 1) := by decide +kernel
theorem dX6_pack_9 : decode cX6_pack 9 = .ok (.iload_n 2, 1) := by decide +kernel
theorem dX6_pack_10 : decode cX6_pack 10 = .ok (.ifCond .ne 6, 3) := by decide +kernel
theorem dX6_pack_13 : decode cX6_pack 13 = .ok (.bipush (-5), 2) := by decide +kernel
theorem dX6_pack_15 : decode cX6_pack 15 = .ok (.ireturn, 1) := by decide +kernel
theorem dX6_pack_16 : decode cX6_pack 16 = .ok (.aload_n 0, 1) := by decide +kernel
theorem dX6_pack_17 : decode cX6_pack 17 = .ok (.getfield 42, 3) := by decide +kernel
theorem dX6_pack_20 : decode cX6_pack 20 = .ok (.aload_n 0, 1) := by decide +kernel
theorem dX6_pack_21 : decode cX6_pack 21 = .ok (.getfield 10, 3) := by decide +kernel
theorem dX6_pack_24 : decode cX6_pack 24 = .ok (.invokevirtual 60, 3) := by decide +kernel
theorem dX6_pack_27 : decode cX6_pack 27 = .ok (.aload_n 0, 1) := by decide +kernel
theorem dX6_pack_28 : decode cX6_pack 28 = .ok (.getfield 28, 3) := by decide +kernel
theorem dX6_pack_31 : decode cX6_pack 31 = .ok (.invokevirtual 111, 3) := by decide +kernel
theorem dX6_pack_34 : decode cX6_pack 34 = .ok (.iload_n 2, 1) := by decide +kernel
theorem dX6_pack_35 : decode cX6_pack 35 = .ok (.ireturn, 1) := by decide +kernel
set_option maxRecDepth 20000 in
theorem ggX6_setColor_X6_isNoPalette : GoodIn wsX6_setColor wsX6_isNoPalette := goodIn_r _ [6] (by decide +kernel) (by decide +kernel)
set_option maxRecDepth 20000 in
theorem gX6_setColor_X6_isNoPalette : GoodIn wsX6_setColor (va_wsS RX6 114 yX6_isNoPalette wsX6_isNoPalette) := goodIn_app (goodIn_of _ (by decide +kernel)) ggX6_setColor_X6_isNoPalette
set_option maxRecDepth 20000 in
theorem ggX6_setColor_X0_remember : GoodIn wsX6_setColor wsX0_remember := goodIn_r _ [11, 12, 13, 14, 15, 16, 10, 17, 18, 19, 20, 21, 22, 23, 24, 25, 26, 27, 28, 29, 30, 31, 32, 33, 34, 35, 36, 37, 38, 39, 40, 41, 42, 43, 44, 45, 46, 47, 48, 49, 64, 65, 66, 67, 68, 69, 70, 71, 72, 73, 74, 75, 76, 77, 78] (by decide +kernel) (by decide +kernel)
set_option maxRecDepth 20000 in
theorem gX6_setColor_X0_remember : GoodIn wsX6_setColor (wsV RX6 60 RX0 yX0_remember wsX0_remember) := goodIn_app (goodIn_of _ (by decide +kernel)) ggX6_setColor_X0_remember
set_option maxRecDepth 20000 in
theorem ggX6_setColor_X4_colorOf : GoodIn wsX6_setColor wsX4_colorOf := goodIn_r _ [53, 38, 67, 68, 69, 70, 71, 72, 73, 74, 75] (by decide +kernel) (by decide +kernel)
set_option maxRecDepth 20000 in
theorem gX6_setColor_X4_colorOf : GoodIn wsX6_setColor (wsV RX6 117 RX4 yX4_colorOf wsX4_colorOf) := goodIn_app (goodIn_of _ (by decide +kernel)) ggX6_setColor_X4_colorOf
set_option maxRecDepth 20000 in
theorem ggX6_setColor_X4_putColor : GoodIn wsX6_setColor wsX4_putColor := goodIn_r _ [57, 38, 67, 68, 69, 70, 71, 72, 73, 74, 75] (by decide +kernel) (by decide +kernel)
set_option maxRecDepth 20000 in
theorem gX6_setColor_X4_putColor : GoodIn wsX6_setColor (wsV RX6 121 RX4 yX4_putColor wsX4_putColor) := goodIn_app (goodIn_of _ (by decide +kernel)) ggX6_setColor_X4_putColor
theorem dX6_setColor_0 : decode cX6_setColor 0 = .ok (.iload_n 1, 1) := by decide +kernel
theorem dX6_setColor_1 : decode cX6_setColor 1 = .ok (.invokestatic 114, 3) := by decide +kernel
theorem dX6_setColor_4 : decode cX6_setColor 4 = .ok (.ifCond .eq 5, 3) := by decide +kernel
theorem dX6_setColor_7 : decode cX6_setColor 7 = .ok (.iconst (-1), 1) := by decide +kernel
theorem dX6_setColor_8 : decode cX6_setColor 8 = .ok (.ireturn, 1) := by decide +kernel
theorem dX6_setColor_9 : decode cX6_setColor 9 = .ok (.iload_n 2, 1) := by decide +kernel
theorem dX6_setColor_10 : decode cX6_setColor 10 = .ok (.iconst 1, 1) := by decide +kernel
theorem dX6_setColor_11 : decode cX6_setColor 11 = .ok (.if_icmp .lt 18, 3) := by decide +kernel
