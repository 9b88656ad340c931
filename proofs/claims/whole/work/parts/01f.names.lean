theorem dX7_move_11 : decode cX7_move 11 = .ok (.iload_n 3, 1) := by decide +kernel
theorem dX7_move_12 : decode cX7_move 12 = .ok (.invokestatic 109, 3) := by decide +kernel
theorem dX7_move_15 : decode cX7_move 15 = .ok (.ifCond .ne 6, 3) := by decide +kernel
theorem dX7_move_18 : decode cX7_move 18 = .ok (.bipush (-2), 2) := by decide +kernel
theorem dX7_move_20 : decode cX7_move 20 = .ok (.ireturn, 1) := by decide +kernel
theorem dX7_move_21 : decode cX7_move 21 = .ok (.aload_n 0, 1) := by decide +kernel
theorem dX7_move_22 : decode cX7_move 22 = .ok (.invokevirtual 47, 3) := by decide +kernel
theorem dX7_move_25 : decode cX7_move 25 = .ok (.aload_n 0, 1) := by decide +kernel
theorem dX7_move_26 : decode cX7_move 26 = .ok (.iload_n 1, 1) := by decide +kernel
theorem dX7_move_27 : decode cX7_move 27 = .ok (.iconst 4, 1) := by decide +kernel
theorem dX7_move_28 : decode cX7_move 28 = .ok (.iload_n 2, 1) := by decide +kernel
theorem dX7_move_29 : decode cX7_move 29 = .ok (.invokevirtual 85, 3) := by decide +kernel
theorem dX7_move_32 : decode cX7_move 32 = .ok (.aload_n 0, 1) := by decide +kernel
theorem dX7_move_33 : decode cX7_move 33 = .ok (.iload_n 1, 1) := by decide +kernel
theorem dX7_move_34 : decode cX7_move 34 = .ok (.iconst 5, 1) := by decide +kernel
theorem dX7_move_35 : decode cX7_move 35 = .ok (.iload_n 3, 1) := by decide +kernel
theorem dX7_move_36 : decode cX7_move 36 = .ok (.invokevirtual 85, 3) := by decide +kernel
theorem dX7_move_39 : decode cX7_move 39 = .ok (.aload_n 0, 1) := by decide +kernel
theorem dX7_move_40 : decode cX7_move 40 = .ok (.aload_n 0, 1) := by decide +kernel
theorem dX7_move_41 : decode cX7_move 41 = .ok (.iload_n 1, 1) := by decide +kernel
theorem dX7_move_42 : decode cX7_move 42 = .ok (.invokevirtual 119, 3) := by decide +kernel
theorem dX7_move_45 : decode cX7_move 45 = .ok (.invokevirtual 50, 3) := by decide +kernel
theorem dX7_move_48 : decode cX7_move 48 = .ok (.ireturn, 1) := by decide +kernel
set_option maxRecDepth 20000 in
theorem ggX7_set_X7_noSprite : GoodIn wsX7_set wsX7_noSprite := goodIn_r _ [6, 7, 8, 9, 5, 10, 1, 11, 12, 13, 33, 34, 35, 36, 37, 38, 39, 40, 41, 42, 43, 44] (by decide +kernel) (by decide +kernel)
set_option maxRecDepth 20000 in
theorem gX7_set_X7_noSprite : GoodIn wsX7_set (wsV RX7 116 RX7 yX7_noSprite wsX7_noSprite) := goodIn_app (goodIn_of _ (by decide +kernel)) ggX7_set_X7_noSprite
set_option maxRecDepth 20000 in
theorem ggX7_set_X7_in : GoodIn wsX7_set wsX7_in := goodIn_r _ [13] (by decide +kernel) (by decide +kernel)
set_option maxRecDepth 20000 in
theorem gX7_set_X7_in : GoodIn wsX7_set (va_wsS RX7 43 yX7_in wsX7_in) := goodIn_app (goodIn_of _ (by decide +kernel)) ggX7_set_X7_in
set_option maxRecDepth 20000 in
theorem ggX7_set_X7_begin : GoodIn wsX7_set wsX7_begin := goodIn_r _ [17, 18, 1, 33, 34, 35, 36, 37, 38, 39, 40, 41, 42, 43, 44] (by decide +kernel) (by decide +kernel)
set_option maxRecDepth 20000 in
theorem gX7_set_X7_begin : GoodIn wsX7_set (wsV RX7 47 RX7 yX7_begin wsX7_begin) := goodIn_app (goodIn_of _ (by decide +kernel)) ggX7_set_X7_begin
set_option maxRecDepth 20000 in
theorem ggX7_set_X7_of : GoodIn wsX7_set wsX7_of := goodIn_r _ [22, 1, 33, 34, 35, 36, 37, 38, 39, 40, 41, 42, 43, 44] (by decide +kernel) (by decide +kernel)
set_option maxRecDepth 20000 in
theorem gX7_set_X7_of : GoodIn wsX7_set (wsV RX7 81 RX7 yX7_of wsX7_of) := goodIn_app (goodIn_of _ (by decide +kernel)) ggX7_set_X7_of
set_option maxRecDepth 20000 in
theorem ggX7_set_X7_put : GoodIn wsX7_set wsX7_put := goodIn_r _ [26, 1, 33, 34, 35, 36, 37, 38, 39, 40, 41, 42, 43, 44] (by decide +kernel) (by decide +kernel)
set_option maxRecDepth 20000 in
theorem gX7_set_X7_put : GoodIn wsX7_set (wsV RX7 85 RX7 yX7_put wsX7_put) := goodIn_app (goodIn_of _ (by decide +kernel)) ggX7_set_X7_put
set_option maxRecDepth 20000 in
theorem ggX7_set_X7_done : GoodIn wsX7_set wsX7_done := goodIn_r _ [30, 31, 32, 18, 33, 34, 35, 36, 37, 38, 39, 40, 41, 42, 43, 44] (by decide +kernel) (by decide +kernel)
set_option maxRecDepth 20000 in
theorem gX7_set_X7_done : GoodIn wsX7_set (wsV RX7 50 RX7 yX7_done wsX7_done) := goodIn_app (goodIn_of _ (by decide +kernel)) ggX7_set_X7_done
theorem dX7_set_0 : decode cX7_set 0 = .ok (.aload_n 0, 1) := by decide +kernel
theorem dX7_set_1 : decode cX7_set 1 = .ok (.iload_n 1, 1) := by decide +kernel
theorem dX7_set_2 : decode cX7_set 2 = .ok (.invokevirtual 116, 3) := by decide +kernel
theorem dX7_set_5 : decode cX7_set 5 = .ok (.ifCond .eq 5, 3) := by decide +kernel
theorem dX7_set_8 : decode cX7_set 8 = .ok (.iconst (-1), 1) := by decide +kernel
theorem dX7_set_9 : decode cX7_set 9 = .ok (.ireturn, 1) := by decide +kernel
theorem dX7_set_10 : decode cX7_set 10 = .ok (.iload_n 2, 1) := by decide +kernel
theorem dX7_set_11 : decode cX7_set 11 = .ok (.iconst 0, 1) := by decide +kernel
theorem dX7_set_12 : decode cX7_set 12 = .ok (.iconst 3, 1) := by decide +kernel
theorem dX7_set_13 : decode cX7_set 13 = .ok (.invokestatic 43, 3) := by decide +kernel
theorem dX7_set_16 : decode cX7_set 16 = .ok (.ifCond .eq 36, 3) := by decide +kernel
theorem dX7_set_19 : decode cX7_set 19 = .ok (.iload_n 3, 1) := by decide +kernel
theorem dX7_set_20 : decode cX7_set 20 = .ok (.iconst 0, 1) := by decide +kernel
theorem dX7_set_21 : decode cX7_set 21 = .ok (.iload_n 2, 1) := by decide +kernel
theorem dX7_set_22 : decode cX7_set 22 = .ok (.ifCond .ne 14, 3) := by decide +kernel
theorem dX7_set_25 : decode cX7_set 25 = .ok (.aload_n 0, 1) := by decide +kernel
theorem dX7_set_26 : decode cX7_set 26 = .ok (.getfield 7, 3) := by decide +kernel
theorem dX7_set_29 : decode cX7_set 29 = .ok (.iconst 0, 1) := by decide +kernel
theorem dX7_set_30 : decode cX7_set 30 = .ok (.iaload, 1) := by decide +kernel
theorem dX7_set_31 : decode cX7_set 31 = .ok (.iconst 1, 1) := by decide +kernel
theorem dX7_set_32 : decode cX7_set 32 = .ok (.isub, 1) := by decide +kernel
theorem dX7_set_33 : decode cX7_set 33 = .ok (.goto 13, 3) := by decide +kernel
theorem dX7_set_36 : decode cX7_set 36 = .ok (.iload_n 2, 1) := by decide +kernel
theorem dX7_set_37 : decode cX7_set 37 = .ok (.iconst 3, 1) := by decide +kernel
theorem dX7_set_38 : decode cX7_set 38 = .ok (.if_icmp .ne 7, 3) := by decide +kernel
theorem dX7_set_41 : decode cX7_set 41 = .ok (.iconst 1, 1) := by decide +kernel
theorem dX7_set_42 : decode cX7_set 42 = .ok (.goto 4, 3) := by decide +kernel
theorem dX7_set_45 : decode cX7_set 45 = .ok (.iconst 3, 1) := by decide +kernel
theorem dX7_set_46 : decode cX7_set 46 = .ok (.invokestatic 43, 3) := by decide +kernel
theorem dX7_set_49 : decode cX7_set 49 = .ok (.ifCond .ne 6, 3) := by decide +kernel
theorem dX7_set_52 : decode cX7_set 52 = .ok (.bipush (-2), 2) := by decide +kernel
theorem dX7_set_54 : decode cX7_set 54 = .ok (.ireturn, 1) := by decide +kernel
theorem dX7_set_55 : decode cX7_set 55 = .ok (.aload_n 0, 1) := by decide +kernel
theorem dX7_set_56 : decode cX7_set 56 = .ok (.invokevirtual 47, 3) := by decide +kernel
theorem dX7_set_59 : decode cX7_set 59 = .ok (.aload_n 0, 1) := by decide +kernel
theorem dX7_set_60 : decode cX7_set 60 = .ok (.iload_n 1, 1) := by decide +kernel
theorem dX7_set_61 : decode cX7_set 61 = .ok (.iload_n 2, 1) := by decide +kernel
theorem dX7_set_62 : decode cX7_set 62 = .ok (.invokevirtual 81, 3) := by decide +kernel
theorem dX7_set_65 : decode cX7_set 65 = .ok (.istore 4, 2) := by decide +kernel
theorem dX7_set_67 : decode cX7_set 67 = .ok (.aload_n 0, 1) := by decide +kernel
theorem dX7_set_68 : decode cX7_set 68 = .ok (.iload_n 1, 1) := by decide +kernel
theorem dX7_set_69 : decode cX7_set 69 = .ok (.iload_n 2, 1) := by decide +kernel
theorem dX7_set_70 : decode cX7_set 70 = .ok (.iload_n 3, 1) := by decide +kernel
theorem dX7_set_71 : decode cX7_set 71 = .ok (.invokevirtual 85, 3) := by decide +kernel
theorem dX7_set_74 : decode cX7_set 74 = .ok (.aload_n 0, 1) := by decide +kernel
theorem dX7_set_75 : decode cX7_set 75 = .ok (.iload 4, 2) := by decide +kernel
theorem dX7_set_77 : decode cX7_set 77 = .ok (.invokevirtual 50, 3) := by decide +kernel
theorem dX7_set_80 : decode cX7_set 80 = .ok (.ireturn, 1) := by decide +kernel
theorem dX7_swaps_0 : decode cX7_swaps 0 = .ok (.iconst 0, 1) := by decide +kernel
theorem dX7_swaps_1 : decode cX7_swaps 1 = .ok (.istore_n 1, 1) := by decide +kernel
theorem dX7_swaps_2 : decode cX7_swaps 2 = .ok (.iconst 0, 1) := by decide +kernel
theorem dX7_swaps_3 : decode cX7_swaps 3 = .ok (.istore_n 2, 1) := by decide +kernel
theorem dX7_swaps_4 : decode cX7_swaps 4 = .ok (.iload_n 2, 1) := by decide +kernel
theorem dX7_swaps_5 : decode cX7_swaps 5 = .ok (.bipush 32, 2) := by decide +kernel
theorem dX7_swaps_7 : decode cX7_swaps 7 = .ok (.if_icmp .ge 30, 3) := by decide +kernel
theorem dX7_swaps_10 : decode cX7_swaps 10 = .ok (.iload_n 1, 1) := by decide +kernel
theorem dX7_swaps_11 : decode cX7_swaps 11 = .ok (.aload_n 0, 1) := by decide +kernel
theorem dX7_swaps_12 : decode cX7_swaps 12 = .ok (.getfield 7, 3) := by decide +kernel
theorem dX7_swaps_15 : decode cX7_swaps 15 = .ok (.sipush 329, 3) := by decide +kernel
theorem dX7_swaps_18 : decode cX7_swaps 18 = .ok (.iload_n 2, 1) := by decide +kernel
theorem dX7_swaps_19 : decode cX7_swaps 19 = .ok (.iadd, 1) := by decide +kernel
theorem dX7_swaps_20 : decode cX7_swaps 20 = .ok (.iaload, 1) := by decide +kernel
theorem dX7_swaps_21 : decode cX7_swaps 21 = .ok (.ifCond .le 7, 3) := by decide +kernel
theorem dX7_swaps_24 : decode cX7_swaps 24 = .ok (.iconst 1, 1) := by decide +kernel
theorem dX7_swaps_25 : decode cX7_swaps 25 = .ok (.goto 4, 3) := by decide +kernel
theorem dX7_swaps_28 : decode cX7_swaps 28 = .ok (.iconst 0, 1) := by decide +kernel
theorem dX7_swaps_29 : decode cX7_swaps 29 = .ok (.iadd, 1) := by decide +kernel
theorem dX7_swaps_30 : decode cX7_swaps 30 = .ok (.istore_n 1, 1) := by decide +kernel
theorem dX7_swaps_31 : decode cX7_swaps 31 = .ok (.iinc 2 1, 3) := by decide +kernel
theorem dX7_swaps_34 : decode cX7_swaps 34 = .ok (.goto (-30), 3) := by decide +kernel
theorem dX7_swaps_37 : decode cX7_swaps 37 = .ok (.iload_n 1, 1) := by decide +kernel
theorem dX7_swaps_38 : decode cX7_swaps 38 = .ok (.ireturn, 1) := by decide +kernel
set_option maxRecDepth 20000 in
theorem ggX7_swap_X7_noLine : GoodIn wsX7_swap wsX7_noLine := goodIn_r _ [5, 6, 7, 4, 8] (by decide +kernel) (by decide +kernel)
set_option maxRecDepth 20000 in
theorem gX7_swap_X7_noLine : GoodIn wsX7_swap (va_wsS RX7 122 yX7_noLine wsX7_noLine) := goodIn_app (goodIn_of _ (by decide +kernel)) ggX7_swap_X7_noLine
set_option maxRecDepth 20000 in
theorem ggX7_swap_X7_in : GoodIn wsX7_swap wsX7_in := goodIn_r _ [8] (by decide +kernel) (by decide +kernel)
set_option maxRecDepth 20000 in
theorem gX7_swap_X7_in : GoodIn wsX7_swap (va_wsS RX7 43 yX7_in wsX7_in) := goodIn_app (goodIn_of _ (by decide +kernel)) ggX7_swap_X7_in
set_option maxRecDepth 20000 in
theorem ggX7_swap_X7_begin : GoodIn wsX7_swap wsX7_begin := goodIn_r _ [12, 13, 1, 24, 25, 26, 27, 28, 29, 30, 31, 32, 33, 34, 35] (by decide +kernel) (by decide +kernel)
set_option maxRecDepth 20000 in
theorem gX7_swap_X7_begin : GoodIn wsX7_swap (wsV RX7 47 RX7 yX7_begin wsX7_begin) := goodIn_app (goodIn_of _ (by decide +kernel)) ggX7_swap_X7_begin
set_option maxRecDepth 20000 in
theorem ggX7_swap_X7_swaps : GoodIn wsX7_swap wsX7_swaps := goodIn_r _ [17, 1, 24, 25, 26, 27, 28, 29, 30, 31, 32, 33, 34, 35] (by decide +kernel) (by decide +kernel)
set_option maxRecDepth 20000 in
theorem gX7_swap_X7_swaps : GoodIn wsX7_swap (wsV RX7 125 RX7 yX7_swaps wsX7_swaps) := goodIn_app (goodIn_of _ (by decide +kernel)) ggX7_swap_X7_swaps
set_option maxRecDepth 20000 in
theorem ggX7_swap_X7_done : GoodIn wsX7_swap wsX7_done := goodIn_r _ [21, 22, 23, 13, 24, 25, 26, 27, 28, 29, 30, 31, 32, 33, 34, 35] (by decide +kernel) (by decide +kernel)
set_option maxRecDepth 20000 in
theorem gX7_swap_X7_done : GoodIn wsX7_swap (wsV RX7 50 RX7 yX7_done wsX7_done) := goodIn_app (goodIn_of _ (by decide +kernel)) ggX7_swap_X7_done
theorem dX7_swap_0 : decode cX7_swap 0 = .ok (.iload_n 1, 1) := by decide +kernel
theorem dX7_swap_1 : decode cX7_swap 1 = .ok (.invokestatic 122, 3) := by decide +kernel
theorem dX7_swap_4 : decode cX7_swap 4 = .ok (.ifCond .ne 29, 3) := by decide +kernel
theorem dX7_swap_7 : decode cX7_swap 7 = .ok (.iload_n 2, 1) := by decide +kernel
theorem dX7_swap_8 : decode cX7_swap 8 = .ok (.invokestatic 122, 3) := by decide +kernel
theorem dX7_swap_11 : decode cX7_swap 11 = .ok (.ifCond .ne 22, 3) := by decide +kernel
theorem dX7_swap_14 : decode cX7_swap 14 = .ok (.iload_n 3, 1) := by decide +kernel
theorem dX7_swap_15 : decode cX7_swap 15 = .ok (.iconst 0, 1) := by decide +kernel
theorem dX7_swap_16 : decode cX7_swap 16 = .ok (.iconst 3, 1) := by decide +kernel
theorem dX7_swap_17 : decode cX7_swap 17 = .ok (.invokestatic 43, 3) := by decide +kernel
theorem dX7_swap_20 : decode cX7_swap 20 = .ok (.ifCond .eq 13, 3) := by decide +kernel
theorem dX7_swap_23 : decode cX7_swap 23 = .ok (.iload 4, 2) := by decide +kernel
theorem dX7_swap_25 : decode cX7_swap 25 = .ok (.iconst 0, 1) := by decide +kernel
theorem dX7_swap_26 : decode cX7_swap 26 = .ok (.iconst 3, 1) := by decide +kernel
theorem dX7_swap_27 : decode cX7_swap 27 = .ok (.invokestatic 43, 3) := by decide +kernel
theorem dX7_swap_30 : decode cX7_swap 30 = .ok (.ifCond .ne 5, 3) := by decide +kernel
theorem dX7_swap_33 : decode cX7_swap 33 = .ok (.iconst (-1), 1) := by decide +kernel
theorem dX7_swap_34 : decode cX7_swap 34 = .ok (.ireturn, 1) := by decide +kernel
theorem dX7_swap_35 : decode cX7_swap 35 = .ok (.iload_n 1, 1) := by decide +kernel
theorem dX7_swap_36 : decode cX7_swap 36 = .ok (.iload_n 2, 1) := by decide +kernel
theorem dX7_swap_37 : decode cX7_swap 37 = .ok (.if_icmp .le 6, 3) := by decide +kernel
theorem dX7_swap_40 : decode cX7_swap 40 = .ok (.bipush (-2), 2) := by decide +kernel
theorem dX7_swap_42 : decode cX7_swap 42 = .ok (.ireturn, 1) := by decide +kernel
theorem dX7_swap_43 : decode cX7_swap 43 = .ok (.aload_n 0, 1) := by decide +kernel
theorem dX7_swap_44 : decode cX7_swap 44 = .ok (.invokevirtual 47, 3) := by decide +kernel
theorem dX7_swap_47 : decode cX7_swap 47 = .ok (.iload_n 1, 1) := by decide +kernel
theorem dX7_swap_48 : decode cX7_swap 48 = .ok (.istore 5, 2) := by decide +kernel
theorem dX7_swap_50 : decode cX7_swap 50 = .ok (.iload 5, 2) := by decide +kernel
theorem dX7_swap_52 : decode cX7_swap 52 = .ok (.iload_n 2, 1) := by decide +kernel
theorem dX7_swap_53 : decode cX7_swap 53 = .ok (.if_icmp .gt 53, 3) := by decide +kernel
theorem dX7_swap_56 : decode cX7_swap 56 = .ok (.aload_n 0, 1) := by decide +kernel
theorem dX7_swap_57 : decode cX7_swap 57 = .ok (.getfield 7, 3) := by decide +kernel
theorem dX7_swap_60 : decode cX7_swap 60 = .ok (.sipush 329, 3) := by decide +kernel
theorem dX7_swap_63 : decode cX7_swap 63 = .ok (.iload 5, 2) := by decide +kernel
theorem dX7_swap_65 : decode cX7_swap 65 = .ok (.iadd, 1) := by decide +kernel
theorem dX7_swap_66 : decode cX7_swap 66 = .ok (.iload_n 3, 1) := by decide +kernel
theorem dX7_swap_67 : decode cX7_swap 67 = .ok (.iload 4, 2) := by decide +kernel
theorem dX7_swap_69 : decode cX7_swap 69 = .ok (.if_icmp .ne 7, 3) := by decide +kernel
theorem dX7_swap_72 : decode cX7_swap 72 = .ok (.iconst 0, 1) := by decide +kernel
theorem dX7_swap_73 : decode cX7_swap 73 = .ok (.goto 26, 3) := by decide +kernel
theorem dX7_swap_76 : decode cX7_swap 76 = .ok (.iload_n 3, 1) := by decide +kernel
theorem dX7_swap_77 : decode cX7_swap 77 = .ok (.iload 4, 2) := by decide +kernel
theorem dX7_swap_79 : decode cX7_swap 79 = .ok (.if_icmp .ge 13, 3) := by decide +kernel
theorem dX7_swap_82 : decode cX7_swap 82 = .ok (.bipush 16, 2) := by decide +kernel
theorem dX7_swap_84 : decode cX7_swap 84 = .ok (.iload_n 3, 1) := by decide +kernel
theorem dX7_swap_85 : decode cX7_swap 85 = .ok (.imul, 1) := by decide +kernel
theorem dX7_swap_86 : decode cX7_swap 86 = .ok (.iload 4, 2) := by decide +kernel
theorem dX7_swap_88 : decode cX7_swap 88 = .ok (.iadd, 1) := by decide +kernel
theorem dX7_swap_89 : decode cX7_swap 89 = .ok (.goto 10, 3) := by decide +kernel
theorem dX7_swap_92 : decode cX7_swap 92 = .ok (.bipush 16, 2) := by decide +kernel
theorem dX7_swap_94 : decode cX7_swap 94 = .ok (.iload 4, 2) := by decide +kernel
theorem dX7_swap_96 : decode cX7_swap 96 = .ok (.imul, 1) := by decide +kernel
theorem dX7_swap_97 : decode cX7_swap 97 = .ok (.iload_n 3, 1) := by decide +kernel
theorem dX7_swap_98 : decode cX7_swap 98 = .ok (.iadd, 1) := by decide +kernel
theorem dX7_swap_99 : decode cX7_swap 99 = .ok (.iastore, 1) := by decide +kernel
theorem dX7_swap_100 : decode cX7_swap 100 = .ok (.iinc 5 1, 3) := by decide +kernel
theorem dX7_swap_103 : decode cX7_swap 103 = .ok (.goto (-53), 3) := by decide +kernel
theorem dX7_swap_106 : decode cX7_swap 106 = .ok (.aload_n 0, 1) := by decide +kernel
theorem dX7_swap_107 : decode cX7_swap 107 = .ok (.aload_n 0, 1) := by decide +kernel
theorem dX7_swap_108 : decode cX7_swap 108 = .ok (.invokevirtual 125, 3) := by decide +kernel
theorem dX7_swap_111 : decode cX7_swap 111 = .ok (.invokevirtual 50, 3) := by decide +kernel
theorem dX7_swap_114 : decode cX7_swap 114 = .ok (.ireturn, 1) := by decide +kernel
set_option maxRecDepth 20000 in
theorem ggX7_setLimit_X7_in : GoodIn wsX7_setLimit wsX7_in := goodIn_r _ [5] (by decide +kernel) (by decide +kernel)
set_option maxRecDepth 20000 in
theorem gX7_setLimit_X7_in : GoodIn wsX7_setLimit (va_wsS RX7 43 yX7_in wsX7_in) := goodIn_app (goodIn_of _ (by decide +kernel)) ggX7_setLimit_X7_in
set_option maxRecDepth 20000 in
theorem ggX7_setLimit_X7_begin : GoodIn wsX7_setLimit wsX7_begin := goodIn_r _ [9, 10, 1, 17, 18, 19, 20, 21, 22, 23, 24, 25, 26, 27, 28] (by decide +kernel) (by decide +kernel)
set_option maxRecDepth 20000 in
theorem gX7_setLimit_X7_begin : GoodIn wsX7_setLimit (wsV RX7 47 RX7 yX7_begin wsX7_begin) := goodIn_app (goodIn_of _ (by decide +kernel)) ggX7_setLimit_X7_begin
set_option maxRecDepth 20000 in
theorem ggX7_setLimit_X7_done : GoodIn wsX7_setLimit wsX7_done := goodIn_r _ [14, 15, 16, 10, 17, 18, 19, 20, 21, 22, 23, 24, 25, 26, 27, 28] (by decide +kernel) (by decide +kernel)
set_option maxRecDepth 20000 in
theorem gX7_setLimit_X7_done : GoodIn wsX7_setLimit (wsV RX7 50 RX7 yX7_done wsX7_done) := goodIn_app (goodIn_of _ (by decide +kernel)) ggX7_setLimit_X7_done
theorem dX7_setLimit_0 : decode cX7_setLimit 0 = .ok (.iload_n 1, 1) := by decide +kernel
theorem dX7_setLimit_1 : decode cX7_setLimit 1 = .ok (.iconst 1, 1) := by decide +kernel
theorem dX7_setLimit_2 : decode cX7_setLimit 2 = .ok (.bipush 20, 2) := by decide +kernel
theorem dX7_setLimit_4 : decode cX7_setLimit 4 = .ok (.invokestatic 43, 3) := by decide +kernel
theorem dX7_setLimit_7 : decode cX7_setLimit 7 = .ok (.ifCond .ne 6, 3) := by decide +kernel
theorem dX7_setLimit_10 : decode cX7_setLimit 10 = .ok (.bipush (-2), 2) := by decide +kernel
theorem dX7_setLimit_12 : decode cX7_setLimit 12 = .ok (.ireturn, 1) := by decide +kernel
theorem dX7_setLimit_13 : decode cX7_setLimit 13 = .ok (.aload_n 0, 1) := by decide +kernel
theorem dX7_setLimit_14 : decode cX7_setLimit 14 = .ok (.invokevirtual 47, 3) := by decide +kernel
theorem dX7_setLimit_17 : decode cX7_setLimit 17 = .ok (.aload_n 0, 1) := by decide +kernel
theorem dX7_setLimit_18 : decode cX7_setLimit 18 = .ok (.getfield 7, 3) := by decide +kernel
theorem dX7_setLimit_21 : decode cX7_setLimit 21 = .ok (.iconst 2, 1) := by decide +kernel
theorem dX7_setLimit_22 : decode cX7_setLimit 22 = .ok (.iaload, 1) := by decide +kernel
theorem dX7_setLimit_23 : decode cX7_setLimit 23 = .ok (.istore_n 2, 1) := by decide +kernel
theorem dX7_setLimit_24 : decode cX7_setLimit 24 = .ok (.aload_n 0, 1) := by decide +kernel
theorem dX7_setLimit_25 : decode cX7_setLimit 25 = .ok (.getfield 7, 3) := by decide +kernel
theorem dX7_setLimit_28 : decode cX7_setLimit 28 = .ok (.iconst 2, 1) := by decide +kernel
theorem dX7_setLimit_29 : decode cX7_setLimit 29 = .ok (.iload_n 1, 1) := by decide +kernel
theorem dX7_setLimit_30 : decode cX7_setLimit 30 = .ok (.iastore, 1) := by decide +kernel
theorem dX7_setLimit_31 : decode cX7_setLimit 31 = .ok (.aload_n 0, 1) := by decide +kernel
theorem dX7_setLimit_32 : decode cX7_setLimit 32 = .ok (.iload_n 2, 1) := by decide +kernel
theorem dX7_setLimit_33 : decode cX7_setLimit 33 = .ok (.invokevirtual 50, 3) := by decide +kernel
theorem dX7_setLimit_36 : decode cX7_setLimit 36 = .ok (.ireturn, 1) := by decide +kernel
set_option maxRecDepth 20000 in
theorem ggX7_setStride_X7_in : GoodIn wsX7_setStride wsX7_in := goodIn_r _ [5] (by decide +kernel) (by decide +kernel)
set_option maxRecDepth 20000 in
theorem gX7_setStride_X7_in : GoodIn wsX7_setStride (va_wsS RX7 43 yX7_in wsX7_in) := goodIn_app (goodIn_of _ (by decide +kernel)) ggX7_setStride_X7_in
set_option maxRecDepth 20000 in
theorem ggX7_setStride_X7_begin : GoodIn wsX7_setStride wsX7_begin := goodIn_r _ [9, 10, 1, 17, 18, 19, 20, 21, 22, 23, 24, 25, 26, 27, 28] (by decide +kernel) (by decide +kernel)
set_option maxRecDepth 20000 in
theorem gX7_setStride_X7_begin : GoodIn wsX7_setStride (wsV RX7 47 RX7 yX7_begin wsX7_begin) := goodIn_app (goodIn_of _ (by decide +kernel)) ggX7_setStride_X7_begin
set_option maxRecDepth 20000 in
theorem ggX7_setStride_X7_done : GoodIn wsX7_setStride wsX7_done := goodIn_r _ [14, 15, 16, 10, 17, 18, 19, 20, 21, 22, 23, 24, 25, 26, 27, 28] (by decide +kernel) (by decide +kernel)
set_option maxRecDepth 20000 in
theorem gX7_setStride_X7_done : GoodIn wsX7_setStride (wsV RX7 50 RX7 yX7_done wsX7_done) := goodIn_app (goodIn_of _ (by decide +kernel)) ggX7_setStride_X7_done
theorem dX7_setStride_0 : decode cX7_setStride 0 = .ok (.iload_n 1, 1) := by decide +kernel
theorem dX7_setStride_1 : decode cX7_setStride 1 = .ok (.iconst 0, 1) := by decide +kernel
theorem dX7_setStride_2 : decode cX7_setStride 2 = .ok (.bipush 19, 2) := by decide +kernel
theorem dX7_setStride_4 : decode cX7_setStride 4 = .ok (.invokestatic 43, 3) := by decide +kernel
theorem dX7_setStride_7 : decode cX7_setStride 7 = .ok (.ifCond .ne 6, 3) := by decide +kernel
theorem dX7_setStride_10 : decode cX7_setStride 10 = .ok (.bipush (-2), 2) := by decide +kernel
theorem dX7_setStride_12 : decode cX7_setStride 12 = .ok (.ireturn, 1) := by decide +kernel
theorem dX7_setStride_13 : decode cX7_setStride 13 = .ok (.aload_n 0, 1) := by decide +kernel
theorem dX7_setStride_14 : decode cX7_setStride 14 = .ok (.invokevirtual 47, 3) := by decide +kernel
theorem dX7_setStride_17 : decode cX7_setStride 17 = .ok (.aload_n 0, 1) := by decide +kernel
theorem dX7_setStride_18 : decode cX7_setStride 18 = .ok (.getfield 7, 3) := by decide +kernel
theorem dX7_setStride_21 : decode cX7_setStride 21 = .ok (.iconst 3, 1) := by decide +kernel
theorem dX7_setStride_22 : decode cX7_setStride 22 = .ok (.iaload, 1) := by decide +kernel
theorem dX7_setStride_23 : decode cX7_setStride 23 = .ok (.istore_n 2, 1) := by decide +kernel
theorem dX7_setStride_24 : decode cX7_setStride 24 = .ok (.aload_n 0, 1) := by decide +kernel
theorem dX7_setStride_25 : decode cX7_setStride 25 = .ok (.getfield 7, 3) := by decide +kernel
theorem dX7_setStride_28 : decode cX7_setStride 28 = .ok (.iconst 3, 1) := by decide +kernel
theorem dX7_setStride_29 : decode cX7_setStride 29 = .ok (.iload_n 1, 1) := by decide +kernel
theorem dX7_setStride_30 : decode cX7_setStride 30 = .ok (.iastore, 1) := by decide +kernel
theorem dX7_setStride_31 : decode cX7_setStride 31 = .ok (.aload_n 0, 1) := by decide +kernel
theorem dX7_setStride_32 : decode cX7_setStride 32 = .ok (.iload_n 2, 1) := by decide +kernel
theorem dX7_setStride_33 : decode cX7_setStride 33 = .ok (.invokevirtual 50, 3) := by decide +kernel
theorem dX7_setStride_36 : decode cX7_setStride 36 = .ok (.ireturn, 1) := by decide +kernel
set_option maxRecDepth 20000 in
theorem ggX7_next_X7_in : GoodIn wsX7_next wsX7_in := goodIn_r _ [7] (by decide +kernel) (by decide +kernel)
set_option maxRecDepth 20000 in
theorem gX7_next_X7_in : GoodIn wsX7_next (va_wsS RX7 43 yX7_in wsX7_in) := goodIn_app (goodIn_of _ (by decide +kernel)) ggX7_next_X7_in
set_option maxRecDepth 20000 in
theorem ggX7_next_X7_begin : GoodIn wsX7_next wsX7_begin := goodIn_r _ [11, 12, 2, 19, 20, 21, 22, 23, 24, 25, 26, 27, 28, 29, 30] (by decide +kernel) (by decide +kernel)
set_option maxRecDepth 20000 in
theorem gX7_next_X7_begin : GoodIn wsX7_next (wsV RX7 47 RX7 yX7_begin wsX7_begin) := goodIn_app (goodIn_of _ (by decide +kernel)) ggX7_next_X7_begin
set_option maxRecDepth 20000 in
theorem ggX7_next_X7_done : GoodIn wsX7_next wsX7_done := goodIn_r _ [16, 17, 18, 12, 19, 20, 21, 22, 23, 24, 25, 26, 27, 28, 29, 30] (by decide +kernel) (by decide +kernel)
set_option maxRecDepth 20000 in
theorem gX7_next_X7_done : GoodIn wsX7_next (wsV RX7 50 RX7 yX7_done wsX7_done) := goodIn_app (goodIn_of _ (by decide +kernel)) ggX7_next_X7_done
theorem dX7_next_0 : decode cX7_next 0 = .ok (.iload_n 1, 1) := by decide +kernel
theorem dX7_next_1 : decode cX7_next 1 = .ok (.iconst 1, 1) := by decide +kernel
theorem dX7_next_2 : decode cX7_next 2 = .ok (.ldc 128, 2) := by decide +kernel
theorem dX7_next_4 : decode cX7_next 4 = .ok (.invokestatic 43, 3) := by decide +kernel
theorem dX7_next_7 : decode cX7_next 7 = .ok (.ifCond .ne 6, 3) := by decide +kernel
theorem dX7_next_10 : decode cX7_next 10 = .ok (.bipush (-2), 2) := by decide +kernel
theorem dX7_next_12 : decode cX7_next 12 = .ok (.ireturn, 1) := by decide +kernel
theorem dX7_next_13 : decode cX7_next 13 = .ok (.aload_n 0, 1) := by decide +kernel
theorem dX7_next_14 : decode cX7_next 14 = .ok (.getfield 7, 3) := by decide +kernel
theorem dX7_next_17 : decode cX7_next 17 = .ok (.iconst 4, 1) := by decide +kernel
theorem dX7_next_18 : decode cX7_next 18 = .ok (.iaload, 1) := by decide +kernel
theorem dX7_next_19 : decode cX7_next 19 = .ok (.iload_n 1, 1) := by decide +kernel
theorem dX7_next_20 : decode cX7_next 20 = .ok (.iadd, 1) := by decide +kernel
theorem dX7_next_21 : decode cX7_next 21 = .ok (.ldc 129, 2) := by decide +kernel
theorem dX7_next_23 : decode cX7_next 23 = .ok (.if_icmp .le 6, 3) := by decide +kernel
theorem dX7_next_26 : decode cX7_next 26 = .ok (.bipush (-4), 2) := by decide +kernel
theorem dX7_next_28 : decode cX7_next 28 = .ok (.ireturn, 1) := by decide +kernel
theorem dX7_next_29 : decode cX7_next 29 = .ok (.aload_n 0, 1) := by decide +kernel
theorem dX7_next_30 : decode cX7_next 30 = .ok (.invokevirtual 47, 3) := by decide +kernel
theorem dX7_next_33 : decode cX7_next 33 = .ok (.aload_n 0, 1) := by decide +kernel
theorem dX7_next_34 : decode cX7_next 34 = .ok (.getfield 7, 3) := by decide +kernel
theorem dX7_next_37 : decode cX7_next 37 = .ok (.iconst 4, 1) := by decide +kernel
theorem dX7_next_38 : decode cX7_next 38 = .ok (.dup2, 1) := by decide +kernel
theorem dX7_next_39 : decode cX7_next 39 = .ok (.iaload, 1) := by decide +kernel
theorem dX7_next_40 : decode cX7_next 40 = .ok (.iload_n 1, 1) := by decide +kernel
theorem dX7_next_41 : decode cX7_next 41 = .ok (.iadd, 1) := by decide +kernel
theorem dX7_next_42 : decode cX7_next 42 = .ok (.iastore, 1) := by decide +kernel
theorem dX7_next_43 : decode cX7_next 43 = .ok (.aload_n 0, 1) := by decide +kernel
theorem dX7_next_44 : decode cX7_next 44 = .ok (.aload_n 0, 1) := by decide +kernel
theorem dX7_next_45 : decode cX7_next 45 = .ok (.getfield 7, 3) := by decide +kernel
theorem dX7_next_48 : decode cX7_next 48 = .ok (.iconst 4, 1) := by decide +kernel
theorem dX7_next_49 : decode cX7_next 49 = .ok (.iaload, 1) := by decide +kernel
theorem dX7_next_50 : decode cX7_next 50 = .ok (.invokevirtual 50, 3) := by decide +kernel
theorem dX7_next_53 : decode cX7_next 53 = .ok (.ireturn, 1) := by decide +kernel
set_option maxRecDepth 20000 in
theorem ggX7_isWanted_X7_of : GoodIn wsX7_isWanted wsX7_of := goodIn_r _ [5, 6, 14, 15, 16, 17, 18, 19, 20, 21, 22, 23, 24, 25] (by decide +kernel) (by decide +kernel)
set_option maxRecDepth 20000 in
theorem gX7_isWanted_X7_of : GoodIn wsX7_isWanted (wsV RX7 81 RX7 yX7_of wsX7_of) := goodIn_app (goodIn_of _ (by decide +kernel)) ggX7_isWanted_X7_of
set_option maxRecDepth 20000 in
theorem ggX7_isWanted_X7_isOver : GoodIn wsX7_isWanted wsX7_isOver := goodIn_r _ [10, 1, 2, 3, 4, 5, 6, 11, 12, 13, 14, 15, 16, 17, 18, 19, 20, 21, 22, 23, 24, 25] (by decide +kernel) (by decide +kernel)
set_option maxRecDepth 20000 in
theorem gX7_isWanted_X7_isOver : GoodIn wsX7_isWanted (wsV RX7 113 RX7 yX7_isOver wsX7_isOver) := goodIn_app (goodIn_of _ (by decide +kernel)) ggX7_isWanted_X7_isOver
theorem dX7_isWanted_0 : decode cX7_isWanted 0 = .ok (.aload_n 0, 1) := by decide +kernel
theorem dX7_isWanted_1 : decode cX7_isWanted 1 = .ok (.iload_n 2, 1) := by decide +kernel
theorem dX7_isWanted_2 : decode cX7_isWanted 2 = .ok (.iconst 3, 1) := by decide +kernel
theorem dX7_isWanted_3 : decode cX7_isWanted 3 = .ok (.invokevirtual 81, 3) := by decide +kernel
theorem dX7_isWanted_6 : decode cX7_isWanted 6 = .ok (.iconst 1, 1) := by decide +kernel
theorem dX7_isWanted_7 : decode cX7_isWanted 7 = .ok (.if_icmp .ne 16, 3) := by decide +kernel
theorem dX7_isWanted_10 : decode cX7_isWanted 10 = .ok (.aload_n 0, 1) := by decide +kernel
theorem dX7_isWanted_11 : decode cX7_isWanted 11 = .ok (.iload_n 2, 1) := by decide +kernel
theorem dX7_isWanted_12 : decode cX7_isWanted 12 = .ok (.iload_n 1, 1) := by decide +kernel
theorem dX7_isWanted_13 : decode cX7_isWanted 13 = .ok (.invokevirtual 113, 3) := by decide +kernel
theorem dX7_isWanted_16 : decode cX7_isWanted 16 = .ok (.ifCond .eq 7, 3) := by decide +kernel
theorem dX7_isWanted_19 : decode cX7_isWanted 19 = .ok (.iconst 1, 1) := by decide +kernel
theorem dX7_isWanted_20 : decode cX7_isWanted 20 = .ok (.goto 4, 3) := by decide +kernel
theorem dX7_isWanted_23 : decode cX7_isWanted 23 = .ok (.iconst 0, 1) := by decide +kernel
theorem dX7_isWanted_24 : decode cX7_isWanted 24 = .ok (.ireturn, 1) := by decide +kernel
set_option maxRecDepth 20000 in
theorem ggX7_wanted_X7_sprites : GoodIn wsX7_wanted wsX7_sprites := goodIn_r _ [5, 6, 22, 23, 24, 25, 26, 27, 28, 29, 30, 31, 32, 33] (by decide +kernel) (by decide +kernel)
set_option maxRecDepth 20000 in
theorem gX7_wanted_X7_sprites : GoodIn wsX7_wanted (wsV RX7 54 RX7 yX7_sprites wsX7_sprites) := goodIn_app (goodIn_of _ (by decide +kernel)) ggX7_wanted_X7_sprites
set_option maxRecDepth 20000 in
theorem ggX7_wanted_X7_isWanted : GoodIn wsX7_wanted wsX7_isWanted := goodIn_r _ [10, 11, 12, 13, 4, 14, 6, 15, 16, 17, 18, 19, 20, 21, 22, 23, 24, 25, 26, 27, 28, 29, 30, 31, 32, 33] (by decide +kernel) (by decide +kernel)
set_option maxRecDepth 20000 in
theorem gX7_wanted_X7_isWanted : GoodIn wsX7_wanted (wsV RX7 130 RX7 yX7_isWanted wsX7_isWanted) := goodIn_app (goodIn_of _ (by decide +kernel)) ggX7_wanted_X7_isWanted
theorem dX7_wanted_0 : decode cX7_wanted 0 = .ok (.iconst 0, 1) := by decide +kernel
theorem dX7_wanted_1 : decode cX7_wanted 1 = .ok (.istore_n 2, 1) := by decide +kernel
theorem dX7_wanted_2 : decode cX7_wanted 2 = .ok (.iconst 0, 1) := by decide +kernel
theorem dX7_wanted_3 : decode cX7_wanted 3 = .ok (.istore_n 3, 1) := by decide +kernel
theorem dX7_wanted_4 : decode cX7_wanted 4 = .ok (.iload_n 3, 1) := by decide +kernel
theorem dX7_wanted_5 : decode cX7_wanted 5 = .ok (.aload_n 0, 1) := by decide +kernel
theorem dX7_wanted_6 : decode cX7_wanted 6 = .ok (.invokevirtual 54, 3) := by decide +kernel
theorem dX7_wanted_9 : decode cX7_wanted 9 = .ok (.if_icmp .ge 26, 3) := by decide +kernel
theorem dX7_wanted_12 : decode cX7_wanted 12 = .ok (.iload_n 2, 1) := by decide +kernel
theorem dX7_wanted_13 : decode cX7_wanted 13 = .ok (.aload_n 0, 1) := by decide +kernel
theorem dX7_wanted_14 : decode cX7_wanted 14 = .ok (.iload_n 1, 1) := by decide +kernel
theorem dX7_wanted_15 : decode cX7_wanted 15 = .ok (.iload_n 3, 1) := by decide +kernel
theorem dX7_wanted_16 : decode cX7_wanted 16 = .ok (.invokevirtual 130, 3) := by decide +kernel
theorem dX7_wanted_19 : decode cX7_wanted 19 = .ok (.ifCond .eq 7, 3) := by decide +kernel
theorem dX7_wanted_22 : decode cX7_wanted 22 = .ok (.iconst 1, 1) := by decide +kernel
theorem dX7_wanted_23 : decode cX7_wanted 23 = .ok (.goto 4, 3) := by decide +kernel
theorem dX7_wanted_26 : decode cX7_wanted 26 = .ok (.iconst 0, 1) := by decide +kernel
theorem dX7_wanted_27 : decode cX7_wanted 27 = .ok (.iadd, 1) := by decide +kernel
theorem dX7_wanted_28 : decode cX7_wanted 28 = .ok (.istore_n 2, 1) := by decide +kernel
theorem dX7_wanted_29 : decode cX7_wanted 29 = .ok (.iinc 3 1, 3) := by decide +kernel
theorem dX7_wanted_32 : decode cX7_wanted 32 = .ok (.goto (-28), 3) := by decide +kernel
theorem dX7_wanted_35 : decode cX7_wanted 35 = .ok (.iload_n 2, 1) := by decide +kernel
theorem dX7_wanted_36 : decode cX7_wanted 36 = .ok (.ireturn, 1) := by decide +kernel
set_option maxRecDepth 20000 in
theorem ggX7_turnOf_X7_isWanted : GoodIn wsX7_turnOf wsX7_isWanted := goodIn_r _ [6, 7, 8, 9, 5, 10, 1, 11, 12, 13, 14, 15, 16, 17, 22, 23, 24, 25, 26, 27, 28, 29, 30, 31, 32, 33] (by decide +kernel) (by decide +kernel)
set_option maxRecDepth 20000 in
theorem gX7_turnOf_X7_isWanted : GoodIn wsX7_turnOf (wsV RX7 130 RX7 yX7_isWanted wsX7_isWanted) := goodIn_app (goodIn_of _ (by decide +kernel)) ggX7_turnOf_X7_isWanted
set_option maxRecDepth 20000 in
theorem ggX7_turnOf_X7_sprites : GoodIn wsX7_turnOf wsX7_sprites := goodIn_r _ [21, 1, 22, 23, 24, 25, 26, 27, 28, 29, 30, 31, 32, 33] (by decide +kernel) (by decide +kernel)
set_option maxRecDepth 20000 in
theorem gX7_turnOf_X7_sprites : GoodIn wsX7_turnOf (wsV RX7 54 RX7 yX7_sprites wsX7_sprites) := goodIn_app (goodIn_of _ (by decide +kernel)) ggX7_turnOf_X7_sprites
theorem dX7_turnOf_0 : decode cX7_turnOf 0 = .ok (.aload_n 0, 1) := by decide +kernel
theorem dX7_turnOf_1 : decode cX7_turnOf 1 = .ok (.iload_n 1, 1) := by decide +kernel
theorem dX7_turnOf_2 : decode cX7_turnOf 2 = .ok (.iload_n 2, 1) := by decide +kernel
theorem dX7_turnOf_3 : decode cX7_turnOf 3 = .ok (.invokevirtual 130, 3) := by decide +kernel
theorem dX7_turnOf_6 : decode cX7_turnOf 6 = .ok (.ifCond .ne 6, 3) := by decide +kernel
theorem dX7_turnOf_9 : decode cX7_turnOf 9 = .ok (.bipush (-5), 2) := by decide +kernel
theorem dX7_turnOf_11 : decode cX7_turnOf 11 = .ok (.ireturn, 1) := by decide +kernel
theorem dX7_turnOf_12 : decode cX7_turnOf 12 = .ok (.aload_n 0, 1) := by decide +kernel
theorem dX7_turnOf_13 : decode cX7_turnOf 13 = .ok (.invokevirtual 54, 3) := by decide +kernel
theorem dX7_turnOf_16 : decode cX7_turnOf 16 = .ok (.istore 4, 2) := by decide +kernel
theorem dX7_turnOf_18 : decode cX7_turnOf 18 = .ok (.iload_n 3, 1) := by decide +kernel
theorem dX7_turnOf_19 : decode cX7_turnOf 19 = .ok (.aload_n 0, 1) := by decide +kernel
theorem dX7_turnOf_20 : decode cX7_turnOf 20 = .ok (.getfield 7, 3) := by decide +kernel
theorem dX7_turnOf_23 : decode cX7_turnOf 23 = .ok (.iconst 3, 1) := by decide +kernel
theorem dX7_turnOf_24 : decode cX7_turnOf 24 = .ok (.iaload, 1) := by decide +kernel
theorem dX7_turnOf_25 : decode cX7_turnOf 25 = .ok (.imul, 1) := by decide +kernel
theorem dX7_turnOf_26 : decode cX7_turnOf 26 = .ok (.iload 4, 2) := by decide +kernel
theorem dX7_turnOf_28 : decode cX7_turnOf 28 = .ok (.irem, 1) := by decide +kernel
theorem dX7_turnOf_29 : decode cX7_turnOf 29 = .ok (.istore 5, 2) := by decide +kernel
theorem dX7_turnOf_31 : decode cX7_turnOf 31 = .ok (.iconst 0, 1) := by decide +kernel
theorem dX7_turnOf_32 : decode cX7_turnOf 32 = .ok (.istore 6, 2) := by decide +kernel
theorem dX7_turnOf_34 : decode cX7_turnOf 34 = .ok (.iload 5, 2) := by decide +kernel
theorem dX7_turnOf_36 : decode cX7_turnOf 36 = .ok (.istore 7, 2) := by decide +kernel
theorem dX7_turnOf_38 : decode cX7_turnOf 38 = .ok (.iload 7, 2) := by decide +kernel
theorem dX7_turnOf_40 : decode cX7_turnOf 40 = .ok (.iload 4, 2) := by decide +kernel
theorem dX7_turnOf_42 : decode cX7_turnOf 42 = .ok (.irem, 1) := by decide +kernel
theorem dX7_turnOf_43 : decode cX7_turnOf 43 = .ok (.iload_n 2, 1) := by decide +kernel
theorem dX7_turnOf_44 : decode cX7_turnOf 44 = .ok (.if_icmp .eq 32, 3) := by decide +kernel
theorem dX7_turnOf_47 : decode cX7_turnOf 47 = .ok (.iload 6, 2) := by decide +kernel
theorem dX7_turnOf_49 : decode cX7_turnOf 49 = .ok (.aload_n 0, 1) := by decide +kernel
theorem dX7_turnOf_50 : decode cX7_turnOf 50 = .ok (.iload_n 1, 1) := by decide +kernel
theorem dX7_turnOf_51 : decode cX7_turnOf 51 = .ok (.iload 7, 2) := by decide +kernel
theorem dX7_turnOf_53 : decode cX7_turnOf 53 = .ok (.iload 4, 2) := by decide +kernel
theorem dX7_turnOf_55 : decode cX7_turnOf 55 = .ok (.irem, 1) := by decide +kernel
theorem dX7_turnOf_56 : decode cX7_turnOf 56 = .ok (.invokevirtual 130, 3) := by decide +kernel
theorem dX7_turnOf_59 : decode cX7_turnOf 59 = .ok (.ifCond .eq 7, 3) := by decide +kernel
theorem dX7_turnOf_62 : decode cX7_turnOf 62 = .ok (.iconst 1, 1) := by decide +kernel
theorem dX7_turnOf_63 : decode cX7_turnOf 63 = .ok (.goto 4, 3) := by decide +kernel
theorem dX7_turnOf_66 : decode cX7_turnOf 66 = .ok (.iconst 0, 1) := by decide +kernel
theorem dX7_turnOf_67 : decode cX7_turnOf 67 = .ok (.iadd, 1) := by decide +kernel
theorem dX7_turnOf_68 : decode cX7_turnOf 68 = .ok (.istore 6, 2) := by decide +kernel
theorem dX7_turnOf_70 : decode cX7_turnOf 70 = .ok (.iinc 7 1, 3) := by decide +kernel
theorem dX7_turnOf_73 : decode cX7_turnOf 73 = .ok (.goto (-35), 3) := by decide +kernel
theorem dX7_turnOf_76 : decode cX7_turnOf 76 = .ok (.iload 6, 2) := by decide +kernel
theorem dX7_turnOf_78 : decode cX7_turnOf 78 = .ok (.aload_n 0, 1) := by decide +kernel
theorem dX7_turnOf_79 : decode cX7_turnOf 79 = .ok (.getfield 7, 3) := by decide +kernel
theorem dX7_turnOf_82 : decode cX7_turnOf 82 = .ok (.iconst 2, 1) := by decide +kernel
theorem dX7_turnOf_83 : decode cX7_turnOf 83 = .ok (.iaload, 1) := by decide +kernel
theorem dX7_turnOf_84 : decode cX7_turnOf 84 = .ok (.if_icmp .ge 8, 3) := by decide +kernel
theorem dX7_turnOf_87 : decode cX7_turnOf 87 = .ok (.iload 6, 2) := by decide +kernel
theorem dX7_turnOf_89 : decode cX7_turnOf 89 = .ok (.goto 5, 3) := by decide +kernel
theorem dX7_turnOf_92 : decode cX7_turnOf 92 = .ok (.bipush (-5), 2) := by decide +kernel
theorem dX7_turnOf_94 : decode cX7_turnOf 94 = .ok (.ireturn, 1) := by decide +kernel
set_option maxRecDepth 20000 in
theorem ggX7_isShown_X7_turnOf : GoodIn wsX7_isShown wsX7_turnOf := goodIn_r _ [6, 1, 7, 8, 9, 5, 10, 11, 12, 13, 14, 15, 16, 17, 18, 19, 20, 21, 22, 23, 24, 25, 26, 27, 28, 29, 30, 31, 32, 33, 34, 35, 36, 37] (by decide +kernel) (by decide +kernel)
set_option maxRecDepth 20000 in
theorem gX7_isShown_X7_turnOf : GoodIn wsX7_isShown (wsV RX7 133 RX7 yX7_turnOf wsX7_turnOf) := goodIn_app (goodIn_of _ (by decide +kernel)) ggX7_isShown_X7_turnOf
theorem dX7_isShown_0 : decode cX7_isShown 0 = .ok (.aload_n 0, 1) := by decide +kernel
theorem dX7_isShown_1 : decode cX7_isShown 1 = .ok (.iload_n 1, 1) := by decide +kernel
theorem dX7_isShown_2 : decode cX7_isShown 2 = .ok (.iload_n 2, 1) := by decide +kernel
theorem dX7_isShown_3 : decode cX7_isShown 3 = .ok (.aload_n 0, 1) := by decide +kernel
theorem dX7_isShown_4 : decode cX7_isShown 4 = .ok (.getfield 7, 3) := by decide +kernel
theorem dX7_isShown_7 : decode cX7_isShown 7 = .ok (.iconst 4, 1) := by decide +kernel
theorem dX7_isShown_8 : decode cX7_isShown 8 = .ok (.iaload, 1) := by decide +kernel
theorem dX7_isShown_9 : decode cX7_isShown 9 = .ok (.invokevirtual 133, 3) := by decide +kernel
theorem dX7_isShown_12 : decode cX7_isShown 12 = .ok (.ifCond .lt 7, 3) := by decide +kernel
theorem dX7_isShown_15 : decode cX7_isShown 15 = .ok (.iconst 1, 1) := by decide +kernel
theorem dX7_isShown_16 : decode cX7_isShown 16 = .ok (.goto 4, 3) := by decide +kernel
theorem dX7_isShown_19 : decode cX7_isShown 19 = .ok (.iconst 0, 1) := by decide +kernel
theorem dX7_isShown_20 : decode cX7_isShown 20 = .ok (.ireturn, 1) := by decide +kernel
set_option maxRecDepth 20000 in
theorem ggX7_pixelAt_X7_of : GoodIn wsX7_pixelAt wsX7_of := goodIn_r _ [5, 6, 22, 23, 24, 25, 26, 27, 28, 29, 30, 31, 32, 33] (by decide +kernel) (by decide +kernel)
set_option maxRecDepth 20000 in
theorem gX7_pixelAt_X7_of : GoodIn wsX7_pixelAt (wsV RX7 81 RX7 yX7_of wsX7_of) := goodIn_app (goodIn_of _ (by decide +kernel)) ggX7_pixelAt_X7_of
set_option maxRecDepth 20000 in
theorem ggX7_pixelAt_X7_in : GoodIn wsX7_pixelAt wsX7_in := goodIn_r _ [9] (by decide +kernel) (by decide +kernel)
set_option maxRecDepth 20000 in
theorem gX7_pixelAt_X7_in : GoodIn wsX7_pixelAt (va_wsS RX7 43 yX7_in wsX7_in) := goodIn_app (goodIn_of _ (by decide +kernel)) ggX7_pixelAt_X7_in
set_option maxRecDepth 20000 in
theorem ggX7_pixelAt_X7_isOver : GoodIn wsX7_pixelAt wsX7_isOver := goodIn_r _ [13, 1, 2, 3, 4, 5, 6, 7, 8, 9, 22, 23, 24, 25, 26, 27, 28, 29, 30, 31, 32, 33] (by decide +kernel) (by decide +kernel)
set_option maxRecDepth 20000 in
theorem gX7_pixelAt_X7_isOver : GoodIn wsX7_pixelAt (wsV RX7 113 RX7 yX7_isOver wsX7_isOver) := goodIn_app (goodIn_of _ (by decide +kernel)) ggX7_pixelAt_X7_isOver
set_option maxRecDepth 20000 in
theorem ggX7_pixelAt_X7_flipped : GoodIn wsX7_pixelAt wsX7_flipped := goodIn_r _ [17, 18, 19, 20, 4, 21, 6, 22, 23, 24, 25, 26, 27, 28, 29, 30, 31, 32, 33] (by decide +kernel) (by decide +kernel)
set_option maxRecDepth 20000 in
theorem gX7_pixelAt_X7_flipped : GoodIn wsX7_pixelAt (wsV RX7 62 RX7 yX7_flipped wsX7_flipped) := goodIn_app (goodIn_of _ (by decide +kernel)) ggX7_pixelAt_X7_flipped
theorem dX7_pixelAt_0 : decode cX7_pixelAt 0 = .ok (.iload_n 3, 1) := by decide +kernel
theorem dX7_pixelAt_1 : decode cX7_pixelAt 1 = .ok (.aload_n 0, 1) := by decide +kernel
theorem dX7_pixelAt_2 : decode cX7_pixelAt 2 = .ok (.iload_n 1, 1) := by decide +kernel
theorem dX7_pixelAt_3 : decode cX7_pixelAt 3 = .ok (.iconst 4, 1) := by decide +kernel
theorem dX7_pixelAt_4 : decode cX7_pixelAt 4 = .ok (.invokevirtual 81, 3) := by decide +kernel
theorem dX7_pixelAt_7 : decode cX7_pixelAt 7 = .ok (.isub, 1) := by decide +kernel
theorem dX7_pixelAt_8 : decode cX7_pixelAt 8 = .ok (.istore 4, 2) := by decide +kernel
theorem dX7_pixelAt_10 : decode cX7_pixelAt 10 = .ok (.iload 4, 2) := by decide +kernel
theorem dX7_pixelAt_12 : decode cX7_pixelAt 12 = .ok (.iconst 0, 1) := by decide +kernel
theorem dX7_pixelAt_13 : decode cX7_pixelAt 13 = .ok (.bipush 7, 2) := by decide +kernel
theorem dX7_pixelAt_15 : decode cX7_pixelAt 15 = .ok (.invokestatic 43, 3) := by decide +kernel
theorem dX7_pixelAt_18 : decode cX7_pixelAt 18 = .ok (.ifCond .eq 41, 3) := by decide +kernel
theorem dX7_pixelAt_21 : decode cX7_pixelAt 21 = .ok (.aload_n 0, 1) := by decide +kernel
theorem dX7_pixelAt_22 : decode cX7_pixelAt 22 = .ok (.iload_n 1, 1) := by decide +kernel
theorem dX7_pixelAt_23 : decode cX7_pixelAt 23 = .ok (.iload_n 2, 1) := by decide +kernel
theorem dX7_pixelAt_24 : decode cX7_pixelAt 24 = .ok (.invokevirtual 113, 3) := by decide +kernel
theorem dX7_pixelAt_27 : decode cX7_pixelAt 27 = .ok (.ifCond .eq 32, 3) := by decide +kernel
theorem dX7_pixelAt_30 : decode cX7_pixelAt 30 = .ok (.aload_n 0, 1) := by decide +kernel
theorem dX7_pixelAt_31 : decode cX7_pixelAt 31 = .ok (.aload_n 0, 1) := by decide +kernel
theorem dX7_pixelAt_32 : decode cX7_pixelAt 32 = .ok (.iload_n 1, 1) := by decide +kernel
theorem dX7_pixelAt_33 : decode cX7_pixelAt 33 = .ok (.iconst 0, 1) := by decide +kernel
theorem dX7_pixelAt_34 : decode cX7_pixelAt 34 = .ok (.invokevirtual 81, 3) := by decide +kernel
theorem dX7_pixelAt_37 : decode cX7_pixelAt 37 = .ok (.aload_n 0, 1) := by decide +kernel
theorem dX7_pixelAt_38 : decode cX7_pixelAt 38 = .ok (.iload_n 1, 1) := by decide +kernel
theorem dX7_pixelAt_39 : decode cX7_pixelAt 39 = .ok (.iconst 1, 1) := by decide +kernel
theorem dX7_pixelAt_40 : decode cX7_pixelAt 40 = .ok (.invokevirtual 81, 3) := by decide +kernel
theorem dX7_pixelAt_43 : decode cX7_pixelAt 43 = .ok (.iload_n 2, 1) := by decide +kernel
theorem dX7_pixelAt_44 : decode cX7_pixelAt 44 = .ok (.aload_n 0, 1) := by decide +kernel
theorem dX7_pixelAt_45 : decode cX7_pixelAt 45 = .ok (.iload_n 1, 1) := by decide +kernel
theorem dX7_pixelAt_46 : decode cX7_pixelAt 46 = .ok (.iconst 5, 1) := by decide +kernel
theorem dX7_pixelAt_47 : decode cX7_pixelAt 47 = .ok (.invokevirtual 81, 3) := by decide +kernel
theorem dX7_pixelAt_50 : decode cX7_pixelAt 50 = .ok (.isub, 1) := by decide +kernel
theorem dX7_pixelAt_51 : decode cX7_pixelAt 51 = .ok (.iload 4, 2) := by decide +kernel
theorem dX7_pixelAt_53 : decode cX7_pixelAt 53 = .ok (.invokevirtual 62, 3) := by decide +kernel
theorem dX7_pixelAt_56 : decode cX7_pixelAt 56 = .ok (.goto 4, 3) := by decide +kernel
theorem dX7_pixelAt_59 : decode cX7_pixelAt 59 = .ok (.iconst 0, 1) := by decide +kernel
theorem dX7_pixelAt_60 : decode cX7_pixelAt 60 = .ok (.ireturn, 1) := by decide +kernel
theorem dX7_paletteOn_0 : decode cX7_paletteOn 0 = .ok (.aload_n 0, 1) := by decide +kernel
theorem dX7_paletteOn_1 : decode cX7_paletteOn 1 = .ok (.getfield 7, 3) := by decide +kernel
theorem dX7_paletteOn_4 : decode cX7_paletteOn 4 = .ok (.sipush 329, 3) := by decide +kernel
theorem dX7_paletteOn_7 : decode cX7_paletteOn 7 = .ok (.iload_n 1, 1) := by decide +kernel
theorem dX7_paletteOn_8 : decode cX7_paletteOn 8 = .ok (.iadd, 1) := by decide +kernel
theorem dX7_paletteOn_9 : decode cX7_paletteOn 9 = .ok (.iaload, 1) := by decide +kernel
theorem dX7_paletteOn_10 : decode cX7_paletteOn 10 = .ok (.bipush 16, 2) := by decide +kernel
theorem dX7_paletteOn_12 : decode cX7_paletteOn 12 = .ok (.idiv, 1) := by decide +kernel
theorem dX7_paletteOn_13 : decode cX7_paletteOn 13 = .ok (.istore_n 3, 1) := by decide +kernel
theorem dX7_paletteOn_14 : decode cX7_paletteOn 14 = .ok (.aload_n 0, 1) := by decide +kernel
theorem dX7_paletteOn_15 : decode cX7_paletteOn 15 = .ok (.getfield 7, 3) := by decide +kernel
theorem dX7_paletteOn_18 : decode cX7_paletteOn 18 = .ok (.sipush 329, 3) := by decide +kernel
theorem dX7_paletteOn_21 : decode cX7_paletteOn 21 = .ok (.iload_n 1, 1) := by decide +kernel
theorem dX7_paletteOn_22 : decode cX7_paletteOn 22 = .ok (.iadd, 1) := by decide +kernel
theorem dX7_paletteOn_23 : decode cX7_paletteOn 23 = .ok (.iaload, 1) := by decide +kernel
theorem dX7_paletteOn_24 : decode cX7_paletteOn 24 = .ok (.bipush 16, 2) := by decide +kernel
theorem dX7_paletteOn_26 : decode cX7_paletteOn 26 = .ok (.irem, 1) := by decide +kernel
theorem dX7_paletteOn_27 : decode cX7_paletteOn 27 = .ok (.istore 4, 2) := by decide +kernel
theorem dX7_paletteOn_29 : decode cX7_paletteOn 29 = .ok (.aload_n 0, 1) := by decide +kernel
theorem dX7_paletteOn_30 : decode cX7_paletteOn 30 = .ok (.getfield 7, 3) := by decide +kernel
theorem dX7_paletteOn_33 : decode cX7_paletteOn 33 = .ok (.sipush 329, 3) := by decide +kernel
theorem dX7_paletteOn_36 : decode cX7_paletteOn 36 = .ok (.iload_n 1, 1) := by decide +kernel
theorem dX7_paletteOn_37 : decode cX7_paletteOn 37 = .ok (.iadd, 1) := by decide +kernel
theorem dX7_paletteOn_38 : decode cX7_paletteOn 38 = .ok (.iaload, 1) := by decide +kernel
theorem dX7_paletteOn_39 : decode cX7_paletteOn 39 = .ok (.ifCond .eq 14, 3) := by decide +kernel
theorem dX7_paletteOn_42 : decode cX7_paletteOn 42 = .ok (.iload_n 2, 1) := by decide +kernel
theorem dX7_paletteOn_43 : decode cX7_paletteOn 43 = .ok (.iload_n 3, 1) := by decide +kernel
theorem dX7_paletteOn_44 : decode cX7_paletteOn 44 = .ok (.if_icmp .eq 13, 3) := by decide +kernel
theorem dX7_paletteOn_47 : decode cX7_paletteOn 47 = .ok (.iload_n 2, 1) := by decide +kernel
theorem dX7_paletteOn_48 : decode cX7_paletteOn 48 = .ok (.iload 4, 2) := by decide +kernel
theorem dX7_paletteOn_50 : decode cX7_paletteOn 50 = .ok (.if_icmp .eq 7, 3) := by decide +kernel
theorem dX7_paletteOn_53 : decode cX7_paletteOn 53 = .ok (.iload_n 2, 1) := by decide +kernel
theorem dX7_paletteOn_54 : decode cX7_paletteOn 54 = .ok (.goto 9, 3) := by decide +kernel
theorem dX7_paletteOn_57 : decode cX7_paletteOn 57 = .ok (.iload_n 3, 1) := by decide +kernel
theorem dX7_paletteOn_58 : decode cX7_paletteOn 58 = .ok (.iload 4, 2) := by decide +kernel
theorem dX7_paletteOn_60 : decode cX7_paletteOn 60 = .ok (.iadd, 1) := by decide +kernel
theorem dX7_paletteOn_61 : decode cX7_paletteOn 61 = .ok (.iload_n 2, 1) := by decide +kernel
theorem dX7_paletteOn_62 : decode cX7_paletteOn 62 = .ok (.isub, 1) := by decide +kernel
theorem dX7_paletteOn_63 : decode cX7_paletteOn 63 = .ok (.ireturn, 1) := by decide +kernel
set_option maxRecDepth 20000 in
theorem ggX7_colorAt_X7_sprites : GoodIn wsX7_colorAt wsX7_sprites := goodIn_r _ [6, 1, 46, 47, 48, 49, 50, 51, 52, 53, 54, 55, 56, 57] (by decide +kernel) (by decide +kernel)
set_option maxRecDepth 20000 in
theorem gX7_colorAt_X7_sprites : GoodIn wsX7_colorAt (wsV RX7 54 RX7 yX7_sprites wsX7_sprites) := goodIn_app (goodIn_of _ (by decide +kernel)) ggX7_colorAt_X7_sprites
set_option maxRecDepth 20000 in
theorem ggX7_colorAt_X7_pixelAt : GoodIn wsX7_colorAt wsX7_pixelAt := goodIn_r _ [10, 11, 12, 13, 5, 14, 1, 15, 16, 17, 18, 19, 20, 21, 22, 23, 24, 25, 26, 27, 28, 29, 46, 47, 48, 49, 50, 51, 52, 53, 54, 55, 56, 57] (by decide +kernel) (by decide +kernel)
set_option maxRecDepth 20000 in
theorem gX7_colorAt_X7_pixelAt : GoodIn wsX7_colorAt (wsV RX7 136 RX7 yX7_pixelAt wsX7_pixelAt) := goodIn_app (goodIn_of _ (by decide +kernel)) ggX7_colorAt_X7_pixelAt
set_option maxRecDepth 20000 in
theorem ggX7_colorAt_X7_isShown : GoodIn wsX7_colorAt wsX7_isShown := goodIn_r _ [33, 1, 34, 35, 36, 5, 37, 38, 39, 40, 41, 11, 12, 13, 14, 18, 19, 20, 21, 15, 16, 17, 2, 3, 4, 6, 46, 47, 48, 49, 50, 51, 52, 53, 54, 55, 56, 57] (by decide +kernel) (by decide +kernel)
set_option maxRecDepth 20000 in
theorem gX7_colorAt_X7_isShown : GoodIn wsX7_colorAt (wsV RX7 139 RX7 yX7_isShown wsX7_isShown) := goodIn_app (goodIn_of _ (by decide +kernel)) ggX7_colorAt_X7_isShown
set_option maxRecDepth 20000 in
theorem ggX7_colorAt_X7_of : GoodIn wsX7_colorAt wsX7_of := goodIn_r _ [14, 1, 46, 47, 48, 49, 50, 51, 52, 53, 54, 55, 56, 57] (by decide +kernel) (by decide +kernel)
set_option maxRecDepth 20000 in
theorem gX7_colorAt_X7_of : GoodIn wsX7_colorAt (wsV RX7 81 RX7 yX7_of wsX7_of) := goodIn_app (goodIn_of _ (by decide +kernel)) ggX7_colorAt_X7_of
set_option maxRecDepth 20000 in
theorem ggX7_colorAt_X7_paletteOn : GoodIn wsX7_colorAt wsX7_paletteOn := goodIn_r _ [45, 1, 46, 47, 48, 49, 50, 51, 52, 53, 54, 55, 56, 57] (by decide +kernel) (by decide +kernel)
set_option maxRecDepth 20000 in
theorem gX7_colorAt_X7_paletteOn : GoodIn wsX7_colorAt (wsV RX7 142 RX7 yX7_paletteOn wsX7_paletteOn) := goodIn_app (goodIn_of _ (by decide +kernel)) ggX7_colorAt_X7_paletteOn
theorem dX7_colorAt_0 : decode cX7_colorAt 0 = .ok (.iconst 0, 1) := by decide +kernel
theorem dX7_colorAt_1 : decode cX7_colorAt 1 = .ok (.istore_n 3, 1) := by decide +kernel
theorem dX7_colorAt_2 : decode cX7_colorAt 2 = .ok (.iload_n 3, 1) := by decide +kernel
theorem dX7_colorAt_3 : decode cX7_colorAt 3 = .ok (.aload_n 0, 1) := by decide +kernel
theorem dX7_colorAt_4 : decode cX7_colorAt 4 = .ok (.invokevirtual 54, 3) := by decide +kernel
theorem dX7_colorAt_7 : decode cX7_colorAt 7 = .ok (.if_icmp .ge 60, 3) := by decide +kernel
theorem dX7_colorAt_10 : decode cX7_colorAt 10 = .ok (.aload_n 0, 1) := by decide +kernel
theorem dX7_colorAt_11 : decode cX7_colorAt 11 = .ok (.iload_n 3, 1) := by decide +kernel
theorem dX7_colorAt_12 : decode cX7_colorAt 12 = .ok (.iload_n 1, 1) := by decide +kernel
theorem dX7_colorAt_13 : decode cX7_colorAt 13 = .ok (.iload_n 2, 1) := by decide +kernel
theorem dX7_colorAt_14 : decode cX7_colorAt 14 = .ok (.invokevirtual 136, 3) := by decide +kernel
theorem dX7_colorAt_17 : decode cX7_colorAt 17 = .ok (.istore 4, 2) := by decide +kernel
theorem dX7_colorAt_19 : decode cX7_colorAt 19 = .ok (.iload 4, 2) := by decide +kernel
theorem dX7_colorAt_21 : decode cX7_colorAt 21 = .ok (.ifCond .le 40, 3) := by decide +kernel
theorem dX7_colorAt_24 : decode cX7_colorAt 24 = .ok (.aload_n 0, 1) := by decide +kernel
theorem dX7_colorAt_25 : decode cX7_colorAt 25 = .ok (.iload_n 1, 1) := by decide +kernel
theorem dX7_colorAt_26 : decode cX7_colorAt 26 = .ok (.iload_n 3, 1) := by decide +kernel
theorem dX7_colorAt_27 : decode cX7_colorAt 27 = .ok (.invokevirtual 139, 3) := by decide +kernel
theorem dX7_colorAt_30 : decode cX7_colorAt 30 = .ok (.ifCond .eq 31, 3) := by decide +kernel
theorem dX7_colorAt_33 : decode cX7_colorAt 33 = .ok (.aload_n 0, 1) := by decide +kernel
theorem dX7_colorAt_34 : decode cX7_colorAt 34 = .ok (.getfield 7, 3) := by decide +kernel
theorem dX7_colorAt_37 : decode cX7_colorAt 37 = .ok (.sipush 197, 3) := by decide +kernel
theorem dX7_colorAt_40 : decode cX7_colorAt 40 = .ok (.iconst 3, 1) := by decide +kernel
theorem dX7_colorAt_41 : decode cX7_colorAt 41 = .ok (.aload_n 0, 1) := by decide +kernel
theorem dX7_colorAt_42 : decode cX7_colorAt 42 = .ok (.iload_n 1, 1) := by decide +kernel
theorem dX7_colorAt_43 : decode cX7_colorAt 43 = .ok (.aload_n 0, 1) := by decide +kernel
theorem dX7_colorAt_44 : decode cX7_colorAt 44 = .ok (.iload_n 3, 1) := by decide +kernel
theorem dX7_colorAt_45 : decode cX7_colorAt 45 = .ok (.iconst 2, 1) := by decide +kernel
theorem dX7_colorAt_46 : decode cX7_colorAt 46 = .ok (.invokevirtual 81, 3) := by decide +kernel
theorem dX7_colorAt_49 : decode cX7_colorAt 49 = .ok (.invokevirtual 142, 3) := by decide +kernel
theorem dX7_colorAt_52 : decode cX7_colorAt 52 = .ok (.imul, 1) := by decide +kernel
theorem dX7_colorAt_53 : decode cX7_colorAt 53 = .ok (.iadd, 1) := by decide +kernel
theorem dX7_colorAt_54 : decode cX7_colorAt 54 = .ok (.iload 4, 2) := by decide +kernel
theorem dX7_colorAt_56 : decode cX7_colorAt 56 = .ok (.iadd, 1) := by decide +kernel
theorem dX7_colorAt_57 : decode cX7_colorAt 57 = .ok (.iconst 1, 1) := by decide +kernel
theorem dX7_colorAt_58 : decode cX7_colorAt 58 = .ok (.isub, 1) := by decide +kernel
theorem dX7_colorAt_59 : decode cX7_colorAt 59 = .ok (.iaload, 1) := by decide +kernel
theorem dX7_colorAt_60 : decode cX7_colorAt 60 = .ok (.ireturn, 1) := by decide +kernel
theorem dX7_colorAt_61 : decode cX7_colorAt 61 = .ok (.iinc 3 1, 3) := by decide +kernel
theorem dX7_colorAt_64 : decode cX7_colorAt 64 = .ok (.goto (-62), 3) := by decide +kernel
theorem dX7_colorAt_67 : decode cX7_colorAt 67 = .ok (.iconst 0, 1) := by decide +kernel
theorem dX7_colorAt_68 : decode cX7_colorAt 68 = .ok (.ireturn, 1) := by decide +kernel
set_option maxRecDepth 20000 in
theorem ggX7_color_X7_noLine : GoodIn wsX7_color wsX7_noLine := goodIn_r _ [4, 5, 6, 3, 7] (by decide +kernel) (by decide +kernel)
set_option maxRecDepth 20000 in
theorem gX7_color_X7_noLine : GoodIn wsX7_color (va_wsS RX7 122 yX7_noLine wsX7_noLine) := goodIn_app (goodIn_of _ (by decide +kernel)) ggX7_color_X7_noLine
set_option maxRecDepth 20000 in
theorem ggX7_color_X7_in : GoodIn wsX7_color wsX7_in := goodIn_r _ [7] (by decide +kernel) (by decide +kernel)
set_option maxRecDepth 20000 in
theorem gX7_color_X7_in : GoodIn wsX7_color (va_wsS RX7 43 yX7_in wsX7_in) := goodIn_app (goodIn_of _ (by decide +kernel)) ggX7_color_X7_in
set_option maxRecDepth 20000 in
theorem ggX7_color_X7_colorAt : GoodIn wsX7_color wsX7_colorAt := goodIn_r _ [11, 12, 13, 14, 15, 3, 16, 17, 18, 19, 20, 21, 22, 23, 24, 5, 6, 7, 25, 26, 27, 28, 29, 30, 31, 32, 33, 34, 35, 36, 37, 38, 39, 40, 41, 42, 43, 44, 45, 46, 47, 48, 49, 50, 51, 52, 53, 54, 55, 56, 57, 58, 59, 60, 61, 62, 63, 64] (by decide +kernel) (by decide +kernel)
set_option maxRecDepth 20000 in
theorem gX7_color_X7_colorAt : GoodIn wsX7_color (wsV RX7 145 RX7 yX7_colorAt wsX7_colorAt) := goodIn_app (goodIn_of _ (by decide +kernel)) ggX7_color_X7_colorAt
theorem dX7_color_0 : decode cX7_color 0 = .ok (.iload_n 1, 1) := by decide +kernel
theorem dX7_color_1 : decode cX7_color 1 = .ok (.invokestatic 122, 3) := by decide +kernel
theorem dX7_color_4 : decode cX7_color 4 = .ok (.ifCond .ne 13, 3) := by decide +kernel
theorem dX7_color_7 : decode cX7_color 7 = .ok (.iload_n 2, 1) := by decide +kernel
theorem dX7_color_8 : decode cX7_color 8 = .ok (.iconst 0, 1) := by decide +kernel
theorem dX7_color_9 : decode cX7_color 9 = .ok (.bipush 31, 2) := by decide +kernel
theorem dX7_color_11 : decode cX7_color 11 = .ok (.invokestatic 43, 3) := by decide +kernel
theorem dX7_color_14 : decode cX7_color 14 = .ok (.ifCond .ne 7, 3) := by decide +kernel
theorem dX7_color_17 : decode cX7_color 17 = .ok (.iconst (-1), 1) := by decide +kernel
theorem dX7_color_18 : decode cX7_color 18 = .ok (.goto 9, 3) := by decide +kernel
theorem dX7_color_21 : decode cX7_color 21 = .ok (.aload_n 0, 1) := by decide +kernel
theorem dX7_color_22 : decode cX7_color 22 = .ok (.iload_n 1, 1) := by decide +kernel
theorem dX7_color_23 : decode cX7_color 23 = .ok (.iload_n 2, 1) := by decide +kernel
theorem dX7_color_24 : decode cX7_color 24 = .ok (.invokevirtual 145, 3) := by decide +kernel
theorem dX7_color_27 : decode cX7_color 27 = .ok (.ireturn, 1) := by decide +kernel
set_option maxRecDepth 20000 in
theorem ggX7_doMeet_X7_isShown : GoodIn wsX7_doMeet wsX7_isShown := goodIn_r _ [5, 6, 7, 8, 9, 4, 10, 11, 12, 13, 14, 15, 16, 17, 18, 19, 20, 21, 22, 23, 24, 25, 26, 27, 28, 29, 42, 43, 44, 45, 46, 47, 48, 49, 50, 51, 52, 53] (by decide +kernel) (by decide +kernel)
set_option maxRecDepth 20000 in
theorem gX7_doMeet_X7_isShown : GoodIn wsX7_doMeet (wsV RX7 139 RX7 yX7_isShown wsX7_isShown) := goodIn_app (goodIn_of _ (by decide +kernel)) ggX7_doMeet_X7_isShown
set_option maxRecDepth 20000 in
theorem ggX7_doMeet_X7_pixelAt : GoodIn wsX7_doMeet wsX7_pixelAt := goodIn_r _ [33, 15, 16, 17, 4, 18, 6, 23, 24, 25, 19, 20, 21, 22, 34, 35, 36, 37, 38, 39, 40, 41, 42, 43, 44, 45, 46, 47, 48, 49, 50, 51, 52, 53] (by decide +kernel) (by decide +kernel)
set_option maxRecDepth 20000 in
theorem gX7_doMeet_X7_pixelAt : GoodIn wsX7_doMeet (wsV RX7 136 RX7 yX7_pixelAt wsX7_pixelAt) := goodIn_app (goodIn_of _ (by decide +kernel)) ggX7_doMeet_X7_pixelAt
theorem dX7_doMeet_0 : decode cX7_doMeet 0 = .ok (.iconst 0, 1) := by decide +kernel
theorem dX7_doMeet_1 : decode cX7_doMeet 1 = .ok (.istore_n 3, 1) := by decide +kernel
theorem dX7_doMeet_2 : decode cX7_doMeet 2 = .ok (.iload_n 3, 1) := by decide +kernel
theorem dX7_doMeet_3 : decode cX7_doMeet 3 = .ok (.bipush 32, 2) := by decide +kernel
theorem dX7_doMeet_5 : decode cX7_doMeet 5 = .ok (.if_icmp .ge 67, 3) := by decide +kernel
theorem dX7_doMeet_8 : decode cX7_doMeet 8 = .ok (.aload_n 0, 1) := by decide +kernel
theorem dX7_doMeet_9 : decode cX7_doMeet 9 = .ok (.iload_n 3, 1) := by decide +kernel
theorem dX7_doMeet_10 : decode cX7_doMeet 10 = .ok (.iload_n 1, 1) := by decide +kernel
theorem dX7_doMeet_11 : decode cX7_doMeet 11 = .ok (.invokevirtual 139, 3) := by decide +kernel
theorem dX7_doMeet_14 : decode cX7_doMeet 14 = .ok (.ifCond .eq 52, 3) := by decide +kernel
theorem dX7_doMeet_17 : decode cX7_doMeet 17 = .ok (.aload_n 0, 1) := by decide +kernel
theorem dX7_doMeet_18 : decode cX7_doMeet 18 = .ok (.iload_n 3, 1) := by decide +kernel
theorem dX7_doMeet_19 : decode cX7_doMeet 19 = .ok (.iload_n 2, 1) := by decide +kernel
theorem dX7_doMeet_20 : decode cX7_doMeet 20 = .ok (.invokevirtual 139, 3) := by decide +kernel
theorem dX7_doMeet_23 : decode cX7_doMeet 23 = .ok (.ifCond .eq 43, 3) := by decide +kernel
theorem dX7_doMeet_26 : decode cX7_doMeet 26 = .ok (.iconst 0, 1) := by decide +kernel
theorem dX7_doMeet_27 : decode cX7_doMeet 27 = .ok (.istore 4, 2) := by decide +kernel
theorem dX7_doMeet_29 : decode cX7_doMeet 29 = .ok (.iload 4, 2) := by decide +kernel
theorem dX7_doMeet_31 : decode cX7_doMeet 31 = .ok (.bipush 32, 2) := by decide +kernel
theorem dX7_doMeet_33 : decode cX7_doMeet 33 = .ok (.if_icmp .ge 33, 3) := by decide +kernel
theorem dX7_doMeet_36 : decode cX7_doMeet 36 = .ok (.aload_n 0, 1) := by decide +kernel
theorem dX7_doMeet_37 : decode cX7_doMeet 37 = .ok (.iload_n 1, 1) := by decide +kernel
theorem dX7_doMeet_38 : decode cX7_doMeet 38 = .ok (.iload_n 3, 1) := by decide +kernel
theorem dX7_doMeet_39 : decode cX7_doMeet 39 = .ok (.iload 4, 2) := by decide +kernel
theorem dX7_doMeet_41 : decode cX7_doMeet 41 = .ok (.invokevirtual 136, 3) := by decide +kernel
theorem dX7_doMeet_44 : decode cX7_doMeet 44 = .ok (.ifCond .le 16, 3) := by decide +kernel
theorem dX7_doMeet_47 : decode cX7_doMeet 47 = .ok (.aload_n 0, 1) := by decide +kernel
theorem dX7_doMeet_48 : decode cX7_doMeet 48 = .ok (.iload_n 2, 1) := by decide +kernel
theorem dX7_doMeet_49 : decode cX7_doMeet 49 = .ok (.iload_n 3, 1) := by decide +kernel
theorem dX7_doMeet_50 : decode cX7_doMeet 50 = .ok (.iload 4, 2) := by decide +kernel
theorem dX7_doMeet_52 : decode cX7_doMeet 52 = .ok (.invokevirtual 136, 3) := by decide +kernel
theorem dX7_doMeet_55 : decode cX7_doMeet 55 = .ok (.ifCond .le 5, 3) := by decide +kernel
theorem dX7_doMeet_58 : decode cX7_doMeet 58 = .ok (.iconst 1, 1) := by decide +kernel
theorem dX7_doMeet_59 : decode cX7_doMeet 59 = .ok (.ireturn, 1) := by decide +kernel
theorem dX7_doMeet_60 : decode cX7_doMeet 60 = .ok (.iinc 4 1, 3) := by decide +kernel
theorem dX7_doMeet_63 : decode cX7_doMeet 63 = .ok (.goto (-34), 3) := by decide +kernel
theorem dX7_doMeet_66 : decode cX7_doMeet 66 = .ok (.iinc 3 1, 3) := by decide +kernel
theorem dX7_doMeet_69 : decode cX7_doMeet 69 = .ok (.goto (-67), 3) := by decide +kernel
theorem dX7_doMeet_72 : decode cX7_doMeet 72 = .ok (.iconst 0, 1) := by decide +kernel
theorem dX7_doMeet_73 : decode cX7_doMeet 73 = .ok (.ireturn, 1) := by decide +kernel
set_option maxRecDepth 20000 in
theorem ggX7_meet_X7_noSprite : GoodIn wsX7_meet wsX7_noSprite := goodIn_r _ [5, 6, 7, 8, 4, 9, 10, 11, 12, 13, 50, 51, 52, 53, 54, 55, 56, 57, 58, 59, 60, 61] (by decide +kernel) (by decide +kernel)
set_option maxRecDepth 20000 in
theorem gX7_meet_X7_noSprite : GoodIn wsX7_meet (wsV RX7 116 RX7 yX7_noSprite wsX7_noSprite) := goodIn_app (goodIn_of _ (by decide +kernel)) ggX7_meet_X7_noSprite
set_option maxRecDepth 20000 in
theorem ggX7_meet_X7_doMeet : GoodIn wsX7_meet wsX7_doMeet := goodIn_r _ [17, 18, 19, 20, 4, 21, 10, 22, 23, 24, 25, 26, 27, 28, 29, 30, 31, 32, 33, 34, 35, 36, 37, 11, 12, 13, 6, 7, 8, 9, 38, 39, 40, 41, 42, 43, 44, 45, 46, 47, 48, 49, 50, 51, 52, 53, 54, 55, 56, 57, 58, 59, 60, 61] (by decide +kernel) (by decide +kernel)
set_option maxRecDepth 20000 in
theorem gX7_meet_X7_doMeet : GoodIn wsX7_meet (wsV RX7 148 RX7 yX7_doMeet wsX7_doMeet) := goodIn_app (goodIn_of _ (by decide +kernel)) ggX7_meet_X7_doMeet
theorem dX7_meet_0 : decode cX7_meet 0 = .ok (.aload_n 0, 1) := by decide +kernel
theorem dX7_meet_1 : decode cX7_meet 1 = .ok (.iload_n 1, 1) := by decide +kernel
theorem dX7_meet_2 : decode cX7_meet 2 = .ok (.invokevirtual 116, 3) := by decide +kernel
theorem dX7_meet_5 : decode cX7_meet 5 = .ok (.ifCond .ne 11, 3) := by decide +kernel
theorem dX7_meet_8 : decode cX7_meet 8 = .ok (.aload_n 0, 1) := by decide +kernel
theorem dX7_meet_9 : decode cX7_meet 9 = .ok (.iload_n 2, 1) := by decide +kernel
theorem dX7_meet_10 : decode cX7_meet 10 = .ok (.invokevirtual 116, 3) := by decide +kernel
theorem dX7_meet_13 : decode cX7_meet 13 = .ok (.ifCond .eq 5, 3) := by decide +kernel
theorem dX7_meet_16 : decode cX7_meet 16 = .ok (.iconst (-1), 1) := by decide +kernel
theorem dX7_meet_17 : decode cX7_meet 17 = .ok (.ireturn, 1) := by decide +kernel
theorem dX7_meet_18 : decode cX7_meet 18 = .ok (.iload_n 1, 1) := by decide +kernel
theorem dX7_meet_19 : decode cX7_meet 19 = .ok (.iload_n 2, 1) := by decide +kernel
theorem dX7_meet_20 : decode cX7_meet 20 = .ok (.if_icmp .ne 8, 3) := by decide +kernel
theorem dX7_meet_23 : decode cX7_meet 23 = .ok (.bipush (-2), 2) := by decide +kernel
theorem dX7_meet_25 : decode cX7_meet 25 = .ok (.goto 17, 3) := by decide +kernel
theorem dX7_meet_28 : decode cX7_meet 28 = .ok (.aload_n 0, 1) := by decide +kernel
theorem dX7_meet_29 : decode cX7_meet 29 = .ok (.iload_n 1, 1) := by decide +kernel
theorem dX7_meet_30 : decode cX7_meet 30 = .ok (.iload_n 2, 1) := by decide +kernel
theorem dX7_meet_31 : decode cX7_meet 31 = .ok (.invokevirtual 148, 3) := by decide +kernel
theorem dX7_meet_34 : decode cX7_meet 34 = .ok (.ifCond .eq 7, 3) := by decide +kernel
theorem dX7_meet_37 : decode cX7_meet 37 = .ok (.iconst 1, 1) := by decide +kernel
theorem dX7_meet_38 : decode cX7_meet 38 = .ok (.goto 4, 3) := by decide +kernel
theorem dX7_meet_41 : decode cX7_meet 41 = .ok (.iconst 0, 1) := by decide +kernel
theorem dX7_meet_42 : decode cX7_meet 42 = .ok (.ireturn, 1) := by decide +kernel
set_option maxRecDepth 20000 in
theorem ggX7_metBy_X7_sprites : GoodIn wsX7_metBy wsX7_sprites := goodIn_r _ [5, 6, 46, 47, 48, 49, 50, 51, 52, 53, 54, 55, 56, 57] (by decide +kernel) (by decide +kernel)
set_option maxRecDepth 20000 in
theorem gX7_metBy_X7_sprites : GoodIn wsX7_metBy (wsV RX7 54 RX7 yX7_sprites wsX7_sprites) := goodIn_app (goodIn_of _ (by decide +kernel)) ggX7_metBy_X7_sprites
set_option maxRecDepth 20000 in
theorem ggX7_metBy_X7_doMeet : GoodIn wsX7_metBy wsX7_doMeet := goodIn_r _ [10, 11, 12, 13, 4, 14, 6, 15, 16, 17, 18, 19, 20, 21, 22, 23, 24, 25, 26, 27, 28, 29, 30, 31, 32, 33, 1, 2, 3, 5, 34, 35, 36, 37, 38, 39, 40, 41, 42, 43, 44, 45, 46, 47, 48, 49, 50, 51, 52, 53, 54, 55, 56, 57] (by decide +kernel) (by decide +kernel)
set_option maxRecDepth 20000 in
theorem gX7_metBy_X7_doMeet : GoodIn wsX7_metBy (wsV RX7 148 RX7 yX7_doMeet wsX7_doMeet) := goodIn_app (goodIn_of _ (by decide +kernel)) ggX7_metBy_X7_doMeet
theorem dX7_metBy_0 : decode cX7_metBy 0 = .ok (.iconst 0, 1) := by decide +kernel
theorem dX7_metBy_1 : decode cX7_metBy 1 = .ok (.istore_n 2, 1) := by decide +kernel
theorem dX7_metBy_2 : decode cX7_metBy 2 = .ok (.iconst 0, 1) := by decide +kernel
theorem dX7_metBy_3 : decode cX7_metBy 3 = .ok (.istore_n 3, 1) := by decide +kernel
theorem dX7_metBy_4 : decode cX7_metBy 4 = .ok (.iload_n 3, 1) := by decide +kernel
theorem dX7_metBy_5 : decode cX7_metBy 5 = .ok (.aload_n 0, 1) := by decide +kernel
theorem dX7_metBy_6 : decode cX7_metBy 6 = .ok (.invokevirtual 54, 3) := by decide +kernel
theorem dX7_metBy_9 : decode cX7_metBy 9 = .ok (.if_icmp .ge 31, 3) := by decide +kernel
theorem dX7_metBy_12 : decode cX7_metBy 12 = .ok (.iload_n 2, 1) := by decide +kernel
theorem dX7_metBy_13 : decode cX7_metBy 13 = .ok (.iload_n 3, 1) := by decide +kernel
theorem dX7_metBy_14 : decode cX7_metBy 14 = .ok (.iload_n 1, 1) := by decide +kernel
theorem dX7_metBy_15 : decode cX7_metBy 15 = .ok (.if_icmp .eq 16, 3) := by decide +kernel
theorem dX7_metBy_18 : decode cX7_metBy 18 = .ok (.aload_n 0, 1) := by decide +kernel
theorem dX7_metBy_19 : decode cX7_metBy 19 = .ok (.iload_n 1, 1) := by decide +kernel
theorem dX7_metBy_20 : decode cX7_metBy 20 = .ok (.iload_n 3, 1) := by decide +kernel
theorem dX7_metBy_21 : decode cX7_metBy 21 = .ok (.invokevirtual 148, 3) := by decide +kernel
theorem dX7_metBy_24 : decode cX7_metBy 24 = .ok (.ifCond .eq 7, 3) := by decide +kernel
theorem dX7_metBy_27 : decode cX7_metBy 27 = .ok (.iconst 1, 1) := by decide +kernel
theorem dX7_metBy_28 : decode cX7_metBy 28 = .ok (.goto 4, 3) := by decide +kernel
theorem dX7_metBy_31 : decode cX7_metBy 31 = .ok (.iconst 0, 1) := by decide +kernel
theorem dX7_metBy_32 : decode cX7_metBy 32 = .ok (.iadd, 1) := by decide +kernel
theorem dX7_metBy_33 : decode cX7_metBy 33 = .ok (.istore_n 2, 1) := by decide +kernel
theorem dX7_metBy_34 : decode cX7_metBy 34 = .ok (.iinc 3 1, 3) := by decide +kernel
theorem dX7_metBy_37 : decode cX7_metBy 37 = .ok (.goto (-33), 3) := by decide +kernel
theorem dX7_metBy_40 : decode cX7_metBy 40 = .ok (.iload_n 2, 1) := by decide +kernel
theorem dX7_metBy_41 : decode cX7_metBy 41 = .ok (.ireturn, 1) := by decide +kernel
set_option maxRecDepth 20000 in
theorem ggX7_linesShowing_X7_isShown : GoodIn wsX7_linesShowing wsX7_isShown := goodIn_r _ [5, 6, 7, 8, 9, 4, 10, 11, 12, 13, 14, 15, 16, 17, 18, 19, 20, 21, 22, 23, 24, 25, 26, 27, 28, 29, 30, 31, 32, 33, 34, 35, 36, 37, 38, 39, 40, 41] (by decide +kernel) (by decide +kernel)
set_option maxRecDepth 20000 in
theorem gX7_linesShowing_X7_isShown : GoodIn wsX7_linesShowing (wsV RX7 139 RX7 yX7_isShown wsX7_isShown) := goodIn_app (goodIn_of _ (by decide +kernel)) ggX7_linesShowing_X7_isShown
theorem dX7_linesShowing_0 : decode cX7_linesShowing 0 = .ok (.iconst 0, 1) := by decide +kernel
theorem dX7_linesShowing_1 : decode cX7_linesShowing 1 = .ok (.istore_n 2, 1) := by decide +kernel
theorem dX7_linesShowing_2 : decode cX7_linesShowing 2 = .ok (.iconst 0, 1) := by decide +kernel
theorem dX7_linesShowing_3 : decode cX7_linesShowing 3 = .ok (.istore_n 3, 1) := by decide +kernel
theorem dX7_linesShowing_4 : decode cX7_linesShowing 4 = .ok (.iload_n 3, 1) := by decide +kernel
theorem dX7_linesShowing_5 : decode cX7_linesShowing 5 = .ok (.bipush 32, 2) := by decide +kernel
theorem dX7_linesShowing_7 : decode cX7_linesShowing 7 = .ok (.if_icmp .ge 26, 3) := by decide +kernel
theorem dX7_linesShowing_10 : decode cX7_linesShowing 10 = .ok (.iload_n 2, 1) := by decide +kernel
theorem dX7_linesShowing_11 : decode cX7_linesShowing 11 = .ok (.aload_n 0, 1) := by decide +kernel
theorem dX7_linesShowing_12 : decode cX7_linesShowing 12 = .ok (.iload_n 3, 1) := by decide +kernel
theorem dX7_linesShowing_13 : decode cX7_linesShowing 13 = .ok (.iload_n 1, 1) := by decide +kernel
theorem dX7_linesShowing_14 : decode cX7_linesShowing 14 = .ok (.invokevirtual 139, 3) := by decide +kernel
theorem dX7_linesShowing_17 : decode cX7_linesShowing 17 = .ok (.ifCond .eq 7, 3) := by decide +kernel
theorem dX7_linesShowing_20 : decode cX7_linesShowing 20 = .ok (.iconst 1, 1) := by decide +kernel
theorem dX7_linesShowing_21 : decode cX7_linesShowing 21 = .ok (.goto 4, 3) := by decide +kernel
theorem dX7_linesShowing_24 : decode cX7_linesShowing 24 = .ok (.iconst 0, 1) := by decide +kernel
theorem dX7_linesShowing_25 : decode cX7_linesShowing 25 = .ok (.iadd, 1) := by decide +kernel
theorem dX7_linesShowing_26 : decode cX7_linesShowing 26 = .ok (.istore_n 2, 1) := by decide +kernel
theorem dX7_linesShowing_27 : decode cX7_linesShowing 27 = .ok (.iinc 3 1, 3) := by decide +kernel
theorem dX7_linesShowing_30 : decode cX7_linesShowing 30 = .ok (.goto (-26), 3) := by decide +kernel
theorem dX7_linesShowing_33 : decode cX7_linesShowing 33 = .ok (.iload_n 2, 1) := by decide +kernel
theorem dX7_linesShowing_34 : decode cX7_linesShowing 34 = .ok (.ireturn, 1) := by decide +kernel
set_option maxRecDepth 20000 in
theorem ggX7_sprite_X7_noSprite : GoodIn wsX7_sprite wsX7_noSprite := goodIn_r _ [5, 6, 7, 8, 4, 9, 10, 11, 12, 13, 62, 63, 64, 65, 66, 67, 68, 69, 70, 71, 72, 73] (by decide +kernel) (by decide +kernel)
set_option maxRecDepth 20000 in
theorem gX7_sprite_X7_noSprite : GoodIn wsX7_sprite (wsV RX7 116 RX7 yX7_noSprite wsX7_noSprite) := goodIn_app (goodIn_of _ (by decide +kernel)) ggX7_sprite_X7_noSprite
set_option maxRecDepth 20000 in
theorem ggX7_sprite_X7_of : GoodIn wsX7_sprite wsX7_of := goodIn_r _ [17, 10, 62, 63, 64, 65, 66, 67, 68, 69, 70, 71, 72, 73] (by decide +kernel) (by decide +kernel)
set_option maxRecDepth 20000 in
theorem gX7_sprite_X7_of : GoodIn wsX7_sprite (wsV RX7 81 RX7 yX7_of wsX7_of) := goodIn_app (goodIn_of _ (by decide +kernel)) ggX7_sprite_X7_of
set_option maxRecDepth 20000 in
theorem ggX7_sprite_X7_linesShowing : GoodIn wsX7_sprite wsX7_linesShowing := goodIn_r _ [21, 22, 23, 24, 4, 25, 10, 26, 27, 28, 29, 30, 31, 32, 33, 14, 15, 16, 17, 34, 35, 36, 37, 11, 12, 13, 6, 7, 8, 9, 62, 63, 64, 65, 66, 67, 68, 69, 70, 71, 72, 73] (by decide +kernel) (by decide +kernel)
set_option maxRecDepth 20000 in
theorem gX7_sprite_X7_linesShowing : GoodIn wsX7_sprite (wsV RX7 151 RX7 yX7_linesShowing wsX7_linesShowing) := goodIn_app (goodIn_of _ (by decide +kernel)) ggX7_sprite_X7_linesShowing
set_option maxRecDepth 20000 in
theorem ggX7_sprite_X7_linesOf : GoodIn wsX7_sprite wsX7_linesOf := goodIn_r _ [41, 34, 35, 36, 4, 37, 14, 15, 16, 17, 10, 11, 12, 13, 62, 63, 64, 65, 66, 67, 68, 69, 70, 71, 72, 73] (by decide +kernel) (by decide +kernel)
set_option maxRecDepth 20000 in
theorem gX7_sprite_X7_linesOf : GoodIn wsX7_sprite (wsV RX7 119 RX7 yX7_linesOf wsX7_linesOf) := goodIn_app (goodIn_of _ (by decide +kernel)) ggX7_sprite_X7_linesOf
set_option maxRecDepth 20000 in
theorem ggX7_sprite_X7_metBy : GoodIn wsX7_sprite wsX7_metBy := goodIn_r _ [45, 6, 7, 8, 4, 9, 10, 46, 47, 48, 49, 22, 23, 24, 25, 26, 27, 28, 29, 30, 31, 32, 33, 14, 15, 16, 17, 34, 35, 36, 37, 11, 12, 13, 50, 51, 52, 53, 54, 55, 56, 57, 58, 59, 60, 61, 62, 63, 64, 65, 66, 67, 68, 69, 70, 71, 72, 73] (by decide +kernel) (by decide +kernel)
set_option maxRecDepth 20000 in
theorem gX7_sprite_X7_metBy : GoodIn wsX7_sprite (wsV RX7 154 RX7 yX7_metBy wsX7_metBy) := goodIn_app (goodIn_of _ (by decide +kernel)) ggX7_sprite_X7_metBy
theorem dX7_sprite_0 : decode cX7_sprite 0 = .ok (.aload_n 0, 1) := by decide +kernel
theorem dX7_sprite_1 : decode cX7_sprite 1 = .ok (.iload_n 1, 1) := by decide +kernel
theorem dX7_sprite_2 : decode cX7_sprite 2 = .ok (.invokevirtual 116, 3) := by decide +kernel
theorem dX7_sprite_5 : decode cX7_sprite 5 = .ok (.ifCond .eq 5, 3) := by decide +kernel
theorem dX7_sprite_8 : decode cX7_sprite 8 = .ok (.iconst (-1), 1) := by decide +kernel
theorem dX7_sprite_9 : decode cX7_sprite 9 = .ok (.ireturn, 1) := by decide +kernel
theorem dX7_sprite_10 : decode cX7_sprite 10 = .ok (.iload_n 2, 1) := by decide +kernel
theorem dX7_sprite_11 : decode cX7_sprite 11 = .ok (.tableswitch 74 0 8 #[49, 49, 49, 49, 49, 49, 56, 62, 68], 49) := by decide +kernel
theorem dX7_sprite_60 : decode cX7_sprite 60 = .ok (.aload_n 0, 1) := by decide +kernel
theorem dX7_sprite_61 : decode cX7_sprite 61 = .ok (.iload_n 1, 1) := by decide +kernel
theorem dX7_sprite_62 : decode cX7_sprite 62 = .ok (.iload_n 2, 1) := by decide +kernel
theorem dX7_sprite_63 : decode cX7_sprite 63 = .ok (.invokevirtual 81, 3) := by decide +kernel
theorem dX7_sprite_66 : decode cX7_sprite 66 = .ok (.ireturn, 1) := by decide +kernel
theorem dX7_sprite_67 : decode cX7_sprite 67 = .ok (.aload_n 0, 1) := by decide +kernel
theorem dX7_sprite_68 : decode cX7_sprite 68 = .ok (.iload_n 1, 1) := by decide +kernel
theorem dX7_sprite_69 : decode cX7_sprite 69 = .ok (.invokevirtual 151, 3) := by decide +kernel
theorem dX7_sprite_72 : decode cX7_sprite 72 = .ok (.ireturn, 1) := by decide +kernel
theorem dX7_sprite_73 : decode cX7_sprite 73 = .ok (.aload_n 0, 1) := by decide +kernel
theorem dX7_sprite_74 : decode cX7_sprite 74 = .ok (.iload_n 1, 1) := by decide +kernel
theorem dX7_sprite_75 : decode cX7_sprite 75 = .ok (.invokevirtual 119, 3) := by decide +kernel
theorem dX7_sprite_78 : decode cX7_sprite 78 = .ok (.ireturn, 1) := by decide +kernel
theorem dX7_sprite_79 : decode cX7_sprite 79 = .ok (.aload_n 0, 1) := by decide +kernel
theorem dX7_sprite_80 : decode cX7_sprite 80 = .ok (.iload_n 1, 1) := by decide +kernel
theorem dX7_sprite_81 : decode cX7_sprite 81 = .ok (.invokevirtual 154, 3) := by decide +kernel
theorem dX7_sprite_84 : decode cX7_sprite 84 = .ok (.ireturn, 1) := by decide +kernel
theorem dX7_sprite_85 : decode cX7_sprite 85 = .ok (.bipush (-2), 2) := by decide +kernel
theorem dX7_sprite_87 : decode cX7_sprite 87 = .ok (.ireturn, 1) := by decide +kernel
set_option maxRecDepth 20000 in
theorem ggX7_colored_X7_colorAt : GoodIn wsX7_colored wsX7_colorAt := goodIn_r _ [5, 6, 7, 8, 9, 4, 10, 11, 12, 13, 14, 15, 16, 17, 18, 19, 20, 21, 22, 23, 24, 25, 26, 27, 28, 29, 30, 31, 32, 33, 34, 35, 36, 37, 38, 39, 40, 41, 42, 43, 44, 45, 46, 47, 48, 49, 50, 51, 52, 53, 54, 55, 56, 57, 58, 59, 60, 61] (by decide +kernel) (by decide +kernel)
set_option maxRecDepth 20000 in
theorem gX7_colored_X7_colorAt : GoodIn wsX7_colored (wsV RX7 145 RX7 yX7_colorAt wsX7_colorAt) := goodIn_app (goodIn_of _ (by decide +kernel)) ggX7_colored_X7_colorAt
theorem dX7_colored_0 : decode cX7_colored 0 = .ok (.iconst 0, 1) := by decide +kernel
theorem dX7_colored_1 : decode cX7_colored 1 = .ok (.istore_n 2, 1) := by decide +kernel
theorem dX7_colored_2 : decode cX7_colored 2 = .ok (.iconst 0, 1) := by decide +kernel
theorem dX7_colored_3 : decode cX7_colored 3 = .ok (.istore_n 3, 1) := by decide +kernel
theorem dX7_colored_4 : decode cX7_colored 4 = .ok (.iload_n 3, 1) := by decide +kernel
theorem dX7_colored_5 : decode cX7_colored 5 = .ok (.bipush 32, 2) := by decide +kernel
theorem dX7_colored_7 : decode cX7_colored 7 = .ok (.if_icmp .ge 26, 3) := by decide +kernel
theorem dX7_colored_10 : decode cX7_colored 10 = .ok (.iload_n 2, 1) := by decide +kernel
theorem dX7_colored_11 : decode cX7_colored 11 = .ok (.aload_n 0, 1) := by decide +kernel
theorem dX7_colored_12 : decode cX7_colored 12 = .ok (.iload_n 1, 1) := by decide +kernel
theorem dX7_colored_13 : decode cX7_colored 13 = .ok (.iload_n 3, 1) := by decide +kernel
theorem dX7_colored_14 : decode cX7_colored 14 = .ok (.invokevirtual 145, 3) := by decide +kernel
theorem dX7_colored_17 : decode cX7_colored 17 = .ok (.ifCond .le 7, 3) := by decide +kernel
theorem dX7_colored_20 : decode cX7_colored 20 = .ok (.iconst 1, 1) := by decide +kernel
theorem dX7_colored_21 : decode cX7_colored 21 = .ok (.goto 4, 3) := by decide +kernel
theorem dX7_colored_24 : decode cX7_colored 24 = .ok (.iconst 0, 1) := by decide +kernel
theorem dX7_colored_25 : decode cX7_colored 25 = .ok (.iadd, 1) := by decide +kernel
theorem dX7_colored_26 : decode cX7_colored 26 = .ok (.istore_n 2, 1) := by decide +kernel
theorem dX7_colored_27 : decode cX7_colored 27 = .ok (.iinc 3 1, 3) := by decide +kernel
theorem dX7_colored_30 : decode cX7_colored 30 = .ok (.goto (-26), 3) := by decide +kernel
theorem dX7_colored_33 : decode cX7_colored 33 = .ok (.iload_n 2, 1) := by decide +kernel
theorem dX7_colored_34 : decode cX7_colored 34 = .ok (.ireturn, 1) := by decide +kernel
set_option maxRecDepth 20000 in
theorem ggX7_line_X7_noLine : GoodIn wsX7_line wsX7_noLine := goodIn_r _ [5, 6, 7, 4, 8] (by decide +kernel) (by decide +kernel)
set_option maxRecDepth 20000 in
theorem gX7_line_X7_noLine : GoodIn wsX7_line (va_wsS RX7 122 yX7_noLine wsX7_noLine) := goodIn_app (goodIn_of _ (by decide +kernel)) ggX7_line_X7_noLine
set_option maxRecDepth 20000 in
theorem ggX7_line_X7_wanted : GoodIn wsX7_line wsX7_wanted := goodIn_r _ [12, 13, 14, 15, 4, 16, 1, 17, 18, 19, 20, 21, 22, 23, 24, 25, 26, 27, 28, 6, 7, 8, 61, 62, 63, 64, 65, 66, 67, 68, 69, 70, 71, 72] (by decide +kernel) (by decide +kernel)
set_option maxRecDepth 20000 in
theorem gX7_line_X7_wanted : GoodIn wsX7_line (wsV RX7 157 RX7 yX7_wanted wsX7_wanted) := goodIn_app (goodIn_of _ (by decide +kernel)) ggX7_line_X7_wanted
set_option maxRecDepth 20000 in
theorem ggX7_line_X7_colored : GoodIn wsX7_line wsX7_colored := goodIn_r _ [32, 33, 34, 35, 4, 36, 1, 13, 14, 15, 16, 37, 38, 39, 40, 21, 22, 23, 24, 6, 7, 8, 25, 26, 27, 28, 41, 42, 43, 44, 45, 46, 47, 48, 49, 50, 51, 52, 53, 54, 55, 56, 17, 18, 19, 20, 57, 58, 59, 60, 61, 62, 63, 64, 65, 66, 67, 68, 69, 70, 71, 72] (by decide +kernel) (by decide +kernel)
set_option maxRecDepth 20000 in
theorem gX7_line_X7_colored : GoodIn wsX7_line (wsV RX7 160 RX7 yX7_colored wsX7_colored) := goodIn_app (goodIn_of _ (by decide +kernel)) ggX7_line_X7_colored
theorem dX7_line_0 : decode cX7_line 0 = .ok (.iload_n 1, 1) := by decide +kernel
theorem dX7_line_1 : decode cX7_line 1 = .ok (.invokestatic 122, 3) := by decide +kernel
theorem dX7_line_4 : decode cX7_line 4 = .ok (.ifCond .eq 5, 3) := by decide +kernel
theorem dX7_line_7 : decode cX7_line 7 = .ok (.iconst (-1), 1) := by decide +kernel
theorem dX7_line_8 : decode cX7_line 8 = .ok (.ireturn, 1) := by decide +kernel
theorem dX7_line_9 : decode cX7_line 9 = .ok (.aload_n 0, 1) := by decide +kernel
theorem dX7_line_10 : decode cX7_line 10 = .ok (.iload_n 1, 1) := by decide +kernel
theorem dX7_line_11 : decode cX7_line 11 = .ok (.invokevirtual 157, 3) := by decide +kernel
theorem dX7_line_14 : decode cX7_line 14 = .ok (.istore_n 3, 1) := by decide +kernel
theorem dX7_line_15 : decode cX7_line 15 = .ok (.iload_n 2, 1) := by decide +kernel
theorem dX7_line_16 : decode cX7_line 16 = .ok (.tableswitch 129 0 4 #[36, 38, 59, 65, 97], 36) := by decide +kernel
theorem dX7_line_52 : decode cX7_line 52 = .ok (.iload_n 3, 1) := by decide +kernel
theorem dX7_line_53 : decode cX7_line 53 = .ok (.ireturn, 1) := by decide +kernel
theorem dX7_line_54 : decode cX7_line 54 = .ok (.iload_n 3, 1) := by decide +kernel
theorem dX7_line_55 : decode cX7_line 55 = .ok (.aload_n 0, 1) := by decide +kernel
theorem dX7_line_56 : decode cX7_line 56 = .ok (.getfield 7, 3) := by decide +kernel
theorem dX7_line_59 : decode cX7_line 59 = .ok (.iconst 2, 1) := by decide +kernel
theorem dX7_line_60 : decode cX7_line 60 = .ok (.iaload, 1) := by decide +kernel
theorem dX7_line_61 : decode cX7_line 61 = .ok (.if_icmp .ge 7, 3) := by decide +kernel
theorem dX7_line_64 : decode cX7_line 64 = .ok (.iload_n 3, 1) := by decide +kernel
theorem dX7_line_65 : decode cX7_line 65 = .ok (.goto 9, 3) := by decide +kernel
theorem dX7_line_68 : decode cX7_line 68 = .ok (.aload_n 0, 1) := by decide +kernel
theorem dX7_line_69 : decode cX7_line 69 = .ok (.getfield 7, 3) := by decide +kernel
theorem dX7_line_72 : decode cX7_line 72 = .ok (.iconst 2, 1) := by decide +kernel
theorem dX7_line_73 : decode cX7_line 73 = .ok (.iaload, 1) := by decide +kernel
theorem dX7_line_74 : decode cX7_line 74 = .ok (.ireturn, 1) := by decide +kernel
theorem dX7_line_75 : decode cX7_line 75 = .ok (.aload_n 0, 1) := by decide +kernel
theorem dX7_line_76 : decode cX7_line 76 = .ok (.iload_n 1, 1) := by decide +kernel
theorem dX7_line_77 : decode cX7_line 77 = .ok (.invokevirtual 160, 3) := by decide +kernel
theorem dX7_line_80 : decode cX7_line 80 = .ok (.ireturn, 1) := by decide +kernel
theorem dX7_line_81 : decode cX7_line 81 = .ok (.aload_n 0, 1) := by decide +kernel
theorem dX7_line_82 : decode cX7_line 82 = .ok (.getfield 7, 3) := by decide +kernel
theorem dX7_line_85 : decode cX7_line 85 = .ok (.sipush 329, 3) := by decide +kernel
theorem dX7_line_88 : decode cX7_line 88 = .ok (.iload_n 1, 1) := by decide +kernel
theorem dX7_line_89 : decode cX7_line 89 = .ok (.iadd, 1) := by decide +kernel
theorem dX7_line_90 : decode cX7_line 90 = .ok (.iaload, 1) := by decide +kernel
theorem dX7_line_91 : decode cX7_line 91 = .ok (.ifCond .ne 8, 3) := by decide +kernel
theorem dX7_line_94 : decode cX7_line 94 = .ok (.bipush (-5), 2) := by decide +kernel
theorem dX7_line_96 : decode cX7_line 96 = .ok (.goto 16, 3) := by decide +kernel
theorem dX7_line_99 : decode cX7_line 99 = .ok (.aload_n 0, 1) := by decide +kernel
theorem dX7_line_100 : decode cX7_line 100 = .ok (.getfield 7, 3) := by decide +kernel
theorem dX7_line_103 : decode cX7_line 103 = .ok (.sipush 329, 3) := by decide +kernel
theorem dX7_line_106 : decode cX7_line 106 = .ok (.iload_n 1, 1) := by decide +kernel
theorem dX7_line_107 : decode cX7_line 107 = .ok (.iadd, 1) := by decide +kernel
theorem dX7_line_108 : decode cX7_line 108 = .ok (.iaload, 1) := by decide +kernel
theorem dX7_line_109 : decode cX7_line 109 = .ok (.bipush 16, 2) := by decide +kernel
theorem dX7_line_111 : decode cX7_line 111 = .ok (.idiv, 1) := by decide +kernel
theorem dX7_line_112 : decode cX7_line 112 = .ok (.ireturn, 1) := by decide +kernel
theorem dX7_line_113 : decode cX7_line 113 = .ok (.aload_n 0, 1) := by decide +kernel
theorem dX7_line_114 : decode cX7_line 114 = .ok (.getfield 7, 3) := by decide +kernel
theorem dX7_line_117 : decode cX7_line 117 = .ok (.sipush 329, 3) := by decide +kernel
theorem dX7_line_120 : decode cX7_line 120 = .ok (.iload_n 1, 1) := by decide +kernel
theorem dX7_line_121 : decode cX7_line 121 = .ok (.iadd, 1) := by decide +kernel
theorem dX7_line_122 : decode cX7_line 122 = .ok (.iaload, 1) := by decide +kernel
theorem dX7_line_123 : decode cX7_line 123 = .ok (.ifCond .ne 8, 3) := by decide +kernel
theorem dX7_line_126 : decode cX7_line 126 = .ok (.bipush (-5), 2) := by decide +kernel
theorem dX7_line_128 : decode cX7_line 128 = .ok (.goto 16, 3) := by decide +kernel
theorem dX7_line_131 : decode cX7_line 131 = .ok (.aload_n 0, 1) := by decide +kernel
theorem dX7_line_132 : decode cX7_line 132 = .ok (.getfield 7, 3) := by decide +kernel
theorem dX7_line_135 : decode cX7_line 135 = .ok (.sipush 329, 3) := by decide +kernel
theorem dX7_line_138 : decode cX7_line 138 = .ok (.iload_n 1, 1) := by decide +kernel
theorem dX7_line_139 : decode cX7_line 139 = .ok (.iadd, 1) := by decide +kernel
theorem dX7_line_140 : decode cX7_line 140 = .ok (.iaload, 1) := by decide +kernel
theorem dX7_line_141 : decode cX7_line 141 = .ok (.bipush 16, 2) := by decide +kernel
theorem dX7_line_143 : decode cX7_line 143 = .ok (.irem, 1) := by decide +kernel
theorem dX7_line_144 : decode cX7_line 144 = .ok (.ireturn, 1) := by decide +kernel
theorem dX7_line_145 : decode cX7_line 145 = .ok (.bipush (-2), 2) := by decide +kernel
theorem dX7_line_147 : decode cX7_line 147 = .ok (.ireturn, 1) := by decide +kernel
set_option maxRecDepth 20000 in
theorem ggX7_shareOf_X7_pixelOf : GoodIn wsX7_shareOf wsX7_pixelOf := goodIn_r _ [6, 7, 8, 9, 10, 11, 12, 13, 14, 15, 16, 17, 18, 19] (by decide +kernel) (by decide +kernel)
set_option maxRecDepth 20000 in
theorem gX7_shareOf_X7_pixelOf : GoodIn wsX7_shareOf (wsV RX7 58 RX7 yX7_pixelOf wsX7_pixelOf) := goodIn_app (goodIn_of _ (by decide +kernel)) ggX7_shareOf_X7_pixelOf
theorem dX7_shareOf_0 : decode cX7_shareOf 0 = .ok (.iconst 0, 1) := by decide +kernel
theorem dX7_shareOf_1 : decode cX7_shareOf 1 = .ok (.istore_n 2, 1) := by decide +kernel
theorem dX7_shareOf_2 : decode cX7_shareOf 2 = .ok (.iconst 0, 1) := by decide +kernel
theorem dX7_shareOf_3 : decode cX7_shareOf 3 = .ok (.istore_n 3, 1) := by decide +kernel
theorem dX7_shareOf_4 : decode cX7_shareOf 4 = .ok (.iload_n 3, 1) := by decide +kernel
theorem dX7_shareOf_5 : decode cX7_shareOf 5 = .ok (.bipush 64, 2) := by decide +kernel
theorem dX7_shareOf_7 : decode cX7_shareOf 7 = .ok (.if_icmp .ge 33, 3) := by decide +kernel
theorem dX7_shareOf_10 : decode cX7_shareOf 10 = .ok (.iload_n 2, 1) := by decide +kernel
theorem dX7_shareOf_11 : decode cX7_shareOf 11 = .ok (.aload_n 0, 1) := by decide +kernel
theorem dX7_shareOf_12 : decode cX7_shareOf 12 = .ok (.iload_n 1, 1) := by decide +kernel
theorem dX7_shareOf_13 : decode cX7_shareOf 13 = .ok (.iload_n 3, 1) := by decide +kernel
theorem dX7_shareOf_14 : decode cX7_shareOf 14 = .ok (.bipush 8, 2) := by decide +kernel
theorem dX7_shareOf_16 : decode cX7_shareOf 16 = .ok (.idiv, 1) := by decide +kernel
theorem dX7_shareOf_17 : decode cX7_shareOf 17 = .ok (.iload_n 3, 1) := by decide +kernel
theorem dX7_shareOf_18 : decode cX7_shareOf 18 = .ok (.bipush 8, 2) := by decide +kernel
theorem dX7_shareOf_20 : decode cX7_shareOf 20 = .ok (.irem, 1) := by decide +kernel
theorem dX7_shareOf_21 : decode cX7_shareOf 21 = .ok (.invokevirtual 58, 3) := by decide +kernel
theorem dX7_shareOf_24 : decode cX7_shareOf 24 = .ok (.ifCond .le 7, 3) := by decide +kernel
theorem dX7_shareOf_27 : decode cX7_shareOf 27 = .ok (.iconst 1, 1) := by decide +kernel
theorem dX7_shareOf_28 : decode cX7_shareOf 28 = .ok (.goto 4, 3) := by decide +kernel
theorem dX7_shareOf_31 : decode cX7_shareOf 31 = .ok (.iconst 0, 1) := by decide +kernel
theorem dX7_shareOf_32 : decode cX7_shareOf 32 = .ok (.iadd, 1) := by decide +kernel
theorem dX7_shareOf_33 : decode cX7_shareOf 33 = .ok (.istore_n 2, 1) := by decide +kernel
theorem dX7_shareOf_34 : decode cX7_shareOf 34 = .ok (.iinc 3 1, 3) := by decide +kernel
theorem dX7_shareOf_37 : decode cX7_shareOf 37 = .ok (.goto (-33), 3) := by decide +kernel
theorem dX7_shareOf_40 : decode cX7_shareOf 40 = .ok (.iload_n 2, 1) := by decide +kernel
theorem dX7_shareOf_41 : decode cX7_shareOf 41 = .ok (.i2f, 1) := by decide +kernel
theorem dX7_shareOf_42 : decode cX7_shareOf 42 = .ok (.ldc 163, 2) := by decide +kernel
theorem dX7_shareOf_44 : decode cX7_shareOf 44 = .ok (.fdiv, 1) := by decide +kernel
theorem dX7_shareOf_45 : decode cX7_shareOf 45 = .ok (.freturn, 1) := by decide +kernel
set_option maxRecDepth 20000 in
theorem ggX7_share_X7_noPart : GoodIn wsX7_share wsX7_noPart := goodIn_r _ [5, 6, 7, 8, 4, 9, 19, 20, 21, 22, 23, 24, 25, 26, 27, 28, 29, 30] (by decide +kernel) (by decide +kernel)
set_option maxRecDepth 20000 in
theorem gX7_share_X7_noPart : GoodIn wsX7_share (wsV RX7 70 RX7 yX7_noPart wsX7_noPart) := goodIn_app (goodIn_of _ (by decide +kernel)) ggX7_share_X7_noPart
set_option maxRecDepth 20000 in
theorem ggX7_share_X7_shareOf : GoodIn wsX7_share wsX7_shareOf := goodIn_r _ [13, 14, 15, 16, 17, 4, 18, 6, 19, 20, 21, 22, 23, 24, 25, 26, 27, 28, 29, 30] (by decide +kernel) (by decide +kernel)
set_option maxRecDepth 20000 in
theorem gX7_share_X7_shareOf : GoodIn wsX7_share (wsV RX7 164 RX7 yX7_shareOf wsX7_shareOf) := goodIn_app (goodIn_of _ (by decide +kernel)) ggX7_share_X7_shareOf
theorem dX7_share_0 : decode cX7_share 0 = .ok (.aload_n 0, 1) := by decide +kernel
theorem dX7_share_1 : decode cX7_share 1 = .ok (.iload_n 1, 1) := by decide +kernel
theorem dX7_share_2 : decode cX7_share 2 = .ok (.invokevirtual 70, 3) := by decide +kernel
theorem dX7_share_5 : decode cX7_share 5 = .ok (.ifCond .eq 7, 3) := by decide +kernel
theorem dX7_share_8 : decode cX7_share 8 = .ok (.fconst 0, 1) := by decide +kernel
theorem dX7_share_9 : decode cX7_share 9 = .ok (.goto 8, 3) := by decide +kernel
theorem dX7_share_12 : decode cX7_share 12 = .ok (.aload_n 0, 1) := by decide +kernel
theorem dX7_share_13 : decode cX7_share 13 = .ok (.iload_n 1, 1) := by decide +kernel
theorem dX7_share_14 : decode cX7_share 14 = .ok (.invokevirtual 164, 3) := by decide +kernel
theorem dX7_share_17 : decode cX7_share 17 = .ok (.freturn, 1) := by decide +kernel
set_option maxRecDepth 20000 in
theorem ggX7_weight_X7_sprites : GoodIn wsX7_weight wsX7_sprites := goodIn_r _ [5, 6, 42, 43, 44, 45, 46, 47, 48, 49, 50, 51, 52, 53] (by decide +kernel) (by decide +kernel)
set_option maxRecDepth 20000 in
theorem gX7_weight_X7_sprites : GoodIn wsX7_weight (wsV RX7 54 RX7 yX7_sprites wsX7_sprites) := goodIn_app (goodIn_of _ (by decide +kernel)) ggX7_weight_X7_sprites
set_option maxRecDepth 20000 in
theorem ggX7_weight_X7_noLine : GoodIn wsX7_weight wsX7_noLine := goodIn_r _ [9, 10, 11, 4, 12] (by decide +kernel) (by decide +kernel)
set_option maxRecDepth 20000 in
theorem gX7_weight_X7_noLine : GoodIn wsX7_weight (va_wsS RX7 122 yX7_noLine wsX7_noLine) := goodIn_app (goodIn_of _ (by decide +kernel)) ggX7_weight_X7_noLine
set_option maxRecDepth 20000 in
theorem ggX7_weight_X7_isShown : GoodIn wsX7_weight wsX7_isShown := goodIn_r _ [16, 6, 17, 18, 19, 4, 20, 21, 22, 23, 24, 25, 26, 27, 28, 29, 30, 31, 32, 10, 11, 12, 1, 2, 3, 5, 42, 43, 44, 45, 46, 47, 48, 49, 50, 51, 52, 53] (by decide +kernel) (by decide +kernel)
set_option maxRecDepth 20000 in
theorem gX7_weight_X7_isShown : GoodIn wsX7_weight (wsV RX7 139 RX7 yX7_isShown wsX7_isShown) := goodIn_app (goodIn_of _ (by decide +kernel)) ggX7_weight_X7_isShown
set_option maxRecDepth 20000 in
theorem ggX7_weight_X7_of : GoodIn wsX7_weight wsX7_of := goodIn_r _ [28, 6, 42, 43, 44, 45, 46, 47, 48, 49, 50, 51, 52, 53] (by decide +kernel) (by decide +kernel)
set_option maxRecDepth 20000 in
theorem gX7_weight_X7_of : GoodIn wsX7_weight (wsV RX7 81 RX7 yX7_of wsX7_of) := goodIn_app (goodIn_of _ (by decide +kernel)) ggX7_weight_X7_of
set_option maxRecDepth 20000 in
theorem ggX7_weight_X7_shareOf : GoodIn wsX7_weight wsX7_shareOf := goodIn_r _ [36, 37, 38, 39, 40, 4, 41, 6, 42, 43, 44, 45, 46, 47, 48, 49, 50, 51, 52, 53] (by decide +kernel) (by decide +kernel)
set_option maxRecDepth 20000 in
theorem gX7_weight_X7_shareOf : GoodIn wsX7_weight (wsV RX7 164 RX7 yX7_shareOf wsX7_shareOf) := goodIn_app (goodIn_of _ (by decide +kernel)) ggX7_weight_X7_shareOf
theorem dX7_weight_0 : decode cX7_weight 0 = .ok (.fconst 0, 1) := by decide +kernel
theorem dX7_weight_1 : decode cX7_weight 1 = .ok (.fstore_n 2, 1) := by decide +kernel
theorem dX7_weight_2 : decode cX7_weight 2 = .ok (.iconst 0, 1) := by decide +kernel
theorem dX7_weight_3 : decode cX7_weight 3 = .ok (.istore_n 3, 1) := by decide +kernel
theorem dX7_weight_4 : decode cX7_weight 4 = .ok (.iload_n 3, 1) := by decide +kernel
theorem dX7_weight_5 : decode cX7_weight 5 = .ok (.aload_n 0, 1) := by decide +kernel
theorem dX7_weight_6 : decode cX7_weight 6 = .ok (.invokevirtual 54, 3) := by decide +kernel
theorem dX7_weight_9 : decode cX7_weight 9 = .ok (.if_icmp .ge 38, 3) := by decide +kernel
theorem dX7_weight_12 : decode cX7_weight 12 = .ok (.iload_n 1, 1) := by decide +kernel
theorem dX7_weight_13 : decode cX7_weight 13 = .ok (.invokestatic 122, 3) := by decide +kernel
theorem dX7_weight_16 : decode cX7_weight 16 = .ok (.ifCond .ne 31, 3) := by decide +kernel
theorem dX7_weight_19 : decode cX7_weight 19 = .ok (.aload_n 0, 1) := by decide +kernel
theorem dX7_weight_20 : decode cX7_weight 20 = .ok (.iload_n 1, 1) := by decide +kernel
theorem dX7_weight_21 : decode cX7_weight 21 = .ok (.iload_n 3, 1) := by decide +kernel
theorem dX7_weight_22 : decode cX7_weight 22 = .ok (.invokevirtual 139, 3) := by decide +kernel
theorem dX7_weight_25 : decode cX7_weight 25 = .ok (.ifCond .eq 16, 3) := by decide +kernel
theorem dX7_weight_28 : decode cX7_weight 28 = .ok (.fload_n 2, 1) := by decide +kernel
theorem dX7_weight_29 : decode cX7_weight 29 = .ok (.aload_n 0, 1) := by decide +kernel
theorem dX7_weight_30 : decode cX7_weight 30 = .ok (.aload_n 0, 1) := by decide +kernel
theorem dX7_weight_31 : decode cX7_weight 31 = .ok (.iload_n 3, 1) := by decide +kernel
theorem dX7_weight_32 : decode cX7_weight 32 = .ok (.iconst 0, 1) := by decide +kernel
theorem dX7_weight_33 : decode cX7_weight 33 = .ok (.invokevirtual 81, 3) := by decide +kernel
theorem dX7_weight_36 : decode cX7_weight 36 = .ok (.invokevirtual 164, 3) := by decide +kernel
theorem dX7_weight_39 : decode cX7_weight 39 = .ok (.fadd, 1) := by decide +kernel
theorem dX7_weight_40 : decode cX7_weight 40 = .ok (.fstore_n 2, 1) := by decide +kernel
theorem dX7_weight_41 : decode cX7_weight 41 = .ok (.iinc 3 1, 3) := by decide +kernel
theorem dX7_weight_44 : decode cX7_weight 44 = .ok (.goto (-40), 3) := by decide +kernel
theorem dX7_weight_47 : decode cX7_weight 47 = .ok (.fload_n 2, 1) := by decide +kernel
theorem dX7_weight_48 : decode cX7_weight 48 = .ok (.freturn, 1) := by decide +kernel
set_option maxRecDepth 20000 in
theorem ggX7_pixel_X7_noPart : GoodIn wsX7_pixel wsX7_noPart := goodIn_r _ [5, 6, 7, 8, 4, 9, 14, 15, 16, 17, 18, 19, 20, 21, 22, 23, 24, 25] (by decide +kernel) (by decide +kernel)
set_option maxRecDepth 20000 in
theorem gX7_pixel_X7_noPart : GoodIn wsX7_pixel (wsV RX7 70 RX7 yX7_noPart wsX7_noPart) := goodIn_app (goodIn_of _ (by decide +kernel)) ggX7_pixel_X7_noPart
set_option maxRecDepth 20000 in
theorem ggX7_pixel_X7_in : GoodIn wsX7_pixel wsX7_in := goodIn_r _ [9] (by decide +kernel) (by decide +kernel)
set_option maxRecDepth 20000 in
theorem gX7_pixel_X7_in : GoodIn wsX7_pixel (va_wsS RX7 43 yX7_in wsX7_in) := goodIn_app (goodIn_of _ (by decide +kernel)) ggX7_pixel_X7_in
set_option maxRecDepth 20000 in
theorem ggX7_pixel_X7_pixelOf : GoodIn wsX7_pixel wsX7_pixelOf := goodIn_r _ [13, 6, 14, 15, 16, 17, 18, 19, 20, 21, 22, 23, 24, 25] (by decide +kernel) (by decide +kernel)
set_option maxRecDepth 20000 in
theorem gX7_pixel_X7_pixelOf : GoodIn wsX7_pixel (wsV RX7 58 RX7 yX7_pixelOf wsX7_pixelOf) := goodIn_app (goodIn_of _ (by decide +kernel)) ggX7_pixel_X7_pixelOf
theorem dX7_pixel_0 : decode cX7_pixel 0 = .ok (.aload_n 0, 1) := by decide +kernel
theorem dX7_pixel_1 : decode cX7_pixel 1 = .ok (.iload_n 1, 1) := by decide +kernel
theorem dX7_pixel_2 : decode cX7_pixel 2 = .ok (.invokevirtual 70, 3) := by decide +kernel
theorem dX7_pixel_5 : decode cX7_pixel 5 = .ok (.ifCond .eq 5, 3) := by decide +kernel
theorem dX7_pixel_8 : decode cX7_pixel 8 = .ok (.iconst (-1), 1) := by decide +kernel
theorem dX7_pixel_9 : decode cX7_pixel 9 = .ok (.ireturn, 1) := by decide +kernel
theorem dX7_pixel_10 : decode cX7_pixel 10 = .ok (.iload_n 2, 1) := by decide +kernel
theorem dX7_pixel_11 : decode cX7_pixel 11 = .ok (.iconst 0, 1) := by decide +kernel
theorem dX7_pixel_12 : decode cX7_pixel 12 = .ok (.bipush 7, 2) := by decide +kernel
theorem dX7_pixel_14 : decode cX7_pixel 14 = .ok (.invokestatic 43, 3) := by decide +kernel
theorem dX7_pixel_17 : decode cX7_pixel 17 = .ok (.ifCond .eq 23, 3) := by decide +kernel
theorem dX7_pixel_20 : decode cX7_pixel 20 = .ok (.iload_n 3, 1) := by decide +kernel
theorem dX7_pixel_21 : decode cX7_pixel 21 = .ok (.iconst 0, 1) := by decide +kernel
theorem dX7_pixel_22 : decode cX7_pixel 22 = .ok (.bipush 7, 2) := by decide +kernel
theorem dX7_pixel_24 : decode cX7_pixel 24 = .ok (.invokestatic 43, 3) := by decide +kernel
theorem dX7_pixel_27 : decode cX7_pixel 27 = .ok (.ifCond .eq 13, 3) := by decide +kernel
theorem dX7_pixel_30 : decode cX7_pixel 30 = .ok (.aload_n 0, 1) := by decide +kernel
theorem dX7_pixel_31 : decode cX7_pixel 31 = .ok (.iload_n 1, 1) := by decide +kernel
theorem dX7_pixel_32 : decode cX7_pixel 32 = .ok (.iload_n 2, 1) := by decide +kernel
theorem dX7_pixel_33 : decode cX7_pixel 33 = .ok (.iload_n 3, 1) := by decide +kernel
theorem dX7_pixel_34 : decode cX7_pixel 34 = .ok (.invokevirtual 58, 3) := by decide +kernel
theorem dX7_pixel_37 : decode cX7_pixel 37 = .ok (.goto 5, 3) := by decide +kernel
theorem dX7_pixel_40 : decode cX7_pixel 40 = .ok (.bipush (-2), 2) := by decide +kernel
theorem dX7_pixel_42 : decode cX7_pixel 42 = .ok (.ireturn, 1) := by decide +kernel
set_option maxRecDepth 20000 in
theorem ggX7_shown_X7_noLine : GoodIn wsX7_shown wsX7_noLine := goodIn_r _ [5, 6, 7, 4, 8] (by decide +kernel) (by decide +kernel)
set_option maxRecDepth 20000 in
theorem gX7_shown_X7_noLine : GoodIn wsX7_shown (va_wsS RX7 122 yX7_noLine wsX7_noLine) := goodIn_app (goodIn_of _ (by decide +kernel)) ggX7_shown_X7_noLine
set_option maxRecDepth 20000 in
theorem ggX7_shown_X7_sprites : GoodIn wsX7_shown wsX7_sprites := goodIn_r _ [12, 1, 29, 30, 31, 32, 33, 34, 35, 36, 37, 38, 39, 40] (by decide +kernel) (by decide +kernel)
set_option maxRecDepth 20000 in
theorem gX7_shown_X7_sprites : GoodIn wsX7_shown (wsV RX7 54 RX7 yX7_sprites wsX7_sprites) := goodIn_app (goodIn_of _ (by decide +kernel)) ggX7_shown_X7_sprites
set_option maxRecDepth 20000 in
theorem ggX7_shown_X7_turnOf : GoodIn wsX7_shown wsX7_turnOf := goodIn_r _ [16, 1, 17, 18, 19, 4, 20, 21, 22, 23, 24, 25, 26, 27, 28, 6, 7, 8, 9, 10, 11, 12, 29, 30, 31, 32, 33, 34, 35, 36, 37, 38, 39, 40] (by decide +kernel) (by decide +kernel)
set_option maxRecDepth 20000 in
theorem gX7_shown_X7_turnOf : GoodIn wsX7_shown (wsV RX7 133 RX7 yX7_turnOf wsX7_turnOf) := goodIn_app (goodIn_of _ (by decide +kernel)) ggX7_shown_X7_turnOf
theorem dX7_shown_0 : decode cX7_shown 0 = .ok (.iload_n 1, 1) := by decide +kernel
theorem dX7_shown_1 : decode cX7_shown 1 = .ok (.invokestatic 122, 3) := by decide +kernel
theorem dX7_shown_4 : decode cX7_shown 4 = .ok (.ifCond .eq 5, 3) := by decide +kernel
theorem dX7_shown_7 : decode cX7_shown 7 = .ok (.iconst (-1), 1) := by decide +kernel
theorem dX7_shown_8 : decode cX7_shown 8 = .ok (.ireturn, 1) := by decide +kernel
theorem dX7_shown_9 : decode cX7_shown 9 = .ok (.iload_n 2, 1) := by decide +kernel
theorem dX7_shown_10 : decode cX7_shown 10 = .ok (.ifCond .ge 6, 3) := by decide +kernel
theorem dX7_shown_13 : decode cX7_shown 13 = .ok (.bipush (-2), 2) := by decide +kernel
theorem dX7_shown_15 : decode cX7_shown 15 = .ok (.ireturn, 1) := by decide +kernel
theorem dX7_shown_16 : decode cX7_shown 16 = .ok (.iconst 0, 1) := by decide +kernel
theorem dX7_shown_17 : decode cX7_shown 17 = .ok (.istore_n 3, 1) := by decide +kernel
theorem dX7_shown_18 : decode cX7_shown 18 = .ok (.iload_n 3, 1) := by decide +kernel
theorem dX7_shown_19 : decode cX7_shown 19 = .ok (.aload_n 0, 1) := by decide +kernel
theorem dX7_shown_20 : decode cX7_shown 20 = .ok (.invokevirtual 54, 3) := by decide +kernel
theorem dX7_shown_23 : decode cX7_shown 23 = .ok (.if_icmp .ge 27, 3) := by decide +kernel
theorem dX7_shown_26 : decode cX7_shown 26 = .ok (.aload_n 0, 1) := by decide +kernel
theorem dX7_shown_27 : decode cX7_shown 27 = .ok (.iload_n 1, 1) := by decide +kernel
theorem dX7_shown_28 : decode cX7_shown 28 = .ok (.iload_n 3, 1) := by decide +kernel
theorem dX7_shown_29 : decode cX7_shown 29 = .ok (.aload_n 0, 1) := by decide +kernel
theorem dX7_shown_30 : decode cX7_shown 30 = .ok (.getfield 7, 3) := by decide +kernel
theorem dX7_shown_33 : decode cX7_shown 33 = .ok (.iconst 4, 1) := by decide +kernel
theorem dX7_shown_34 : decode cX7_shown 34 = .ok (.iaload, 1) := by decide +kernel
theorem dX7_shown_35 : decode cX7_shown 35 = .ok (.invokevirtual 133, 3) := by decide +kernel
theorem dX7_shown_38 : decode cX7_shown 38 = .ok (.iload_n 2, 1) := by decide +kernel
theorem dX7_shown_39 : decode cX7_shown 39 = .ok (.if_icmp .ne 5, 3) := by decide +kernel
theorem dX7_shown_42 : decode cX7_shown 42 = .ok (.iload_n 3, 1) := by decide +kernel
theorem dX7_shown_43 : decode cX7_shown 43 = .ok (.ireturn, 1) := by decide +kernel
theorem dX7_shown_44 : decode cX7_shown 44 = .ok (.iinc 3 1, 3) := by decide +kernel
theorem dX7_shown_47 : decode cX7_shown 47 = .ok (.goto (-29), 3) := by decide +kernel
theorem dX7_shown_50 : decode cX7_shown 50 = .ok (.bipush (-5), 2) := by decide +kernel
theorem dX7_shown_52 : decode cX7_shown 52 = .ok (.ireturn, 1) := by decide +kernel
set_option maxRecDepth 20000 in
theorem ggX7_shownIn_X7_noLine : GoodIn wsX7_shownIn wsX7_noLine := goodIn_r _ [5, 6, 7, 4, 8] (by decide +kernel) (by decide +kernel)
set_option maxRecDepth 20000 in
theorem gX7_shownIn_X7_noLine : GoodIn wsX7_shownIn (va_wsS RX7 122 yX7_noLine wsX7_noLine) := goodIn_app (goodIn_of _ (by decide +kernel)) ggX7_shownIn_X7_noLine
set_option maxRecDepth 20000 in
theorem ggX7_shownIn_X7_noSprite : GoodIn wsX7_shownIn wsX7_noSprite := goodIn_r _ [12, 13, 14, 15, 4, 16, 1, 6, 7, 8, 33, 34, 35, 36, 37, 38, 39, 40, 41, 42, 43, 44] (by decide +kernel) (by decide +kernel)
set_option maxRecDepth 20000 in
theorem gX7_shownIn_X7_noSprite : GoodIn wsX7_shownIn (wsV RX7 116 RX7 yX7_noSprite wsX7_noSprite) := goodIn_app (goodIn_of _ (by decide +kernel)) ggX7_shownIn_X7_noSprite
set_option maxRecDepth 20000 in
theorem ggX7_shownIn_X7_turnOf : GoodIn wsX7_shownIn wsX7_turnOf := goodIn_r _ [20, 1, 21, 22, 23, 4, 24, 25, 26, 27, 28, 29, 30, 31, 32, 6, 7, 8, 13, 14, 15, 16, 33, 34, 35, 36, 37, 38, 39, 40, 41, 42, 43, 44] (by decide +kernel) (by decide +kernel)
set_option maxRecDepth 20000 in
theorem gX7_shownIn_X7_turnOf : GoodIn wsX7_shownIn (wsV RX7 133 RX7 yX7_turnOf wsX7_turnOf) := goodIn_app (goodIn_of _ (by decide +kernel)) ggX7_shownIn_X7_turnOf
theorem dX7_shownIn_0 : decode cX7_shownIn 0 = .ok (.iload_n 1, 1) := by decide +kernel
theorem dX7_shownIn_1 : decode cX7_shownIn 1 = .ok (.invokestatic 122, 3) := by decide +kernel
theorem dX7_shownIn_4 : decode cX7_shownIn 4 = .ok (.ifCond .ne 11, 3) := by decide +kernel
theorem dX7_shownIn_7 : decode cX7_shownIn 7 = .ok (.aload_n 0, 1) := by decide +kernel
theorem dX7_shownIn_8 : decode cX7_shownIn 8 = .ok (.iload_n 2, 1) := by decide +kernel
theorem dX7_shownIn_9 : decode cX7_shownIn 9 = .ok (.invokevirtual 116, 3) := by decide +kernel
theorem dX7_shownIn_12 : decode cX7_shownIn 12 = .ok (.ifCond .eq 5, 3) := by decide +kernel
theorem dX7_shownIn_15 : decode cX7_shownIn 15 = .ok (.iconst (-1), 1) := by decide +kernel
theorem dX7_shownIn_16 : decode cX7_shownIn 16 = .ok (.ireturn, 1) := by decide +kernel
theorem dX7_shownIn_17 : decode cX7_shownIn 17 = .ok (.iconst 0, 1) := by decide +kernel
theorem dX7_shownIn_18 : decode cX7_shownIn 18 = .ok (.istore_n 3, 1) := by decide +kernel
theorem dX7_shownIn_19 : decode cX7_shownIn 19 = .ok (.iload_n 3, 1) := by decide +kernel
theorem dX7_shownIn_20 : decode cX7_shownIn 20 = .ok (.bipush 20, 2) := by decide +kernel
theorem dX7_shownIn_22 : decode cX7_shownIn 22 = .ok (.if_icmp .gt 28, 3) := by decide +kernel
theorem dX7_shownIn_25 : decode cX7_shownIn 25 = .ok (.aload_n 0, 1) := by decide +kernel
theorem dX7_shownIn_26 : decode cX7_shownIn 26 = .ok (.iload_n 1, 1) := by decide +kernel
theorem dX7_shownIn_27 : decode cX7_shownIn 27 = .ok (.iload_n 2, 1) := by decide +kernel
theorem dX7_shownIn_28 : decode cX7_shownIn 28 = .ok (.aload_n 0, 1) := by decide +kernel
theorem dX7_shownIn_29 : decode cX7_shownIn 29 = .ok (.getfield 7, 3) := by decide +kernel
theorem dX7_shownIn_32 : decode cX7_shownIn 32 = .ok (.iconst 4, 1) := by decide +kernel
theorem dX7_shownIn_33 : decode cX7_shownIn 33 = .ok (.iaload, 1) := by decide +kernel
theorem dX7_shownIn_34 : decode cX7_shownIn 34 = .ok (.iload_n 3, 1) := by decide +kernel
theorem dX7_shownIn_35 : decode cX7_shownIn 35 = .ok (.iadd, 1) := by decide +kernel
theorem dX7_shownIn_36 : decode cX7_shownIn 36 = .ok (.invokevirtual 133, 3) := by decide +kernel
theorem dX7_shownIn_39 : decode cX7_shownIn 39 = .ok (.ifCond .lt 5, 3) := by decide +kernel
theorem dX7_shownIn_42 : decode cX7_shownIn 42 = .ok (.iload_n 3, 1) := by decide +kernel
theorem dX7_shownIn_43 : decode cX7_shownIn 43 = .ok (.ireturn, 1) := by decide +kernel
theorem dX7_shownIn_44 : decode cX7_shownIn 44 = .ok (.iinc 3 1, 3) := by decide +kernel
theorem dX7_shownIn_47 : decode cX7_shownIn 47 = .ok (.goto (-28), 3) := by decide +kernel
theorem dX7_shownIn_50 : decode cX7_shownIn 50 = .ok (.bipush (-5), 2) := by decide +kernel
theorem dX7_shownIn_52 : decode cX7_shownIn 52 = .ok (.ireturn, 1) := by decide +kernel
set_option maxRecDepth 20000 in
theorem ggX7_pairs_X7_sprites : GoodIn wsX7_pairs wsX7_sprites := goodIn_r _ [5, 6, 46, 47, 48, 49, 50, 51, 52, 53, 54, 55, 56, 57] (by decide +kernel) (by decide +kernel)
set_option maxRecDepth 20000 in
theorem gX7_pairs_X7_sprites : GoodIn wsX7_pairs (wsV RX7 54 RX7 yX7_sprites wsX7_sprites) := goodIn_app (goodIn_of _ (by decide +kernel)) ggX7_pairs_X7_sprites
set_option maxRecDepth 20000 in
theorem ggX7_pairs_X7_doMeet : GoodIn wsX7_pairs wsX7_doMeet := goodIn_r _ [10, 11, 12, 13, 4, 14, 6, 15, 16, 17, 18, 19, 20, 21, 22, 23, 24, 25, 26, 27, 28, 29, 30, 31, 32, 33, 1, 2, 3, 5, 34, 35, 36, 37, 38, 39, 40, 41, 42, 43, 44, 45, 46, 47, 48, 49, 50, 51, 52, 53, 54, 55, 56, 57] (by decide +kernel) (by decide +kernel)
set_option maxRecDepth 20000 in
theorem gX7_pairs_X7_doMeet : GoodIn wsX7_pairs (wsV RX7 148 RX7 yX7_doMeet wsX7_doMeet) := goodIn_app (goodIn_of _ (by decide +kernel)) ggX7_pairs_X7_doMeet
theorem dX7_pairs_0 : decode cX7_pairs 0 = .ok (.iconst 0, 1) := by decide +kernel
theorem dX7_pairs_1 : decode cX7_pairs 1 = .ok (.istore_n 1, 1) := by decide +kernel
theorem dX7_pairs_2 : decode cX7_pairs 2 = .ok (.iconst 0, 1) := by decide +kernel
theorem dX7_pairs_3 : decode cX7_pairs 3 = .ok (.istore_n 2, 1) := by decide +kernel
theorem dX7_pairs_4 : decode cX7_pairs 4 = .ok (.iload_n 2, 1) := by decide +kernel
theorem dX7_pairs_5 : decode cX7_pairs 5 = .ok (.aload_n 0, 1) := by decide +kernel
theorem dX7_pairs_6 : decode cX7_pairs 6 = .ok (.invokevirtual 54, 3) := by decide +kernel
theorem dX7_pairs_9 : decode cX7_pairs 9 = .ok (.if_icmp .ge 44, 3) := by decide +kernel
theorem dX7_pairs_12 : decode cX7_pairs 12 = .ok (.iload_n 2, 1) := by decide +kernel
theorem dX7_pairs_13 : decode cX7_pairs 13 = .ok (.iconst 1, 1) := by decide +kernel
theorem dX7_pairs_14 : decode cX7_pairs 14 = .ok (.iadd, 1) := by decide +kernel
theorem dX7_pairs_15 : decode cX7_pairs 15 = .ok (.istore_n 3, 1) := by decide +kernel
theorem dX7_pairs_16 : decode cX7_pairs 16 = .ok (.iload_n 3, 1) := by decide +kernel
theorem dX7_pairs_17 : decode cX7_pairs 17 = .ok (.aload_n 0, 1) := by decide +kernel
theorem dX7_pairs_18 : decode cX7_pairs 18 = .ok (.invokevirtual 54, 3) := by decide +kernel
theorem dX7_pairs_21 : decode cX7_pairs 21 = .ok (.if_icmp .ge 26, 3) := by decide +kernel
theorem dX7_pairs_24 : decode cX7_pairs 24 = .ok (.iload_n 1, 1) := by decide +kernel
theorem dX7_pairs_25 : decode cX7_pairs 25 = .ok (.aload_n 0, 1) := by decide +kernel
theorem dX7_pairs_26 : decode cX7_pairs 26 = .ok (.iload_n 2, 1) := by decide +kernel
theorem dX7_pairs_27 : decode cX7_pairs 27 = .ok (.iload_n 3, 1) := by decide +kernel
theorem dX7_pairs_28 : decode cX7_pairs 28 = .ok (.invokevirtual 148, 3) := by decide +kernel
theorem dX7_pairs_31 : decode cX7_pairs 31 = .ok (.ifCond .eq 7, 3) := by decide +kernel
theorem dX7_pairs_34 : decode cX7_pairs 34 = .ok (.iconst 1, 1) := by decide +kernel
theorem dX7_pairs_35 : decode cX7_pairs 35 = .ok (.goto 4, 3) := by decide +kernel
theorem dX7_pairs_38 : decode cX7_pairs 38 = .ok (.iconst 0, 1) := by decide +kernel
theorem dX7_pairs_39 : decode cX7_pairs 39 = .ok (.iadd, 1) := by decide +kernel
theorem dX7_pairs_40 : decode cX7_pairs 40 = .ok (.istore_n 1, 1) := by decide +kernel
theorem dX7_pairs_41 : decode cX7_pairs 41 = .ok (.iinc 3 1, 3) := by decide +kernel
theorem dX7_pairs_44 : decode cX7_pairs 44 = .ok (.goto (-28), 3) := by decide +kernel
theorem dX7_pairs_47 : decode cX7_pairs 47 = .ok (.iinc 2 1, 3) := by decide +kernel
theorem dX7_pairs_50 : decode cX7_pairs 50 = .ok (.goto (-46), 3) := by decide +kernel
theorem dX7_pairs_53 : decode cX7_pairs 53 = .ok (.iload_n 1, 1) := by decide +kernel
theorem dX7_pairs_54 : decode cX7_pairs 54 = .ok (.ireturn, 1) := by decide +kernel
set_option maxRecDepth 20000 in
theorem ggX7_weights_X7_weight : GoodIn wsX7_weights wsX7_weight := goodIn_r _ [5, 6, 7, 8, 4, 9, 10, 11, 12, 13, 14, 15, 16, 17, 18, 19, 20, 21, 22, 23, 24, 25, 26, 27, 28, 29, 30, 31, 32, 33, 34, 35, 36, 37, 38, 39, 40, 41, 42, 43, 44, 45, 46, 47, 48, 49, 50, 51, 52, 53, 54, 55, 56, 57] (by decide +kernel) (by decide +kernel)
set_option maxRecDepth 20000 in
theorem gX7_weights_X7_weight : GoodIn wsX7_weights (wsV RX7 168 RX7 yX7_weight wsX7_weight) := goodIn_app (goodIn_of _ (by decide +kernel)) ggX7_weights_X7_weight
theorem dX7_weights_0 : decode cX7_weights 0 = .ok (.iconst 0, 1) := by decide +kernel
theorem dX7_weights_1 : decode cX7_weights 1 = .ok (.istore_n 1, 1) := by decide +kernel
theorem dX7_weights_2 : decode cX7_weights 2 = .ok (.iconst 0, 1) := by decide +kernel
theorem dX7_weights_3 : decode cX7_weights 3 = .ok (.istore_n 2, 1) := by decide +kernel
theorem dX7_weights_4 : decode cX7_weights 4 = .ok (.iload_n 2, 1) := by decide +kernel
theorem dX7_weights_5 : decode cX7_weights 5 = .ok (.bipush 32, 2) := by decide +kernel
theorem dX7_weights_7 : decode cX7_weights 7 = .ok (.if_icmp .ge 18, 3) := by decide +kernel
theorem dX7_weights_10 : decode cX7_weights 10 = .ok (.iload_n 1, 1) := by decide +kernel
theorem dX7_weights_11 : decode cX7_weights 11 = .ok (.aload_n 0, 1) := by decide +kernel
theorem dX7_weights_12 : decode cX7_weights 12 = .ok (.iload_n 2, 1) := by decide +kernel
theorem dX7_weights_13 : decode cX7_weights 13 = .ok (.invokevirtual 168, 3) := by decide +kernel
theorem dX7_weights_16 : decode cX7_weights 16 = .ok (.f2i, 1) := by decide +kernel
theorem dX7_weights_17 : decode cX7_weights 17 = .ok (.iadd, 1) := by decide +kernel
theorem dX7_weights_18 : decode cX7_weights 18 = .ok (.istore_n 1, 1) := by decide +kernel
theorem dX7_weights_19 : decode cX7_weights 19 = .ok (.iinc 2 1, 3) := by decide +kernel
theorem dX7_weights_22 : decode cX7_weights 22 = .ok (.goto (-18), 3) := by decide +kernel
theorem dX7_weights_25 : decode cX7_weights 25 = .ok (.iload_n 1, 1) := by decide +kernel
theorem dX7_weights_26 : decode cX7_weights 26 = .ok (.ireturn, 1) := by decide +kernel
set_option maxRecDepth 20000 in
theorem ggX7_count_X7_sprites : GoodIn wsX7_count wsX7_sprites := goodIn_r _ [8, 1, 80, 81, 82, 83, 84, 85, 86, 87, 88, 89, 90, 91] (by decide +kernel) (by decide +kernel)
set_option maxRecDepth 20000 in
theorem gX7_count_X7_sprites : GoodIn wsX7_count (wsV RX7 54 RX7 yX7_sprites wsX7_sprites) := goodIn_app (goodIn_of _ (by decide +kernel)) ggX7_count_X7_sprites
set_option maxRecDepth 20000 in
theorem ggX7_count_X7_of : GoodIn wsX7_count wsX7_of := goodIn_r _ [12, 1, 80, 81, 82, 83, 84, 85, 86, 87, 88, 89, 90, 91] (by decide +kernel) (by decide +kernel)
set_option maxRecDepth 20000 in
theorem gX7_count_X7_of : GoodIn wsX7_count (wsV RX7 81 RX7 yX7_of wsX7_of) := goodIn_app (goodIn_of _ (by decide +kernel)) ggX7_count_X7_of
set_option maxRecDepth 20000 in
theorem ggX7_count_X7_wanted : GoodIn wsX7_count wsX7_wanted := goodIn_r _ [16, 4, 5, 6, 7, 8, 1, 17, 18, 19, 20, 9, 10, 11, 12, 21, 22, 23, 24, 25, 26, 27, 80, 81, 82, 83, 84, 85, 86, 87, 88, 89, 90, 91] (by decide +kernel) (by decide +kernel)
set_option maxRecDepth 20000 in
theorem gX7_count_X7_wanted : GoodIn wsX7_count (wsV RX7 157 RX7 yX7_wanted wsX7_wanted) := goodIn_app (goodIn_of _ (by decide +kernel)) ggX7_count_X7_wanted
set_option maxRecDepth 20000 in
theorem ggX7_count_X7_shownBy : GoodIn wsX7_count wsX7_shownBy := goodIn_r _ [31, 4, 5, 6, 7, 8, 1, 9, 10, 11, 12, 80, 81, 82, 83, 84, 85, 86, 87, 88, 89, 90, 91] (by decide +kernel) (by decide +kernel)
set_option maxRecDepth 20000 in
theorem gX7_count_X7_shownBy : GoodIn wsX7_count (wsV RX7 93 RX7 yX7_shownBy wsX7_shownBy) := goodIn_app (goodIn_of _ (by decide +kernel)) ggX7_count_X7_shownBy
set_option maxRecDepth 20000 in
theorem ggX7_count_X7_swaps : GoodIn wsX7_count wsX7_swaps := goodIn_r _ [35, 1, 80, 81, 82, 83, 84, 85, 86, 87, 88, 89, 90, 91] (by decide +kernel) (by decide +kernel)
set_option maxRecDepth 20000 in
theorem gX7_count_X7_swaps : GoodIn wsX7_count (wsV RX7 125 RX7 yX7_swaps wsX7_swaps) := goodIn_app (goodIn_of _ (by decide +kernel)) ggX7_count_X7_swaps
set_option maxRecDepth 20000 in
theorem ggX7_count_X7_pairs : GoodIn wsX7_count wsX7_pairs := goodIn_r _ [39, 4, 5, 6, 7, 8, 1, 40, 41, 42, 43, 44, 45, 46, 47, 48, 49, 50, 51, 17, 18, 19, 20, 9, 10, 11, 12, 21, 22, 23, 24, 25, 26, 27, 52, 53, 54, 55, 56, 57, 58, 59, 60, 61, 62, 63, 80, 81, 82, 83, 84, 85, 86, 87, 88, 89, 90, 91] (by decide +kernel) (by decide +kernel)
set_option maxRecDepth 20000 in
theorem gX7_count_X7_pairs : GoodIn wsX7_count (wsV RX7 171 RX7 yX7_pairs wsX7_pairs) := goodIn_app (goodIn_of _ (by decide +kernel)) ggX7_count_X7_pairs
set_option maxRecDepth 20000 in
theorem ggX7_count_X7_weights : GoodIn wsX7_count wsX7_weights := goodIn_r _ [67, 68, 69, 70, 7, 71, 4, 5, 6, 8, 1, 72, 73, 74, 25, 26, 27, 44, 45, 46, 47, 48, 49, 50, 51, 17, 18, 19, 20, 9, 10, 11, 12, 21, 22, 23, 24, 75, 76, 77, 78, 79, 60, 61, 62, 63, 80, 81, 82, 83, 84, 85, 86, 87, 88, 89, 90, 91] (by decide +kernel) (by decide +kernel)
set_option maxRecDepth 20000 in
theorem gX7_count_X7_weights : GoodIn wsX7_count (wsV RX7 174 RX7 yX7_weights wsX7_weights) := goodIn_app (goodIn_of _ (by decide +kernel)) ggX7_count_X7_weights
