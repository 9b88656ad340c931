theorem dX7_undo_41 : decode cX7_undo 41 = .ok (.aload_n 0, 1) := by decide +kernel
theorem dX7_undo_42 : decode cX7_undo 42 = .ok (.getfield 39, 3) := by decide +kernel
theorem dX7_undo_45 : decode cX7_undo 45 = .ok (.imul, 1) := by decide +kernel
theorem dX7_undo_46 : decode cX7_undo 46 = .ok (.iload_n 1, 1) := by decide +kernel
theorem dX7_undo_47 : decode cX7_undo 47 = .ok (.iadd, 1) := by decide +kernel
theorem dX7_undo_48 : decode cX7_undo 48 = .ok (.iaload, 1) := by decide +kernel
theorem dX7_undo_49 : decode cX7_undo 49 = .ok (.iastore, 1) := by decide +kernel
theorem dX7_undo_50 : decode cX7_undo 50 = .ok (.iinc 1 1, 3) := by decide +kernel
theorem dX7_undo_53 : decode cX7_undo 53 = .ok (.goto (-31), 3) := by decide +kernel
theorem dX7_undo_56 : decode cX7_undo 56 = .ok (.aload_n 0, 1) := by decide +kernel
theorem dX7_undo_57 : decode cX7_undo 57 = .ok (.getfield 39, 3) := by decide +kernel
theorem dX7_undo_60 : decode cX7_undo 60 = .ok (.ireturn, 1) := by decide +kernel
set_option maxRecDepth 20000 in
theorem ggX7_keep_X7_in : GoodIn wsX7_keep wsX7_in := goodIn_r _ [7] (by decide +kernel) (by decide +kernel)
set_option maxRecDepth 20000 in
theorem gX7_keep_X7_in : GoodIn wsX7_keep (va_wsS RX7 43 yX7_in wsX7_in) := goodIn_app (goodIn_of _ (by decide +kernel)) ggX7_keep_X7_in
theorem dX7_keep_0 : decode cX7_keep 0 = .ok (.iload_n 1, 1) := by decide +kernel
theorem dX7_keep_1 : decode cX7_keep 1 = .ok (.iconst 0, 1) := by decide +kernel
theorem dX7_keep_2 : decode cX7_keep 2 = .ok (.iconst 1, 1) := by decide +kernel
theorem dX7_keep_3 : decode cX7_keep 3 = .ok (.invokestatic 43, 3) := by decide +kernel
theorem dX7_keep_6 : decode cX7_keep 6 = .ok (.ifCond .ne 5, 3) := by decide +kernel
theorem dX7_keep_9 : decode cX7_keep 9 = .ok (.iconst (-1), 1) := by decide +kernel
theorem dX7_keep_10 : decode cX7_keep 10 = .ok (.ireturn, 1) := by decide +kernel
theorem dX7_keep_11 : decode cX7_keep 11 = .ok (.aload_n 0, 1) := by decide +kernel
theorem dX7_keep_12 : decode cX7_keep 12 = .ok (.getfield 22, 3) := by decide +kernel
theorem dX7_keep_15 : decode cX7_keep 15 = .ok (.iload_n 1, 1) := by decide +kernel
theorem dX7_keep_16 : decode cX7_keep 16 = .ok (.iconst 1, 1) := by decide +kernel
theorem dX7_keep_17 : decode cX7_keep 17 = .ok (.bastore, 1) := by decide +kernel
theorem dX7_keep_18 : decode cX7_keep 18 = .ok (.iconst 0, 1) := by decide +kernel
theorem dX7_keep_19 : decode cX7_keep 19 = .ok (.istore_n 2, 1) := by decide +kernel
theorem dX7_keep_20 : decode cX7_keep 20 = .ok (.iload_n 2, 1) := by decide +kernel
theorem dX7_keep_21 : decode cX7_keep 21 = .ok (.sipush 361, 3) := by decide +kernel
theorem dX7_keep_24 : decode cX7_keep 24 = .ok (.if_icmp .ge 27, 3) := by decide +kernel
theorem dX7_keep_27 : decode cX7_keep 27 = .ok (.aload_n 0, 1) := by decide +kernel
theorem dX7_keep_28 : decode cX7_keep 28 = .ok (.getfield 19, 3) := by decide +kernel
theorem dX7_keep_31 : decode cX7_keep 31 = .ok (.sipush 361, 3) := by decide +kernel
theorem dX7_keep_34 : decode cX7_keep 34 = .ok (.iload_n 1, 1) := by decide +kernel
theorem dX7_keep_35 : decode cX7_keep 35 = .ok (.imul, 1) := by decide +kernel
theorem dX7_keep_36 : decode cX7_keep 36 = .ok (.iload_n 2, 1) := by decide +kernel
theorem dX7_keep_37 : decode cX7_keep 37 = .ok (.iadd, 1) := by decide +kernel
theorem dX7_keep_38 : decode cX7_keep 38 = .ok (.aload_n 0, 1) := by decide +kernel
theorem dX7_keep_39 : decode cX7_keep 39 = .ok (.getfield 7, 3) := by decide +kernel
theorem dX7_keep_42 : decode cX7_keep 42 = .ok (.iload_n 2, 1) := by decide +kernel
theorem dX7_keep_43 : decode cX7_keep 43 = .ok (.iaload, 1) := by decide +kernel
theorem dX7_keep_44 : decode cX7_keep 44 = .ok (.iastore, 1) := by decide +kernel
theorem dX7_keep_45 : decode cX7_keep 45 = .ok (.iinc 2 1, 3) := by decide +kernel
theorem dX7_keep_48 : decode cX7_keep 48 = .ok (.goto (-28), 3) := by decide +kernel
theorem dX7_keep_51 : decode cX7_keep 51 = .ok (.aload_n 0, 1) := by decide +kernel
theorem dX7_keep_52 : decode cX7_keep 52 = .ok (.getfield 7, 3) := by decide +kernel
theorem dX7_keep_55 : decode cX7_keep 55 = .ok (.iconst 4, 1) := by decide +kernel
theorem dX7_keep_56 : decode cX7_keep 56 = .ok (.iaload, 1) := by decide +kernel
theorem dX7_keep_57 : decode cX7_keep 57 = .ok (.ireturn, 1) := by decide +kernel
set_option maxRecDepth 20000 in
theorem ggX7_restore_X7_in : GoodIn wsX7_restore wsX7_in := goodIn_r _ [7] (by decide +kernel) (by decide +kernel)
set_option maxRecDepth 20000 in
theorem gX7_restore_X7_in : GoodIn wsX7_restore (va_wsS RX7 43 yX7_in wsX7_in) := goodIn_app (goodIn_of _ (by decide +kernel)) ggX7_restore_X7_in
set_option maxRecDepth 20000 in
theorem ggX7_restore_X7_begin : GoodIn wsX7_restore wsX7_begin := goodIn_r _ [11, 12, 2, 19, 20, 21, 22, 23, 24, 25, 26, 27, 28, 29, 30] (by decide +kernel) (by decide +kernel)
set_option maxRecDepth 20000 in
theorem gX7_restore_X7_begin : GoodIn wsX7_restore (wsV RX7 47 RX7 yX7_begin wsX7_begin) := goodIn_app (goodIn_of _ (by decide +kernel)) ggX7_restore_X7_begin
set_option maxRecDepth 20000 in
theorem ggX7_restore_X7_done : GoodIn wsX7_restore wsX7_done := goodIn_r _ [16, 17, 18, 12, 19, 20, 21, 22, 23, 24, 25, 26, 27, 28, 29, 30] (by decide +kernel) (by decide +kernel)
set_option maxRecDepth 20000 in
theorem gX7_restore_X7_done : GoodIn wsX7_restore (wsV RX7 50 RX7 yX7_done wsX7_done) := goodIn_app (goodIn_of _ (by decide +kernel)) ggX7_restore_X7_done
theorem dX7_restore_0 : decode cX7_restore 0 = .ok (.iload_n 1, 1) := by decide +kernel
theorem dX7_restore_1 : decode cX7_restore 1 = .ok (.iconst 0, 1) := by decide +kernel
theorem dX7_restore_2 : decode cX7_restore 2 = .ok (.iconst 1, 1) := by decide +kernel
theorem dX7_restore_3 : decode cX7_restore 3 = .ok (.invokestatic 43, 3) := by decide +kernel
theorem dX7_restore_6 : decode cX7_restore 6 = .ok (.ifCond .ne 5, 3) := by decide +kernel
theorem dX7_restore_9 : decode cX7_restore 9 = .ok (.iconst (-1), 1) := by decide +kernel
theorem dX7_restore_10 : decode cX7_restore 10 = .ok (.ireturn, 1) := by decide +kernel
theorem dX7_restore_11 : decode cX7_restore 11 = .ok (.aload_n 0, 1) := by decide +kernel
theorem dX7_restore_12 : decode cX7_restore 12 = .ok (.getfield 22, 3) := by decide +kernel
theorem dX7_restore_15 : decode cX7_restore 15 = .ok (.iload_n 1, 1) := by decide +kernel
theorem dX7_restore_16 : decode cX7_restore 16 = .ok (.baload, 1) := by decide +kernel
theorem dX7_restore_17 : decode cX7_restore 17 = .ok (.ifCond .ne 6, 3) := by decide +kernel
theorem dX7_restore_20 : decode cX7_restore 20 = .ok (.bipush (-5), 2) := by decide +kernel
theorem dX7_restore_22 : decode cX7_restore 22 = .ok (.ireturn, 1) := by decide +kernel
theorem dX7_restore_23 : decode cX7_restore 23 = .ok (.aload_n 0, 1) := by decide +kernel
theorem dX7_restore_24 : decode cX7_restore 24 = .ok (.invokevirtual 47, 3) := by decide +kernel
theorem dX7_restore_27 : decode cX7_restore 27 = .ok (.iconst 0, 1) := by decide +kernel
theorem dX7_restore_28 : decode cX7_restore 28 = .ok (.istore_n 2, 1) := by decide +kernel
theorem dX7_restore_29 : decode cX7_restore 29 = .ok (.iload_n 2, 1) := by decide +kernel
theorem dX7_restore_30 : decode cX7_restore 30 = .ok (.sipush 361, 3) := by decide +kernel
theorem dX7_restore_33 : decode cX7_restore 33 = .ok (.if_icmp .ge 27, 3) := by decide +kernel
theorem dX7_restore_36 : decode cX7_restore 36 = .ok (.aload_n 0, 1) := by decide +kernel
theorem dX7_restore_37 : decode cX7_restore 37 = .ok (.getfield 7, 3) := by decide +kernel
theorem dX7_restore_40 : decode cX7_restore 40 = .ok (.iload_n 2, 1) := by decide +kernel
theorem dX7_restore_41 : decode cX7_restore 41 = .ok (.aload_n 0, 1) := by decide +kernel
theorem dX7_restore_42 : decode cX7_restore 42 = .ok (.getfield 19, 3) := by decide +kernel
theorem dX7_restore_45 : decode cX7_restore 45 = .ok (.sipush 361, 3) := by decide +kernel
theorem dX7_restore_48 : decode cX7_restore 48 = .ok (.iload_n 1, 1) := by decide +kernel
theorem dX7_restore_49 : decode cX7_restore 49 = .ok (.imul, 1) := by decide +kernel
theorem dX7_restore_50 : decode cX7_restore 50 = .ok (.iload_n 2, 1) := by decide +kernel
theorem dX7_restore_51 : decode cX7_restore 51 = .ok (.iadd, 1) := by decide +kernel
theorem dX7_restore_52 : decode cX7_restore 52 = .ok (.iaload, 1) := by decide +kernel
theorem dX7_restore_53 : decode cX7_restore 53 = .ok (.iastore, 1) := by decide +kernel
theorem dX7_restore_54 : decode cX7_restore 54 = .ok (.iinc 2 1, 3) := by decide +kernel
theorem dX7_restore_57 : decode cX7_restore 57 = .ok (.goto (-28), 3) := by decide +kernel
theorem dX7_restore_60 : decode cX7_restore 60 = .ok (.aload_n 0, 1) := by decide +kernel
theorem dX7_restore_61 : decode cX7_restore 61 = .ok (.aload_n 0, 1) := by decide +kernel
theorem dX7_restore_62 : decode cX7_restore 62 = .ok (.getfield 7, 3) := by decide +kernel
theorem dX7_restore_65 : decode cX7_restore 65 = .ok (.iconst 4, 1) := by decide +kernel
theorem dX7_restore_66 : decode cX7_restore 66 = .ok (.iaload, 1) := by decide +kernel
theorem dX7_restore_67 : decode cX7_restore 67 = .ok (.invokevirtual 50, 3) := by decide +kernel
theorem dX7_restore_70 : decode cX7_restore 70 = .ok (.ireturn, 1) := by decide +kernel
set_option maxRecDepth 20000 in
theorem ggX7_noPart_X7_in : GoodIn wsX7_noPart wsX7_in := goodIn_r _ [5] (by decide +kernel) (by decide +kernel)
set_option maxRecDepth 20000 in
theorem gX7_noPart_X7_in : GoodIn wsX7_noPart (va_wsS RX7 43 yX7_in wsX7_in) := goodIn_app (goodIn_of _ (by decide +kernel)) ggX7_noPart_X7_in
theorem dX7_noPart_0 : decode cX7_noPart 0 = .ok (.iload_n 1, 1) := by decide +kernel
theorem dX7_noPart_1 : decode cX7_noPart 1 = .ok (.iconst 0, 1) := by decide +kernel
theorem dX7_noPart_2 : decode cX7_noPart 2 = .ok (.aload_n 0, 1) := by decide +kernel
theorem dX7_noPart_3 : decode cX7_noPart 3 = .ok (.getfield 7, 3) := by decide +kernel
theorem dX7_noPart_6 : decode cX7_noPart 6 = .ok (.iconst 0, 1) := by decide +kernel
theorem dX7_noPart_7 : decode cX7_noPart 7 = .ok (.iaload, 1) := by decide +kernel
theorem dX7_noPart_8 : decode cX7_noPart 8 = .ok (.iconst 1, 1) := by decide +kernel
theorem dX7_noPart_9 : decode cX7_noPart 9 = .ok (.isub, 1) := by decide +kernel
theorem dX7_noPart_10 : decode cX7_noPart 10 = .ok (.invokestatic 43, 3) := by decide +kernel
theorem dX7_noPart_13 : decode cX7_noPart 13 = .ok (.ifCond .ne 7, 3) := by decide +kernel
theorem dX7_noPart_16 : decode cX7_noPart 16 = .ok (.iconst 1, 1) := by decide +kernel
theorem dX7_noPart_17 : decode cX7_noPart 17 = .ok (.goto 4, 3) := by decide +kernel
theorem dX7_noPart_20 : decode cX7_noPart 20 = .ok (.iconst 0, 1) := by decide +kernel
theorem dX7_noPart_21 : decode cX7_noPart 21 = .ok (.ireturn, 1) := by decide +kernel
theorem dX7_sprites_0 : decode cX7_sprites 0 = .ok (.aload_n 0, 1) := by decide +kernel
theorem dX7_sprites_1 : decode cX7_sprites 1 = .ok (.getfield 7, 3) := by decide +kernel
theorem dX7_sprites_4 : decode cX7_sprites 4 = .ok (.iconst 1, 1) := by decide +kernel
theorem dX7_sprites_5 : decode cX7_sprites 5 = .ok (.iaload, 1) := by decide +kernel
theorem dX7_sprites_6 : decode cX7_sprites 6 = .ok (.ireturn, 1) := by decide +kernel
set_option maxRecDepth 20000 in
theorem ggX7_noSprite_X7_sprites : GoodIn wsX7_noSprite wsX7_sprites := goodIn_r _ [5, 6, 10, 11, 12, 13, 14, 15, 16, 17, 18, 19, 20, 21] (by decide +kernel) (by decide +kernel)
set_option maxRecDepth 20000 in
theorem gX7_noSprite_X7_sprites : GoodIn wsX7_noSprite (wsV RX7 54 RX7 yX7_sprites wsX7_sprites) := goodIn_app (goodIn_of _ (by decide +kernel)) ggX7_noSprite_X7_sprites
set_option maxRecDepth 20000 in
theorem ggX7_noSprite_X7_in : GoodIn wsX7_noSprite wsX7_in := goodIn_r _ [9] (by decide +kernel) (by decide +kernel)
set_option maxRecDepth 20000 in
theorem gX7_noSprite_X7_in : GoodIn wsX7_noSprite (va_wsS RX7 43 yX7_in wsX7_in) := goodIn_app (goodIn_of _ (by decide +kernel)) ggX7_noSprite_X7_in
theorem dX7_noSprite_0 : decode cX7_noSprite 0 = .ok (.iload_n 1, 1) := by decide +kernel
theorem dX7_noSprite_1 : decode cX7_noSprite 1 = .ok (.iconst 0, 1) := by decide +kernel
theorem dX7_noSprite_2 : decode cX7_noSprite 2 = .ok (.aload_n 0, 1) := by decide +kernel
theorem dX7_noSprite_3 : decode cX7_noSprite 3 = .ok (.invokevirtual 54, 3) := by decide +kernel
theorem dX7_noSprite_6 : decode cX7_noSprite 6 = .ok (.iconst 1, 1) := by decide +kernel
theorem dX7_noSprite_7 : decode cX7_noSprite 7 = .ok (.isub, 1) := by decide +kernel
theorem dX7_noSprite_8 : decode cX7_noSprite 8 = .ok (.invokestatic 43, 3) := by decide +kernel
theorem dX7_noSprite_11 : decode cX7_noSprite 11 = .ok (.ifCond .ne 7, 3) := by decide +kernel
theorem dX7_noSprite_14 : decode cX7_noSprite 14 = .ok (.iconst 1, 1) := by decide +kernel
theorem dX7_noSprite_15 : decode cX7_noSprite 15 = .ok (.goto 4, 3) := by decide +kernel
theorem dX7_noSprite_18 : decode cX7_noSprite 18 = .ok (.iconst 0, 1) := by decide +kernel
theorem dX7_noSprite_19 : decode cX7_noSprite 19 = .ok (.ireturn, 1) := by decide +kernel
set_option maxRecDepth 20000 in
theorem ggX7_noLine_X7_in : GoodIn wsX7_noLine wsX7_in := goodIn_r _ [4] (by decide +kernel) (by decide +kernel)
set_option maxRecDepth 20000 in
theorem gX7_noLine_X7_in : GoodIn wsX7_noLine (va_wsS RX7 43 yX7_in wsX7_in) := goodIn_app (goodIn_of _ (by decide +kernel)) ggX7_noLine_X7_in
theorem dX7_noLine_0 : decode cX7_noLine 0 = .ok (.iload_n 0, 1) := by decide +kernel
theorem dX7_noLine_1 : decode cX7_noLine 1 = .ok (.iconst 0, 1) := by decide +kernel
theorem dX7_noLine_2 : decode cX7_noLine 2 = .ok (.bipush 31, 2) := by decide +kernel
theorem dX7_noLine_4 : decode cX7_noLine 4 = .ok (.invokestatic 43, 3) := by decide +kernel
theorem dX7_noLine_7 : decode cX7_noLine 7 = .ok (.ifCond .ne 7, 3) := by decide +kernel
theorem dX7_noLine_10 : decode cX7_noLine 10 = .ok (.iconst 1, 1) := by decide +kernel
theorem dX7_noLine_11 : decode cX7_noLine 11 = .ok (.goto 4, 3) := by decide +kernel
theorem dX7_noLine_14 : decode cX7_noLine 14 = .ok (.iconst 0, 1) := by decide +kernel
theorem dX7_noLine_15 : decode cX7_noLine 15 = .ok (.ireturn, 1) := by decide +kernel
theorem dX7_of_0 : decode cX7_of 0 = .ok (.aload_n 0, 1) := by decide +kernel
theorem dX7_of_1 : decode cX7_of 1 = .ok (.getfield 7, 3) := by decide +kernel
theorem dX7_of_4 : decode cX7_of 4 = .ok (.sipush 209, 3) := by decide +kernel
theorem dX7_of_7 : decode cX7_of 7 = .ok (.bipush 6, 2) := by decide +kernel
theorem dX7_of_9 : decode cX7_of 9 = .ok (.iload_n 1, 1) := by decide +kernel
theorem dX7_of_10 : decode cX7_of 10 = .ok (.imul, 1) := by decide +kernel
theorem dX7_of_11 : decode cX7_of 11 = .ok (.iadd, 1) := by decide +kernel
theorem dX7_of_12 : decode cX7_of 12 = .ok (.iload_n 2, 1) := by decide +kernel
theorem dX7_of_13 : decode cX7_of 13 = .ok (.iadd, 1) := by decide +kernel
theorem dX7_of_14 : decode cX7_of 14 = .ok (.iaload, 1) := by decide +kernel
theorem dX7_of_15 : decode cX7_of 15 = .ok (.ireturn, 1) := by decide +kernel
theorem dX7_put_0 : decode cX7_put 0 = .ok (.aload_n 0, 1) := by decide +kernel
theorem dX7_put_1 : decode cX7_put 1 = .ok (.getfield 7, 3) := by decide +kernel
theorem dX7_put_4 : decode cX7_put 4 = .ok (.sipush 209, 3) := by decide +kernel
theorem dX7_put_7 : decode cX7_put 7 = .ok (.bipush 6, 2) := by decide +kernel
theorem dX7_put_9 : decode cX7_put 9 = .ok (.iload_n 1, 1) := by decide +kernel
theorem dX7_put_10 : decode cX7_put 10 = .ok (.imul, 1) := by decide +kernel
theorem dX7_put_11 : decode cX7_put 11 = .ok (.iadd, 1) := by decide +kernel
theorem dX7_put_12 : decode cX7_put 12 = .ok (.iload_n 2, 1) := by decide +kernel
theorem dX7_put_13 : decode cX7_put 13 = .ok (.iadd, 1) := by decide +kernel
theorem dX7_put_14 : decode cX7_put 14 = .ok (.iload_n 3, 1) := by decide +kernel
theorem dX7_put_15 : decode cX7_put 15 = .ok (.iastore, 1) := by decide +kernel
theorem dX7_put_16 : decode cX7_put 16 = .ok (.return_, 1) := by decide +kernel
theorem dX7_pixelOf_0 : decode cX7_pixelOf 0 = .ok (.aload_n 0, 1) := by decide +kernel
theorem dX7_pixelOf_1 : decode cX7_pixelOf 1 = .ok (.getfield 7, 3) := by decide +kernel
theorem dX7_pixelOf_4 : decode cX7_pixelOf 4 = .ok (.iconst 5, 1) := by decide +kernel
theorem dX7_pixelOf_5 : decode cX7_pixelOf 5 = .ok (.bipush 8, 2) := by decide +kernel
theorem dX7_pixelOf_7 : decode cX7_pixelOf 7 = .ok (.iload_n 1, 1) := by decide +kernel
theorem dX7_pixelOf_8 : decode cX7_pixelOf 8 = .ok (.imul, 1) := by decide +kernel
theorem dX7_pixelOf_9 : decode cX7_pixelOf 9 = .ok (.iadd, 1) := by decide +kernel
theorem dX7_pixelOf_10 : decode cX7_pixelOf 10 = .ok (.iload_n 2, 1) := by decide +kernel
theorem dX7_pixelOf_11 : decode cX7_pixelOf 11 = .ok (.iadd, 1) := by decide +kernel
theorem dX7_pixelOf_12 : decode cX7_pixelOf 12 = .ok (.iaload, 1) := by decide +kernel
theorem dX7_pixelOf_13 : decode cX7_pixelOf 13 = .ok (.iconst 2, 1) := by decide +kernel
theorem dX7_pixelOf_14 : decode cX7_pixelOf 14 = .ok (.iload_n 3, 1) := by decide +kernel
theorem dX7_pixelOf_15 : decode cX7_pixelOf 15 = .ok (.imul, 1) := by decide +kernel
theorem dX7_pixelOf_16 : decode cX7_pixelOf 16 = .ok (.ishr, 1) := by decide +kernel
theorem dX7_pixelOf_17 : decode cX7_pixelOf 17 = .ok (.iconst 3, 1) := by decide +kernel
theorem dX7_pixelOf_18 : decode cX7_pixelOf 18 = .ok (.iand, 1) := by decide +kernel
theorem dX7_pixelOf_19 : decode cX7_pixelOf 19 = .ok (.ireturn, 1) := by decide +kernel
theorem dX7_putPixel_0 : decode cX7_putPixel 0 = .ok (.iconst 5, 1) := by decide +kernel
theorem dX7_putPixel_1 : decode cX7_putPixel 1 = .ok (.bipush 8, 2) := by decide +kernel
theorem dX7_putPixel_3 : decode cX7_putPixel 3 = .ok (.iload_n 1, 1) := by decide +kernel
theorem dX7_putPixel_4 : decode cX7_putPixel 4 = .ok (.imul, 1) := by decide +kernel
theorem dX7_putPixel_5 : decode cX7_putPixel 5 = .ok (.iadd, 1) := by decide +kernel
theorem dX7_putPixel_6 : decode cX7_putPixel 6 = .ok (.iload_n 2, 1) := by decide +kernel
theorem dX7_putPixel_7 : decode cX7_putPixel 7 = .ok (.iadd, 1) := by decide +kernel
theorem dX7_putPixel_8 : decode cX7_putPixel 8 = .ok (.istore 5, 2) := by decide +kernel
theorem dX7_putPixel_10 : decode cX7_putPixel 10 = .ok (.aload_n 0, 1) := by decide +kernel
theorem dX7_putPixel_11 : decode cX7_putPixel 11 = .ok (.getfield 7, 3) := by decide +kernel
theorem dX7_putPixel_14 : decode cX7_putPixel 14 = .ok (.iload 5, 2) := by decide +kernel
theorem dX7_putPixel_16 : decode cX7_putPixel 16 = .ok (.aload_n 0, 1) := by decide +kernel
theorem dX7_putPixel_17 : decode cX7_putPixel 17 = .ok (.getfield 7, 3) := by decide +kernel
theorem dX7_putPixel_20 : decode cX7_putPixel 20 = .ok (.iload 5, 2) := by decide +kernel
theorem dX7_putPixel_22 : decode cX7_putPixel 22 = .ok (.iaload, 1) := by decide +kernel
theorem dX7_putPixel_23 : decode cX7_putPixel 23 = .ok (.iconst 3, 1) := by decide +kernel
theorem dX7_putPixel_24 : decode cX7_putPixel 24 = .ok (.iconst 2, 1) := by decide +kernel
theorem dX7_putPixel_25 : decode cX7_putPixel 25 = .ok (.iload_n 3, 1) := by decide +kernel
theorem dX7_putPixel_26 : decode cX7_putPixel 26 = .ok (.imul, 1) := by decide +kernel
theorem dX7_putPixel_27 : decode cX7_putPixel 27 = .ok (.ishl, 1) := by decide +kernel
theorem dX7_putPixel_28 : decode cX7_putPixel 28 = .ok (.iconst (-1), 1) := by decide +kernel
theorem dX7_putPixel_29 : decode cX7_putPixel 29 = .ok (.ixor, 1) := by decide +kernel
theorem dX7_putPixel_30 : decode cX7_putPixel 30 = .ok (.iand, 1) := by decide +kernel
theorem dX7_putPixel_31 : decode cX7_putPixel 31 = .ok (.iload 4, 2) := by decide +kernel
theorem dX7_putPixel_33 : decode cX7_putPixel 33 = .ok (.iconst 2, 1) := by decide +kernel
theorem dX7_putPixel_34 : decode cX7_putPixel 34 = .ok (.iload_n 3, 1) := by decide +kernel
theorem dX7_putPixel_35 : decode cX7_putPixel 35 = .ok (.imul, 1) := by decide +kernel
theorem dX7_putPixel_36 : decode cX7_putPixel 36 = .ok (.ishl, 1) := by decide +kernel
theorem dX7_putPixel_37 : decode cX7_putPixel 37 = .ok (.ior, 1) := by decide +kernel
theorem dX7_putPixel_38 : decode cX7_putPixel 38 = .ok (.iastore, 1) := by decide +kernel
theorem dX7_putPixel_39 : decode cX7_putPixel 39 = .ok (.return_, 1) := by decide +kernel
set_option maxRecDepth 20000 in
theorem ggX7_flipped_X7_pixelOf : GoodIn wsX7_flipped wsX7_pixelOf := goodIn_r _ [5, 6, 7, 8, 9, 10, 11, 12, 13, 14, 15, 16, 17, 18] (by decide +kernel) (by decide +kernel)
set_option maxRecDepth 20000 in
theorem gX7_flipped_X7_pixelOf : GoodIn wsX7_flipped (wsV RX7 58 RX7 yX7_pixelOf wsX7_pixelOf) := goodIn_app (goodIn_of _ (by decide +kernel)) ggX7_flipped_X7_pixelOf
theorem dX7_flipped_0 : decode cX7_flipped 0 = .ok (.aload_n 0, 1) := by decide +kernel
theorem dX7_flipped_1 : decode cX7_flipped 1 = .ok (.iload_n 1, 1) := by decide +kernel
theorem dX7_flipped_2 : decode cX7_flipped 2 = .ok (.iload_n 2, 1) := by decide +kernel
theorem dX7_flipped_3 : decode cX7_flipped 3 = .ok (.iconst 1, 1) := by decide +kernel
theorem dX7_flipped_4 : decode cX7_flipped 4 = .ok (.if_icmp .le 10, 3) := by decide +kernel
theorem dX7_flipped_7 : decode cX7_flipped 7 = .ok (.bipush 7, 2) := by decide +kernel
theorem dX7_flipped_9 : decode cX7_flipped 9 = .ok (.iload_n 3, 1) := by decide +kernel
theorem dX7_flipped_10 : decode cX7_flipped 10 = .ok (.isub, 1) := by decide +kernel
theorem dX7_flipped_11 : decode cX7_flipped 11 = .ok (.goto 4, 3) := by decide +kernel
theorem dX7_flipped_14 : decode cX7_flipped 14 = .ok (.iload_n 3, 1) := by decide +kernel
theorem dX7_flipped_15 : decode cX7_flipped 15 = .ok (.iload_n 2, 1) := by decide +kernel
theorem dX7_flipped_16 : decode cX7_flipped 16 = .ok (.iconst 2, 1) := by decide +kernel
theorem dX7_flipped_17 : decode cX7_flipped 17 = .ok (.irem, 1) := by decide +kernel
theorem dX7_flipped_18 : decode cX7_flipped 18 = .ok (.iconst 1, 1) := by decide +kernel
theorem dX7_flipped_19 : decode cX7_flipped 19 = .ok (.if_icmp .ne 11, 3) := by decide +kernel
theorem dX7_flipped_22 : decode cX7_flipped 22 = .ok (.bipush 7, 2) := by decide +kernel
theorem dX7_flipped_24 : decode cX7_flipped 24 = .ok (.iload 4, 2) := by decide +kernel
theorem dX7_flipped_26 : decode cX7_flipped 26 = .ok (.isub, 1) := by decide +kernel
theorem dX7_flipped_27 : decode cX7_flipped 27 = .ok (.goto 5, 3) := by decide +kernel
theorem dX7_flipped_30 : decode cX7_flipped 30 = .ok (.iload 4, 2) := by decide +kernel
theorem dX7_flipped_32 : decode cX7_flipped 32 = .ok (.invokevirtual 58, 3) := by decide +kernel
theorem dX7_flipped_35 : decode cX7_flipped 35 = .ok (.ireturn, 1) := by decide +kernel
set_option maxRecDepth 20000 in
theorem ggX7_isAlike_X7_flipped : GoodIn wsX7_isAlike wsX7_flipped := goodIn_r _ [5, 6, 7, 8, 4, 9, 10, 11, 12, 13, 14, 15, 16, 17, 18, 19, 20, 21, 22] (by decide +kernel) (by decide +kernel)
set_option maxRecDepth 20000 in
theorem gX7_isAlike_X7_flipped : GoodIn wsX7_isAlike (wsV RX7 62 RX7 yX7_flipped wsX7_flipped) := goodIn_app (goodIn_of _ (by decide +kernel)) ggX7_isAlike_X7_flipped
theorem dX7_isAlike_0 : decode cX7_isAlike 0 = .ok (.iconst 1, 1) := by decide +kernel
theorem dX7_isAlike_1 : decode cX7_isAlike 1 = .ok (.istore 5, 2) := by decide +kernel
theorem dX7_isAlike_3 : decode cX7_isAlike 3 = .ok (.iconst 0, 1) := by decide +kernel
theorem dX7_isAlike_4 : decode cX7_isAlike 4 = .ok (.istore 6, 2) := by decide +kernel
theorem dX7_isAlike_6 : decode cX7_isAlike 6 = .ok (.iload 6, 2) := by decide +kernel
theorem dX7_isAlike_8 : decode cX7_isAlike 8 = .ok (.bipush 64, 2) := by decide +kernel
theorem dX7_isAlike_10 : decode cX7_isAlike 10 = .ok (.if_icmp .ge 57, 3) := by decide +kernel
theorem dX7_isAlike_13 : decode cX7_isAlike 13 = .ok (.iload 5, 2) := by decide +kernel
theorem dX7_isAlike_15 : decode cX7_isAlike 15 = .ok (.ifCond .eq 43, 3) := by decide +kernel
theorem dX7_isAlike_18 : decode cX7_isAlike 18 = .ok (.aload_n 0, 1) := by decide +kernel
theorem dX7_isAlike_19 : decode cX7_isAlike 19 = .ok (.iload_n 1, 1) := by decide +kernel
theorem dX7_isAlike_20 : decode cX7_isAlike 20 = .ok (.iload_n 2, 1) := by decide +kernel
theorem dX7_isAlike_21 : decode cX7_isAlike 21 = .ok (.iload 6, 2) := by decide +kernel
theorem dX7_isAlike_23 : decode cX7_isAlike 23 = .ok (.bipush 8, 2) := by decide +kernel
theorem dX7_isAlike_25 : decode cX7_isAlike 25 = .ok (.idiv, 1) := by decide +kernel
theorem dX7_isAlike_26 : decode cX7_isAlike 26 = .ok (.iload 6, 2) := by decide +kernel
theorem dX7_isAlike_28 : decode cX7_isAlike 28 = .ok (.bipush 8, 2) := by decide +kernel
theorem dX7_isAlike_30 : decode cX7_isAlike 30 = .ok (.irem, 1) := by decide +kernel
theorem dX7_isAlike_31 : decode cX7_isAlike 31 = .ok (.invokevirtual 62, 3) := by decide +kernel
theorem dX7_isAlike_34 : decode cX7_isAlike 34 = .ok (.aload_n 0, 1) := by decide +kernel
theorem dX7_isAlike_35 : decode cX7_isAlike 35 = .ok (.iload_n 3, 1) := by decide +kernel
theorem dX7_isAlike_36 : decode cX7_isAlike 36 = .ok (.iload 4, 2) := by decide +kernel
theorem dX7_isAlike_38 : decode cX7_isAlike 38 = .ok (.iload 6, 2) := by decide +kernel
theorem dX7_isAlike_40 : decode cX7_isAlike 40 = .ok (.bipush 8, 2) := by decide +kernel
theorem dX7_isAlike_42 : decode cX7_isAlike 42 = .ok (.idiv, 1) := by decide +kernel
theorem dX7_isAlike_43 : decode cX7_isAlike 43 = .ok (.iload 6, 2) := by decide +kernel
theorem dX7_isAlike_45 : decode cX7_isAlike 45 = .ok (.bipush 8, 2) := by decide +kernel
theorem dX7_isAlike_47 : decode cX7_isAlike 47 = .ok (.irem, 1) := by decide +kernel
theorem dX7_isAlike_48 : decode cX7_isAlike 48 = .ok (.invokevirtual 62, 3) := by decide +kernel
theorem dX7_isAlike_51 : decode cX7_isAlike 51 = .ok (.if_icmp .ne 7, 3) := by decide +kernel
theorem dX7_isAlike_54 : decode cX7_isAlike 54 = .ok (.iconst 1, 1) := by decide +kernel
theorem dX7_isAlike_55 : decode cX7_isAlike 55 = .ok (.goto 4, 3) := by decide +kernel
theorem dX7_isAlike_58 : decode cX7_isAlike 58 = .ok (.iconst 0, 1) := by decide +kernel
theorem dX7_isAlike_59 : decode cX7_isAlike 59 = .ok (.istore 5, 2) := by decide +kernel
theorem dX7_isAlike_61 : decode cX7_isAlike 61 = .ok (.iinc 6 1, 3) := by decide +kernel
theorem dX7_isAlike_64 : decode cX7_isAlike 64 = .ok (.goto (-58), 3) := by decide +kernel
theorem dX7_isAlike_67 : decode cX7_isAlike 67 = .ok (.iload 5, 2) := by decide +kernel
theorem dX7_isAlike_69 : decode cX7_isAlike 69 = .ok (.ireturn, 1) := by decide +kernel
set_option maxRecDepth 20000 in
theorem ggX7_flipFor_X7_isAlike : GoodIn wsX7_flipFor wsX7_isAlike := goodIn_r _ [5, 6, 7, 8, 4, 9, 10, 11, 12, 13, 14, 15, 16, 17, 18, 19, 20, 21, 22, 23, 24, 25, 26] (by decide +kernel) (by decide +kernel)
set_option maxRecDepth 20000 in
theorem gX7_flipFor_X7_isAlike : GoodIn wsX7_flipFor (wsV RX7 66 RX7 yX7_isAlike wsX7_isAlike) := goodIn_app (goodIn_of _ (by decide +kernel)) ggX7_flipFor_X7_isAlike
theorem dX7_flipFor_0 : decode cX7_flipFor 0 = .ok (.iconst 0, 1) := by decide +kernel
theorem dX7_flipFor_1 : decode cX7_flipFor 1 = .ok (.istore 4, 2) := by decide +kernel
theorem dX7_flipFor_3 : decode cX7_flipFor 3 = .ok (.iload 4, 2) := by decide +kernel
theorem dX7_flipFor_5 : decode cX7_flipFor 5 = .ok (.iconst 4, 1) := by decide +kernel
theorem dX7_flipFor_6 : decode cX7_flipFor 6 = .ok (.if_icmp .ge 24, 3) := by decide +kernel
theorem dX7_flipFor_9 : decode cX7_flipFor 9 = .ok (.aload_n 0, 1) := by decide +kernel
theorem dX7_flipFor_10 : decode cX7_flipFor 10 = .ok (.iload_n 1, 1) := by decide +kernel
theorem dX7_flipFor_11 : decode cX7_flipFor 11 = .ok (.iload 4, 2) := by decide +kernel
theorem dX7_flipFor_13 : decode cX7_flipFor 13 = .ok (.iload_n 2, 1) := by decide +kernel
theorem dX7_flipFor_14 : decode cX7_flipFor 14 = .ok (.iload_n 3, 1) := by decide +kernel
theorem dX7_flipFor_15 : decode cX7_flipFor 15 = .ok (.invokevirtual 66, 3) := by decide +kernel
theorem dX7_flipFor_18 : decode cX7_flipFor 18 = .ok (.ifCond .eq 6, 3) := by decide +kernel
theorem dX7_flipFor_21 : decode cX7_flipFor 21 = .ok (.iload 4, 2) := by decide +kernel
theorem dX7_flipFor_23 : decode cX7_flipFor 23 = .ok (.ireturn, 1) := by decide +kernel
theorem dX7_flipFor_24 : decode cX7_flipFor 24 = .ok (.iinc 4 1, 3) := by decide +kernel
theorem dX7_flipFor_27 : decode cX7_flipFor 27 = .ok (.goto (-24), 3) := by decide +kernel
theorem dX7_flipFor_30 : decode cX7_flipFor 30 = .ok (.bipush (-5), 2) := by decide +kernel
theorem dX7_flipFor_32 : decode cX7_flipFor 32 = .ok (.ireturn, 1) := by decide +kernel
set_option maxRecDepth 20000 in
theorem ggX7_alike_X7_noPart : GoodIn wsX7_alike wsX7_noPart := goodIn_r _ [5, 6, 7, 8, 4, 9, 26, 27, 28, 29, 30, 31, 32, 33, 34, 35, 36, 37] (by decide +kernel) (by decide +kernel)
set_option maxRecDepth 20000 in
theorem gX7_alike_X7_noPart : GoodIn wsX7_alike (wsV RX7 70 RX7 yX7_noPart wsX7_noPart) := goodIn_app (goodIn_of _ (by decide +kernel)) ggX7_alike_X7_noPart
set_option maxRecDepth 20000 in
theorem ggX7_alike_X7_flipFor : GoodIn wsX7_alike wsX7_flipFor := goodIn_r _ [13, 14, 15, 16, 4, 17, 18, 19, 20, 21, 22, 23, 24, 25, 6, 26, 27, 28, 29, 30, 31, 32, 33, 34, 35, 36, 37] (by decide +kernel) (by decide +kernel)
set_option maxRecDepth 20000 in
theorem gX7_alike_X7_flipFor : GoodIn wsX7_alike (wsV RX7 74 RX7 yX7_flipFor wsX7_flipFor) := goodIn_app (goodIn_of _ (by decide +kernel)) ggX7_alike_X7_flipFor
theorem dX7_alike_0 : decode cX7_alike 0 = .ok (.aload_n 0, 1) := by decide +kernel
theorem dX7_alike_1 : decode cX7_alike 1 = .ok (.iload_n 1, 1) := by decide +kernel
theorem dX7_alike_2 : decode cX7_alike 2 = .ok (.invokevirtual 70, 3) := by decide +kernel
theorem dX7_alike_5 : decode cX7_alike 5 = .ok (.ifCond .ne 11, 3) := by decide +kernel
theorem dX7_alike_8 : decode cX7_alike 8 = .ok (.aload_n 0, 1) := by decide +kernel
theorem dX7_alike_9 : decode cX7_alike 9 = .ok (.iload_n 2, 1) := by decide +kernel
theorem dX7_alike_10 : decode cX7_alike 10 = .ok (.invokevirtual 70, 3) := by decide +kernel
theorem dX7_alike_13 : decode cX7_alike 13 = .ok (.ifCond .eq 7, 3) := by decide +kernel
theorem dX7_alike_16 : decode cX7_alike 16 = .ok (.iconst (-1), 1) := by decide +kernel
theorem dX7_alike_17 : decode cX7_alike 17 = .ok (.goto 10, 3) := by decide +kernel
theorem dX7_alike_20 : decode cX7_alike 20 = .ok (.aload_n 0, 1) := by decide +kernel
theorem dX7_alike_21 : decode cX7_alike 21 = .ok (.iload_n 2, 1) := by decide +kernel
theorem dX7_alike_22 : decode cX7_alike 22 = .ok (.iload_n 1, 1) := by decide +kernel
theorem dX7_alike_23 : decode cX7_alike 23 = .ok (.iconst 0, 1) := by decide +kernel
theorem dX7_alike_24 : decode cX7_alike 24 = .ok (.invokevirtual 74, 3) := by decide +kernel
theorem dX7_alike_27 : decode cX7_alike 27 = .ok (.ireturn, 1) := by decide +kernel
set_option maxRecDepth 20000 in
theorem ggX7_addPart_X7_begin : GoodIn wsX7_addPart wsX7_begin := goodIn_r _ [6, 7, 1, 14, 15, 16, 17, 18, 19, 20, 21, 22, 23, 24, 25] (by decide +kernel) (by decide +kernel)
set_option maxRecDepth 20000 in
theorem gX7_addPart_X7_begin : GoodIn wsX7_addPart (wsV RX7 47 RX7 yX7_begin wsX7_begin) := goodIn_app (goodIn_of _ (by decide +kernel)) ggX7_addPart_X7_begin
set_option maxRecDepth 20000 in
theorem ggX7_addPart_X7_done : GoodIn wsX7_addPart wsX7_done := goodIn_r _ [11, 12, 13, 7, 14, 15, 16, 17, 18, 19, 20, 21, 22, 23, 24, 25] (by decide +kernel) (by decide +kernel)
set_option maxRecDepth 20000 in
theorem gX7_addPart_X7_done : GoodIn wsX7_addPart (wsV RX7 50 RX7 yX7_done wsX7_done) := goodIn_app (goodIn_of _ (by decide +kernel)) ggX7_addPart_X7_done
theorem dX7_addPart_0 : decode cX7_addPart 0 = .ok (.aload_n 0, 1) := by decide +kernel
theorem dX7_addPart_1 : decode cX7_addPart 1 = .ok (.getfield 7, 3) := by decide +kernel
theorem dX7_addPart_4 : decode cX7_addPart 4 = .ok (.iconst 0, 1) := by decide +kernel
theorem dX7_addPart_5 : decode cX7_addPart 5 = .ok (.iaload, 1) := by decide +kernel
theorem dX7_addPart_6 : decode cX7_addPart 6 = .ok (.bipush 24, 2) := by decide +kernel
theorem dX7_addPart_8 : decode cX7_addPart 8 = .ok (.if_icmp .ne 6, 3) := by decide +kernel
theorem dX7_addPart_11 : decode cX7_addPart 11 = .ok (.bipush (-3), 2) := by decide +kernel
theorem dX7_addPart_13 : decode cX7_addPart 13 = .ok (.ireturn, 1) := by decide +kernel
theorem dX7_addPart_14 : decode cX7_addPart 14 = .ok (.aload_n 0, 1) := by decide +kernel
theorem dX7_addPart_15 : decode cX7_addPart 15 = .ok (.invokevirtual 47, 3) := by decide +kernel
theorem dX7_addPart_18 : decode cX7_addPart 18 = .ok (.aload_n 0, 1) := by decide +kernel
theorem dX7_addPart_19 : decode cX7_addPart 19 = .ok (.getfield 7, 3) := by decide +kernel
theorem dX7_addPart_22 : decode cX7_addPart 22 = .ok (.iconst 0, 1) := by decide +kernel
theorem dX7_addPart_23 : decode cX7_addPart 23 = .ok (.iaload, 1) := by decide +kernel
theorem dX7_addPart_24 : decode cX7_addPart 24 = .ok (.istore_n 1, 1) := by decide +kernel
theorem dX7_addPart_25 : decode cX7_addPart 25 = .ok (.iconst 0, 1) := by decide +kernel
theorem dX7_addPart_26 : decode cX7_addPart 26 = .ok (.istore_n 2, 1) := by decide +kernel
theorem dX7_addPart_27 : decode cX7_addPart 27 = .ok (.iload_n 2, 1) := by decide +kernel
theorem dX7_addPart_28 : decode cX7_addPart 28 = .ok (.bipush 8, 2) := by decide +kernel
theorem dX7_addPart_30 : decode cX7_addPart 30 = .ok (.if_icmp .ge 23, 3) := by decide +kernel
theorem dX7_addPart_33 : decode cX7_addPart 33 = .ok (.aload_n 0, 1) := by decide +kernel
theorem dX7_addPart_34 : decode cX7_addPart 34 = .ok (.getfield 7, 3) := by decide +kernel
theorem dX7_addPart_37 : decode cX7_addPart 37 = .ok (.iconst 5, 1) := by decide +kernel
theorem dX7_addPart_38 : decode cX7_addPart 38 = .ok (.bipush 8, 2) := by decide +kernel
theorem dX7_addPart_40 : decode cX7_addPart 40 = .ok (.iload_n 1, 1) := by decide +kernel
theorem dX7_addPart_41 : decode cX7_addPart 41 = .ok (.imul, 1) := by decide +kernel
theorem dX7_addPart_42 : decode cX7_addPart 42 = .ok (.iadd, 1) := by decide +kernel
theorem dX7_addPart_43 : decode cX7_addPart 43 = .ok (.iload_n 2, 1) := by decide +kernel
theorem dX7_addPart_44 : decode cX7_addPart 44 = .ok (.iadd, 1) := by decide +kernel
theorem dX7_addPart_45 : decode cX7_addPart 45 = .ok (.iconst 0, 1) := by decide +kernel
theorem dX7_addPart_46 : decode cX7_addPart 46 = .ok (.iastore, 1) := by decide +kernel
theorem dX7_addPart_47 : decode cX7_addPart 47 = .ok (.iinc 2 1, 3) := by decide +kernel
theorem dX7_addPart_50 : decode cX7_addPart 50 = .ok (.goto (-23), 3) := by decide +kernel
theorem dX7_addPart_53 : decode cX7_addPart 53 = .ok (.aload_n 0, 1) := by decide +kernel
theorem dX7_addPart_54 : decode cX7_addPart 54 = .ok (.getfield 7, 3) := by decide +kernel
theorem dX7_addPart_57 : decode cX7_addPart 57 = .ok (.iconst 0, 1) := by decide +kernel
theorem dX7_addPart_58 : decode cX7_addPart 58 = .ok (.dup2, 1) := by decide +kernel
theorem dX7_addPart_59 : decode cX7_addPart 59 = .ok (.iaload, 1) := by decide +kernel
theorem dX7_addPart_60 : decode cX7_addPart 60 = .ok (.iconst 1, 1) := by decide +kernel
theorem dX7_addPart_61 : decode cX7_addPart 61 = .ok (.iadd, 1) := by decide +kernel
theorem dX7_addPart_62 : decode cX7_addPart 62 = .ok (.iastore, 1) := by decide +kernel
theorem dX7_addPart_63 : decode cX7_addPart 63 = .ok (.aload_n 0, 1) := by decide +kernel
theorem dX7_addPart_64 : decode cX7_addPart 64 = .ok (.iload_n 1, 1) := by decide +kernel
theorem dX7_addPart_65 : decode cX7_addPart 65 = .ok (.invokevirtual 50, 3) := by decide +kernel
theorem dX7_addPart_68 : decode cX7_addPart 68 = .ok (.ireturn, 1) := by decide +kernel
set_option maxRecDepth 20000 in
theorem ggX7_setPixel_X7_noPart : GoodIn wsX7_setPixel wsX7_noPart := goodIn_r _ [5, 6, 7, 8, 4, 9, 29, 30, 31, 32, 33, 34, 35, 36, 37, 38, 39, 40] (by decide +kernel) (by decide +kernel)
set_option maxRecDepth 20000 in
theorem gX7_setPixel_X7_noPart : GoodIn wsX7_setPixel (wsV RX7 70 RX7 yX7_noPart wsX7_noPart) := goodIn_app (goodIn_of _ (by decide +kernel)) ggX7_setPixel_X7_noPart
set_option maxRecDepth 20000 in
theorem ggX7_setPixel_X7_in : GoodIn wsX7_setPixel wsX7_in := goodIn_r _ [9] (by decide +kernel) (by decide +kernel)
set_option maxRecDepth 20000 in
theorem gX7_setPixel_X7_in : GoodIn wsX7_setPixel (va_wsS RX7 43 yX7_in wsX7_in) := goodIn_app (goodIn_of _ (by decide +kernel)) ggX7_setPixel_X7_in
set_option maxRecDepth 20000 in
theorem ggX7_setPixel_X7_begin : GoodIn wsX7_setPixel wsX7_begin := goodIn_r _ [13, 14, 6, 29, 30, 31, 32, 33, 34, 35, 36, 37, 38, 39, 40] (by decide +kernel) (by decide +kernel)
set_option maxRecDepth 20000 in
theorem gX7_setPixel_X7_begin : GoodIn wsX7_setPixel (wsV RX7 47 RX7 yX7_begin wsX7_begin) := goodIn_app (goodIn_of _ (by decide +kernel)) ggX7_setPixel_X7_begin
set_option maxRecDepth 20000 in
theorem ggX7_setPixel_X7_pixelOf : GoodIn wsX7_setPixel wsX7_pixelOf := goodIn_r _ [18, 6, 29, 30, 31, 32, 33, 34, 35, 36, 37, 38, 39, 40] (by decide +kernel) (by decide +kernel)
set_option maxRecDepth 20000 in
theorem gX7_setPixel_X7_pixelOf : GoodIn wsX7_setPixel (wsV RX7 58 RX7 yX7_pixelOf wsX7_pixelOf) := goodIn_app (goodIn_of _ (by decide +kernel)) ggX7_setPixel_X7_pixelOf
set_option maxRecDepth 20000 in
theorem ggX7_setPixel_X7_putPixel : GoodIn wsX7_setPixel wsX7_putPixel := goodIn_r _ [22, 6, 29, 30, 31, 32, 33, 34, 35, 36, 37, 38, 39, 40] (by decide +kernel) (by decide +kernel)
set_option maxRecDepth 20000 in
theorem gX7_setPixel_X7_putPixel : GoodIn wsX7_setPixel (wsV RX7 77 RX7 yX7_putPixel wsX7_putPixel) := goodIn_app (goodIn_of _ (by decide +kernel)) ggX7_setPixel_X7_putPixel
set_option maxRecDepth 20000 in
theorem ggX7_setPixel_X7_done : GoodIn wsX7_setPixel wsX7_done := goodIn_r _ [26, 27, 28, 14, 29, 30, 31, 32, 33, 34, 35, 36, 37, 38, 39, 40] (by decide +kernel) (by decide +kernel)
set_option maxRecDepth 20000 in
theorem gX7_setPixel_X7_done : GoodIn wsX7_setPixel (wsV RX7 50 RX7 yX7_done wsX7_done) := goodIn_app (goodIn_of _ (by decide +kernel)) ggX7_setPixel_X7_done
theorem dX7_setPixel_0 : decode cX7_setPixel 0 = .ok (.aload_n 0, 1) := by decide +kernel
theorem dX7_setPixel_1 : decode cX7_setPixel 1 = .ok (.iload_n 1, 1) := by decide +kernel
theorem dX7_setPixel_2 : decode cX7_setPixel 2 = .ok (.invokevirtual 70, 3) := by decide +kernel
theorem dX7_setPixel_5 : decode cX7_setPixel 5 = .ok (.ifCond .eq 5, 3) := by decide +kernel
theorem dX7_setPixel_8 : decode cX7_setPixel 8 = .ok (.iconst (-1), 1) := by decide +kernel
theorem dX7_setPixel_9 : decode cX7_setPixel 9 = .ok (.ireturn, 1) := by decide +kernel
theorem dX7_setPixel_10 : decode cX7_setPixel 10 = .ok (.iload_n 2, 1) := by decide +kernel
theorem dX7_setPixel_11 : decode cX7_setPixel 11 = .ok (.iconst 0, 1) := by decide +kernel
theorem dX7_setPixel_12 : decode cX7_setPixel 12 = .ok (.bipush 7, 2) := by decide +kernel
theorem dX7_setPixel_14 : decode cX7_setPixel 14 = .ok (.invokestatic 43, 3) := by decide +kernel
theorem dX7_setPixel_17 : decode cX7_setPixel 17 = .ok (.ifCond .eq 23, 3) := by decide +kernel
theorem dX7_setPixel_20 : decode cX7_setPixel 20 = .ok (.iload_n 3, 1) := by decide +kernel
theorem dX7_setPixel_21 : decode cX7_setPixel 21 = .ok (.iconst 0, 1) := by decide +kernel
theorem dX7_setPixel_22 : decode cX7_setPixel 22 = .ok (.bipush 7, 2) := by decide +kernel
theorem dX7_setPixel_24 : decode cX7_setPixel 24 = .ok (.invokestatic 43, 3) := by decide +kernel
theorem dX7_setPixel_27 : decode cX7_setPixel 27 = .ok (.ifCond .eq 13, 3) := by decide +kernel
theorem dX7_setPixel_30 : decode cX7_setPixel 30 = .ok (.iload 4, 2) := by decide +kernel
theorem dX7_setPixel_32 : decode cX7_setPixel 32 = .ok (.iconst 0, 1) := by decide +kernel
theorem dX7_setPixel_33 : decode cX7_setPixel 33 = .ok (.iconst 3, 1) := by decide +kernel
theorem dX7_setPixel_34 : decode cX7_setPixel 34 = .ok (.invokestatic 43, 3) := by decide +kernel
theorem dX7_setPixel_37 : decode cX7_setPixel 37 = .ok (.ifCond .ne 6, 3) := by decide +kernel
theorem dX7_setPixel_40 : decode cX7_setPixel 40 = .ok (.bipush (-2), 2) := by decide +kernel
theorem dX7_setPixel_42 : decode cX7_setPixel 42 = .ok (.ireturn, 1) := by decide +kernel
theorem dX7_setPixel_43 : decode cX7_setPixel 43 = .ok (.aload_n 0, 1) := by decide +kernel
theorem dX7_setPixel_44 : decode cX7_setPixel 44 = .ok (.invokevirtual 47, 3) := by decide +kernel
theorem dX7_setPixel_47 : decode cX7_setPixel 47 = .ok (.aload_n 0, 1) := by decide +kernel
theorem dX7_setPixel_48 : decode cX7_setPixel 48 = .ok (.iload_n 1, 1) := by decide +kernel
theorem dX7_setPixel_49 : decode cX7_setPixel 49 = .ok (.iload_n 2, 1) := by decide +kernel
theorem dX7_setPixel_50 : decode cX7_setPixel 50 = .ok (.iload_n 3, 1) := by decide +kernel
theorem dX7_setPixel_51 : decode cX7_setPixel 51 = .ok (.invokevirtual 58, 3) := by decide +kernel
theorem dX7_setPixel_54 : decode cX7_setPixel 54 = .ok (.istore 5, 2) := by decide +kernel
theorem dX7_setPixel_56 : decode cX7_setPixel 56 = .ok (.aload_n 0, 1) := by decide +kernel
theorem dX7_setPixel_57 : decode cX7_setPixel 57 = .ok (.iload_n 1, 1) := by decide +kernel
theorem dX7_setPixel_58 : decode cX7_setPixel 58 = .ok (.iload_n 2, 1) := by decide +kernel
theorem dX7_setPixel_59 : decode cX7_setPixel 59 = .ok (.iload_n 3, 1) := by decide +kernel
theorem dX7_setPixel_60 : decode cX7_setPixel 60 = .ok (.iload 4, 2) := by decide +kernel
theorem dX7_setPixel_62 : decode cX7_setPixel 62 = .ok (.invokevirtual 77, 3) := by decide +kernel
theorem dX7_setPixel_65 : decode cX7_setPixel 65 = .ok (.aload_n 0, 1) := by decide +kernel
theorem dX7_setPixel_66 : decode cX7_setPixel 66 = .ok (.iload 5, 2) := by decide +kernel
theorem dX7_setPixel_68 : decode cX7_setPixel 68 = .ok (.invokevirtual 50, 3) := by decide +kernel
theorem dX7_setPixel_71 : decode cX7_setPixel 71 = .ok (.ireturn, 1) := by decide +kernel
set_option maxRecDepth 20000 in
theorem ggX7_shownBy_X7_sprites : GoodIn wsX7_shownBy wsX7_sprites := goodIn_r _ [5, 6, 11, 12, 13, 14, 15, 16, 17, 18, 19, 20, 21, 22] (by decide +kernel) (by decide +kernel)
set_option maxRecDepth 20000 in
theorem gX7_shownBy_X7_sprites : GoodIn wsX7_shownBy (wsV RX7 54 RX7 yX7_sprites wsX7_sprites) := goodIn_app (goodIn_of _ (by decide +kernel)) ggX7_shownBy_X7_sprites
set_option maxRecDepth 20000 in
theorem ggX7_shownBy_X7_of : GoodIn wsX7_shownBy wsX7_of := goodIn_r _ [10, 6, 11, 12, 13, 14, 15, 16, 17, 18, 19, 20, 21, 22] (by decide +kernel) (by decide +kernel)
set_option maxRecDepth 20000 in
theorem gX7_shownBy_X7_of : GoodIn wsX7_shownBy (wsV RX7 81 RX7 yX7_of wsX7_of) := goodIn_app (goodIn_of _ (by decide +kernel)) ggX7_shownBy_X7_of
theorem dX7_shownBy_0 : decode cX7_shownBy 0 = .ok (.iconst 0, 1) := by decide +kernel
theorem dX7_shownBy_1 : decode cX7_shownBy 1 = .ok (.istore_n 2, 1) := by decide +kernel
theorem dX7_shownBy_2 : decode cX7_shownBy 2 = .ok (.iconst 0, 1) := by decide +kernel
theorem dX7_shownBy_3 : decode cX7_shownBy 3 = .ok (.istore_n 3, 1) := by decide +kernel
theorem dX7_shownBy_4 : decode cX7_shownBy 4 = .ok (.iload_n 3, 1) := by decide +kernel
theorem dX7_shownBy_5 : decode cX7_shownBy 5 = .ok (.aload_n 0, 1) := by decide +kernel
theorem dX7_shownBy_6 : decode cX7_shownBy 6 = .ok (.invokevirtual 54, 3) := by decide +kernel
theorem dX7_shownBy_9 : decode cX7_shownBy 9 = .ok (.if_icmp .ge 27, 3) := by decide +kernel
theorem dX7_shownBy_12 : decode cX7_shownBy 12 = .ok (.iload_n 2, 1) := by decide +kernel
theorem dX7_shownBy_13 : decode cX7_shownBy 13 = .ok (.aload_n 0, 1) := by decide +kernel
theorem dX7_shownBy_14 : decode cX7_shownBy 14 = .ok (.iload_n 3, 1) := by decide +kernel
theorem dX7_shownBy_15 : decode cX7_shownBy 15 = .ok (.iconst 0, 1) := by decide +kernel
theorem dX7_shownBy_16 : decode cX7_shownBy 16 = .ok (.invokevirtual 81, 3) := by decide +kernel
theorem dX7_shownBy_19 : decode cX7_shownBy 19 = .ok (.iload_n 1, 1) := by decide +kernel
theorem dX7_shownBy_20 : decode cX7_shownBy 20 = .ok (.if_icmp .ne 7, 3) := by decide +kernel
theorem dX7_shownBy_23 : decode cX7_shownBy 23 = .ok (.iconst 1, 1) := by decide +kernel
theorem dX7_shownBy_24 : decode cX7_shownBy 24 = .ok (.goto 4, 3) := by decide +kernel
theorem dX7_shownBy_27 : decode cX7_shownBy 27 = .ok (.iconst 0, 1) := by decide +kernel
theorem dX7_shownBy_28 : decode cX7_shownBy 28 = .ok (.iadd, 1) := by decide +kernel
theorem dX7_shownBy_29 : decode cX7_shownBy 29 = .ok (.istore_n 2, 1) := by decide +kernel
theorem dX7_shownBy_30 : decode cX7_shownBy 30 = .ok (.iinc 3 1, 3) := by decide +kernel
theorem dX7_shownBy_33 : decode cX7_shownBy 33 = .ok (.goto (-29), 3) := by decide +kernel
theorem dX7_shownBy_36 : decode cX7_shownBy 36 = .ok (.iload_n 2, 1) := by decide +kernel
theorem dX7_shownBy_37 : decode cX7_shownBy 37 = .ok (.ireturn, 1) := by decide +kernel
set_option maxRecDepth 20000 in
theorem ggX7_unite_X7_sprites : GoodIn wsX7_unite wsX7_sprites := goodIn_r _ [5, 6, 31, 32, 33, 34, 35, 36, 37, 38, 39, 40, 41, 42] (by decide +kernel) (by decide +kernel)
set_option maxRecDepth 20000 in
theorem gX7_unite_X7_sprites : GoodIn wsX7_unite (wsV RX7 54 RX7 yX7_sprites wsX7_sprites) := goodIn_app (goodIn_of _ (by decide +kernel)) ggX7_unite_X7_sprites
set_option maxRecDepth 20000 in
theorem ggX7_unite_X7_of : GoodIn wsX7_unite wsX7_of := goodIn_r _ [10, 6, 31, 32, 33, 34, 35, 36, 37, 38, 39, 40, 41, 42] (by decide +kernel) (by decide +kernel)
set_option maxRecDepth 20000 in
theorem gX7_unite_X7_of : GoodIn wsX7_unite (wsV RX7 81 RX7 yX7_of wsX7_of) := goodIn_app (goodIn_of _ (by decide +kernel)) ggX7_unite_X7_of
set_option maxRecDepth 20000 in
theorem ggX7_unite_X7_flipFor : GoodIn wsX7_unite wsX7_flipFor := goodIn_r _ [14, 15, 16, 17, 4, 18, 19, 20, 21, 22, 23, 24, 25, 26, 6, 31, 32, 33, 34, 35, 36, 37, 38, 39, 40, 41, 42] (by decide +kernel) (by decide +kernel)
set_option maxRecDepth 20000 in
theorem gX7_unite_X7_flipFor : GoodIn wsX7_unite (wsV RX7 74 RX7 yX7_flipFor wsX7_flipFor) := goodIn_app (goodIn_of _ (by decide +kernel)) ggX7_unite_X7_flipFor
set_option maxRecDepth 20000 in
theorem ggX7_unite_X7_put : GoodIn wsX7_unite wsX7_put := goodIn_r _ [30, 6, 31, 32, 33, 34, 35, 36, 37, 38, 39, 40, 41, 42] (by decide +kernel) (by decide +kernel)
set_option maxRecDepth 20000 in
theorem gX7_unite_X7_put : GoodIn wsX7_unite (wsV RX7 85 RX7 yX7_put wsX7_put) := goodIn_app (goodIn_of _ (by decide +kernel)) ggX7_unite_X7_put
theorem dX7_unite_0 : decode cX7_unite 0 = .ok (.iconst 0, 1) := by decide +kernel
theorem dX7_unite_1 : decode cX7_unite 1 = .ok (.istore_n 3, 1) := by decide +kernel
theorem dX7_unite_2 : decode cX7_unite 2 = .ok (.iload_n 3, 1) := by decide +kernel
theorem dX7_unite_3 : decode cX7_unite 3 = .ok (.aload_n 0, 1) := by decide +kernel
theorem dX7_unite_4 : decode cX7_unite 4 = .ok (.invokevirtual 54, 3) := by decide +kernel
theorem dX7_unite_7 : decode cX7_unite 7 = .ok (.if_icmp .ge 44, 3) := by decide +kernel
theorem dX7_unite_10 : decode cX7_unite 10 = .ok (.aload_n 0, 1) := by decide +kernel
theorem dX7_unite_11 : decode cX7_unite 11 = .ok (.iload_n 3, 1) := by decide +kernel
theorem dX7_unite_12 : decode cX7_unite 12 = .ok (.iconst 0, 1) := by decide +kernel
theorem dX7_unite_13 : decode cX7_unite 13 = .ok (.invokevirtual 81, 3) := by decide +kernel
theorem dX7_unite_16 : decode cX7_unite 16 = .ok (.iload_n 2, 1) := by decide +kernel
theorem dX7_unite_17 : decode cX7_unite 17 = .ok (.if_icmp .ne 28, 3) := by decide +kernel
theorem dX7_unite_20 : decode cX7_unite 20 = .ok (.aload_n 0, 1) := by decide +kernel
theorem dX7_unite_21 : decode cX7_unite 21 = .ok (.iload_n 3, 1) := by decide +kernel
theorem dX7_unite_22 : decode cX7_unite 22 = .ok (.iconst 1, 1) := by decide +kernel
theorem dX7_unite_23 : decode cX7_unite 23 = .ok (.aload_n 0, 1) := by decide +kernel
theorem dX7_unite_24 : decode cX7_unite 24 = .ok (.iload_n 1, 1) := by decide +kernel
theorem dX7_unite_25 : decode cX7_unite 25 = .ok (.iload_n 2, 1) := by decide +kernel
theorem dX7_unite_26 : decode cX7_unite 26 = .ok (.aload_n 0, 1) := by decide +kernel
theorem dX7_unite_27 : decode cX7_unite 27 = .ok (.iload_n 3, 1) := by decide +kernel
theorem dX7_unite_28 : decode cX7_unite 28 = .ok (.iconst 1, 1) := by decide +kernel
theorem dX7_unite_29 : decode cX7_unite 29 = .ok (.invokevirtual 81, 3) := by decide +kernel
theorem dX7_unite_32 : decode cX7_unite 32 = .ok (.invokevirtual 74, 3) := by decide +kernel
theorem dX7_unite_35 : decode cX7_unite 35 = .ok (.invokevirtual 85, 3) := by decide +kernel
theorem dX7_unite_38 : decode cX7_unite 38 = .ok (.aload_n 0, 1) := by decide +kernel
theorem dX7_unite_39 : decode cX7_unite 39 = .ok (.iload_n 3, 1) := by decide +kernel
theorem dX7_unite_40 : decode cX7_unite 40 = .ok (.iconst 0, 1) := by decide +kernel
theorem dX7_unite_41 : decode cX7_unite 41 = .ok (.iload_n 1, 1) := by decide +kernel
theorem dX7_unite_42 : decode cX7_unite 42 = .ok (.invokevirtual 85, 3) := by decide +kernel
theorem dX7_unite_45 : decode cX7_unite 45 = .ok (.iinc 3 1, 3) := by decide +kernel
theorem dX7_unite_48 : decode cX7_unite 48 = .ok (.goto (-46), 3) := by decide +kernel
theorem dX7_unite_51 : decode cX7_unite 51 = .ok (.return_, 1) := by decide +kernel
set_option maxRecDepth 20000 in
theorem ggX7_pack_X7_begin : GoodIn wsX7_pack wsX7_begin := goodIn_r _ [8, 9, 1, 52, 53, 54, 55, 56, 57, 58, 59, 60, 61, 62, 63] (by decide +kernel) (by decide +kernel)
set_option maxRecDepth 20000 in
theorem gX7_pack_X7_begin : GoodIn wsX7_pack (wsV RX7 47 RX7 yX7_begin wsX7_begin) := goodIn_app (goodIn_of _ (by decide +kernel)) ggX7_pack_X7_begin
set_option maxRecDepth 20000 in
theorem ggX7_pack_X7_flipFor : GoodIn wsX7_pack wsX7_flipFor := goodIn_r _ [13, 14, 15, 16, 7, 17, 18, 19, 20, 21, 22, 23, 24, 25, 1, 52, 53, 54, 55, 56, 57, 58, 59, 60, 61, 62, 63] (by decide +kernel) (by decide +kernel)
set_option maxRecDepth 20000 in
theorem gX7_pack_X7_flipFor : GoodIn wsX7_pack (wsV RX7 74 RX7 yX7_flipFor wsX7_flipFor) := goodIn_app (goodIn_of _ (by decide +kernel)) ggX7_pack_X7_flipFor
set_option maxRecDepth 20000 in
theorem ggX7_pack_X7_unite : GoodIn wsX7_pack wsX7_unite := goodIn_r _ [29, 30, 31, 32, 7, 33, 1, 34, 35, 36, 37, 10, 11, 12, 13, 14, 15, 16, 17, 18, 19, 20, 21, 22, 23, 24, 25, 38, 39, 40, 41, 52, 53, 54, 55, 56, 57, 58, 59, 60, 61, 62, 63] (by decide +kernel) (by decide +kernel)
set_option maxRecDepth 20000 in
theorem gX7_pack_X7_unite : GoodIn wsX7_pack (wsV RX7 89 RX7 yX7_unite wsX7_unite) := goodIn_app (goodIn_of _ (by decide +kernel)) ggX7_pack_X7_unite
set_option maxRecDepth 20000 in
theorem ggX7_pack_X7_shownBy : GoodIn wsX7_pack wsX7_shownBy := goodIn_r _ [45, 30, 31, 32, 7, 33, 1, 34, 35, 36, 37, 52, 53, 54, 55, 56, 57, 58, 59, 60, 61, 62, 63] (by decide +kernel) (by decide +kernel)
set_option maxRecDepth 20000 in
theorem gX7_pack_X7_shownBy : GoodIn wsX7_pack (wsV RX7 93 RX7 yX7_shownBy wsX7_shownBy) := goodIn_app (goodIn_of _ (by decide +kernel)) ggX7_pack_X7_shownBy
set_option maxRecDepth 20000 in
theorem ggX7_pack_X7_sprites : GoodIn wsX7_pack wsX7_sprites := goodIn_r _ [33, 1, 52, 53, 54, 55, 56, 57, 58, 59, 60, 61, 62, 63] (by decide +kernel) (by decide +kernel)
set_option maxRecDepth 20000 in
theorem gX7_pack_X7_sprites : GoodIn wsX7_pack (wsV RX7 54 RX7 yX7_sprites wsX7_sprites) := goodIn_app (goodIn_of _ (by decide +kernel)) ggX7_pack_X7_sprites
set_option maxRecDepth 20000 in
theorem ggX7_pack_X7_of : GoodIn wsX7_pack wsX7_of := goodIn_r _ [37, 1, 52, 53, 54, 55, 56, 57, 58, 59, 60, 61, 62, 63] (by decide +kernel) (by decide +kernel)
set_option maxRecDepth 20000 in
theorem gX7_pack_X7_of : GoodIn wsX7_pack (wsV RX7 81 RX7 yX7_of wsX7_of) := goodIn_app (goodIn_of _ (by decide +kernel)) ggX7_pack_X7_of
set_option maxRecDepth 20000 in
theorem ggX7_pack_X7_put : GoodIn wsX7_pack wsX7_put := goodIn_r _ [41, 1, 52, 53, 54, 55, 56, 57, 58, 59, 60, 61, 62, 63] (by decide +kernel) (by decide +kernel)
set_option maxRecDepth 20000 in
theorem gX7_pack_X7_put : GoodIn wsX7_pack (wsV RX7 85 RX7 yX7_put wsX7_put) := goodIn_app (goodIn_of _ (by decide +kernel)) ggX7_pack_X7_put
set_option maxRecDepth 20000 in
theorem ggX7_pack_X7_done : GoodIn wsX7_pack wsX7_done := goodIn_r _ [49, 50, 51, 9, 52, 53, 54, 55, 56, 57, 58, 59, 60, 61, 62, 63] (by decide +kernel) (by decide +kernel)
set_option maxRecDepth 20000 in
theorem gX7_pack_X7_done : GoodIn wsX7_pack (wsV RX7 50 RX7 yX7_done wsX7_done) := goodIn_app (goodIn_of _ (by decide +kernel)) ggX7_pack_X7_done
theorem dX7_pack_0 : decode cX7_pack 0 = .ok (.aload_n 0, 1) := by decide +kernel
theorem dX7_pack_1 : decode cX7_pack 1 = .ok (.invokevirtual 47, 3) := by decide +kernel
theorem dX7_pack_4 : decode cX7_pack 4 = .ok (.aload_n 0, 1) := by decide +kernel
theorem dX7_pack_5 : decode cX7_pack 5 = .ok (.getfield 7, 3) := by decide +kernel
theorem dX7_pack_8 : decode cX7_pack 8 = .ok (.iconst 0, 1) := by decide +kernel
theorem dX7_pack_9 : decode cX7_pack 9 = .ok (.iaload, 1) := by decide +kernel
theorem dX7_pack_10 : decode cX7_pack 10 = .ok (.istore_n 2, 1) := by decide +kernel
theorem dX7_pack_11 : decode cX7_pack 11 = .ok (.iconst 0, 1) := by decide +kernel
theorem dX7_pack_12 : decode cX7_pack 12 = .ok (.istore_n 3, 1) := by decide +kernel
theorem dX7_pack_13 : decode cX7_pack 13 = .ok (.iload_n 3, 1) := by decide +kernel
theorem dX7_pack_14 : decode cX7_pack 14 = .ok (.iload_n 2, 1) := by decide +kernel
theorem dX7_pack_15 : decode cX7_pack 15 = .ok (.if_icmp .ge 16, 3) := by decide +kernel
theorem dX7_pack_18 : decode cX7_pack 18 = .ok (.aload_n 0, 1) := by decide +kernel
theorem dX7_pack_19 : decode cX7_pack 19 = .ok (.getfield 26, 3) := by decide +kernel
theorem dX7_pack_22 : decode cX7_pack 22 = .ok (.iload_n 3, 1) := by decide +kernel
theorem dX7_pack_23 : decode cX7_pack 23 = .ok (.iconst 0, 1) := by decide +kernel
theorem dX7_pack_24 : decode cX7_pack 24 = .ok (.bastore, 1) := by decide +kernel
theorem dX7_pack_25 : decode cX7_pack 25 = .ok (.iinc 3 1, 3) := by decide +kernel
theorem dX7_pack_28 : decode cX7_pack 28 = .ok (.goto (-15), 3) := by decide +kernel
theorem dX7_pack_31 : decode cX7_pack 31 = .ok (.iconst 0, 1) := by decide +kernel
theorem dX7_pack_32 : decode cX7_pack 32 = .ok (.istore_n 3, 1) := by decide +kernel
theorem dX7_pack_33 : decode cX7_pack 33 = .ok (.iload_n 3, 1) := by decide +kernel
theorem dX7_pack_34 : decode cX7_pack 34 = .ok (.iload_n 2, 1) := by decide +kernel
theorem dX7_pack_35 : decode cX7_pack 35 = .ok (.if_icmp .ge 71, 3) := by decide +kernel
theorem dX7_pack_38 : decode cX7_pack 38 = .ok (.iload_n 3, 1) := by decide +kernel
theorem dX7_pack_39 : decode cX7_pack 39 = .ok (.iconst 1, 1) := by decide +kernel
theorem dX7_pack_40 : decode cX7_pack 40 = .ok (.iadd, 1) := by decide +kernel
theorem dX7_pack_41 : decode cX7_pack 41 = .ok (.istore 4, 2) := by decide +kernel
theorem dX7_pack_43 : decode cX7_pack 43 = .ok (.iload 4, 2) := by decide +kernel
theorem dX7_pack_45 : decode cX7_pack 45 = .ok (.iload_n 2, 1) := by decide +kernel
theorem dX7_pack_46 : decode cX7_pack 46 = .ok (.if_icmp .ge 54, 3) := by decide +kernel
theorem dX7_pack_49 : decode cX7_pack 49 = .ok (.aload_n 0, 1) := by decide +kernel
theorem dX7_pack_50 : decode cX7_pack 50 = .ok (.getfield 26, 3) := by decide +kernel
theorem dX7_pack_53 : decode cX7_pack 53 = .ok (.iload_n 3, 1) := by decide +kernel
theorem dX7_pack_54 : decode cX7_pack 54 = .ok (.baload, 1) := by decide +kernel
theorem dX7_pack_55 : decode cX7_pack 55 = .ok (.ifCond .ne 45, 3) := by decide +kernel
theorem dX7_pack_58 : decode cX7_pack 58 = .ok (.aload_n 0, 1) := by decide +kernel
theorem dX7_pack_59 : decode cX7_pack 59 = .ok (.getfield 26, 3) := by decide +kernel
theorem dX7_pack_62 : decode cX7_pack 62 = .ok (.iload 4, 2) := by decide +kernel
theorem dX7_pack_64 : decode cX7_pack 64 = .ok (.baload, 1) := by decide +kernel
theorem dX7_pack_65 : decode cX7_pack 65 = .ok (.ifCond .ne 29, 3) := by decide +kernel
theorem dX7_pack_68 : decode cX7_pack 68 = .ok (.aload_n 0, 1) := by decide +kernel
theorem dX7_pack_69 : decode cX7_pack 69 = .ok (.iload_n 3, 1) := by decide +kernel
theorem dX7_pack_70 : decode cX7_pack 70 = .ok (.iload 4, 2) := by decide +kernel
theorem dX7_pack_72 : decode cX7_pack 72 = .ok (.iconst 0, 1) := by decide +kernel
theorem dX7_pack_73 : decode cX7_pack 73 = .ok (.invokevirtual 74, 3) := by decide +kernel
theorem dX7_pack_76 : decode cX7_pack 76 = .ok (.ifCond .lt 18, 3) := by decide +kernel
theorem dX7_pack_79 : decode cX7_pack 79 = .ok (.aload_n 0, 1) := by decide +kernel
theorem dX7_pack_80 : decode cX7_pack 80 = .ok (.getfield 26, 3) := by decide +kernel
theorem dX7_pack_83 : decode cX7_pack 83 = .ok (.iload 4, 2) := by decide +kernel
theorem dX7_pack_85 : decode cX7_pack 85 = .ok (.iconst 1, 1) := by decide +kernel
theorem dX7_pack_86 : decode cX7_pack 86 = .ok (.bastore, 1) := by decide +kernel
theorem dX7_pack_87 : decode cX7_pack 87 = .ok (.aload_n 0, 1) := by decide +kernel
theorem dX7_pack_88 : decode cX7_pack 88 = .ok (.iload_n 3, 1) := by decide +kernel
theorem dX7_pack_89 : decode cX7_pack 89 = .ok (.iload 4, 2) := by decide +kernel
theorem dX7_pack_91 : decode cX7_pack 91 = .ok (.invokevirtual 89, 3) := by decide +kernel
theorem dX7_pack_94 : decode cX7_pack 94 = .ok (.iinc 4 1, 3) := by decide +kernel
theorem dX7_pack_97 : decode cX7_pack 97 = .ok (.goto (-54), 3) := by decide +kernel
theorem dX7_pack_100 : decode cX7_pack 100 = .ok (.iinc 3 1, 3) := by decide +kernel
theorem dX7_pack_103 : decode cX7_pack 103 = .ok (.goto (-70), 3) := by decide +kernel
theorem dX7_pack_106 : decode cX7_pack 106 = .ok (.iconst 0, 1) := by decide +kernel
theorem dX7_pack_107 : decode cX7_pack 107 = .ok (.istore_n 3, 1) := by decide +kernel
theorem dX7_pack_108 : decode cX7_pack 108 = .ok (.iconst 0, 1) := by decide +kernel
theorem dX7_pack_109 : decode cX7_pack 109 = .ok (.istore 4, 2) := by decide +kernel
theorem dX7_pack_111 : decode cX7_pack 111 = .ok (.iload 4, 2) := by decide +kernel
theorem dX7_pack_113 : decode cX7_pack 113 = .ok (.iload_n 2, 1) := by decide +kernel
theorem dX7_pack_114 : decode cX7_pack 114 = .ok (.if_icmp .ge 70, 3) := by decide +kernel
theorem dX7_pack_117 : decode cX7_pack 117 = .ok (.aload_n 0, 1) := by decide +kernel
theorem dX7_pack_118 : decode cX7_pack 118 = .ok (.getfield 26, 3) := by decide +kernel
theorem dX7_pack_121 : decode cX7_pack 121 = .ok (.iload 4, 2) := by decide +kernel
theorem dX7_pack_123 : decode cX7_pack 123 = .ok (.aload_n 0, 1) := by decide +kernel
theorem dX7_pack_124 : decode cX7_pack 124 = .ok (.getfield 26, 3) := by decide +kernel
theorem dX7_pack_127 : decode cX7_pack 127 = .ok (.iload 4, 2) := by decide +kernel
theorem dX7_pack_129 : decode cX7_pack 129 = .ok (.baload, 1) := by decide +kernel
theorem dX7_pack_130 : decode cX7_pack 130 = .ok (.ifCond .ne 16, 3) := by decide +kernel
theorem dX7_pack_133 : decode cX7_pack 133 = .ok (.iload_n 1, 1) := by decide +kernel
theorem dX7_pack_134 : decode cX7_pack 134 = .ok (.ifCond .eq 16, 3) := by decide +kernel
theorem dX7_pack_137 : decode cX7_pack 137 = .ok (.aload_n 0, 1) := by decide +kernel
theorem dX7_pack_138 : decode cX7_pack 138 = .ok (.iload 4, 2) := by decide +kernel
theorem dX7_pack_140 : decode cX7_pack 140 = .ok (.invokevirtual 93, 3) := by decide +kernel
theorem dX7_pack_143 : decode cX7_pack 143 = .ok (.ifCond .ne 7, 3) := by decide +kernel
theorem dX7_pack_146 : decode cX7_pack 146 = .ok (.iconst 1, 1) := by decide +kernel
theorem dX7_pack_147 : decode cX7_pack 147 = .ok (.goto 4, 3) := by decide +kernel
theorem dX7_pack_150 : decode cX7_pack 150 = .ok (.iconst 0, 1) := by decide +kernel
theorem dX7_pack_151 : decode cX7_pack 151 = .ok (.bastore, 1) := by decide +kernel
theorem dX7_pack_152 : decode cX7_pack 152 = .ok (.aload_n 0, 1) := by decide +kernel
theorem dX7_pack_153 : decode cX7_pack 153 = .ok (.getfield 29, 3) := by decide +kernel
theorem dX7_pack_156 : decode cX7_pack 156 = .ok (.iload 4, 2) := by decide +kernel
theorem dX7_pack_158 : decode cX7_pack 158 = .ok (.iload_n 3, 1) := by decide +kernel
theorem dX7_pack_159 : decode cX7_pack 159 = .ok (.iastore, 1) := by decide +kernel
theorem dX7_pack_160 : decode cX7_pack 160 = .ok (.iload_n 3, 1) := by decide +kernel
theorem dX7_pack_161 : decode cX7_pack 161 = .ok (.aload_n 0, 1) := by decide +kernel
theorem dX7_pack_162 : decode cX7_pack 162 = .ok (.getfield 26, 3) := by decide +kernel
theorem dX7_pack_165 : decode cX7_pack 165 = .ok (.iload 4, 2) := by decide +kernel
theorem dX7_pack_167 : decode cX7_pack 167 = .ok (.baload, 1) := by decide +kernel
theorem dX7_pack_168 : decode cX7_pack 168 = .ok (.ifCond .eq 7, 3) := by decide +kernel
theorem dX7_pack_171 : decode cX7_pack 171 = .ok (.iconst 0, 1) := by decide +kernel
theorem dX7_pack_172 : decode cX7_pack 172 = .ok (.goto 4, 3) := by decide +kernel
theorem dX7_pack_175 : decode cX7_pack 175 = .ok (.iconst 1, 1) := by decide +kernel
theorem dX7_pack_176 : decode cX7_pack 176 = .ok (.iadd, 1) := by decide +kernel
theorem dX7_pack_177 : decode cX7_pack 177 = .ok (.istore_n 3, 1) := by decide +kernel
theorem dX7_pack_178 : decode cX7_pack 178 = .ok (.iinc 4 1, 3) := by decide +kernel
theorem dX7_pack_181 : decode cX7_pack 181 = .ok (.goto (-70), 3) := by decide +kernel
theorem dX7_pack_184 : decode cX7_pack 184 = .ok (.iload_n 3, 1) := by decide +kernel
theorem dX7_pack_185 : decode cX7_pack 185 = .ok (.iload_n 2, 1) := by decide +kernel
theorem dX7_pack_186 : decode cX7_pack 186 = .ok (.if_icmp .ne 6, 3) := by decide +kernel
theorem dX7_pack_189 : decode cX7_pack 189 = .ok (.bipush (-5), 2) := by decide +kernel
theorem dX7_pack_191 : decode cX7_pack 191 = .ok (.ireturn, 1) := by decide +kernel
theorem dX7_pack_192 : decode cX7_pack 192 = .ok (.iconst 0, 1) := by decide +kernel
theorem dX7_pack_193 : decode cX7_pack 193 = .ok (.istore 4, 2) := by decide +kernel
theorem dX7_pack_195 : decode cX7_pack 195 = .ok (.iload 4, 2) := by decide +kernel
theorem dX7_pack_197 : decode cX7_pack 197 = .ok (.iload_n 2, 1) := by decide +kernel
theorem dX7_pack_198 : decode cX7_pack 198 = .ok (.if_icmp .ge 70, 3) := by decide +kernel
theorem dX7_pack_201 : decode cX7_pack 201 = .ok (.iconst 0, 1) := by decide +kernel
theorem dX7_pack_202 : decode cX7_pack 202 = .ok (.istore 5, 2) := by decide +kernel
theorem dX7_pack_204 : decode cX7_pack 204 = .ok (.iload 5, 2) := by decide +kernel
theorem dX7_pack_206 : decode cX7_pack 206 = .ok (.bipush 8, 2) := by decide +kernel
theorem dX7_pack_208 : decode cX7_pack 208 = .ok (.if_icmp .ge 54, 3) := by decide +kernel
theorem dX7_pack_211 : decode cX7_pack 211 = .ok (.aload_n 0, 1) := by decide +kernel
theorem dX7_pack_212 : decode cX7_pack 212 = .ok (.getfield 26, 3) := by decide +kernel
theorem dX7_pack_215 : decode cX7_pack 215 = .ok (.iload 4, 2) := by decide +kernel
theorem dX7_pack_217 : decode cX7_pack 217 = .ok (.baload, 1) := by decide +kernel
theorem dX7_pack_218 : decode cX7_pack 218 = .ok (.ifCond .ne 44, 3) := by decide +kernel
theorem dX7_pack_221 : decode cX7_pack 221 = .ok (.aload_n 0, 1) := by decide +kernel
theorem dX7_pack_222 : decode cX7_pack 222 = .ok (.getfield 7, 3) := by decide +kernel
theorem dX7_pack_225 : decode cX7_pack 225 = .ok (.iconst 5, 1) := by decide +kernel
theorem dX7_pack_226 : decode cX7_pack 226 = .ok (.bipush 8, 2) := by decide +kernel
theorem dX7_pack_228 : decode cX7_pack 228 = .ok (.aload_n 0, 1) := by decide +kernel
theorem dX7_pack_229 : decode cX7_pack 229 = .ok (.getfield 29, 3) := by decide +kernel
theorem dX7_pack_232 : decode cX7_pack 232 = .ok (.iload 4, 2) := by decide +kernel
theorem dX7_pack_234 : decode cX7_pack 234 = .ok (.iaload, 1) := by decide +kernel
theorem dX7_pack_235 : decode cX7_pack 235 = .ok (.imul, 1) := by decide +kernel
theorem dX7_pack_236 : decode cX7_pack 236 = .ok (.iadd, 1) := by decide +kernel
theorem dX7_pack_237 : decode cX7_pack 237 = .ok (.iload 5, 2) := by decide +kernel
theorem dX7_pack_239 : decode cX7_pack 239 = .ok (.iadd, 1) := by decide +kernel
theorem dX7_pack_240 : decode cX7_pack 240 = .ok (.aload_n 0, 1) := by decide +kernel
theorem dX7_pack_241 : decode cX7_pack 241 = .ok (.getfield 7, 3) := by decide +kernel
theorem dX7_pack_244 : decode cX7_pack 244 = .ok (.iconst 5, 1) := by decide +kernel
theorem dX7_pack_245 : decode cX7_pack 245 = .ok (.bipush 8, 2) := by decide +kernel
theorem dX7_pack_247 : decode cX7_pack 247 = .ok (.iload 4, 2) := by decide +kernel
theorem dX7_pack_249 : decode cX7_pack 249 = .ok (.imul, 1) := by decide +kernel
theorem dX7_pack_250 : decode cX7_pack 250 = .ok (.iadd, 1) := by decide +kernel
theorem dX7_pack_251 : decode cX7_pack 251 = .ok (.iload 5, 2) := by decide +kernel
theorem dX7_pack_253 : decode cX7_pack 253 = .ok (.iadd, 1) := by decide +kernel
theorem dX7_pack_254 : decode cX7_pack 254 = .ok (.iaload, 1) := by decide +kernel
theorem dX7_pack_255 : decode cX7_pack 255 = .ok (.iastore, 1) := by decide +kernel
theorem dX7_pack_256 : decode cX7_pack 256 = .ok (.iinc 5 1, 3) := by decide +kernel
theorem dX7_pack_259 : decode cX7_pack 259 = .ok (.goto (-55), 3) := by decide +kernel
theorem dX7_pack_262 : decode cX7_pack 262 = .ok (.iinc 4 1, 3) := by decide +kernel
theorem dX7_pack_265 : decode cX7_pack 265 = .ok (.goto (-70), 3) := by decide +kernel
theorem dX7_pack_268 : decode cX7_pack 268 = .ok (.iconst 0, 1) := by decide +kernel
theorem dX7_pack_269 : decode cX7_pack 269 = .ok (.istore 4, 2) := by decide +kernel
theorem dX7_pack_271 : decode cX7_pack 271 = .ok (.iload 4, 2) := by decide +kernel
theorem dX7_pack_273 : decode cX7_pack 273 = .ok (.aload_n 0, 1) := by decide +kernel
theorem dX7_pack_274 : decode cX7_pack 274 = .ok (.invokevirtual 54, 3) := by decide +kernel
theorem dX7_pack_277 : decode cX7_pack 277 = .ok (.if_icmp .ge 28, 3) := by decide +kernel
theorem dX7_pack_280 : decode cX7_pack 280 = .ok (.aload_n 0, 1) := by decide +kernel
theorem dX7_pack_281 : decode cX7_pack 281 = .ok (.iload 4, 2) := by decide +kernel
theorem dX7_pack_283 : decode cX7_pack 283 = .ok (.iconst 0, 1) := by decide +kernel
theorem dX7_pack_284 : decode cX7_pack 284 = .ok (.aload_n 0, 1) := by decide +kernel
theorem dX7_pack_285 : decode cX7_pack 285 = .ok (.getfield 29, 3) := by decide +kernel
theorem dX7_pack_288 : decode cX7_pack 288 = .ok (.aload_n 0, 1) := by decide +kernel
theorem dX7_pack_289 : decode cX7_pack 289 = .ok (.iload 4, 2) := by decide +kernel
theorem dX7_pack_291 : decode cX7_pack 291 = .ok (.iconst 0, 1) := by decide +kernel
theorem dX7_pack_292 : decode cX7_pack 292 = .ok (.invokevirtual 81, 3) := by decide +kernel
theorem dX7_pack_295 : decode cX7_pack 295 = .ok (.iaload, 1) := by decide +kernel
theorem dX7_pack_296 : decode cX7_pack 296 = .ok (.invokevirtual 85, 3) := by decide +kernel
theorem dX7_pack_299 : decode cX7_pack 299 = .ok (.iinc 4 1, 3) := by decide +kernel
theorem dX7_pack_302 : decode cX7_pack 302 = .ok (.goto (-31), 3) := by decide +kernel
theorem dX7_pack_305 : decode cX7_pack 305 = .ok (.aload_n 0, 1) := by decide +kernel
theorem dX7_pack_306 : decode cX7_pack 306 = .ok (.getfield 7, 3) := by decide +kernel
theorem dX7_pack_309 : decode cX7_pack 309 = .ok (.iconst 0, 1) := by decide +kernel
theorem dX7_pack_310 : decode cX7_pack 310 = .ok (.iload_n 3, 1) := by decide +kernel
theorem dX7_pack_311 : decode cX7_pack 311 = .ok (.iastore, 1) := by decide +kernel
theorem dX7_pack_312 : decode cX7_pack 312 = .ok (.aload_n 0, 1) := by decide +kernel
theorem dX7_pack_313 : decode cX7_pack 313 = .ok (.iload_n 2, 1) := by decide +kernel
theorem dX7_pack_314 : decode cX7_pack 314 = .ok (.iload_n 3, 1) := by decide +kernel
theorem dX7_pack_315 : decode cX7_pack 315 = .ok (.isub, 1) := by decide +kernel
theorem dX7_pack_316 : decode cX7_pack 316 = .ok (.invokevirtual 50, 3) := by decide +kernel
theorem dX7_pack_319 : decode cX7_pack 319 = .ok (.ireturn, 1) := by decide +kernel
set_option maxRecDepth 20000 in
theorem ggX7_setColor_X7_in : GoodIn wsX7_setColor wsX7_in := goodIn_r _ [5] (by decide +kernel) (by decide +kernel)
set_option maxRecDepth 20000 in
theorem gX7_setColor_X7_in : GoodIn wsX7_setColor (va_wsS RX7 43 yX7_in wsX7_in) := goodIn_app (goodIn_of _ (by decide +kernel)) ggX7_setColor_X7_in
set_option maxRecDepth 20000 in
theorem ggX7_setColor_X7_begin : GoodIn wsX7_setColor wsX7_begin := goodIn_r _ [9, 10, 1, 17, 18, 19, 20, 21, 22, 23, 24, 25, 26, 27, 28] (by decide +kernel) (by decide +kernel)
set_option maxRecDepth 20000 in
theorem gX7_setColor_X7_begin : GoodIn wsX7_setColor (wsV RX7 47 RX7 yX7_begin wsX7_begin) := goodIn_app (goodIn_of _ (by decide +kernel)) ggX7_setColor_X7_begin
set_option maxRecDepth 20000 in
theorem ggX7_setColor_X7_done : GoodIn wsX7_setColor wsX7_done := goodIn_r _ [14, 15, 16, 10, 17, 18, 19, 20, 21, 22, 23, 24, 25, 26, 27, 28] (by decide +kernel) (by decide +kernel)
set_option maxRecDepth 20000 in
theorem gX7_setColor_X7_done : GoodIn wsX7_setColor (wsV RX7 50 RX7 yX7_done wsX7_done) := goodIn_app (goodIn_of _ (by decide +kernel)) ggX7_setColor_X7_done
theorem dX7_setColor_0 : decode cX7_setColor 0 = .ok (.iload_n 1, 1) := by decide +kernel
theorem dX7_setColor_1 : decode cX7_setColor 1 = .ok (.iconst 0, 1) := by decide +kernel
theorem dX7_setColor_2 : decode cX7_setColor 2 = .ok (.iconst 3, 1) := by decide +kernel
theorem dX7_setColor_3 : decode cX7_setColor 3 = .ok (.invokestatic 43, 3) := by decide +kernel
theorem dX7_setColor_6 : decode cX7_setColor 6 = .ok (.ifCond .ne 5, 3) := by decide +kernel
theorem dX7_setColor_9 : decode cX7_setColor 9 = .ok (.iconst (-1), 1) := by decide +kernel
theorem dX7_setColor_10 : decode cX7_setColor 10 = .ok (.ireturn, 1) := by decide +kernel
theorem dX7_setColor_11 : decode cX7_setColor 11 = .ok (.iload_n 2, 1) := by decide +kernel
theorem dX7_setColor_12 : decode cX7_setColor 12 = .ok (.iconst 1, 1) := by decide +kernel
theorem dX7_setColor_13 : decode cX7_setColor 13 = .ok (.iconst 3, 1) := by decide +kernel
theorem dX7_setColor_14 : decode cX7_setColor 14 = .ok (.invokestatic 43, 3) := by decide +kernel
theorem dX7_setColor_17 : decode cX7_setColor 17 = .ok (.ifCond .eq 13, 3) := by decide +kernel
theorem dX7_setColor_20 : decode cX7_setColor 20 = .ok (.iload_n 3, 1) := by decide +kernel
theorem dX7_setColor_21 : decode cX7_setColor 21 = .ok (.iconst 0, 1) := by decide +kernel
theorem dX7_setColor_22 : decode cX7_setColor 22 = .ok (.bipush 63, 2) := by decide +kernel
theorem dX7_setColor_24 : decode cX7_setColor 24 = .ok (.invokestatic 43, 3) := by decide +kernel
theorem dX7_setColor_27 : decode cX7_setColor 27 = .ok (.ifCond .ne 6, 3) := by decide +kernel
theorem dX7_setColor_30 : decode cX7_setColor 30 = .ok (.bipush (-2), 2) := by decide +kernel
theorem dX7_setColor_32 : decode cX7_setColor 32 = .ok (.ireturn, 1) := by decide +kernel
theorem dX7_setColor_33 : decode cX7_setColor 33 = .ok (.aload_n 0, 1) := by decide +kernel
theorem dX7_setColor_34 : decode cX7_setColor 34 = .ok (.invokevirtual 47, 3) := by decide +kernel
theorem dX7_setColor_37 : decode cX7_setColor 37 = .ok (.sipush 197, 3) := by decide +kernel
theorem dX7_setColor_40 : decode cX7_setColor 40 = .ok (.iconst 3, 1) := by decide +kernel
theorem dX7_setColor_41 : decode cX7_setColor 41 = .ok (.iload_n 1, 1) := by decide +kernel
theorem dX7_setColor_42 : decode cX7_setColor 42 = .ok (.imul, 1) := by decide +kernel
theorem dX7_setColor_43 : decode cX7_setColor 43 = .ok (.iadd, 1) := by decide +kernel
theorem dX7_setColor_44 : decode cX7_setColor 44 = .ok (.iload_n 2, 1) := by decide +kernel
theorem dX7_setColor_45 : decode cX7_setColor 45 = .ok (.iadd, 1) := by decide +kernel
theorem dX7_setColor_46 : decode cX7_setColor 46 = .ok (.iconst 1, 1) := by decide +kernel
theorem dX7_setColor_47 : decode cX7_setColor 47 = .ok (.isub, 1) := by decide +kernel
theorem dX7_setColor_48 : decode cX7_setColor 48 = .ok (.istore 4, 2) := by decide +kernel
theorem dX7_setColor_50 : decode cX7_setColor 50 = .ok (.aload_n 0, 1) := by decide +kernel
theorem dX7_setColor_51 : decode cX7_setColor 51 = .ok (.getfield 7, 3) := by decide +kernel
theorem dX7_setColor_54 : decode cX7_setColor 54 = .ok (.iload 4, 2) := by decide +kernel
theorem dX7_setColor_56 : decode cX7_setColor 56 = .ok (.iaload, 1) := by decide +kernel
theorem dX7_setColor_57 : decode cX7_setColor 57 = .ok (.istore 5, 2) := by decide +kernel
theorem dX7_setColor_59 : decode cX7_setColor 59 = .ok (.aload_n 0, 1) := by decide +kernel
theorem dX7_setColor_60 : decode cX7_setColor 60 = .ok (.getfield 7, 3) := by decide +kernel
theorem dX7_setColor_63 : decode cX7_setColor 63 = .ok (.iload 4, 2) := by decide +kernel
theorem dX7_setColor_65 : decode cX7_setColor 65 = .ok (.iload_n 3, 1) := by decide +kernel
theorem dX7_setColor_66 : decode cX7_setColor 66 = .ok (.iastore, 1) := by decide +kernel
theorem dX7_setColor_67 : decode cX7_setColor 67 = .ok (.aload_n 0, 1) := by decide +kernel
theorem dX7_setColor_68 : decode cX7_setColor 68 = .ok (.iload 5, 2) := by decide +kernel
theorem dX7_setColor_70 : decode cX7_setColor 70 = .ok (.invokevirtual 50, 3) := by decide +kernel
theorem dX7_setColor_73 : decode cX7_setColor 73 = .ok (.ireturn, 1) := by decide +kernel
theorem dX7_type_0 : decode cX7_type 0 = .ok (.aload_n 0, 1) := by decide +kernel
theorem dX7_type_1 : decode cX7_type 1 = .ok (.getfield 96, 3) := by decide +kernel
theorem dX7_type_4 : decode cX7_type 4 = .ok (.bipush 60, 2) := by decide +kernel
theorem dX7_type_6 : decode cX7_type 6 = .ok (.if_icmp .ne 6, 3) := by decide +kernel
theorem dX7_type_9 : decode cX7_type 9 = .ok (.bipush (-3), 2) := by decide +kernel
theorem dX7_type_11 : decode cX7_type 11 = .ok (.ireturn, 1) := by decide +kernel
theorem dX7_type_12 : decode cX7_type 12 = .ok (.aload_n 0, 1) := by decide +kernel
theorem dX7_type_13 : decode cX7_type 13 = .ok (.getfield 32, 3) := by decide +kernel
theorem dX7_type_16 : decode cX7_type 16 = .ok (.aload_n 0, 1) := by decide +kernel
theorem dX7_type_17 : decode cX7_type 17 = .ok (.getfield 96, 3) := by decide +kernel
theorem dX7_type_20 : decode cX7_type 20 = .ok (.iload_n 1, 1) := by decide +kernel
theorem dX7_type_21 : decode cX7_type 21 = .ok (.castore, 1) := by decide +kernel
theorem dX7_type_22 : decode cX7_type 22 = .ok (.aload_n 0, 1) := by decide +kernel
theorem dX7_type_23 : decode cX7_type 23 = .ok (.dup, 1) := by decide +kernel
theorem dX7_type_24 : decode cX7_type 24 = .ok (.getfield 96, 3) := by decide +kernel
theorem dX7_type_27 : decode cX7_type 27 = .ok (.iconst 1, 1) := by decide +kernel
theorem dX7_type_28 : decode cX7_type 28 = .ok (.iadd, 1) := by decide +kernel
theorem dX7_type_29 : decode cX7_type 29 = .ok (.putfield 96, 3) := by decide +kernel
theorem dX7_type_32 : decode cX7_type 32 = .ok (.aload_n 0, 1) := by decide +kernel
theorem dX7_type_33 : decode cX7_type 33 = .ok (.getfield 96, 3) := by decide +kernel
theorem dX7_type_36 : decode cX7_type 36 = .ok (.ireturn, 1) := by decide +kernel
theorem dX7_clearText_0 : decode cX7_clearText 0 = .ok (.aload_n 0, 1) := by decide +kernel
theorem dX7_clearText_1 : decode cX7_clearText 1 = .ok (.getfield 96, 3) := by decide +kernel
theorem dX7_clearText_4 : decode cX7_clearText 4 = .ok (.istore_n 1, 1) := by decide +kernel
theorem dX7_clearText_5 : decode cX7_clearText 5 = .ok (.aload_n 0, 1) := by decide +kernel
theorem dX7_clearText_6 : decode cX7_clearText 6 = .ok (.iconst 0, 1) := by decide +kernel
theorem dX7_clearText_7 : decode cX7_clearText 7 = .ok (.putfield 96, 3) := by decide +kernel
theorem dX7_clearText_10 : decode cX7_clearText 10 = .ok (.iload_n 1, 1) := by decide +kernel
theorem dX7_clearText_11 : decode cX7_clearText 11 = .ok (.ireturn, 1) := by decide +kernel
theorem dX7_at_0 : decode cX7_at 0 = .ok (.iload_n 1, 1) := by decide +kernel
theorem dX7_at_1 : decode cX7_at 1 = .ok (.aload_n 0, 1) := by decide +kernel
theorem dX7_at_2 : decode cX7_at 2 = .ok (.getfield 96, 3) := by decide +kernel
theorem dX7_at_5 : decode cX7_at 5 = .ok (.if_icmp .ge 12, 3) := by decide +kernel
theorem dX7_at_8 : decode cX7_at 8 = .ok (.aload_n 0, 1) := by decide +kernel
theorem dX7_at_9 : decode cX7_at 9 = .ok (.getfield 32, 3) := by decide +kernel
theorem dX7_at_12 : decode cX7_at 12 = .ok (.iload_n 1, 1) := by decide +kernel
theorem dX7_at_13 : decode cX7_at 13 = .ok (.caload, 1) := by decide +kernel
theorem dX7_at_14 : decode cX7_at 14 = .ok (.goto 5, 3) := by decide +kernel
theorem dX7_at_17 : decode cX7_at 17 = .ok (.bipush 32, 2) := by decide +kernel
theorem dX7_at_19 : decode cX7_at 19 = .ok (.ireturn, 1) := by decide +kernel
set_option maxRecDepth 20000 in
theorem ggX7_readRows_X7_at : GoodIn wsX7_readRows wsX7_at := goodIn_r _ [9, 3, 4, 10, 11, 12, 13, 14, 15, 16, 17, 18, 19, 20, 21] (by decide +kernel) (by decide +kernel)
set_option maxRecDepth 20000 in
theorem gX7_readRows_X7_at : GoodIn wsX7_readRows (wsV RX7 102 RX7 yX7_at wsX7_at) := goodIn_app (goodIn_of _ (by decide +kernel)) ggX7_readRows_X7_at
theorem dX7_readRows_0 : decode cX7_readRows 0 = .ok (.iconst 0, 1) := by decide +kernel
theorem dX7_readRows_1 : decode cX7_readRows 1 = .ok (.istore_n 1, 1) := by decide +kernel
theorem dX7_readRows_2 : decode cX7_readRows 2 = .ok (.iconst 0, 1) := by decide +kernel
theorem dX7_readRows_3 : decode cX7_readRows 3 = .ok (.istore_n 2, 1) := by decide +kernel
theorem dX7_readRows_4 : decode cX7_readRows 4 = .ok (.aload_n 0, 1) := by decide +kernel
theorem dX7_readRows_5 : decode cX7_readRows 5 = .ok (.iconst 0, 1) := by decide +kernel
theorem dX7_readRows_6 : decode cX7_readRows 6 = .ok (.putfield 99, 3) := by decide +kernel
theorem dX7_readRows_9 : decode cX7_readRows 9 = .ok (.aload_n 0, 1) := by decide +kernel
theorem dX7_readRows_10 : decode cX7_readRows 10 = .ok (.getfield 36, 3) := by decide +kernel
theorem dX7_readRows_13 : decode cX7_readRows 13 = .ok (.iconst 0, 1) := by decide +kernel
theorem dX7_readRows_14 : decode cX7_readRows 14 = .ok (.iconst 0, 1) := by decide +kernel
theorem dX7_readRows_15 : decode cX7_readRows 15 = .ok (.iastore, 1) := by decide +kernel
theorem dX7_readRows_16 : decode cX7_readRows 16 = .ok (.iload_n 1, 1) := by decide +kernel
theorem dX7_readRows_17 : decode cX7_readRows 17 = .ok (.aload_n 0, 1) := by decide +kernel
theorem dX7_readRows_18 : decode cX7_readRows 18 = .ok (.getfield 96, 3) := by decide +kernel
theorem dX7_readRows_21 : decode cX7_readRows 21 = .ok (.if_icmp .ge 199, 3) := by decide +kernel
theorem dX7_readRows_24 : decode cX7_readRows 24 = .ok (.aload_n 0, 1) := by decide +kernel
theorem dX7_readRows_25 : decode cX7_readRows 25 = .ok (.getfield 32, 3) := by decide +kernel
theorem dX7_readRows_28 : decode cX7_readRows 28 = .ok (.iload_n 1, 1) := by decide +kernel
theorem dX7_readRows_29 : decode cX7_readRows 29 = .ok (.caload, 1) := by decide +kernel
theorem dX7_readRows_30 : decode cX7_readRows 30 = .ok (.istore_n 3, 1) := by decide +kernel
theorem dX7_readRows_31 : decode cX7_readRows 31 = .ok (.iload_n 3, 1) := by decide +kernel
theorem dX7_readRows_32 : decode cX7_readRows 32 = .ok (.bipush 47, 2) := by decide +kernel
theorem dX7_readRows_34 : decode cX7_readRows 34 = .ok (.if_icmp .ne 48, 3) := by decide +kernel
theorem dX7_readRows_37 : decode cX7_readRows 37 = .ok (.iload_n 2, 1) := by decide +kernel
theorem dX7_readRows_38 : decode cX7_readRows 38 = .ok (.bipush 8, 2) := by decide +kernel
theorem dX7_readRows_40 : decode cX7_readRows 40 = .ok (.if_icmp .lt 12, 3) := by decide +kernel
theorem dX7_readRows_43 : decode cX7_readRows 43 = .ok (.aload_n 0, 1) := by decide +kernel
theorem dX7_readRows_44 : decode cX7_readRows 44 = .ok (.getfield 99, 3) := by decide +kernel
theorem dX7_readRows_47 : decode cX7_readRows 47 = .ok (.bipush 7, 2) := by decide +kernel
theorem dX7_readRows_49 : decode cX7_readRows 49 = .ok (.if_icmp .ne 5, 3) := by decide +kernel
theorem dX7_readRows_52 : decode cX7_readRows 52 = .ok (.iload_n 1, 1) := by decide +kernel
theorem dX7_readRows_53 : decode cX7_readRows 53 = .ok (.ireturn, 1) := by decide +kernel
theorem dX7_readRows_54 : decode cX7_readRows 54 = .ok (.aload_n 0, 1) := by decide +kernel
theorem dX7_readRows_55 : decode cX7_readRows 55 = .ok (.dup, 1) := by decide +kernel
theorem dX7_readRows_56 : decode cX7_readRows 56 = .ok (.getfield 99, 3) := by decide +kernel
theorem dX7_readRows_59 : decode cX7_readRows 59 = .ok (.iconst 1, 1) := by decide +kernel
theorem dX7_readRows_60 : decode cX7_readRows 60 = .ok (.iadd, 1) := by decide +kernel
theorem dX7_readRows_61 : decode cX7_readRows 61 = .ok (.putfield 99, 3) := by decide +kernel
theorem dX7_readRows_64 : decode cX7_readRows 64 = .ok (.aload_n 0, 1) := by decide +kernel
theorem dX7_readRows_65 : decode cX7_readRows 65 = .ok (.getfield 36, 3) := by decide +kernel
theorem dX7_readRows_68 : decode cX7_readRows 68 = .ok (.aload_n 0, 1) := by decide +kernel
theorem dX7_readRows_69 : decode cX7_readRows 69 = .ok (.getfield 99, 3) := by decide +kernel
theorem dX7_readRows_72 : decode cX7_readRows 72 = .ok (.iconst 0, 1) := by decide +kernel
theorem dX7_readRows_73 : decode cX7_readRows 73 = .ok (.iastore, 1) := by decide +kernel
theorem dX7_readRows_74 : decode cX7_readRows 74 = .ok (.iconst 0, 1) := by decide +kernel
theorem dX7_readRows_75 : decode cX7_readRows 75 = .ok (.istore_n 2, 1) := by decide +kernel
theorem dX7_readRows_76 : decode cX7_readRows 76 = .ok (.iinc 1 1, 3) := by decide +kernel
theorem dX7_readRows_79 : decode cX7_readRows 79 = .ok (.goto 138, 3) := by decide +kernel
theorem dX7_readRows_82 : decode cX7_readRows 82 = .ok (.iload_n 2, 1) := by decide +kernel
theorem dX7_readRows_83 : decode cX7_readRows 83 = .ok (.bipush 8, 2) := by decide +kernel
theorem dX7_readRows_85 : decode cX7_readRows 85 = .ok (.if_icmp .eq 21, 3) := by decide +kernel
theorem dX7_readRows_88 : decode cX7_readRows 88 = .ok (.iload_n 3, 1) := by decide +kernel
theorem dX7_readRows_89 : decode cX7_readRows 89 = .ok (.bipush 46, 2) := by decide +kernel
theorem dX7_readRows_91 : decode cX7_readRows 91 = .ok (.if_icmp .eq 17, 3) := by decide +kernel
theorem dX7_readRows_94 : decode cX7_readRows 94 = .ok (.iload_n 3, 1) := by decide +kernel
theorem dX7_readRows_95 : decode cX7_readRows 95 = .ok (.bipush 49, 2) := by decide +kernel
theorem dX7_readRows_97 : decode cX7_readRows 97 = .ok (.if_icmp .lt 9, 3) := by decide +kernel
theorem dX7_readRows_100 : decode cX7_readRows 100 = .ok (.iload_n 3, 1) := by decide +kernel
theorem dX7_readRows_101 : decode cX7_readRows 101 = .ok (.bipush 51, 2) := by decide +kernel
theorem dX7_readRows_103 : decode cX7_readRows 103 = .ok (.if_icmp .le 5, 3) := by decide +kernel
theorem dX7_readRows_106 : decode cX7_readRows 106 = .ok (.iload_n 1, 1) := by decide +kernel
theorem dX7_readRows_107 : decode cX7_readRows 107 = .ok (.ireturn, 1) := by decide +kernel
theorem dX7_readRows_108 : decode cX7_readRows 108 = .ok (.iload_n 3, 1) := by decide +kernel
theorem dX7_readRows_109 : decode cX7_readRows 109 = .ok (.bipush 46, 2) := by decide +kernel
theorem dX7_readRows_111 : decode cX7_readRows 111 = .ok (.if_icmp .ne 7, 3) := by decide +kernel
theorem dX7_readRows_114 : decode cX7_readRows 114 = .ok (.iconst 0, 1) := by decide +kernel
theorem dX7_readRows_115 : decode cX7_readRows 115 = .ok (.goto 7, 3) := by decide +kernel
theorem dX7_readRows_118 : decode cX7_readRows 118 = .ok (.iload_n 3, 1) := by decide +kernel
theorem dX7_readRows_119 : decode cX7_readRows 119 = .ok (.bipush 48, 2) := by decide +kernel
theorem dX7_readRows_121 : decode cX7_readRows 121 = .ok (.isub, 1) := by decide +kernel
theorem dX7_readRows_122 : decode cX7_readRows 122 = .ok (.istore 4, 2) := by decide +kernel
theorem dX7_readRows_124 : decode cX7_readRows 124 = .ok (.iconst 1, 1) := by decide +kernel
theorem dX7_readRows_125 : decode cX7_readRows 125 = .ok (.istore 5, 2) := by decide +kernel
theorem dX7_readRows_127 : decode cX7_readRows 127 = .ok (.iinc 1 1, 3) := by decide +kernel
theorem dX7_readRows_130 : decode cX7_readRows 130 = .ok (.aload_n 0, 1) := by decide +kernel
theorem dX7_readRows_131 : decode cX7_readRows 131 = .ok (.iload_n 1, 1) := by decide +kernel
theorem dX7_readRows_132 : decode cX7_readRows 132 = .ok (.invokevirtual 102, 3) := by decide +kernel
theorem dX7_readRows_135 : decode cX7_readRows 135 = .ok (.bipush 120, 2) := by decide +kernel
theorem dX7_readRows_137 : decode cX7_readRows 137 = .ok (.if_icmp .ne 43, 3) := by decide +kernel
theorem dX7_readRows_140 : decode cX7_readRows 140 = .ok (.iinc 1 1, 3) := by decide +kernel
theorem dX7_readRows_143 : decode cX7_readRows 143 = .ok (.aload_n 0, 1) := by decide +kernel
theorem dX7_readRows_144 : decode cX7_readRows 144 = .ok (.iload_n 1, 1) := by decide +kernel
theorem dX7_readRows_145 : decode cX7_readRows 145 = .ok (.invokevirtual 102, 3) := by decide +kernel
theorem dX7_readRows_148 : decode cX7_readRows 148 = .ok (.bipush 48, 2) := by decide +kernel
theorem dX7_readRows_150 : decode cX7_readRows 150 = .ok (.isub, 1) := by decide +kernel
theorem dX7_readRows_151 : decode cX7_readRows 151 = .ok (.istore 5, 2) := by decide +kernel
theorem dX7_readRows_153 : decode cX7_readRows 153 = .ok (.iload 5, 2) := by decide +kernel
theorem dX7_readRows_155 : decode cX7_readRows 155 = .ok (.iconst 2, 1) := by decide +kernel
theorem dX7_readRows_156 : decode cX7_readRows 156 = .ok (.if_icmp .lt 19, 3) := by decide +kernel
theorem dX7_readRows_159 : decode cX7_readRows 159 = .ok (.iload 5, 2) := by decide +kernel
theorem dX7_readRows_161 : decode cX7_readRows 161 = .ok (.bipush 8, 2) := by decide +kernel
theorem dX7_readRows_163 : decode cX7_readRows 163 = .ok (.if_icmp .gt 12, 3) := by decide +kernel
theorem dX7_readRows_166 : decode cX7_readRows 166 = .ok (.iload_n 2, 1) := by decide +kernel
theorem dX7_readRows_167 : decode cX7_readRows 167 = .ok (.iload 5, 2) := by decide +kernel
theorem dX7_readRows_169 : decode cX7_readRows 169 = .ok (.iadd, 1) := by decide +kernel
theorem dX7_readRows_170 : decode cX7_readRows 170 = .ok (.bipush 8, 2) := by decide +kernel
theorem dX7_readRows_172 : decode cX7_readRows 172 = .ok (.if_icmp .le 5, 3) := by decide +kernel
theorem dX7_readRows_175 : decode cX7_readRows 175 = .ok (.iload_n 1, 1) := by decide +kernel
theorem dX7_readRows_176 : decode cX7_readRows 176 = .ok (.ireturn, 1) := by decide +kernel
theorem dX7_readRows_177 : decode cX7_readRows 177 = .ok (.iinc 1 1, 3) := by decide +kernel
theorem dX7_readRows_180 : decode cX7_readRows 180 = .ok (.iconst 0, 1) := by decide +kernel
theorem dX7_readRows_181 : decode cX7_readRows 181 = .ok (.istore 6, 2) := by decide +kernel
theorem dX7_readRows_183 : decode cX7_readRows 183 = .ok (.iload 6, 2) := by decide +kernel
theorem dX7_readRows_185 : decode cX7_readRows 185 = .ok (.iload 5, 2) := by decide +kernel
theorem dX7_readRows_187 : decode cX7_readRows 187 = .ok (.if_icmp .ge 30, 3) := by decide +kernel
theorem dX7_readRows_190 : decode cX7_readRows 190 = .ok (.aload_n 0, 1) := by decide +kernel
theorem dX7_readRows_191 : decode cX7_readRows 191 = .ok (.getfield 36, 3) := by decide +kernel
theorem dX7_readRows_194 : decode cX7_readRows 194 = .ok (.aload_n 0, 1) := by decide +kernel
theorem dX7_readRows_195 : decode cX7_readRows 195 = .ok (.getfield 99, 3) := by decide +kernel
theorem dX7_readRows_198 : decode cX7_readRows 198 = .ok (.dup2, 1) := by decide +kernel
theorem dX7_readRows_199 : decode cX7_readRows 199 = .ok (.iaload, 1) := by decide +kernel
theorem dX7_readRows_200 : decode cX7_readRows 200 = .ok (.iload 4, 2) := by decide +kernel
theorem dX7_readRows_202 : decode cX7_readRows 202 = .ok (.iconst 2, 1) := by decide +kernel
theorem dX7_readRows_203 : decode cX7_readRows 203 = .ok (.iload_n 2, 1) := by decide +kernel
theorem dX7_readRows_204 : decode cX7_readRows 204 = .ok (.imul, 1) := by decide +kernel
theorem dX7_readRows_205 : decode cX7_readRows 205 = .ok (.ishl, 1) := by decide +kernel
theorem dX7_readRows_206 : decode cX7_readRows 206 = .ok (.ior, 1) := by decide +kernel
theorem dX7_readRows_207 : decode cX7_readRows 207 = .ok (.iastore, 1) := by decide +kernel
theorem dX7_readRows_208 : decode cX7_readRows 208 = .ok (.iinc 2 1, 3) := by decide +kernel
theorem dX7_readRows_211 : decode cX7_readRows 211 = .ok (.iinc 6 1, 3) := by decide +kernel
theorem dX7_readRows_214 : decode cX7_readRows 214 = .ok (.goto (-31), 3) := by decide +kernel
theorem dX7_readRows_217 : decode cX7_readRows 217 = .ok (.goto (-201), 3) := by decide +kernel
theorem dX7_readRows_220 : decode cX7_readRows 220 = .ok (.aload_n 0, 1) := by decide +kernel
theorem dX7_readRows_221 : decode cX7_readRows 221 = .ok (.dup, 1) := by decide +kernel
theorem dX7_readRows_222 : decode cX7_readRows 222 = .ok (.getfield 99, 3) := by decide +kernel
theorem dX7_readRows_225 : decode cX7_readRows 225 = .ok (.iconst 1, 1) := by decide +kernel
theorem dX7_readRows_226 : decode cX7_readRows 226 = .ok (.iadd, 1) := by decide +kernel
theorem dX7_readRows_227 : decode cX7_readRows 227 = .ok (.putfield 99, 3) := by decide +kernel
theorem dX7_readRows_230 : decode cX7_readRows 230 = .ok (.iload_n 2, 1) := by decide +kernel
theorem dX7_readRows_231 : decode cX7_readRows 231 = .ok (.bipush 8, 2) := by decide +kernel
theorem dX7_readRows_233 : decode cX7_readRows 233 = .ok (.if_icmp .ge 10, 3) := by decide +kernel
theorem dX7_readRows_236 : decode cX7_readRows 236 = .ok (.aload_n 0, 1) := by decide +kernel
theorem dX7_readRows_237 : decode cX7_readRows 237 = .ok (.getfield 96, 3) := by decide +kernel
theorem dX7_readRows_240 : decode cX7_readRows 240 = .ok (.goto 5, 3) := by decide +kernel
theorem dX7_readRows_243 : decode cX7_readRows 243 = .ok (.bipush (-5), 2) := by decide +kernel
theorem dX7_readRows_245 : decode cX7_readRows 245 = .ok (.ireturn, 1) := by decide +kernel
set_option maxRecDepth 20000 in
theorem ggX7_draw_X7_noPart : GoodIn wsX7_draw wsX7_noPart := goodIn_r _ [8, 2, 9, 10, 7, 11, 33, 34, 35, 36, 37, 38, 39, 40, 41, 42, 43, 44] (by decide +kernel) (by decide +kernel)
set_option maxRecDepth 20000 in
theorem gX7_draw_X7_noPart : GoodIn wsX7_draw (wsV RX7 70 RX7 yX7_noPart wsX7_noPart) := goodIn_app (goodIn_of _ (by decide +kernel)) ggX7_draw_X7_noPart
set_option maxRecDepth 20000 in
theorem ggX7_draw_X7_readRows : GoodIn wsX7_draw wsX7_readRows := goodIn_r _ [15, 1, 3, 16, 17, 18, 19, 20, 7, 21, 33, 34, 35, 36, 37, 38, 39, 40, 41, 42, 43, 44] (by decide +kernel) (by decide +kernel)
set_option maxRecDepth 20000 in
theorem gX7_draw_X7_readRows : GoodIn wsX7_draw (wsV RX7 106 RX7 yX7_readRows wsX7_readRows) := goodIn_app (goodIn_of _ (by decide +kernel)) ggX7_draw_X7_readRows
set_option maxRecDepth 20000 in
theorem ggX7_draw_X7_begin : GoodIn wsX7_draw wsX7_begin := goodIn_r _ [25, 26, 2, 33, 34, 35, 36, 37, 38, 39, 40, 41, 42, 43, 44] (by decide +kernel) (by decide +kernel)
set_option maxRecDepth 20000 in
theorem gX7_draw_X7_begin : GoodIn wsX7_draw (wsV RX7 47 RX7 yX7_begin wsX7_begin) := goodIn_app (goodIn_of _ (by decide +kernel)) ggX7_draw_X7_begin
set_option maxRecDepth 20000 in
theorem ggX7_draw_X7_done : GoodIn wsX7_draw wsX7_done := goodIn_r _ [30, 31, 32, 26, 33, 34, 35, 36, 37, 38, 39, 40, 41, 42, 43, 44] (by decide +kernel) (by decide +kernel)
set_option maxRecDepth 20000 in
theorem gX7_draw_X7_done : GoodIn wsX7_draw (wsV RX7 50 RX7 yX7_done wsX7_done) := goodIn_app (goodIn_of _ (by decide +kernel)) ggX7_draw_X7_done
theorem dX7_draw_0 : decode cX7_draw 0 = .ok (.aload_n 0, 1) := by decide +kernel
theorem dX7_draw_1 : decode cX7_draw 1 = .ok (.iload_n 1, 1) := by decide +kernel
theorem dX7_draw_2 : decode cX7_draw 2 = .ok (.invokevirtual 70, 3) := by decide +kernel
theorem dX7_draw_5 : decode cX7_draw 5 = .ok (.ifCond .eq 5, 3) := by decide +kernel
theorem dX7_draw_8 : decode cX7_draw 8 = .ok (.iconst (-1), 1) := by decide +kernel
theorem dX7_draw_9 : decode cX7_draw 9 = .ok (.ireturn, 1) := by decide +kernel
theorem dX7_draw_10 : decode cX7_draw 10 = .ok (.aload_n 0, 1) := by decide +kernel
theorem dX7_draw_11 : decode cX7_draw 11 = .ok (.invokevirtual 106, 3) := by decide +kernel
theorem dX7_draw_14 : decode cX7_draw 14 = .ok (.istore_n 2, 1) := by decide +kernel
theorem dX7_draw_15 : decode cX7_draw 15 = .ok (.iload_n 2, 1) := by decide +kernel
theorem dX7_draw_16 : decode cX7_draw 16 = .ok (.ifCond .lt 8, 3) := by decide +kernel
theorem dX7_draw_19 : decode cX7_draw 19 = .ok (.bipush (-100), 2) := by decide +kernel
theorem dX7_draw_21 : decode cX7_draw 21 = .ok (.iload_n 2, 1) := by decide +kernel
theorem dX7_draw_22 : decode cX7_draw 22 = .ok (.isub, 1) := by decide +kernel
theorem dX7_draw_23 : decode cX7_draw 23 = .ok (.ireturn, 1) := by decide +kernel
theorem dX7_draw_24 : decode cX7_draw 24 = .ok (.aload_n 0, 1) := by decide +kernel
theorem dX7_draw_25 : decode cX7_draw 25 = .ok (.invokevirtual 47, 3) := by decide +kernel
theorem dX7_draw_28 : decode cX7_draw 28 = .ok (.iconst 0, 1) := by decide +kernel
theorem dX7_draw_29 : decode cX7_draw 29 = .ok (.istore_n 3, 1) := by decide +kernel
theorem dX7_draw_30 : decode cX7_draw 30 = .ok (.iload_n 3, 1) := by decide +kernel
theorem dX7_draw_31 : decode cX7_draw 31 = .ok (.aload_n 0, 1) := by decide +kernel
theorem dX7_draw_32 : decode cX7_draw 32 = .ok (.getfield 99, 3) := by decide +kernel
theorem dX7_draw_35 : decode cX7_draw 35 = .ok (.if_icmp .ge 28, 3) := by decide +kernel
theorem dX7_draw_38 : decode cX7_draw 38 = .ok (.aload_n 0, 1) := by decide +kernel
theorem dX7_draw_39 : decode cX7_draw 39 = .ok (.getfield 7, 3) := by decide +kernel
theorem dX7_draw_42 : decode cX7_draw 42 = .ok (.iconst 5, 1) := by decide +kernel
theorem dX7_draw_43 : decode cX7_draw 43 = .ok (.bipush 8, 2) := by decide +kernel
theorem dX7_draw_45 : decode cX7_draw 45 = .ok (.iload_n 1, 1) := by decide +kernel
theorem dX7_draw_46 : decode cX7_draw 46 = .ok (.imul, 1) := by decide +kernel
theorem dX7_draw_47 : decode cX7_draw 47 = .ok (.iadd, 1) := by decide +kernel
theorem dX7_draw_48 : decode cX7_draw 48 = .ok (.iload_n 3, 1) := by decide +kernel
theorem dX7_draw_49 : decode cX7_draw 49 = .ok (.iadd, 1) := by decide +kernel
theorem dX7_draw_50 : decode cX7_draw 50 = .ok (.aload_n 0, 1) := by decide +kernel
theorem dX7_draw_51 : decode cX7_draw 51 = .ok (.getfield 36, 3) := by decide +kernel
theorem dX7_draw_54 : decode cX7_draw 54 = .ok (.iload_n 3, 1) := by decide +kernel
theorem dX7_draw_55 : decode cX7_draw 55 = .ok (.iaload, 1) := by decide +kernel
theorem dX7_draw_56 : decode cX7_draw 56 = .ok (.iastore, 1) := by decide +kernel
theorem dX7_draw_57 : decode cX7_draw 57 = .ok (.iinc 3 1, 3) := by decide +kernel
theorem dX7_draw_60 : decode cX7_draw 60 = .ok (.goto (-30), 3) := by decide +kernel
theorem dX7_draw_63 : decode cX7_draw 63 = .ok (.aload_n 0, 1) := by decide +kernel
theorem dX7_draw_64 : decode cX7_draw 64 = .ok (.aload_n 0, 1) := by decide +kernel
theorem dX7_draw_65 : decode cX7_draw 65 = .ok (.getfield 99, 3) := by decide +kernel
theorem dX7_draw_68 : decode cX7_draw 68 = .ok (.invokevirtual 50, 3) := by decide +kernel
theorem dX7_draw_71 : decode cX7_draw 71 = .ok (.ireturn, 1) := by decide +kernel
set_option maxRecDepth 20000 in
theorem ggX7_isPlace_X7_in : GoodIn wsX7_isPlace wsX7_in := goodIn_r _ [4] (by decide +kernel) (by decide +kernel)
set_option maxRecDepth 20000 in
theorem gX7_isPlace_X7_in : GoodIn wsX7_isPlace (va_wsS RX7 43 yX7_in wsX7_in) := goodIn_app (goodIn_of _ (by decide +kernel)) ggX7_isPlace_X7_in
theorem dX7_isPlace_0 : decode cX7_isPlace 0 = .ok (.iload_n 0, 1) := by decide +kernel
theorem dX7_isPlace_1 : decode cX7_isPlace 1 = .ok (.bipush (-7), 2) := by decide +kernel
theorem dX7_isPlace_3 : decode cX7_isPlace 3 = .ok (.bipush 31, 2) := by decide +kernel
theorem dX7_isPlace_5 : decode cX7_isPlace 5 = .ok (.invokestatic 43, 3) := by decide +kernel
theorem dX7_isPlace_8 : decode cX7_isPlace 8 = .ok (.ifCond .eq 18, 3) := by decide +kernel
theorem dX7_isPlace_11 : decode cX7_isPlace 11 = .ok (.iload_n 1, 1) := by decide +kernel
theorem dX7_isPlace_12 : decode cX7_isPlace 12 = .ok (.bipush (-7), 2) := by decide +kernel
theorem dX7_isPlace_14 : decode cX7_isPlace 14 = .ok (.bipush 31, 2) := by decide +kernel
theorem dX7_isPlace_16 : decode cX7_isPlace 16 = .ok (.invokestatic 43, 3) := by decide +kernel
theorem dX7_isPlace_19 : decode cX7_isPlace 19 = .ok (.ifCond .eq 7, 3) := by decide +kernel
theorem dX7_isPlace_22 : decode cX7_isPlace 22 = .ok (.iconst 1, 1) := by decide +kernel
theorem dX7_isPlace_23 : decode cX7_isPlace 23 = .ok (.goto 4, 3) := by decide +kernel
theorem dX7_isPlace_26 : decode cX7_isPlace 26 = .ok (.iconst 0, 1) := by decide +kernel
theorem dX7_isPlace_27 : decode cX7_isPlace 27 = .ok (.ireturn, 1) := by decide +kernel
set_option maxRecDepth 20000 in
theorem ggX7_addSprite_X7_noPart : GoodIn wsX7_addSprite wsX7_noPart := goodIn_r _ [6, 1, 7, 8, 5, 9, 32, 33, 34, 35, 36, 37, 38, 39, 40, 41, 42, 43] (by decide +kernel) (by decide +kernel)
set_option maxRecDepth 20000 in
theorem gX7_addSprite_X7_noPart : GoodIn wsX7_addSprite (wsV RX7 70 RX7 yX7_noPart wsX7_noPart) := goodIn_app (goodIn_of _ (by decide +kernel)) ggX7_addSprite_X7_noPart
set_option maxRecDepth 20000 in
theorem ggX7_addSprite_X7_isPlace : GoodIn wsX7_addSprite wsX7_isPlace := goodIn_r _ [12, 7, 8, 5, 9] (by decide +kernel) (by decide +kernel)
set_option maxRecDepth 20000 in
theorem gX7_addSprite_X7_isPlace : GoodIn wsX7_addSprite (va_wsS RX7 109 yX7_isPlace wsX7_isPlace) := goodIn_app (goodIn_of _ (by decide +kernel)) ggX7_addSprite_X7_isPlace
set_option maxRecDepth 20000 in
theorem ggX7_addSprite_X7_sprites : GoodIn wsX7_addSprite wsX7_sprites := goodIn_r _ [16, 1, 32, 33, 34, 35, 36, 37, 38, 39, 40, 41, 42, 43] (by decide +kernel) (by decide +kernel)
set_option maxRecDepth 20000 in
theorem gX7_addSprite_X7_sprites : GoodIn wsX7_addSprite (wsV RX7 54 RX7 yX7_sprites wsX7_sprites) := goodIn_app (goodIn_of _ (by decide +kernel)) ggX7_addSprite_X7_sprites
set_option maxRecDepth 20000 in
theorem ggX7_addSprite_X7_begin : GoodIn wsX7_addSprite wsX7_begin := goodIn_r _ [20, 21, 1, 32, 33, 34, 35, 36, 37, 38, 39, 40, 41, 42, 43] (by decide +kernel) (by decide +kernel)
set_option maxRecDepth 20000 in
theorem gX7_addSprite_X7_begin : GoodIn wsX7_addSprite (wsV RX7 47 RX7 yX7_begin wsX7_begin) := goodIn_app (goodIn_of _ (by decide +kernel)) ggX7_addSprite_X7_begin
set_option maxRecDepth 20000 in
theorem ggX7_addSprite_X7_put : GoodIn wsX7_addSprite wsX7_put := goodIn_r _ [25, 1, 32, 33, 34, 35, 36, 37, 38, 39, 40, 41, 42, 43] (by decide +kernel) (by decide +kernel)
set_option maxRecDepth 20000 in
theorem gX7_addSprite_X7_put : GoodIn wsX7_addSprite (wsV RX7 85 RX7 yX7_put wsX7_put) := goodIn_app (goodIn_of _ (by decide +kernel)) ggX7_addSprite_X7_put
set_option maxRecDepth 20000 in
theorem ggX7_addSprite_X7_done : GoodIn wsX7_addSprite wsX7_done := goodIn_r _ [29, 30, 31, 21, 32, 33, 34, 35, 36, 37, 38, 39, 40, 41, 42, 43] (by decide +kernel) (by decide +kernel)
set_option maxRecDepth 20000 in
theorem gX7_addSprite_X7_done : GoodIn wsX7_addSprite (wsV RX7 50 RX7 yX7_done wsX7_done) := goodIn_app (goodIn_of _ (by decide +kernel)) ggX7_addSprite_X7_done
theorem dX7_addSprite_0 : decode cX7_addSprite 0 = .ok (.aload_n 0, 1) := by decide +kernel
theorem dX7_addSprite_1 : decode cX7_addSprite 1 = .ok (.iload_n 1, 1) := by decide +kernel
theorem dX7_addSprite_2 : decode cX7_addSprite 2 = .ok (.invokevirtual 70, 3) := by decide +kernel
theorem dX7_addSprite_5 : decode cX7_addSprite 5 = .ok (.ifCond .eq 5, 3) := by decide +kernel
theorem dX7_addSprite_8 : decode cX7_addSprite 8 = .ok (.iconst (-1), 1) := by decide +kernel
theorem dX7_addSprite_9 : decode cX7_addSprite 9 = .ok (.ireturn, 1) := by decide +kernel
theorem dX7_addSprite_10 : decode cX7_addSprite 10 = .ok (.iload_n 2, 1) := by decide +kernel
theorem dX7_addSprite_11 : decode cX7_addSprite 11 = .ok (.iload_n 3, 1) := by decide +kernel
theorem dX7_addSprite_12 : decode cX7_addSprite 12 = .ok (.invokestatic 109, 3) := by decide +kernel
theorem dX7_addSprite_15 : decode cX7_addSprite 15 = .ok (.ifCond .ne 6, 3) := by decide +kernel
theorem dX7_addSprite_18 : decode cX7_addSprite 18 = .ok (.bipush (-2), 2) := by decide +kernel
theorem dX7_addSprite_20 : decode cX7_addSprite 20 = .ok (.ireturn, 1) := by decide +kernel
theorem dX7_addSprite_21 : decode cX7_addSprite 21 = .ok (.aload_n 0, 1) := by decide +kernel
theorem dX7_addSprite_22 : decode cX7_addSprite 22 = .ok (.invokevirtual 54, 3) := by decide +kernel
theorem dX7_addSprite_25 : decode cX7_addSprite 25 = .ok (.bipush 20, 2) := by decide +kernel
theorem dX7_addSprite_27 : decode cX7_addSprite 27 = .ok (.if_icmp .ne 6, 3) := by decide +kernel
theorem dX7_addSprite_30 : decode cX7_addSprite 30 = .ok (.bipush (-3), 2) := by decide +kernel
theorem dX7_addSprite_32 : decode cX7_addSprite 32 = .ok (.ireturn, 1) := by decide +kernel
theorem dX7_addSprite_33 : decode cX7_addSprite 33 = .ok (.aload_n 0, 1) := by decide +kernel
theorem dX7_addSprite_34 : decode cX7_addSprite 34 = .ok (.invokevirtual 47, 3) := by decide +kernel
theorem dX7_addSprite_37 : decode cX7_addSprite 37 = .ok (.aload_n 0, 1) := by decide +kernel
theorem dX7_addSprite_38 : decode cX7_addSprite 38 = .ok (.invokevirtual 54, 3) := by decide +kernel
theorem dX7_addSprite_41 : decode cX7_addSprite 41 = .ok (.istore 4, 2) := by decide +kernel
theorem dX7_addSprite_43 : decode cX7_addSprite 43 = .ok (.aload_n 0, 1) := by decide +kernel
theorem dX7_addSprite_44 : decode cX7_addSprite 44 = .ok (.iload 4, 2) := by decide +kernel
theorem dX7_addSprite_46 : decode cX7_addSprite 46 = .ok (.iconst 0, 1) := by decide +kernel
theorem dX7_addSprite_47 : decode cX7_addSprite 47 = .ok (.iload_n 1, 1) := by decide +kernel
theorem dX7_addSprite_48 : decode cX7_addSprite 48 = .ok (.invokevirtual 85, 3) := by decide +kernel
theorem dX7_addSprite_51 : decode cX7_addSprite 51 = .ok (.aload_n 0, 1) := by decide +kernel
theorem dX7_addSprite_52 : decode cX7_addSprite 52 = .ok (.iload 4, 2) := by decide +kernel
theorem dX7_addSprite_54 : decode cX7_addSprite 54 = .ok (.iconst 1, 1) := by decide +kernel
theorem dX7_addSprite_55 : decode cX7_addSprite 55 = .ok (.iconst 0, 1) := by decide +kernel
theorem dX7_addSprite_56 : decode cX7_addSprite 56 = .ok (.invokevirtual 85, 3) := by decide +kernel
theorem dX7_addSprite_59 : decode cX7_addSprite 59 = .ok (.aload_n 0, 1) := by decide +kernel
theorem dX7_addSprite_60 : decode cX7_addSprite 60 = .ok (.iload 4, 2) := by decide +kernel
theorem dX7_addSprite_62 : decode cX7_addSprite 62 = .ok (.iconst 2, 1) := by decide +kernel
theorem dX7_addSprite_63 : decode cX7_addSprite 63 = .ok (.iconst 0, 1) := by decide +kernel
theorem dX7_addSprite_64 : decode cX7_addSprite 64 = .ok (.invokevirtual 85, 3) := by decide +kernel
theorem dX7_addSprite_67 : decode cX7_addSprite 67 = .ok (.aload_n 0, 1) := by decide +kernel
theorem dX7_addSprite_68 : decode cX7_addSprite 68 = .ok (.iload 4, 2) := by decide +kernel
theorem dX7_addSprite_70 : decode cX7_addSprite 70 = .ok (.iconst 3, 1) := by decide +kernel
theorem dX7_addSprite_71 : decode cX7_addSprite 71 = .ok (.iconst 1, 1) := by decide +kernel
theorem dX7_addSprite_72 : decode cX7_addSprite 72 = .ok (.invokevirtual 85, 3) := by decide +kernel
theorem dX7_addSprite_75 : decode cX7_addSprite 75 = .ok (.aload_n 0, 1) := by decide +kernel
theorem dX7_addSprite_76 : decode cX7_addSprite 76 = .ok (.iload 4, 2) := by decide +kernel
theorem dX7_addSprite_78 : decode cX7_addSprite 78 = .ok (.iconst 4, 1) := by decide +kernel
theorem dX7_addSprite_79 : decode cX7_addSprite 79 = .ok (.iload_n 2, 1) := by decide +kernel
theorem dX7_addSprite_80 : decode cX7_addSprite 80 = .ok (.invokevirtual 85, 3) := by decide +kernel
theorem dX7_addSprite_83 : decode cX7_addSprite 83 = .ok (.aload_n 0, 1) := by decide +kernel
theorem dX7_addSprite_84 : decode cX7_addSprite 84 = .ok (.iload 4, 2) := by decide +kernel
theorem dX7_addSprite_86 : decode cX7_addSprite 86 = .ok (.iconst 5, 1) := by decide +kernel
theorem dX7_addSprite_87 : decode cX7_addSprite 87 = .ok (.iload_n 3, 1) := by decide +kernel
theorem dX7_addSprite_88 : decode cX7_addSprite 88 = .ok (.invokevirtual 85, 3) := by decide +kernel
theorem dX7_addSprite_91 : decode cX7_addSprite 91 = .ok (.aload_n 0, 1) := by decide +kernel
theorem dX7_addSprite_92 : decode cX7_addSprite 92 = .ok (.getfield 7, 3) := by decide +kernel
theorem dX7_addSprite_95 : decode cX7_addSprite 95 = .ok (.iconst 1, 1) := by decide +kernel
theorem dX7_addSprite_96 : decode cX7_addSprite 96 = .ok (.dup2, 1) := by decide +kernel
theorem dX7_addSprite_97 : decode cX7_addSprite 97 = .ok (.iaload, 1) := by decide +kernel
theorem dX7_addSprite_98 : decode cX7_addSprite 98 = .ok (.iconst 1, 1) := by decide +kernel
theorem dX7_addSprite_99 : decode cX7_addSprite 99 = .ok (.iadd, 1) := by decide +kernel
theorem dX7_addSprite_100 : decode cX7_addSprite 100 = .ok (.iastore, 1) := by decide +kernel
theorem dX7_addSprite_101 : decode cX7_addSprite 101 = .ok (.aload_n 0, 1) := by decide +kernel
theorem dX7_addSprite_102 : decode cX7_addSprite 102 = .ok (.iload 4, 2) := by decide +kernel
theorem dX7_addSprite_104 : decode cX7_addSprite 104 = .ok (.invokevirtual 50, 3) := by decide +kernel
theorem dX7_addSprite_107 : decode cX7_addSprite 107 = .ok (.ireturn, 1) := by decide +kernel
set_option maxRecDepth 20000 in
theorem ggX7_isOver_X7_of : GoodIn wsX7_isOver wsX7_of := goodIn_r _ [5, 6, 10, 11, 12, 13, 14, 15, 16, 17, 18, 19, 20, 21] (by decide +kernel) (by decide +kernel)
set_option maxRecDepth 20000 in
theorem gX7_isOver_X7_of : GoodIn wsX7_isOver (wsV RX7 81 RX7 yX7_of wsX7_of) := goodIn_app (goodIn_of _ (by decide +kernel)) ggX7_isOver_X7_of
set_option maxRecDepth 20000 in
theorem ggX7_isOver_X7_in : GoodIn wsX7_isOver wsX7_in := goodIn_r _ [9] (by decide +kernel) (by decide +kernel)
set_option maxRecDepth 20000 in
theorem gX7_isOver_X7_in : GoodIn wsX7_isOver (va_wsS RX7 43 yX7_in wsX7_in) := goodIn_app (goodIn_of _ (by decide +kernel)) ggX7_isOver_X7_in
theorem dX7_isOver_0 : decode cX7_isOver 0 = .ok (.iload_n 2, 1) := by decide +kernel
theorem dX7_isOver_1 : decode cX7_isOver 1 = .ok (.aload_n 0, 1) := by decide +kernel
theorem dX7_isOver_2 : decode cX7_isOver 2 = .ok (.iload_n 1, 1) := by decide +kernel
theorem dX7_isOver_3 : decode cX7_isOver 3 = .ok (.iconst 5, 1) := by decide +kernel
theorem dX7_isOver_4 : decode cX7_isOver 4 = .ok (.invokevirtual 81, 3) := by decide +kernel
theorem dX7_isOver_7 : decode cX7_isOver 7 = .ok (.isub, 1) := by decide +kernel
theorem dX7_isOver_8 : decode cX7_isOver 8 = .ok (.iconst 0, 1) := by decide +kernel
theorem dX7_isOver_9 : decode cX7_isOver 9 = .ok (.bipush 7, 2) := by decide +kernel
theorem dX7_isOver_11 : decode cX7_isOver 11 = .ok (.invokestatic 43, 3) := by decide +kernel
theorem dX7_isOver_14 : decode cX7_isOver 14 = .ok (.ireturn, 1) := by decide +kernel
set_option maxRecDepth 20000 in
theorem ggX7_linesOf_X7_isOver : GoodIn wsX7_linesOf wsX7_isOver := goodIn_r _ [5, 6, 7, 8, 4, 9, 10, 11, 12, 13, 14, 15, 16, 17, 18, 19, 20, 21, 22, 23, 24, 25] (by decide +kernel) (by decide +kernel)
set_option maxRecDepth 20000 in
theorem gX7_linesOf_X7_isOver : GoodIn wsX7_linesOf (wsV RX7 113 RX7 yX7_isOver wsX7_isOver) := goodIn_app (goodIn_of _ (by decide +kernel)) ggX7_linesOf_X7_isOver
theorem dX7_linesOf_0 : decode cX7_linesOf 0 = .ok (.iconst 0, 1) := by decide +kernel
theorem dX7_linesOf_1 : decode cX7_linesOf 1 = .ok (.istore_n 2, 1) := by decide +kernel
theorem dX7_linesOf_2 : decode cX7_linesOf 2 = .ok (.iconst 0, 1) := by decide +kernel
theorem dX7_linesOf_3 : decode cX7_linesOf 3 = .ok (.istore_n 3, 1) := by decide +kernel
theorem dX7_linesOf_4 : decode cX7_linesOf 4 = .ok (.iload_n 3, 1) := by decide +kernel
theorem dX7_linesOf_5 : decode cX7_linesOf 5 = .ok (.bipush 32, 2) := by decide +kernel
theorem dX7_linesOf_7 : decode cX7_linesOf 7 = .ok (.if_icmp .ge 26, 3) := by decide +kernel
theorem dX7_linesOf_10 : decode cX7_linesOf 10 = .ok (.iload_n 2, 1) := by decide +kernel
theorem dX7_linesOf_11 : decode cX7_linesOf 11 = .ok (.aload_n 0, 1) := by decide +kernel
theorem dX7_linesOf_12 : decode cX7_linesOf 12 = .ok (.iload_n 1, 1) := by decide +kernel
theorem dX7_linesOf_13 : decode cX7_linesOf 13 = .ok (.iload_n 3, 1) := by decide +kernel
theorem dX7_linesOf_14 : decode cX7_linesOf 14 = .ok (.invokevirtual 113, 3) := by decide +kernel
theorem dX7_linesOf_17 : decode cX7_linesOf 17 = .ok (.ifCond .eq 7, 3) := by decide +kernel
theorem dX7_linesOf_20 : decode cX7_linesOf 20 = .ok (.iconst 1, 1) := by decide +kernel
theorem dX7_linesOf_21 : decode cX7_linesOf 21 = .ok (.goto 4, 3) := by decide +kernel
theorem dX7_linesOf_24 : decode cX7_linesOf 24 = .ok (.iconst 0, 1) := by decide +kernel
theorem dX7_linesOf_25 : decode cX7_linesOf 25 = .ok (.iadd, 1) := by decide +kernel
theorem dX7_linesOf_26 : decode cX7_linesOf 26 = .ok (.istore_n 2, 1) := by decide +kernel
theorem dX7_linesOf_27 : decode cX7_linesOf 27 = .ok (.iinc 3 1, 3) := by decide +kernel
theorem dX7_linesOf_30 : decode cX7_linesOf 30 = .ok (.goto (-26), 3) := by decide +kernel
theorem dX7_linesOf_33 : decode cX7_linesOf 33 = .ok (.iload_n 2, 1) := by decide +kernel
theorem dX7_linesOf_34 : decode cX7_linesOf 34 = .ok (.ireturn, 1) := by decide +kernel
set_option maxRecDepth 20000 in
theorem ggX7_move_X7_noSprite : GoodIn wsX7_move wsX7_noSprite := goodIn_r _ [5, 6, 7, 8, 4, 9, 10, 11, 12, 13, 44, 45, 46, 47, 48, 49, 50, 51, 52, 53, 54, 55] (by decide +kernel) (by decide +kernel)
set_option maxRecDepth 20000 in
theorem gX7_move_X7_noSprite : GoodIn wsX7_move (wsV RX7 116 RX7 yX7_noSprite wsX7_noSprite) := goodIn_app (goodIn_of _ (by decide +kernel)) ggX7_move_X7_noSprite
set_option maxRecDepth 20000 in
theorem ggX7_move_X7_isPlace : GoodIn wsX7_move wsX7_isPlace := goodIn_r _ [16, 11, 12, 4, 13] (by decide +kernel) (by decide +kernel)
set_option maxRecDepth 20000 in
theorem gX7_move_X7_isPlace : GoodIn wsX7_move (va_wsS RX7 109 yX7_isPlace wsX7_isPlace) := goodIn_app (goodIn_of _ (by decide +kernel)) ggX7_move_X7_isPlace
set_option maxRecDepth 20000 in
theorem ggX7_move_X7_begin : GoodIn wsX7_move wsX7_begin := goodIn_r _ [20, 21, 10, 44, 45, 46, 47, 48, 49, 50, 51, 52, 53, 54, 55] (by decide +kernel) (by decide +kernel)
set_option maxRecDepth 20000 in
theorem gX7_move_X7_begin : GoodIn wsX7_move (wsV RX7 47 RX7 yX7_begin wsX7_begin) := goodIn_app (goodIn_of _ (by decide +kernel)) ggX7_move_X7_begin
set_option maxRecDepth 20000 in
theorem ggX7_move_X7_put : GoodIn wsX7_move wsX7_put := goodIn_r _ [25, 10, 44, 45, 46, 47, 48, 49, 50, 51, 52, 53, 54, 55] (by decide +kernel) (by decide +kernel)
set_option maxRecDepth 20000 in
theorem gX7_move_X7_put : GoodIn wsX7_move (wsV RX7 85 RX7 yX7_put wsX7_put) := goodIn_app (goodIn_of _ (by decide +kernel)) ggX7_move_X7_put
set_option maxRecDepth 20000 in
theorem ggX7_move_X7_linesOf : GoodIn wsX7_move wsX7_linesOf := goodIn_r _ [29, 30, 31, 32, 4, 33, 34, 35, 36, 37, 10, 11, 12, 13, 44, 45, 46, 47, 48, 49, 50, 51, 52, 53, 54, 55] (by decide +kernel) (by decide +kernel)
set_option maxRecDepth 20000 in
theorem gX7_move_X7_linesOf : GoodIn wsX7_move (wsV RX7 119 RX7 yX7_linesOf wsX7_linesOf) := goodIn_app (goodIn_of _ (by decide +kernel)) ggX7_move_X7_linesOf
set_option maxRecDepth 20000 in
theorem ggX7_move_X7_done : GoodIn wsX7_move wsX7_done := goodIn_r _ [41, 42, 43, 21, 44, 45, 46, 47, 48, 49, 50, 51, 52, 53, 54, 55] (by decide +kernel) (by decide +kernel)
set_option maxRecDepth 20000 in
theorem gX7_move_X7_done : GoodIn wsX7_move (wsV RX7 50 RX7 yX7_done wsX7_done) := goodIn_app (goodIn_of _ (by decide +kernel)) ggX7_move_X7_done
theorem dX7_move_0 : decode cX7_move 0 = .ok (.aload_n 0, 1) := by decide +kernel
theorem dX7_move_1 : decode cX7_move 1 = .ok (.iload_n 1, 1) := by decide +kernel
theorem dX7_move_2 : decode cX7_move 2 = .ok (.invokevirtual 116, 3) := by decide +kernel
theorem dX7_move_5 : decode cX7_move 5 = .ok (.ifCond .eq 5, 3) := by decide +kernel
theorem dX7_move_8 : decode cX7_move 8 = .ok (.iconst (-1), 1) := by decide +kernel
theorem dX7_move_9 : decode cX7_move 9 = .ok (.ireturn, 1) := by decide +kernel
theorem dX7_move_10 : decode cX7_move 10 = .ok (.iload_n 2, 1) := by decide +kernel
