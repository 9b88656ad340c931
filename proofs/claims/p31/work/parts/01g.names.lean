set_option maxRecDepth 20000 in
theorem ggL_meets_L_pixelOf : GoodIn wsL_meets wsL_pixelOf := goodIn_r _ [185, 5, 6, 7, 8, 9, 10, 11, 12, 13, 14, 15, 16, 17, 18, 19, 20, 21, 22, 23, 24, 25, 26, 27, 28, 29, 30, 31, 32, 33, 34, 35, 36, 37, 38, 39, 40, 41, 42, 43, 44, 45, 46, 47, 48, 49, 50, 51, 52, 53, 54, 55, 56, 57, 58, 59, 60, 61, 62, 63, 64, 65, 66, 67, 68, 69, 70, 71, 72, 73, 74, 75, 76, 77, 78, 79, 80, 81, 82, 83, 84, 85, 86, 87, 88, 89, 90, 91, 92, 93, 94, 95, 96, 97, 98, 99, 100, 101, 102, 103, 104, 105, 106, 107, 108, 109, 110, 111, 112, 113, 114, 115, 186, 187, 3, 188, 189, 190, 191, 192, 193, 194, 195, 196, 197, 198, 199, 144, 145, 200, 147, 148, 149, 206, 207, 208, 209, 210, 211, 212, 213, 214, 215, 216, 217, 218, 219, 220, 221, 222, 223, 224, 225, 226, 227] (by decide +kernel) (by decide +kernel)
set_option maxRecDepth 20000 in
theorem gL_meets_L_pixelOf : GoodIn wsL_meets (va_wsS RL 45 yL_pixelOf wsL_pixelOf) := goodIn_app (goodIn_of _ (by decide +kernel)) ggL_meets_L_pixelOf
set_option maxRecDepth 20000 in
theorem ggL_meets_X6_meet : GoodIn wsL_meets wsX6_meet := goodIn_r _ [204, 11, 12, 13, 14, 8, 15, 10, 16, 61, 62, 63, 26, 64, 65, 66, 67, 68, 69, 28, 29, 70, 35, 36, 37, 38, 39, 40, 41, 42, 43, 44, 45, 46, 47, 48, 49, 50, 30, 31, 32, 20, 33, 34, 18, 19, 21, 22, 51, 52, 71, 72, 73, 74, 75, 76, 77, 78, 79, 80, 81, 82, 83, 84, 85, 86, 87, 88, 89, 90, 91, 92, 93, 94, 95, 96, 97, 98, 99, 100, 101, 102, 103, 104, 105, 106, 107, 108, 205, 206, 207, 208, 209, 210, 211, 212, 213, 214, 215, 216, 217, 218, 219, 220, 221, 222, 223, 224, 225, 226, 227] (by decide +kernel) (by decide +kernel)
set_option maxRecDepth 20000 in
theorem gL_meets_X6_meet : GoodIn wsL_meets (wsV RL 59 RX6 yX6_meet wsX6_meet) := goodIn_app (goodIn_of _ (by decide +kernel)) ggL_meets_X6_meet
theorem dL_meets_0 : decode cL_meets 0 = .ok (.iconst 0, 1) := by decide +kernel
theorem dL_meets_1 : decode cL_meets 1 = .ok (.istore_n 3, 1) := by decide +kernel
theorem dL_meets_2 : decode cL_meets 2 = .ok (.iconst 0, 1) := by decide +kernel
theorem dL_meets_3 : decode cL_meets 3 = .ok (.istore 4, 2) := by decide +kernel
theorem dL_meets_5 : decode cL_meets 5 = .ok (.iload 4, 2) := by decide +kernel
theorem dL_meets_7 : decode cL_meets 7 = .ok (.bipush 32, 2) := by decide +kernel
theorem dL_meets_9 : decode cL_meets 9 = .ok (.if_icmp .ge 95, 3) := by decide +kernel
theorem dL_meets_12 : decode cL_meets 12 = .ok (.aload_n 0, 1) := by decide +kernel
theorem dL_meets_13 : decode cL_meets 13 = .ok (.iload_n 1, 1) := by decide +kernel
theorem dL_meets_14 : decode cL_meets 14 = .ok (.iload 4, 2) := by decide +kernel
theorem dL_meets_16 : decode cL_meets 16 = .ok (.invokestatic 32, 3) := by decide +kernel
theorem dL_meets_19 : decode cL_meets 19 = .ok (.ifCond .eq 79, 3) := by decide +kernel
theorem dL_meets_22 : decode cL_meets 22 = .ok (.aload_n 0, 1) := by decide +kernel
theorem dL_meets_23 : decode cL_meets 23 = .ok (.iload_n 2, 1) := by decide +kernel
theorem dL_meets_24 : decode cL_meets 24 = .ok (.iload 4, 2) := by decide +kernel
theorem dL_meets_26 : decode cL_meets 26 = .ok (.invokestatic 32, 3) := by decide +kernel
theorem dL_meets_29 : decode cL_meets 29 = .ok (.ifCond .eq 69, 3) := by decide +kernel
theorem dL_meets_32 : decode cL_meets 32 = .ok (.aload_n 0, 1) := by decide +kernel
theorem dL_meets_33 : decode cL_meets 33 = .ok (.iload 4, 2) := by decide +kernel
theorem dL_meets_35 : decode cL_meets 35 = .ok (.iload_n 1, 1) := by decide +kernel
theorem dL_meets_36 : decode cL_meets 36 = .ok (.invokestatic 49, 3) := by decide +kernel
theorem dL_meets_39 : decode cL_meets 39 = .ok (.ifCond .eq 59, 3) := by decide +kernel
theorem dL_meets_42 : decode cL_meets 42 = .ok (.aload_n 0, 1) := by decide +kernel
theorem dL_meets_43 : decode cL_meets 43 = .ok (.iload 4, 2) := by decide +kernel
theorem dL_meets_45 : decode cL_meets 45 = .ok (.iload_n 2, 1) := by decide +kernel
theorem dL_meets_46 : decode cL_meets 46 = .ok (.invokestatic 49, 3) := by decide +kernel
theorem dL_meets_49 : decode cL_meets 49 = .ok (.ifCond .eq 49, 3) := by decide +kernel
theorem dL_meets_52 : decode cL_meets 52 = .ok (.iconst 0, 1) := by decide +kernel
theorem dL_meets_53 : decode cL_meets 53 = .ok (.istore 5, 2) := by decide +kernel
theorem dL_meets_55 : decode cL_meets 55 = .ok (.iload 5, 2) := by decide +kernel
theorem dL_meets_57 : decode cL_meets 57 = .ok (.bipush 32, 2) := by decide +kernel
theorem dL_meets_59 : decode cL_meets 59 = .ok (.if_icmp .ge 39, 3) := by decide +kernel
theorem dL_meets_62 : decode cL_meets 62 = .ok (.aload_n 0, 1) := by decide +kernel
theorem dL_meets_63 : decode cL_meets 63 = .ok (.iload_n 1, 1) := by decide +kernel
theorem dL_meets_64 : decode cL_meets 64 = .ok (.iload 4, 2) := by decide +kernel
theorem dL_meets_66 : decode cL_meets 66 = .ok (.iload 5, 2) := by decide +kernel
theorem dL_meets_68 : decode cL_meets 68 = .ok (.invokestatic 45, 3) := by decide +kernel
theorem dL_meets_71 : decode cL_meets 71 = .ok (.ifCond .le 19, 3) := by decide +kernel
theorem dL_meets_74 : decode cL_meets 74 = .ok (.aload_n 0, 1) := by decide +kernel
theorem dL_meets_75 : decode cL_meets 75 = .ok (.iload_n 2, 1) := by decide +kernel
theorem dL_meets_76 : decode cL_meets 76 = .ok (.iload 4, 2) := by decide +kernel
theorem dL_meets_78 : decode cL_meets 78 = .ok (.iload 5, 2) := by decide +kernel
theorem dL_meets_80 : decode cL_meets 80 = .ok (.invokestatic 45, 3) := by decide +kernel
theorem dL_meets_83 : decode cL_meets 83 = .ok (.ifCond .le 7, 3) := by decide +kernel
theorem dL_meets_86 : decode cL_meets 86 = .ok (.iconst 1, 1) := by decide +kernel
theorem dL_meets_87 : decode cL_meets 87 = .ok (.goto 4, 3) := by decide +kernel
theorem dL_meets_90 : decode cL_meets 90 = .ok (.iload_n 3, 1) := by decide +kernel
theorem dL_meets_91 : decode cL_meets 91 = .ok (.istore_n 3, 1) := by decide +kernel
theorem dL_meets_92 : decode cL_meets 92 = .ok (.iinc 5 1, 3) := by decide +kernel
theorem dL_meets_95 : decode cL_meets 95 = .ok (.goto (-40), 3) := by decide +kernel
theorem dL_meets_98 : decode cL_meets 98 = .ok (.iinc 4 1, 3) := by decide +kernel
theorem dL_meets_101 : decode cL_meets 101 = .ok (.goto (-96), 3) := by decide +kernel
theorem dL_meets_104 : decode cL_meets 104 = .ok (.aload_n 0, 1) := by decide +kernel
theorem dL_meets_105 : decode cL_meets 105 = .ok (.iload_n 1, 1) := by decide +kernel
theorem dL_meets_106 : decode cL_meets 106 = .ok (.iload_n 2, 1) := by decide +kernel
theorem dL_meets_107 : decode cL_meets 107 = .ok (.invokevirtual 59, 3) := by decide +kernel
theorem dL_meets_110 : decode cL_meets 110 = .ok (.iload_n 3, 1) := by decide +kernel
theorem dL_meets_111 : decode cL_meets 111 = .ok (.if_icmp .ne 28, 3) := by decide +kernel
theorem dL_meets_114 : decode cL_meets 114 = .ok (.aload_n 0, 1) := by decide +kernel
theorem dL_meets_115 : decode cL_meets 115 = .ok (.iload_n 2, 1) := by decide +kernel
theorem dL_meets_116 : decode cL_meets 116 = .ok (.iload_n 1, 1) := by decide +kernel
theorem dL_meets_117 : decode cL_meets 117 = .ok (.invokevirtual 59, 3) := by decide +kernel
theorem dL_meets_120 : decode cL_meets 120 = .ok (.iload_n 3, 1) := by decide +kernel
theorem dL_meets_121 : decode cL_meets 121 = .ok (.if_icmp .ne 18, 3) := by decide +kernel
theorem dL_meets_124 : decode cL_meets 124 = .ok (.aload_n 0, 1) := by decide +kernel
theorem dL_meets_125 : decode cL_meets 125 = .ok (.iload_n 1, 1) := by decide +kernel
theorem dL_meets_126 : decode cL_meets 126 = .ok (.iload_n 1, 1) := by decide +kernel
theorem dL_meets_127 : decode cL_meets 127 = .ok (.invokevirtual 59, 3) := by decide +kernel
theorem dL_meets_130 : decode cL_meets 130 = .ok (.bipush (-2), 2) := by decide +kernel
theorem dL_meets_132 : decode cL_meets 132 = .ok (.if_icmp .ne 7, 3) := by decide +kernel
theorem dL_meets_135 : decode cL_meets 135 = .ok (.iconst 1, 1) := by decide +kernel
theorem dL_meets_136 : decode cL_meets 136 = .ok (.goto 4, 3) := by decide +kernel
theorem dL_meets_139 : decode cL_meets 139 = .ok (.iconst 0, 1) := by decide +kernel
theorem dL_meets_140 : decode cL_meets 140 = .ok (.ireturn, 1) := by decide +kernel
set_option maxRecDepth 20000 in
theorem ggL_sprites_X6_count : GoodIn wsL_sprites wsX6_count := goodIn_r _ [5, 6, 7, 8, 9, 10, 11, 12, 13, 14, 15, 16, 17, 18, 19, 20, 21, 22, 23, 24, 25, 26, 27, 28, 29, 30, 31, 32, 33, 34, 35, 36, 37, 38, 39, 40, 41, 42, 43, 44, 45, 46, 47, 48, 49, 50, 51, 52, 53, 54, 55, 56, 57, 58, 59, 60, 61, 62, 63, 64, 65, 66, 67, 68, 69, 70, 71, 72, 73, 74, 75, 76, 77, 78, 79, 80, 81, 82, 83, 84, 85, 86, 87, 88, 89, 90, 91, 92, 93, 94, 95, 4, 96, 97, 98, 99, 100, 101, 102, 103, 104, 105, 106, 107, 108, 109, 110, 111, 112, 113, 114, 115, 116, 117, 118, 119, 120, 121, 122, 123, 124, 125, 126, 127, 128, 129, 130, 131, 132, 133, 134, 135, 136, 137, 138, 139, 140, 141, 142, 143, 144, 145, 146, 147, 148, 149, 150, 151, 152, 153, 154, 155, 156, 157, 158, 159, 160, 161, 162, 163, 164, 165, 166, 167, 168, 169, 170, 171, 255, 256, 257, 258, 259, 260, 261, 262, 263, 264, 265, 266, 267, 268, 269, 270, 271, 272, 273, 274, 275, 276, 277, 278, 279, 280, 281, 282, 283, 284, 285, 286, 287, 288] (by decide +kernel) (by decide +kernel)
set_option maxRecDepth 20000 in
theorem gL_sprites_X6_count : GoodIn wsL_sprites (wsV RL 28 RX6 yX6_count wsX6_count) := goodIn_app (goodIn_of _ (by decide +kernel)) ggL_sprites_X6_count
set_option maxRecDepth 20000 in
theorem ggL_sprites_X6_sprite : GoodIn wsL_sprites wsX6_sprite := goodIn_r _ [175, 6, 10, 176, 177, 178, 4, 179, 9, 180, 25, 26, 21, 27, 28, 181, 182, 183, 32, 184, 34, 80, 41, 42, 43, 44, 24, 82, 83, 84, 85, 86, 87, 88, 89, 90, 40, 35, 91, 92, 51, 93, 94, 95, 96, 185, 186, 187, 188, 189, 190, 50, 52, 191, 192, 193, 194, 75, 76, 77, 78, 79, 81, 97, 98, 99, 100, 101, 102, 103, 104, 105, 106, 107, 108, 109, 110, 111, 112, 113, 114, 115, 116, 117, 118, 119, 120, 121, 122, 123, 124, 125, 126, 127, 128, 129, 130, 131, 132, 133, 134, 195, 136, 137, 138, 139, 140, 141, 255, 256, 257, 258, 259, 260, 261, 262, 263, 264, 265, 266, 267, 268, 269, 285, 286, 287, 288, 270, 271, 272] (by decide +kernel) (by decide +kernel)
set_option maxRecDepth 20000 in
theorem gL_sprites_X6_sprite : GoodIn wsL_sprites (wsV RL 25 RX6 yX6_sprite wsX6_sprite) := goodIn_app (goodIn_of _ (by decide +kernel)) ggL_sprites_X6_sprite
set_option maxRecDepth 20000 in
theorem ggL_sprites_L_covers : GoodIn wsL_sprites wsL_covers := goodIn_r _ [199, 172, 173, 174, 4, 175, 6, 10, 176, 177, 178, 179, 9, 180, 25, 26, 21, 27, 28, 181, 182, 183, 32, 184, 34, 80, 41, 42, 43, 44, 24, 82, 83, 84, 85, 86, 87, 88, 89, 90, 40, 35, 91, 92, 51, 93, 94, 95, 96, 185, 186, 187, 188, 189, 190, 50, 52, 191, 192, 193, 194, 75, 76, 77, 78, 79, 81, 97, 98, 99, 100, 101, 102, 103, 104, 105, 106, 107, 108, 109, 110, 111, 112, 113, 114, 115, 116, 117, 118, 119, 120, 121, 122, 123, 124, 125, 126, 127, 128, 129, 130, 131, 132, 133, 134, 195, 136, 137, 138, 139, 140, 141, 255, 256, 257, 258, 259, 260, 261, 262, 263, 264, 265, 266, 267, 268, 269, 285, 286, 287, 288, 270, 271, 272] (by decide +kernel) (by decide +kernel)
set_option maxRecDepth 20000 in
theorem gL_sprites_L_covers : GoodIn wsL_sprites (va_wsS RL 32 yL_covers wsL_covers) := goodIn_app (goodIn_of _ (by decide +kernel)) ggL_sprites_L_covers
set_option maxRecDepth 20000 in
theorem ggL_sprites_L_isShown : GoodIn wsL_sprites wsL_isShown := goodIn_r _ [202, 203, 204, 205, 4, 206, 10, 6, 11, 207, 208, 209, 210, 37, 38, 32, 39, 34, 40, 41, 42, 43, 21, 44, 24, 25, 26, 27, 28, 211, 88, 89, 90, 35, 86, 91, 92, 51, 93, 94, 212, 213, 214, 215, 80, 82, 83, 84, 85, 87, 216, 217, 218, 219, 95, 96, 220, 221, 222, 223, 101, 102, 224, 225, 226, 227, 228, 106, 229, 109, 110, 111, 112, 113, 114, 115, 116, 117, 118, 230, 231, 232, 233, 61, 62, 63, 64, 65, 66, 67, 68, 69, 70, 234, 235, 236, 237, 238, 239, 58, 59, 60, 240, 241, 242, 243, 244, 245, 246, 247, 248, 249, 255, 256, 257, 258, 259, 260, 261, 262, 263, 264, 265, 266, 267, 268, 269, 285, 286, 287, 288, 270, 271, 272] (by decide +kernel) (by decide +kernel)
set_option maxRecDepth 20000 in
theorem gL_sprites_L_isShown : GoodIn wsL_sprites (va_wsS RL 49 yL_isShown wsL_isShown) := goodIn_app (goodIn_of _ (by decide +kernel)) ggL_sprites_L_isShown
set_option maxRecDepth 20000 in
theorem ggL_sprites_X6_meet : GoodIn wsL_sprites wsX6_meet := goodIn_r _ [253, 10, 176, 177, 178, 4, 179, 6, 9, 191, 192, 193, 32, 194, 75, 76, 77, 78, 79, 34, 80, 81, 82, 83, 84, 85, 86, 87, 88, 89, 90, 40, 35, 91, 92, 51, 93, 94, 41, 42, 43, 21, 44, 24, 25, 26, 27, 28, 95, 96, 97, 98, 99, 100, 101, 102, 103, 104, 105, 106, 107, 108, 109, 110, 111, 112, 113, 114, 115, 116, 117, 118, 119, 120, 121, 122, 123, 124, 125, 126, 127, 128, 129, 130, 131, 132, 133, 134, 254, 255, 256, 257, 258, 259, 260, 261, 262, 263, 264, 265, 266, 267, 268, 269, 285, 286, 287, 288, 270, 271, 272] (by decide +kernel) (by decide +kernel)
set_option maxRecDepth 20000 in
theorem gL_sprites_X6_meet : GoodIn wsL_sprites (wsV RL 59 RX6 yX6_meet wsX6_meet) := goodIn_app (goodIn_of _ (by decide +kernel)) ggL_sprites_X6_meet
set_option maxRecDepth 20000 in
theorem ggL_sprites_X6_line : GoodIn wsL_sprites wsX6_line := goodIn_r _ [206, 10, 6, 11, 207, 208, 4, 209, 210, 37, 38, 32, 39, 34, 40, 41, 42, 43, 21, 44, 24, 25, 26, 27, 28, 211, 88, 89, 90, 35, 86, 91, 92, 51, 93, 94, 212, 213, 214, 215, 80, 82, 83, 84, 85, 87, 216, 217, 218, 219, 95, 96, 220, 221, 222, 223, 101, 102, 224, 225, 226, 227, 228, 106, 229, 109, 110, 111, 112, 113, 114, 115, 116, 117, 118, 230, 231, 232, 233, 61, 62, 63, 64, 65, 66, 67, 68, 69, 70, 234, 235, 236, 237, 238, 239, 58, 59, 60, 240, 241, 255, 256, 257, 258, 259, 260, 261, 262, 263, 264, 265, 266, 267, 268, 269, 285, 286, 287, 288, 270, 271, 272] (by decide +kernel) (by decide +kernel)
set_option maxRecDepth 20000 in
theorem gL_sprites_X6_line : GoodIn wsL_sprites (wsV RL 42 RX6 yX6_line wsX6_line) := goodIn_app (goodIn_of _ (by decide +kernel)) ggL_sprites_X6_line
theorem dL_sprites_0 : decode cL_sprites 0 = .ok (.iconst 0, 1) := by decide +kernel
theorem dL_sprites_1 : decode cL_sprites 1 = .ok (.istore_n 1, 1) := by decide +kernel
theorem dL_sprites_2 : decode cL_sprites 2 = .ok (.iconst 0, 1) := by decide +kernel
theorem dL_sprites_3 : decode cL_sprites 3 = .ok (.istore_n 2, 1) := by decide +kernel
theorem dL_sprites_4 : decode cL_sprites 4 = .ok (.iconst 0, 1) := by decide +kernel
theorem dL_sprites_5 : decode cL_sprites 5 = .ok (.istore_n 3, 1) := by decide +kernel
theorem dL_sprites_6 : decode cL_sprites 6 = .ok (.iload_n 3, 1) := by decide +kernel
theorem dL_sprites_7 : decode cL_sprites 7 = .ok (.aload_n 0, 1) := by decide +kernel
theorem dL_sprites_8 : decode cL_sprites 8 = .ok (.iconst 1, 1) := by decide +kernel
theorem dL_sprites_9 : decode cL_sprites 9 = .ok (.invokevirtual 28, 3) := by decide +kernel
theorem dL_sprites_12 : decode cL_sprites 12 = .ok (.if_icmp .ge 202, 3) := by decide +kernel
theorem dL_sprites_15 : decode cL_sprites 15 = .ok (.iconst 0, 1) := by decide +kernel
theorem dL_sprites_16 : decode cL_sprites 16 = .ok (.istore 4, 2) := by decide +kernel
theorem dL_sprites_18 : decode cL_sprites 18 = .ok (.iconst 0, 1) := by decide +kernel
theorem dL_sprites_19 : decode cL_sprites 19 = .ok (.istore 5, 2) := by decide +kernel
theorem dL_sprites_21 : decode cL_sprites 21 = .ok (.iconst 0, 1) := by decide +kernel
theorem dL_sprites_22 : decode cL_sprites 22 = .ok (.istore 6, 2) := by decide +kernel
theorem dL_sprites_24 : decode cL_sprites 24 = .ok (.iconst 0, 1) := by decide +kernel
theorem dL_sprites_25 : decode cL_sprites 25 = .ok (.istore 7, 2) := by decide +kernel
theorem dL_sprites_27 : decode cL_sprites 27 = .ok (.iload 7, 2) := by decide +kernel
theorem dL_sprites_29 : decode cL_sprites 29 = .ok (.bipush 32, 2) := by decide +kernel
theorem dL_sprites_31 : decode cL_sprites 31 = .ok (.if_icmp .ge 72, 3) := by decide +kernel
theorem dL_sprites_34 : decode cL_sprites 34 = .ok (.iload 7, 2) := by decide +kernel
theorem dL_sprites_36 : decode cL_sprites 36 = .ok (.aload_n 0, 1) := by decide +kernel
theorem dL_sprites_37 : decode cL_sprites 37 = .ok (.iload_n 3, 1) := by decide +kernel
theorem dL_sprites_38 : decode cL_sprites 38 = .ok (.iconst 5, 1) := by decide +kernel
theorem dL_sprites_39 : decode cL_sprites 39 = .ok (.invokevirtual 25, 3) := by decide +kernel
theorem dL_sprites_42 : decode cL_sprites 42 = .ok (.isub, 1) := by decide +kernel
theorem dL_sprites_43 : decode cL_sprites 43 = .ok (.istore 8, 2) := by decide +kernel
theorem dL_sprites_45 : decode cL_sprites 45 = .ok (.iload 4, 2) := by decide +kernel
theorem dL_sprites_47 : decode cL_sprites 47 = .ok (.iload 8, 2) := by decide +kernel
theorem dL_sprites_49 : decode cL_sprites 49 = .ok (.ifCond .lt 14, 3) := by decide +kernel
theorem dL_sprites_52 : decode cL_sprites 52 = .ok (.iload 8, 2) := by decide +kernel
theorem dL_sprites_54 : decode cL_sprites 54 = .ok (.bipush 8, 2) := by decide +kernel
theorem dL_sprites_56 : decode cL_sprites 56 = .ok (.if_icmp .ge 7, 3) := by decide +kernel
theorem dL_sprites_59 : decode cL_sprites 59 = .ok (.iconst 1, 1) := by decide +kernel
theorem dL_sprites_60 : decode cL_sprites 60 = .ok (.goto 4, 3) := by decide +kernel
theorem dL_sprites_63 : decode cL_sprites 63 = .ok (.iconst 0, 1) := by decide +kernel
theorem dL_sprites_64 : decode cL_sprites 64 = .ok (.iadd, 1) := by decide +kernel
theorem dL_sprites_65 : decode cL_sprites 65 = .ok (.istore 4, 2) := by decide +kernel
theorem dL_sprites_67 : decode cL_sprites 67 = .ok (.iload 5, 2) := by decide +kernel
theorem dL_sprites_69 : decode cL_sprites 69 = .ok (.aload_n 0, 1) := by decide +kernel
theorem dL_sprites_70 : decode cL_sprites 70 = .ok (.iload_n 3, 1) := by decide +kernel
theorem dL_sprites_71 : decode cL_sprites 71 = .ok (.iload 7, 2) := by decide +kernel
theorem dL_sprites_73 : decode cL_sprites 73 = .ok (.invokestatic 32, 3) := by decide +kernel
theorem dL_sprites_76 : decode cL_sprites 76 = .ok (.ifCond .eq 17, 3) := by decide +kernel
theorem dL_sprites_79 : decode cL_sprites 79 = .ok (.aload_n 0, 1) := by decide +kernel
theorem dL_sprites_80 : decode cL_sprites 80 = .ok (.iload 7, 2) := by decide +kernel
theorem dL_sprites_82 : decode cL_sprites 82 = .ok (.iload_n 3, 1) := by decide +kernel
theorem dL_sprites_83 : decode cL_sprites 83 = .ok (.invokestatic 49, 3) := by decide +kernel
theorem dL_sprites_86 : decode cL_sprites 86 = .ok (.ifCond .eq 7, 3) := by decide +kernel
theorem dL_sprites_89 : decode cL_sprites 89 = .ok (.iconst 1, 1) := by decide +kernel
theorem dL_sprites_90 : decode cL_sprites 90 = .ok (.goto 4, 3) := by decide +kernel
theorem dL_sprites_93 : decode cL_sprites 93 = .ok (.iconst 0, 1) := by decide +kernel
theorem dL_sprites_94 : decode cL_sprites 94 = .ok (.iadd, 1) := by decide +kernel
theorem dL_sprites_95 : decode cL_sprites 95 = .ok (.istore 5, 2) := by decide +kernel
theorem dL_sprites_97 : decode cL_sprites 97 = .ok (.iinc 7 1, 3) := by decide +kernel
theorem dL_sprites_100 : decode cL_sprites 100 = .ok (.goto (-73), 3) := by decide +kernel
theorem dL_sprites_103 : decode cL_sprites 103 = .ok (.iconst 0, 1) := by decide +kernel
theorem dL_sprites_104 : decode cL_sprites 104 = .ok (.istore 7, 2) := by decide +kernel
theorem dL_sprites_106 : decode cL_sprites 106 = .ok (.iload 7, 2) := by decide +kernel
theorem dL_sprites_108 : decode cL_sprites 108 = .ok (.aload_n 0, 1) := by decide +kernel
theorem dL_sprites_109 : decode cL_sprites 109 = .ok (.iconst 1, 1) := by decide +kernel
theorem dL_sprites_110 : decode cL_sprites 110 = .ok (.invokevirtual 28, 3) := by decide +kernel
theorem dL_sprites_113 : decode cL_sprites 113 = .ok (.if_icmp .ge 31, 3) := by decide +kernel
theorem dL_sprites_116 : decode cL_sprites 116 = .ok (.iload 6, 2) := by decide +kernel
theorem dL_sprites_118 : decode cL_sprites 118 = .ok (.iload 7, 2) := by decide +kernel
theorem dL_sprites_120 : decode cL_sprites 120 = .ok (.iload_n 3, 1) := by decide +kernel
theorem dL_sprites_121 : decode cL_sprites 121 = .ok (.if_icmp .eq 13, 3) := by decide +kernel
theorem dL_sprites_124 : decode cL_sprites 124 = .ok (.aload_n 0, 1) := by decide +kernel
theorem dL_sprites_125 : decode cL_sprites 125 = .ok (.iload_n 3, 1) := by decide +kernel
theorem dL_sprites_126 : decode cL_sprites 126 = .ok (.iload 7, 2) := by decide +kernel
theorem dL_sprites_128 : decode cL_sprites 128 = .ok (.invokevirtual 59, 3) := by decide +kernel
theorem dL_sprites_131 : decode cL_sprites 131 = .ok (.goto 4, 3) := by decide +kernel
theorem dL_sprites_134 : decode cL_sprites 134 = .ok (.iconst 0, 1) := by decide +kernel
theorem dL_sprites_135 : decode cL_sprites 135 = .ok (.iadd, 1) := by decide +kernel
theorem dL_sprites_136 : decode cL_sprites 136 = .ok (.istore 6, 2) := by decide +kernel
theorem dL_sprites_138 : decode cL_sprites 138 = .ok (.iinc 7 1, 3) := by decide +kernel
theorem dL_sprites_141 : decode cL_sprites 141 = .ok (.goto (-35), 3) := by decide +kernel
theorem dL_sprites_144 : decode cL_sprites 144 = .ok (.iload_n 1, 1) := by decide +kernel
theorem dL_sprites_145 : decode cL_sprites 145 = .ok (.aload_n 0, 1) := by decide +kernel
theorem dL_sprites_146 : decode cL_sprites 146 = .ok (.iload_n 3, 1) := by decide +kernel
theorem dL_sprites_147 : decode cL_sprites 147 = .ok (.iconst 3, 1) := by decide +kernel
theorem dL_sprites_148 : decode cL_sprites 148 = .ok (.invokevirtual 25, 3) := by decide +kernel
theorem dL_sprites_151 : decode cL_sprites 151 = .ok (.iadd, 1) := by decide +kernel
theorem dL_sprites_152 : decode cL_sprites 152 = .ok (.istore_n 1, 1) := by decide +kernel
theorem dL_sprites_153 : decode cL_sprites 153 = .ok (.iload_n 2, 1) := by decide +kernel
theorem dL_sprites_154 : decode cL_sprites 154 = .ok (.iload 6, 2) := by decide +kernel
theorem dL_sprites_156 : decode cL_sprites 156 = .ok (.iadd, 1) := by decide +kernel
theorem dL_sprites_157 : decode cL_sprites 157 = .ok (.istore_n 2, 1) := by decide +kernel
theorem dL_sprites_158 : decode cL_sprites 158 = .ok (.aload_n 0, 1) := by decide +kernel
theorem dL_sprites_159 : decode cL_sprites 159 = .ok (.iload_n 3, 1) := by decide +kernel
theorem dL_sprites_160 : decode cL_sprites 160 = .ok (.bipush 6, 2) := by decide +kernel
theorem dL_sprites_162 : decode cL_sprites 162 = .ok (.invokevirtual 25, 3) := by decide +kernel
theorem dL_sprites_165 : decode cL_sprites 165 = .ok (.iload 5, 2) := by decide +kernel
theorem dL_sprites_167 : decode cL_sprites 167 = .ok (.if_icmp .ne 39, 3) := by decide +kernel
theorem dL_sprites_170 : decode cL_sprites 170 = .ok (.aload_n 0, 1) := by decide +kernel
theorem dL_sprites_171 : decode cL_sprites 171 = .ok (.iload_n 3, 1) := by decide +kernel
theorem dL_sprites_172 : decode cL_sprites 172 = .ok (.bipush 7, 2) := by decide +kernel
theorem dL_sprites_174 : decode cL_sprites 174 = .ok (.invokevirtual 25, 3) := by decide +kernel
theorem dL_sprites_177 : decode cL_sprites 177 = .ok (.iload 4, 2) := by decide +kernel
theorem dL_sprites_179 : decode cL_sprites 179 = .ok (.if_icmp .ne 27, 3) := by decide +kernel
theorem dL_sprites_182 : decode cL_sprites 182 = .ok (.aload_n 0, 1) := by decide +kernel
theorem dL_sprites_183 : decode cL_sprites 183 = .ok (.iload_n 3, 1) := by decide +kernel
theorem dL_sprites_184 : decode cL_sprites 184 = .ok (.bipush 8, 2) := by decide +kernel
theorem dL_sprites_186 : decode cL_sprites 186 = .ok (.invokevirtual 25, 3) := by decide +kernel
theorem dL_sprites_189 : decode cL_sprites 189 = .ok (.iload 6, 2) := by decide +kernel
theorem dL_sprites_191 : decode cL_sprites 191 = .ok (.if_icmp .ne 15, 3) := by decide +kernel
theorem dL_sprites_194 : decode cL_sprites 194 = .ok (.aload_n 0, 1) := by decide +kernel
theorem dL_sprites_195 : decode cL_sprites 195 = .ok (.iload_n 3, 1) := by decide +kernel
theorem dL_sprites_196 : decode cL_sprites 196 = .ok (.bipush 9, 2) := by decide +kernel
theorem dL_sprites_198 : decode cL_sprites 198 = .ok (.invokevirtual 25, 3) := by decide +kernel
theorem dL_sprites_201 : decode cL_sprites 201 = .ok (.bipush (-2), 2) := by decide +kernel
theorem dL_sprites_203 : decode cL_sprites 203 = .ok (.if_icmp .eq 5, 3) := by decide +kernel
theorem dL_sprites_206 : decode cL_sprites 206 = .ok (.iconst 0, 1) := by decide +kernel
theorem dL_sprites_207 : decode cL_sprites 207 = .ok (.ireturn, 1) := by decide +kernel
theorem dL_sprites_208 : decode cL_sprites 208 = .ok (.iinc 3 1, 3) := by decide +kernel
theorem dL_sprites_211 : decode cL_sprites 211 = .ok (.goto (-205), 3) := by decide +kernel
theorem dL_sprites_214 : decode cL_sprites 214 = .ok (.iconst 0, 1) := by decide +kernel
theorem dL_sprites_215 : decode cL_sprites 215 = .ok (.istore_n 3, 1) := by decide +kernel
theorem dL_sprites_216 : decode cL_sprites 216 = .ok (.iconst 0, 1) := by decide +kernel
theorem dL_sprites_217 : decode cL_sprites 217 = .ok (.istore 4, 2) := by decide +kernel
theorem dL_sprites_219 : decode cL_sprites 219 = .ok (.iconst 0, 1) := by decide +kernel
theorem dL_sprites_220 : decode cL_sprites 220 = .ok (.istore 5, 2) := by decide +kernel
theorem dL_sprites_222 : decode cL_sprites 222 = .ok (.iconst 0, 1) := by decide +kernel
theorem dL_sprites_223 : decode cL_sprites 223 = .ok (.istore 6, 2) := by decide +kernel
theorem dL_sprites_225 : decode cL_sprites 225 = .ok (.iload 6, 2) := by decide +kernel
theorem dL_sprites_227 : decode cL_sprites 227 = .ok (.bipush 32, 2) := by decide +kernel
theorem dL_sprites_229 : decode cL_sprites 229 = .ok (.if_icmp .ge 79, 3) := by decide +kernel
theorem dL_sprites_232 : decode cL_sprites 232 = .ok (.iload_n 3, 1) := by decide +kernel
theorem dL_sprites_233 : decode cL_sprites 233 = .ok (.aload_n 0, 1) := by decide +kernel
theorem dL_sprites_234 : decode cL_sprites 234 = .ok (.iload 6, 2) := by decide +kernel
theorem dL_sprites_236 : decode cL_sprites 236 = .ok (.iconst 0, 1) := by decide +kernel
theorem dL_sprites_237 : decode cL_sprites 237 = .ok (.invokevirtual 42, 3) := by decide +kernel
theorem dL_sprites_240 : decode cL_sprites 240 = .ok (.aload_n 0, 1) := by decide +kernel
theorem dL_sprites_241 : decode cL_sprites 241 = .ok (.bipush 9, 2) := by decide +kernel
theorem dL_sprites_243 : decode cL_sprites 243 = .ok (.invokevirtual 28, 3) := by decide +kernel
theorem dL_sprites_246 : decode cL_sprites 246 = .ok (.if_icmp .le 7, 3) := by decide +kernel
theorem dL_sprites_249 : decode cL_sprites 249 = .ok (.iconst 1, 1) := by decide +kernel
theorem dL_sprites_250 : decode cL_sprites 250 = .ok (.goto 4, 3) := by decide +kernel
theorem dL_sprites_253 : decode cL_sprites 253 = .ok (.iconst 0, 1) := by decide +kernel
theorem dL_sprites_254 : decode cL_sprites 254 = .ok (.iadd, 1) := by decide +kernel
theorem dL_sprites_255 : decode cL_sprites 255 = .ok (.istore_n 3, 1) := by decide +kernel
theorem dL_sprites_256 : decode cL_sprites 256 = .ok (.aload_n 0, 1) := by decide +kernel
theorem dL_sprites_257 : decode cL_sprites 257 = .ok (.iload 6, 2) := by decide +kernel
theorem dL_sprites_259 : decode cL_sprites 259 = .ok (.iconst 0, 1) := by decide +kernel
theorem dL_sprites_260 : decode cL_sprites 260 = .ok (.invokevirtual 42, 3) := by decide +kernel
theorem dL_sprites_263 : decode cL_sprites 263 = .ok (.iload 4, 2) := by decide +kernel
theorem dL_sprites_265 : decode cL_sprites 265 = .ok (.if_icmp .le 13, 3) := by decide +kernel
theorem dL_sprites_268 : decode cL_sprites 268 = .ok (.aload_n 0, 1) := by decide +kernel
theorem dL_sprites_269 : decode cL_sprites 269 = .ok (.iload 6, 2) := by decide +kernel
theorem dL_sprites_271 : decode cL_sprites 271 = .ok (.iconst 0, 1) := by decide +kernel
theorem dL_sprites_272 : decode cL_sprites 272 = .ok (.invokevirtual 42, 3) := by decide +kernel
theorem dL_sprites_275 : decode cL_sprites 275 = .ok (.goto 5, 3) := by decide +kernel
theorem dL_sprites_278 : decode cL_sprites 278 = .ok (.iload 4, 2) := by decide +kernel
theorem dL_sprites_280 : decode cL_sprites 280 = .ok (.istore 4, 2) := by decide +kernel
theorem dL_sprites_282 : decode cL_sprites 282 = .ok (.iload 5, 2) := by decide +kernel
theorem dL_sprites_284 : decode cL_sprites 284 = .ok (.aload_n 0, 1) := by decide +kernel
theorem dL_sprites_285 : decode cL_sprites 285 = .ok (.iload 6, 2) := by decide +kernel
theorem dL_sprites_287 : decode cL_sprites 287 = .ok (.iconst 3, 1) := by decide +kernel
theorem dL_sprites_288 : decode cL_sprites 288 = .ok (.invokevirtual 42, 3) := by decide +kernel
theorem dL_sprites_291 : decode cL_sprites 291 = .ok (.ifCond .lt 7, 3) := by decide +kernel
theorem dL_sprites_294 : decode cL_sprites 294 = .ok (.iconst 1, 1) := by decide +kernel
theorem dL_sprites_295 : decode cL_sprites 295 = .ok (.goto 4, 3) := by decide +kernel
theorem dL_sprites_298 : decode cL_sprites 298 = .ok (.iconst 0, 1) := by decide +kernel
theorem dL_sprites_299 : decode cL_sprites 299 = .ok (.iadd, 1) := by decide +kernel
theorem dL_sprites_300 : decode cL_sprites 300 = .ok (.istore 5, 2) := by decide +kernel
theorem dL_sprites_302 : decode cL_sprites 302 = .ok (.iinc 6 1, 3) := by decide +kernel
theorem dL_sprites_305 : decode cL_sprites 305 = .ok (.goto (-80), 3) := by decide +kernel
theorem dL_sprites_308 : decode cL_sprites 308 = .ok (.iconst 0, 1) := by decide +kernel
theorem dL_sprites_309 : decode cL_sprites 309 = .ok (.istore 6, 2) := by decide +kernel
theorem dL_sprites_311 : decode cL_sprites 311 = .ok (.iconst 0, 1) := by decide +kernel
theorem dL_sprites_312 : decode cL_sprites 312 = .ok (.istore 7, 2) := by decide +kernel
theorem dL_sprites_314 : decode cL_sprites 314 = .ok (.iload 7, 2) := by decide +kernel
theorem dL_sprites_316 : decode cL_sprites 316 = .ok (.aload_n 0, 1) := by decide +kernel
theorem dL_sprites_317 : decode cL_sprites 317 = .ok (.iconst 0, 1) := by decide +kernel
theorem dL_sprites_318 : decode cL_sprites 318 = .ok (.invokevirtual 28, 3) := by decide +kernel
theorem dL_sprites_321 : decode cL_sprites 321 = .ok (.if_icmp .ge 70, 3) := by decide +kernel
theorem dL_sprites_324 : decode cL_sprites 324 = .ok (.iconst 0, 1) := by decide +kernel
theorem dL_sprites_325 : decode cL_sprites 325 = .ok (.istore 8, 2) := by decide +kernel
theorem dL_sprites_327 : decode cL_sprites 327 = .ok (.iconst 0, 1) := by decide +kernel
theorem dL_sprites_328 : decode cL_sprites 328 = .ok (.istore 9, 2) := by decide +kernel
theorem dL_sprites_330 : decode cL_sprites 330 = .ok (.iload 9, 2) := by decide +kernel
theorem dL_sprites_332 : decode cL_sprites 332 = .ok (.aload_n 0, 1) := by decide +kernel
theorem dL_sprites_333 : decode cL_sprites 333 = .ok (.iconst 1, 1) := by decide +kernel
theorem dL_sprites_334 : decode cL_sprites 334 = .ok (.invokevirtual 28, 3) := by decide +kernel
theorem dL_sprites_337 : decode cL_sprites 337 = .ok (.if_icmp .ge 33, 3) := by decide +kernel
theorem dL_sprites_340 : decode cL_sprites 340 = .ok (.iload 8, 2) := by decide +kernel
theorem dL_sprites_342 : decode cL_sprites 342 = .ok (.ifCond .ne 15, 3) := by decide +kernel
theorem dL_sprites_345 : decode cL_sprites 345 = .ok (.aload_n 0, 1) := by decide +kernel
theorem dL_sprites_346 : decode cL_sprites 346 = .ok (.iload 9, 2) := by decide +kernel
theorem dL_sprites_348 : decode cL_sprites 348 = .ok (.iconst 0, 1) := by decide +kernel
theorem dL_sprites_349 : decode cL_sprites 349 = .ok (.invokevirtual 25, 3) := by decide +kernel
theorem dL_sprites_352 : decode cL_sprites 352 = .ok (.iload 7, 2) := by decide +kernel
theorem dL_sprites_354 : decode cL_sprites 354 = .ok (.if_icmp .ne 7, 3) := by decide +kernel
theorem dL_sprites_357 : decode cL_sprites 357 = .ok (.iconst 1, 1) := by decide +kernel
theorem dL_sprites_358 : decode cL_sprites 358 = .ok (.goto 4, 3) := by decide +kernel
theorem dL_sprites_361 : decode cL_sprites 361 = .ok (.iconst 0, 1) := by decide +kernel
theorem dL_sprites_362 : decode cL_sprites 362 = .ok (.istore 8, 2) := by decide +kernel
theorem dL_sprites_364 : decode cL_sprites 364 = .ok (.iinc 9 1, 3) := by decide +kernel
theorem dL_sprites_367 : decode cL_sprites 367 = .ok (.goto (-37), 3) := by decide +kernel
theorem dL_sprites_370 : decode cL_sprites 370 = .ok (.iload 6, 2) := by decide +kernel
theorem dL_sprites_372 : decode cL_sprites 372 = .ok (.iload 8, 2) := by decide +kernel
theorem dL_sprites_374 : decode cL_sprites 374 = .ok (.ifCond .eq 7, 3) := by decide +kernel
theorem dL_sprites_377 : decode cL_sprites 377 = .ok (.iconst 0, 1) := by decide +kernel
theorem dL_sprites_378 : decode cL_sprites 378 = .ok (.goto 4, 3) := by decide +kernel
theorem dL_sprites_381 : decode cL_sprites 381 = .ok (.iconst 1, 1) := by decide +kernel
theorem dL_sprites_382 : decode cL_sprites 382 = .ok (.iadd, 1) := by decide +kernel
theorem dL_sprites_383 : decode cL_sprites 383 = .ok (.istore 6, 2) := by decide +kernel
theorem dL_sprites_385 : decode cL_sprites 385 = .ok (.iinc 7 1, 3) := by decide +kernel
theorem dL_sprites_388 : decode cL_sprites 388 = .ok (.goto (-74), 3) := by decide +kernel
theorem dL_sprites_391 : decode cL_sprites 391 = .ok (.aload_n 0, 1) := by decide +kernel
theorem dL_sprites_392 : decode cL_sprites 392 = .ok (.iconst 2, 1) := by decide +kernel
theorem dL_sprites_393 : decode cL_sprites 393 = .ok (.invokevirtual 28, 3) := by decide +kernel
theorem dL_sprites_396 : decode cL_sprites 396 = .ok (.iload_n 1, 1) := by decide +kernel
theorem dL_sprites_397 : decode cL_sprites 397 = .ok (.if_icmp .ne 84, 3) := by decide +kernel
theorem dL_sprites_400 : decode cL_sprites 400 = .ok (.aload_n 0, 1) := by decide +kernel
theorem dL_sprites_401 : decode cL_sprites 401 = .ok (.iconst 3, 1) := by decide +kernel
theorem dL_sprites_402 : decode cL_sprites 402 = .ok (.invokevirtual 28, 3) := by decide +kernel
theorem dL_sprites_405 : decode cL_sprites 405 = .ok (.iload_n 3, 1) := by decide +kernel
theorem dL_sprites_406 : decode cL_sprites 406 = .ok (.if_icmp .ne 75, 3) := by decide +kernel
theorem dL_sprites_409 : decode cL_sprites 409 = .ok (.aload_n 0, 1) := by decide +kernel
theorem dL_sprites_410 : decode cL_sprites 410 = .ok (.iconst 4, 1) := by decide +kernel
theorem dL_sprites_411 : decode cL_sprites 411 = .ok (.invokevirtual 28, 3) := by decide +kernel
theorem dL_sprites_414 : decode cL_sprites 414 = .ok (.iload 4, 2) := by decide +kernel
theorem dL_sprites_416 : decode cL_sprites 416 = .ok (.if_icmp .ne 65, 3) := by decide +kernel
theorem dL_sprites_419 : decode cL_sprites 419 = .ok (.aload_n 0, 1) := by decide +kernel
theorem dL_sprites_420 : decode cL_sprites 420 = .ok (.iconst 5, 1) := by decide +kernel
theorem dL_sprites_421 : decode cL_sprites 421 = .ok (.invokevirtual 28, 3) := by decide +kernel
theorem dL_sprites_424 : decode cL_sprites 424 = .ok (.iload 5, 2) := by decide +kernel
theorem dL_sprites_426 : decode cL_sprites 426 = .ok (.if_icmp .ne 55, 3) := by decide +kernel
theorem dL_sprites_429 : decode cL_sprites 429 = .ok (.iconst 2, 1) := by decide +kernel
theorem dL_sprites_430 : decode cL_sprites 430 = .ok (.aload_n 0, 1) := by decide +kernel
theorem dL_sprites_431 : decode cL_sprites 431 = .ok (.bipush 6, 2) := by decide +kernel
theorem dL_sprites_433 : decode cL_sprites 433 = .ok (.invokevirtual 28, 3) := by decide +kernel
theorem dL_sprites_436 : decode cL_sprites 436 = .ok (.imul, 1) := by decide +kernel
theorem dL_sprites_437 : decode cL_sprites 437 = .ok (.iload_n 2, 1) := by decide +kernel
theorem dL_sprites_438 : decode cL_sprites 438 = .ok (.if_icmp .ne 43, 3) := by decide +kernel
theorem dL_sprites_441 : decode cL_sprites 441 = .ok (.aload_n 0, 1) := by decide +kernel
theorem dL_sprites_442 : decode cL_sprites 442 = .ok (.bipush 7, 2) := by decide +kernel
theorem dL_sprites_444 : decode cL_sprites 444 = .ok (.invokevirtual 28, 3) := by decide +kernel
theorem dL_sprites_447 : decode cL_sprites 447 = .ok (.iload 6, 2) := by decide +kernel
theorem dL_sprites_449 : decode cL_sprites 449 = .ok (.if_icmp .ne 32, 3) := by decide +kernel
theorem dL_sprites_452 : decode cL_sprites 452 = .ok (.aload_n 0, 1) := by decide +kernel
theorem dL_sprites_453 : decode cL_sprites 453 = .ok (.bipush 14, 2) := by decide +kernel
theorem dL_sprites_455 : decode cL_sprites 455 = .ok (.invokevirtual 28, 3) := by decide +kernel
theorem dL_sprites_458 : decode cL_sprites 458 = .ok (.bipush (-2), 2) := by decide +kernel
theorem dL_sprites_460 : decode cL_sprites 460 = .ok (.if_icmp .ne 21, 3) := by decide +kernel
theorem dL_sprites_463 : decode cL_sprites 463 = .ok (.aload_n 0, 1) := by decide +kernel
theorem dL_sprites_464 : decode cL_sprites 464 = .ok (.aload_n 0, 1) := by decide +kernel
theorem dL_sprites_465 : decode cL_sprites 465 = .ok (.iconst 1, 1) := by decide +kernel
theorem dL_sprites_466 : decode cL_sprites 466 = .ok (.invokevirtual 28, 3) := by decide +kernel
theorem dL_sprites_469 : decode cL_sprites 469 = .ok (.iconst 0, 1) := by decide +kernel
theorem dL_sprites_470 : decode cL_sprites 470 = .ok (.invokevirtual 25, 3) := by decide +kernel
theorem dL_sprites_473 : decode cL_sprites 473 = .ok (.iconst (-1), 1) := by decide +kernel
theorem dL_sprites_474 : decode cL_sprites 474 = .ok (.if_icmp .ne 7, 3) := by decide +kernel
theorem dL_sprites_477 : decode cL_sprites 477 = .ok (.iconst 1, 1) := by decide +kernel
theorem dL_sprites_478 : decode cL_sprites 478 = .ok (.goto 4, 3) := by decide +kernel
theorem dL_sprites_481 : decode cL_sprites 481 = .ok (.iconst 0, 1) := by decide +kernel
theorem dL_sprites_482 : decode cL_sprites 482 = .ok (.ireturn, 1) := by decide +kernel
set_option maxRecDepth 20000 in
theorem ggL_print_X6_color : GoodIn wsL_print wsX6_color := goodIn_r _ [5, 6, 7, 8, 9, 10, 4, 11, 12, 13, 14, 15, 16, 17, 18, 19, 20, 21, 22, 23, 24, 25, 26, 27, 28, 29, 30, 31, 32, 33, 34, 35, 36, 37, 38, 39, 40, 41, 42, 43, 44, 45, 46, 47, 48, 49, 50, 51, 52, 53, 54, 55, 56, 57, 58, 59, 60, 61, 62, 63, 64, 65, 66, 67, 68, 69, 70, 71, 72, 73, 74, 75, 76, 77, 78, 79, 80, 81, 82, 83, 84, 85, 86, 87, 88, 89, 90, 91, 92, 93, 94, 95, 96, 97, 98, 99, 100, 101, 102, 103, 104, 105, 106, 107, 108, 109] (by decide +kernel) (by decide +kernel)
set_option maxRecDepth 20000 in
theorem gL_print_X6_color : GoodIn wsL_print (wsV RL 56 RX6 yX6_color wsX6_color) := goodIn_app (goodIn_of _ (by decide +kernel)) ggL_print_X6_color
theorem dL_print_0 : decode cL_print 0 = .ok (.bipush 7, 2) := by decide +kernel
theorem dL_print_2 : decode cL_print 2 = .ok (.istore_n 1, 1) := by decide +kernel
theorem dL_print_3 : decode cL_print 3 = .ok (.iconst 0, 1) := by decide +kernel
theorem dL_print_4 : decode cL_print 4 = .ok (.istore_n 2, 1) := by decide +kernel
theorem dL_print_5 : decode cL_print 5 = .ok (.iload_n 2, 1) := by decide +kernel
theorem dL_print_6 : decode cL_print 6 = .ok (.sipush 1024, 3) := by decide +kernel
theorem dL_print_9 : decode cL_print 9 = .ok (.if_icmp .ge 27, 3) := by decide +kernel
theorem dL_print_12 : decode cL_print 12 = .ok (.bipush 31, 2) := by decide +kernel
theorem dL_print_14 : decode cL_print 14 = .ok (.iload_n 1, 1) := by decide +kernel
theorem dL_print_15 : decode cL_print 15 = .ok (.imul, 1) := by decide +kernel
theorem dL_print_16 : decode cL_print 16 = .ok (.aload_n 0, 1) := by decide +kernel
theorem dL_print_17 : decode cL_print 17 = .ok (.iload_n 2, 1) := by decide +kernel
theorem dL_print_18 : decode cL_print 18 = .ok (.bipush 32, 2) := by decide +kernel
theorem dL_print_20 : decode cL_print 20 = .ok (.idiv, 1) := by decide +kernel
theorem dL_print_21 : decode cL_print 21 = .ok (.iload_n 2, 1) := by decide +kernel
theorem dL_print_22 : decode cL_print 22 = .ok (.bipush 32, 2) := by decide +kernel
theorem dL_print_24 : decode cL_print 24 = .ok (.irem, 1) := by decide +kernel
theorem dL_print_25 : decode cL_print 25 = .ok (.invokevirtual 56, 3) := by decide +kernel
theorem dL_print_28 : decode cL_print 28 = .ok (.iadd, 1) := by decide +kernel
theorem dL_print_29 : decode cL_print 29 = .ok (.istore_n 1, 1) := by decide +kernel
theorem dL_print_30 : decode cL_print 30 = .ok (.iinc 2 3, 3) := by decide +kernel
theorem dL_print_33 : decode cL_print 33 = .ok (.goto (-28), 3) := by decide +kernel
theorem dL_print_36 : decode cL_print 36 = .ok (.iload_n 1, 1) := by decide +kernel
theorem dL_print_37 : decode cL_print 37 = .ok (.ireturn, 1) := by decide +kernel
set_option maxRecDepth 20000 in
theorem ggL_packs_X6_count : GoodIn wsL_packs wsX6_count := goodIn_r _ [5, 6, 7, 8, 9, 10, 11, 12, 13, 14, 15, 16, 17, 18, 19, 20, 21, 22, 23, 24, 25, 26, 27, 28, 29, 30, 31, 32, 33, 34, 35, 36, 37, 38, 39, 40, 41, 42, 43, 44, 45, 46, 47, 48, 49, 50, 51, 52, 53, 54, 55, 56, 57, 58, 59, 60, 61, 62, 63, 64, 65, 66, 67, 68, 69, 70, 71, 72, 73, 74, 75, 76, 77, 78, 79, 80, 81, 82, 83, 84, 85, 86, 87, 88, 89, 90, 91, 92, 93, 94, 95, 4, 96, 97, 98, 99, 100, 101, 102, 103, 104, 105, 106, 107, 108, 109, 110, 111, 112, 113, 114, 115, 116, 117, 118, 119, 120, 121, 122, 123, 124, 125, 126, 127, 128, 129, 130, 131, 132, 133, 134, 135, 136, 137, 138, 139, 140, 141, 142, 143, 144, 145, 146, 147, 148, 149, 150, 151, 152, 153, 154, 155, 156, 157, 158, 159, 160, 161, 162, 163, 164, 165, 166, 167, 168, 169, 170, 171, 319, 320, 321, 322, 323, 324, 325, 326, 327, 328, 329, 330, 331, 332, 333, 334, 335, 336, 337, 338, 339, 340, 341, 342, 343, 344, 345, 346, 347, 348, 349, 350, 351, 352] (by decide +kernel) (by decide +kernel)
set_option maxRecDepth 20000 in
theorem gL_packs_X6_count : GoodIn wsL_packs (wsV RL 28 RX6 yX6_count wsX6_count) := goodIn_app (goodIn_of _ (by decide +kernel)) ggL_packs_X6_count
set_option maxRecDepth 20000 in
theorem ggL_packs_L_print : GoodIn wsL_packs wsL_print := goodIn_r _ [175, 176, 177, 178, 4, 179, 10, 6, 11, 180, 181, 182, 183, 83, 84, 32, 85, 86, 87, 88, 89, 90, 34, 40, 35, 91, 92, 51, 93, 94, 41, 42, 43, 21, 44, 24, 25, 26, 27, 28, 184, 185, 186, 187, 95, 96, 188, 189, 190, 191, 101, 102, 192, 193, 194, 195, 196, 106, 197, 109, 110, 111, 112, 113, 114, 115, 116, 117, 118, 198, 199, 200, 201, 61, 62, 63, 64, 65, 66, 67, 68, 69, 70, 202, 203, 204, 205, 206, 319, 320, 321, 322, 323, 324, 325, 326, 327, 328, 329, 330, 331, 332, 333, 349, 350, 351, 352, 334, 335, 336] (by decide +kernel) (by decide +kernel)
set_option maxRecDepth 20000 in
theorem gL_packs_L_print : GoodIn wsL_packs (va_wsS RL 62 yL_print wsL_print) := goodIn_app (goodIn_of _ (by decide +kernel)) ggL_packs_L_print
set_option maxRecDepth 20000 in
theorem ggL_packs_X6_alike : GoodIn wsL_packs wsX6_alike := goodIn_r _ [210, 6, 7, 211, 212, 213, 4, 214, 8, 215, 216, 217, 106, 218, 109, 110, 111, 112, 113, 119, 120, 121, 122, 123, 124, 125, 126, 127, 128, 129, 130, 114, 115, 116, 117, 118, 319, 320, 321, 322, 323, 324, 325, 326, 327, 328, 329, 330, 331, 332, 333, 334, 335, 336] (by decide +kernel) (by decide +kernel)
set_option maxRecDepth 20000 in
theorem gL_packs_X6_alike : GoodIn wsL_packs (wsV RL 15 RX6 yX6_alike wsX6_alike) := goodIn_app (goodIn_of _ (by decide +kernel)) ggL_packs_X6_alike
set_option maxRecDepth 20000 in
theorem ggL_packs_X6_pack : GoodIn wsL_packs wsX6_pack := goodIn_r _ [222, 223, 14, 6, 224, 225, 226, 227, 228, 229, 230, 231, 232, 233, 234, 235, 236, 237, 238, 92, 51, 93, 239, 240, 241, 106, 242, 243, 216, 217, 218, 109, 110, 111, 112, 113, 119, 120, 121, 122, 123, 124, 125, 126, 127, 128, 129, 130, 114, 115, 116, 117, 118, 244, 245, 246, 247, 248, 249, 25, 26, 21, 27, 28, 250, 251, 252, 253, 254, 255, 256, 257, 258, 259, 260, 261, 262, 263, 264, 265, 266, 267, 268, 269, 270, 271, 272, 273, 274, 275, 276, 277, 278, 279, 280, 281, 23, 146, 282, 283, 284, 285, 206, 65, 70, 286, 287, 288, 289, 290, 291, 292, 293, 294, 295, 296, 297, 298, 299, 300, 301, 302, 303, 304, 305, 306, 307, 308, 309, 310, 319, 320, 321, 322, 323, 324, 353, 354, 355, 356, 325, 326, 327, 328, 329, 330, 331, 332, 333, 334, 335, 336, 337, 338, 339] (by decide +kernel) (by decide +kernel)
set_option maxRecDepth 20000 in
theorem gL_packs_X6_pack : GoodIn wsL_packs (wsV RL 66 RX6 yX6_pack wsX6_pack) := goodIn_app (goodIn_of _ (by decide +kernel)) ggL_packs_X6_pack
set_option maxRecDepth 20000 in
theorem ggL_packs_X6_undo : GoodIn wsL_packs wsX6_undo := goodIn_r _ [314, 14, 15, 6, 315, 316, 317, 262, 318, 264, 266, 267, 268, 269, 270, 265, 271, 272, 273, 274, 275, 276, 277, 21, 278, 279, 280, 281, 23, 146, 28, 282, 283, 284, 285, 206, 65, 70, 286, 287, 288, 106, 289, 290, 113, 291, 118, 319, 320, 321, 322, 323, 324, 337, 338, 339, 325, 326, 327, 328, 329, 330, 331, 332, 333, 334, 335, 336] (by decide +kernel) (by decide +kernel)
set_option maxRecDepth 20000 in
theorem gL_packs_X6_undo : GoodIn wsL_packs (wsV RL 70 RX6 yX6_undo wsX6_undo) := goodIn_app (goodIn_of _ (by decide +kernel)) ggL_packs_X6_undo
theorem dL_packs_0 : decode cL_packs 0 = .ok (.aload_n 0, 1) := by decide +kernel
theorem dL_packs_1 : decode cL_packs 1 = .ok (.iconst 0, 1) := by decide +kernel
theorem dL_packs_2 : decode cL_packs 2 = .ok (.invokevirtual 28, 3) := by decide +kernel
theorem dL_packs_5 : decode cL_packs 5 = .ok (.istore_n 2, 1) := by decide +kernel
theorem dL_packs_6 : decode cL_packs 6 = .ok (.aload_n 0, 1) := by decide +kernel
theorem dL_packs_7 : decode cL_packs 7 = .ok (.bipush 7, 2) := by decide +kernel
theorem dL_packs_9 : decode cL_packs 9 = .ok (.invokevirtual 28, 3) := by decide +kernel
theorem dL_packs_12 : decode cL_packs 12 = .ok (.istore_n 3, 1) := by decide +kernel
theorem dL_packs_13 : decode cL_packs 13 = .ok (.aload_n 0, 1) := by decide +kernel
theorem dL_packs_14 : decode cL_packs 14 = .ok (.invokestatic 62, 3) := by decide +kernel
theorem dL_packs_17 : decode cL_packs 17 = .ok (.istore 4, 2) := by decide +kernel
theorem dL_packs_19 : decode cL_packs 19 = .ok (.iconst 0, 1) := by decide +kernel
theorem dL_packs_20 : decode cL_packs 20 = .ok (.istore 5, 2) := by decide +kernel
theorem dL_packs_22 : decode cL_packs 22 = .ok (.iconst 0, 1) := by decide +kernel
theorem dL_packs_23 : decode cL_packs 23 = .ok (.istore 6, 2) := by decide +kernel
theorem dL_packs_25 : decode cL_packs 25 = .ok (.iload 6, 2) := by decide +kernel
theorem dL_packs_27 : decode cL_packs 27 = .ok (.iload_n 2, 1) := by decide +kernel
theorem dL_packs_28 : decode cL_packs 28 = .ok (.if_icmp .ge 66, 3) := by decide +kernel
theorem dL_packs_31 : decode cL_packs 31 = .ok (.iconst 0, 1) := by decide +kernel
theorem dL_packs_32 : decode cL_packs 32 = .ok (.istore 7, 2) := by decide +kernel
theorem dL_packs_34 : decode cL_packs 34 = .ok (.iconst 0, 1) := by decide +kernel
theorem dL_packs_35 : decode cL_packs 35 = .ok (.istore 8, 2) := by decide +kernel
theorem dL_packs_37 : decode cL_packs 37 = .ok (.iload 8, 2) := by decide +kernel
theorem dL_packs_39 : decode cL_packs 39 = .ok (.iload 6, 2) := by decide +kernel
theorem dL_packs_41 : decode cL_packs 41 = .ok (.if_icmp .ge 32, 3) := by decide +kernel
theorem dL_packs_44 : decode cL_packs 44 = .ok (.iload 7, 2) := by decide +kernel
theorem dL_packs_46 : decode cL_packs 46 = .ok (.ifCond .ne 14, 3) := by decide +kernel
theorem dL_packs_49 : decode cL_packs 49 = .ok (.aload_n 0, 1) := by decide +kernel
theorem dL_packs_50 : decode cL_packs 50 = .ok (.iload 8, 2) := by decide +kernel
theorem dL_packs_52 : decode cL_packs 52 = .ok (.iload 6, 2) := by decide +kernel
theorem dL_packs_54 : decode cL_packs 54 = .ok (.invokevirtual 15, 3) := by decide +kernel
theorem dL_packs_57 : decode cL_packs 57 = .ok (.ifCond .lt 7, 3) := by decide +kernel
theorem dL_packs_60 : decode cL_packs 60 = .ok (.iconst 1, 1) := by decide +kernel
theorem dL_packs_61 : decode cL_packs 61 = .ok (.goto 4, 3) := by decide +kernel
theorem dL_packs_64 : decode cL_packs 64 = .ok (.iconst 0, 1) := by decide +kernel
theorem dL_packs_65 : decode cL_packs 65 = .ok (.istore 7, 2) := by decide +kernel
theorem dL_packs_67 : decode cL_packs 67 = .ok (.iinc 8 1, 3) := by decide +kernel
theorem dL_packs_70 : decode cL_packs 70 = .ok (.goto (-33), 3) := by decide +kernel
theorem dL_packs_73 : decode cL_packs 73 = .ok (.iload 5, 2) := by decide +kernel
theorem dL_packs_75 : decode cL_packs 75 = .ok (.iload 7, 2) := by decide +kernel
theorem dL_packs_77 : decode cL_packs 77 = .ok (.ifCond .eq 7, 3) := by decide +kernel
theorem dL_packs_80 : decode cL_packs 80 = .ok (.iconst 1, 1) := by decide +kernel
theorem dL_packs_81 : decode cL_packs 81 = .ok (.goto 4, 3) := by decide +kernel
theorem dL_packs_84 : decode cL_packs 84 = .ok (.iconst 0, 1) := by decide +kernel
theorem dL_packs_85 : decode cL_packs 85 = .ok (.iadd, 1) := by decide +kernel
theorem dL_packs_86 : decode cL_packs 86 = .ok (.istore 5, 2) := by decide +kernel
theorem dL_packs_88 : decode cL_packs 88 = .ok (.iinc 6 1, 3) := by decide +kernel
theorem dL_packs_91 : decode cL_packs 91 = .ok (.goto (-66), 3) := by decide +kernel
theorem dL_packs_94 : decode cL_packs 94 = .ok (.aload_n 0, 1) := by decide +kernel
theorem dL_packs_95 : decode cL_packs 95 = .ok (.iload_n 1, 1) := by decide +kernel
theorem dL_packs_96 : decode cL_packs 96 = .ok (.invokevirtual 66, 3) := by decide +kernel
theorem dL_packs_99 : decode cL_packs 99 = .ok (.istore 6, 2) := by decide +kernel
theorem dL_packs_101 : decode cL_packs 101 = .ok (.iload 6, 2) := by decide +kernel
theorem dL_packs_103 : decode cL_packs 103 = .ok (.bipush (-5), 2) := by decide +kernel
theorem dL_packs_105 : decode cL_packs 105 = .ok (.if_icmp .ne 7, 3) := by decide +kernel
theorem dL_packs_108 : decode cL_packs 108 = .ok (.iconst 0, 1) := by decide +kernel
theorem dL_packs_109 : decode cL_packs 109 = .ok (.goto 5, 3) := by decide +kernel
theorem dL_packs_112 : decode cL_packs 112 = .ok (.iload 6, 2) := by decide +kernel
theorem dL_packs_114 : decode cL_packs 114 = .ok (.istore 7, 2) := by decide +kernel
theorem dL_packs_116 : decode cL_packs 116 = .ok (.aload_n 0, 1) := by decide +kernel
theorem dL_packs_117 : decode cL_packs 117 = .ok (.iconst 0, 1) := by decide +kernel
theorem dL_packs_118 : decode cL_packs 118 = .ok (.invokevirtual 28, 3) := by decide +kernel
theorem dL_packs_121 : decode cL_packs 121 = .ok (.iload_n 2, 1) := by decide +kernel
theorem dL_packs_122 : decode cL_packs 122 = .ok (.iload 7, 2) := by decide +kernel
theorem dL_packs_124 : decode cL_packs 124 = .ok (.isub, 1) := by decide +kernel
theorem dL_packs_125 : decode cL_packs 125 = .ok (.if_icmp .ne 52, 3) := by decide +kernel
theorem dL_packs_128 : decode cL_packs 128 = .ok (.aload_n 0, 1) := by decide +kernel
theorem dL_packs_129 : decode cL_packs 129 = .ok (.invokestatic 62, 3) := by decide +kernel
theorem dL_packs_132 : decode cL_packs 132 = .ok (.iload 4, 2) := by decide +kernel
theorem dL_packs_134 : decode cL_packs 134 = .ok (.if_icmp .ne 43, 3) := by decide +kernel
theorem dL_packs_137 : decode cL_packs 137 = .ok (.iload_n 1, 1) := by decide +kernel
theorem dL_packs_138 : decode cL_packs 138 = .ok (.ifCond .ne 10, 3) := by decide +kernel
theorem dL_packs_141 : decode cL_packs 141 = .ok (.iload 7, 2) := by decide +kernel
theorem dL_packs_143 : decode cL_packs 143 = .ok (.iload 5, 2) := by decide +kernel
theorem dL_packs_145 : decode cL_packs 145 = .ok (.if_icmp .ne 32, 3) := by decide +kernel
theorem dL_packs_148 : decode cL_packs 148 = .ok (.iload 7, 2) := by decide +kernel
theorem dL_packs_150 : decode cL_packs 150 = .ok (.iload 5, 2) := by decide +kernel
theorem dL_packs_152 : decode cL_packs 152 = .ok (.if_icmp .lt 25, 3) := by decide +kernel
theorem dL_packs_155 : decode cL_packs 155 = .ok (.iload 7, 2) := by decide +kernel
theorem dL_packs_157 : decode cL_packs 157 = .ok (.iload 5, 2) := by decide +kernel
theorem dL_packs_159 : decode cL_packs 159 = .ok (.iload_n 3, 1) := by decide +kernel
theorem dL_packs_160 : decode cL_packs 160 = .ok (.iadd, 1) := by decide +kernel
theorem dL_packs_161 : decode cL_packs 161 = .ok (.if_icmp .gt 16, 3) := by decide +kernel
theorem dL_packs_164 : decode cL_packs 164 = .ok (.iload_n 1, 1) := by decide +kernel
theorem dL_packs_165 : decode cL_packs 165 = .ok (.ifCond .eq 14, 3) := by decide +kernel
theorem dL_packs_168 : decode cL_packs 168 = .ok (.aload_n 0, 1) := by decide +kernel
theorem dL_packs_169 : decode cL_packs 169 = .ok (.bipush 7, 2) := by decide +kernel
theorem dL_packs_171 : decode cL_packs 171 = .ok (.invokevirtual 28, 3) := by decide +kernel
theorem dL_packs_174 : decode cL_packs 174 = .ok (.ifCond .eq 5, 3) := by decide +kernel
theorem dL_packs_177 : decode cL_packs 177 = .ok (.iconst 0, 1) := by decide +kernel
theorem dL_packs_178 : decode cL_packs 178 = .ok (.ireturn, 1) := by decide +kernel
theorem dL_packs_179 : decode cL_packs 179 = .ok (.iconst 0, 1) := by decide +kernel
theorem dL_packs_180 : decode cL_packs 180 = .ok (.istore 8, 2) := by decide +kernel
theorem dL_packs_182 : decode cL_packs 182 = .ok (.iload 8, 2) := by decide +kernel
theorem dL_packs_184 : decode cL_packs 184 = .ok (.aload_n 0, 1) := by decide +kernel
theorem dL_packs_185 : decode cL_packs 185 = .ok (.iconst 0, 1) := by decide +kernel
theorem dL_packs_186 : decode cL_packs 186 = .ok (.invokevirtual 28, 3) := by decide +kernel
theorem dL_packs_189 : decode cL_packs 189 = .ok (.if_icmp .ge 40, 3) := by decide +kernel
theorem dL_packs_192 : decode cL_packs 192 = .ok (.iconst 0, 1) := by decide +kernel
theorem dL_packs_193 : decode cL_packs 193 = .ok (.istore 9, 2) := by decide +kernel
theorem dL_packs_195 : decode cL_packs 195 = .ok (.iload 9, 2) := by decide +kernel
theorem dL_packs_197 : decode cL_packs 197 = .ok (.iload 8, 2) := by decide +kernel
theorem dL_packs_199 : decode cL_packs 199 = .ok (.if_icmp .ge 24, 3) := by decide +kernel
theorem dL_packs_202 : decode cL_packs 202 = .ok (.aload_n 0, 1) := by decide +kernel
theorem dL_packs_203 : decode cL_packs 203 = .ok (.iload 9, 2) := by decide +kernel
theorem dL_packs_205 : decode cL_packs 205 = .ok (.iload 8, 2) := by decide +kernel
theorem dL_packs_207 : decode cL_packs 207 = .ok (.invokevirtual 15, 3) := by decide +kernel
theorem dL_packs_210 : decode cL_packs 210 = .ok (.bipush (-5), 2) := by decide +kernel
theorem dL_packs_212 : decode cL_packs 212 = .ok (.if_icmp .eq 5, 3) := by decide +kernel
theorem dL_packs_215 : decode cL_packs 215 = .ok (.iconst 0, 1) := by decide +kernel
theorem dL_packs_216 : decode cL_packs 216 = .ok (.ireturn, 1) := by decide +kernel
theorem dL_packs_217 : decode cL_packs 217 = .ok (.iinc 9 1, 3) := by decide +kernel
theorem dL_packs_220 : decode cL_packs 220 = .ok (.goto (-25), 3) := by decide +kernel
theorem dL_packs_223 : decode cL_packs 223 = .ok (.iinc 8 1, 3) := by decide +kernel
theorem dL_packs_226 : decode cL_packs 226 = .ok (.goto (-44), 3) := by decide +kernel
theorem dL_packs_229 : decode cL_packs 229 = .ok (.aload_n 0, 1) := by decide +kernel
theorem dL_packs_230 : decode cL_packs 230 = .ok (.iload_n 1, 1) := by decide +kernel
theorem dL_packs_231 : decode cL_packs 231 = .ok (.invokevirtual 66, 3) := by decide +kernel
theorem dL_packs_234 : decode cL_packs 234 = .ok (.bipush (-5), 2) := by decide +kernel
theorem dL_packs_236 : decode cL_packs 236 = .ok (.if_icmp .ne 37, 3) := by decide +kernel
theorem dL_packs_239 : decode cL_packs 239 = .ok (.iload 7, 2) := by decide +kernel
theorem dL_packs_241 : decode cL_packs 241 = .ok (.ifCond .eq 28, 3) := by decide +kernel
theorem dL_packs_244 : decode cL_packs 244 = .ok (.aload_n 0, 1) := by decide +kernel
theorem dL_packs_245 : decode cL_packs 245 = .ok (.invokevirtual 70, 3) := by decide +kernel
theorem dL_packs_248 : decode cL_packs 248 = .ok (.ifCond .lt 25, 3) := by decide +kernel
theorem dL_packs_251 : decode cL_packs 251 = .ok (.aload_n 0, 1) := by decide +kernel
theorem dL_packs_252 : decode cL_packs 252 = .ok (.iconst 0, 1) := by decide +kernel
theorem dL_packs_253 : decode cL_packs 253 = .ok (.invokevirtual 28, 3) := by decide +kernel
theorem dL_packs_256 : decode cL_packs 256 = .ok (.iload_n 2, 1) := by decide +kernel
theorem dL_packs_257 : decode cL_packs 257 = .ok (.if_icmp .ne 16, 3) := by decide +kernel
theorem dL_packs_260 : decode cL_packs 260 = .ok (.aload_n 0, 1) := by decide +kernel
theorem dL_packs_261 : decode cL_packs 261 = .ok (.invokestatic 62, 3) := by decide +kernel
theorem dL_packs_264 : decode cL_packs 264 = .ok (.iload 4, 2) := by decide +kernel
theorem dL_packs_266 : decode cL_packs 266 = .ok (.if_icmp .ne 7, 3) := by decide +kernel
theorem dL_packs_269 : decode cL_packs 269 = .ok (.iconst 1, 1) := by decide +kernel
theorem dL_packs_270 : decode cL_packs 270 = .ok (.goto 4, 3) := by decide +kernel
theorem dL_packs_273 : decode cL_packs 273 = .ok (.iconst 0, 1) := by decide +kernel
theorem dL_packs_274 : decode cL_packs 274 = .ok (.ireturn, 1) := by decide +kernel
set_option maxRecDepth 20000 in
theorem ggL_draws_L_low : GoodIn wsL_draws wsL_low := goodIn_r _ [5, 6] (by decide +kernel) (by decide +kernel)
set_option maxRecDepth 20000 in
theorem gL_draws_L_low : GoodIn wsL_draws (va_wsS RL 74 yL_low wsL_low) := goodIn_app (goodIn_of _ (by decide +kernel)) ggL_draws_L_low
set_option maxRecDepth 20000 in
theorem ggL_draws_X6_clearText : GoodIn wsL_draws wsX6_clearText := goodIn_r _ [11, 12, 13, 289, 290, 291, 292, 293, 294, 295, 296, 297, 298, 299, 300, 301, 302, 303] (by decide +kernel) (by decide +kernel)
set_option maxRecDepth 20000 in
theorem gL_draws_X6_clearText : GoodIn wsL_draws (wsV RL 77 RX6 yX6_clearText wsX6_clearText) := goodIn_app (goodIn_of _ (by decide +kernel)) ggL_draws_X6_clearText
set_option maxRecDepth 20000 in
theorem ggL_draws_X6_draw : GoodIn wsL_draws wsX6_draw := goodIn_r _ [17, 12, 18, 19, 20, 21, 22, 23, 24, 25, 26, 10, 27, 28, 29, 30, 31, 32, 33, 34, 35, 36, 37, 38, 39, 40, 41, 42, 43, 44, 45, 46, 47, 48, 49, 50, 51, 52, 53, 54, 55, 56, 57, 58, 59, 60, 61, 62, 63, 64, 65, 66, 67, 68, 69, 70, 71, 72, 73, 74, 75, 76, 77, 78, 79, 80, 81, 82, 83, 84, 85, 86, 87, 88, 89, 90, 91, 92, 93, 94, 95, 96, 97, 98, 99, 100, 101, 102, 103, 104, 105, 106, 107, 108, 109, 110, 111, 112, 113, 114, 115, 116, 117, 118, 119, 120, 121, 122, 289, 290, 291, 292, 293, 294, 295, 296, 297, 298, 299, 300, 301, 302, 303, 304, 305, 306, 307, 308, 309, 310, 311, 312, 313, 314, 315, 316, 317, 318] (by decide +kernel) (by decide +kernel)
set_option maxRecDepth 20000 in
theorem gL_draws_X6_draw : GoodIn wsL_draws (wsV RL 80 RX6 yX6_draw wsX6_draw) := goodIn_app (goodIn_of _ (by decide +kernel)) ggL_draws_X6_draw
set_option maxRecDepth 20000 in
theorem ggL_draws_X6_count : GoodIn wsL_draws wsX6_count := goodIn_r _ [126, 19, 21, 28, 127, 128, 129, 130, 131, 18, 132, 12, 13, 133, 134, 135, 82, 136, 87, 137, 138, 139, 140, 89, 141, 142, 143, 144, 145, 146, 147, 148, 149, 150, 151, 152, 153, 154, 155, 156, 157, 158, 159, 160, 161, 162, 163, 164, 165, 166, 167, 168, 169, 170, 171, 172, 173, 174, 175, 176, 95, 177, 178, 179, 180, 96, 181, 182, 183, 184, 185, 186, 187, 188, 189, 190, 191, 192, 193, 194, 195, 196, 197, 198, 199, 200, 201, 202, 203, 204, 205, 10, 206, 207, 208, 209, 210, 211, 212, 213, 214, 215, 100, 216, 217, 111, 112, 113, 114, 103, 115, 116, 117, 118, 105, 218, 219, 220, 221, 222, 223, 224, 225, 226, 227, 228, 229, 230, 231, 232, 233, 234, 235, 236, 237, 238, 239, 240, 241, 242, 243, 244, 88, 245, 246, 247, 248, 249, 250, 251, 252, 253, 254, 255, 256, 257, 258, 259, 260, 261, 262, 263, 264, 265, 266, 267, 268, 269, 289, 290, 291, 292, 293, 294, 304, 305, 306, 307, 308, 309, 310, 311, 312, 313, 314, 315, 316, 317, 318, 295, 296, 297, 298, 299, 300, 301, 302, 303, 319, 320, 321, 322] (by decide +kernel) (by decide +kernel)
set_option maxRecDepth 20000 in
theorem gL_draws_X6_count : GoodIn wsL_draws (wsV RL 28 RX6 yX6_count wsX6_count) := goodIn_app (goodIn_of _ (by decide +kernel)) ggL_draws_X6_count
set_option maxRecDepth 20000 in
theorem ggL_draws_X6_type : GoodIn wsL_draws wsX6_type := goodIn_r _ [273, 12, 13, 274, 275, 276, 32, 277, 40, 41, 289, 290, 291, 292, 293, 294, 295, 296, 297, 298, 299, 300, 301, 302, 303] (by decide +kernel) (by decide +kernel)
set_option maxRecDepth 20000 in
theorem gL_draws_X6_type : GoodIn wsL_draws (wsV RL 83 RX6 yX6_type wsX6_type) := goodIn_app (goodIn_of _ (by decide +kernel)) ggL_draws_X6_type
set_option maxRecDepth 20000 in
theorem ggL_draws_X6_pixel : GoodIn wsL_draws wsX6_pixel := goodIn_r _ [281, 19, 21, 24, 25, 26, 10, 27, 28, 282, 283, 284, 285, 286, 287, 100, 288, 111, 112, 113, 114, 103, 115, 116, 117, 118, 105, 289, 290, 291, 292, 293, 294, 304, 305, 306, 307, 308, 309, 310, 311, 312, 313, 314, 315] (by decide +kernel) (by decide +kernel)
set_option maxRecDepth 20000 in
theorem gL_draws_X6_pixel : GoodIn wsL_draws (wsV RL 9 RX6 yX6_pixel wsX6_pixel) := goodIn_app (goodIn_of _ (by decide +kernel)) ggL_draws_X6_pixel
theorem dL_draws_0 : decode cL_draws 0 = .ok (.bipush 64, 2) := by decide +kernel
theorem dL_draws_2 : decode cL_draws 2 = .ok (.newarray .int, 2) := by decide +kernel
theorem dL_draws_4 : decode cL_draws 4 = .ok (.astore 4, 2) := by decide +kernel
theorem dL_draws_6 : decode cL_draws 6 = .ok (.iconst 1, 1) := by decide +kernel
theorem dL_draws_7 : decode cL_draws 7 = .ok (.iload_n 2, 1) := by decide +kernel
theorem dL_draws_8 : decode cL_draws 8 = .ok (.iconst 4, 1) := by decide +kernel
theorem dL_draws_9 : decode cL_draws 9 = .ok (.invokestatic 74, 3) := by decide +kernel
theorem dL_draws_12 : decode cL_draws 12 = .ok (.iadd, 1) := by decide +kernel
theorem dL_draws_13 : decode cL_draws 13 = .ok (.istore 5, 2) := by decide +kernel
theorem dL_draws_15 : decode cL_draws 15 = .ok (.iconst 0, 1) := by decide +kernel
theorem dL_draws_16 : decode cL_draws 16 = .ok (.istore 6, 2) := by decide +kernel
theorem dL_draws_18 : decode cL_draws 18 = .ok (.aload_n 0, 1) := by decide +kernel
theorem dL_draws_19 : decode cL_draws 19 = .ok (.invokevirtual 77, 3) := by decide +kernel
theorem dL_draws_22 : decode cL_draws 22 = .ok (.pop, 1) := by decide +kernel
theorem dL_draws_23 : decode cL_draws 23 = .ok (.aload_n 0, 1) := by decide +kernel
theorem dL_draws_24 : decode cL_draws 24 = .ok (.iload_n 1, 1) := by decide +kernel
theorem dL_draws_25 : decode cL_draws 25 = .ok (.invokevirtual 80, 3) := by decide +kernel
theorem dL_draws_28 : decode cL_draws 28 = .ok (.bipush (-100), 2) := by decide +kernel
theorem dL_draws_30 : decode cL_draws 30 = .ok (.if_icmp .ne 20, 3) := by decide +kernel
theorem dL_draws_33 : decode cL_draws 33 = .ok (.aload_n 0, 1) := by decide +kernel
theorem dL_draws_34 : decode cL_draws 34 = .ok (.aload_n 0, 1) := by decide +kernel
theorem dL_draws_35 : decode cL_draws 35 = .ok (.iconst 0, 1) := by decide +kernel
theorem dL_draws_36 : decode cL_draws 36 = .ok (.invokevirtual 28, 3) := by decide +kernel
theorem dL_draws_39 : decode cL_draws 39 = .ok (.invokevirtual 80, 3) := by decide +kernel
theorem dL_draws_42 : decode cL_draws 42 = .ok (.iconst (-1), 1) := by decide +kernel
theorem dL_draws_43 : decode cL_draws 43 = .ok (.if_icmp .ne 7, 3) := by decide +kernel
theorem dL_draws_46 : decode cL_draws 46 = .ok (.iconst 1, 1) := by decide +kernel
theorem dL_draws_47 : decode cL_draws 47 = .ok (.goto 4, 3) := by decide +kernel
theorem dL_draws_50 : decode cL_draws 50 = .ok (.iconst 0, 1) := by decide +kernel
theorem dL_draws_51 : decode cL_draws 51 = .ok (.istore 7, 2) := by decide +kernel
theorem dL_draws_53 : decode cL_draws 53 = .ok (.iconst 0, 1) := by decide +kernel
theorem dL_draws_54 : decode cL_draws 54 = .ok (.istore 8, 2) := by decide +kernel
theorem dL_draws_56 : decode cL_draws 56 = .ok (.iload 8, 2) := by decide +kernel
theorem dL_draws_58 : decode cL_draws 58 = .ok (.iload 5, 2) := by decide +kernel
theorem dL_draws_60 : decode cL_draws 60 = .ok (.if_icmp .ge 183, 3) := by decide +kernel
theorem dL_draws_63 : decode cL_draws 63 = .ok (.iload 8, 2) := by decide +kernel
theorem dL_draws_65 : decode cL_draws 65 = .ok (.ifCond .le 26, 3) := by decide +kernel
theorem dL_draws_68 : decode cL_draws 68 = .ok (.aload_n 0, 1) := by decide +kernel
theorem dL_draws_69 : decode cL_draws 69 = .ok (.bipush 47, 2) := by decide +kernel
theorem dL_draws_71 : decode cL_draws 71 = .ok (.invokevirtual 83, 3) := by decide +kernel
theorem dL_draws_74 : decode cL_draws 74 = .ok (.istore 6, 2) := by decide +kernel
theorem dL_draws_76 : decode cL_draws 76 = .ok (.aload_n 0, 1) := by decide +kernel
theorem dL_draws_77 : decode cL_draws 77 = .ok (.iload_n 1, 1) := by decide +kernel
theorem dL_draws_78 : decode cL_draws 78 = .ok (.invokevirtual 80, 3) := by decide +kernel
theorem dL_draws_81 : decode cL_draws 81 = .ok (.bipush (-100), 2) := by decide +kernel
theorem dL_draws_83 : decode cL_draws 83 = .ok (.iload 6, 2) := by decide +kernel
theorem dL_draws_85 : decode cL_draws 85 = .ok (.isub, 1) := by decide +kernel
theorem dL_draws_86 : decode cL_draws 86 = .ok (.if_icmp .eq 5, 3) := by decide +kernel
theorem dL_draws_89 : decode cL_draws 89 = .ok (.iconst 0, 1) := by decide +kernel
theorem dL_draws_90 : decode cL_draws 90 = .ok (.ireturn, 1) := by decide +kernel
theorem dL_draws_91 : decode cL_draws 91 = .ok (.iconst 0, 1) := by decide +kernel
theorem dL_draws_92 : decode cL_draws 92 = .ok (.istore 9, 2) := by decide +kernel
theorem dL_draws_94 : decode cL_draws 94 = .ok (.iload 9, 2) := by decide +kernel
theorem dL_draws_96 : decode cL_draws 96 = .ok (.bipush 8, 2) := by decide +kernel
theorem dL_draws_98 : decode cL_draws 98 = .ok (.if_icmp .ge 139, 3) := by decide +kernel
theorem dL_draws_101 : decode cL_draws 101 = .ok (.iload_n 2, 1) := by decide +kernel
theorem dL_draws_102 : decode cL_draws 102 = .ok (.iload 9, 2) := by decide +kernel
theorem dL_draws_104 : decode cL_draws 104 = .ok (.ishr, 1) := by decide +kernel
theorem dL_draws_105 : decode cL_draws 105 = .ok (.iconst 4, 1) := by decide +kernel
theorem dL_draws_106 : decode cL_draws 106 = .ok (.invokestatic 74, 3) := by decide +kernel
theorem dL_draws_109 : decode cL_draws 109 = .ok (.istore 10, 2) := by decide +kernel
theorem dL_draws_111 : decode cL_draws 111 = .ok (.iconst 1, 1) := by decide +kernel
theorem dL_draws_112 : decode cL_draws 112 = .ok (.iload_n 3, 1) := by decide +kernel
theorem dL_draws_113 : decode cL_draws 113 = .ok (.iload 8, 2) := by decide +kernel
theorem dL_draws_115 : decode cL_draws 115 = .ok (.iload 9, 2) := by decide +kernel
theorem dL_draws_117 : decode cL_draws 117 = .ok (.iadd, 1) := by decide +kernel
theorem dL_draws_118 : decode cL_draws 118 = .ok (.ishr, 1) := by decide +kernel
theorem dL_draws_119 : decode cL_draws 119 = .ok (.bipush 8, 2) := by decide +kernel
theorem dL_draws_121 : decode cL_draws 121 = .ok (.iload 9, 2) := by decide +kernel
theorem dL_draws_123 : decode cL_draws 123 = .ok (.isub, 1) := by decide +kernel
theorem dL_draws_124 : decode cL_draws 124 = .ok (.invokestatic 74, 3) := by decide +kernel
theorem dL_draws_127 : decode cL_draws 127 = .ok (.iadd, 1) := by decide +kernel
theorem dL_draws_128 : decode cL_draws 128 = .ok (.istore 11, 2) := by decide +kernel
theorem dL_draws_130 : decode cL_draws 130 = .ok (.aload_n 0, 1) := by decide +kernel
theorem dL_draws_131 : decode cL_draws 131 = .ok (.iload 10, 2) := by decide +kernel
theorem dL_draws_133 : decode cL_draws 133 = .ok (.ifCond .ne 8, 3) := by decide +kernel
theorem dL_draws_136 : decode cL_draws 136 = .ok (.bipush 46, 2) := by decide +kernel
theorem dL_draws_138 : decode cL_draws 138 = .ok (.goto 9, 3) := by decide +kernel
theorem dL_draws_141 : decode cL_draws 141 = .ok (.bipush 48, 2) := by decide +kernel
theorem dL_draws_143 : decode cL_draws 143 = .ok (.iload 10, 2) := by decide +kernel
theorem dL_draws_145 : decode cL_draws 145 = .ok (.iadd, 1) := by decide +kernel
theorem dL_draws_146 : decode cL_draws 146 = .ok (.i2c, 1) := by decide +kernel
theorem dL_draws_147 : decode cL_draws 147 = .ok (.invokevirtual 83, 3) := by decide +kernel
theorem dL_draws_150 : decode cL_draws 150 = .ok (.istore 6, 2) := by decide +kernel
theorem dL_draws_152 : decode cL_draws 152 = .ok (.iload 11, 2) := by decide +kernel
theorem dL_draws_154 : decode cL_draws 154 = .ok (.iconst 1, 1) := by decide +kernel
theorem dL_draws_155 : decode cL_draws 155 = .ok (.if_icmp .le 38, 3) := by decide +kernel
theorem dL_draws_158 : decode cL_draws 158 = .ok (.aload_n 0, 1) := by decide +kernel
theorem dL_draws_159 : decode cL_draws 159 = .ok (.bipush 120, 2) := by decide +kernel
theorem dL_draws_161 : decode cL_draws 161 = .ok (.invokevirtual 83, 3) := by decide +kernel
theorem dL_draws_164 : decode cL_draws 164 = .ok (.istore 6, 2) := by decide +kernel
theorem dL_draws_166 : decode cL_draws 166 = .ok (.aload_n 0, 1) := by decide +kernel
theorem dL_draws_167 : decode cL_draws 167 = .ok (.iload_n 1, 1) := by decide +kernel
theorem dL_draws_168 : decode cL_draws 168 = .ok (.invokevirtual 80, 3) := by decide +kernel
theorem dL_draws_171 : decode cL_draws 171 = .ok (.bipush (-100), 2) := by decide +kernel
theorem dL_draws_173 : decode cL_draws 173 = .ok (.iload 6, 2) := by decide +kernel
theorem dL_draws_175 : decode cL_draws 175 = .ok (.isub, 1) := by decide +kernel
theorem dL_draws_176 : decode cL_draws 176 = .ok (.if_icmp .eq 5, 3) := by decide +kernel
theorem dL_draws_179 : decode cL_draws 179 = .ok (.iconst 0, 1) := by decide +kernel
theorem dL_draws_180 : decode cL_draws 180 = .ok (.ireturn, 1) := by decide +kernel
theorem dL_draws_181 : decode cL_draws 181 = .ok (.aload_n 0, 1) := by decide +kernel
theorem dL_draws_182 : decode cL_draws 182 = .ok (.bipush 48, 2) := by decide +kernel
theorem dL_draws_184 : decode cL_draws 184 = .ok (.iload 11, 2) := by decide +kernel
theorem dL_draws_186 : decode cL_draws 186 = .ok (.iadd, 1) := by decide +kernel
theorem dL_draws_187 : decode cL_draws 187 = .ok (.i2c, 1) := by decide +kernel
theorem dL_draws_188 : decode cL_draws 188 = .ok (.invokevirtual 83, 3) := by decide +kernel
theorem dL_draws_191 : decode cL_draws 191 = .ok (.istore 6, 2) := by decide +kernel
theorem dL_draws_193 : decode cL_draws 193 = .ok (.iconst 0, 1) := by decide +kernel
theorem dL_draws_194 : decode cL_draws 194 = .ok (.istore 12, 2) := by decide +kernel
theorem dL_draws_196 : decode cL_draws 196 = .ok (.iload 12, 2) := by decide +kernel
theorem dL_draws_198 : decode cL_draws 198 = .ok (.iload 11, 2) := by decide +kernel
theorem dL_draws_200 : decode cL_draws 200 = .ok (.if_icmp .ge 25, 3) := by decide +kernel
theorem dL_draws_203 : decode cL_draws 203 = .ok (.aload 4, 2) := by decide +kernel
theorem dL_draws_205 : decode cL_draws 205 = .ok (.bipush 8, 2) := by decide +kernel
theorem dL_draws_207 : decode cL_draws 207 = .ok (.iload 8, 2) := by decide +kernel
theorem dL_draws_209 : decode cL_draws 209 = .ok (.imul, 1) := by decide +kernel
theorem dL_draws_210 : decode cL_draws 210 = .ok (.iload 9, 2) := by decide +kernel
theorem dL_draws_212 : decode cL_draws 212 = .ok (.iadd, 1) := by decide +kernel
theorem dL_draws_213 : decode cL_draws 213 = .ok (.iload 10, 2) := by decide +kernel
theorem dL_draws_215 : decode cL_draws 215 = .ok (.iastore, 1) := by decide +kernel
theorem dL_draws_216 : decode cL_draws 216 = .ok (.iinc 9 1, 3) := by decide +kernel
theorem dL_draws_219 : decode cL_draws 219 = .ok (.iinc 12 1, 3) := by decide +kernel
theorem dL_draws_222 : decode cL_draws 222 = .ok (.goto (-26), 3) := by decide +kernel
theorem dL_draws_225 : decode cL_draws 225 = .ok (.iload 6, 2) := by decide +kernel
theorem dL_draws_227 : decode cL_draws 227 = .ok (.bipush 50, 2) := by decide +kernel
theorem dL_draws_229 : decode cL_draws 229 = .ok (.if_icmp .le 5, 3) := by decide +kernel
theorem dL_draws_232 : decode cL_draws 232 = .ok (.iconst 1, 1) := by decide +kernel
theorem dL_draws_233 : decode cL_draws 233 = .ok (.ireturn, 1) := by decide +kernel
theorem dL_draws_234 : decode cL_draws 234 = .ok (.goto (-140), 3) := by decide +kernel
theorem dL_draws_237 : decode cL_draws 237 = .ok (.iinc 8 1, 3) := by decide +kernel
theorem dL_draws_240 : decode cL_draws 240 = .ok (.goto (-184), 3) := by decide +kernel
theorem dL_draws_243 : decode cL_draws 243 = .ok (.iload 7, 2) := by decide +kernel
theorem dL_draws_245 : decode cL_draws 245 = .ok (.ifCond .eq 13, 3) := by decide +kernel
theorem dL_draws_248 : decode cL_draws 248 = .ok (.aload_n 0, 1) := by decide +kernel
theorem dL_draws_249 : decode cL_draws 249 = .ok (.iload_n 1, 1) := by decide +kernel
theorem dL_draws_250 : decode cL_draws 250 = .ok (.invokevirtual 80, 3) := by decide +kernel
theorem dL_draws_253 : decode cL_draws 253 = .ok (.iload 5, 2) := by decide +kernel
theorem dL_draws_255 : decode cL_draws 255 = .ok (.if_icmp .eq 5, 3) := by decide +kernel
theorem dL_draws_258 : decode cL_draws 258 = .ok (.iconst 0, 1) := by decide +kernel
theorem dL_draws_259 : decode cL_draws 259 = .ok (.ireturn, 1) := by decide +kernel
theorem dL_draws_260 : decode cL_draws 260 = .ok (.iconst 0, 1) := by decide +kernel
theorem dL_draws_261 : decode cL_draws 261 = .ok (.istore 8, 2) := by decide +kernel
theorem dL_draws_263 : decode cL_draws 263 = .ok (.iload 8, 2) := by decide +kernel
theorem dL_draws_265 : decode cL_draws 265 = .ok (.bipush 8, 2) := by decide +kernel
theorem dL_draws_267 : decode cL_draws 267 = .ok (.iload 5, 2) := by decide +kernel
theorem dL_draws_269 : decode cL_draws 269 = .ok (.imul, 1) := by decide +kernel
theorem dL_draws_270 : decode cL_draws 270 = .ok (.if_icmp .ge 34, 3) := by decide +kernel
theorem dL_draws_273 : decode cL_draws 273 = .ok (.aload_n 0, 1) := by decide +kernel
theorem dL_draws_274 : decode cL_draws 274 = .ok (.iload_n 1, 1) := by decide +kernel
theorem dL_draws_275 : decode cL_draws 275 = .ok (.iload 8, 2) := by decide +kernel
theorem dL_draws_277 : decode cL_draws 277 = .ok (.bipush 8, 2) := by decide +kernel
theorem dL_draws_279 : decode cL_draws 279 = .ok (.idiv, 1) := by decide +kernel
theorem dL_draws_280 : decode cL_draws 280 = .ok (.iload 8, 2) := by decide +kernel
theorem dL_draws_282 : decode cL_draws 282 = .ok (.bipush 8, 2) := by decide +kernel
theorem dL_draws_284 : decode cL_draws 284 = .ok (.irem, 1) := by decide +kernel
theorem dL_draws_285 : decode cL_draws 285 = .ok (.invokevirtual 9, 3) := by decide +kernel
theorem dL_draws_288 : decode cL_draws 288 = .ok (.aload 4, 2) := by decide +kernel
theorem dL_draws_290 : decode cL_draws 290 = .ok (.iload 8, 2) := by decide +kernel
theorem dL_draws_292 : decode cL_draws 292 = .ok (.iaload, 1) := by decide +kernel
theorem dL_draws_293 : decode cL_draws 293 = .ok (.if_icmp .eq 5, 3) := by decide +kernel
theorem dL_draws_296 : decode cL_draws 296 = .ok (.iconst 0, 1) := by decide +kernel
theorem dL_draws_297 : decode cL_draws 297 = .ok (.ireturn, 1) := by decide +kernel
theorem dL_draws_298 : decode cL_draws 298 = .ok (.iinc 8 1, 3) := by decide +kernel
theorem dL_draws_301 : decode cL_draws 301 = .ok (.goto (-38), 3) := by decide +kernel
theorem dL_draws_304 : decode cL_draws 304 = .ok (.aload_n 0, 1) := by decide +kernel
theorem dL_draws_305 : decode cL_draws 305 = .ok (.bipush 49, 2) := by decide +kernel
theorem dL_draws_307 : decode cL_draws 307 = .ok (.invokevirtual 83, 3) := by decide +kernel
theorem dL_draws_310 : decode cL_draws 310 = .ok (.istore 6, 2) := by decide +kernel
theorem dL_draws_312 : decode cL_draws 312 = .ok (.aload_n 0, 1) := by decide +kernel
theorem dL_draws_313 : decode cL_draws 313 = .ok (.iload_n 1, 1) := by decide +kernel
theorem dL_draws_314 : decode cL_draws 314 = .ok (.invokevirtual 80, 3) := by decide +kernel
theorem dL_draws_317 : decode cL_draws 317 = .ok (.bipush (-99), 2) := by decide +kernel
theorem dL_draws_319 : decode cL_draws 319 = .ok (.iload 6, 2) := by decide +kernel
theorem dL_draws_321 : decode cL_draws 321 = .ok (.isub, 1) := by decide +kernel
theorem dL_draws_322 : decode cL_draws 322 = .ok (.if_icmp .ne 7, 3) := by decide +kernel
theorem dL_draws_325 : decode cL_draws 325 = .ok (.iconst 1, 1) := by decide +kernel
theorem dL_draws_326 : decode cL_draws 326 = .ok (.goto 4, 3) := by decide +kernel
theorem dL_draws_329 : decode cL_draws 329 = .ok (.iconst 0, 1) := by decide +kernel
theorem dL_draws_330 : decode cL_draws 330 = .ok (.ireturn, 1) := by decide +kernel
set_option maxRecDepth 20000 in
theorem ggL_errors_X6_count : GoodIn wsL_errors wsX6_count := goodIn_r _ [6, 7, 8, 9, 10, 11, 12, 13, 14, 15, 16, 17, 18, 19, 20, 21, 22, 23, 24, 25, 26, 27, 28, 29, 30, 31, 32, 33, 34, 35, 36, 37, 38, 39, 40, 41, 42, 43, 44, 45, 46, 47, 48, 49, 50, 51, 52, 53, 54, 55, 56, 57, 58, 59, 60, 61, 62, 63, 64, 65, 66, 67, 68, 69, 70, 71, 72, 73, 74, 75, 76, 77, 78, 79, 80, 81, 82, 83, 84, 85, 86, 87, 88, 89, 90, 91, 92, 93, 94, 95, 96, 5, 97, 98, 99, 100, 101, 102, 103, 104, 105, 106, 107, 108, 109, 110, 111, 112, 113, 114, 115, 116, 117, 118, 119, 120, 121, 122, 123, 124, 125, 126, 127, 128, 129, 130, 131, 132, 133, 134, 135, 136, 137, 138, 139, 140, 141, 142, 143, 144, 145, 146, 147, 148, 149, 150, 151, 152, 153, 154, 155, 156, 157, 158, 159, 160, 161, 162, 163, 164, 165, 166, 167, 168, 169, 170, 171, 172, 394, 395, 396, 397, 398, 399, 400, 401, 402, 403, 404, 405, 406, 407, 408, 409, 410, 411, 412, 413, 414, 415, 416, 417, 418, 419, 420, 421, 422, 423, 424, 425, 426, 427] (by decide +kernel) (by decide +kernel)
set_option maxRecDepth 20000 in
theorem gL_errors_X6_count : GoodIn wsL_errors (wsV RL 28 RX6 yX6_count wsX6_count) := goodIn_app (goodIn_of _ (by decide +kernel)) ggL_errors_X6_count
set_option maxRecDepth 20000 in
theorem ggL_errors_X6_setPixel : GoodIn wsL_errors wsX6_setPixel := goodIn_r _ [176, 15, 7, 8, 177, 178, 179, 5, 180, 9, 181, 182, 183, 184, 185, 186, 187, 188, 189, 190, 191, 192, 193, 194, 195, 196, 197, 198, 199, 200, 201, 202, 22, 203, 204, 205, 206, 24, 147, 29, 207, 208, 209, 210, 211, 66, 71, 212, 213, 214, 107, 215, 216, 114, 217, 119, 218, 219, 220, 221, 110, 111, 112, 113, 115, 116, 117, 118, 222, 223, 224, 225, 226, 227, 228, 229, 230, 394, 395, 396, 397, 398, 399, 400, 401, 402, 403, 404, 405, 406, 407, 408, 409, 410, 411, 412, 413, 414] (by decide +kernel) (by decide +kernel)
set_option maxRecDepth 20000 in
theorem gL_errors_X6_setPixel : GoodIn wsL_errors (wsV RL 87 RX6 yX6_setPixel wsX6_setPixel) := goodIn_app (goodIn_of _ (by decide +kernel)) ggL_errors_X6_setPixel
set_option maxRecDepth 20000 in
theorem ggL_errors_X6_setColor : GoodIn wsL_errors wsX6_setColor := goodIn_r _ [234, 15, 7, 235, 236, 5, 237, 184, 185, 186, 187, 188, 189, 190, 191, 192, 193, 194, 195, 196, 197, 198, 199, 200, 201, 202, 22, 203, 204, 205, 206, 24, 147, 29, 207, 208, 209, 210, 211, 66, 71, 212, 213, 214, 107, 215, 216, 114, 217, 119, 238, 239, 240, 241, 242, 243, 244, 245, 394, 395, 396, 397, 398, 399, 412, 413, 414, 400, 401, 402, 403, 404, 405, 406, 407, 408, 409, 410, 411] (by decide +kernel) (by decide +kernel)
set_option maxRecDepth 20000 in
theorem gL_errors_X6_setColor : GoodIn wsL_errors (wsV RL 91 RX6 yX6_setColor wsX6_setColor) := goodIn_app (goodIn_of _ (by decide +kernel)) ggL_errors_X6_setColor
set_option maxRecDepth 20000 in
theorem ggL_errors_X6_addSprite : GoodIn wsL_errors wsX6_addSprite := goodIn_r _ [249, 7, 10, 15, 177, 178, 179, 5, 180, 8, 9, 250, 251, 252, 184, 185, 186, 187, 188, 189, 190, 191, 192, 193, 194, 195, 196, 197, 198, 199, 200, 201, 202, 22, 203, 204, 205, 206, 24, 147, 29, 207, 208, 209, 210, 211, 66, 71, 212, 213, 214, 107, 215, 216, 114, 217, 119, 253, 254, 255, 256, 394, 395, 396, 397, 398, 399, 400, 401, 402, 403, 404, 405, 406, 407, 408, 409, 410, 411, 412, 413, 414] (by decide +kernel) (by decide +kernel)
set_option maxRecDepth 20000 in
theorem gL_errors_X6_addSprite : GoodIn wsL_errors (wsV RL 94 RX6 yX6_addSprite wsX6_addSprite) := goodIn_app (goodIn_of _ (by decide +kernel)) ggL_errors_X6_addSprite
set_option maxRecDepth 20000 in
theorem ggL_errors_X6_move : GoodIn wsL_errors wsX6_move := goodIn_r _ [260, 15, 7, 261, 262, 263, 5, 264, 10, 250, 251, 252, 184, 185, 186, 187, 188, 189, 190, 191, 192, 193, 194, 195, 196, 197, 198, 199, 200, 201, 202, 22, 203, 204, 205, 206, 24, 147, 29, 207, 208, 209, 210, 211, 66, 71, 212, 213, 214, 107, 215, 216, 114, 217, 119, 253, 254, 255, 256, 265, 266, 267, 268, 269, 93, 52, 94, 270, 51, 53, 25, 26, 27, 28, 394, 395, 396, 397, 398, 399, 400, 401, 402, 403, 404, 405, 406, 407, 408, 412, 413, 414, 409, 410, 411] (by decide +kernel) (by decide +kernel)
set_option maxRecDepth 20000 in
theorem gL_errors_X6_move : GoodIn wsL_errors (wsV RL 97 RX6 yX6_move wsX6_move) := goodIn_app (goodIn_of _ (by decide +kernel)) ggL_errors_X6_move
set_option maxRecDepth 20000 in
theorem ggL_errors_X6_set : GoodIn wsL_errors wsX6_set := goodIn_r _ [274, 15, 7, 261, 262, 263, 5, 264, 10, 275, 276, 277, 278, 8, 9, 184, 185, 186, 187, 188, 189, 190, 191, 192, 193, 194, 195, 196, 197, 198, 199, 200, 201, 202, 22, 203, 204, 205, 206, 24, 147, 29, 207, 208, 209, 210, 211, 66, 71, 212, 213, 214, 107, 215, 216, 114, 217, 119, 279, 26, 27, 28, 253, 254, 255, 256, 394, 395, 396, 397, 398, 399, 400, 401, 402, 403, 404, 405, 406, 407, 408, 409, 410, 411, 412, 413, 414] (by decide +kernel) (by decide +kernel)
set_option maxRecDepth 20000 in
theorem gL_errors_X6_set : GoodIn wsL_errors (wsV RL 100 RX6 yX6_set wsX6_set) := goodIn_app (goodIn_of _ (by decide +kernel)) ggL_errors_X6_set
set_option maxRecDepth 20000 in
theorem ggL_errors_X6_swap : GoodIn wsL_errors wsX6_swap := goodIn_r _ [283, 15, 7, 284, 285, 5, 286, 235, 236, 237, 184, 185, 186, 187, 188, 189, 190, 191, 192, 193, 194, 195, 196, 197, 198, 199, 200, 201, 202, 22, 203, 204, 205, 206, 24, 147, 29, 207, 208, 209, 210, 211, 66, 71, 212, 213, 214, 107, 215, 216, 114, 217, 119, 287, 288, 289, 290, 269, 93, 52, 94, 270, 51, 53, 54, 55, 56, 57, 58, 59, 60, 61, 62, 63, 64, 65, 67, 68, 69, 70, 394, 395, 396, 397, 398, 399, 412, 413, 414, 400, 401, 402, 403, 404, 405, 406, 407, 408, 409, 410, 411] (by decide +kernel) (by decide +kernel)
set_option maxRecDepth 20000 in
theorem gL_errors_X6_swap : GoodIn wsL_errors (wsV RL 103 RX6 yX6_swap wsX6_swap) := goodIn_app (goodIn_of _ (by decide +kernel)) ggL_errors_X6_swap
set_option maxRecDepth 20000 in
theorem ggL_errors_X6_setLimit : GoodIn wsL_errors wsX6_setLimit := goodIn_r _ [294, 15, 7, 13, 184, 185, 186, 187, 188, 189, 190, 191, 192, 193, 194, 195, 196, 197, 198, 199, 200, 201, 202, 22, 203, 204, 205, 206, 24, 147, 29, 207, 208, 209, 210, 211, 66, 71, 212, 213, 214, 107, 215, 216, 114, 217, 119, 394, 395, 396, 397, 398, 399, 400, 401, 402, 403, 404, 405, 406, 407, 408, 412, 413, 414, 409, 410, 411] (by decide +kernel) (by decide +kernel)
set_option maxRecDepth 20000 in
theorem gL_errors_X6_setLimit : GoodIn wsL_errors (wsV RL 106 RX6 yX6_setLimit wsX6_setLimit) := goodIn_app (goodIn_of _ (by decide +kernel)) ggL_errors_X6_setLimit
set_option maxRecDepth 20000 in
theorem ggL_errors_X6_setStride : GoodIn wsL_errors wsX6_setStride := goodIn_r _ [298, 15, 7, 14, 184, 185, 186, 187, 188, 189, 190, 191, 192, 193, 194, 195, 196, 197, 198, 199, 200, 201, 202, 22, 203, 204, 205, 206, 24, 147, 29, 207, 208, 209, 210, 211, 66, 71, 212, 213, 214, 107, 215, 216, 114, 217, 119, 394, 395, 396, 397, 398, 399, 400, 401, 402, 403, 404, 405, 406, 407, 408, 412, 413, 414, 409, 410, 411] (by decide +kernel) (by decide +kernel)
set_option maxRecDepth 20000 in
theorem gL_errors_X6_setStride : GoodIn wsL_errors (wsV RL 109 RX6 yX6_setStride wsX6_setStride) := goodIn_app (goodIn_of _ (by decide +kernel)) ggL_errors_X6_setStride
set_option maxRecDepth 20000 in
theorem ggL_errors_X6_next : GoodIn wsL_errors wsX6_next := goodIn_r _ [302, 303, 7, 12, 304, 15, 184, 185, 186, 187, 188, 189, 190, 191, 192, 193, 194, 195, 196, 197, 198, 199, 200, 201, 202, 22, 203, 204, 205, 206, 24, 147, 29, 207, 208, 209, 210, 211, 66, 71, 212, 213, 214, 107, 215, 216, 114, 217, 119, 394, 395, 396, 397, 398, 399, 400, 401, 402, 403, 404, 405, 406, 407, 408, 412, 413, 414, 409, 410, 411] (by decide +kernel) (by decide +kernel)
set_option maxRecDepth 20000 in
theorem gL_errors_X6_next : GoodIn wsL_errors (wsV RL 112 RX6 yX6_next wsX6_next) := goodIn_app (goodIn_of _ (by decide +kernel)) ggL_errors_X6_next
set_option maxRecDepth 20000 in
theorem ggL_errors_X6_pixel : GoodIn wsL_errors wsX6_pixel := goodIn_r _ [308, 7, 8, 177, 178, 179, 5, 180, 9, 181, 182, 183, 218, 219, 220, 107, 221, 110, 111, 112, 113, 114, 115, 116, 117, 118, 119, 394, 395, 396, 397, 398, 399, 400, 401, 402, 403, 404, 405, 406, 407, 408, 409, 410, 411] (by decide +kernel) (by decide +kernel)
set_option maxRecDepth 20000 in
theorem gL_errors_X6_pixel : GoodIn wsL_errors (wsV RL 9 RX6 yX6_pixel wsX6_pixel) := goodIn_app (goodIn_of _ (by decide +kernel)) ggL_errors_X6_pixel
set_option maxRecDepth 20000 in
theorem ggL_errors_X6_alike : GoodIn wsL_errors wsX6_alike := goodIn_r _ [312, 7, 8, 177, 178, 179, 5, 180, 9, 313, 314, 315, 107, 316, 110, 111, 112, 113, 114, 120, 121, 122, 123, 124, 125, 126, 127, 128, 129, 130, 131, 115, 116, 117, 118, 119, 394, 395, 396, 397, 398, 399, 400, 401, 402, 403, 404, 405, 406, 407, 408, 409, 410, 411] (by decide +kernel) (by decide +kernel)
set_option maxRecDepth 20000 in
theorem gL_errors_X6_alike : GoodIn wsL_errors (wsV RL 15 RX6 yX6_alike wsX6_alike) := goodIn_app (goodIn_of _ (by decide +kernel)) ggL_errors_X6_alike
set_option maxRecDepth 20000 in
theorem ggL_errors_X6_meet : GoodIn wsL_errors wsX6_meet := goodIn_r _ [320, 11, 261, 262, 263, 5, 264, 7, 10, 321, 322, 323, 33, 324, 76, 77, 78, 79, 80, 35, 81, 82, 83, 84, 85, 86, 87, 88, 89, 90, 91, 41, 36, 92, 93, 52, 94, 95, 42, 43, 44, 22, 45, 25, 26, 27, 28, 29, 96, 97, 98, 99, 100, 101, 102, 103, 104, 105, 106, 107, 108, 109, 110, 111, 112, 113, 114, 115, 116, 117, 118, 119, 120, 121, 122, 123, 124, 125, 126, 127, 128, 129, 130, 131, 132, 133, 134, 135, 325, 394, 395, 396, 397, 398, 399, 400, 401, 402, 403, 404, 405, 406, 407, 408, 424, 425, 426, 427, 409, 410, 411] (by decide +kernel) (by decide +kernel)
set_option maxRecDepth 20000 in
theorem gL_errors_X6_meet : GoodIn wsL_errors (wsV RL 59 RX6 yX6_meet wsX6_meet) := goodIn_app (goodIn_of _ (by decide +kernel)) ggL_errors_X6_meet
set_option maxRecDepth 20000 in
theorem ggL_errors_X6_line : GoodIn wsL_errors wsX6_line := goodIn_r _ [329, 11, 7, 12, 284, 285, 5, 286, 330, 38, 39, 33, 40, 35, 41, 42, 43, 44, 22, 45, 25, 26, 27, 28, 29, 331, 89, 90, 91, 36, 87, 92, 93, 52, 94, 95, 332, 333, 334, 335, 81, 83, 84, 85, 86, 88, 336, 337, 338, 339, 96, 97, 340, 341, 342, 343, 102, 103, 182, 183, 344, 219, 220, 107, 221, 110, 111, 112, 113, 114, 115, 116, 117, 118, 119, 345, 346, 347, 348, 62, 63, 64, 65, 66, 67, 68, 69, 70, 71, 349, 239, 240, 241, 211, 350, 59, 60, 61, 351, 352, 394, 395, 396, 397, 398, 399, 400, 401, 402, 403, 404, 405, 406, 407, 408, 424, 425, 426, 427, 409, 410, 411] (by decide +kernel) (by decide +kernel)
set_option maxRecDepth 20000 in
theorem gL_errors_X6_line : GoodIn wsL_errors (wsV RL 42 RX6 yX6_line wsX6_line) := goodIn_app (goodIn_of _ (by decide +kernel)) ggL_errors_X6_line
set_option maxRecDepth 20000 in
theorem ggL_errors_X6_shown : GoodIn wsL_errors wsX6_shown := goodIn_r _ [356, 11, 284, 285, 5, 286, 357, 358, 359, 33, 360, 35, 81, 87, 88, 89, 90, 91, 41, 36, 92, 93, 52, 94, 95, 42, 43, 44, 22, 45, 25, 26, 27, 28, 29, 394, 395, 396, 397, 398, 399, 424, 425, 426, 427, 400, 401, 402, 403, 404, 405, 406, 407, 408] (by decide +kernel) (by decide +kernel)
set_option maxRecDepth 20000 in
theorem gL_errors_X6_shown : GoodIn wsL_errors (wsV RL 36 RX6 yX6_shown wsX6_shown) := goodIn_app (goodIn_of _ (by decide +kernel)) ggL_errors_X6_shown
set_option maxRecDepth 20000 in
theorem ggL_errors_X6_shownIn : GoodIn wsL_errors wsX6_shownIn := goodIn_r _ [364, 11, 7, 12, 284, 285, 5, 286, 261, 262, 263, 264, 10, 365, 84, 85, 33, 86, 87, 88, 89, 90, 91, 35, 41, 36, 92, 93, 52, 94, 95, 42, 43, 44, 22, 45, 25, 26, 27, 28, 29, 325, 96, 97, 394, 395, 396, 397, 398, 399, 400, 401, 402, 403, 404, 405, 406, 407, 408, 424, 425, 426, 427] (by decide +kernel) (by decide +kernel)
set_option maxRecDepth 20000 in
theorem gL_errors_X6_shownIn : GoodIn wsL_errors (wsV RL 39 RX6 yX6_shownIn wsX6_shownIn) := goodIn_app (goodIn_of _ (by decide +kernel)) ggL_errors_X6_shownIn
set_option maxRecDepth 20000 in
theorem ggL_errors_X6_keep : GoodIn wsL_errors wsX6_keep := goodIn_r _ [369, 370, 371, 372, 22, 7, 12, 373, 374, 5, 375, 376, 377, 378, 379, 380, 381, 205, 382, 383, 107, 147, 384, 29, 211, 66, 71, 385, 386, 387, 388, 114, 119, 389, 201, 202, 203, 204, 206, 24, 207, 208, 209, 210, 212, 213, 214, 215, 216, 217, 394, 395, 396, 397, 398, 399, 400, 401, 402, 403, 404, 405, 406, 407, 408, 409, 410, 411] (by decide +kernel) (by decide +kernel)
set_option maxRecDepth 20000 in
theorem gL_errors_X6_keep : GoodIn wsL_errors (wsV RL 116 RX6 yX6_keep wsX6_keep) := goodIn_app (goodIn_of _ (by decide +kernel)) ggL_errors_X6_keep
set_option maxRecDepth 20000 in
theorem ggL_errors_X6_restore : GoodIn wsL_errors wsX6_restore := goodIn_r _ [393, 370, 15, 7, 12, 373, 374, 5, 375, 184, 185, 186, 187, 188, 189, 190, 191, 192, 193, 194, 195, 196, 197, 198, 199, 200, 201, 202, 22, 203, 204, 205, 206, 24, 147, 29, 207, 208, 209, 210, 211, 66, 71, 212, 213, 214, 107, 215, 216, 114, 217, 119, 389, 394, 395, 396, 397, 398, 399, 400, 401, 402, 403, 404, 405, 406, 407, 408, 412, 413, 414, 409, 410, 411] (by decide +kernel) (by decide +kernel)
set_option maxRecDepth 20000 in
theorem gL_errors_X6_restore : GoodIn wsL_errors (wsV RL 119 RX6 yX6_restore wsX6_restore) := goodIn_app (goodIn_of _ (by decide +kernel)) ggL_errors_X6_restore
theorem dL_errors_0 : decode cL_errors 0 = .ok (.aload_n 0, 1) := by decide +kernel
theorem dL_errors_1 : decode cL_errors 1 = .ok (.iconst 0, 1) := by decide +kernel
theorem dL_errors_2 : decode cL_errors 2 = .ok (.invokevirtual 28, 3) := by decide +kernel
theorem dL_errors_5 : decode cL_errors 5 = .ok (.istore_n 1, 1) := by decide +kernel
theorem dL_errors_6 : decode cL_errors 6 = .ok (.aload_n 0, 1) := by decide +kernel
theorem dL_errors_7 : decode cL_errors 7 = .ok (.iconst 1, 1) := by decide +kernel
theorem dL_errors_8 : decode cL_errors 8 = .ok (.invokevirtual 28, 3) := by decide +kernel
theorem dL_errors_11 : decode cL_errors 11 = .ok (.istore_n 2, 1) := by decide +kernel
