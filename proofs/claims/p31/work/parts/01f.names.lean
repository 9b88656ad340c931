set_option maxRecDepth 20000 in
theorem ggX6_count_X4_partsNotUsed : GoodIn wsX6_count wsX4_partsNotUsed := goodIn_r _ [141, 142, 143, 144, 145, 146, 16, 147, 18, 19, 20, 21, 22, 23, 174, 175, 176, 177, 178, 179, 180, 181, 182, 183, 184, 185] (by decide +kernel) (by decide +kernel)
set_option maxRecDepth 20000 in
theorem gX6_count_X4_partsNotUsed : GoodIn wsX6_count (wsV RX6 243 RX4 yX4_partsNotUsed wsX4_partsNotUsed) := goodIn_app (goodIn_of _ (by decide +kernel)) ggX6_count_X4_partsNotUsed
set_option maxRecDepth 20000 in
theorem ggX6_count_X5_sumOfWholeWeights : GoodIn wsX6_count wsX5_sumOfWholeWeights := goodIn_r _ [151, 152, 153, 154, 27, 155, 29, 75, 35, 97, 77, 78, 79, 80, 81, 82, 83, 84, 85, 30, 86, 87, 46, 88, 89, 36, 37, 38, 16, 39, 19, 20, 21, 22, 23, 90, 91, 92, 98, 156, 157, 158, 102, 159, 160, 105, 106, 107, 108, 109, 110, 111, 112, 113, 114, 161, 162, 163, 164, 165, 166, 167, 198, 199, 200, 201, 174, 175, 176, 177, 178, 179, 180, 181, 182, 183, 184, 185] (by decide +kernel) (by decide +kernel)
set_option maxRecDepth 20000 in
theorem gX6_count_X5_sumOfWholeWeights : GoodIn wsX6_count (wsV RX6 246 RX5 yX5_sumOfWholeWeights wsX5_sumOfWholeWeights) := goodIn_app (goodIn_of _ (by decide +kernel)) ggX6_count_X5_sumOfWholeWeights
theorem dX6_count_0 : decode cX6_count 0 = .ok (.iload_n 1, 1) := by decide +kernel
theorem dX6_count_1 : decode cX6_count 1 = .ok (.tableswitch 186 0 13 #[71, 82, 90, 98, 106, 114, 122, 130, 138, 146, 154, 162, 170, 178], 71) := by decide +kernel
theorem dX6_count_72 : decode cX6_count 72 = .ok (.aload_n 0, 1) := by decide +kernel
theorem dX6_count_73 : decode cX6_count 73 = .ok (.getfield 10, 3) := by decide +kernel
theorem dX6_count_76 : decode cX6_count 76 = .ok (.getfield 50, 3) := by decide +kernel
theorem dX6_count_79 : decode cX6_count 79 = .ok (.getfield 54, 3) := by decide +kernel
theorem dX6_count_82 : decode cX6_count 82 = .ok (.ireturn, 1) := by decide +kernel
theorem dX6_count_83 : decode cX6_count 83 = .ok (.aload_n 0, 1) := by decide +kernel
theorem dX6_count_84 : decode cX6_count 84 = .ok (.getfield 10, 3) := by decide +kernel
theorem dX6_count_87 : decode cX6_count 87 = .ok (.getfield 128, 3) := by decide +kernel
theorem dX6_count_90 : decode cX6_count 90 = .ok (.ireturn, 1) := by decide +kernel
theorem dX6_count_91 : decode cX6_count 91 = .ok (.aload_n 0, 1) := by decide +kernel
theorem dX6_count_92 : decode cX6_count 92 = .ok (.getfield 10, 3) := by decide +kernel
theorem dX6_count_95 : decode cX6_count 95 = .ok (.invokevirtual 231, 3) := by decide +kernel
theorem dX6_count_98 : decode cX6_count 98 = .ok (.ireturn, 1) := by decide +kernel
theorem dX6_count_99 : decode cX6_count 99 = .ok (.aload_n 0, 1) := by decide +kernel
theorem dX6_count_100 : decode cX6_count 100 = .ok (.getfield 21, 3) := by decide +kernel
theorem dX6_count_103 : decode cX6_count 103 = .ok (.invokevirtual 234, 3) := by decide +kernel
theorem dX6_count_106 : decode cX6_count 106 = .ok (.ireturn, 1) := by decide +kernel
theorem dX6_count_107 : decode cX6_count 107 = .ok (.aload_n 0, 1) := by decide +kernel
theorem dX6_count_108 : decode cX6_count 108 = .ok (.getfield 21, 3) := by decide +kernel
theorem dX6_count_111 : decode cX6_count 111 = .ok (.invokevirtual 237, 3) := by decide +kernel
theorem dX6_count_114 : decode cX6_count 114 = .ok (.ireturn, 1) := by decide +kernel
theorem dX6_count_115 : decode cX6_count 115 = .ok (.aload_n 0, 1) := by decide +kernel
theorem dX6_count_116 : decode cX6_count 116 = .ok (.getfield 10, 3) := by decide +kernel
theorem dX6_count_119 : decode cX6_count 119 = .ok (.invokevirtual 153, 3) := by decide +kernel
theorem dX6_count_122 : decode cX6_count 122 = .ok (.ireturn, 1) := by decide +kernel
theorem dX6_count_123 : decode cX6_count 123 = .ok (.aload_n 0, 1) := by decide +kernel
theorem dX6_count_124 : decode cX6_count 124 = .ok (.getfield 21, 3) := by decide +kernel
theorem dX6_count_127 : decode cX6_count 127 = .ok (.invokevirtual 240, 3) := by decide +kernel
theorem dX6_count_130 : decode cX6_count 130 = .ok (.ireturn, 1) := by decide +kernel
theorem dX6_count_131 : decode cX6_count 131 = .ok (.aload_n 0, 1) := by decide +kernel
theorem dX6_count_132 : decode cX6_count 132 = .ok (.getfield 10, 3) := by decide +kernel
theorem dX6_count_135 : decode cX6_count 135 = .ok (.invokevirtual 243, 3) := by decide +kernel
theorem dX6_count_138 : decode cX6_count 138 = .ok (.ireturn, 1) := by decide +kernel
theorem dX6_count_139 : decode cX6_count 139 = .ok (.aload_n 0, 1) := by decide +kernel
theorem dX6_count_140 : decode cX6_count 140 = .ok (.getfield 10, 3) := by decide +kernel
theorem dX6_count_143 : decode cX6_count 143 = .ok (.getfield 163, 3) := by decide +kernel
theorem dX6_count_146 : decode cX6_count 146 = .ok (.ireturn, 1) := by decide +kernel
theorem dX6_count_147 : decode cX6_count 147 = .ok (.aload_n 0, 1) := by decide +kernel
theorem dX6_count_148 : decode cX6_count 148 = .ok (.getfield 10, 3) := by decide +kernel
theorem dX6_count_151 : decode cX6_count 151 = .ok (.getfield 156, 3) := by decide +kernel
theorem dX6_count_154 : decode cX6_count 154 = .ok (.ireturn, 1) := by decide +kernel
theorem dX6_count_155 : decode cX6_count 155 = .ok (.aload_n 0, 1) := by decide +kernel
theorem dX6_count_156 : decode cX6_count 156 = .ok (.getfield 10, 3) := by decide +kernel
theorem dX6_count_159 : decode cX6_count 159 = .ok (.getfield 159, 3) := by decide +kernel
theorem dX6_count_162 : decode cX6_count 162 = .ok (.ireturn, 1) := by decide +kernel
theorem dX6_count_163 : decode cX6_count 163 = .ok (.aload_n 0, 1) := by decide +kernel
theorem dX6_count_164 : decode cX6_count 164 = .ok (.getfield 21, 3) := by decide +kernel
theorem dX6_count_167 : decode cX6_count 167 = .ok (.invokevirtual 246, 3) := by decide +kernel
theorem dX6_count_170 : decode cX6_count 170 = .ok (.ireturn, 1) := by decide +kernel
theorem dX6_count_171 : decode cX6_count 171 = .ok (.aload_n 0, 1) := by decide +kernel
theorem dX6_count_172 : decode cX6_count 172 = .ok (.getfield 42, 3) := by decide +kernel
theorem dX6_count_175 : decode cX6_count 175 = .ok (.getfield 167, 3) := by decide +kernel
theorem dX6_count_178 : decode cX6_count 178 = .ok (.ireturn, 1) := by decide +kernel
theorem dX6_count_179 : decode cX6_count 179 = .ok (.aload_n 0, 1) := by decide +kernel
theorem dX6_count_180 : decode cX6_count 180 = .ok (.getfield 35, 3) := by decide +kernel
theorem dX6_count_183 : decode cX6_count 183 = .ok (.getfield 82, 3) := by decide +kernel
theorem dX6_count_186 : decode cX6_count 186 = .ok (.ireturn, 1) := by decide +kernel
theorem dX6_count_187 : decode cX6_count 187 = .ok (.bipush (-2), 2) := by decide +kernel
theorem dX6_count_189 : decode cX6_count 189 = .ok (.ireturn, 1) := by decide +kernel
theorem dX6_isNoPart_0 : decode cX6_isNoPart 0 = .ok (.iload_n 1, 1) := by decide +kernel
theorem dX6_isNoPart_1 : decode cX6_isNoPart 1 = .ok (.ifCond .lt 17, 3) := by decide +kernel
theorem dX6_isNoPart_4 : decode cX6_isNoPart 4 = .ok (.iload_n 1, 1) := by decide +kernel
theorem dX6_isNoPart_5 : decode cX6_isNoPart 5 = .ok (.aload_n 0, 1) := by decide +kernel
theorem dX6_isNoPart_6 : decode cX6_isNoPart 6 = .ok (.getfield 10, 3) := by decide +kernel
theorem dX6_isNoPart_9 : decode cX6_isNoPart 9 = .ok (.getfield 50, 3) := by decide +kernel
theorem dX6_isNoPart_12 : decode cX6_isNoPart 12 = .ok (.getfield 54, 3) := by decide +kernel
theorem dX6_isNoPart_15 : decode cX6_isNoPart 15 = .ok (.if_icmp .lt 7, 3) := by decide +kernel
theorem dX6_isNoPart_18 : decode cX6_isNoPart 18 = .ok (.iconst 1, 1) := by decide +kernel
theorem dX6_isNoPart_19 : decode cX6_isNoPart 19 = .ok (.goto 4, 3) := by decide +kernel
theorem dX6_isNoPart_22 : decode cX6_isNoPart 22 = .ok (.iconst 0, 1) := by decide +kernel
theorem dX6_isNoPart_23 : decode cX6_isNoPart 23 = .ok (.ireturn, 1) := by decide +kernel
theorem dX6_isNoSprite_0 : decode cX6_isNoSprite 0 = .ok (.iload_n 1, 1) := by decide +kernel
theorem dX6_isNoSprite_1 : decode cX6_isNoSprite 1 = .ok (.ifCond .lt 14, 3) := by decide +kernel
theorem dX6_isNoSprite_4 : decode cX6_isNoSprite 4 = .ok (.iload_n 1, 1) := by decide +kernel
theorem dX6_isNoSprite_5 : decode cX6_isNoSprite 5 = .ok (.aload_n 0, 1) := by decide +kernel
theorem dX6_isNoSprite_6 : decode cX6_isNoSprite 6 = .ok (.getfield 10, 3) := by decide +kernel
theorem dX6_isNoSprite_9 : decode cX6_isNoSprite 9 = .ok (.getfield 128, 3) := by decide +kernel
theorem dX6_isNoSprite_12 : decode cX6_isNoSprite 12 = .ok (.if_icmp .lt 7, 3) := by decide +kernel
theorem dX6_isNoSprite_15 : decode cX6_isNoSprite 15 = .ok (.iconst 1, 1) := by decide +kernel
theorem dX6_isNoSprite_16 : decode cX6_isNoSprite 16 = .ok (.goto 4, 3) := by decide +kernel
theorem dX6_isNoSprite_19 : decode cX6_isNoSprite 19 = .ok (.iconst 0, 1) := by decide +kernel
theorem dX6_isNoSprite_20 : decode cX6_isNoSprite 20 = .ok (.ireturn, 1) := by decide +kernel
theorem dX6_isNoLine_0 : decode cX6_isNoLine 0 = .ok (.iload_n 0, 1) := by decide +kernel
theorem dX6_isNoLine_1 : decode cX6_isNoLine 1 = .ok (.ifCond .lt 9, 3) := by decide +kernel
theorem dX6_isNoLine_4 : decode cX6_isNoLine 4 = .ok (.iload_n 0, 1) := by decide +kernel
theorem dX6_isNoLine_5 : decode cX6_isNoLine 5 = .ok (.bipush 32, 2) := by decide +kernel
theorem dX6_isNoLine_7 : decode cX6_isNoLine 7 = .ok (.if_icmp .lt 7, 3) := by decide +kernel
theorem dX6_isNoLine_10 : decode cX6_isNoLine 10 = .ok (.iconst 1, 1) := by decide +kernel
theorem dX6_isNoLine_11 : decode cX6_isNoLine 11 = .ok (.goto 4, 3) := by decide +kernel
theorem dX6_isNoLine_14 : decode cX6_isNoLine 14 = .ok (.iconst 0, 1) := by decide +kernel
theorem dX6_isNoLine_15 : decode cX6_isNoLine 15 = .ok (.ireturn, 1) := by decide +kernel
theorem dX6_isNoPalette_0 : decode cX6_isNoPalette 0 = .ok (.iload_n 0, 1) := by decide +kernel
theorem dX6_isNoPalette_1 : decode cX6_isNoPalette 1 = .ok (.ifCond .lt 8, 3) := by decide +kernel
theorem dX6_isNoPalette_4 : decode cX6_isNoPalette 4 = .ok (.iload_n 0, 1) := by decide +kernel
theorem dX6_isNoPalette_5 : decode cX6_isNoPalette 5 = .ok (.iconst 4, 1) := by decide +kernel
theorem dX6_isNoPalette_6 : decode cX6_isNoPalette 6 = .ok (.if_icmp .lt 7, 3) := by decide +kernel
theorem dX6_isNoPalette_9 : decode cX6_isNoPalette 9 = .ok (.iconst 1, 1) := by decide +kernel
theorem dX6_isNoPalette_10 : decode cX6_isNoPalette 10 = .ok (.goto 4, 3) := by decide +kernel
theorem dX6_isNoPalette_13 : decode cX6_isNoPalette 13 = .ok (.iconst 0, 1) := by decide +kernel
theorem dX6_isNoPalette_14 : decode cX6_isNoPalette 14 = .ok (.ireturn, 1) := by decide +kernel
theorem dX6_isNoPlaceInPart_0 : decode cX6_isNoPlaceInPart 0 = .ok (.iload_n 0, 1) := by decide +kernel
theorem dX6_isNoPlaceInPart_1 : decode cX6_isNoPlaceInPart 1 = .ok (.ifCond .lt 19, 3) := by decide +kernel
theorem dX6_isNoPlaceInPart_4 : decode cX6_isNoPlaceInPart 4 = .ok (.iload_n 0, 1) := by decide +kernel
theorem dX6_isNoPlaceInPart_5 : decode cX6_isNoPlaceInPart 5 = .ok (.bipush 8, 2) := by decide +kernel
theorem dX6_isNoPlaceInPart_7 : decode cX6_isNoPlaceInPart 7 = .ok (.if_icmp .ge 13, 3) := by decide +kernel
theorem dX6_isNoPlaceInPart_10 : decode cX6_isNoPlaceInPart 10 = .ok (.iload_n 1, 1) := by decide +kernel
theorem dX6_isNoPlaceInPart_11 : decode cX6_isNoPlaceInPart 11 = .ok (.ifCond .lt 9, 3) := by decide +kernel
theorem dX6_isNoPlaceInPart_14 : decode cX6_isNoPlaceInPart 14 = .ok (.iload_n 1, 1) := by decide +kernel
theorem dX6_isNoPlaceInPart_15 : decode cX6_isNoPlaceInPart 15 = .ok (.bipush 8, 2) := by decide +kernel
theorem dX6_isNoPlaceInPart_17 : decode cX6_isNoPlaceInPart 17 = .ok (.if_icmp .lt 7, 3) := by decide +kernel
theorem dX6_isNoPlaceInPart_20 : decode cX6_isNoPlaceInPart 20 = .ok (.iconst 1, 1) := by decide +kernel
theorem dX6_isNoPlaceInPart_21 : decode cX6_isNoPlaceInPart 21 = .ok (.goto 4, 3) := by decide +kernel
theorem dX6_isNoPlaceInPart_24 : decode cX6_isNoPlaceInPart 24 = .ok (.iconst 0, 1) := by decide +kernel
theorem dX6_isNoPlaceInPart_25 : decode cX6_isNoPlaceInPart 25 = .ok (.ireturn, 1) := by decide +kernel
theorem dX6_isNoPlaceOnScreen_0 : decode cX6_isNoPlaceOnScreen 0 = .ok (.iload_n 0, 1) := by decide +kernel
theorem dX6_isNoPlaceOnScreen_1 : decode cX6_isNoPlaceOnScreen 1 = .ok (.bipush (-8), 2) := by decide +kernel
theorem dX6_isNoPlaceOnScreen_3 : decode cX6_isNoPlaceOnScreen 3 = .ok (.if_icmp .le 21, 3) := by decide +kernel
theorem dX6_isNoPlaceOnScreen_6 : decode cX6_isNoPlaceOnScreen 6 = .ok (.iload_n 0, 1) := by decide +kernel
theorem dX6_isNoPlaceOnScreen_7 : decode cX6_isNoPlaceOnScreen 7 = .ok (.bipush 32, 2) := by decide +kernel
theorem dX6_isNoPlaceOnScreen_9 : decode cX6_isNoPlaceOnScreen 9 = .ok (.if_icmp .ge 15, 3) := by decide +kernel
theorem dX6_isNoPlaceOnScreen_12 : decode cX6_isNoPlaceOnScreen 12 = .ok (.iload_n 1, 1) := by decide +kernel
theorem dX6_isNoPlaceOnScreen_13 : decode cX6_isNoPlaceOnScreen 13 = .ok (.bipush (-8), 2) := by decide +kernel
theorem dX6_isNoPlaceOnScreen_15 : decode cX6_isNoPlaceOnScreen 15 = .ok (.if_icmp .le 9, 3) := by decide +kernel
theorem dX6_isNoPlaceOnScreen_18 : decode cX6_isNoPlaceOnScreen 18 = .ok (.iload_n 1, 1) := by decide +kernel
theorem dX6_isNoPlaceOnScreen_19 : decode cX6_isNoPlaceOnScreen 19 = .ok (.bipush 32, 2) := by decide +kernel
theorem dX6_isNoPlaceOnScreen_21 : decode cX6_isNoPlaceOnScreen 21 = .ok (.if_icmp .lt 7, 3) := by decide +kernel
theorem dX6_isNoPlaceOnScreen_24 : decode cX6_isNoPlaceOnScreen 24 = .ok (.iconst 1, 1) := by decide +kernel
theorem dX6_isNoPlaceOnScreen_25 : decode cX6_isNoPlaceOnScreen 25 = .ok (.goto 4, 3) := by decide +kernel
theorem dX6_isNoPlaceOnScreen_28 : decode cX6_isNoPlaceOnScreen 28 = .ok (.iconst 0, 1) := by decide +kernel
theorem dX6_isNoPlaceOnScreen_29 : decode cX6_isNoPlaceOnScreen 29 = .ok (.ireturn, 1) := by decide +kernel
theorem dX6_isNoSlot_0 : decode cX6_isNoSlot 0 = .ok (.iload_n 0, 1) := by decide +kernel
theorem dX6_isNoSlot_1 : decode cX6_isNoSlot 1 = .ok (.ifCond .lt 8, 3) := by decide +kernel
theorem dX6_isNoSlot_4 : decode cX6_isNoSlot 4 = .ok (.iload_n 0, 1) := by decide +kernel
theorem dX6_isNoSlot_5 : decode cX6_isNoSlot 5 = .ok (.iconst 2, 1) := by decide +kernel
theorem dX6_isNoSlot_6 : decode cX6_isNoSlot 6 = .ok (.if_icmp .lt 7, 3) := by decide +kernel
theorem dX6_isNoSlot_9 : decode cX6_isNoSlot 9 = .ok (.iconst 1, 1) := by decide +kernel
theorem dX6_isNoSlot_10 : decode cX6_isNoSlot 10 = .ok (.goto 4, 3) := by decide +kernel
theorem dX6_isNoSlot_13 : decode cX6_isNoSlot 13 = .ok (.iconst 0, 1) := by decide +kernel
theorem dX6_isNoSlot_14 : decode cX6_isNoSlot 14 = .ok (.ireturn, 1) := by decide +kernel
theorem dX6_valuesOf_0 : decode cX6_valuesOf 0 = .ok (.iload_n 1, 1) := by decide +kernel
theorem dX6_valuesOf_1 : decode cX6_valuesOf 1 = .ok (.tableswitch 48 0 3 #[31, 42, 44, 46], 31) := by decide +kernel
theorem dX6_valuesOf_32 : decode cX6_valuesOf 32 = .ok (.aload_n 0, 1) := by decide +kernel
theorem dX6_valuesOf_33 : decode cX6_valuesOf 33 = .ok (.getfield 10, 3) := by decide +kernel
theorem dX6_valuesOf_36 : decode cX6_valuesOf 36 = .ok (.getfield 50, 3) := by decide +kernel
theorem dX6_valuesOf_39 : decode cX6_valuesOf 39 = .ok (.getfield 54, 3) := by decide +kernel
theorem dX6_valuesOf_42 : decode cX6_valuesOf 42 = .ok (.ireturn, 1) := by decide +kernel
theorem dX6_valuesOf_43 : decode cX6_valuesOf 43 = .ok (.iconst 4, 1) := by decide +kernel
theorem dX6_valuesOf_44 : decode cX6_valuesOf 44 = .ok (.ireturn, 1) := by decide +kernel
theorem dX6_valuesOf_45 : decode cX6_valuesOf 45 = .ok (.iconst 4, 1) := by decide +kernel
theorem dX6_valuesOf_46 : decode cX6_valuesOf 46 = .ok (.ireturn, 1) := by decide +kernel
theorem dX6_valuesOf_47 : decode cX6_valuesOf 47 = .ok (.iconst 2, 1) := by decide +kernel
theorem dX6_valuesOf_48 : decode cX6_valuesOf 48 = .ok (.ireturn, 1) := by decide +kernel
theorem dX6_valuesOf_49 : decode cX6_valuesOf 49 = .ok (.iconst 0, 1) := by decide +kernel
theorem dX6_valuesOf_50 : decode cX6_valuesOf 50 = .ok (.ireturn, 1) := by decide +kernel
theorem dX6_contains_0 : decode cX6_contains 0 = .ok (.iload_n 0, 1) := by decide +kernel
theorem dX6_contains_1 : decode cX6_contains 1 = .ok (.iload_n 1, 1) := by decide +kernel
theorem dX6_contains_2 : decode cX6_contains 2 = .ok (.ishr, 1) := by decide +kernel
theorem dX6_contains_3 : decode cX6_contains 3 = .ok (.iconst 1, 1) := by decide +kernel
theorem dX6_contains_4 : decode cX6_contains 4 = .ok (.iand, 1) := by decide +kernel
theorem dX6_contains_5 : decode cX6_contains 5 = .ok (.ifCond .eq 7, 3) := by decide +kernel
theorem dX6_contains_8 : decode cX6_contains 8 = .ok (.iconst 1, 1) := by decide +kernel
theorem dX6_contains_9 : decode cX6_contains 9 = .ok (.goto 4, 3) := by decide +kernel
theorem dX6_contains_12 : decode cX6_contains 12 = .ok (.iconst 0, 1) := by decide +kernel
theorem dX6_contains_13 : decode cX6_contains 13 = .ok (.ireturn, 1) := by decide +kernel
theorem dJ6_bitCount_0f7a4_0 : decode cJ6_bitCount_0f7a4 0 = .ok (.iload_n 0, 1) := by decide +kernel
theorem dJ6_bitCount_0f7a4_1 : decode cJ6_bitCount_0f7a4 1 = .ok (.iload_n 0, 1) := by decide +kernel
theorem dJ6_bitCount_0f7a4_2 : decode cJ6_bitCount_0f7a4 2 = .ok (.iconst 1, 1) := by decide +kernel
theorem dJ6_bitCount_0f7a4_3 : decode cJ6_bitCount_0f7a4 3 = .ok (.iushr, 1) := by decide +kernel
theorem dJ6_bitCount_0f7a4_4 : decode cJ6_bitCount_0f7a4 4 = .ok (.ldc_w 265, 3) := by decide +kernel
theorem dJ6_bitCount_0f7a4_7 : decode cJ6_bitCount_0f7a4 7 = .ok (.iand, 1) := by decide +kernel
theorem dJ6_bitCount_0f7a4_8 : decode cJ6_bitCount_0f7a4 8 = .ok (.isub, 1) := by decide +kernel
theorem dJ6_bitCount_0f7a4_9 : decode cJ6_bitCount_0f7a4 9 = .ok (.istore_n 0, 1) := by decide +kernel
theorem dJ6_bitCount_0f7a4_10 : decode cJ6_bitCount_0f7a4 10 = .ok (.iload_n 0, 1) := by decide +kernel
theorem dJ6_bitCount_0f7a4_11 : decode cJ6_bitCount_0f7a4 11 = .ok (.ldc_w 266, 3) := by decide +kernel
theorem dJ6_bitCount_0f7a4_14 : decode cJ6_bitCount_0f7a4 14 = .ok (.iand, 1) := by decide +kernel
theorem dJ6_bitCount_0f7a4_15 : decode cJ6_bitCount_0f7a4 15 = .ok (.iload_n 0, 1) := by decide +kernel
theorem dJ6_bitCount_0f7a4_16 : decode cJ6_bitCount_0f7a4 16 = .ok (.iconst 2, 1) := by decide +kernel
theorem dJ6_bitCount_0f7a4_17 : decode cJ6_bitCount_0f7a4 17 = .ok (.iushr, 1) := by decide +kernel
theorem dJ6_bitCount_0f7a4_18 : decode cJ6_bitCount_0f7a4 18 = .ok (.ldc_w 266, 3) := by decide +kernel
theorem dJ6_bitCount_0f7a4_21 : decode cJ6_bitCount_0f7a4 21 = .ok (.iand, 1) := by decide +kernel
theorem dJ6_bitCount_0f7a4_22 : decode cJ6_bitCount_0f7a4 22 = .ok (.iadd, 1) := by decide +kernel
theorem dJ6_bitCount_0f7a4_23 : decode cJ6_bitCount_0f7a4 23 = .ok (.istore_n 0, 1) := by decide +kernel
theorem dJ6_bitCount_0f7a4_24 : decode cJ6_bitCount_0f7a4 24 = .ok (.iload_n 0, 1) := by decide +kernel
theorem dJ6_bitCount_0f7a4_25 : decode cJ6_bitCount_0f7a4 25 = .ok (.iload_n 0, 1) := by decide +kernel
theorem dJ6_bitCount_0f7a4_26 : decode cJ6_bitCount_0f7a4 26 = .ok (.iconst 4, 1) := by decide +kernel
theorem dJ6_bitCount_0f7a4_27 : decode cJ6_bitCount_0f7a4 27 = .ok (.iushr, 1) := by decide +kernel
theorem dJ6_bitCount_0f7a4_28 : decode cJ6_bitCount_0f7a4 28 = .ok (.iadd, 1) := by decide +kernel
theorem dJ6_bitCount_0f7a4_29 : decode cJ6_bitCount_0f7a4 29 = .ok (.ldc_w 267, 3) := by decide +kernel
theorem dJ6_bitCount_0f7a4_32 : decode cJ6_bitCount_0f7a4 32 = .ok (.iand, 1) := by decide +kernel
theorem dJ6_bitCount_0f7a4_33 : decode cJ6_bitCount_0f7a4 33 = .ok (.istore_n 0, 1) := by decide +kernel
theorem dJ6_bitCount_0f7a4_34 : decode cJ6_bitCount_0f7a4 34 = .ok (.iload_n 0, 1) := by decide +kernel
theorem dJ6_bitCount_0f7a4_35 : decode cJ6_bitCount_0f7a4 35 = .ok (.iload_n 0, 1) := by decide +kernel
theorem dJ6_bitCount_0f7a4_36 : decode cJ6_bitCount_0f7a4 36 = .ok (.bipush 8, 2) := by decide +kernel
theorem dJ6_bitCount_0f7a4_38 : decode cJ6_bitCount_0f7a4 38 = .ok (.iushr, 1) := by decide +kernel
theorem dJ6_bitCount_0f7a4_39 : decode cJ6_bitCount_0f7a4 39 = .ok (.iadd, 1) := by decide +kernel
theorem dJ6_bitCount_0f7a4_40 : decode cJ6_bitCount_0f7a4 40 = .ok (.istore_n 0, 1) := by decide +kernel
theorem dJ6_bitCount_0f7a4_41 : decode cJ6_bitCount_0f7a4 41 = .ok (.iload_n 0, 1) := by decide +kernel
theorem dJ6_bitCount_0f7a4_42 : decode cJ6_bitCount_0f7a4 42 = .ok (.iload_n 0, 1) := by decide +kernel
theorem dJ6_bitCount_0f7a4_43 : decode cJ6_bitCount_0f7a4 43 = .ok (.bipush 16, 2) := by decide +kernel
theorem dJ6_bitCount_0f7a4_45 : decode cJ6_bitCount_0f7a4 45 = .ok (.iushr, 1) := by decide +kernel
theorem dJ6_bitCount_0f7a4_46 : decode cJ6_bitCount_0f7a4 46 = .ok (.iadd, 1) := by decide +kernel
theorem dJ6_bitCount_0f7a4_47 : decode cJ6_bitCount_0f7a4 47 = .ok (.istore_n 0, 1) := by decide +kernel
theorem dJ6_bitCount_0f7a4_48 : decode cJ6_bitCount_0f7a4 48 = .ok (.iload_n 0, 1) := by decide +kernel
theorem dJ6_bitCount_0f7a4_49 : decode cJ6_bitCount_0f7a4 49 = .ok (.bipush 63, 2) := by decide +kernel
theorem dJ6_bitCount_0f7a4_51 : decode cJ6_bitCount_0f7a4 51 = .ok (.iand, 1) := by decide +kernel
theorem dJ6_bitCount_0f7a4_52 : decode cJ6_bitCount_0f7a4 52 = .ok (.ireturn, 1) := by decide +kernel
theorem dJ13_bitCount_95d88_0 : decode cJ13_bitCount_95d88 0 = .ok (.lload_n 0, 1) := by decide +kernel
theorem dJ13_bitCount_95d88_1 : decode cJ13_bitCount_95d88 1 = .ok (.lload_n 0, 1) := by decide +kernel
theorem dJ13_bitCount_95d88_2 : decode cJ13_bitCount_95d88 2 = .ok (.iconst 1, 1) := by decide +kernel
theorem dJ13_bitCount_95d88_3 : decode cJ13_bitCount_95d88 3 = .ok (.lushr, 1) := by decide +kernel
theorem dJ13_bitCount_95d88_4 : decode cJ13_bitCount_95d88 4 = .ok (.ldc2_w 314, 3) := by decide +kernel
theorem dJ13_bitCount_95d88_7 : decode cJ13_bitCount_95d88 7 = .ok (.land, 1) := by decide +kernel
theorem dJ13_bitCount_95d88_8 : decode cJ13_bitCount_95d88 8 = .ok (.lsub, 1) := by decide +kernel
theorem dJ13_bitCount_95d88_9 : decode cJ13_bitCount_95d88 9 = .ok (.lstore_n 0, 1) := by decide +kernel
theorem dJ13_bitCount_95d88_10 : decode cJ13_bitCount_95d88 10 = .ok (.lload_n 0, 1) := by decide +kernel
theorem dJ13_bitCount_95d88_11 : decode cJ13_bitCount_95d88 11 = .ok (.ldc2_w 316, 3) := by decide +kernel
theorem dJ13_bitCount_95d88_14 : decode cJ13_bitCount_95d88 14 = .ok (.land, 1) := by decide +kernel
theorem dJ13_bitCount_95d88_15 : decode cJ13_bitCount_95d88 15 = .ok (.lload_n 0, 1) := by decide +kernel
theorem dJ13_bitCount_95d88_16 : decode cJ13_bitCount_95d88 16 = .ok (.iconst 2, 1) := by decide +kernel
theorem dJ13_bitCount_95d88_17 : decode cJ13_bitCount_95d88 17 = .ok (.lushr, 1) := by decide +kernel
theorem dJ13_bitCount_95d88_18 : decode cJ13_bitCount_95d88 18 = .ok (.ldc2_w 316, 3) := by decide +kernel
theorem dJ13_bitCount_95d88_21 : decode cJ13_bitCount_95d88 21 = .ok (.land, 1) := by decide +kernel
theorem dJ13_bitCount_95d88_22 : decode cJ13_bitCount_95d88 22 = .ok (.ladd, 1) := by decide +kernel
theorem dJ13_bitCount_95d88_23 : decode cJ13_bitCount_95d88 23 = .ok (.lstore_n 0, 1) := by decide +kernel
theorem dJ13_bitCount_95d88_24 : decode cJ13_bitCount_95d88 24 = .ok (.lload_n 0, 1) := by decide +kernel
theorem dJ13_bitCount_95d88_25 : decode cJ13_bitCount_95d88 25 = .ok (.lload_n 0, 1) := by decide +kernel
theorem dJ13_bitCount_95d88_26 : decode cJ13_bitCount_95d88 26 = .ok (.iconst 4, 1) := by decide +kernel
theorem dJ13_bitCount_95d88_27 : decode cJ13_bitCount_95d88 27 = .ok (.lushr, 1) := by decide +kernel
theorem dJ13_bitCount_95d88_28 : decode cJ13_bitCount_95d88 28 = .ok (.ladd, 1) := by decide +kernel
theorem dJ13_bitCount_95d88_29 : decode cJ13_bitCount_95d88 29 = .ok (.ldc2_w 318, 3) := by decide +kernel
theorem dJ13_bitCount_95d88_32 : decode cJ13_bitCount_95d88 32 = .ok (.land, 1) := by decide +kernel
theorem dJ13_bitCount_95d88_33 : decode cJ13_bitCount_95d88 33 = .ok (.lstore_n 0, 1) := by decide +kernel
theorem dJ13_bitCount_95d88_34 : decode cJ13_bitCount_95d88 34 = .ok (.lload_n 0, 1) := by decide +kernel
theorem dJ13_bitCount_95d88_35 : decode cJ13_bitCount_95d88 35 = .ok (.lload_n 0, 1) := by decide +kernel
theorem dJ13_bitCount_95d88_36 : decode cJ13_bitCount_95d88 36 = .ok (.bipush 8, 2) := by decide +kernel
theorem dJ13_bitCount_95d88_38 : decode cJ13_bitCount_95d88 38 = .ok (.lushr, 1) := by decide +kernel
theorem dJ13_bitCount_95d88_39 : decode cJ13_bitCount_95d88 39 = .ok (.ladd, 1) := by decide +kernel
theorem dJ13_bitCount_95d88_40 : decode cJ13_bitCount_95d88 40 = .ok (.lstore_n 0, 1) := by decide +kernel
theorem dJ13_bitCount_95d88_41 : decode cJ13_bitCount_95d88 41 = .ok (.lload_n 0, 1) := by decide +kernel
theorem dJ13_bitCount_95d88_42 : decode cJ13_bitCount_95d88 42 = .ok (.lload_n 0, 1) := by decide +kernel
theorem dJ13_bitCount_95d88_43 : decode cJ13_bitCount_95d88 43 = .ok (.bipush 16, 2) := by decide +kernel
theorem dJ13_bitCount_95d88_45 : decode cJ13_bitCount_95d88 45 = .ok (.lushr, 1) := by decide +kernel
theorem dJ13_bitCount_95d88_46 : decode cJ13_bitCount_95d88 46 = .ok (.ladd, 1) := by decide +kernel
theorem dJ13_bitCount_95d88_47 : decode cJ13_bitCount_95d88 47 = .ok (.lstore_n 0, 1) := by decide +kernel
theorem dJ13_bitCount_95d88_48 : decode cJ13_bitCount_95d88 48 = .ok (.lload_n 0, 1) := by decide +kernel
theorem dJ13_bitCount_95d88_49 : decode cJ13_bitCount_95d88 49 = .ok (.lload_n 0, 1) := by decide +kernel
theorem dJ13_bitCount_95d88_50 : decode cJ13_bitCount_95d88 50 = .ok (.bipush 32, 2) := by decide +kernel
theorem dJ13_bitCount_95d88_52 : decode cJ13_bitCount_95d88 52 = .ok (.lushr, 1) := by decide +kernel
theorem dJ13_bitCount_95d88_53 : decode cJ13_bitCount_95d88 53 = .ok (.ladd, 1) := by decide +kernel
theorem dJ13_bitCount_95d88_54 : decode cJ13_bitCount_95d88 54 = .ok (.lstore_n 0, 1) := by decide +kernel
theorem dJ13_bitCount_95d88_55 : decode cJ13_bitCount_95d88 55 = .ok (.lload_n 0, 1) := by decide +kernel
theorem dJ13_bitCount_95d88_56 : decode cJ13_bitCount_95d88 56 = .ok (.l2i, 1) := by decide +kernel
theorem dJ13_bitCount_95d88_57 : decode cJ13_bitCount_95d88 57 = .ok (.bipush 127, 2) := by decide +kernel
theorem dJ13_bitCount_95d88_59 : decode cJ13_bitCount_95d88 59 = .ok (.iand, 1) := by decide +kernel
theorem dJ13_bitCount_95d88_60 : decode cJ13_bitCount_95d88 60 = .ok (.ireturn, 1) := by decide +kernel
theorem dJ9_floorMod_7cf53_0 : decode cJ9_floorMod_7cf53 0 = .ok (.iload_n 0, 1) := by decide +kernel
theorem dJ9_floorMod_7cf53_1 : decode cJ9_floorMod_7cf53 1 = .ok (.iload_n 1, 1) := by decide +kernel
theorem dJ9_floorMod_7cf53_2 : decode cJ9_floorMod_7cf53 2 = .ok (.irem, 1) := by decide +kernel
theorem dJ9_floorMod_7cf53_3 : decode cJ9_floorMod_7cf53 3 = .ok (.istore_n 2, 1) := by decide +kernel
theorem dJ9_floorMod_7cf53_4 : decode cJ9_floorMod_7cf53 4 = .ok (.iload_n 0, 1) := by decide +kernel
theorem dJ9_floorMod_7cf53_5 : decode cJ9_floorMod_7cf53 5 = .ok (.iload_n 1, 1) := by decide +kernel
theorem dJ9_floorMod_7cf53_6 : decode cJ9_floorMod_7cf53 6 = .ok (.ixor, 1) := by decide +kernel
theorem dJ9_floorMod_7cf53_7 : decode cJ9_floorMod_7cf53 7 = .ok (.ifCond .ge 11, 3) := by decide +kernel
theorem dJ9_floorMod_7cf53_10 : decode cJ9_floorMod_7cf53 10 = .ok (.iload_n 2, 1) := by decide +kernel
theorem dJ9_floorMod_7cf53_11 : decode cJ9_floorMod_7cf53 11 = .ok (.ifCond .eq 7, 3) := by decide +kernel
theorem dJ9_floorMod_7cf53_14 : decode cJ9_floorMod_7cf53 14 = .ok (.iload_n 2, 1) := by decide +kernel
theorem dJ9_floorMod_7cf53_15 : decode cJ9_floorMod_7cf53 15 = .ok (.iload_n 1, 1) := by decide +kernel
theorem dJ9_floorMod_7cf53_16 : decode cJ9_floorMod_7cf53 16 = .ok (.iadd, 1) := by decide +kernel
theorem dJ9_floorMod_7cf53_17 : decode cJ9_floorMod_7cf53 17 = .ok (.ireturn, 1) := by decide +kernel
theorem dJ9_floorMod_7cf53_18 : decode cJ9_floorMod_7cf53 18 = .ok (.iload_n 2, 1) := by decide +kernel
theorem dJ9_floorMod_7cf53_19 : decode cJ9_floorMod_7cf53 19 = .ok (.ireturn, 1) := by decide +kernel
theorem dJ9_max_7cf53_0 : decode cJ9_max_7cf53 0 = .ok (.iload_n 0, 1) := by decide +kernel
theorem dJ9_max_7cf53_1 : decode cJ9_max_7cf53 1 = .ok (.iload_n 1, 1) := by decide +kernel
theorem dJ9_max_7cf53_2 : decode cJ9_max_7cf53 2 = .ok (.if_icmp .lt 7, 3) := by decide +kernel
theorem dJ9_max_7cf53_5 : decode cJ9_max_7cf53 5 = .ok (.iload_n 0, 1) := by decide +kernel
theorem dJ9_max_7cf53_6 : decode cJ9_max_7cf53 6 = .ok (.goto 4, 3) := by decide +kernel
theorem dJ9_max_7cf53_9 : decode cJ9_max_7cf53 9 = .ok (.iload_n 1, 1) := by decide +kernel
theorem dJ9_max_7cf53_10 : decode cJ9_max_7cf53 10 = .ok (.ireturn, 1) := by decide +kernel
theorem dJ9_min_7cf53_0 : decode cJ9_min_7cf53 0 = .ok (.iload_n 0, 1) := by decide +kernel
theorem dJ9_min_7cf53_1 : decode cJ9_min_7cf53 1 = .ok (.iload_n 1, 1) := by decide +kernel
theorem dJ9_min_7cf53_2 : decode cJ9_min_7cf53 2 = .ok (.if_icmp .gt 7, 3) := by decide +kernel
theorem dJ9_min_7cf53_5 : decode cJ9_min_7cf53 5 = .ok (.iload_n 0, 1) := by decide +kernel
theorem dJ9_min_7cf53_6 : decode cJ9_min_7cf53 6 = .ok (.goto 4, 3) := by decide +kernel
theorem dJ9_min_7cf53_9 : decode cJ9_min_7cf53 9 = .ok (.iload_n 1, 1) := by decide +kernel
theorem dJ9_min_7cf53_10 : decode cJ9_min_7cf53 10 = .ok (.ireturn, 1) := by decide +kernel
theorem dL_cell_0 : decode cL_cell 0 = .ok (.iload_n 1, 1) := by decide +kernel
theorem dL_cell_1 : decode cL_cell 1 = .ok (.aload_n 0, 1) := by decide +kernel
theorem dL_cell_2 : decode cL_cell 2 = .ok (.arraylength, 1) := by decide +kernel
theorem dL_cell_3 : decode cL_cell 3 = .ok (.if_icmp .ge 9, 3) := by decide +kernel
theorem dL_cell_6 : decode cL_cell 6 = .ok (.aload_n 0, 1) := by decide +kernel
theorem dL_cell_7 : decode cL_cell 7 = .ok (.iload_n 1, 1) := by decide +kernel
theorem dL_cell_8 : decode cL_cell 8 = .ok (.iaload, 1) := by decide +kernel
theorem dL_cell_9 : decode cL_cell 9 = .ok (.goto 11, 3) := by decide +kernel
theorem dL_cell_12 : decode cL_cell 12 = .ok (.ldc 7, 2) := by decide +kernel
theorem dL_cell_14 : decode cL_cell 14 = .ok (.iload_n 1, 1) := by decide +kernel
theorem dL_cell_15 : decode cL_cell 15 = .ok (.imul, 1) := by decide +kernel
theorem dL_cell_16 : decode cL_cell 16 = .ok (.sipush 8803, 3) := by decide +kernel
theorem dL_cell_19 : decode cL_cell 19 = .ok (.iadd, 1) := by decide +kernel
theorem dL_cell_20 : decode cL_cell 20 = .ok (.ireturn, 1) := by decide +kernel
theorem dL_low_0 : decode cL_low 0 = .ok (.iload_n 0, 1) := by decide +kernel
theorem dL_low_1 : decode cL_low 1 = .ok (.ldc 8, 2) := by decide +kernel
theorem dL_low_3 : decode cL_low 3 = .ok (.iand, 1) := by decide +kernel
theorem dL_low_4 : decode cL_low 4 = .ok (.iload_n 1, 1) := by decide +kernel
theorem dL_low_5 : decode cL_low 5 = .ok (.irem, 1) := by decide +kernel
theorem dL_low_6 : decode cL_low 6 = .ok (.ireturn, 1) := by decide +kernel
set_option maxRecDepth 20000 in
theorem ggL_flipped_X6_pixel : GoodIn wsL_flipped wsX6_pixel := goodIn_r _ [5, 6, 7, 8, 9, 10, 4, 11, 12, 13, 14, 15, 16, 17, 18, 19, 20, 21, 22, 23, 24, 25, 26, 27, 28, 29, 30, 31, 32, 33, 34, 35, 36, 37, 38, 39, 40, 41, 42, 43, 44, 45, 46, 47, 48] (by decide +kernel) (by decide +kernel)
set_option maxRecDepth 20000 in
theorem gL_flipped_X6_pixel : GoodIn wsL_flipped (wsV RL 9 RX6 yX6_pixel wsX6_pixel) := goodIn_app (goodIn_of _ (by decide +kernel)) ggL_flipped_X6_pixel
theorem dL_flipped_0 : decode cL_flipped 0 = .ok (.aload_n 0, 1) := by decide +kernel
theorem dL_flipped_1 : decode cL_flipped 1 = .ok (.iload_n 1, 1) := by decide +kernel
theorem dL_flipped_2 : decode cL_flipped 2 = .ok (.iload_n 2, 1) := by decide +kernel
theorem dL_flipped_3 : decode cL_flipped 3 = .ok (.iconst 2, 1) := by decide +kernel
theorem dL_flipped_4 : decode cL_flipped 4 = .ok (.iand, 1) := by decide +kernel
theorem dL_flipped_5 : decode cL_flipped 5 = .ok (.iconst 2, 1) := by decide +kernel
theorem dL_flipped_6 : decode cL_flipped 6 = .ok (.if_icmp .ne 10, 3) := by decide +kernel
theorem dL_flipped_9 : decode cL_flipped 9 = .ok (.bipush 7, 2) := by decide +kernel
theorem dL_flipped_11 : decode cL_flipped 11 = .ok (.iload_n 3, 1) := by decide +kernel
theorem dL_flipped_12 : decode cL_flipped 12 = .ok (.isub, 1) := by decide +kernel
theorem dL_flipped_13 : decode cL_flipped 13 = .ok (.goto 4, 3) := by decide +kernel
theorem dL_flipped_16 : decode cL_flipped 16 = .ok (.iload_n 3, 1) := by decide +kernel
theorem dL_flipped_17 : decode cL_flipped 17 = .ok (.iload_n 2, 1) := by decide +kernel
theorem dL_flipped_18 : decode cL_flipped 18 = .ok (.iconst 1, 1) := by decide +kernel
theorem dL_flipped_19 : decode cL_flipped 19 = .ok (.iand, 1) := by decide +kernel
theorem dL_flipped_20 : decode cL_flipped 20 = .ok (.iconst 1, 1) := by decide +kernel
theorem dL_flipped_21 : decode cL_flipped 21 = .ok (.if_icmp .ne 11, 3) := by decide +kernel
theorem dL_flipped_24 : decode cL_flipped 24 = .ok (.bipush 7, 2) := by decide +kernel
theorem dL_flipped_26 : decode cL_flipped 26 = .ok (.iload 4, 2) := by decide +kernel
theorem dL_flipped_28 : decode cL_flipped 28 = .ok (.isub, 1) := by decide +kernel
theorem dL_flipped_29 : decode cL_flipped 29 = .ok (.goto 5, 3) := by decide +kernel
theorem dL_flipped_32 : decode cL_flipped 32 = .ok (.iload 4, 2) := by decide +kernel
theorem dL_flipped_34 : decode cL_flipped 34 = .ok (.invokevirtual 9, 3) := by decide +kernel
theorem dL_flipped_37 : decode cL_flipped 37 = .ok (.ireturn, 1) := by decide +kernel
set_option maxRecDepth 20000 in
theorem ggL_alike_X6_alike : GoodIn wsL_alike wsX6_alike := goodIn_r _ [5, 6, 7, 8, 9, 10, 4, 11, 12, 13, 14, 15, 16, 17, 18, 19, 20, 21, 22, 23, 24, 25, 26, 27, 28, 29, 30, 31, 32, 33, 34, 35, 36, 37, 38, 39, 55, 56, 57, 58, 59, 60, 61, 62, 63, 64, 65, 66, 67, 68, 69, 70, 71, 72] (by decide +kernel) (by decide +kernel)
set_option maxRecDepth 20000 in
theorem gL_alike_X6_alike : GoodIn wsL_alike (wsV RL 15 RX6 yX6_alike wsX6_alike) := goodIn_app (goodIn_of _ (by decide +kernel)) ggL_alike_X6_alike
set_option maxRecDepth 20000 in
theorem ggL_alike_L_flipped : GoodIn wsL_alike wsL_flipped := goodIn_r _ [43, 44, 45, 46, 4, 47, 6, 7, 8, 9, 10, 11, 12, 48, 49, 50, 51, 52, 53, 16, 54, 18, 19, 20, 21, 22, 35, 36, 37, 38, 39, 55, 56, 57, 58, 59, 60, 61, 62, 63, 64, 65, 66, 67, 68, 69, 70, 71, 72] (by decide +kernel) (by decide +kernel)
set_option maxRecDepth 20000 in
theorem gL_alike_L_flipped : GoodIn wsL_alike (va_wsS RL 19 yL_flipped wsL_flipped) := goodIn_app (goodIn_of _ (by decide +kernel)) ggL_alike_L_flipped
set_option maxRecDepth 20000 in
theorem ggL_alike_X6_pixel : GoodIn wsL_alike wsX6_pixel := goodIn_r _ [47, 6, 7, 8, 9, 10, 4, 11, 12, 48, 49, 50, 51, 52, 53, 16, 54, 18, 19, 20, 21, 22, 35, 36, 37, 38, 39, 55, 56, 57, 58, 59, 60, 61, 62, 63, 64, 65, 66, 67, 68, 69, 70, 71, 72] (by decide +kernel) (by decide +kernel)
set_option maxRecDepth 20000 in
theorem gL_alike_X6_pixel : GoodIn wsL_alike (wsV RL 9 RX6 yX6_pixel wsX6_pixel) := goodIn_app (goodIn_of _ (by decide +kernel)) ggL_alike_X6_pixel
theorem dL_alike_0 : decode cL_alike 0 = .ok (.aload_n 0, 1) := by decide +kernel
theorem dL_alike_1 : decode cL_alike 1 = .ok (.iload_n 1, 1) := by decide +kernel
theorem dL_alike_2 : decode cL_alike 2 = .ok (.iload_n 2, 1) := by decide +kernel
theorem dL_alike_3 : decode cL_alike 3 = .ok (.invokevirtual 15, 3) := by decide +kernel
theorem dL_alike_6 : decode cL_alike 6 = .ok (.istore_n 3, 1) := by decide +kernel
theorem dL_alike_7 : decode cL_alike 7 = .ok (.iconst 0, 1) := by decide +kernel
theorem dL_alike_8 : decode cL_alike 8 = .ok (.istore 4, 2) := by decide +kernel
theorem dL_alike_10 : decode cL_alike 10 = .ok (.iload 4, 2) := by decide +kernel
theorem dL_alike_12 : decode cL_alike 12 = .ok (.iconst 4, 1) := by decide +kernel
theorem dL_alike_13 : decode cL_alike 13 = .ok (.if_icmp .ge 103, 3) := by decide +kernel
theorem dL_alike_16 : decode cL_alike 16 = .ok (.iconst 1, 1) := by decide +kernel
theorem dL_alike_17 : decode cL_alike 17 = .ok (.istore 5, 2) := by decide +kernel
theorem dL_alike_19 : decode cL_alike 19 = .ok (.iconst 0, 1) := by decide +kernel
theorem dL_alike_20 : decode cL_alike 20 = .ok (.istore 6, 2) := by decide +kernel
theorem dL_alike_22 : decode cL_alike 22 = .ok (.iload 6, 2) := by decide +kernel
theorem dL_alike_24 : decode cL_alike 24 = .ok (.bipush 64, 2) := by decide +kernel
theorem dL_alike_26 : decode cL_alike 26 = .ok (.if_icmp .ge 56, 3) := by decide +kernel
theorem dL_alike_29 : decode cL_alike 29 = .ok (.iload 5, 2) := by decide +kernel
theorem dL_alike_31 : decode cL_alike 31 = .ok (.ifCond .eq 42, 3) := by decide +kernel
theorem dL_alike_34 : decode cL_alike 34 = .ok (.aload_n 0, 1) := by decide +kernel
theorem dL_alike_35 : decode cL_alike 35 = .ok (.iload_n 2, 1) := by decide +kernel
theorem dL_alike_36 : decode cL_alike 36 = .ok (.iload 4, 2) := by decide +kernel
theorem dL_alike_38 : decode cL_alike 38 = .ok (.iload 6, 2) := by decide +kernel
theorem dL_alike_40 : decode cL_alike 40 = .ok (.bipush 8, 2) := by decide +kernel
theorem dL_alike_42 : decode cL_alike 42 = .ok (.idiv, 1) := by decide +kernel
theorem dL_alike_43 : decode cL_alike 43 = .ok (.iload 6, 2) := by decide +kernel
theorem dL_alike_45 : decode cL_alike 45 = .ok (.bipush 8, 2) := by decide +kernel
theorem dL_alike_47 : decode cL_alike 47 = .ok (.irem, 1) := by decide +kernel
theorem dL_alike_48 : decode cL_alike 48 = .ok (.invokestatic 19, 3) := by decide +kernel
theorem dL_alike_51 : decode cL_alike 51 = .ok (.aload_n 0, 1) := by decide +kernel
theorem dL_alike_52 : decode cL_alike 52 = .ok (.iload_n 1, 1) := by decide +kernel
theorem dL_alike_53 : decode cL_alike 53 = .ok (.iload 6, 2) := by decide +kernel
theorem dL_alike_55 : decode cL_alike 55 = .ok (.bipush 8, 2) := by decide +kernel
theorem dL_alike_57 : decode cL_alike 57 = .ok (.idiv, 1) := by decide +kernel
theorem dL_alike_58 : decode cL_alike 58 = .ok (.iload 6, 2) := by decide +kernel
theorem dL_alike_60 : decode cL_alike 60 = .ok (.bipush 8, 2) := by decide +kernel
theorem dL_alike_62 : decode cL_alike 62 = .ok (.irem, 1) := by decide +kernel
theorem dL_alike_63 : decode cL_alike 63 = .ok (.invokevirtual 9, 3) := by decide +kernel
theorem dL_alike_66 : decode cL_alike 66 = .ok (.if_icmp .ne 7, 3) := by decide +kernel
theorem dL_alike_69 : decode cL_alike 69 = .ok (.iconst 1, 1) := by decide +kernel
theorem dL_alike_70 : decode cL_alike 70 = .ok (.goto 4, 3) := by decide +kernel
theorem dL_alike_73 : decode cL_alike 73 = .ok (.iconst 0, 1) := by decide +kernel
theorem dL_alike_74 : decode cL_alike 74 = .ok (.istore 5, 2) := by decide +kernel
theorem dL_alike_76 : decode cL_alike 76 = .ok (.iinc 6 1, 3) := by decide +kernel
theorem dL_alike_79 : decode cL_alike 79 = .ok (.goto (-57), 3) := by decide +kernel
theorem dL_alike_82 : decode cL_alike 82 = .ok (.iload 5, 2) := by decide +kernel
theorem dL_alike_84 : decode cL_alike 84 = .ok (.ifCond .eq 26, 3) := by decide +kernel
theorem dL_alike_87 : decode cL_alike 87 = .ok (.iload_n 3, 1) := by decide +kernel
theorem dL_alike_88 : decode cL_alike 88 = .ok (.iload 4, 2) := by decide +kernel
theorem dL_alike_90 : decode cL_alike 90 = .ok (.if_icmp .ne 18, 3) := by decide +kernel
theorem dL_alike_93 : decode cL_alike 93 = .ok (.aload_n 0, 1) := by decide +kernel
theorem dL_alike_94 : decode cL_alike 94 = .ok (.iload_n 2, 1) := by decide +kernel
theorem dL_alike_95 : decode cL_alike 95 = .ok (.iload_n 1, 1) := by decide +kernel
theorem dL_alike_96 : decode cL_alike 96 = .ok (.invokevirtual 15, 3) := by decide +kernel
theorem dL_alike_99 : decode cL_alike 99 = .ok (.iload 4, 2) := by decide +kernel
theorem dL_alike_101 : decode cL_alike 101 = .ok (.if_icmp .ne 7, 3) := by decide +kernel
theorem dL_alike_104 : decode cL_alike 104 = .ok (.iconst 1, 1) := by decide +kernel
theorem dL_alike_105 : decode cL_alike 105 = .ok (.goto 4, 3) := by decide +kernel
theorem dL_alike_108 : decode cL_alike 108 = .ok (.iconst 0, 1) := by decide +kernel
theorem dL_alike_109 : decode cL_alike 109 = .ok (.ireturn, 1) := by decide +kernel
theorem dL_alike_110 : decode cL_alike 110 = .ok (.iinc 4 1, 3) := by decide +kernel
theorem dL_alike_113 : decode cL_alike 113 = .ok (.goto (-103), 3) := by decide +kernel
theorem dL_alike_116 : decode cL_alike 116 = .ok (.iload_n 3, 1) := by decide +kernel
theorem dL_alike_117 : decode cL_alike 117 = .ok (.bipush (-5), 2) := by decide +kernel
theorem dL_alike_119 : decode cL_alike 119 = .ok (.if_icmp .ne 18, 3) := by decide +kernel
theorem dL_alike_122 : decode cL_alike 122 = .ok (.aload_n 0, 1) := by decide +kernel
theorem dL_alike_123 : decode cL_alike 123 = .ok (.iload_n 2, 1) := by decide +kernel
theorem dL_alike_124 : decode cL_alike 124 = .ok (.iload_n 1, 1) := by decide +kernel
theorem dL_alike_125 : decode cL_alike 125 = .ok (.invokevirtual 15, 3) := by decide +kernel
theorem dL_alike_128 : decode cL_alike 128 = .ok (.bipush (-5), 2) := by decide +kernel
theorem dL_alike_130 : decode cL_alike 130 = .ok (.if_icmp .ne 7, 3) := by decide +kernel
theorem dL_alike_133 : decode cL_alike 133 = .ok (.iconst 1, 1) := by decide +kernel
theorem dL_alike_134 : decode cL_alike 134 = .ok (.goto 4, 3) := by decide +kernel
theorem dL_alike_137 : decode cL_alike 137 = .ok (.iconst 0, 1) := by decide +kernel
theorem dL_alike_138 : decode cL_alike 138 = .ok (.ireturn, 1) := by decide +kernel
set_option maxRecDepth 20000 in
theorem ggL_covers_X6_sprite : GoodIn wsL_covers wsX6_sprite := goodIn_r _ [5, 6, 7, 8, 9, 10, 4, 11, 12, 13, 14, 15, 16, 17, 18, 19, 20, 21, 22, 23, 24, 25, 26, 27, 28, 29, 30, 31, 32, 33, 34, 35, 36, 37, 38, 39, 40, 41, 42, 43, 44, 45, 46, 47, 48, 49, 50, 51, 52, 53, 54, 55, 56, 57, 58, 59, 60, 61, 62, 63, 64, 65, 66, 67, 68, 69, 70, 71, 72, 73, 74, 75, 76, 77, 78, 79, 80, 81, 82, 83, 84, 85, 86, 87, 88, 89, 90, 91, 92, 93, 94, 95, 96, 97, 98, 99, 100, 101, 102, 103, 104, 105, 106, 107, 108, 109, 110, 111, 112, 113, 114, 115, 116, 117, 118, 119, 120, 121, 122, 123, 124, 125, 126, 127, 128, 129, 130, 131, 132, 133] (by decide +kernel) (by decide +kernel)
set_option maxRecDepth 20000 in
theorem gL_covers_X6_sprite : GoodIn wsL_covers (wsV RL 25 RX6 yX6_sprite wsX6_sprite) := goodIn_app (goodIn_of _ (by decide +kernel)) ggL_covers_X6_sprite
theorem dL_covers_0 : decode cL_covers 0 = .ok (.aload_n 0, 1) := by decide +kernel
theorem dL_covers_1 : decode cL_covers 1 = .ok (.iload_n 1, 1) := by decide +kernel
theorem dL_covers_2 : decode cL_covers 2 = .ok (.iconst 3, 1) := by decide +kernel
theorem dL_covers_3 : decode cL_covers 3 = .ok (.invokevirtual 25, 3) := by decide +kernel
theorem dL_covers_6 : decode cL_covers 6 = .ok (.iconst 1, 1) := by decide +kernel
theorem dL_covers_7 : decode cL_covers 7 = .ok (.if_icmp .ne 30, 3) := by decide +kernel
theorem dL_covers_10 : decode cL_covers 10 = .ok (.iload_n 2, 1) := by decide +kernel
theorem dL_covers_11 : decode cL_covers 11 = .ok (.aload_n 0, 1) := by decide +kernel
theorem dL_covers_12 : decode cL_covers 12 = .ok (.iload_n 1, 1) := by decide +kernel
theorem dL_covers_13 : decode cL_covers 13 = .ok (.iconst 5, 1) := by decide +kernel
theorem dL_covers_14 : decode cL_covers 14 = .ok (.invokevirtual 25, 3) := by decide +kernel
theorem dL_covers_17 : decode cL_covers 17 = .ok (.if_icmp .lt 20, 3) := by decide +kernel
theorem dL_covers_20 : decode cL_covers 20 = .ok (.iload_n 2, 1) := by decide +kernel
theorem dL_covers_21 : decode cL_covers 21 = .ok (.aload_n 0, 1) := by decide +kernel
theorem dL_covers_22 : decode cL_covers 22 = .ok (.iload_n 1, 1) := by decide +kernel
theorem dL_covers_23 : decode cL_covers 23 = .ok (.iconst 5, 1) := by decide +kernel
theorem dL_covers_24 : decode cL_covers 24 = .ok (.invokevirtual 25, 3) := by decide +kernel
theorem dL_covers_27 : decode cL_covers 27 = .ok (.bipush 8, 2) := by decide +kernel
theorem dL_covers_29 : decode cL_covers 29 = .ok (.iadd, 1) := by decide +kernel
theorem dL_covers_30 : decode cL_covers 30 = .ok (.if_icmp .ge 7, 3) := by decide +kernel
theorem dL_covers_33 : decode cL_covers 33 = .ok (.iconst 1, 1) := by decide +kernel
theorem dL_covers_34 : decode cL_covers 34 = .ok (.goto 4, 3) := by decide +kernel
theorem dL_covers_37 : decode cL_covers 37 = .ok (.iconst 0, 1) := by decide +kernel
theorem dL_covers_38 : decode cL_covers 38 = .ok (.ireturn, 1) := by decide +kernel
set_option maxRecDepth 20000 in
theorem ggL_turns_X6_count : GoodIn wsL_turns wsX6_count := goodIn_r _ [5, 6, 7, 8, 9, 10, 11, 12, 13, 14, 15, 16, 17, 18, 19, 20, 21, 22, 23, 24, 25, 26, 27, 28, 29, 30, 31, 32, 33, 34, 35, 36, 37, 38, 39, 40, 41, 42, 43, 44, 45, 46, 47, 48, 49, 50, 51, 52, 53, 54, 55, 56, 57, 58, 59, 60, 61, 62, 63, 64, 65, 66, 67, 68, 69, 70, 71, 72, 73, 74, 75, 76, 77, 78, 79, 80, 81, 82, 83, 84, 85, 86, 87, 88, 89, 90, 91, 92, 93, 94, 95, 4, 96, 97, 98, 99, 100, 101, 102, 103, 104, 105, 106, 107, 108, 109, 110, 111, 112, 113, 114, 115, 116, 117, 118, 119, 120, 121, 122, 123, 124, 125, 126, 127, 128, 129, 130, 131, 132, 133, 134, 135, 136, 137, 138, 139, 140, 141, 142, 143, 144, 145, 146, 147, 148, 149, 150, 151, 152, 153, 154, 155, 156, 157, 158, 159, 160, 161, 162, 163, 164, 165, 166, 167, 168, 169, 170, 171, 253, 254, 255, 256, 257, 258, 259, 260, 261, 262, 263, 264, 265, 266, 267, 268, 269, 270, 271, 272, 273, 274, 275, 276, 277, 278, 279, 280, 281, 282, 283, 284, 285, 286] (by decide +kernel) (by decide +kernel)
set_option maxRecDepth 20000 in
theorem gL_turns_X6_count : GoodIn wsL_turns (wsV RL 28 RX6 yX6_count wsX6_count) := goodIn_app (goodIn_of _ (by decide +kernel)) ggL_turns_X6_count
set_option maxRecDepth 20000 in
theorem ggL_turns_L_covers : GoodIn wsL_turns wsL_covers := goodIn_r _ [175, 176, 177, 178, 4, 179, 6, 10, 180, 181, 182, 183, 9, 184, 25, 26, 21, 27, 28, 185, 186, 187, 32, 188, 34, 80, 41, 42, 43, 44, 24, 82, 83, 84, 85, 86, 87, 88, 89, 90, 40, 35, 91, 92, 51, 93, 94, 95, 96, 189, 190, 191, 192, 193, 194, 50, 52, 195, 196, 197, 198, 75, 76, 77, 78, 79, 81, 97, 98, 99, 100, 101, 102, 103, 104, 105, 106, 107, 108, 109, 110, 111, 112, 113, 114, 115, 116, 117, 118, 119, 120, 121, 122, 123, 124, 125, 126, 127, 128, 129, 130, 131, 132, 133, 134, 199, 136, 137, 138, 139, 140, 141, 253, 254, 255, 256, 257, 258, 259, 260, 261, 262, 263, 264, 265, 266, 267, 283, 284, 285, 286, 268, 269, 270] (by decide +kernel) (by decide +kernel)
set_option maxRecDepth 20000 in
theorem gL_turns_L_covers : GoodIn wsL_turns (va_wsS RL 32 yL_covers wsL_covers) := goodIn_app (goodIn_of _ (by decide +kernel)) ggL_turns_L_covers
set_option maxRecDepth 20000 in
theorem ggL_turns_X6_shown : GoodIn wsL_turns wsX6_shown := goodIn_r _ [203, 10, 204, 205, 4, 206, 207, 208, 209, 32, 210, 34, 80, 86, 87, 88, 89, 90, 40, 35, 91, 92, 51, 93, 94, 41, 42, 43, 21, 44, 24, 25, 26, 27, 28, 253, 254, 255, 256, 257, 258, 283, 284, 285, 286, 259, 260, 261, 262, 263, 264, 265, 266, 267] (by decide +kernel) (by decide +kernel)
set_option maxRecDepth 20000 in
theorem gL_turns_X6_shown : GoodIn wsL_turns (wsV RL 36 RX6 yX6_shown wsX6_shown) := goodIn_app (goodIn_of _ (by decide +kernel)) ggL_turns_X6_shown
set_option maxRecDepth 20000 in
theorem ggL_turns_X6_shownIn : GoodIn wsL_turns wsX6_shownIn := goodIn_r _ [214, 10, 6, 11, 204, 205, 4, 206, 180, 181, 182, 183, 9, 215, 83, 84, 32, 85, 86, 87, 88, 89, 90, 34, 40, 35, 91, 92, 51, 93, 94, 41, 42, 43, 21, 44, 24, 25, 26, 27, 28, 216, 95, 96, 253, 254, 255, 256, 257, 258, 259, 260, 261, 262, 263, 264, 265, 266, 267, 283, 284, 285, 286] (by decide +kernel) (by decide +kernel)
set_option maxRecDepth 20000 in
theorem gL_turns_X6_shownIn : GoodIn wsL_turns (wsV RL 39 RX6 yX6_shownIn wsX6_shownIn) := goodIn_app (goodIn_of _ (by decide +kernel)) ggL_turns_X6_shownIn
set_option maxRecDepth 20000 in
theorem ggL_turns_X6_line : GoodIn wsL_turns wsX6_line := goodIn_r _ [220, 10, 6, 11, 204, 205, 4, 206, 221, 37, 38, 32, 39, 34, 40, 41, 42, 43, 21, 44, 24, 25, 26, 27, 28, 222, 88, 89, 90, 35, 86, 91, 92, 51, 93, 94, 223, 224, 225, 226, 80, 82, 83, 84, 85, 87, 227, 228, 229, 230, 95, 96, 231, 232, 233, 234, 101, 102, 235, 236, 237, 238, 239, 106, 240, 109, 110, 111, 112, 113, 114, 115, 116, 117, 118, 241, 242, 243, 244, 61, 62, 63, 64, 65, 66, 67, 68, 69, 70, 245, 246, 247, 248, 249, 250, 58, 59, 60, 251, 252, 253, 254, 255, 256, 257, 258, 259, 260, 261, 262, 263, 264, 265, 266, 267, 283, 284, 285, 286, 268, 269, 270] (by decide +kernel) (by decide +kernel)
set_option maxRecDepth 20000 in
theorem gL_turns_X6_line : GoodIn wsL_turns (wsV RL 42 RX6 yX6_line wsX6_line) := goodIn_app (goodIn_of _ (by decide +kernel)) ggL_turns_X6_line
theorem dL_turns_0 : decode cL_turns 0 = .ok (.aload_n 0, 1) := by decide +kernel
theorem dL_turns_1 : decode cL_turns 1 = .ok (.iconst 1, 1) := by decide +kernel
theorem dL_turns_2 : decode cL_turns 2 = .ok (.invokevirtual 28, 3) := by decide +kernel
theorem dL_turns_5 : decode cL_turns 5 = .ok (.istore_n 2, 1) := by decide +kernel
theorem dL_turns_6 : decode cL_turns 6 = .ok (.iconst 0, 1) := by decide +kernel
theorem dL_turns_7 : decode cL_turns 7 = .ok (.istore_n 3, 1) := by decide +kernel
theorem dL_turns_8 : decode cL_turns 8 = .ok (.iconst 0, 1) := by decide +kernel
theorem dL_turns_9 : decode cL_turns 9 = .ok (.istore 4, 2) := by decide +kernel
theorem dL_turns_11 : decode cL_turns 11 = .ok (.iload_n 2, 1) := by decide +kernel
theorem dL_turns_12 : decode cL_turns 12 = .ok (.ifCond .ne 7, 3) := by decide +kernel
theorem dL_turns_15 : decode cL_turns 15 = .ok (.iconst 0, 1) := by decide +kernel
theorem dL_turns_16 : decode cL_turns 16 = .ok (.goto 22, 3) := by decide +kernel
theorem dL_turns_19 : decode cL_turns 19 = .ok (.aload_n 0, 1) := by decide +kernel
theorem dL_turns_20 : decode cL_turns 20 = .ok (.bipush 8, 2) := by decide +kernel
theorem dL_turns_22 : decode cL_turns 22 = .ok (.invokevirtual 28, 3) := by decide +kernel
theorem dL_turns_25 : decode cL_turns 25 = .ok (.i2l, 1) := by decide +kernel
theorem dL_turns_26 : decode cL_turns 26 = .ok (.aload_n 0, 1) := by decide +kernel
theorem dL_turns_27 : decode cL_turns 27 = .ok (.bipush 10, 2) := by decide +kernel
theorem dL_turns_29 : decode cL_turns 29 = .ok (.invokevirtual 28, 3) := by decide +kernel
theorem dL_turns_32 : decode cL_turns 32 = .ok (.i2l, 1) := by decide +kernel
theorem dL_turns_33 : decode cL_turns 33 = .ok (.lmul, 1) := by decide +kernel
theorem dL_turns_34 : decode cL_turns 34 = .ok (.iload_n 2, 1) := by decide +kernel
theorem dL_turns_35 : decode cL_turns 35 = .ok (.i2l, 1) := by decide +kernel
theorem dL_turns_36 : decode cL_turns 36 = .ok (.lrem, 1) := by decide +kernel
theorem dL_turns_37 : decode cL_turns 37 = .ok (.l2i, 1) := by decide +kernel
theorem dL_turns_38 : decode cL_turns 38 = .ok (.istore 5, 2) := by decide +kernel
theorem dL_turns_40 : decode cL_turns 40 = .ok (.iconst 0, 1) := by decide +kernel
theorem dL_turns_41 : decode cL_turns 41 = .ok (.istore 6, 2) := by decide +kernel
theorem dL_turns_43 : decode cL_turns 43 = .ok (.iload 6, 2) := by decide +kernel
theorem dL_turns_45 : decode cL_turns 45 = .ok (.iload_n 2, 1) := by decide +kernel
theorem dL_turns_46 : decode cL_turns 46 = .ok (.if_icmp .ge 67, 3) := by decide +kernel
theorem dL_turns_49 : decode cL_turns 49 = .ok (.iload 5, 2) := by decide +kernel
theorem dL_turns_51 : decode cL_turns 51 = .ok (.iload 6, 2) := by decide +kernel
theorem dL_turns_53 : decode cL_turns 53 = .ok (.iadd, 1) := by decide +kernel
theorem dL_turns_54 : decode cL_turns 54 = .ok (.iload_n 2, 1) := by decide +kernel
theorem dL_turns_55 : decode cL_turns 55 = .ok (.irem, 1) := by decide +kernel
theorem dL_turns_56 : decode cL_turns 56 = .ok (.istore 7, 2) := by decide +kernel
theorem dL_turns_58 : decode cL_turns 58 = .ok (.aload_n 0, 1) := by decide +kernel
theorem dL_turns_59 : decode cL_turns 59 = .ok (.iload 7, 2) := by decide +kernel
theorem dL_turns_61 : decode cL_turns 61 = .ok (.iload_n 1, 1) := by decide +kernel
theorem dL_turns_62 : decode cL_turns 62 = .ok (.invokestatic 32, 3) := by decide +kernel
theorem dL_turns_65 : decode cL_turns 65 = .ok (.ifCond .eq 42, 3) := by decide +kernel
theorem dL_turns_68 : decode cL_turns 68 = .ok (.iinc 4 1, 3) := by decide +kernel
theorem dL_turns_71 : decode cL_turns 71 = .ok (.iload_n 3, 1) := by decide +kernel
theorem dL_turns_72 : decode cL_turns 72 = .ok (.aload_n 0, 1) := by decide +kernel
theorem dL_turns_73 : decode cL_turns 73 = .ok (.bipush 9, 2) := by decide +kernel
theorem dL_turns_75 : decode cL_turns 75 = .ok (.invokevirtual 28, 3) := by decide +kernel
theorem dL_turns_78 : decode cL_turns 78 = .ok (.if_icmp .ge 29, 3) := by decide +kernel
theorem dL_turns_81 : decode cL_turns 81 = .ok (.aload_n 0, 1) := by decide +kernel
theorem dL_turns_82 : decode cL_turns 82 = .ok (.iload_n 1, 1) := by decide +kernel
theorem dL_turns_83 : decode cL_turns 83 = .ok (.iload_n 3, 1) := by decide +kernel
theorem dL_turns_84 : decode cL_turns 84 = .ok (.invokevirtual 36, 3) := by decide +kernel
theorem dL_turns_87 : decode cL_turns 87 = .ok (.iload 7, 2) := by decide +kernel
theorem dL_turns_89 : decode cL_turns 89 = .ok (.if_icmp .ne 13, 3) := by decide +kernel
theorem dL_turns_92 : decode cL_turns 92 = .ok (.aload_n 0, 1) := by decide +kernel
theorem dL_turns_93 : decode cL_turns 93 = .ok (.iload_n 1, 1) := by decide +kernel
theorem dL_turns_94 : decode cL_turns 94 = .ok (.iload 7, 2) := by decide +kernel
theorem dL_turns_96 : decode cL_turns 96 = .ok (.invokevirtual 39, 3) := by decide +kernel
theorem dL_turns_99 : decode cL_turns 99 = .ok (.ifCond .eq 5, 3) := by decide +kernel
theorem dL_turns_102 : decode cL_turns 102 = .ok (.iconst 0, 1) := by decide +kernel
theorem dL_turns_103 : decode cL_turns 103 = .ok (.ireturn, 1) := by decide +kernel
theorem dL_turns_104 : decode cL_turns 104 = .ok (.iinc 3 1, 3) := by decide +kernel
theorem dL_turns_107 : decode cL_turns 107 = .ok (.iinc 6 1, 3) := by decide +kernel
theorem dL_turns_110 : decode cL_turns 110 = .ok (.goto (-67), 3) := by decide +kernel
theorem dL_turns_113 : decode cL_turns 113 = .ok (.aload_n 0, 1) := by decide +kernel
theorem dL_turns_114 : decode cL_turns 114 = .ok (.iload_n 1, 1) := by decide +kernel
theorem dL_turns_115 : decode cL_turns 115 = .ok (.iload_n 3, 1) := by decide +kernel
theorem dL_turns_116 : decode cL_turns 116 = .ok (.invokevirtual 36, 3) := by decide +kernel
theorem dL_turns_119 : decode cL_turns 119 = .ok (.bipush (-5), 2) := by decide +kernel
theorem dL_turns_121 : decode cL_turns 121 = .ok (.if_icmp .ne 50, 3) := by decide +kernel
theorem dL_turns_124 : decode cL_turns 124 = .ok (.aload_n 0, 1) := by decide +kernel
theorem dL_turns_125 : decode cL_turns 125 = .ok (.iload_n 1, 1) := by decide +kernel
theorem dL_turns_126 : decode cL_turns 126 = .ok (.iconst (-1), 1) := by decide +kernel
theorem dL_turns_127 : decode cL_turns 127 = .ok (.invokevirtual 36, 3) := by decide +kernel
theorem dL_turns_130 : decode cL_turns 130 = .ok (.bipush (-2), 2) := by decide +kernel
theorem dL_turns_132 : decode cL_turns 132 = .ok (.if_icmp .ne 39, 3) := by decide +kernel
theorem dL_turns_135 : decode cL_turns 135 = .ok (.aload_n 0, 1) := by decide +kernel
theorem dL_turns_136 : decode cL_turns 136 = .ok (.iload_n 1, 1) := by decide +kernel
theorem dL_turns_137 : decode cL_turns 137 = .ok (.iconst 0, 1) := by decide +kernel
theorem dL_turns_138 : decode cL_turns 138 = .ok (.invokevirtual 42, 3) := by decide +kernel
theorem dL_turns_141 : decode cL_turns 141 = .ok (.iload 4, 2) := by decide +kernel
theorem dL_turns_143 : decode cL_turns 143 = .ok (.if_icmp .ne 28, 3) := by decide +kernel
theorem dL_turns_146 : decode cL_turns 146 = .ok (.aload_n 0, 1) := by decide +kernel
theorem dL_turns_147 : decode cL_turns 147 = .ok (.iload_n 1, 1) := by decide +kernel
theorem dL_turns_148 : decode cL_turns 148 = .ok (.iconst 1, 1) := by decide +kernel
theorem dL_turns_149 : decode cL_turns 149 = .ok (.invokevirtual 42, 3) := by decide +kernel
theorem dL_turns_152 : decode cL_turns 152 = .ok (.iload_n 3, 1) := by decide +kernel
theorem dL_turns_153 : decode cL_turns 153 = .ok (.if_icmp .ne 18, 3) := by decide +kernel
theorem dL_turns_156 : decode cL_turns 156 = .ok (.aload_n 0, 1) := by decide +kernel
theorem dL_turns_157 : decode cL_turns 157 = .ok (.iload_n 1, 1) := by decide +kernel
theorem dL_turns_158 : decode cL_turns 158 = .ok (.iconst 5, 1) := by decide +kernel
theorem dL_turns_159 : decode cL_turns 159 = .ok (.invokevirtual 42, 3) := by decide +kernel
theorem dL_turns_162 : decode cL_turns 162 = .ok (.bipush (-2), 2) := by decide +kernel
theorem dL_turns_164 : decode cL_turns 164 = .ok (.if_icmp .ne 7, 3) := by decide +kernel
theorem dL_turns_167 : decode cL_turns 167 = .ok (.iconst 1, 1) := by decide +kernel
theorem dL_turns_168 : decode cL_turns 168 = .ok (.goto 4, 3) := by decide +kernel
theorem dL_turns_171 : decode cL_turns 171 = .ok (.iconst 0, 1) := by decide +kernel
theorem dL_turns_172 : decode cL_turns 172 = .ok (.ireturn, 1) := by decide +kernel
set_option maxRecDepth 20000 in
theorem ggL_isShown_X6_line : GoodIn wsL_isShown wsX6_line := goodIn_r _ [5, 6, 7, 8, 9, 10, 4, 11, 12, 13, 14, 15, 16, 17, 18, 19, 20, 21, 22, 23, 24, 25, 26, 27, 28, 29, 30, 31, 32, 33, 34, 35, 36, 37, 38, 39, 40, 41, 42, 43, 44, 45, 46, 47, 48, 49, 50, 51, 52, 53, 54, 55, 56, 57, 58, 59, 60, 61, 62, 63, 64, 65, 66, 67, 68, 69, 70, 71, 72, 73, 74, 75, 76, 77, 78, 79, 80, 81, 82, 83, 84, 85, 86, 87, 88, 89, 90, 91, 92, 93, 94, 95, 96, 97, 98, 99, 100, 101, 102, 103, 112, 113, 114, 115, 116, 117, 118, 119, 120, 121, 122, 123, 124, 125, 126, 127, 128, 129, 130, 131, 132, 133] (by decide +kernel) (by decide +kernel)
set_option maxRecDepth 20000 in
theorem gL_isShown_X6_line : GoodIn wsL_isShown (wsV RL 42 RX6 yX6_line wsX6_line) := goodIn_app (goodIn_of _ (by decide +kernel)) ggL_isShown_X6_line
set_option maxRecDepth 20000 in
theorem ggL_isShown_X6_shown : GoodIn wsL_isShown wsX6_shown := goodIn_r _ [107, 6, 9, 10, 4, 11, 108, 109, 110, 15, 111, 17, 44, 34, 49, 30, 31, 32, 18, 33, 35, 36, 37, 38, 39, 19, 20, 21, 22, 23, 24, 25, 26, 27, 28, 112, 113, 114, 115, 116, 117, 127, 128, 129, 130, 118, 119, 120, 121, 122, 123, 124, 125, 126] (by decide +kernel) (by decide +kernel)
set_option maxRecDepth 20000 in
theorem gL_isShown_X6_shown : GoodIn wsL_isShown (wsV RL 36 RX6 yX6_shown wsX6_shown) := goodIn_app (goodIn_of _ (by decide +kernel)) ggL_isShown_X6_shown
theorem dL_isShown_0 : decode cL_isShown 0 = .ok (.iconst 0, 1) := by decide +kernel
theorem dL_isShown_1 : decode cL_isShown 1 = .ok (.istore_n 3, 1) := by decide +kernel
theorem dL_isShown_2 : decode cL_isShown 2 = .ok (.iload_n 3, 1) := by decide +kernel
theorem dL_isShown_3 : decode cL_isShown 3 = .ok (.aload_n 0, 1) := by decide +kernel
theorem dL_isShown_4 : decode cL_isShown 4 = .ok (.iload_n 1, 1) := by decide +kernel
theorem dL_isShown_5 : decode cL_isShown 5 = .ok (.iconst 1, 1) := by decide +kernel
theorem dL_isShown_6 : decode cL_isShown 6 = .ok (.invokevirtual 42, 3) := by decide +kernel
theorem dL_isShown_9 : decode cL_isShown 9 = .ok (.if_icmp .ge 21, 3) := by decide +kernel
theorem dL_isShown_12 : decode cL_isShown 12 = .ok (.aload_n 0, 1) := by decide +kernel
theorem dL_isShown_13 : decode cL_isShown 13 = .ok (.iload_n 1, 1) := by decide +kernel
theorem dL_isShown_14 : decode cL_isShown 14 = .ok (.iload_n 3, 1) := by decide +kernel
theorem dL_isShown_15 : decode cL_isShown 15 = .ok (.invokevirtual 36, 3) := by decide +kernel
theorem dL_isShown_18 : decode cL_isShown 18 = .ok (.iload_n 2, 1) := by decide +kernel
theorem dL_isShown_19 : decode cL_isShown 19 = .ok (.if_icmp .ne 5, 3) := by decide +kernel
theorem dL_isShown_22 : decode cL_isShown 22 = .ok (.iconst 1, 1) := by decide +kernel
theorem dL_isShown_23 : decode cL_isShown 23 = .ok (.ireturn, 1) := by decide +kernel
theorem dL_isShown_24 : decode cL_isShown 24 = .ok (.iinc 3 1, 3) := by decide +kernel
theorem dL_isShown_27 : decode cL_isShown 27 = .ok (.goto (-25), 3) := by decide +kernel
theorem dL_isShown_30 : decode cL_isShown 30 = .ok (.iconst 0, 1) := by decide +kernel
theorem dL_isShown_31 : decode cL_isShown 31 = .ok (.ireturn, 1) := by decide +kernel
set_option maxRecDepth 20000 in
theorem ggL_pixelOf_X6_sprite : GoodIn wsL_pixelOf wsX6_sprite := goodIn_r _ [5, 6, 7, 8, 9, 10, 4, 11, 12, 13, 14, 15, 16, 17, 18, 19, 20, 21, 22, 23, 24, 25, 26, 27, 28, 29, 30, 31, 32, 33, 34, 35, 36, 37, 38, 39, 40, 41, 42, 43, 44, 45, 46, 47, 48, 49, 50, 51, 52, 53, 54, 55, 56, 57, 58, 59, 60, 61, 62, 63, 64, 65, 66, 67, 68, 69, 70, 71, 72, 73, 74, 75, 76, 77, 78, 79, 80, 81, 82, 83, 84, 85, 86, 87, 88, 89, 90, 91, 92, 93, 94, 95, 96, 97, 98, 99, 100, 101, 102, 103, 104, 105, 106, 107, 108, 109, 110, 111, 133, 134, 135, 136, 137, 138, 139, 140, 141, 142, 143, 144, 145, 146, 147, 148, 149, 150, 151, 152, 153, 154] (by decide +kernel) (by decide +kernel)
set_option maxRecDepth 20000 in
theorem gL_pixelOf_X6_sprite : GoodIn wsL_pixelOf (wsV RL 25 RX6 yX6_sprite wsX6_sprite) := goodIn_app (goodIn_of _ (by decide +kernel)) ggL_pixelOf_X6_sprite
set_option maxRecDepth 20000 in
theorem ggL_pixelOf_L_flipped : GoodIn wsL_pixelOf wsL_flipped := goodIn_r _ [115, 116, 117, 118, 4, 119, 6, 120, 121, 122, 123, 124, 125, 126, 127, 128, 129, 130, 131, 76, 132, 79, 80, 81, 82, 83, 84, 85, 86, 87, 88, 133, 134, 135, 136, 137, 138, 139, 140, 141, 142, 143, 144, 145, 146, 147, 152, 153, 154] (by decide +kernel) (by decide +kernel)
set_option maxRecDepth 20000 in
theorem gL_pixelOf_L_flipped : GoodIn wsL_pixelOf (va_wsS RL 19 yL_flipped wsL_flipped) := goodIn_app (goodIn_of _ (by decide +kernel)) ggL_pixelOf_L_flipped
theorem dL_pixelOf_0 : decode cL_pixelOf 0 = .ok (.iload_n 2, 1) := by decide +kernel
theorem dL_pixelOf_1 : decode cL_pixelOf 1 = .ok (.aload_n 0, 1) := by decide +kernel
theorem dL_pixelOf_2 : decode cL_pixelOf 2 = .ok (.iload_n 1, 1) := by decide +kernel
theorem dL_pixelOf_3 : decode cL_pixelOf 3 = .ok (.iconst 5, 1) := by decide +kernel
theorem dL_pixelOf_4 : decode cL_pixelOf 4 = .ok (.invokevirtual 25, 3) := by decide +kernel
theorem dL_pixelOf_7 : decode cL_pixelOf 7 = .ok (.isub, 1) := by decide +kernel
theorem dL_pixelOf_8 : decode cL_pixelOf 8 = .ok (.istore 4, 2) := by decide +kernel
theorem dL_pixelOf_10 : decode cL_pixelOf 10 = .ok (.iload_n 3, 1) := by decide +kernel
theorem dL_pixelOf_11 : decode cL_pixelOf 11 = .ok (.aload_n 0, 1) := by decide +kernel
theorem dL_pixelOf_12 : decode cL_pixelOf 12 = .ok (.iload_n 1, 1) := by decide +kernel
theorem dL_pixelOf_13 : decode cL_pixelOf 13 = .ok (.iconst 4, 1) := by decide +kernel
theorem dL_pixelOf_14 : decode cL_pixelOf 14 = .ok (.invokevirtual 25, 3) := by decide +kernel
theorem dL_pixelOf_17 : decode cL_pixelOf 17 = .ok (.isub, 1) := by decide +kernel
theorem dL_pixelOf_18 : decode cL_pixelOf 18 = .ok (.istore 5, 2) := by decide +kernel
theorem dL_pixelOf_20 : decode cL_pixelOf 20 = .ok (.iload 4, 2) := by decide +kernel
theorem dL_pixelOf_22 : decode cL_pixelOf 22 = .ok (.ifCond .lt 22, 3) := by decide +kernel
theorem dL_pixelOf_25 : decode cL_pixelOf 25 = .ok (.iload 4, 2) := by decide +kernel
theorem dL_pixelOf_27 : decode cL_pixelOf 27 = .ok (.bipush 7, 2) := by decide +kernel
theorem dL_pixelOf_29 : decode cL_pixelOf 29 = .ok (.if_icmp .gt 15, 3) := by decide +kernel
theorem dL_pixelOf_32 : decode cL_pixelOf 32 = .ok (.iload 5, 2) := by decide +kernel
theorem dL_pixelOf_34 : decode cL_pixelOf 34 = .ok (.ifCond .lt 10, 3) := by decide +kernel
theorem dL_pixelOf_37 : decode cL_pixelOf 37 = .ok (.iload 5, 2) := by decide +kernel
theorem dL_pixelOf_39 : decode cL_pixelOf 39 = .ok (.bipush 7, 2) := by decide +kernel
theorem dL_pixelOf_41 : decode cL_pixelOf 41 = .ok (.if_icmp .le 7, 3) := by decide +kernel
theorem dL_pixelOf_44 : decode cL_pixelOf 44 = .ok (.iconst 0, 1) := by decide +kernel
theorem dL_pixelOf_45 : decode cL_pixelOf 45 = .ok (.goto 23, 3) := by decide +kernel
theorem dL_pixelOf_48 : decode cL_pixelOf 48 = .ok (.aload_n 0, 1) := by decide +kernel
theorem dL_pixelOf_49 : decode cL_pixelOf 49 = .ok (.aload_n 0, 1) := by decide +kernel
theorem dL_pixelOf_50 : decode cL_pixelOf 50 = .ok (.iload_n 1, 1) := by decide +kernel
theorem dL_pixelOf_51 : decode cL_pixelOf 51 = .ok (.iconst 0, 1) := by decide +kernel
theorem dL_pixelOf_52 : decode cL_pixelOf 52 = .ok (.invokevirtual 25, 3) := by decide +kernel
theorem dL_pixelOf_55 : decode cL_pixelOf 55 = .ok (.aload_n 0, 1) := by decide +kernel
theorem dL_pixelOf_56 : decode cL_pixelOf 56 = .ok (.iload_n 1, 1) := by decide +kernel
theorem dL_pixelOf_57 : decode cL_pixelOf 57 = .ok (.iconst 1, 1) := by decide +kernel
theorem dL_pixelOf_58 : decode cL_pixelOf 58 = .ok (.invokevirtual 25, 3) := by decide +kernel
theorem dL_pixelOf_61 : decode cL_pixelOf 61 = .ok (.iload 4, 2) := by decide +kernel
theorem dL_pixelOf_63 : decode cL_pixelOf 63 = .ok (.iload 5, 2) := by decide +kernel
theorem dL_pixelOf_65 : decode cL_pixelOf 65 = .ok (.invokestatic 19, 3) := by decide +kernel
theorem dL_pixelOf_68 : decode cL_pixelOf 68 = .ok (.ireturn, 1) := by decide +kernel
set_option maxRecDepth 20000 in
theorem ggL_source_X6_count : GoodIn wsL_source wsX6_count := goodIn_r _ [5, 6, 7, 8, 9, 10, 11, 12, 13, 14, 15, 16, 17, 18, 19, 20, 21, 22, 23, 24, 25, 26, 27, 28, 29, 30, 31, 32, 33, 34, 35, 36, 37, 38, 39, 40, 41, 42, 43, 44, 45, 46, 47, 48, 49, 50, 51, 52, 53, 54, 55, 56, 57, 58, 59, 60, 61, 62, 63, 64, 65, 66, 67, 68, 69, 70, 71, 72, 73, 74, 75, 76, 77, 78, 79, 80, 81, 82, 83, 84, 85, 86, 87, 88, 89, 90, 91, 92, 93, 94, 95, 4, 96, 97, 98, 99, 100, 101, 102, 103, 104, 105, 106, 107, 108, 109, 110, 111, 112, 113, 114, 115, 116, 117, 118, 119, 120, 121, 122, 123, 124, 125, 126, 127, 128, 129, 130, 131, 132, 133, 134, 135, 136, 137, 138, 139, 140, 141, 142, 143, 144, 145, 146, 147, 148, 149, 150, 151, 152, 153, 154, 155, 156, 157, 158, 159, 160, 161, 162, 163, 164, 165, 166, 167, 168, 169, 170, 171, 263, 264, 265, 266, 267, 268, 269, 270, 271, 272, 273, 274, 275, 276, 277, 278, 279, 280, 281, 282, 283, 284, 285, 286, 287, 288, 289, 290, 291, 292, 293, 294, 295, 296] (by decide +kernel) (by decide +kernel)
set_option maxRecDepth 20000 in
theorem gL_source_X6_count : GoodIn wsL_source (wsV RL 28 RX6 yX6_count wsX6_count) := goodIn_app (goodIn_of _ (by decide +kernel)) ggL_source_X6_count
set_option maxRecDepth 20000 in
theorem ggL_source_L_pixelOf : GoodIn wsL_source wsL_pixelOf := goodIn_r _ [175, 176, 177, 178, 4, 179, 6, 10, 180, 181, 182, 183, 9, 184, 25, 26, 21, 27, 28, 185, 186, 187, 32, 188, 34, 80, 41, 42, 43, 44, 24, 82, 83, 84, 85, 86, 87, 88, 89, 90, 40, 35, 91, 92, 51, 93, 94, 95, 96, 189, 190, 191, 192, 193, 194, 50, 52, 195, 196, 197, 198, 75, 76, 77, 78, 79, 81, 97, 98, 99, 100, 101, 102, 103, 104, 105, 106, 107, 108, 109, 110, 111, 112, 113, 114, 115, 116, 117, 118, 119, 120, 121, 122, 123, 124, 125, 126, 127, 128, 129, 130, 131, 132, 133, 134, 199, 136, 137, 138, 139, 140, 141, 200, 201, 174, 202, 203, 204, 205, 206, 7, 207, 208, 209, 210, 8, 211, 212, 213, 214, 215, 216, 217, 263, 264, 265, 266, 267, 268, 269, 270, 271, 272, 273, 274, 275, 276, 277, 293, 294, 295, 296, 278, 279, 280] (by decide +kernel) (by decide +kernel)
set_option maxRecDepth 20000 in
theorem gL_source_L_pixelOf : GoodIn wsL_source (va_wsS RL 45 yL_pixelOf wsL_pixelOf) := goodIn_app (goodIn_of _ (by decide +kernel)) ggL_source_L_pixelOf
set_option maxRecDepth 20000 in
theorem ggL_source_L_isShown : GoodIn wsL_source wsL_isShown := goodIn_r _ [220, 221, 222, 223, 4, 224, 10, 6, 11, 225, 226, 227, 228, 37, 38, 32, 39, 34, 40, 41, 42, 43, 21, 44, 24, 25, 26, 27, 28, 229, 88, 89, 90, 35, 86, 91, 92, 51, 93, 94, 230, 231, 232, 233, 80, 82, 83, 84, 85, 87, 234, 235, 236, 237, 95, 96, 238, 239, 240, 241, 101, 102, 212, 213, 242, 215, 216, 106, 217, 109, 110, 111, 112, 113, 114, 115, 116, 117, 118, 243, 244, 245, 246, 61, 62, 63, 64, 65, 66, 67, 68, 69, 70, 247, 248, 249, 250, 251, 252, 58, 59, 60, 253, 254, 255, 256, 257, 258, 259, 260, 261, 262, 263, 264, 265, 266, 267, 268, 269, 270, 271, 272, 273, 274, 275, 276, 277, 293, 294, 295, 296, 278, 279, 280] (by decide +kernel) (by decide +kernel)
set_option maxRecDepth 20000 in
theorem gL_source_L_isShown : GoodIn wsL_source (va_wsS RL 49 yL_isShown wsL_isShown) := goodIn_app (goodIn_of _ (by decide +kernel)) ggL_source_L_isShown
set_option maxRecDepth 20000 in
theorem ggL_source_X6_sprite : GoodIn wsL_source wsX6_sprite := goodIn_r _ [179, 6, 10, 180, 181, 182, 4, 183, 9, 184, 25, 26, 21, 27, 28, 185, 186, 187, 32, 188, 34, 80, 41, 42, 43, 44, 24, 82, 83, 84, 85, 86, 87, 88, 89, 90, 40, 35, 91, 92, 51, 93, 94, 95, 96, 189, 190, 191, 192, 193, 194, 50, 52, 195, 196, 197, 198, 75, 76, 77, 78, 79, 81, 97, 98, 99, 100, 101, 102, 103, 104, 105, 106, 107, 108, 109, 110, 111, 112, 113, 114, 115, 116, 117, 118, 119, 120, 121, 122, 123, 124, 125, 126, 127, 128, 129, 130, 131, 132, 133, 134, 199, 136, 137, 138, 139, 140, 141, 263, 264, 265, 266, 267, 268, 269, 270, 271, 272, 273, 274, 275, 276, 277, 293, 294, 295, 296, 278, 279, 280] (by decide +kernel) (by decide +kernel)
set_option maxRecDepth 20000 in
theorem gL_source_X6_sprite : GoodIn wsL_source (wsV RL 25 RX6 yX6_sprite wsX6_sprite) := goodIn_app (goodIn_of _ (by decide +kernel)) ggL_source_X6_sprite
set_option maxRecDepth 20000 in
theorem ggL_source_X6_line : GoodIn wsL_source wsX6_line := goodIn_r _ [224, 10, 6, 11, 225, 226, 4, 227, 228, 37, 38, 32, 39, 34, 40, 41, 42, 43, 21, 44, 24, 25, 26, 27, 28, 229, 88, 89, 90, 35, 86, 91, 92, 51, 93, 94, 230, 231, 232, 233, 80, 82, 83, 84, 85, 87, 234, 235, 236, 237, 95, 96, 238, 239, 240, 241, 101, 102, 212, 213, 242, 215, 216, 106, 217, 109, 110, 111, 112, 113, 114, 115, 116, 117, 118, 243, 244, 245, 246, 61, 62, 63, 64, 65, 66, 67, 68, 69, 70, 247, 248, 249, 250, 251, 252, 58, 59, 60, 253, 254, 263, 264, 265, 266, 267, 268, 269, 270, 271, 272, 273, 274, 275, 276, 277, 293, 294, 295, 296, 278, 279, 280] (by decide +kernel) (by decide +kernel)
set_option maxRecDepth 20000 in
theorem gL_source_X6_line : GoodIn wsL_source (wsV RL 42 RX6 yX6_line wsX6_line) := goodIn_app (goodIn_of _ (by decide +kernel)) ggL_source_X6_line
theorem dL_source_0 : decode cL_source 0 = .ok (.iconst 0, 1) := by decide +kernel
theorem dL_source_1 : decode cL_source 1 = .ok (.istore_n 3, 1) := by decide +kernel
theorem dL_source_2 : decode cL_source 2 = .ok (.iload_n 3, 1) := by decide +kernel
theorem dL_source_3 : decode cL_source 3 = .ok (.aload_n 0, 1) := by decide +kernel
theorem dL_source_4 : decode cL_source 4 = .ok (.iconst 1, 1) := by decide +kernel
theorem dL_source_5 : decode cL_source 5 = .ok (.invokevirtual 28, 3) := by decide +kernel
theorem dL_source_8 : decode cL_source 8 = .ok (.if_icmp .ge 88, 3) := by decide +kernel
theorem dL_source_11 : decode cL_source 11 = .ok (.aload_n 0, 1) := by decide +kernel
theorem dL_source_12 : decode cL_source 12 = .ok (.iload_n 3, 1) := by decide +kernel
theorem dL_source_13 : decode cL_source 13 = .ok (.iload_n 1, 1) := by decide +kernel
theorem dL_source_14 : decode cL_source 14 = .ok (.iload_n 2, 1) := by decide +kernel
theorem dL_source_15 : decode cL_source 15 = .ok (.invokestatic 45, 3) := by decide +kernel
theorem dL_source_18 : decode cL_source 18 = .ok (.istore 4, 2) := by decide +kernel
theorem dL_source_20 : decode cL_source 20 = .ok (.iload 4, 2) := by decide +kernel
theorem dL_source_22 : decode cL_source 22 = .ok (.ifCond .le 68, 3) := by decide +kernel
theorem dL_source_25 : decode cL_source 25 = .ok (.aload_n 0, 1) := by decide +kernel
theorem dL_source_26 : decode cL_source 26 = .ok (.iload_n 1, 1) := by decide +kernel
theorem dL_source_27 : decode cL_source 27 = .ok (.iload_n 3, 1) := by decide +kernel
theorem dL_source_28 : decode cL_source 28 = .ok (.invokestatic 49, 3) := by decide +kernel
theorem dL_source_31 : decode cL_source 31 = .ok (.ifCond .eq 59, 3) := by decide +kernel
theorem dL_source_34 : decode cL_source 34 = .ok (.aload_n 0, 1) := by decide +kernel
theorem dL_source_35 : decode cL_source 35 = .ok (.iload_n 3, 1) := by decide +kernel
theorem dL_source_36 : decode cL_source 36 = .ok (.iconst 2, 1) := by decide +kernel
theorem dL_source_37 : decode cL_source 37 = .ok (.invokevirtual 25, 3) := by decide +kernel
theorem dL_source_40 : decode cL_source 40 = .ok (.istore 5, 2) := by decide +kernel
theorem dL_source_42 : decode cL_source 42 = .ok (.aload_n 0, 1) := by decide +kernel
theorem dL_source_43 : decode cL_source 43 = .ok (.iload_n 1, 1) := by decide +kernel
theorem dL_source_44 : decode cL_source 44 = .ok (.iconst 3, 1) := by decide +kernel
theorem dL_source_45 : decode cL_source 45 = .ok (.invokevirtual 42, 3) := by decide +kernel
theorem dL_source_48 : decode cL_source 48 = .ok (.istore 6, 2) := by decide +kernel
theorem dL_source_50 : decode cL_source 50 = .ok (.aload_n 0, 1) := by decide +kernel
theorem dL_source_51 : decode cL_source 51 = .ok (.iload_n 1, 1) := by decide +kernel
theorem dL_source_52 : decode cL_source 52 = .ok (.iconst 4, 1) := by decide +kernel
theorem dL_source_53 : decode cL_source 53 = .ok (.invokevirtual 42, 3) := by decide +kernel
theorem dL_source_56 : decode cL_source 56 = .ok (.istore 7, 2) := by decide +kernel
theorem dL_source_58 : decode cL_source 58 = .ok (.iconst 4, 1) := by decide +kernel
theorem dL_source_59 : decode cL_source 59 = .ok (.iload 5, 2) := by decide +kernel
theorem dL_source_61 : decode cL_source 61 = .ok (.iload 6, 2) := by decide +kernel
theorem dL_source_63 : decode cL_source 63 = .ok (.if_icmp .ne 8, 3) := by decide +kernel
theorem dL_source_66 : decode cL_source 66 = .ok (.iload 7, 2) := by decide +kernel
theorem dL_source_68 : decode cL_source 68 = .ok (.goto 17, 3) := by decide +kernel
theorem dL_source_71 : decode cL_source 71 = .ok (.iload 5, 2) := by decide +kernel
theorem dL_source_73 : decode cL_source 73 = .ok (.iload 7, 2) := by decide +kernel
theorem dL_source_75 : decode cL_source 75 = .ok (.if_icmp .ne 8, 3) := by decide +kernel
theorem dL_source_78 : decode cL_source 78 = .ok (.iload 6, 2) := by decide +kernel
theorem dL_source_80 : decode cL_source 80 = .ok (.goto 5, 3) := by decide +kernel
theorem dL_source_83 : decode cL_source 83 = .ok (.iload 5, 2) := by decide +kernel
theorem dL_source_85 : decode cL_source 85 = .ok (.imul, 1) := by decide +kernel
theorem dL_source_86 : decode cL_source 86 = .ok (.iload 4, 2) := by decide +kernel
theorem dL_source_88 : decode cL_source 88 = .ok (.iadd, 1) := by decide +kernel
theorem dL_source_89 : decode cL_source 89 = .ok (.ireturn, 1) := by decide +kernel
theorem dL_source_90 : decode cL_source 90 = .ok (.iinc 3 1, 3) := by decide +kernel
theorem dL_source_93 : decode cL_source 93 = .ok (.goto (-91), 3) := by decide +kernel
theorem dL_source_96 : decode cL_source 96 = .ok (.iconst 0, 1) := by decide +kernel
theorem dL_source_97 : decode cL_source 97 = .ok (.ireturn, 1) := by decide +kernel
set_option maxRecDepth 20000 in
theorem ggL_colors_L_source : GoodIn wsL_colors wsL_source := goodIn_r _ [4, 5, 6, 7, 8, 9, 10, 11, 12, 13, 14, 15, 16, 17, 18, 19, 20, 21, 22, 23, 24, 25, 26, 27, 28, 29, 30, 31, 32, 33, 34, 35, 36, 37, 38, 39, 40, 41, 42, 43, 44, 45, 46, 47, 48, 49, 50, 51, 52, 53, 54, 55, 56, 57, 58, 59, 60, 61, 62, 63, 64, 65, 66, 67, 68, 69, 70, 71, 72, 73, 74, 75, 76, 77, 78, 79, 80, 81, 82, 83, 84, 85, 86, 87, 88, 89, 90, 91, 92, 93, 94, 95, 96, 97, 98, 99, 100, 101, 102, 103, 104, 105, 106, 107, 108, 109, 110, 111, 112, 113, 114, 115, 116, 117, 118, 119, 120, 121, 122, 123, 124, 125, 126, 127, 128, 129, 130, 131, 132, 133, 134, 135, 136, 137, 138, 139, 140, 141, 142, 143, 144, 145, 146, 147, 148, 149, 150, 151, 152, 153, 154, 155, 156, 157, 158, 159, 160, 161, 162, 163, 164, 165, 166, 167, 168, 169, 170, 171, 172, 173, 174, 175, 176, 177, 3, 178, 179, 180, 181, 182, 183, 184, 185, 186, 187, 188, 189, 190, 191, 192, 193, 194, 195, 196, 197, 198, 199, 200, 201, 202, 203, 204, 205, 206, 207, 208, 209, 210, 211, 212, 213, 214, 215, 216, 217, 218, 219, 220, 221, 222, 223, 224, 225, 226, 227, 228, 229, 230, 231, 232, 233, 234, 235, 236, 237, 238, 239, 240, 241, 242, 243, 244, 245, 246, 247, 248, 249, 250, 251, 252, 253, 254, 255, 256, 257, 258, 259, 260, 261, 262, 263, 264, 265, 272, 273, 274, 275, 276, 277, 278, 279, 280, 281, 282, 283, 284, 285, 286, 287, 288, 289, 290, 291, 292, 293, 294, 295, 296, 297, 298, 299, 300, 301, 302, 303, 304, 305] (by decide +kernel) (by decide +kernel)
set_option maxRecDepth 20000 in
theorem gL_colors_L_source : GoodIn wsL_colors (va_wsS RL 52 yL_source wsL_source) := goodIn_app (goodIn_of _ (by decide +kernel)) ggL_colors_L_source
set_option maxRecDepth 20000 in
theorem ggL_colors_X6_color : GoodIn wsL_colors wsX6_color := goodIn_r _ [269, 14, 10, 15, 228, 229, 8, 230, 270, 87, 88, 36, 89, 90, 91, 92, 93, 94, 38, 44, 39, 95, 96, 55, 97, 98, 45, 46, 47, 25, 48, 28, 29, 30, 31, 32, 271, 238, 239, 240, 99, 100, 241, 242, 243, 244, 105, 106, 215, 216, 245, 218, 219, 110, 220, 113, 114, 115, 116, 117, 118, 119, 120, 121, 122, 246, 247, 248, 249, 65, 66, 67, 68, 69, 70, 71, 72, 73, 74, 250, 251, 252, 253, 254, 272, 273, 274, 275, 276, 277, 278, 279, 280, 281, 282, 283, 284, 285, 286, 302, 303, 304, 305, 287, 288, 289] (by decide +kernel) (by decide +kernel)
set_option maxRecDepth 20000 in
theorem gL_colors_X6_color : GoodIn wsL_colors (wsV RL 56 RX6 yX6_color wsX6_color) := goodIn_app (goodIn_of _ (by decide +kernel)) ggL_colors_X6_color
set_option maxRecDepth 20000 in
theorem ggL_colors_X6_line : GoodIn wsL_colors wsX6_line := goodIn_r _ [227, 14, 10, 15, 228, 229, 8, 230, 231, 41, 42, 36, 43, 38, 44, 45, 46, 47, 25, 48, 28, 29, 30, 31, 32, 232, 92, 93, 94, 39, 90, 95, 96, 55, 97, 98, 233, 234, 235, 236, 84, 86, 87, 88, 89, 91, 237, 238, 239, 240, 99, 100, 241, 242, 243, 244, 105, 106, 215, 216, 245, 218, 219, 110, 220, 113, 114, 115, 116, 117, 118, 119, 120, 121, 122, 246, 247, 248, 249, 65, 66, 67, 68, 69, 70, 71, 72, 73, 74, 250, 251, 252, 253, 254, 255, 62, 63, 64, 256, 257, 272, 273, 274, 275, 276, 277, 278, 279, 280, 281, 282, 283, 284, 285, 286, 302, 303, 304, 305, 287, 288, 289] (by decide +kernel) (by decide +kernel)
set_option maxRecDepth 20000 in
theorem gL_colors_X6_line : GoodIn wsL_colors (wsV RL 42 RX6 yX6_line wsX6_line) := goodIn_app (goodIn_of _ (by decide +kernel)) ggL_colors_X6_line
theorem dL_colors_0 : decode cL_colors 0 = .ok (.iconst 0, 1) := by decide +kernel
theorem dL_colors_1 : decode cL_colors 1 = .ok (.istore_n 3, 1) := by decide +kernel
theorem dL_colors_2 : decode cL_colors 2 = .ok (.iconst 0, 1) := by decide +kernel
theorem dL_colors_3 : decode cL_colors 3 = .ok (.istore 4, 2) := by decide +kernel
theorem dL_colors_5 : decode cL_colors 5 = .ok (.iload 4, 2) := by decide +kernel
theorem dL_colors_7 : decode cL_colors 7 = .ok (.bipush 32, 2) := by decide +kernel
theorem dL_colors_9 : decode cL_colors 9 = .ok (.if_icmp .ge 60, 3) := by decide +kernel
theorem dL_colors_12 : decode cL_colors 12 = .ok (.aload_n 0, 1) := by decide +kernel
theorem dL_colors_13 : decode cL_colors 13 = .ok (.iload_n 2, 1) := by decide +kernel
theorem dL_colors_14 : decode cL_colors 14 = .ok (.iload 4, 2) := by decide +kernel
theorem dL_colors_16 : decode cL_colors 16 = .ok (.invokestatic 52, 3) := by decide +kernel
theorem dL_colors_19 : decode cL_colors 19 = .ok (.istore 5, 2) := by decide +kernel
theorem dL_colors_21 : decode cL_colors 21 = .ok (.iload 5, 2) := by decide +kernel
theorem dL_colors_23 : decode cL_colors 23 = .ok (.ifCond .ne 7, 3) := by decide +kernel
theorem dL_colors_26 : decode cL_colors 26 = .ok (.iconst 0, 1) := by decide +kernel
theorem dL_colors_27 : decode cL_colors 27 = .ok (.goto 7, 3) := by decide +kernel
theorem dL_colors_30 : decode cL_colors 30 = .ok (.aload_n 1, 1) := by decide +kernel
theorem dL_colors_31 : decode cL_colors 31 = .ok (.iload 5, 2) := by decide +kernel
theorem dL_colors_33 : decode cL_colors 33 = .ok (.iaload, 1) := by decide +kernel
theorem dL_colors_34 : decode cL_colors 34 = .ok (.istore 6, 2) := by decide +kernel
theorem dL_colors_36 : decode cL_colors 36 = .ok (.iload_n 3, 1) := by decide +kernel
theorem dL_colors_37 : decode cL_colors 37 = .ok (.iload 6, 2) := by decide +kernel
theorem dL_colors_39 : decode cL_colors 39 = .ok (.ifCond .le 7, 3) := by decide +kernel
theorem dL_colors_42 : decode cL_colors 42 = .ok (.iconst 1, 1) := by decide +kernel
theorem dL_colors_43 : decode cL_colors 43 = .ok (.goto 4, 3) := by decide +kernel
theorem dL_colors_46 : decode cL_colors 46 = .ok (.iconst 0, 1) := by decide +kernel
theorem dL_colors_47 : decode cL_colors 47 = .ok (.iadd, 1) := by decide +kernel
theorem dL_colors_48 : decode cL_colors 48 = .ok (.istore_n 3, 1) := by decide +kernel
theorem dL_colors_49 : decode cL_colors 49 = .ok (.aload_n 0, 1) := by decide +kernel
theorem dL_colors_50 : decode cL_colors 50 = .ok (.iload_n 2, 1) := by decide +kernel
theorem dL_colors_51 : decode cL_colors 51 = .ok (.iload 4, 2) := by decide +kernel
theorem dL_colors_53 : decode cL_colors 53 = .ok (.invokevirtual 56, 3) := by decide +kernel
theorem dL_colors_56 : decode cL_colors 56 = .ok (.iload 6, 2) := by decide +kernel
theorem dL_colors_58 : decode cL_colors 58 = .ok (.if_icmp .eq 5, 3) := by decide +kernel
theorem dL_colors_61 : decode cL_colors 61 = .ok (.iconst 0, 1) := by decide +kernel
theorem dL_colors_62 : decode cL_colors 62 = .ok (.ireturn, 1) := by decide +kernel
theorem dL_colors_63 : decode cL_colors 63 = .ok (.iinc 4 1, 3) := by decide +kernel
theorem dL_colors_66 : decode cL_colors 66 = .ok (.goto (-61), 3) := by decide +kernel
theorem dL_colors_69 : decode cL_colors 69 = .ok (.aload_n 0, 1) := by decide +kernel
theorem dL_colors_70 : decode cL_colors 70 = .ok (.iload_n 2, 1) := by decide +kernel
theorem dL_colors_71 : decode cL_colors 71 = .ok (.iconst 3, 1) := by decide +kernel
theorem dL_colors_72 : decode cL_colors 72 = .ok (.invokevirtual 42, 3) := by decide +kernel
theorem dL_colors_75 : decode cL_colors 75 = .ok (.istore 4, 2) := by decide +kernel
theorem dL_colors_77 : decode cL_colors 77 = .ok (.aload_n 0, 1) := by decide +kernel
theorem dL_colors_78 : decode cL_colors 78 = .ok (.iload_n 2, 1) := by decide +kernel
theorem dL_colors_79 : decode cL_colors 79 = .ok (.iconst 2, 1) := by decide +kernel
theorem dL_colors_80 : decode cL_colors 80 = .ok (.invokevirtual 42, 3) := by decide +kernel
theorem dL_colors_83 : decode cL_colors 83 = .ok (.iload_n 3, 1) := by decide +kernel
theorem dL_colors_84 : decode cL_colors 84 = .ok (.if_icmp .ne 77, 3) := by decide +kernel
theorem dL_colors_87 : decode cL_colors 87 = .ok (.iload 4, 2) := by decide +kernel
theorem dL_colors_89 : decode cL_colors 89 = .ok (.bipush (-5), 2) := by decide +kernel
theorem dL_colors_91 : decode cL_colors 91 = .ok (.if_icmp .ne 7, 3) := by decide +kernel
theorem dL_colors_94 : decode cL_colors 94 = .ok (.iconst 1, 1) := by decide +kernel
theorem dL_colors_95 : decode cL_colors 95 = .ok (.goto 4, 3) := by decide +kernel
theorem dL_colors_98 : decode cL_colors 98 = .ok (.iconst 0, 1) := by decide +kernel
theorem dL_colors_99 : decode cL_colors 99 = .ok (.aload_n 0, 1) := by decide +kernel
theorem dL_colors_100 : decode cL_colors 100 = .ok (.iload_n 2, 1) := by decide +kernel
theorem dL_colors_101 : decode cL_colors 101 = .ok (.iconst 4, 1) := by decide +kernel
theorem dL_colors_102 : decode cL_colors 102 = .ok (.invokevirtual 42, 3) := by decide +kernel
theorem dL_colors_105 : decode cL_colors 105 = .ok (.bipush (-5), 2) := by decide +kernel
theorem dL_colors_107 : decode cL_colors 107 = .ok (.if_icmp .ne 7, 3) := by decide +kernel
theorem dL_colors_110 : decode cL_colors 110 = .ok (.iconst 1, 1) := by decide +kernel
theorem dL_colors_111 : decode cL_colors 111 = .ok (.goto 4, 3) := by decide +kernel
theorem dL_colors_114 : decode cL_colors 114 = .ok (.iconst 0, 1) := by decide +kernel
theorem dL_colors_115 : decode cL_colors 115 = .ok (.if_icmp .ne 46, 3) := by decide +kernel
theorem dL_colors_118 : decode cL_colors 118 = .ok (.iload 4, 2) := by decide +kernel
theorem dL_colors_120 : decode cL_colors 120 = .ok (.bipush (-5), 2) := by decide +kernel
theorem dL_colors_122 : decode cL_colors 122 = .ok (.if_icmp .eq 14, 3) := by decide +kernel
theorem dL_colors_125 : decode cL_colors 125 = .ok (.iload 4, 2) := by decide +kernel
theorem dL_colors_127 : decode cL_colors 127 = .ok (.aload_n 0, 1) := by decide +kernel
theorem dL_colors_128 : decode cL_colors 128 = .ok (.iload_n 2, 1) := by decide +kernel
theorem dL_colors_129 : decode cL_colors 129 = .ok (.iconst 4, 1) := by decide +kernel
theorem dL_colors_130 : decode cL_colors 130 = .ok (.invokevirtual 42, 3) := by decide +kernel
theorem dL_colors_133 : decode cL_colors 133 = .ok (.if_icmp .ge 28, 3) := by decide +kernel
theorem dL_colors_136 : decode cL_colors 136 = .ok (.aload_n 0, 1) := by decide +kernel
theorem dL_colors_137 : decode cL_colors 137 = .ok (.iload_n 2, 1) := by decide +kernel
theorem dL_colors_138 : decode cL_colors 138 = .ok (.bipush 32, 2) := by decide +kernel
theorem dL_colors_140 : decode cL_colors 140 = .ok (.invokevirtual 56, 3) := by decide +kernel
theorem dL_colors_143 : decode cL_colors 143 = .ok (.iconst (-1), 1) := by decide +kernel
theorem dL_colors_144 : decode cL_colors 144 = .ok (.if_icmp .ne 17, 3) := by decide +kernel
theorem dL_colors_147 : decode cL_colors 147 = .ok (.aload_n 0, 1) := by decide +kernel
theorem dL_colors_148 : decode cL_colors 148 = .ok (.iconst (-1), 1) := by decide +kernel
theorem dL_colors_149 : decode cL_colors 149 = .ok (.iconst 0, 1) := by decide +kernel
theorem dL_colors_150 : decode cL_colors 150 = .ok (.invokevirtual 56, 3) := by decide +kernel
theorem dL_colors_153 : decode cL_colors 153 = .ok (.iconst (-1), 1) := by decide +kernel
theorem dL_colors_154 : decode cL_colors 154 = .ok (.if_icmp .ne 7, 3) := by decide +kernel
theorem dL_colors_157 : decode cL_colors 157 = .ok (.iconst 1, 1) := by decide +kernel
theorem dL_colors_158 : decode cL_colors 158 = .ok (.goto 4, 3) := by decide +kernel
theorem dL_colors_161 : decode cL_colors 161 = .ok (.iconst 0, 1) := by decide +kernel
theorem dL_colors_162 : decode cL_colors 162 = .ok (.ireturn, 1) := by decide +kernel
set_option maxRecDepth 20000 in
theorem ggL_meets_L_covers : GoodIn wsL_meets wsL_covers := goodIn_r _ [4, 5, 6, 7, 8, 9, 10, 11, 12, 13, 14, 15, 16, 17, 18, 19, 20, 21, 22, 23, 24, 25, 26, 27, 28, 29, 30, 31, 32, 33, 34, 35, 36, 37, 38, 39, 40, 41, 42, 43, 44, 45, 46, 47, 48, 49, 50, 51, 52, 53, 54, 55, 56, 57, 58, 59, 60, 61, 62, 63, 64, 65, 66, 67, 68, 69, 70, 71, 72, 73, 74, 75, 76, 77, 78, 79, 80, 81, 82, 83, 84, 85, 86, 87, 88, 89, 90, 91, 92, 93, 94, 95, 96, 97, 98, 99, 100, 101, 102, 103, 104, 105, 106, 107, 108, 109, 110, 111, 112, 113, 114, 115, 206, 207, 208, 209, 210, 211, 212, 213, 214, 215, 216, 217, 218, 219, 220, 221, 222, 223, 224, 225, 226, 227] (by decide +kernel) (by decide +kernel)
set_option maxRecDepth 20000 in
theorem gL_meets_L_covers : GoodIn wsL_meets (va_wsS RL 32 yL_covers wsL_covers) := goodIn_app (goodIn_of _ (by decide +kernel)) ggL_meets_L_covers
set_option maxRecDepth 20000 in
theorem ggL_meets_L_isShown : GoodIn wsL_meets wsL_isShown := goodIn_r _ [118, 119, 120, 121, 8, 122, 11, 10, 123, 124, 125, 126, 127, 128, 129, 26, 130, 28, 44, 30, 31, 32, 20, 33, 34, 18, 19, 21, 22, 131, 41, 42, 43, 45, 39, 46, 47, 48, 49, 50, 132, 133, 134, 135, 29, 35, 36, 37, 38, 40, 136, 137, 138, 139, 51, 52, 140, 141, 142, 143, 75, 76, 144, 145, 146, 147, 148, 80, 149, 83, 84, 85, 86, 87, 88, 89, 90, 91, 92, 150, 151, 152, 153, 154, 155, 156, 157, 158, 159, 160, 161, 162, 163, 164, 165, 166, 167, 168, 169, 170, 171, 172, 173, 174, 175, 176, 177, 178, 179, 180, 181, 182, 206, 207, 208, 209, 210, 211, 212, 213, 214, 215, 216, 217, 218, 219, 220, 221, 222, 223, 224, 225, 226, 227] (by decide +kernel) (by decide +kernel)
set_option maxRecDepth 20000 in
theorem gL_meets_L_isShown : GoodIn wsL_meets (va_wsS RL 49 yL_isShown wsL_isShown) := goodIn_app (goodIn_of _ (by decide +kernel)) ggL_meets_L_isShown
