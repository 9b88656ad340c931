theorem gd_sprites : GoodIn wsL_law [.code yL_sprites cL_sprites 10 (some .boolean)] := goodIn_r _ [600] (by decide +kernel) (by decide +kernel)
set_option maxRecDepth 20000 in
theorem gd_wsL_sprites_r1 : GoodIn wsL_law wsL_sprites_r1 := goodIn_r _ [149, 150, 151, 2, 152, 13, 83, 84, 128, 17, 153, 154, 155, 29, 156, 25, 157, 158, 159, 160, 12, 161, 105, 162] (by decide +kernel) (by decide +kernel)
set_option maxRecDepth 20000 in
theorem gd_wsL_sprites_r2 : GoodIn wsL_law wsL_sprites_r2 := goodIn_r _ [163, 164, 165, 40, 166, 167, 168, 16, 169, 57, 170, 171, 172, 173, 174, 175, 176, 177, 178, 179, 180, 181, 182, 183] (by decide +kernel) (by decide +kernel)
set_option maxRecDepth 20000 in
theorem gd_wsL_sprites_r3 : GoodIn wsL_law wsL_sprites_r3 := goodIn_r _ [184, 185, 186, 187, 188, 189, 190, 191, 192, 193, 194, 195, 196, 197, 198, 199, 42, 200, 201, 202, 203, 43, 204, 205] (by decide +kernel) (by decide +kernel)
set_option maxRecDepth 20000 in
theorem gd_wsL_sprites_r4 : GoodIn wsL_law wsL_sprites_r4 := goodIn_r _ [206, 207, 56, 208, 209, 210, 211, 212, 55, 213, 214, 215, 216, 54, 217, 218, 219, 220, 221, 222, 223, 224, 225, 226] (by decide +kernel) (by decide +kernel)
set_option maxRecDepth 20000 in
theorem gd_wsL_sprites_r5 : GoodIn wsL_law wsL_sprites_r5 := goodIn_r _ [227, 228, 229, 230, 231, 232, 233, 234, 235, 38, 236, 237, 238, 239, 240, 241, 48, 242, 243, 244, 245, 49, 246, 247] (by decide +kernel) (by decide +kernel)
set_option maxRecDepth 20000 in
theorem gd_wsL_sprites_r6 : GoodIn wsL_law wsL_sprites_r6 := goodIn_r _ [248, 249, 250, 251, 252, 253, 254, 255, 256, 257, 258, 259, 260, 261, 262, 263, 264, 265, 266, 267, 268, 269, 270, 271] (by decide +kernel) (by decide +kernel)
set_option maxRecDepth 20000 in
theorem gd_wsL_sprites_r7 : GoodIn wsL_law wsL_sprites_r7 := goodIn_r _ [272, 39, 273, 274, 275, 276, 277, 278, 279, 280, 281, 282, 283, 284, 285, 286, 287, 288, 289, 290, 291, 292, 293, 294] (by decide +kernel) (by decide +kernel)
set_option maxRecDepth 20000 in
theorem gd_wsL_sprites_r8 : GoodIn wsL_law wsL_sprites_r8 := goodIn_r _ [295, 296, 297, 376, 377, 378, 379, 380, 381, 382, 383, 384, 385, 386, 387, 388, 389, 390, 391, 392, 393, 394, 395, 396] (by decide +kernel) (by decide +kernel)
set_option maxRecDepth 20000 in
theorem gd_wsL_sprites_r9 : GoodIn wsL_law wsL_sprites_r9 := goodIn_r _ [397, 398, 399, 563, 564, 142, 565, 566, 567, 568, 426, 427, 428, 429, 416, 417, 418, 430, 431, 432, 433, 434, 435, 436] (by decide +kernel) (by decide +kernel)
set_option maxRecDepth 20000 in
theorem gd_wsL_sprites_r10 : GoodIn wsL_law wsL_sprites_r10 := goodIn_r _ [437, 438, 439, 440, 441, 442, 443, 303, 304, 444, 306, 307, 308, 445, 446, 447, 448, 449, 450, 451, 452, 41, 453, 454] (by decide +kernel) (by decide +kernel)
set_option maxRecDepth 20000 in
theorem gd_wsL_sprites_r11 : GoodIn wsL_law wsL_sprites_r11 := goodIn_r _ [455, 569, 570, 571, 572, 573, 574, 575, 576, 580, 581, 582, 583, 584] (by decide +kernel) (by decide +kernel)
theorem gd_sprites_wsX60 : GoodIn wsL_law wsX60 := goodIn_r _ [617, 618, 619, 620, 621, 622] (by decide +kernel) (by decide +kernel)
theorem gd_sprites_wsX40 : GoodIn wsL_law wsX40 := goodIn_r _ [623, 624, 625, 626, 627, 628, 629, 630, 631] (by decide +kernel) (by decide +kernel)
theorem gd_sprites_wsX30 : GoodIn wsL_law wsX30 := goodIn_r _ [652, 653, 654] (by decide +kernel) (by decide +kernel)
theorem gd_sprites_wsX00 : GoodIn wsL_law wsX00 := goodIn_r _ [649, 650, 651] (by decide +kernel) (by decide +kernel)
theorem gd_sprites_wsX20 : GoodIn wsL_law wsX20 := goodIn_r _ [640, 641, 642, 643, 644, 645, 646, 647, 648] (by decide +kernel) (by decide +kernel)
theorem gd_sprites_wsX50 : GoodIn wsL_law wsX50 := goodIn_r _ [632, 633, 634, 635] (by decide +kernel) (by decide +kernel)
theorem ggL_law_L_sprites : GoodIn wsL_law wsL_sprites := by
  unfold wsL_sprites
  exact goodIn_app (a := [.code yL_sprites cL_sprites 10 (some .boolean)]) gd_sprites (goodIn_app (goodIn_app (goodIn_app (goodIn_app (goodIn_app (goodIn_app (goodIn_app gd_wsL_sprites_r1 (goodIn_app gd_wsL_sprites_r2 (goodIn_app gd_wsL_sprites_r3 (goodIn_app gd_wsL_sprites_r4 (goodIn_app gd_wsL_sprites_r5 (goodIn_app gd_wsL_sprites_r6 (goodIn_app gd_wsL_sprites_r7 (goodIn_app gd_wsL_sprites_r8 (goodIn_app gd_wsL_sprites_r9 (goodIn_app gd_wsL_sprites_r10 gd_wsL_sprites_r11)))))))))) gd_sprites_wsX60) gd_sprites_wsX40) gd_sprites_wsX30) gd_sprites_wsX00) gd_sprites_wsX20) gd_sprites_wsX50)
theorem gL_law_L_sprites : GoodIn wsL_law (va_wsS RL 151 yL_sprites wsL_sprites) := goodIn_app (goodIn_of _ (by decide +kernel)) ggL_law_L_sprites
theorem gd_errors : GoodIn wsL_law [.code yL_errors cL_errors 4 (some .boolean)] := goodIn_r _ [603] (by decide +kernel) (by decide +kernel)
set_option maxRecDepth 20000 in
theorem gd_wsL_errors_r1 : GoodIn wsL_law wsL_errors_r1 := goodIn_r _ [604, 149, 150, 151, 2, 152, 13, 83, 84, 128, 17, 153, 154, 155, 29, 156, 25, 157, 158, 159, 160, 12, 161, 105] (by decide +kernel) (by decide +kernel)
set_option maxRecDepth 20000 in
theorem gd_wsL_errors_r2 : GoodIn wsL_law wsL_errors_r2 := goodIn_r _ [162, 163, 164, 165, 40, 166, 167, 168, 16, 169, 57, 170, 171, 172, 173, 174, 175, 176, 177, 178, 179, 180, 181, 182] (by decide +kernel) (by decide +kernel)
set_option maxRecDepth 20000 in
theorem gd_wsL_errors_r3 : GoodIn wsL_law wsL_errors_r3 := goodIn_r _ [183, 184, 185, 186, 187, 188, 189, 190, 191, 192, 193, 194, 195, 196, 197, 198, 199, 42, 200, 201, 202, 203, 43, 204] (by decide +kernel) (by decide +kernel)
set_option maxRecDepth 20000 in
theorem gd_wsL_errors_r4 : GoodIn wsL_law wsL_errors_r4 := goodIn_r _ [205, 206, 207, 56, 208, 209, 210, 211, 212, 55, 213, 214, 215, 216, 54, 217, 218, 219, 220, 221, 222, 223, 224, 225] (by decide +kernel) (by decide +kernel)
set_option maxRecDepth 20000 in
theorem gd_wsL_errors_r5 : GoodIn wsL_law wsL_errors_r5 := goodIn_r _ [226, 227, 228, 229, 230, 231, 232, 233, 234, 235, 38, 236, 237, 238, 239, 240, 241, 48, 242, 243, 244, 245, 49, 246] (by decide +kernel) (by decide +kernel)
set_option maxRecDepth 20000 in
theorem gd_wsL_errors_r6 : GoodIn wsL_law wsL_errors_r6 := goodIn_r _ [247, 248, 249, 250, 251, 252, 253, 254, 255, 256, 257, 258, 259, 260, 261, 262, 263, 264, 265, 266, 267, 268, 269, 270] (by decide +kernel) (by decide +kernel)
set_option maxRecDepth 20000 in
theorem gd_wsL_errors_r7 : GoodIn wsL_law wsL_errors_r7 := goodIn_r _ [271, 272, 39, 273, 274, 275, 276, 277, 278, 279, 280, 281, 282, 283, 284, 285, 286, 287, 288, 289, 290, 291, 292, 293] (by decide +kernel) (by decide +kernel)
set_option maxRecDepth 20000 in
theorem gd_wsL_errors_r8 : GoodIn wsL_law wsL_errors_r8 := goodIn_r _ [294, 295, 296, 297, 309, 310, 311, 312, 129, 130, 131, 132, 302, 303, 304, 85, 86, 87, 28, 88, 89, 90, 91, 92] (by decide +kernel) (by decide +kernel)
set_option maxRecDepth 20000 in
theorem gd_wsL_errors_r9 : GoodIn wsL_law wsL_errors_r9 := goodIn_r _ [93, 94, 77, 95, 96, 97, 98, 99, 100, 101, 102, 103, 35, 104, 106, 107, 108, 109, 41, 110, 111, 112, 113, 114] (by decide +kernel) (by decide +kernel)
set_option maxRecDepth 20000 in
theorem gd_wsL_errors_r10 : GoodIn wsL_law wsL_errors_r10 := goodIn_r _ [115, 305, 306, 307, 308, 313, 314, 315, 316, 317, 120, 121, 122, 123, 470, 471, 472, 473, 419, 420, 421, 474, 450, 451] (by decide +kernel) (by decide +kernel)
set_option maxRecDepth 20000 in
theorem gd_wsL_errors_r11 : GoodIn wsL_law wsL_errors_r11 := goodIn_r _ [452, 475, 476, 477, 478, 124, 125, 126, 127, 133, 134, 135, 136, 137, 138, 139, 408, 409, 410, 411, 380, 381, 382, 383] (by decide +kernel) (by decide +kernel)
set_option maxRecDepth 20000 in
theorem gd_wsL_errors_r12 : GoodIn wsL_law wsL_errors_r12 := goodIn_r _ [389, 390, 391, 392, 393, 394, 400, 401, 402, 403, 404, 405, 406, 407, 384, 412, 413, 414, 415, 416, 417, 418, 422, 423] (by decide +kernel) (by decide +kernel)
set_option maxRecDepth 20000 in
theorem gd_wsL_errors_r13 : GoodIn wsL_law wsL_errors_r13 := goodIn_r _ [424, 425, 456, 457, 458, 459, 460, 461, 462, 463, 464, 465, 466, 467, 468, 469, 298, 299, 300, 301, 491, 492, 493, 494] (by decide +kernel) (by decide +kernel)
set_option maxRecDepth 20000 in
theorem gd_wsL_errors_r14 : GoodIn wsL_law wsL_errors_r14 := goodIn_r _ [495, 496, 497, 498, 580, 581, 582, 583, 395, 396, 397, 398, 584, 426, 427, 428, 429, 430, 431, 432, 433, 434, 435, 436] (by decide +kernel) (by decide +kernel)
set_option maxRecDepth 20000 in
theorem gd_wsL_errors_r15 : GoodIn wsL_law wsL_errors_r15 := goodIn_r _ [437, 438, 439, 440, 441, 442, 443, 444, 445, 446, 447, 448, 449, 453, 454, 455, 569, 570, 571, 572, 573, 574, 575, 576] (by decide +kernel) (by decide +kernel)
set_option maxRecDepth 20000 in
theorem gd_wsL_errors_r16 : GoodIn wsL_law wsL_errors_r16 := goodIn_r _ [588, 589, 590, 591, 489, 605, 606, 607, 608, 30, 10, 11, 609, 610, 611, 31, 32, 33, 34, 8, 9, 36, 37, 3] (by decide +kernel) (by decide +kernel)
set_option maxRecDepth 20000 in
theorem gd_wsL_errors_r17 : GoodIn wsL_law wsL_errors_r17 := goodIn_r _ [44, 45, 46, 47, 612, 613, 614, 615, 616] (by decide +kernel) (by decide +kernel)
theorem gd_errors_wsX60 : GoodIn wsL_law wsX60 := goodIn_r _ [617, 618, 619, 620, 621, 622] (by decide +kernel) (by decide +kernel)
theorem gd_errors_wsX40 : GoodIn wsL_law wsX40 := goodIn_r _ [623, 624, 625, 626, 627, 628, 629, 630, 631] (by decide +kernel) (by decide +kernel)
theorem gd_errors_wsX30 : GoodIn wsL_law wsX30 := goodIn_r _ [652, 653, 654] (by decide +kernel) (by decide +kernel)
theorem gd_errors_wsX00 : GoodIn wsL_law wsX00 := goodIn_r _ [649, 650, 651] (by decide +kernel) (by decide +kernel)
theorem gd_errors_wsX20 : GoodIn wsL_law wsX20 := goodIn_r _ [640, 641, 642, 643, 644, 645, 646, 647, 648] (by decide +kernel) (by decide +kernel)
theorem gd_errors_wsX50 : GoodIn wsL_law wsX50 := goodIn_r _ [632, 633, 634, 635] (by decide +kernel) (by decide +kernel)
theorem ggL_law_L_errors : GoodIn wsL_law wsL_errors := by
  unfold wsL_errors
  exact goodIn_app (a := [.code yL_errors cL_errors 4 (some .boolean)]) gd_errors (goodIn_app (goodIn_app (goodIn_app (goodIn_app (goodIn_app (goodIn_app (goodIn_app gd_wsL_errors_r1 (goodIn_app gd_wsL_errors_r2 (goodIn_app gd_wsL_errors_r3 (goodIn_app gd_wsL_errors_r4 (goodIn_app gd_wsL_errors_r5 (goodIn_app gd_wsL_errors_r6 (goodIn_app gd_wsL_errors_r7 (goodIn_app gd_wsL_errors_r8 (goodIn_app gd_wsL_errors_r9 (goodIn_app gd_wsL_errors_r10 (goodIn_app gd_wsL_errors_r11 (goodIn_app gd_wsL_errors_r12 (goodIn_app gd_wsL_errors_r13 (goodIn_app gd_wsL_errors_r14 (goodIn_app gd_wsL_errors_r15 (goodIn_app gd_wsL_errors_r16 gd_wsL_errors_r17)))))))))))))))) gd_errors_wsX60) gd_errors_wsX40) gd_errors_wsX30) gd_errors_wsX00) gd_errors_wsX20) gd_errors_wsX50)
theorem gL_law_L_errors : GoodIn wsL_law (va_wsS RL 155 yL_errors wsL_errors) := goodIn_app (goodIn_of _ (by decide +kernel)) ggL_law_L_errors
