set_option maxRecDepth 20000 in
theorem ggL_law_X6_sprite : GoodIn wsL_law wsX6_sprite := goodIn_r _ [379, 13, 17, 380, 381, 382, 2, 383, 128, 384, 163, 164, 12, 165, 40, 385, 386, 387, 16, 388, 57, 212, 176, 177, 178, 179, 162, 213, 214, 215, 216, 54, 217, 218, 219, 220, 175, 170, 221, 222, 186, 223, 224, 225, 226, 389, 390, 391, 392, 393, 394, 185, 187, 395, 396, 397, 398, 56, 208, 209, 210, 211, 55, 227, 228, 229, 230, 231, 232, 233, 234, 235, 38, 236, 237, 238, 239, 240, 241, 48, 242, 243, 244, 245, 49, 246, 247, 248, 249, 250, 251, 252, 253, 254, 255, 256, 257, 258, 259, 260, 261, 399, 263, 264, 265, 266, 267, 268, 617, 618, 619, 620, 621, 622, 623, 624, 625, 626, 627, 628, 629, 630, 631, 632, 633, 634, 635, 652, 653, 654] (by decide +kernel) (by decide +kernel)
set_option maxRecDepth 20000 in
theorem gL_law_X6_sprite : GoodIn wsL_law (wsV RL 25 RX6 yX6_sprite wsX6_sprite) := goodIn_app (goodIn_of _ (by decide +kernel)) ggL_law_X6_sprite
set_option maxRecDepth 20000 in
theorem ggL_law_X6_set : GoodIn wsL_law wsX6_set := goodIn_r _ [403, 29, 13, 380, 381, 382, 2, 383, 128, 404, 405, 406, 407, 83, 84, 85, 86, 87, 28, 88, 89, 90, 91, 92, 93, 94, 77, 95, 96, 97, 98, 99, 100, 101, 12, 102, 103, 35, 104, 105, 39, 40, 106, 107, 108, 109, 41, 42, 43, 110, 111, 112, 38, 113, 114, 48, 115, 49, 384, 163, 164, 165, 136, 137, 138, 139, 617, 618, 619, 620, 621, 622, 623, 624, 625, 626, 627, 628, 629, 630, 631, 652, 653, 654, 649, 650, 651] (by decide +kernel) (by decide +kernel)
set_option maxRecDepth 20000 in
theorem gL_law_X6_set : GoodIn wsL_law (wsV RL 100 RX6 yX6_set wsX6_set) := goodIn_app (goodIn_of _ (by decide +kernel)) ggL_law_X6_set
set_option maxRecDepth 20000 in
theorem ggL_law_X6_move : GoodIn wsL_law wsX6_move := goodIn_r _ [411, 29, 13, 380, 381, 382, 2, 383, 128, 133, 134, 135, 85, 86, 87, 28, 88, 89, 90, 91, 92, 93, 94, 77, 95, 96, 97, 98, 99, 100, 101, 12, 102, 103, 35, 104, 105, 39, 40, 106, 107, 108, 109, 41, 42, 43, 110, 111, 112, 38, 113, 114, 48, 115, 49, 136, 137, 138, 139, 389, 390, 391, 392, 393, 222, 186, 223, 394, 185, 187, 162, 163, 164, 165, 617, 618, 619, 620, 621, 622, 623, 624, 625, 626, 627, 628, 629, 630, 631, 649, 650, 651, 652, 653, 654] (by decide +kernel) (by decide +kernel)
set_option maxRecDepth 20000 in
theorem gL_law_X6_move : GoodIn wsL_law (wsV RL 97 RX6 yX6_move wsX6_move) := goodIn_app (goodIn_of _ (by decide +kernel)) ggL_law_X6_move
set_option maxRecDepth 20000 in
theorem ggL_law_X6_swap : GoodIn wsL_law wsX6_swap := goodIn_r _ [415, 29, 13, 416, 417, 2, 418, 419, 420, 421, 85, 86, 87, 28, 88, 89, 90, 91, 92, 93, 94, 77, 95, 96, 97, 98, 99, 100, 101, 12, 102, 103, 35, 104, 105, 39, 40, 106, 107, 108, 109, 41, 42, 43, 110, 111, 112, 38, 113, 114, 48, 115, 49, 422, 423, 424, 425, 393, 222, 186, 223, 394, 185, 187, 188, 189, 190, 191, 192, 193, 194, 195, 196, 197, 198, 199, 200, 201, 202, 203, 617, 618, 619, 620, 621, 622, 649, 650, 651, 623, 624, 625, 626, 627, 628, 629, 630, 631, 652, 653, 654] (by decide +kernel) (by decide +kernel)
set_option maxRecDepth 20000 in
theorem gL_law_X6_swap : GoodIn wsL_law (wsV RL 103 RX6 yX6_swap wsX6_swap) := goodIn_app (goodIn_of _ (by decide +kernel)) ggL_law_X6_swap
set_option maxRecDepth 20000 in
theorem ggL_law_X6_line : GoodIn wsL_law wsX6_line := goodIn_r _ [429, 17, 13, 153, 416, 417, 2, 418, 430, 172, 173, 16, 174, 57, 175, 176, 177, 178, 12, 179, 162, 163, 164, 165, 40, 431, 218, 219, 220, 170, 54, 221, 222, 186, 223, 224, 432, 433, 434, 435, 212, 213, 214, 215, 216, 217, 436, 437, 438, 439, 225, 226, 440, 441, 442, 443, 231, 232, 303, 304, 444, 306, 307, 38, 308, 238, 239, 240, 241, 48, 242, 243, 244, 245, 49, 445, 446, 447, 448, 196, 197, 198, 199, 42, 200, 201, 202, 203, 43, 449, 450, 451, 452, 41, 453, 193, 194, 195, 454, 455, 617, 618, 619, 620, 621, 622, 623, 624, 625, 626, 627, 628, 629, 630, 631, 632, 633, 634, 635, 652, 653, 654] (by decide +kernel) (by decide +kernel)
set_option maxRecDepth 20000 in
theorem gL_law_X6_line : GoodIn wsL_law (wsV RL 42 RX6 yX6_line wsX6_line) := goodIn_app (goodIn_of _ (by decide +kernel)) ggL_law_X6_line
set_option maxRecDepth 20000 in
theorem ggL_law_X6_setLimit : GoodIn wsL_law wsX6_setLimit := goodIn_r _ [459, 29, 13, 154, 85, 86, 87, 28, 88, 89, 90, 91, 92, 93, 94, 77, 95, 96, 97, 98, 99, 100, 101, 12, 102, 103, 35, 104, 105, 39, 40, 106, 107, 108, 109, 41, 42, 43, 110, 111, 112, 38, 113, 114, 48, 115, 49, 617, 618, 619, 620, 621, 622, 623, 624, 625, 626, 627, 628, 629, 630, 631, 649, 650, 651, 652, 653, 654] (by decide +kernel) (by decide +kernel)
set_option maxRecDepth 20000 in
theorem gL_law_X6_setLimit : GoodIn wsL_law (wsV RL 106 RX6 yX6_setLimit wsX6_setLimit) := goodIn_app (goodIn_of _ (by decide +kernel)) ggL_law_X6_setLimit
set_option maxRecDepth 20000 in
theorem ggL_law_X6_setStride : GoodIn wsL_law wsX6_setStride := goodIn_r _ [463, 29, 13, 155, 85, 86, 87, 28, 88, 89, 90, 91, 92, 93, 94, 77, 95, 96, 97, 98, 99, 100, 101, 12, 102, 103, 35, 104, 105, 39, 40, 106, 107, 108, 109, 41, 42, 43, 110, 111, 112, 38, 113, 114, 48, 115, 49, 617, 618, 619, 620, 621, 622, 623, 624, 625, 626, 627, 628, 629, 630, 631, 649, 650, 651, 652, 653, 654] (by decide +kernel) (by decide +kernel)
set_option maxRecDepth 20000 in
theorem gL_law_X6_setStride : GoodIn wsL_law (wsV RL 109 RX6 yX6_setStride wsX6_setStride) := goodIn_app (goodIn_of _ (by decide +kernel)) ggL_law_X6_setStride
set_option maxRecDepth 20000 in
theorem ggL_law_X6_next : GoodIn wsL_law wsX6_next := goodIn_r _ [467, 468, 13, 153, 469, 29, 85, 86, 87, 28, 88, 89, 90, 91, 92, 93, 94, 77, 95, 96, 97, 98, 99, 100, 101, 12, 102, 103, 35, 104, 105, 39, 40, 106, 107, 108, 109, 41, 42, 43, 110, 111, 112, 38, 113, 114, 48, 115, 49, 617, 618, 619, 620, 621, 622, 623, 624, 625, 626, 627, 628, 629, 630, 631, 649, 650, 651, 652, 653, 654] (by decide +kernel) (by decide +kernel)
set_option maxRecDepth 20000 in
theorem gL_law_X6_next : GoodIn wsL_law (wsV RL 112 RX6 yX6_next wsX6_next) := goodIn_app (goodIn_of _ (by decide +kernel)) ggL_law_X6_next
set_option maxRecDepth 20000 in
theorem ggL_law_X6_setColor : GoodIn wsL_law wsX6_setColor := goodIn_r _ [473, 29, 13, 419, 420, 2, 421, 85, 86, 87, 28, 88, 89, 90, 91, 92, 93, 94, 77, 95, 96, 97, 98, 99, 100, 101, 12, 102, 103, 35, 104, 105, 39, 40, 106, 107, 108, 109, 41, 42, 43, 110, 111, 112, 38, 113, 114, 48, 115, 49, 474, 450, 451, 452, 475, 476, 477, 478, 617, 618, 619, 620, 621, 622, 649, 650, 651, 623, 624, 625, 626, 627, 628, 629, 630, 631, 652, 653, 654] (by decide +kernel) (by decide +kernel)
set_option maxRecDepth 20000 in
theorem gL_law_X6_setColor : GoodIn wsL_law (wsV RL 91 RX6 yX6_setColor wsX6_setColor) := goodIn_app (goodIn_of _ (by decide +kernel)) ggL_law_X6_setColor
