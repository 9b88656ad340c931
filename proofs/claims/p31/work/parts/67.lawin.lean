/-! The law's words are words of the tables. -/
theorem mem_r {big : List Cond} (ws : List Cond) (ps : List Nat) (hp : ws = ps.filterMap (fun i => big[i]?)) : ∀ w ∈ ws, w ∈ big := by
  intro w hw
  rw [hp] at hw
  obtain ⟨i, -, hi⟩ := List.mem_filterMap.mp hw
  exact List.mem_of_getElem? hi
set_option maxRecDepth 20000 in
theorem ml_wsL_law_r1 : ∀ w ∈ wsL_law_r1, w ∈ lw_tbl := mem_r wsL_law_r1 [31, 32, 20, 105, 33, 34, 35, 36, 37, 38, 39, 40, 21, 204, 106, 107, 23, 205, 125, 126, 24, 206, 145, 146] (by decide +kernel)
set_option maxRecDepth 20000 in
theorem ml_wsL_law_r2 : ∀ w ∈ wsL_law_r2, w ∈ lw_tbl := mem_r wsL_law_r2 [25, 207, 184, 185, 26, 208, 209, 41, 42, 43, 44, 68, 45, 46, 22, 78, 82, 83, 84, 85, 48, 49, 50, 64] (by decide +kernel)
set_option maxRecDepth 20000 in
theorem ml_wsL_law_r3 : ∀ w ∈ wsL_law_r3, w ∈ lw_tbl := mem_r wsL_law_r3 [55, 56, 108, 109, 110, 111, 113, 114, 115, 112, 127, 128, 129, 130, 132, 144, 133, 134, 131, 148, 149, 150, 183, 151] (by decide +kernel)
set_option maxRecDepth 20000 in
theorem ml_wsL_law_r4 : ∀ w ∈ wsL_law_r4, w ∈ lw_tbl := mem_r wsL_law_r4 [186, 187, 188, 189, 190, 193, 192, 223, 224, 225, 226, 79, 52, 227, 228, 229, 230, 195, 194, 231, 233, 0, 234, 235] (by decide +kernel)
set_option maxRecDepth 20000 in
theorem ml_wsL_law_r5 : ∀ w ∈ wsL_law_r5, w ∈ lw_tbl := mem_r wsL_law_r5 [236, 27, 237, 238, 239, 240, 241, 65, 71, 75, 249, 248, 247, 28, 242, 243, 244, 245, 51, 246, 250, 251, 252, 253] (by decide +kernel)
set_option maxRecDepth 20000 in
theorem ml_wsL_law_r6 : ∀ w ∈ wsL_law_r6, w ∈ lw_tbl := mem_r wsL_law_r6 [254, 255, 256, 257, 301, 302, 303, 304, 77, 262, 264, 1, 265, 305, 306, 307, 308, 309, 310, 311, 533, 534, 19, 535] (by decide +kernel)
set_option maxRecDepth 20000 in
theorem ml_wsL_law_r7 : ∀ w ∈ wsL_law_r7, w ∈ lw_tbl := mem_r wsL_law_r7 [536, 537, 538, 539, 540, 483, 484, 485, 486, 67, 70, 73, 196, 153, 487, 488, 489, 490, 324, 325, 326, 327, 491, 492] (by decide +kernel)
set_option maxRecDepth 20000 in
theorem ml_wsL_law_r8 : ∀ w ∈ wsL_law_r8, w ∈ lw_tbl := mem_r wsL_law_r8 [493, 494, 69, 495, 457, 458, 459, 74, 396, 397, 398, 399, 496, 497, 498, 499, 500, 332, 27, 333, 354, 355, 356, 357] (by decide +kernel)
set_option maxRecDepth 20000 in
theorem ml_wsL_law_r9 : ∀ w ∈ wsL_law_r9, w ∈ lw_tbl := mem_r wsL_law_r9 [358, 359, 360, 361, 362, 363, 364, 365, 366, 367, 368, 369, 501, 502, 503, 504, 416, 418, 4, 419, 66, 400, 401, 402] (by decide +kernel)
set_option maxRecDepth 20000 in
theorem ml_wsL_law_r10 : ∀ w ∈ wsL_law_r10, w ∈ lw_tbl := mem_r wsL_law_r10 [403, 404, 405, 406, 407, 408, 329, 330, 72, 410, 411, 420, 422, 5, 423, 81, 424, 425, 426, 427, 428, 441, 273, 274] (by decide +kernel)
set_option maxRecDepth 20000 in
theorem ml_wsL_law_r11 : ∀ w ∈ wsL_law_r11, w ∈ lw_tbl := mem_r wsL_law_r11 [275, 276, 277, 278, 279, 280, 429, 430, 431, 432, 436, 437, 438, 439, 440, 433, 434, 435, 442, 444, 6, 445, 505, 447] (by decide +kernel)
set_option maxRecDepth 20000 in
theorem ml_wsL_law_r12 : ∀ w ∈ wsL_law_r12, w ∈ lw_tbl := mem_r wsL_law_r12 [29, 448, 449, 450, 451, 506, 507, 508, 509, 54, 510, 512, 8, 513, 514, 515, 516, 517, 518, 519, 520, 521, 522, 523] (by decide +kernel)
set_option maxRecDepth 20000 in
theorem ml_wsL_law_r13 : ∀ w ∈ wsL_law_r13, w ∈ lw_tbl := mem_r wsL_law_r13 [524, 525, 532, 526, 527, 30, 528, 529, 530, 531, 384, 385, 386, 387, 266, 267, 268, 269, 270, 271, 272, 258, 259, 260] (by decide +kernel)
set_option maxRecDepth 20000 in
theorem ml_wsL_law_r14 : ∀ w ∈ wsL_law_r14, w ∈ lw_tbl := mem_r wsL_law_r14 [261, 281, 282, 283, 284, 285, 660, 661, 662, 663, 664, 665, 666, 667, 668, 669, 670, 159, 155, 157, 671, 672, 673, 674] (by decide +kernel)
set_option maxRecDepth 20000 in
theorem ml_wsL_law_r15 : ∀ w ∈ wsL_law_r15, w ∈ lw_tbl := mem_r wsL_law_r15 [154, 156, 158, 160, 162, 163, 152, 675, 677, 14, 678, 679, 681, 15, 682, 161, 683, 685, 16, 686, 687, 689, 17, 690] (by decide +kernel)
set_option maxRecDepth 20000 in
theorem ml_wsL_law_r16 : ∀ w ∈ wsL_law_r16, w ∈ lw_tbl := mem_r wsL_law_r16 [691, 693, 18, 694, 695, 696, 697, 698, 699, 700, 701, 702, 703, 704, 705, 706, 388, 389, 390, 391, 316, 318, 2, 319] (by decide +kernel)
set_option maxRecDepth 20000 in
theorem ml_wsL_law_r17 : ∀ w ∈ wsL_law_r17, w ∈ lw_tbl := mem_r wsL_law_r17 [342, 392, 393, 394, 395, 320, 321, 322, 323, 328, 331, 412, 413, 414, 415, 446, 334, 335, 336, 337, 338, 340, 3, 341] (by decide +kernel)
set_option maxRecDepth 20000 in
theorem ml_wsL_law_r18 : ∀ w ∈ wsL_law_r18, w ∈ lw_tbl := mem_r wsL_law_r18 [312, 313, 314, 315, 343, 344, 345, 346, 347, 348, 349, 290, 291, 292, 350, 351, 352, 353, 452, 453, 454, 455, 456, 460] (by decide +kernel)
set_option maxRecDepth 20000 in
theorem ml_wsL_law_r19 : ∀ w ∈ wsL_law_r19, w ∈ lw_tbl := mem_r wsL_law_r19 [461, 462, 463, 464, 465, 466, 467, 468, 469, 471, 7, 472, 474, 475, 476, 477, 478, 479, 294, 295, 296, 480, 481, 482] (by decide +kernel)
set_option maxRecDepth 20000 in
theorem ml_wsL_law_r20 : ∀ w ∈ wsL_law_r20, w ∈ lw_tbl := mem_r wsL_law_r20 [370, 371, 372, 373, 374, 375, 376, 377, 378, 379, 380, 381, 382, 383, 286, 287, 288, 289, 293, 297, 298, 299, 300, 602] (by decide +kernel)
set_option maxRecDepth 20000 in
theorem ml_wsL_law_r21 : ∀ w ∈ wsL_law_r21, w ∈ lw_tbl := mem_r wsL_law_r21 [603, 604, 605, 606, 607, 587, 588, 589, 590, 573, 591, 544, 545, 546, 547, 548, 549, 550, 551, 608, 609, 610, 611, 612] (by decide +kernel)
set_option maxRecDepth 20000 in
theorem ml_wsL_law_r22 : ∀ w ∈ wsL_law_r22, w ∈ lw_tbl := mem_r wsL_law_r22 [613, 614, 615, 80, 616, 618, 9, 619, 53, 620, 621, 622, 623, 624, 625, 626, 628, 10, 629, 76, 630, 631, 633, 11] (by decide +kernel)
set_option maxRecDepth 20000 in
theorem ml_wsL_law_r23 : ∀ w ∈ wsL_law_r23, w ∈ lw_tbl := mem_r wsL_law_r23 [634, 635, 637, 12, 638, 639, 640, 641, 642, 643, 645, 13, 646, 647, 648, 649, 650, 651, 652, 653, 654, 655, 656, 657] (by decide +kernel)
set_option maxRecDepth 20000 in
theorem ml_wsL_law_r24 : ∀ w ∈ wsL_law_r24, w ∈ lw_tbl := mem_r wsL_law_r24 [658, 659, 541, 542, 543, 552, 553, 554, 592, 593, 594, 558, 559, 560, 584, 585, 586, 561, 562, 563, 564, 565, 566, 567] (by decide +kernel)
set_option maxRecDepth 20000 in
theorem ml_wsL_law_r25 : ∀ w ∈ wsL_law_r25, w ∈ lw_tbl := mem_r wsL_law_r25 [568, 581, 582, 583, 595, 596, 597, 598, 574, 555, 556, 557, 569, 570, 571, 572, 575, 576, 577, 578, 579, 580, 599, 600] (by decide +kernel)
set_option maxRecDepth 20000 in
theorem ml_wsL_law_r26 : ∀ w ∈ wsL_law_r26, w ∈ lw_tbl := mem_r wsL_law_r26 [601, 707, 708, 709, 710, 711, 712, 713, 714, 715, 716, 717, 718, 719, 720, 721, 722] (by decide +kernel)
set_option maxRecDepth 20000 in
theorem ml_wsX00 : ∀ w ∈ wsX00, w ∈ lw_tbl := mem_r wsX00 [197, 199, 201] (by decide +kernel)
set_option maxRecDepth 20000 in
theorem ml_wsX10 : ∀ w ∈ wsX10, w ∈ lw_tbl := mem_r wsX10 [135, 137, 139, 141] (by decide +kernel)
set_option maxRecDepth 20000 in
theorem ml_wsX20 : ∀ w ∈ wsX20, w ∈ lw_tbl := mem_r wsX20 [164, 166, 168, 170, 172, 174, 176, 178, 180] (by decide +kernel)
set_option maxRecDepth 20000 in
theorem ml_wsX30 : ∀ w ∈ wsX30, w ∈ lw_tbl := mem_r wsX30 [57, 59, 61] (by decide +kernel)
set_option maxRecDepth 20000 in
theorem ml_wsX40 : ∀ w ∈ wsX40, w ∈ lw_tbl := mem_r wsX40 [86, 88, 90, 92, 94, 96, 98, 100, 102] (by decide +kernel)
set_option maxRecDepth 20000 in
theorem ml_wsX50 : ∀ w ∈ wsX50, w ∈ lw_tbl := mem_r wsX50 [116, 118, 120, 122] (by decide +kernel)
set_option maxRecDepth 20000 in
theorem ml_wsX60 : ∀ w ∈ wsX60, w ∈ lw_tbl := mem_r wsX60 [210, 212, 214, 216, 218, 220] (by decide +kernel)
theorem mem_ap {big a b : List Cond} (ha : ∀ w ∈ a, w ∈ big) (hb : ∀ w ∈ b, w ∈ big) : ∀ w ∈ a ++ b, w ∈ big := fun w h => (List.mem_append.mp h).elim (ha w) (hb w)
theorem wsL_law_in : ∀ w ∈ wsL_law, w ∈ lw_tbl := (mem_ap (mem_ap (mem_ap (mem_ap (mem_ap (mem_ap (mem_ap (mem_ap (mem_ap ml_wsL_law_r1 (mem_ap ml_wsL_law_r2 (mem_ap ml_wsL_law_r3 (mem_ap ml_wsL_law_r4 (mem_ap ml_wsL_law_r5 (mem_ap ml_wsL_law_r6 (mem_ap ml_wsL_law_r7 (mem_ap ml_wsL_law_r8 (mem_ap ml_wsL_law_r9 (mem_ap ml_wsL_law_r10 (mem_ap ml_wsL_law_r11 (mem_ap ml_wsL_law_r12 (mem_ap ml_wsL_law_r13 (mem_ap ml_wsL_law_r14 (mem_ap ml_wsL_law_r15 (mem_ap ml_wsL_law_r16 (mem_ap ml_wsL_law_r17 (mem_ap ml_wsL_law_r18 (mem_ap ml_wsL_law_r19 (mem_ap ml_wsL_law_r20 (mem_ap ml_wsL_law_r21 (mem_ap ml_wsL_law_r22 (mem_ap ml_wsL_law_r23 (mem_ap ml_wsL_law_r24 (mem_ap ml_wsL_law_r25 (ml_wsL_law_r26)))))))))))))))))))))))))) ml_wsX60) ml_wsX40) ml_wsX50) ml_wsX10) ml_wsX20) ml_wsX00) ml_wsX30) (fun _ h => absurd h List.not_mem_nil))
