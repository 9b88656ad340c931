/-! The law's words are words of the tables. -/
theorem mem_r {big : List Cond} (ws : List Cond) (ps : List Nat) (hp : ws = ps.filterMap (fun i => big[i]?)) : ∀ w ∈ ws, w ∈ big := by
  intro w hw
  rw [hp] at hw
  obtain ⟨i, -, hi⟩ := List.mem_filterMap.mp hw
  exact List.mem_of_getElem? hi
set_option maxRecDepth 20000 in
theorem ml_wsL_law_r1 : ∀ w ∈ wsL_law_r1, w ∈ lw_tbl := mem_r wsL_law_r1 [65, 66, 53, 716, 717, 60, 67, 68, 69, 70, 71, 72, 73, 74, 54, 238, 140, 141, 56, 239, 159, 160, 57, 240] (by decide +kernel)
set_option maxRecDepth 20000 in
theorem ml_wsL_law_r2 : ∀ w ∈ wsL_law_r2, w ∈ lw_tbl := mem_r wsL_law_r2 [179, 180, 58, 241, 218, 219, 59, 242, 243, 75, 76, 77, 78, 102, 79, 80, 55, 112, 139, 116, 117, 118, 119, 82] (by decide +kernel)
set_option maxRecDepth 20000 in
theorem ml_wsL_law_r3 : ∀ w ∈ wsL_law_r3, w ∈ lw_tbl := mem_r wsL_law_r3 [83, 84, 98, 89, 90, 142, 143, 144, 145, 147, 148, 149, 146, 161, 162, 163, 164, 166, 178, 167, 168, 165, 182, 183] (by decide +kernel)
set_option maxRecDepth 20000 in
theorem ml_wsL_law_r4 : ∀ w ∈ wsL_law_r4, w ∈ lw_tbl := mem_r wsL_law_r4 [184, 217, 185, 220, 221, 222, 223, 224, 227, 226, 718, 719, 720, 721, 722, 723, 724, 726, 727, 728, 729, 731, 733, 257] (by decide +kernel)
set_option maxRecDepth 20000 in
theorem ml_wsL_law_r5 : ∀ w ∈ wsL_law_r5, w ∈ lw_tbl := mem_r wsL_law_r5 [258, 259, 260, 113, 86, 261, 262, 263, 264, 229, 228, 265, 267, 0, 268, 269, 270, 61, 271, 272, 273, 274, 275, 99] (by decide +kernel)
set_option maxRecDepth 20000 in
theorem ml_wsL_law_r6 : ∀ w ∈ wsL_law_r6, w ∈ lw_tbl := mem_r wsL_law_r6 [105, 109, 283, 282, 281, 62, 276, 277, 278, 279, 85, 280, 284, 285, 286, 287, 288, 289, 290, 291, 806, 807, 808, 809] (by decide +kernel)
set_option maxRecDepth 20000 in
theorem ml_wsL_law_r7 : ∀ w ∈ wsL_law_r7, w ∈ lw_tbl := mem_r wsL_law_r7 [774, 776, 19, 777, 778, 780, 20, 781, 725, 292, 293, 294, 295, 296, 298, 1, 299, 300, 301, 302, 303, 304, 305, 306] (by decide +kernel)
set_option maxRecDepth 20000 in
theorem ml_wsL_law_r8 : ∀ w ∈ wsL_law_r8, w ∈ lw_tbl := mem_r wsL_law_r8 [307, 308, 309, 310, 311, 312, 313, 314, 315, 316, 317, 318, 319, 810, 811, 812, 813, 786, 788, 21, 789, 767, 768, 769] (by decide +kernel)
set_option maxRecDepth 20000 in
theorem ml_wsL_law_r9 : ∀ w ∈ wsL_law_r9, w ∈ lw_tbl := mem_r wsL_law_r9 [802, 804, 25, 805, 814, 816, 26, 817, 320, 321, 322, 323, 187, 324, 325, 326, 327, 186, 846, 847, 848, 849, 730, 328] (by decide +kernel)
set_option maxRecDepth 20000 in
theorem ml_wsL_law_r10 : ∀ w ∈ wsL_law_r10, w ∈ lw_tbl := mem_r wsL_law_r10 [329, 330, 331, 850, 851, 852, 853, 332, 333, 334, 335, 193, 189, 191, 336, 337, 338, 339, 188, 190, 192, 194, 196, 197] (by decide +kernel)
set_option maxRecDepth 20000 in
theorem ml_wsL_law_r11 : ∀ w ∈ wsL_law_r11, w ∈ lw_tbl := mem_r wsL_law_r11 [340, 342, 2, 343, 344, 346, 3, 347, 195, 348, 350, 4, 351, 352, 354, 5, 355, 356, 358, 6, 359, 360, 361, 362] (by decide +kernel)
set_option maxRecDepth 20000 in
theorem ml_wsL_law_r12 : ∀ w ∈ wsL_law_r12, w ∈ lw_tbl := mem_r wsL_law_r12 [363, 854, 855, 856, 857, 732, 858, 860, 32, 861, 862, 864, 33, 865, 364, 365, 366, 367, 368, 369, 370, 371, 114, 372] (by decide +kernel)
set_option maxRecDepth 20000 in
theorem ml_wsL_law_r13 : ∀ w ∈ wsL_law_r13, w ∈ lw_tbl := mem_r wsL_law_r13 [374, 7, 375, 87, 376, 377, 61, 378, 379, 380, 381, 382, 383, 384, 385, 386, 387, 388, 389, 390, 394, 395, 396, 397] (by decide +kernel)
set_option maxRecDepth 20000 in
theorem ml_wsL_law_r14 : ∀ w ∈ wsL_law_r14, w ∈ lw_tbl := mem_r wsL_law_r14 [398, 391, 392, 393, 399, 401, 8, 402, 110, 403, 404, 405, 406, 407, 409, 9, 410, 411, 413, 10, 414, 415, 416, 417] (by decide +kernel)
set_option maxRecDepth 20000 in
theorem ml_wsL_law_r15 : ∀ w ∈ wsL_law_r15, w ∈ lw_tbl := mem_r wsL_law_r15 [418, 419, 421, 11, 422, 423, 424, 425, 426, 427, 428, 429, 430, 818, 819, 820, 821, 790, 792, 22, 793, 794, 796, 23] (by decide +kernel)
set_option maxRecDepth 20000 in
theorem ml_wsL_law_r16 : ∀ w ∈ wsL_law_r16, w ∈ lw_tbl := mem_r wsL_law_r16 [797, 798, 800, 24, 801, 822, 824, 27, 825, 826, 828, 28, 829, 830, 832, 29, 833, 834, 836, 30, 837, 838, 840, 31] (by decide +kernel)
set_option maxRecDepth 20000 in
theorem ml_wsL_law_r17 : ∀ w ∈ wsL_law_r17, w ∈ lw_tbl := mem_r wsL_law_r17 [841, 431, 432, 433, 434, 435, 436, 437, 438, 439, 440, 441, 442, 443, 444, 445, 842, 843, 844, 845, 446, 447, 448, 449] (by decide +kernel)
set_option maxRecDepth 20000 in
theorem ml_wsL_law_r18 : ∀ w ∈ wsL_law_r18, w ∈ lw_tbl := mem_r wsL_law_r18 [111, 450, 451, 452, 453, 866, 867, 868, 869, 870, 871, 872, 454, 455, 456, 457, 458, 460, 12, 461, 462, 463, 464, 465] (by decide +kernel)
set_option maxRecDepth 20000 in
theorem ml_wsL_law_r19 : ∀ w ∈ wsL_law_r19, w ∈ lw_tbl := mem_r wsL_law_r19 [467, 468, 469, 470, 466, 873, 874, 875, 876, 877, 879, 34, 880, 881, 883, 35, 884, 885, 887, 36, 888, 471, 472, 473] (by decide +kernel)
set_option maxRecDepth 20000 in
theorem ml_wsL_law_r20 : ∀ w ∈ wsL_law_r20, w ∈ lw_tbl := mem_r wsL_law_r20 [474, 475, 477, 13, 478, 479, 889, 890, 891, 892, 480, 481, 482, 483, 484, 485, 486, 487, 488, 489, 490, 491, 492, 493] (by decide +kernel)
set_option maxRecDepth 20000 in
theorem ml_wsL_law_r21 : ∀ w ∈ wsL_law_r21, w ∈ lw_tbl := mem_r wsL_law_r21 [494, 495, 496, 497, 498, 499, 500, 501, 502, 503, 504, 505, 506, 893, 894, 895, 896, 897, 898, 899, 900, 902, 37, 903] (by decide +kernel)
set_option maxRecDepth 20000 in
theorem ml_wsL_law_r22 : ∀ w ∈ wsL_law_r22, w ∈ lw_tbl := mem_r wsL_law_r22 [507, 508, 509, 510, 104, 904, 905, 906, 907, 511, 512, 513, 514, 107, 908, 909, 910, 911, 515, 516, 517, 518, 519, 101] (by decide +kernel)
set_option maxRecDepth 20000 in
theorem ml_wsL_law_r23 : ∀ w ∈ wsL_law_r23, w ∈ lw_tbl := mem_r wsL_law_r23 [520, 912, 913, 914, 915, 916, 917, 521, 522, 523, 524, 230, 525, 526, 527, 528, 759, 760, 761, 762, 529, 530, 531, 532] (by decide +kernel)
set_option maxRecDepth 20000 in
theorem ml_wsL_law_r24 : ∀ w ∈ wsL_law_r24, w ∈ lw_tbl := mem_r wsL_law_r24 [533, 534, 535, 536, 763, 764, 765, 766, 537, 538, 539, 540, 770, 771, 772, 773, 541, 542, 543, 544, 991, 992, 993, 994] (by decide +kernel)
set_option maxRecDepth 20000 in
theorem ml_wsL_law_r25 : ∀ w ∈ wsL_law_r25, w ∈ lw_tbl := mem_r wsL_law_r25 [545, 546, 547, 548, 549, 550, 551, 552, 559, 553, 554, 63, 555, 556, 557, 558, 978, 979, 980, 981, 982, 984, 49, 985] (by decide +kernel)
set_option maxRecDepth 20000 in
theorem ml_wsL_law_r26 : ∀ w ∈ wsL_law_r26, w ∈ lw_tbl := mem_r wsL_law_r26 [986, 560, 561, 562, 563, 564, 782, 783, 784, 785, 565, 566, 567, 568, 569, 570, 571, 572, 573, 574, 575, 576, 108, 103] (by decide +kernel)
set_option maxRecDepth 20000 in
theorem ml_wsL_law_r27 : ∀ w ∈ wsL_law_r27, w ∈ lw_tbl := mem_r wsL_law_r27 [577, 106, 578, 579, 580, 581, 582, 583, 584, 585, 587, 588, 589, 591, 14, 592, 115, 593, 595, 596, 597, 598, 599, 600] (by decide +kernel)
set_option maxRecDepth 20000 in
theorem ml_wsL_law_r28 : ∀ w ∈ wsL_law_r28, w ∈ lw_tbl := mem_r wsL_law_r28 [918, 919, 920, 921, 922, 924, 38, 925, 926, 928, 39, 929, 930, 932, 40, 933, 934, 936, 41, 937, 938, 940, 42, 941] (by decide +kernel)
set_option maxRecDepth 20000 in
theorem ml_wsL_law_r29 : ∀ w ∈ wsL_law_r29, w ∈ lw_tbl := mem_r wsL_law_r29 [942, 944, 43, 945, 601, 602, 603, 604, 605, 606, 607, 608, 100, 609, 610, 611, 612, 613, 614, 616, 15, 617, 618, 620] (by decide +kernel)
set_option maxRecDepth 20000 in
theorem ml_wsL_law_r30 : ∀ w ∈ wsL_law_r30, w ∈ lw_tbl := mem_r wsL_law_r30 [16, 621, 622, 623, 624, 625, 626, 627, 629, 17, 630, 631, 632, 64, 633, 634, 635, 636, 954, 955, 956, 957, 958, 960] (by decide +kernel)
set_option maxRecDepth 20000 in
theorem ml_wsL_law_r31 : ∀ w ∈ wsL_law_r31, w ∈ lw_tbl := mem_r wsL_law_r31 [45, 961, 962, 964, 46, 965, 950, 952, 44, 953, 637, 638, 639, 640, 641, 642, 643, 644, 645, 646, 647, 648, 649, 650] (by decide +kernel)
set_option maxRecDepth 20000 in
theorem ml_wsL_law_r32 : ∀ w ∈ wsL_law_r32, w ∈ lw_tbl := mem_r wsL_law_r32 [651, 652, 653, 966, 967, 968, 969, 970, 972, 47, 973, 974, 976, 48, 977, 654, 655, 656, 657, 658, 659, 660, 661, 662] (by decide +kernel)
set_option maxRecDepth 20000 in
theorem ml_wsL_law_r33 : ∀ w ∈ wsL_law_r33, w ∈ lw_tbl := mem_r wsL_law_r33 [987, 988, 989, 990, 663, 664, 665, 666, 667, 668, 669, 670, 995, 996, 997, 998, 671, 672, 673, 674, 675, 946, 947, 948] (by decide +kernel)
set_option maxRecDepth 20000 in
theorem ml_wsL_law_r34 : ∀ w ∈ wsL_law_r34, w ∈ lw_tbl := mem_r wsL_law_r34 [949, 676, 677, 678, 679, 999, 1000, 1001, 1002, 680, 681, 682, 683, 684, 685, 686, 687, 688, 689, 690, 691, 692, 693, 694] (by decide +kernel)
set_option maxRecDepth 20000 in
theorem ml_wsL_law_r35 : ∀ w ∈ wsL_law_r35, w ∈ lw_tbl := mem_r wsL_law_r35 [695, 696, 697, 698, 699, 700, 701, 702, 703, 704, 705, 706, 88, 707, 709, 18, 710, 711, 712, 713, 714, 715, 1003, 1004] (by decide +kernel)
set_option maxRecDepth 20000 in
theorem ml_wsL_law_r36 : ∀ w ∈ wsL_law_r36, w ∈ lw_tbl := mem_r wsL_law_r36 [1005, 1006, 1007, 1009, 50, 1010, 1011, 1013, 51, 1014, 1015] (by decide +kernel)
set_option maxRecDepth 20000 in
theorem ml_wsX00 : ∀ w ∈ wsX00, w ∈ lw_tbl := mem_r wsX00 [231, 233, 235] (by decide +kernel)
set_option maxRecDepth 20000 in
theorem ml_wsX10 : ∀ w ∈ wsX10, w ∈ lw_tbl := mem_r wsX10 [169, 171, 173, 175] (by decide +kernel)
set_option maxRecDepth 20000 in
theorem ml_wsX20 : ∀ w ∈ wsX20, w ∈ lw_tbl := mem_r wsX20 [198, 200, 202, 204, 206, 208, 210, 212, 214] (by decide +kernel)
set_option maxRecDepth 20000 in
theorem ml_wsX30 : ∀ w ∈ wsX30, w ∈ lw_tbl := mem_r wsX30 [91, 93, 95] (by decide +kernel)
set_option maxRecDepth 20000 in
theorem ml_wsX40 : ∀ w ∈ wsX40, w ∈ lw_tbl := mem_r wsX40 [120, 122, 124, 126, 128, 130, 132, 134, 136] (by decide +kernel)
set_option maxRecDepth 20000 in
theorem ml_wsX50 : ∀ w ∈ wsX50, w ∈ lw_tbl := mem_r wsX50 [150, 152, 154, 156] (by decide +kernel)
set_option maxRecDepth 20000 in
theorem ml_wsX60 : ∀ w ∈ wsX60, w ∈ lw_tbl := mem_r wsX60 [244, 246, 248, 250, 252, 254] (by decide +kernel)
set_option maxRecDepth 20000 in
theorem ml_wsX70 : ∀ w ∈ wsX70, w ∈ lw_tbl := mem_r wsX70 [734, 736, 738, 740, 742, 744, 746, 748, 750, 752, 754, 756] (by decide +kernel)
theorem mem_ap {big a b : List Cond} (ha : ∀ w ∈ a, w ∈ big) (hb : ∀ w ∈ b, w ∈ big) : ∀ w ∈ a ++ b, w ∈ big := fun w h => (List.mem_append.mp h).elim (ha w) (hb w)
theorem wsL_law_in : ∀ w ∈ wsL_law, w ∈ lw_tbl := (mem_ap (mem_ap (mem_ap (mem_ap (mem_ap (mem_ap (mem_ap (mem_ap (mem_ap (mem_ap ml_wsL_law_r1 (mem_ap ml_wsL_law_r2 (mem_ap ml_wsL_law_r3 (mem_ap ml_wsL_law_r4 (mem_ap ml_wsL_law_r5 (mem_ap ml_wsL_law_r6 (mem_ap ml_wsL_law_r7 (mem_ap ml_wsL_law_r8 (mem_ap ml_wsL_law_r9 (mem_ap ml_wsL_law_r10 (mem_ap ml_wsL_law_r11 (mem_ap ml_wsL_law_r12 (mem_ap ml_wsL_law_r13 (mem_ap ml_wsL_law_r14 (mem_ap ml_wsL_law_r15 (mem_ap ml_wsL_law_r16 (mem_ap ml_wsL_law_r17 (mem_ap ml_wsL_law_r18 (mem_ap ml_wsL_law_r19 (mem_ap ml_wsL_law_r20 (mem_ap ml_wsL_law_r21 (mem_ap ml_wsL_law_r22 (mem_ap ml_wsL_law_r23 (mem_ap ml_wsL_law_r24 (mem_ap ml_wsL_law_r25 (mem_ap ml_wsL_law_r26 (mem_ap ml_wsL_law_r27 (mem_ap ml_wsL_law_r28 (mem_ap ml_wsL_law_r29 (mem_ap ml_wsL_law_r30 (mem_ap ml_wsL_law_r31 (mem_ap ml_wsL_law_r32 (mem_ap ml_wsL_law_r33 (mem_ap ml_wsL_law_r34 (mem_ap ml_wsL_law_r35 (ml_wsL_law_r36)))))))))))))))))))))))))))))))))))) ml_wsX60) ml_wsX70) ml_wsX40) ml_wsX50) ml_wsX10) ml_wsX20) ml_wsX00) ml_wsX30) (fun _ h => absurd h List.not_mem_nil))
