/-! OWN ROWS: the law's words lie in its table, by their places -/
theorem mem_ps {big ws : List Cond} (ps : List Nat) (hp : ws = ps.filterMap (fun i => big[i]?)) : ∀ w ∈ ws, w ∈ big := fun w hw => by
  rw [hp] at hw
  obtain ⟨i, -, h⟩ := List.mem_filterMap.mp hw
  exact List.mem_of_getElem? h
set_option maxRecDepth 20000 in
theorem lwr_1 : ∀ w ∈ wsL_law0_r1, w ∈ lw_tbl := mem_ps [74, 75, 59, 738, 739, 65, 115, 1054, 76, 77, 78, 79, 80, 81, 82, 83, 60, 229, 230, 231, 232, 204, 205, 64] (by decide +kernel)
set_option maxRecDepth 20000 in
theorem lwr_2 : ∀ w ∈ wsL_law0_r2, w ∈ lw_tbl := mem_ps [233, 85, 86, 87, 114, 88, 190, 89, 90, 61, 192, 166, 167, 63, 194, 92, 93, 94, 95, 133, 96, 135, 137, 140] (by decide +kernel)
set_option maxRecDepth 20000 in
theorem lwr_3 : ∀ w ∈ wsL_law0_r3, w ∈ lw_tbl := mem_ps [142, 97, 98, 62, 145, 147, 148, 100, 101, 102, 103, 104, 105, 116, 118, 0, 119, 127, 120, 122, 1, 123, 125, 126] (by decide +kernel)
set_option maxRecDepth 20000 in
theorem lwr_4 : ∀ w ∈ wsL_law0_r4, w ∈ lw_tbl := mem_ps [128, 130, 2, 131, 132, 169, 170, 171, 172, 174, 176, 178, 207, 208, 209, 228, 210, 211, 213, 214, 216, 740, 741, 742] (by decide +kernel)
set_option maxRecDepth 20000 in
theorem lwr_5 : ∀ w ∈ wsL_law0_r5, w ∈ lw_tbl := mem_ps [743, 769, 770, 771, 774, 775, 776, 778, 781, 744, 745, 746, 747, 748, 749, 750, 751, 752, 754, 34, 755, 756, 757, 759] (by decide +kernel)
set_option maxRecDepth 20000 in
theorem lwr_6 : ∀ w ∈ wsL_law0_r6, w ∈ lw_tbl := mem_ps [35, 760, 761, 762, 763, 764, 766, 36, 767, 768, 415, 416, 58, 417, 418, 419, 420, 421, 422, 494, 496, 423, 424, 425] (by decide +kernel)
set_option maxRecDepth 20000 in
theorem lwr_7 : ∀ w ∈ wsL_law0_r7, w ∈ lw_tbl := mem_ps [427, 69, 426, 336, 337, 249, 251, 3, 252, 253, 255, 4, 256, 259, 5, 260, 261, 263, 262, 70, 266, 6, 267, 268] (by decide +kernel)
set_option maxRecDepth 20000 in
theorem lwr_8 : ∀ w ∈ wsL_law0_r8, w ∈ lw_tbl := mem_ps [271, 7, 272, 273, 276, 8, 277, 278, 813, 814, 815, 816, 817, 818, 819, 820, 821, 822, 823, 824, 825, 826, 827, 828] (by decide +kernel)
set_option maxRecDepth 20000 in
theorem lwr_9 : ∀ w ∈ wsL_law0_r9, w ∈ lw_tbl := mem_ps [830, 37, 831, 773, 832, 834, 38, 835, 772, 809, 810, 811, 812, 498, 499, 500, 501, 502, 503, 504, 836, 837, 838, 839] (by decide +kernel)
set_option maxRecDepth 20000 in
theorem lwr_10 : ∀ w ∈ wsL_law0_r10, w ∈ lw_tbl := mem_ps [505, 506, 507, 508, 509, 510, 511, 512, 532, 533, 513, 514, 515, 516, 71, 840, 841, 842, 843, 535, 536, 537, 538, 539] (by decide +kernel)
set_option maxRecDepth 20000 in
theorem lwr_11 : ∀ w ∈ wsL_law0_r11, w ∈ lw_tbl := mem_ps [540, 541, 844, 845, 846, 847, 542, 543, 544, 545, 546, 547, 548, 848, 849, 850, 851, 852, 853, 854, 549, 550, 551, 552] (by decide +kernel)
set_option maxRecDepth 20000 in
theorem lwr_12 : ∀ w ∈ wsL_law0_r12, w ∈ lw_tbl := mem_ps [553, 554, 555, 556, 855, 856, 857, 858, 859, 860, 861, 862, 863, 557, 558, 559, 560, 561, 562, 563, 567, 564, 565, 566] (by decide +kernel)
set_option maxRecDepth 20000 in
theorem lwr_13 : ∀ w ∈ wsL_law0_r13, w ∈ lw_tbl := mem_ps [349, 17, 350, 359, 360, 72, 361, 390, 351, 353, 18, 354, 357, 19, 358, 288, 289, 290, 362, 364, 20, 365, 366, 367] (by decide +kernel)
set_option maxRecDepth 20000 in
theorem lwr_14 : ∀ w ∈ wsL_law0_r14, w ∈ lw_tbl := mem_ps [368, 369, 371, 21, 372, 379, 374, 375, 376, 377, 72, 378, 380, 382, 22, 383, 384, 386, 23, 387, 388, 389, 568, 864] (by decide +kernel)
set_option maxRecDepth 20000 in
theorem lwr_15 : ∀ w ∈ wsL_law0_r15, w ∈ lw_tbl := mem_ps [865, 866, 867, 868, 869, 870, 872, 39, 873, 890, 777, 898, 874, 876, 40, 877, 878, 880, 41, 881, 882, 884, 42, 885] (by decide +kernel)
set_option maxRecDepth 20000 in
theorem lwr_16 : ∀ w ∈ wsL_law0_r16, w ∈ lw_tbl := mem_ps [886, 888, 43, 889, 891, 893, 44, 894, 895, 896, 897, 899, 901, 45, 902, 903, 904, 905, 245, 246, 247, 248, 906, 907] (by decide +kernel)
set_option maxRecDepth 20000 in
theorem lwr_17 : ∀ w ∈ wsL_law0_r17, w ∈ lw_tbl := mem_ps [908, 909, 569, 570, 571, 572, 573, 574, 575, 910, 911, 912, 913, 576, 577, 578, 579, 580, 581, 582, 914, 915, 916, 917] (by decide +kernel)
set_option maxRecDepth 20000 in
theorem lwr_18 : ∀ w ∈ wsL_law0_r18, w ∈ lw_tbl := mem_ps [583, 584, 585, 586, 587, 588, 589, 918, 919, 920, 921, 922, 590, 591, 592, 593, 594, 595, 596, 923, 924, 925, 926, 598] (by decide +kernel)
set_option maxRecDepth 20000 in
theorem lwr_19 : ∀ w ∈ wsL_law0_r19, w ∈ lw_tbl := mem_ps [599, 600, 601, 602, 603, 604, 606, 927, 928, 929, 930, 931, 280, 281, 282, 283, 286, 9, 287, 932, 933, 934, 935, 936] (by decide +kernel)
set_option maxRecDepth 20000 in
theorem lwr_20 : ∀ w ∈ wsL_law0_r20, w ∈ lw_tbl := mem_ps [938, 46, 939, 291, 292, 293, 294, 297, 10, 298, 299, 940, 941, 942, 943, 944, 946, 47, 947, 300, 301, 302, 303, 306] (by decide +kernel)
set_option maxRecDepth 20000 in
theorem lwr_21 : ∀ w ∈ wsL_law0_r21, w ∈ lw_tbl := mem_ps [304, 305, 948, 949, 950, 951, 952, 607, 608, 609, 610, 611, 612, 613, 616, 28, 617, 618, 619, 620, 953, 954, 955, 956] (by decide +kernel)
set_option maxRecDepth 20000 in
theorem lwr_22 : ∀ w ∈ wsL_law0_r22, w ∈ lw_tbl := mem_ps [957, 959, 48, 960, 623, 624, 625, 626, 627, 628, 629, 632, 29, 633, 636, 30, 637, 638, 639, 640, 644, 652, 653, 641] (by decide +kernel)
set_option maxRecDepth 20000 in
theorem lwr_23 : ∀ w ∈ wsL_law0_r23, w ∈ lw_tbl := mem_ps [642, 643, 646, 648, 31, 649, 650, 651, 961, 962, 963, 964, 965, 967, 49, 968, 969, 971, 50, 972, 973, 974, 975, 656] (by decide +kernel)
set_option maxRecDepth 20000 in
theorem lwr_24 : ∀ w ∈ wsL_law0_r24, w ∈ lw_tbl := mem_ps [657, 658, 659, 660, 661, 662, 976, 977, 978, 979, 307, 308, 309, 310, 980, 981, 982, 983, 663, 664, 665, 666, 667, 668] (by decide +kernel)
set_option maxRecDepth 20000 in
theorem lwr_25 : ∀ w ∈ wsL_law0_r25, w ∈ lw_tbl := mem_ps [669, 984, 985, 986, 987, 670, 671, 672, 673, 674, 675, 676, 679, 32, 680, 683, 684, 685, 681, 682, 988, 989, 990, 991] (by decide +kernel)
set_option maxRecDepth 20000 in
theorem lwr_26 : ∀ w ∈ wsL_law0_r26, w ∈ lw_tbl := mem_ps [992, 994, 51, 995, 996, 998, 52, 999, 1000, 1002, 53, 1003, 686, 687, 688, 689, 690, 691, 692, 693, 1004, 1005, 1006, 1007] (by decide +kernel)
set_option maxRecDepth 20000 in
theorem lwr_27 : ∀ w ∈ wsL_law0_r27, w ∈ lw_tbl := mem_ps [694, 695, 696, 697, 698, 699, 700, 701, 1008, 1009, 1010, 1011, 1012, 702, 703, 704, 705, 706, 707, 708, 709, 714, 73, 712] (by decide +kernel)
set_option maxRecDepth 20000 in
theorem lwr_28 : ∀ w ∈ wsL_law0_r28, w ∈ lw_tbl := mem_ps [33, 713, 1013, 1014, 1015, 1016, 1017, 779, 311, 312, 313, 314, 1018, 1019, 1020, 1021, 315, 316, 317, 318, 321, 11, 322, 323] (by decide +kernel)
set_option maxRecDepth 20000 in
theorem lwr_29 : ∀ w ∈ wsL_law0_r29, w ∈ lw_tbl := mem_ps [325, 12, 326, 327, 329, 13, 330, 331, 333, 14, 334, 340, 15, 341, 342, 344, 16, 345, 1022, 1023, 1024, 1025, 780, 1026] (by decide +kernel)
set_option maxRecDepth 20000 in
theorem lwr_30 : ∀ w ∈ wsL_law0_r30, w ∈ lw_tbl := mem_ps [1028, 54, 1029, 1030, 1032, 55, 1033, 1034, 1036, 56, 1037, 1038, 1039, 730, 731, 732, 733, 734, 735, 736, 1040, 1041, 1042, 1043] (by decide +kernel)
set_option maxRecDepth 20000 in
theorem lwr_31 : ∀ w ∈ wsL_law0_r31, w ∈ lw_tbl := mem_ps [391, 392, 393, 394, 395, 396, 397, 398, 399, 402, 24, 403, 407, 25, 408, 412, 26, 413, 1044, 1045, 1046, 1047, 1048, 1053] (by decide +kernel)
set_option maxRecDepth 20000 in
theorem lwr_32 : ∀ w ∈ wsL_law0_r32, w ∈ lw_tbl := mem_ps [1049, 1051, 57, 1052] (by decide +kernel)
set_option maxRecDepth 20000 in
theorem lwx_0 : ∀ w ∈ wsX00, w ∈ lw_tbl := mem_ps [149, 151, 153, 155, 157, 159, 161, 163] (by decide +kernel)
set_option maxRecDepth 20000 in
theorem lwx_1 : ∀ w ∈ wsX10, w ∈ lw_tbl := mem_ps [181, 183, 185, 187] (by decide +kernel)
set_option maxRecDepth 20000 in
theorem lwx_2 : ∀ w ∈ wsX20, w ∈ lw_tbl := mem_ps [217, 219, 221, 223, 225] (by decide +kernel)
set_option maxRecDepth 20000 in
theorem lwx_3 : ∀ w ∈ wsX30, w ∈ lw_tbl := mem_ps [196, 198, 200] (by decide +kernel)
set_option maxRecDepth 20000 in
theorem lwx_4 : ∀ w ∈ wsX40, w ∈ lw_tbl := mem_ps [107, 109, 111] (by decide +kernel)
set_option maxRecDepth 20000 in
theorem lwx_5 : ∀ w ∈ wsX50, w ∈ lw_tbl := mem_ps [234, 236, 238, 240, 242] (by decide +kernel)
set_option maxRecDepth 20000 in
theorem lwx_6 : ∀ w ∈ wsX60, w ∈ lw_tbl := mem_ps [782, 784, 786, 788, 790, 792, 794, 796, 798, 800, 802, 804, 806] (by decide +kernel)
set_option maxRecDepth 20000 in
theorem lwt_0 : ∀ w ∈ ((vx_atS RX5 232 "java/lang/IllegalArgumentException" ["java/lang/RuntimeException", "java/lang/Exception"]).filter goodWord), w ∈ lw_tbl := mem_ps [66, 449, 458, 462, 465, 467, 450, 451, 80, 81, 452, 457, 463, 483, 439, 484, 441, 485, 443, 453, 455, 445, 479, 480, 482, 445, 470, 471, 472, 473, 473, 474, 475, 476, 476, 477, 478, 479, 469, 428, 436, 437, 438, 440, 442, 444, 448, 447, 446] (by decide +kernel)
set_option maxRecDepth 20000 in
theorem lwt_1 : ∀ w ∈ ((vx_atS RX5 223 "java/lang/IndexOutOfBoundsException" ["java/lang/RuntimeException", "java/lang/Exception"]).filter goodWord), w ∈ lw_tbl := mem_ps [66, 449, 458, 462, 465, 467, 450, 451, 80, 81, 452, 457, 463, 483, 439, 484, 441, 485, 443, 453, 455, 445, 479, 480, 482, 445, 527, 528, 529, 473, 473, 474, 475, 476, 476, 477, 478, 479, 526, 517, 519, 461, 520, 521, 522, 523, 448, 447, 524] (by decide +kernel)
set_option maxRecDepth 20000 in
theorem lwt_2 : ∀ w ∈ ((vx_atS RX5 183 "java/lang/IllegalStateException" ["java/lang/RuntimeException", "java/lang/Exception"]).filter goodWord), w ∈ lw_tbl := mem_ps [66, 449, 458, 462, 465, 467, 450, 451, 80, 81, 452, 457, 463, 483, 439, 484, 441, 485, 443, 453, 455, 445, 479, 480, 482, 445, 725, 726, 727, 473, 473, 474, 475, 476, 476, 477, 478, 479, 724, 715, 717, 460, 718, 719, 720, 721, 448, 447, 722] (by decide +kernel)
theorem ap_ {a b big : List Cond} (ha : ∀ w ∈ a, w ∈ big) (hb : ∀ w ∈ b, w ∈ big) : ∀ w ∈ a ++ b, w ∈ big := fun w h => (List.mem_append.mp h).elim (ha w) (hb w)
theorem wsL_law_in : ∀ w ∈ wsL_law, w ∈ lw_tbl := ap_ (ap_ (ap_ (show ∀ w ∈ wsL_law0, w ∈ lw_tbl from (ap_ (ap_ (ap_ (ap_ (ap_ (ap_ (ap_ (ap_ (ap_ lwr_1 (ap_ lwr_2 (ap_ lwr_3 (ap_ lwr_4 (ap_ lwr_5 (ap_ lwr_6 (ap_ lwr_7 (ap_ lwr_8 (ap_ lwr_9 (ap_ lwr_10 (ap_ lwr_11 (ap_ lwr_12 (ap_ lwr_13 (ap_ lwr_14 (ap_ lwr_15 (ap_ lwr_16 (ap_ lwr_17 (ap_ lwr_18 (ap_ lwr_19 (ap_ lwr_20 (ap_ lwr_21 (ap_ lwr_22 (ap_ lwr_23 (ap_ lwr_24 (ap_ lwr_25 (ap_ lwr_26 (ap_ lwr_27 (ap_ lwr_28 (ap_ lwr_29 (ap_ lwr_30 (ap_ lwr_31 (lwr_32)))))))))))))))))))))))))))))))) lwx_5) lwx_6) lwx_3) lwx_2) lwx_0) lwx_1) lwx_4) (fun w h => absurd h List.not_mem_nil))) lwt_0) lwt_1) lwt_2
