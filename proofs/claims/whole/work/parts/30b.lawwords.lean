/-! OWN ROWS: the law's words lie in its table, by their places -/
theorem mem_ps {big ws : List Cond} (ps : List Nat) (hp : ws = ps.filterMap (fun i => big[i]?)) : ∀ w ∈ ws, w ∈ big := fun w hw => by
  rw [hp] at hw
  obtain ⟨i, -, h⟩ := List.mem_filterMap.mp hw
  exact List.mem_of_getElem? h
set_option maxRecDepth 20000 in
theorem lwr_1 : ∀ w ∈ wsL_law0_r1, w ∈ lw_tbl := mem_ps [74, 75, 59, 737, 738, 65, 115, 1053, 76, 77, 78, 79, 80, 81, 82, 83, 60, 229, 230, 231, 232, 204, 205, 64] (by decide +kernel)
set_option maxRecDepth 20000 in
theorem lwr_2 : ∀ w ∈ wsL_law0_r2, w ∈ lw_tbl := mem_ps [233, 85, 86, 87, 114, 88, 190, 89, 90, 61, 192, 166, 167, 63, 194, 92, 93, 94, 95, 133, 96, 135, 137, 140] (by decide +kernel)
set_option maxRecDepth 20000 in
theorem lwr_3 : ∀ w ∈ wsL_law0_r3, w ∈ lw_tbl := mem_ps [142, 97, 98, 62, 145, 147, 148, 100, 101, 102, 103, 104, 105, 116, 118, 0, 119, 127, 120, 122, 1, 123, 125, 126] (by decide +kernel)
set_option maxRecDepth 20000 in
theorem lwr_4 : ∀ w ∈ wsL_law0_r4, w ∈ lw_tbl := mem_ps [128, 130, 2, 131, 132, 169, 170, 171, 172, 174, 176, 178, 207, 208, 209, 228, 210, 211, 213, 214, 216, 739, 740, 741] (by decide +kernel)
set_option maxRecDepth 20000 in
theorem lwr_5 : ∀ w ∈ wsL_law0_r5, w ∈ lw_tbl := mem_ps [742, 768, 769, 770, 773, 774, 775, 777, 780, 743, 744, 745, 746, 747, 748, 749, 750, 751, 753, 34, 754, 755, 756, 758] (by decide +kernel)
set_option maxRecDepth 20000 in
theorem lwr_6 : ∀ w ∈ wsL_law0_r6, w ∈ lw_tbl := mem_ps [35, 759, 760, 761, 762, 763, 765, 36, 766, 767, 415, 416, 58, 417, 418, 419, 420, 421, 422, 494, 496, 423, 424, 425] (by decide +kernel)
set_option maxRecDepth 20000 in
theorem lwr_7 : ∀ w ∈ wsL_law0_r7, w ∈ lw_tbl := mem_ps [427, 69, 426, 336, 337, 249, 251, 3, 252, 253, 255, 4, 256, 259, 5, 260, 261, 263, 262, 70, 266, 6, 267, 268] (by decide +kernel)
set_option maxRecDepth 20000 in
theorem lwr_8 : ∀ w ∈ wsL_law0_r8, w ∈ lw_tbl := mem_ps [271, 7, 272, 273, 276, 8, 277, 278, 812, 813, 814, 815, 816, 817, 818, 819, 820, 821, 822, 823, 824, 825, 826, 827] (by decide +kernel)
set_option maxRecDepth 20000 in
theorem lwr_9 : ∀ w ∈ wsL_law0_r9, w ∈ lw_tbl := mem_ps [829, 37, 830, 772, 831, 833, 38, 834, 771, 808, 809, 810, 811, 498, 499, 500, 501, 502, 503, 504, 835, 836, 837, 838] (by decide +kernel)
set_option maxRecDepth 20000 in
theorem lwr_10 : ∀ w ∈ wsL_law0_r10, w ∈ lw_tbl := mem_ps [505, 506, 507, 508, 509, 510, 511, 512, 532, 533, 513, 514, 515, 516, 71, 839, 840, 841, 842, 535, 536, 537, 538, 539] (by decide +kernel)
set_option maxRecDepth 20000 in
theorem lwr_11 : ∀ w ∈ wsL_law0_r11, w ∈ lw_tbl := mem_ps [540, 541, 843, 844, 845, 846, 542, 543, 544, 545, 546, 547, 548, 847, 848, 849, 850, 851, 852, 853, 549, 550, 551, 552] (by decide +kernel)
set_option maxRecDepth 20000 in
theorem lwr_12 : ∀ w ∈ wsL_law0_r12, w ∈ lw_tbl := mem_ps [553, 554, 555, 556, 854, 855, 856, 857, 858, 859, 860, 861, 862, 557, 558, 559, 560, 561, 562, 563, 567, 564, 565, 566] (by decide +kernel)
set_option maxRecDepth 20000 in
theorem lwr_13 : ∀ w ∈ wsL_law0_r13, w ∈ lw_tbl := mem_ps [349, 17, 350, 359, 360, 72, 361, 390, 351, 353, 18, 354, 357, 19, 358, 288, 289, 290, 362, 364, 20, 365, 366, 367] (by decide +kernel)
set_option maxRecDepth 20000 in
theorem lwr_14 : ∀ w ∈ wsL_law0_r14, w ∈ lw_tbl := mem_ps [368, 369, 371, 21, 372, 379, 374, 375, 376, 377, 72, 378, 380, 382, 22, 383, 384, 386, 23, 387, 388, 389, 568, 863] (by decide +kernel)
set_option maxRecDepth 20000 in
theorem lwr_15 : ∀ w ∈ wsL_law0_r15, w ∈ lw_tbl := mem_ps [864, 865, 866, 867, 868, 869, 871, 39, 872, 889, 776, 897, 873, 875, 40, 876, 877, 879, 41, 880, 881, 883, 42, 884] (by decide +kernel)
set_option maxRecDepth 20000 in
theorem lwr_16 : ∀ w ∈ wsL_law0_r16, w ∈ lw_tbl := mem_ps [885, 887, 43, 888, 890, 892, 44, 893, 894, 895, 896, 898, 900, 45, 901, 902, 903, 904, 245, 246, 247, 248, 905, 906] (by decide +kernel)
set_option maxRecDepth 20000 in
theorem lwr_17 : ∀ w ∈ wsL_law0_r17, w ∈ lw_tbl := mem_ps [907, 908, 569, 570, 571, 572, 573, 574, 575, 909, 910, 911, 912, 576, 577, 578, 579, 580, 581, 582, 913, 914, 915, 916] (by decide +kernel)
set_option maxRecDepth 20000 in
theorem lwr_18 : ∀ w ∈ wsL_law0_r18, w ∈ lw_tbl := mem_ps [583, 584, 585, 586, 587, 588, 589, 917, 918, 919, 920, 921, 590, 591, 592, 593, 594, 595, 596, 922, 923, 924, 925, 598] (by decide +kernel)
set_option maxRecDepth 20000 in
theorem lwr_19 : ∀ w ∈ wsL_law0_r19, w ∈ lw_tbl := mem_ps [599, 600, 601, 602, 603, 604, 606, 926, 927, 928, 929, 930, 280, 281, 282, 283, 286, 9, 287, 931, 932, 933, 934, 935] (by decide +kernel)
set_option maxRecDepth 20000 in
theorem lwr_20 : ∀ w ∈ wsL_law0_r20, w ∈ lw_tbl := mem_ps [937, 46, 938, 291, 292, 293, 294, 297, 10, 298, 299, 939, 940, 941, 942, 943, 945, 47, 946, 300, 301, 302, 303, 306] (by decide +kernel)
set_option maxRecDepth 20000 in
theorem lwr_21 : ∀ w ∈ wsL_law0_r21, w ∈ lw_tbl := mem_ps [304, 305, 947, 948, 949, 950, 951, 607, 608, 609, 610, 611, 612, 613, 616, 28, 617, 618, 619, 620, 952, 953, 954, 955] (by decide +kernel)
set_option maxRecDepth 20000 in
theorem lwr_22 : ∀ w ∈ wsL_law0_r22, w ∈ lw_tbl := mem_ps [956, 958, 48, 959, 623, 624, 625, 626, 627, 628, 629, 632, 29, 633, 636, 30, 637, 638, 639, 640, 644, 652, 653, 641] (by decide +kernel)
set_option maxRecDepth 20000 in
theorem lwr_23 : ∀ w ∈ wsL_law0_r23, w ∈ lw_tbl := mem_ps [642, 643, 646, 648, 31, 649, 650, 651, 960, 961, 962, 963, 964, 966, 49, 967, 968, 970, 50, 971, 972, 973, 974, 656] (by decide +kernel)
set_option maxRecDepth 20000 in
theorem lwr_24 : ∀ w ∈ wsL_law0_r24, w ∈ lw_tbl := mem_ps [657, 658, 659, 660, 661, 662, 975, 976, 977, 978, 307, 308, 309, 310, 979, 980, 981, 982, 663, 664, 665, 666, 667, 668] (by decide +kernel)
set_option maxRecDepth 20000 in
theorem lwr_25 : ∀ w ∈ wsL_law0_r25, w ∈ lw_tbl := mem_ps [669, 983, 984, 985, 986, 670, 671, 672, 673, 674, 675, 676, 679, 32, 680, 683, 684, 685, 681, 682, 987, 988, 989, 990] (by decide +kernel)
set_option maxRecDepth 20000 in
theorem lwr_26 : ∀ w ∈ wsL_law0_r26, w ∈ lw_tbl := mem_ps [991, 993, 51, 994, 995, 997, 52, 998, 999, 1001, 53, 1002, 686, 687, 688, 689, 690, 691, 692, 693, 1003, 1004, 1005, 1006] (by decide +kernel)
set_option maxRecDepth 20000 in
theorem lwr_27 : ∀ w ∈ wsL_law0_r27, w ∈ lw_tbl := mem_ps [694, 695, 696, 697, 698, 699, 700, 1007, 1008, 1009, 1010, 1011, 701, 702, 703, 704, 705, 706, 707, 708, 713, 73, 711, 33] (by decide +kernel)
set_option maxRecDepth 20000 in
theorem lwr_28 : ∀ w ∈ wsL_law0_r28, w ∈ lw_tbl := mem_ps [712, 1012, 1013, 1014, 1015, 1016, 778, 311, 312, 313, 314, 1017, 1018, 1019, 1020, 315, 316, 317, 318, 321, 11, 322, 323, 325] (by decide +kernel)
set_option maxRecDepth 20000 in
theorem lwr_29 : ∀ w ∈ wsL_law0_r29, w ∈ lw_tbl := mem_ps [12, 326, 327, 329, 13, 330, 331, 333, 14, 334, 340, 15, 341, 342, 344, 16, 345, 1021, 1022, 1023, 1024, 779, 1025, 1027] (by decide +kernel)
set_option maxRecDepth 20000 in
theorem lwr_30 : ∀ w ∈ wsL_law0_r30, w ∈ lw_tbl := mem_ps [54, 1028, 1029, 1031, 55, 1032, 1033, 1035, 56, 1036, 1037, 1038, 729, 730, 731, 732, 733, 734, 735, 1039, 1040, 1041, 1042, 391] (by decide +kernel)
set_option maxRecDepth 20000 in
theorem lwr_31 : ∀ w ∈ wsL_law0_r31, w ∈ lw_tbl := mem_ps [392, 393, 394, 395, 396, 397, 398, 399, 402, 24, 403, 407, 25, 408, 412, 26, 413, 1043, 1044, 1045, 1046, 1047, 1052, 1048] (by decide +kernel)
set_option maxRecDepth 20000 in
theorem lwr_32 : ∀ w ∈ wsL_law0_r32, w ∈ lw_tbl := mem_ps [1050, 57, 1051] (by decide +kernel)
set_option maxRecDepth 20000 in
theorem lwx_0 : ∀ w ∈ wsX00, w ∈ lw_tbl := mem_ps [149, 151, 153, 155, 157, 159, 161, 163] (by decide +kernel)
set_option maxRecDepth 20000 in
theorem lwx_1 : ∀ w ∈ wsX10, w ∈ lw_tbl := mem_ps [181, 183, 185, 187] (by decide +kernel)
set_option maxRecDepth 20000 in
theorem lwx_2 : ∀ w ∈ wsX20, w ∈ lw_tbl := mem_ps [217, 219, 221, 223, 225] (by decide +kernel)
set_option maxRecDepth 20000 in
theorem lwx_3 : ∀ w ∈ wsX30, w ∈ lw_tbl := mem_ps [196, 198, 200] (by decide +kernel)
set_option maxRecDepth 20000 in
theorem lwx_4 : ∀ w ∈ wsX40, w ∈ lw_tbl := mem_ps [107, 109, 111] (by decide +kernel)
set_option maxRecDepth 20000 in
theorem lwx_5 : ∀ w ∈ wsX50, w ∈ lw_tbl := mem_ps [234, 236, 238, 240, 242] (by decide +kernel)
set_option maxRecDepth 20000 in
theorem lwx_6 : ∀ w ∈ wsX60, w ∈ lw_tbl := mem_ps [781, 783, 785, 787, 789, 791, 793, 795, 797, 799, 801, 803, 805] (by decide +kernel)
set_option maxRecDepth 20000 in
theorem lwt_0 : ∀ w ∈ ((vx_atS RX5 228 "java/lang/IllegalArgumentException" ["java/lang/RuntimeException", "java/lang/Exception"]).filter goodWord), w ∈ lw_tbl := mem_ps [66, 449, 458, 462, 465, 467, 450, 451, 80, 81, 452, 457, 463, 483, 439, 484, 441, 485, 443, 453, 455, 445, 479, 480, 482, 445, 470, 471, 472, 473, 473, 474, 475, 476, 476, 477, 478, 479, 469, 428, 436, 437, 438, 440, 442, 444, 448, 447, 446] (by decide +kernel)
set_option maxRecDepth 20000 in
theorem lwt_1 : ∀ w ∈ ((vx_atS RX5 219 "java/lang/IndexOutOfBoundsException" ["java/lang/RuntimeException", "java/lang/Exception"]).filter goodWord), w ∈ lw_tbl := mem_ps [66, 449, 458, 462, 465, 467, 450, 451, 80, 81, 452, 457, 463, 483, 439, 484, 441, 485, 443, 453, 455, 445, 479, 480, 482, 445, 527, 528, 529, 473, 473, 474, 475, 476, 476, 477, 478, 479, 526, 517, 519, 461, 520, 521, 522, 523, 448, 447, 524] (by decide +kernel)
set_option maxRecDepth 20000 in
theorem lwt_2 : ∀ w ∈ ((vx_atS RX5 179 "java/lang/IllegalStateException" ["java/lang/RuntimeException", "java/lang/Exception"]).filter goodWord), w ∈ lw_tbl := mem_ps [66, 449, 458, 462, 465, 467, 450, 451, 80, 81, 452, 457, 463, 483, 439, 484, 441, 485, 443, 453, 455, 445, 479, 480, 482, 445, 724, 725, 726, 473, 473, 474, 475, 476, 476, 477, 478, 479, 723, 714, 716, 460, 717, 718, 719, 720, 448, 447, 721] (by decide +kernel)
theorem ap_ {a b big : List Cond} (ha : ∀ w ∈ a, w ∈ big) (hb : ∀ w ∈ b, w ∈ big) : ∀ w ∈ a ++ b, w ∈ big := fun w h => (List.mem_append.mp h).elim (ha w) (hb w)
theorem wsL_law_in : ∀ w ∈ wsL_law, w ∈ lw_tbl := ap_ (ap_ (ap_ (show ∀ w ∈ wsL_law0, w ∈ lw_tbl from (ap_ (ap_ (ap_ (ap_ (ap_ (ap_ (ap_ (ap_ (ap_ lwr_1 (ap_ lwr_2 (ap_ lwr_3 (ap_ lwr_4 (ap_ lwr_5 (ap_ lwr_6 (ap_ lwr_7 (ap_ lwr_8 (ap_ lwr_9 (ap_ lwr_10 (ap_ lwr_11 (ap_ lwr_12 (ap_ lwr_13 (ap_ lwr_14 (ap_ lwr_15 (ap_ lwr_16 (ap_ lwr_17 (ap_ lwr_18 (ap_ lwr_19 (ap_ lwr_20 (ap_ lwr_21 (ap_ lwr_22 (ap_ lwr_23 (ap_ lwr_24 (ap_ lwr_25 (ap_ lwr_26 (ap_ lwr_27 (ap_ lwr_28 (ap_ lwr_29 (ap_ lwr_30 (ap_ lwr_31 (lwr_32)))))))))))))))))))))))))))))))) lwx_5) lwx_6) lwx_3) lwx_2) lwx_0) lwx_1) lwx_4) (fun w h => absurd h List.not_mem_nil))) lwt_0) lwt_1) lwt_2
