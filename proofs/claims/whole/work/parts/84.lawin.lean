/-! THE LAW'S WORDS ARE WORDS OF THE TABLES -/
set_option maxRecDepth 20000 in
theorem liR1 : ∀ w ∈ wsL_law_r1, w ∈ lw_tbl := fun w h => (goodIn_r wsL_law_r1 [77, 78, 65, 707, 708, 74, 79, 80, 81, 82, 83, 84, 85, 86, 66, 270, 271, 158, 159, 69, 272, 180, 181, 70] (by decide +kernel) (by decide +kernel) w h).1
set_option maxRecDepth 20000 in
theorem liR2 : ∀ w ∈ wsL_law_r2, w ∈ lw_tbl := fun w h => (goodIn_r wsL_law_r2 [273, 202, 203, 71, 274, 221, 222, 72, 275, 254, 255, 73, 276, 87, 88, 89, 90, 91, 92, 67, 130, 133, 136, 139] (by decide +kernel) (by decide +kernel) w h).1
set_option maxRecDepth 20000 in
theorem liR3 : ∀ w ∈ wsL_law_r3, w ∈ lw_tbl := fun w h => (goodIn_r wsL_law_r3 [140, 93, 94, 95, 96, 100, 101, 97, 98, 68, 99, 113, 102, 116, 117, 118, 119, 103, 120, 121, 122, 123, 124, 125] (by decide +kernel) (by decide +kernel) w h).1
set_option maxRecDepth 20000 in
theorem liR4 : ∀ w ∈ wsL_law_r4, w ∈ lw_tbl := fun w h => (goodIn_r wsL_law_r4 [126, 127, 160, 161, 162, 163, 164, 165, 166, 167, 168, 182, 183, 184, 185, 186, 187, 188, 189, 190, 204, 205, 206, 207] (by decide +kernel) (by decide +kernel) w h).1
set_option maxRecDepth 20000 in
theorem liR5 : ∀ w ∈ wsL_law_r5, w ∈ lw_tbl := fun w h => (goodIn_r wsL_law_r5 [208, 211, 210, 223, 224, 225, 226, 253, 227, 256, 257, 258, 259, 260, 709, 710, 711, 712, 713, 714, 715, 717, 292, 293] (by decide +kernel) (by decide +kernel) w h).1
set_option maxRecDepth 20000 in
theorem liR6 : ∀ w ∈ wsL_law_r6, w ∈ lw_tbl := fun w h => (goodIn_r wsL_law_r6 [294, 295, 296, 298, 0, 299, 300, 301, 302, 303, 142, 304, 305, 306, 307, 308, 309, 310, 311, 313, 314, 315, 316, 317] (by decide +kernel) (by decide +kernel) w h).1
set_option maxRecDepth 20000 in
theorem liR7 : ∀ w ∈ wsL_law_r7, w ∈ lw_tbl := fun w h => (goodIn_r wsL_law_r7 [318, 320, 1, 321, 322, 323, 324, 325, 213, 212, 326, 328, 2, 329, 330, 744, 745, 746, 747, 748, 750, 18, 751, 752] (by decide +kernel) (by decide +kernel) w h).1
set_option maxRecDepth 20000 in
theorem liR8 : ∀ w ∈ wsL_law_r8, w ∈ lw_tbl := fun w h => (goodIn_r wsL_law_r8 [753, 754, 755, 757, 19, 758, 716, 759, 761, 20, 762, 331, 332, 333, 334, 335, 336, 337, 338, 339, 340, 341, 342, 343] (by decide +kernel) (by decide +kernel) w h).1
set_option maxRecDepth 20000 in
theorem liR9 : ∀ w ∈ wsL_law_r9, w ∈ lw_tbl := fun w h => (goodIn_r wsL_law_r9 [344, 345, 346, 347, 348, 349, 350, 351, 352, 353, 354, 355, 356, 357, 358, 359, 360, 75, 361, 362, 363, 364, 365, 366] (by decide +kernel) (by decide +kernel) w h).1
set_option maxRecDepth 20000 in
theorem liR10 : ∀ w ∈ wsL_law_r10, w ∈ lw_tbl := fun w h => (goodIn_r wsL_law_r10 [367, 368, 369, 370, 763, 764, 765, 766, 767, 769, 21, 770, 771, 773, 22, 774, 775, 777, 23, 778, 779, 781, 24, 782] (by decide +kernel) (by decide +kernel) w h).1
set_option maxRecDepth 20000 in
theorem liR11 : ∀ w ∈ wsL_law_r11, w ∈ lw_tbl := fun w h => (goodIn_r wsL_law_r11 [783, 785, 25, 786, 787, 789, 26, 790, 791, 793, 27, 794, 795, 797, 28, 798, 799, 800, 801, 802, 804, 29, 805, 806] (by decide +kernel) (by decide +kernel) w h).1
set_option maxRecDepth 20000 in
theorem liR12 : ∀ w ∈ wsL_law_r12, w ∈ lw_tbl := fun w h => (goodIn_r wsL_law_r12 [808, 30, 809, 371, 372, 373, 374, 375, 376, 377, 378, 810, 811, 812, 813, 814, 816, 31, 817, 379, 380, 381, 382, 383] (by decide +kernel) (by decide +kernel) w h).1
set_option maxRecDepth 20000 in
theorem liR13 : ∀ w ∈ wsL_law_r13, w ∈ lw_tbl := fun w h => (goodIn_r wsL_law_r13 [384, 385, 386, 818, 819, 820, 821, 822, 824, 32, 825, 387, 388, 389, 390, 391, 392, 393, 394, 395, 396, 397, 398, 399] (by decide +kernel) (by decide +kernel) w h).1
set_option maxRecDepth 20000 in
theorem liR14 : ∀ w ∈ wsL_law_r14, w ∈ lw_tbl := fun w h => (goodIn_r wsL_law_r14 [400, 401, 402, 403, 404, 405, 406, 407, 826, 827, 828, 829, 830, 832, 33, 833, 834, 836, 34, 837, 838, 840, 35, 841] (by decide +kernel) (by decide +kernel) w h).1
set_option maxRecDepth 20000 in
theorem liR15 : ∀ w ∈ wsL_law_r15, w ∈ lw_tbl := fun w h => (goodIn_r wsL_law_r15 [842, 844, 36, 845, 846, 848, 37, 849, 850, 852, 38, 853, 854, 856, 39, 857, 408, 409, 410, 411, 412, 413, 414, 415] (by decide +kernel) (by decide +kernel) w h).1
set_option maxRecDepth 20000 in
theorem liR16 : ∀ w ∈ wsL_law_r16, w ∈ lw_tbl := fun w h => (goodIn_r wsL_law_r16 [416, 418, 3, 419, 420, 421, 858, 859, 860, 861, 862, 864, 40, 865, 422, 423, 424, 425, 426, 427, 428, 429, 430, 431] (by decide +kernel) (by decide +kernel) w h).1
set_option maxRecDepth 20000 in
theorem liR17 : ∀ w ∈ wsL_law_r17, w ∈ lw_tbl := fun w h => (goodIn_r wsL_law_r17 [432, 433, 434, 435, 436, 437, 438, 866, 867, 868, 869, 870, 872, 41, 873, 874, 876, 42, 877, 878, 880, 43, 881, 882] (by decide +kernel) (by decide +kernel) w h).1
set_option maxRecDepth 20000 in
theorem liR18 : ∀ w ∈ wsL_law_r18, w ∈ lw_tbl := fun w h => (goodIn_r wsL_law_r18 [884, 44, 885, 439, 440, 441, 442, 443, 444, 445, 446, 447, 448, 449, 450, 451, 452, 453, 454, 455, 456, 457, 886, 887] (by decide +kernel) (by decide +kernel) w h).1
set_option maxRecDepth 20000 in
theorem liR19 : ∀ w ∈ wsL_law_r19, w ∈ lw_tbl := fun w h => (goodIn_r wsL_law_r19 [888, 889, 890, 892, 45, 893, 894, 896, 46, 897, 458, 459, 460, 461, 462, 463, 464, 465, 466, 468, 4, 469, 898, 899] (by decide +kernel) (by decide +kernel) w h).1
set_option maxRecDepth 20000 in
theorem liR20 : ∀ w ∈ wsL_law_r20, w ∈ lw_tbl := fun w h => (goodIn_r wsL_law_r20 [900, 901, 902, 904, 47, 905, 906, 908, 48, 909, 470, 471, 472, 473, 474, 475, 476, 477, 478, 480, 5, 481, 486, 482] (by decide +kernel) (by decide +kernel) w h).1
set_option maxRecDepth 20000 in
theorem liR21 : ∀ w ∈ wsL_law_r21, w ∈ lw_tbl := fun w h => (goodIn_r wsL_law_r21 [483, 484, 485, 487, 489, 6, 490, 491, 493, 7, 494, 495, 497, 8, 498, 499, 500, 502, 9, 503, 910, 911, 912, 913] (by decide +kernel) (by decide +kernel) w h).1
set_option maxRecDepth 20000 in
theorem liR22 : ∀ w ∈ wsL_law_r22, w ∈ lw_tbl := fun w h => (goodIn_r wsL_law_r22 [914, 916, 49, 917, 918, 920, 50, 921, 922, 924, 51, 925, 926, 928, 52, 929, 930, 932, 53, 933, 934, 936, 54, 937] (by decide +kernel) (by decide +kernel) w h).1
set_option maxRecDepth 20000 in
theorem liR23 : ∀ w ∈ wsL_law_r23, w ∈ lw_tbl := fun w h => (goodIn_r wsL_law_r23 [504, 505, 506, 507, 508, 509, 510, 511, 938, 939, 940, 941, 514, 515, 516, 517, 518, 519, 520, 521, 522, 524, 525, 526] (by decide +kernel) (by decide +kernel) w h).1
set_option maxRecDepth 20000 in
theorem liR24 : ∀ w ∈ wsL_law_r24, w ∈ lw_tbl := fun w h => (goodIn_r wsL_law_r24 [527, 942, 943, 944, 945, 946, 948, 55, 949, 528, 529, 530, 531, 532, 533, 534, 535, 536, 950, 951, 952, 953, 537, 538] (by decide +kernel) (by decide +kernel) w h).1
set_option maxRecDepth 20000 in
theorem liR25 : ∀ w ∈ wsL_law_r25, w ∈ lw_tbl := fun w h => (goodIn_r wsL_law_r25 [539, 540, 541, 542, 543, 544, 545, 546, 954, 955, 956, 957, 547, 548, 549, 550, 551, 552, 553, 554, 555, 556, 958, 959] (by decide +kernel) (by decide +kernel) w h).1
set_option maxRecDepth 20000 in
theorem liR26 : ∀ w ∈ wsL_law_r26, w ∈ lw_tbl := fun w h => (goodIn_r wsL_law_r26 [960, 961, 557, 558, 559, 560, 561, 562, 563, 564, 565, 566, 567, 568, 228, 569, 570, 571, 572, 573, 574, 576, 10, 577] (by decide +kernel) (by decide +kernel) w h).1
set_option maxRecDepth 20000 in
theorem liR27 : ∀ w ∈ wsL_law_r27, w ∈ lw_tbl := fun w h => (goodIn_r wsL_law_r27 [578, 962, 963, 964, 965, 718, 966, 968, 56, 969, 579, 580, 581, 582, 583, 584, 585, 586, 587, 588, 590, 11, 591, 592] (by decide +kernel) (by decide +kernel) w h).1
set_option maxRecDepth 20000 in
theorem liR28 : ∀ w ∈ wsL_law_r28, w ∈ lw_tbl := fun w h => (goodIn_r wsL_law_r28 [970, 971, 972, 973, 593, 594, 595, 596, 597, 598, 599, 600, 601, 974, 975, 976, 977, 602, 603, 604, 605, 606, 607, 608] (by decide +kernel) (by decide +kernel) w h).1
set_option maxRecDepth 20000 in
theorem liR29 : ∀ w ∈ wsL_law_r29, w ∈ lw_tbl := fun w h => (goodIn_r wsL_law_r29 [609, 610, 612, 12, 613, 614, 615, 617, 13, 618, 619, 978, 979, 980, 981, 982, 984, 57, 985, 620, 621, 622, 623, 624] (by decide +kernel) (by decide +kernel) w h).1
set_option maxRecDepth 20000 in
theorem liR30 : ∀ w ∈ wsL_law_r30, w ∈ lw_tbl := fun w h => (goodIn_r wsL_law_r30 [625, 626, 627, 628, 629, 630, 631, 986, 987, 988, 989, 990, 991, 76, 992, 996, 998, 997, 76, 999, 993, 994, 995, 632] (by decide +kernel) (by decide +kernel) w h).1
set_option maxRecDepth 20000 in
theorem liR31 : ∀ w ∈ wsL_law_r31, w ∈ lw_tbl := fun w h => (goodIn_r wsL_law_r31 [633, 634, 635, 636, 637, 638, 639, 1000, 1001, 1002, 1003, 640, 641, 642, 643, 644, 645, 646, 647, 1004, 1005, 1006, 1007, 649] (by decide +kernel) (by decide +kernel) w h).1
set_option maxRecDepth 20000 in
theorem liR32 : ∀ w ∈ wsL_law_r32, w ∈ lw_tbl := fun w h => (goodIn_r wsL_law_r32 [650, 651, 652, 653, 654, 655, 656, 1008, 1009, 1010, 1011, 657, 658, 659, 660, 661, 662, 663, 664, 261, 262, 665, 666, 667] (by decide +kernel) (by decide +kernel) w h).1
set_option maxRecDepth 20000 in
theorem liR33 : ∀ w ∈ wsL_law_r33, w ∈ lw_tbl := fun w h => (goodIn_r wsL_law_r33 [668, 669, 230, 233, 237, 231, 235, 670, 672, 14, 673, 674, 675, 676, 677, 679, 15, 680, 681, 683, 16, 684, 685, 687] (by decide +kernel) (by decide +kernel) w h).1
set_option maxRecDepth 20000 in
theorem liR34 : ∀ w ∈ wsL_law_r34, w ∈ lw_tbl := fun w h => (goodIn_r wsL_law_r34 [17, 688, 689, 690, 691, 692, 693, 694, 695, 696, 697, 698, 699, 700, 701, 1012, 1013, 1014, 1015, 721, 1016, 1018, 58, 1019] (by decide +kernel) (by decide +kernel) w h).1
set_option maxRecDepth 20000 in
theorem liR35 : ∀ w ∈ wsL_law_r35, w ∈ lw_tbl := fun w h => (goodIn_r wsL_law_r35 [719, 720, 722, 1020, 1022, 59, 1023, 1024, 1025, 1026, 1027, 1029, 60, 1030, 1031, 1033, 61, 1034, 1035, 1037, 62, 1038, 1039, 1041] (by decide +kernel) (by decide +kernel) w h).1
set_option maxRecDepth 20000 in
theorem liR36 : ∀ w ∈ wsL_law_r36, w ∈ lw_tbl := fun w h => (goodIn_r wsL_law_r36 [63, 1042, 703, 704, 705, 706, 1043, 1044, 1045, 1046] (by decide +kernel) (by decide +kernel) w h).1
set_option maxRecDepth 20000 in
theorem liX7 : ∀ w ∈ wsX70, w ∈ lw_tbl := fun w h => (goodIn_p wsX70 [] (by decide +kernel) (by decide +kernel) w h).1
set_option maxRecDepth 20000 in
theorem liX8 : ∀ w ∈ wsX80, w ∈ lw_tbl := fun w h => (goodIn_p wsX80 [] (by decide +kernel) (by decide +kernel) w h).1
set_option maxRecDepth 20000 in
theorem liX4 : ∀ w ∈ wsX40, w ∈ lw_tbl := fun w h => (goodIn_p wsX40 [] (by decide +kernel) (by decide +kernel) w h).1
set_option maxRecDepth 20000 in
theorem liX0 : ∀ w ∈ wsX00, w ∈ lw_tbl := fun w h => (goodIn_p wsX00 [] (by decide +kernel) (by decide +kernel) w h).1
set_option maxRecDepth 20000 in
theorem liX3 : ∀ w ∈ wsX30, w ∈ lw_tbl := fun w h => (goodIn_p wsX30 [] (by decide +kernel) (by decide +kernel) w h).1
set_option maxRecDepth 20000 in
theorem liX1 : ∀ w ∈ wsX10, w ∈ lw_tbl := fun w h => (goodIn_p wsX10 [] (by decide +kernel) (by decide +kernel) w h).1
set_option maxRecDepth 20000 in
theorem liX6 : ∀ w ∈ wsX60, w ∈ lw_tbl := fun w h => (goodIn_p wsX60 [] (by decide +kernel) (by decide +kernel) w h).1
set_option maxRecDepth 20000 in
theorem liX2 : ∀ w ∈ wsX20, w ∈ lw_tbl := fun w h => (goodIn_p wsX20 [] (by decide +kernel) (by decide +kernel) w h).1
set_option maxRecDepth 20000 in
theorem liX5 : ∀ w ∈ wsX50, w ∈ lw_tbl := fun w h => (goodIn_p wsX50 [] (by decide +kernel) (by decide +kernel) w h).1
theorem wsL_law_in : ∀ w ∈ wsL_law, w ∈ lw_tbl := fun w h => (List.mem_append.mp h).elim ((fun w h => (List.mem_append.mp h).elim ((fun w h => (List.mem_append.mp h).elim ((fun w h => (List.mem_append.mp h).elim ((fun w h => (List.mem_append.mp h).elim ((fun w h => (List.mem_append.mp h).elim ((fun w h => (List.mem_append.mp h).elim ((fun w h => (List.mem_append.mp h).elim ((fun w h => (List.mem_append.mp h).elim ((fun w h => (List.mem_append.mp h).elim ((fun w h => (List.mem_append.mp h).elim (liR1 w) ((fun w h => (List.mem_append.mp h).elim (liR2 w) ((fun w h => (List.mem_append.mp h).elim (liR3 w) ((fun w h => (List.mem_append.mp h).elim (liR4 w) ((fun w h => (List.mem_append.mp h).elim (liR5 w) ((fun w h => (List.mem_append.mp h).elim (liR6 w) ((fun w h => (List.mem_append.mp h).elim (liR7 w) ((fun w h => (List.mem_append.mp h).elim (liR8 w) ((fun w h => (List.mem_append.mp h).elim (liR9 w) ((fun w h => (List.mem_append.mp h).elim (liR10 w) ((fun w h => (List.mem_append.mp h).elim (liR11 w) ((fun w h => (List.mem_append.mp h).elim (liR12 w) ((fun w h => (List.mem_append.mp h).elim (liR13 w) ((fun w h => (List.mem_append.mp h).elim (liR14 w) ((fun w h => (List.mem_append.mp h).elim (liR15 w) ((fun w h => (List.mem_append.mp h).elim (liR16 w) ((fun w h => (List.mem_append.mp h).elim (liR17 w) ((fun w h => (List.mem_append.mp h).elim (liR18 w) ((fun w h => (List.mem_append.mp h).elim (liR19 w) ((fun w h => (List.mem_append.mp h).elim (liR20 w) ((fun w h => (List.mem_append.mp h).elim (liR21 w) ((fun w h => (List.mem_append.mp h).elim (liR22 w) ((fun w h => (List.mem_append.mp h).elim (liR23 w) ((fun w h => (List.mem_append.mp h).elim (liR24 w) ((fun w h => (List.mem_append.mp h).elim (liR25 w) ((fun w h => (List.mem_append.mp h).elim (liR26 w) ((fun w h => (List.mem_append.mp h).elim (liR27 w) ((fun w h => (List.mem_append.mp h).elim (liR28 w) ((fun w h => (List.mem_append.mp h).elim (liR29 w) ((fun w h => (List.mem_append.mp h).elim (liR30 w) ((fun w h => (List.mem_append.mp h).elim (liR31 w) ((fun w h => (List.mem_append.mp h).elim (liR32 w) ((fun w h => (List.mem_append.mp h).elim (liR33 w) ((fun w h => (List.mem_append.mp h).elim (liR34 w) ((fun w h => (List.mem_append.mp h).elim (liR35 w) (liR36 w)) w)) w)) w)) w)) w)) w)) w)) w)) w)) w)) w)) w)) w)) w)) w)) w)) w)) w)) w)) w)) w)) w)) w)) w)) w)) w)) w)) w)) w)) w)) w)) w)) w)) w)) w) (liX7 w)) w) (liX8 w)) w) (liX4 w)) w) (liX0 w)) w) (liX3 w)) w) (liX1 w)) w) (liX6 w)) w) (liX2 w)) w) (liX5 w)) w) (fun h => absurd h List.not_mem_nil)
theorem law_hts {args : Array Value} {s : State} (h : ∀ w ∈ lw_tbl, w.before args s = true) : ∀ w ∈ wsL_law, w.before args s = true := fun w hw => h w (wsL_law_in w hw)
