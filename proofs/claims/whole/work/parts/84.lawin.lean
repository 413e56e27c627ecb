/-! THE LAW'S WORDS ARE WORDS OF THE TABLES -/
set_option maxRecDepth 20000 in
theorem liR1 : ∀ w ∈ wsL_law_r1, w ∈ lw_tbl := fun w h => (goodIn_r wsL_law_r1 [77, 78, 65, 706, 707, 74, 79, 80, 81, 82, 83, 84, 85, 86, 66, 266, 267, 154, 155, 69, 268, 176, 177, 70] (by decide +kernel) (by decide +kernel) w h).1
set_option maxRecDepth 20000 in
theorem liR2 : ∀ w ∈ wsL_law_r2, w ∈ lw_tbl := fun w h => (goodIn_r wsL_law_r2 [269, 198, 199, 71, 270, 217, 218, 72, 271, 250, 251, 73, 272, 87, 88, 89, 90, 91, 92, 67, 126, 129, 132, 135] (by decide +kernel) (by decide +kernel) w h).1
set_option maxRecDepth 20000 in
theorem liR3 : ∀ w ∈ wsL_law_r3, w ∈ lw_tbl := fun w h => (goodIn_r wsL_law_r3 [136, 93, 94, 95, 96, 100, 101, 97, 98, 68, 99, 113, 102, 116, 117, 118, 119, 103, 120, 121, 122, 123, 156, 157] (by decide +kernel) (by decide +kernel) w h).1
set_option maxRecDepth 20000 in
theorem liR4 : ∀ w ∈ wsL_law_r4, w ∈ lw_tbl := fun w h => (goodIn_r wsL_law_r4 [158, 159, 160, 161, 162, 163, 164, 178, 179, 180, 181, 182, 183, 184, 185, 186, 200, 201, 202, 203, 204, 207, 206, 219] (by decide +kernel) (by decide +kernel) w h).1
set_option maxRecDepth 20000 in
theorem liR5 : ∀ w ∈ wsL_law_r5, w ∈ lw_tbl := fun w h => (goodIn_r wsL_law_r5 [220, 221, 222, 249, 223, 252, 253, 254, 255, 256, 708, 709, 710, 711, 712, 713, 714, 716, 288, 289, 290, 291, 292, 294] (by decide +kernel) (by decide +kernel) w h).1
set_option maxRecDepth 20000 in
theorem liR6 : ∀ w ∈ wsL_law_r6, w ∈ lw_tbl := fun w h => (goodIn_r wsL_law_r6 [0, 295, 296, 297, 298, 299, 138, 300, 301, 302, 303, 304, 305, 306, 307, 309, 310, 311, 312, 313, 314, 315, 316, 317] (by decide +kernel) (by decide +kernel) w h).1
set_option maxRecDepth 20000 in
theorem liR7 : ∀ w ∈ wsL_law_r7, w ∈ lw_tbl := fun w h => (goodIn_r wsL_law_r7 [319, 1, 320, 321, 322, 323, 324, 209, 208, 325, 327, 2, 328, 329, 743, 744, 745, 746, 747, 749, 18, 750, 751, 752] (by decide +kernel) (by decide +kernel) w h).1
set_option maxRecDepth 20000 in
theorem liR8 : ∀ w ∈ wsL_law_r8, w ∈ lw_tbl := fun w h => (goodIn_r wsL_law_r8 [753, 754, 756, 19, 757, 715, 758, 760, 20, 761, 330, 331, 332, 333, 334, 335, 336, 337, 338, 339, 340, 341, 342, 343] (by decide +kernel) (by decide +kernel) w h).1
set_option maxRecDepth 20000 in
theorem liR9 : ∀ w ∈ wsL_law_r9, w ∈ lw_tbl := fun w h => (goodIn_r wsL_law_r9 [344, 345, 346, 347, 348, 349, 350, 351, 352, 353, 354, 355, 356, 357, 358, 359, 75, 360, 361, 362, 363, 364, 365, 366] (by decide +kernel) (by decide +kernel) w h).1
set_option maxRecDepth 20000 in
theorem liR10 : ∀ w ∈ wsL_law_r10, w ∈ lw_tbl := fun w h => (goodIn_r wsL_law_r10 [367, 368, 369, 762, 763, 764, 765, 766, 768, 21, 769, 770, 772, 22, 773, 774, 776, 23, 777, 778, 780, 24, 781, 782] (by decide +kernel) (by decide +kernel) w h).1
set_option maxRecDepth 20000 in
theorem liR11 : ∀ w ∈ wsL_law_r11, w ∈ lw_tbl := fun w h => (goodIn_r wsL_law_r11 [784, 25, 785, 786, 788, 26, 789, 790, 792, 27, 793, 794, 796, 28, 797, 798, 799, 800, 801, 803, 29, 804, 805, 807] (by decide +kernel) (by decide +kernel) w h).1
set_option maxRecDepth 20000 in
theorem liR12 : ∀ w ∈ wsL_law_r12, w ∈ lw_tbl := fun w h => (goodIn_r wsL_law_r12 [30, 808, 370, 371, 372, 373, 374, 375, 376, 377, 809, 810, 811, 812, 813, 815, 31, 816, 378, 379, 380, 381, 382, 383] (by decide +kernel) (by decide +kernel) w h).1
set_option maxRecDepth 20000 in
theorem liR13 : ∀ w ∈ wsL_law_r13, w ∈ lw_tbl := fun w h => (goodIn_r wsL_law_r13 [384, 385, 817, 818, 819, 820, 821, 823, 32, 824, 386, 387, 388, 389, 390, 391, 392, 393, 394, 395, 396, 397, 398, 399] (by decide +kernel) (by decide +kernel) w h).1
set_option maxRecDepth 20000 in
theorem liR14 : ∀ w ∈ wsL_law_r14, w ∈ lw_tbl := fun w h => (goodIn_r wsL_law_r14 [400, 401, 402, 403, 404, 405, 406, 825, 826, 827, 828, 829, 831, 33, 832, 833, 835, 34, 836, 837, 839, 35, 840, 841] (by decide +kernel) (by decide +kernel) w h).1
set_option maxRecDepth 20000 in
theorem liR15 : ∀ w ∈ wsL_law_r15, w ∈ lw_tbl := fun w h => (goodIn_r wsL_law_r15 [843, 36, 844, 845, 847, 37, 848, 849, 851, 38, 852, 853, 855, 39, 856, 407, 408, 409, 410, 411, 412, 413, 414, 415] (by decide +kernel) (by decide +kernel) w h).1
set_option maxRecDepth 20000 in
theorem liR16 : ∀ w ∈ wsL_law_r16, w ∈ lw_tbl := fun w h => (goodIn_r wsL_law_r16 [417, 3, 418, 419, 420, 857, 858, 859, 860, 861, 863, 40, 864, 421, 422, 423, 424, 425, 426, 427, 428, 429, 430, 431] (by decide +kernel) (by decide +kernel) w h).1
set_option maxRecDepth 20000 in
theorem liR17 : ∀ w ∈ wsL_law_r17, w ∈ lw_tbl := fun w h => (goodIn_r wsL_law_r17 [432, 433, 434, 435, 436, 437, 865, 866, 867, 868, 869, 871, 41, 872, 873, 875, 42, 876, 877, 879, 43, 880, 881, 883] (by decide +kernel) (by decide +kernel) w h).1
set_option maxRecDepth 20000 in
theorem liR18 : ∀ w ∈ wsL_law_r18, w ∈ lw_tbl := fun w h => (goodIn_r wsL_law_r18 [44, 884, 438, 439, 440, 441, 442, 443, 444, 445, 446, 447, 448, 449, 450, 451, 452, 453, 454, 455, 456, 885, 886, 887] (by decide +kernel) (by decide +kernel) w h).1
set_option maxRecDepth 20000 in
theorem liR19 : ∀ w ∈ wsL_law_r19, w ∈ lw_tbl := fun w h => (goodIn_r wsL_law_r19 [888, 889, 891, 45, 892, 893, 895, 46, 896, 457, 458, 459, 460, 461, 462, 463, 464, 465, 467, 4, 468, 897, 898, 899] (by decide +kernel) (by decide +kernel) w h).1
set_option maxRecDepth 20000 in
theorem liR20 : ∀ w ∈ wsL_law_r20, w ∈ lw_tbl := fun w h => (goodIn_r wsL_law_r20 [900, 901, 903, 47, 904, 905, 907, 48, 908, 469, 470, 471, 472, 473, 474, 475, 476, 477, 479, 5, 480, 485, 481, 482] (by decide +kernel) (by decide +kernel) w h).1
set_option maxRecDepth 20000 in
theorem liR21 : ∀ w ∈ wsL_law_r21, w ∈ lw_tbl := fun w h => (goodIn_r wsL_law_r21 [483, 484, 486, 488, 6, 489, 490, 492, 7, 493, 494, 496, 8, 497, 498, 499, 501, 9, 502, 909, 910, 911, 912, 913] (by decide +kernel) (by decide +kernel) w h).1
set_option maxRecDepth 20000 in
theorem liR22 : ∀ w ∈ wsL_law_r22, w ∈ lw_tbl := fun w h => (goodIn_r wsL_law_r22 [915, 49, 916, 917, 919, 50, 920, 921, 923, 51, 924, 925, 927, 52, 928, 929, 931, 53, 932, 933, 935, 54, 936, 503] (by decide +kernel) (by decide +kernel) w h).1
set_option maxRecDepth 20000 in
theorem liR23 : ∀ w ∈ wsL_law_r23, w ∈ lw_tbl := fun w h => (goodIn_r wsL_law_r23 [504, 505, 506, 507, 508, 509, 510, 937, 938, 939, 940, 513, 514, 515, 516, 517, 518, 519, 520, 521, 523, 524, 525, 526] (by decide +kernel) (by decide +kernel) w h).1
set_option maxRecDepth 20000 in
theorem liR24 : ∀ w ∈ wsL_law_r24, w ∈ lw_tbl := fun w h => (goodIn_r wsL_law_r24 [941, 942, 943, 944, 945, 947, 55, 948, 527, 528, 529, 530, 531, 532, 533, 534, 535, 949, 950, 951, 952, 536, 537, 538] (by decide +kernel) (by decide +kernel) w h).1
set_option maxRecDepth 20000 in
theorem liR25 : ∀ w ∈ wsL_law_r25, w ∈ lw_tbl := fun w h => (goodIn_r wsL_law_r25 [539, 540, 541, 542, 543, 544, 545, 953, 954, 955, 956, 546, 547, 548, 549, 550, 551, 552, 553, 554, 555, 957, 958, 959] (by decide +kernel) (by decide +kernel) w h).1
set_option maxRecDepth 20000 in
theorem liR26 : ∀ w ∈ wsL_law_r26, w ∈ lw_tbl := fun w h => (goodIn_r wsL_law_r26 [960, 556, 557, 558, 559, 560, 561, 562, 563, 564, 565, 566, 567, 224, 568, 569, 570, 571, 572, 573, 575, 10, 576, 577] (by decide +kernel) (by decide +kernel) w h).1
set_option maxRecDepth 20000 in
theorem liR27 : ∀ w ∈ wsL_law_r27, w ∈ lw_tbl := fun w h => (goodIn_r wsL_law_r27 [961, 962, 963, 964, 717, 965, 967, 56, 968, 578, 579, 580, 581, 582, 583, 584, 585, 586, 587, 589, 11, 590, 591, 969] (by decide +kernel) (by decide +kernel) w h).1
set_option maxRecDepth 20000 in
theorem liR28 : ∀ w ∈ wsL_law_r28, w ∈ lw_tbl := fun w h => (goodIn_r wsL_law_r28 [970, 971, 972, 592, 593, 594, 595, 596, 597, 598, 599, 600, 973, 974, 975, 976, 601, 602, 603, 604, 605, 606, 607, 608] (by decide +kernel) (by decide +kernel) w h).1
set_option maxRecDepth 20000 in
theorem liR29 : ∀ w ∈ wsL_law_r29, w ∈ lw_tbl := fun w h => (goodIn_r wsL_law_r29 [609, 611, 12, 612, 613, 614, 616, 13, 617, 618, 977, 978, 979, 980, 981, 983, 57, 984, 619, 620, 621, 622, 623, 624] (by decide +kernel) (by decide +kernel) w h).1
set_option maxRecDepth 20000 in
theorem liR30 : ∀ w ∈ wsL_law_r30, w ∈ lw_tbl := fun w h => (goodIn_r wsL_law_r30 [625, 626, 627, 628, 629, 630, 985, 986, 987, 988, 989, 990, 76, 991, 995, 997, 996, 76, 998, 992, 993, 994, 631, 632] (by decide +kernel) (by decide +kernel) w h).1
set_option maxRecDepth 20000 in
theorem liR31 : ∀ w ∈ wsL_law_r31, w ∈ lw_tbl := fun w h => (goodIn_r wsL_law_r31 [633, 634, 635, 636, 637, 638, 999, 1000, 1001, 1002, 639, 640, 641, 642, 643, 644, 645, 646, 1003, 1004, 1005, 1006, 648, 649] (by decide +kernel) (by decide +kernel) w h).1
set_option maxRecDepth 20000 in
theorem liR32 : ∀ w ∈ wsL_law_r32, w ∈ lw_tbl := fun w h => (goodIn_r wsL_law_r32 [650, 651, 652, 653, 654, 655, 1007, 1008, 1009, 1010, 656, 657, 658, 659, 660, 661, 662, 663, 257, 258, 664, 665, 666, 667] (by decide +kernel) (by decide +kernel) w h).1
set_option maxRecDepth 20000 in
theorem liR33 : ∀ w ∈ wsL_law_r33, w ∈ lw_tbl := fun w h => (goodIn_r wsL_law_r33 [668, 226, 229, 227, 231, 233, 669, 671, 14, 672, 673, 674, 675, 676, 678, 15, 679, 680, 682, 16, 683, 684, 686, 17] (by decide +kernel) (by decide +kernel) w h).1
set_option maxRecDepth 20000 in
theorem liR34 : ∀ w ∈ wsL_law_r34, w ∈ lw_tbl := fun w h => (goodIn_r wsL_law_r34 [687, 688, 689, 690, 691, 692, 693, 694, 695, 696, 697, 698, 699, 700, 1011, 1012, 1013, 1014, 720, 1015, 1017, 58, 1018, 718] (by decide +kernel) (by decide +kernel) w h).1
set_option maxRecDepth 20000 in
theorem liR35 : ∀ w ∈ wsL_law_r35, w ∈ lw_tbl := fun w h => (goodIn_r wsL_law_r35 [719, 721, 1019, 1021, 59, 1022, 1023, 1024, 1025, 1026, 1028, 60, 1029, 1030, 1032, 61, 1033, 1034, 1036, 62, 1037, 1038, 1040, 63] (by decide +kernel) (by decide +kernel) w h).1
set_option maxRecDepth 20000 in
theorem liR36 : ∀ w ∈ wsL_law_r36, w ∈ lw_tbl := fun w h => (goodIn_r wsL_law_r36 [1041, 702, 703, 704, 705, 1042, 1043, 1044, 1045] (by decide +kernel) (by decide +kernel) w h).1
set_option maxRecDepth 20000 in
theorem liX7 : ∀ w ∈ wsX70, w ∈ lw_tbl := fun w h => (goodIn_p wsX70 [] (by decide +kernel) (by decide +kernel) w h).1
set_option maxRecDepth 20000 in
theorem liX8 : ∀ w ∈ wsX80, w ∈ lw_tbl := fun w h => (goodIn_p wsX80 [] (by decide +kernel) (by decide +kernel) w h).1
set_option maxRecDepth 20000 in
theorem liX4 : ∀ w ∈ wsX40, w ∈ lw_tbl := fun w h => (goodIn_p wsX40 [] (by decide +kernel) (by decide +kernel) w h).1
set_option maxRecDepth 20000 in
theorem liX0 : ∀ w ∈ wsX00, w ∈ lw_tbl := fun w h => (goodIn_p wsX00 [] (by decide +kernel) (by decide +kernel) w h).1
set_option maxRecDepth 20000 in
theorem liX3 : ∀ w ∈ wsX30, w ∈ lw_tbl := fun w h => (goodIn_p wsX30 [] (by decide +kernel) (by decide +kernel) w h).1
set_option maxRecDepth 20000 in
theorem liX1 : ∀ w ∈ wsX10, w ∈ lw_tbl := fun w h => (goodIn_p wsX10 [] (by decide +kernel) (by decide +kernel) w h).1
set_option maxRecDepth 20000 in
theorem liX6 : ∀ w ∈ wsX60, w ∈ lw_tbl := fun w h => (goodIn_p wsX60 [] (by decide +kernel) (by decide +kernel) w h).1
set_option maxRecDepth 20000 in
theorem liX2 : ∀ w ∈ wsX20, w ∈ lw_tbl := fun w h => (goodIn_p wsX20 [] (by decide +kernel) (by decide +kernel) w h).1
set_option maxRecDepth 20000 in
theorem liX5 : ∀ w ∈ wsX50, w ∈ lw_tbl := fun w h => (goodIn_p wsX50 [] (by decide +kernel) (by decide +kernel) w h).1
theorem wsL_law_in : ∀ w ∈ wsL_law, w ∈ lw_tbl := fun w h => (List.mem_append.mp h).elim ((fun w h => (List.mem_append.mp h).elim ((fun w h => (List.mem_append.mp h).elim ((fun w h => (List.mem_append.mp h).elim ((fun w h => (List.mem_append.mp h).elim ((fun w h => (List.mem_append.mp h).elim ((fun w h => (List.mem_append.mp h).elim ((fun w h => (List.mem_append.mp h).elim ((fun w h => (List.mem_append.mp h).elim ((fun w h => (List.mem_append.mp h).elim ((fun w h => (List.mem_append.mp h).elim (liR1 w) ((fun w h => (List.mem_append.mp h).elim (liR2 w) ((fun w h => (List.mem_append.mp h).elim (liR3 w) ((fun w h => (List.mem_append.mp h).elim (liR4 w) ((fun w h => (List.mem_append.mp h).elim (liR5 w) ((fun w h => (List.mem_append.mp h).elim (liR6 w) ((fun w h => (List.mem_append.mp h).elim (liR7 w) ((fun w h => (List.mem_append.mp h).elim (liR8 w) ((fun w h => (List.mem_append.mp h).elim (liR9 w) ((fun w h => (List.mem_append.mp h).elim (liR10 w) ((fun w h => (List.mem_append.mp h).elim (liR11 w) ((fun w h => (List.mem_append.mp h).elim (liR12 w) ((fun w h => (List.mem_append.mp h).elim (liR13 w) ((fun w h => (List.mem_append.mp h).elim (liR14 w) ((fun w h => (List.mem_append.mp h).elim (liR15 w) ((fun w h => (List.mem_append.mp h).elim (liR16 w) ((fun w h => (List.mem_append.mp h).elim (liR17 w) ((fun w h => (List.mem_append.mp h).elim (liR18 w) ((fun w h => (List.mem_append.mp h).elim (liR19 w) ((fun w h => (List.mem_append.mp h).elim (liR20 w) ((fun w h => (List.mem_append.mp h).elim (liR21 w) ((fun w h => (List.mem_append.mp h).elim (liR22 w) ((fun w h => (List.mem_append.mp h).elim (liR23 w) ((fun w h => (List.mem_append.mp h).elim (liR24 w) ((fun w h => (List.mem_append.mp h).elim (liR25 w) ((fun w h => (List.mem_append.mp h).elim (liR26 w) ((fun w h => (List.mem_append.mp h).elim (liR27 w) ((fun w h => (List.mem_append.mp h).elim (liR28 w) ((fun w h => (List.mem_append.mp h).elim (liR29 w) ((fun w h => (List.mem_append.mp h).elim (liR30 w) ((fun w h => (List.mem_append.mp h).elim (liR31 w) ((fun w h => (List.mem_append.mp h).elim (liR32 w) ((fun w h => (List.mem_append.mp h).elim (liR33 w) ((fun w h => (List.mem_append.mp h).elim (liR34 w) ((fun w h => (List.mem_append.mp h).elim (liR35 w) (liR36 w)) w)) w)) w)) w)) w)) w)) w)) w)) w)) w)) w)) w)) w)) w)) w)) w)) w)) w)) w)) w)) w)) w)) w)) w)) w)) w)) w)) w)) w)) w)) w)) w)) w)) w)) w) (liX7 w)) w) (liX8 w)) w) (liX4 w)) w) (liX0 w)) w) (liX3 w)) w) (liX1 w)) w) (liX6 w)) w) (liX2 w)) w) (liX5 w)) w) (fun h => absurd h List.not_mem_nil)
theorem law_hts {args : Array Value} {s : State} (h : ∀ w ∈ lw_tbl, w.before args s = true) : ∀ w ∈ wsL_law, w.before args s = true := fun w hw => h w (wsL_law_in w hw)
