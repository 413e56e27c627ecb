set_option maxRecDepth 20000 in
theorem ggL_reads_X7_play : GoodIn wsL_reads wsX7_play := goodIn_r _ [258, 6, 7, 8, 9, 4, 10, 11, 12, 13, 14, 15, 16, 17, 18, 19, 20, 21, 22, 23, 24, 25, 26, 27, 28, 29, 30, 31, 32, 33, 34, 35, 36, 37, 38, 39, 40, 41, 42, 43, 44, 45, 46, 47, 48, 49, 50, 51, 52, 53, 54, 55, 56, 57, 58, 59, 60, 61, 62, 63, 64, 65, 66, 67, 68, 69, 70, 71, 72, 73, 74, 75, 76, 77, 78, 79, 80, 81, 82, 83, 84, 85, 86, 87, 88, 89, 90, 91, 92, 93, 94, 95, 96, 97, 98, 99, 100, 101, 102, 103, 104, 105, 106, 107, 108, 109, 110, 111, 112, 113, 114, 115, 116, 117, 118, 119, 120, 121, 122, 123, 124, 125, 126, 127, 128, 129, 130, 131, 132, 133, 134, 135, 136, 137, 138, 139, 140, 141, 142, 143, 144, 145, 146, 147, 148, 149, 150, 151, 152, 153, 154, 155, 156, 157, 158, 159, 160, 161, 162, 163, 164, 165, 166, 167, 168, 169, 170, 171, 172, 173, 174, 175, 176, 177, 178, 179, 180, 181, 182, 183, 184, 185, 186, 187, 188, 189, 190, 191, 192, 193, 194, 195, 196, 197, 198, 199, 200, 201, 202, 203, 204, 205, 206, 207, 208, 209, 210, 211, 212, 213, 214, 215, 216, 217, 218, 219, 259, 260, 261, 262, 228, 263, 264, 265, 234, 266, 236, 267, 268, 269, 270, 271, 272, 273, 274, 275, 276, 277, 278, 279, 280, 281, 282, 283, 284, 285, 286, 287, 288, 289, 290, 291, 292, 293, 294, 295, 296, 297, 298, 299, 300, 301, 302, 303, 304, 305, 306, 307, 308] (by decide +kernel) (by decide +kernel)
set_option maxRecDepth 20000 in
theorem gL_reads_X7_play : GoodIn wsL_reads (wsV RL 54 RX7 yX7_play wsX7_play) := goodIn_app (goodIn_of _ (by decide +kernel)) ggL_reads_X7_play
theorem dL_reads_0 : decode cL_reads 0 = .ok (.aload_n 0, 1) := by decide +kernel
theorem dL_reads_1 : decode cL_reads 1 = .ok (.iconst 0, 1) := by decide +kernel
theorem dL_reads_2 : decode cL_reads 2 = .ok (.invokevirtual 51, 3) := by decide +kernel
theorem dL_reads_5 : decode cL_reads 5 = .ok (.istore_n 1, 1) := by decide +kernel
theorem dL_reads_6 : decode cL_reads 6 = .ok (.aload_n 0, 1) := by decide +kernel
theorem dL_reads_7 : decode cL_reads 7 = .ok (.iconst 1, 1) := by decide +kernel
theorem dL_reads_8 : decode cL_reads 8 = .ok (.invokevirtual 51, 3) := by decide +kernel
theorem dL_reads_11 : decode cL_reads 11 = .ok (.istore_n 2, 1) := by decide +kernel
theorem dL_reads_12 : decode cL_reads 12 = .ok (.aload_n 0, 1) := by decide +kernel
theorem dL_reads_13 : decode cL_reads 13 = .ok (.bipush 12, 2) := by decide +kernel
theorem dL_reads_15 : decode cL_reads 15 = .ok (.invokevirtual 13, 3) := by decide +kernel
theorem dL_reads_18 : decode cL_reads 18 = .ok (.istore_n 3, 1) := by decide +kernel
theorem dL_reads_19 : decode cL_reads 19 = .ok (.aload_n 0, 1) := by decide +kernel
theorem dL_reads_20 : decode cL_reads 20 = .ok (.invokevirtual 54, 3) := by decide +kernel
theorem dL_reads_23 : decode cL_reads 23 = .ok (.istore 4, 2) := by decide +kernel
theorem dL_reads_25 : decode cL_reads 25 = .ok (.iload_n 1, 1) := by decide +kernel
theorem dL_reads_26 : decode cL_reads 26 = .ok (.bipush (-4), 2) := by decide +kernel
theorem dL_reads_28 : decode cL_reads 28 = .ok (.if_icmp .ne 26, 3) := by decide +kernel
theorem dL_reads_31 : decode cL_reads 31 = .ok (.iload_n 2, 1) := by decide +kernel
theorem dL_reads_32 : decode cL_reads 32 = .ok (.bipush (-4), 2) := by decide +kernel
theorem dL_reads_34 : decode cL_reads 34 = .ok (.if_icmp .ne 20, 3) := by decide +kernel
theorem dL_reads_37 : decode cL_reads 37 = .ok (.iload 4, 2) := by decide +kernel
theorem dL_reads_39 : decode cL_reads 39 = .ok (.ifCond .lt 15, 3) := by decide +kernel
theorem dL_reads_42 : decode cL_reads 42 = .ok (.iload 4, 2) := by decide +kernel
theorem dL_reads_44 : decode cL_reads 44 = .ok (.iload_n 3, 1) := by decide +kernel
theorem dL_reads_45 : decode cL_reads 45 = .ok (.iconst 3, 1) := by decide +kernel
theorem dL_reads_46 : decode cL_reads 46 = .ok (.idiv, 1) := by decide +kernel
theorem dL_reads_47 : decode cL_reads 47 = .ok (.if_icmp .gt 7, 3) := by decide +kernel
theorem dL_reads_50 : decode cL_reads 50 = .ok (.iconst 1, 1) := by decide +kernel
theorem dL_reads_51 : decode cL_reads 51 = .ok (.goto 4, 3) := by decide +kernel
theorem dL_reads_54 : decode cL_reads 54 = .ok (.iconst 0, 1) := by decide +kernel
theorem dL_reads_55 : decode cL_reads 55 = .ok (.istore 5, 2) := by decide +kernel
theorem dL_reads_57 : decode cL_reads 57 = .ok (.iload_n 1, 1) := by decide +kernel
theorem dL_reads_58 : decode cL_reads 58 = .ok (.ifCond .lt 28, 3) := by decide +kernel
theorem dL_reads_61 : decode cL_reads 61 = .ok (.iload_n 1, 1) := by decide +kernel
theorem dL_reads_62 : decode cL_reads 62 = .ok (.iload_n 3, 1) := by decide +kernel
theorem dL_reads_63 : decode cL_reads 63 = .ok (.if_icmp .ge 23, 3) := by decide +kernel
theorem dL_reads_66 : decode cL_reads 66 = .ok (.iload_n 2, 1) := by decide +kernel
theorem dL_reads_67 : decode cL_reads 67 = .ok (.ifCond .le 19, 3) := by decide +kernel
theorem dL_reads_70 : decode cL_reads 70 = .ok (.iload_n 2, 1) := by decide +kernel
theorem dL_reads_71 : decode cL_reads 71 = .ok (.iconst 4, 1) := by decide +kernel
theorem dL_reads_72 : decode cL_reads 72 = .ok (.if_icmp .ge 14, 3) := by decide +kernel
theorem dL_reads_75 : decode cL_reads 75 = .ok (.iload 4, 2) := by decide +kernel
theorem dL_reads_77 : decode cL_reads 77 = .ok (.bipush (-2), 2) := by decide +kernel
theorem dL_reads_79 : decode cL_reads 79 = .ok (.if_icmp .ne 7, 3) := by decide +kernel
theorem dL_reads_82 : decode cL_reads 82 = .ok (.iconst 1, 1) := by decide +kernel
theorem dL_reads_83 : decode cL_reads 83 = .ok (.goto 4, 3) := by decide +kernel
theorem dL_reads_86 : decode cL_reads 86 = .ok (.iconst 0, 1) := by decide +kernel
theorem dL_reads_87 : decode cL_reads 87 = .ok (.istore 6, 2) := by decide +kernel
theorem dL_reads_89 : decode cL_reads 89 = .ok (.iload 5, 2) := by decide +kernel
theorem dL_reads_91 : decode cL_reads 91 = .ok (.ifCond .ne 8, 3) := by decide +kernel
theorem dL_reads_94 : decode cL_reads 94 = .ok (.iload 6, 2) := by decide +kernel
theorem dL_reads_96 : decode cL_reads 96 = .ok (.ifCond .eq 17, 3) := by decide +kernel
theorem dL_reads_99 : decode cL_reads 99 = .ok (.aload_n 0, 1) := by decide +kernel
theorem dL_reads_100 : decode cL_reads 100 = .ok (.bipush 12, 2) := by decide +kernel
theorem dL_reads_102 : decode cL_reads 102 = .ok (.invokevirtual 13, 3) := by decide +kernel
theorem dL_reads_105 : decode cL_reads 105 = .ok (.iload_n 3, 1) := by decide +kernel
theorem dL_reads_106 : decode cL_reads 106 = .ok (.if_icmp .ne 7, 3) := by decide +kernel
theorem dL_reads_109 : decode cL_reads 109 = .ok (.iconst 1, 1) := by decide +kernel
theorem dL_reads_110 : decode cL_reads 110 = .ok (.goto 4, 3) := by decide +kernel
theorem dL_reads_113 : decode cL_reads 113 = .ok (.iconst 0, 1) := by decide +kernel
theorem dL_reads_114 : decode cL_reads 114 = .ok (.ireturn, 1) := by decide +kernel
set_option maxRecDepth 20000 in
theorem ggL_acts_L_low : GoodIn wsL_acts wsL_low := goodIn_r _ [4, 5] (by decide +kernel) (by decide +kernel)
set_option maxRecDepth 20000 in
theorem gL_acts_L_low : GoodIn wsL_acts (va_wsS RL 41 yL_low wsL_low) := goodIn_app (goodIn_of _ (by decide +kernel)) ggL_acts_L_low
set_option maxRecDepth 20000 in
theorem ggL_acts_X7_count : GoodIn wsL_acts wsX7_count := goodIn_r _ [10, 11, 12, 13, 14, 15, 16, 17, 18, 19, 20, 21, 22, 23, 24, 25, 26, 27, 28, 29, 30, 31, 32, 33, 34, 35, 36, 37, 38, 39, 40, 41, 42, 43, 44, 45, 46, 47, 48, 49, 50, 51, 52, 9, 53, 54, 55, 56, 57, 58, 59, 60, 415, 416, 417, 418, 419, 420, 421, 422, 423, 424, 425, 426, 427, 428, 429, 430, 431, 432, 433, 434, 435, 436, 437, 438, 439, 440, 441, 442, 443, 444, 445, 446] (by decide +kernel) (by decide +kernel)
set_option maxRecDepth 20000 in
theorem gL_acts_X7_count : GoodIn wsL_acts (wsV RL 13 RX7 yX7_count wsX7_count) := goodIn_app (goodIn_of _ (by decide +kernel)) ggL_acts_X7_count
set_option maxRecDepth 20000 in
theorem ggL_acts_X7_meal : GoodIn wsL_acts wsX7_meal := goodIn_r _ [64, 65, 66, 67, 9, 68, 69, 70, 71, 72, 73, 74, 57, 75, 76, 77, 78, 79, 59, 80, 81, 82, 83, 39, 84, 41, 51, 85, 86, 87, 88, 89, 90, 91, 92, 93, 94, 95, 96, 52, 53, 97, 98, 99, 100, 60, 47, 48, 49, 50, 101, 102, 103, 104, 105, 37, 38, 40, 106, 107, 108, 109, 110, 111, 112, 113, 114, 115, 116, 117, 118, 119, 120, 121, 122, 123, 124, 125, 126, 127, 128, 129, 130, 131, 132, 133, 134, 135, 11, 136, 137, 138, 17, 139, 19, 140, 141, 142, 143, 144, 145, 146, 415, 416, 417, 418, 419, 420, 421, 437, 438, 439, 440, 441, 442, 443, 444, 445, 446, 447, 448, 449, 450, 451, 422, 423, 424] (by decide +kernel) (by decide +kernel)
set_option maxRecDepth 20000 in
theorem gL_acts_X7_meal : GoodIn wsL_acts (wsV RL 57 RX7 yX7_meal wsX7_meal) := goodIn_app (goodIn_of _ (by decide +kernel)) ggL_acts_X7_meal
set_option maxRecDepth 20000 in
theorem ggL_acts_X7_locker : GoodIn wsL_acts wsX7_locker := goodIn_r _ [150, 65, 66, 67, 9, 68, 69, 70, 71, 72, 73, 74, 57, 75, 76, 77, 78, 79, 59, 80, 81, 82, 83, 39, 84, 41, 51, 151, 152, 153, 88, 154, 90, 52, 53, 113, 114, 115, 116, 117, 118, 119, 120, 121, 122, 123, 124, 125, 50, 132, 133, 134, 135, 11, 136, 137, 138, 17, 139, 19, 140, 141, 142, 143, 144, 145, 146, 415, 416, 417, 418, 419, 420, 421, 437, 438, 439, 440, 441, 442, 443, 444, 445, 446, 447, 448, 449, 450, 451, 422, 423, 424] (by decide +kernel) (by decide +kernel)
set_option maxRecDepth 20000 in
theorem gL_acts_X7_locker : GoodIn wsL_acts (wsV RL 61 RX7 yX7_locker wsX7_locker) := goodIn_app (goodIn_of _ (by decide +kernel)) ggL_acts_X7_locker
set_option maxRecDepth 20000 in
theorem ggL_acts_X7_person : GoodIn wsL_acts wsX7_person := goodIn_r _ [158, 65, 66, 67, 9, 68, 69, 70, 71, 72, 73, 74, 57, 75, 76, 77, 78, 79, 59, 80, 81, 82, 83, 39, 84, 41, 51, 159, 160, 161, 88, 162, 163, 52, 53, 113, 114, 115, 116, 117, 118, 119, 120, 121, 122, 123, 124, 125, 50, 132, 133, 134, 135, 11, 136, 137, 138, 17, 139, 19, 140, 141, 142, 143, 144, 145, 146, 415, 416, 417, 418, 419, 420, 421, 437, 438, 439, 440, 441, 442, 443, 444, 445, 446, 447, 448, 449, 450, 451, 422, 423, 424] (by decide +kernel) (by decide +kernel)
set_option maxRecDepth 20000 in
theorem gL_acts_X7_person : GoodIn wsL_acts (wsV RL 64 RX7 yX7_person wsX7_person) := goodIn_app (goodIn_of _ (by decide +kernel)) ggL_acts_X7_person
set_option maxRecDepth 20000 in
theorem ggL_acts_X7_volunteer : GoodIn wsL_acts wsX7_volunteer := goodIn_r _ [167, 65, 66, 67, 9, 68, 69, 70, 71, 72, 73, 74, 57, 75, 76, 77, 78, 79, 59, 80, 81, 82, 83, 39, 84, 41, 51, 168, 169, 170, 88, 171, 90, 172, 93, 94, 95, 96, 52, 53, 113, 114, 115, 116, 117, 118, 119, 120, 121, 122, 123, 124, 125, 50, 132, 133, 134, 135, 11, 136, 137, 138, 17, 139, 19, 140, 141, 142, 143, 144, 145, 146, 415, 416, 417, 418, 419, 420, 421, 437, 438, 439, 440, 441, 442, 443, 444, 445, 446, 447, 448, 449, 450, 451, 422, 423, 424] (by decide +kernel) (by decide +kernel)
set_option maxRecDepth 20000 in
theorem gL_acts_X7_volunteer : GoodIn wsL_acts (wsV RL 67 RX7 yX7_volunteer wsX7_volunteer) := goodIn_app (goodIn_of _ (by decide +kernel)) ggL_acts_X7_volunteer
