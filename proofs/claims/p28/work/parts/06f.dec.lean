set_option maxRecDepth 20000 in
theorem ggL_acts_X7_put : GoodIn wsL_acts wsX7_put := goodIn_r _ [279, 65, 66, 67, 9, 68, 69, 70, 71, 72, 73, 74, 57, 75, 76, 77, 78, 79, 59, 80, 81, 82, 83, 39, 84, 41, 51, 280, 281, 282, 88, 283, 172, 91, 93, 94, 95, 96, 259, 246, 247, 248, 197, 198, 199, 200, 60, 47, 48, 49, 50, 284, 285, 286, 287, 92, 90, 232, 97, 98, 99, 100, 101, 102, 103, 104, 105, 37, 38, 40, 106, 107, 108, 109, 110, 111, 112, 231, 122, 123, 124, 125, 126, 127, 128, 129, 130, 131, 132, 133, 134, 135, 11, 136, 137, 138, 17, 139, 19, 140, 141, 142, 143, 144, 145, 146, 415, 416, 417, 418, 419, 420, 421, 437, 438, 439, 440, 441, 442, 443, 444, 445, 446, 447, 448, 449, 450, 451, 422, 423, 424] (by decide +kernel) (by decide +kernel)
set_option maxRecDepth 20000 in
theorem gL_acts_X7_put : GoodIn wsL_acts (wsV RL 82 RX7 yX7_put wsX7_put) := goodIn_app (goodIn_of _ (by decide +kernel)) ggL_acts_X7_put
set_option maxRecDepth 20000 in
theorem ggL_acts_X7_set : GoodIn wsL_acts wsX7_set := goodIn_r _ [291, 65, 66, 67, 9, 68, 69, 70, 71, 72, 73, 74, 57, 75, 76, 77, 78, 79, 59, 80, 81, 82, 83, 39, 84, 41, 51, 292, 293, 294, 88, 295, 91, 52, 53, 296, 55, 56, 58, 60, 47, 48, 49, 50, 122, 123, 124, 125, 132, 133, 134, 135, 11, 136, 137, 138, 17, 139, 19, 140, 141, 142, 143, 144, 145, 146, 415, 416, 417, 418, 419, 420, 421, 437, 438, 439, 440, 441, 442, 443, 444, 445, 446, 447, 448, 449, 450, 451, 422, 423, 424] (by decide +kernel) (by decide +kernel)
set_option maxRecDepth 20000 in
theorem gL_acts_X7_set : GoodIn wsL_acts (wsV RL 85 RX7 yX7_set wsX7_set) := goodIn_app (goodIn_of _ (by decide +kernel)) ggL_acts_X7_set
set_option maxRecDepth 20000 in
theorem ggL_acts_X7_pass : GoodIn wsL_acts wsX7_pass := goodIn_r _ [300, 65, 66, 67, 9, 68, 69, 70, 71, 72, 73, 74, 57, 75, 76, 77, 78, 79, 59, 80, 81, 82, 83, 39, 84, 41, 51, 301, 302, 303, 88, 304, 91, 172, 52, 53, 305, 306, 307, 308, 92, 309, 198, 199, 200, 231, 37, 38, 40, 232, 47, 48, 49, 50, 310, 311, 312, 313, 60, 122, 123, 124, 125, 314, 315, 316, 317, 90, 126, 127, 128, 129, 130, 131, 318, 319, 320, 321, 284, 285, 286, 287, 97, 98, 99, 100, 101, 102, 103, 104, 105, 106, 107, 108, 109, 110, 111, 112, 322, 323, 324, 325, 296, 55, 56, 58, 326, 327, 328, 329, 163, 132, 133, 134, 135, 11, 136, 137, 138, 17, 139, 19, 140, 141, 142, 143, 144, 145, 146, 415, 416, 417, 418, 419, 420, 421, 437, 438, 439, 440, 441, 442, 443, 444, 445, 446, 447, 448, 449, 450, 451, 422, 423, 424] (by decide +kernel) (by decide +kernel)
set_option maxRecDepth 20000 in
theorem gL_acts_X7_pass : GoodIn wsL_acts (wsV RL 88 RX7 yX7_pass wsX7_pass) := goodIn_app (goodIn_of _ (by decide +kernel)) ggL_acts_X7_pass
set_option maxRecDepth 20000 in
theorem ggL_acts_L_types : GoodIn wsL_acts wsL_types := goodIn_r _ [332, 1, 2, 3, 4, 5, 333, 334, 335, 9, 336, 12, 337, 338, 339, 23, 340, 25, 6, 7, 8, 10, 11, 13, 14, 15, 16, 17, 18, 19, 20, 21, 22, 24, 26, 27, 28, 29, 30, 31, 32, 33, 34, 35, 36, 37, 38, 39, 40, 41, 42, 43, 44, 45, 46, 47, 48, 49, 50, 51, 52, 53, 54, 55, 56, 57, 58, 59, 60, 173, 174, 175, 176, 177, 178, 179, 180, 181, 94, 95, 96, 182, 183, 184, 341, 342, 343, 344, 345, 346, 347, 348, 349, 350, 351, 352, 415, 416, 417, 418, 419, 420, 421, 425, 426, 427, 428, 429, 430, 431, 422, 423, 424, 432, 433, 434, 435, 436, 437, 438, 439, 440, 441, 442, 443, 444, 445, 446] (by decide +kernel) (by decide +kernel)
set_option maxRecDepth 20000 in
theorem gL_acts_L_types : GoodIn wsL_acts (va_wsS RL 91 yL_types wsL_types) := goodIn_app (goodIn_of _ (by decide +kernel)) ggL_acts_L_types
set_option maxRecDepth 20000 in
theorem ggL_acts_L_reads : GoodIn wsL_acts wsL_reads := goodIn_r _ [355, 356, 357, 358, 9, 359, 360, 65, 66, 67, 68, 69, 70, 71, 72, 73, 74, 57, 75, 76, 77, 78, 79, 59, 80, 81, 82, 83, 39, 84, 41, 51, 361, 362, 363, 364, 365, 366, 367, 368, 369, 21, 22, 23, 24, 25, 370, 371, 372, 373, 374, 375, 376, 377, 378, 379, 380, 381, 382, 349, 383, 384, 385, 386, 387, 388, 389, 52, 53, 390, 391, 392, 393, 394, 395, 396, 397, 398, 210, 211, 88, 212, 163, 92, 91, 93, 94, 95, 96, 213, 214, 215, 216, 60, 47, 48, 49, 50, 217, 194, 195, 196, 197, 198, 199, 200, 218, 202, 203, 204, 105, 37, 38, 40, 122, 123, 124, 125, 399, 224, 225, 226, 90, 227, 228, 229, 230, 231, 232, 126, 127, 128, 129, 130, 131, 400, 254, 255, 256, 172, 257, 242, 243, 244, 258, 107, 108, 109, 110, 111, 112, 259, 246, 247, 248, 401, 265, 266, 267, 268, 269, 270, 271, 272, 273, 274, 275, 55, 56, 58, 402, 281, 282, 283, 284, 285, 286, 287, 97, 98, 99, 100, 101, 102, 103, 104, 106, 403, 302, 303, 304, 305, 306, 307, 308, 309, 310, 311, 312, 313, 314, 315, 316, 317, 318, 319, 320, 321, 322, 323, 324, 325, 296, 326, 327, 328, 329, 404, 405, 406, 407, 408, 409, 410, 6, 7, 8, 10, 11, 12, 13, 14, 15, 16, 17, 18, 19, 20, 26, 27, 28, 29, 30, 31, 32, 33, 34, 35, 36, 42, 43, 44, 45, 46, 54, 411, 412, 413, 414, 132, 133, 134, 135, 136, 137, 138, 139, 140, 141, 142, 143, 144, 145, 146, 415, 416, 417, 418, 419, 420, 421, 437, 438, 439, 440, 441, 442, 443, 444, 445, 446, 452, 453, 454, 425, 426, 427, 428, 429, 430, 431, 447, 448, 449, 450, 451, 422, 423, 424, 432, 433, 434, 435, 436] (by decide +kernel) (by decide +kernel)
set_option maxRecDepth 20000 in
theorem gL_acts_L_reads : GoodIn wsL_acts (va_wsS RL 94 yL_reads wsL_reads) := goodIn_app (goodIn_of _ (by decide +kernel)) ggL_acts_L_reads
theorem dL_acts_0 : decode cL_acts 0 = .ok (.iload_n 1, 1) := by decide +kernel
theorem dL_acts_1 : decode cL_acts 1 = .ok (.bipush 16, 2) := by decide +kernel
theorem dL_acts_3 : decode cL_acts 3 = .ok (.invokestatic 41, 3) := by decide +kernel
theorem dL_acts_6 : decode cL_acts 6 = .ok (.istore_n 3, 1) := by decide +kernel
theorem dL_acts_7 : decode cL_acts 7 = .ok (.aload_n 0, 1) := by decide +kernel
theorem dL_acts_8 : decode cL_acts 8 = .ok (.iconst 0, 1) := by decide +kernel
theorem dL_acts_9 : decode cL_acts 9 = .ok (.invokevirtual 13, 3) := by decide +kernel
theorem dL_acts_12 : decode cL_acts 12 = .ok (.istore 4, 2) := by decide +kernel
theorem dL_acts_14 : decode cL_acts 14 = .ok (.aload_n 0, 1) := by decide +kernel
theorem dL_acts_15 : decode cL_acts 15 = .ok (.iconst 1, 1) := by decide +kernel
theorem dL_acts_16 : decode cL_acts 16 = .ok (.invokevirtual 13, 3) := by decide +kernel
theorem dL_acts_19 : decode cL_acts 19 = .ok (.istore 5, 2) := by decide +kernel
theorem dL_acts_21 : decode cL_acts 21 = .ok (.aload_n 0, 1) := by decide +kernel
theorem dL_acts_22 : decode cL_acts 22 = .ok (.iconst 2, 1) := by decide +kernel
theorem dL_acts_23 : decode cL_acts 23 = .ok (.invokevirtual 13, 3) := by decide +kernel
theorem dL_acts_26 : decode cL_acts 26 = .ok (.istore 6, 2) := by decide +kernel
theorem dL_acts_28 : decode cL_acts 28 = .ok (.aload_n 0, 1) := by decide +kernel
theorem dL_acts_29 : decode cL_acts 29 = .ok (.iconst 3, 1) := by decide +kernel
theorem dL_acts_30 : decode cL_acts 30 = .ok (.invokevirtual 13, 3) := by decide +kernel
theorem dL_acts_33 : decode cL_acts 33 = .ok (.istore 7, 2) := by decide +kernel
theorem dL_acts_35 : decode cL_acts 35 = .ok (.iload_n 1, 1) := by decide +kernel
theorem dL_acts_36 : decode cL_acts 36 = .ok (.iconst 5, 1) := by decide +kernel
theorem dL_acts_37 : decode cL_acts 37 = .ok (.ishr, 1) := by decide +kernel
theorem dL_acts_38 : decode cL_acts 38 = .ok (.iload 4, 2) := by decide +kernel
theorem dL_acts_40 : decode cL_acts 40 = .ok (.iconst 1, 1) := by decide +kernel
theorem dL_acts_41 : decode cL_acts 41 = .ok (.iadd, 1) := by decide +kernel
theorem dL_acts_42 : decode cL_acts 42 = .ok (.invokestatic 41, 3) := by decide +kernel
theorem dL_acts_45 : decode cL_acts 45 = .ok (.istore 8, 2) := by decide +kernel
theorem dL_acts_47 : decode cL_acts 47 = .ok (.iload_n 1, 1) := by decide +kernel
theorem dL_acts_48 : decode cL_acts 48 = .ok (.bipush 8, 2) := by decide +kernel
theorem dL_acts_50 : decode cL_acts 50 = .ok (.ishr, 1) := by decide +kernel
theorem dL_acts_51 : decode cL_acts 51 = .ok (.iload 5, 2) := by decide +kernel
theorem dL_acts_53 : decode cL_acts 53 = .ok (.iconst 1, 1) := by decide +kernel
theorem dL_acts_54 : decode cL_acts 54 = .ok (.iadd, 1) := by decide +kernel
theorem dL_acts_55 : decode cL_acts 55 = .ok (.invokestatic 41, 3) := by decide +kernel
theorem dL_acts_58 : decode cL_acts 58 = .ok (.istore 9, 2) := by decide +kernel
theorem dL_acts_60 : decode cL_acts 60 = .ok (.iload_n 1, 1) := by decide +kernel
theorem dL_acts_61 : decode cL_acts 61 = .ok (.bipush 13, 2) := by decide +kernel
theorem dL_acts_63 : decode cL_acts 63 = .ok (.ishr, 1) := by decide +kernel
theorem dL_acts_64 : decode cL_acts 64 = .ok (.iload 6, 2) := by decide +kernel
theorem dL_acts_66 : decode cL_acts 66 = .ok (.iconst 1, 1) := by decide +kernel
theorem dL_acts_67 : decode cL_acts 67 = .ok (.iadd, 1) := by decide +kernel
theorem dL_acts_68 : decode cL_acts 68 = .ok (.invokestatic 41, 3) := by decide +kernel
theorem dL_acts_71 : decode cL_acts 71 = .ok (.istore 10, 2) := by decide +kernel
theorem dL_acts_73 : decode cL_acts 73 = .ok (.iload_n 1, 1) := by decide +kernel
theorem dL_acts_74 : decode cL_acts 74 = .ok (.bipush 17, 2) := by decide +kernel
theorem dL_acts_76 : decode cL_acts 76 = .ok (.ishr, 1) := by decide +kernel
theorem dL_acts_77 : decode cL_acts 77 = .ok (.iload 7, 2) := by decide +kernel
theorem dL_acts_79 : decode cL_acts 79 = .ok (.iconst 1, 1) := by decide +kernel
theorem dL_acts_80 : decode cL_acts 80 = .ok (.iadd, 1) := by decide +kernel
theorem dL_acts_81 : decode cL_acts 81 = .ok (.invokestatic 41, 3) := by decide +kernel
theorem dL_acts_84 : decode cL_acts 84 = .ok (.istore 11, 2) := by decide +kernel
theorem dL_acts_86 : decode cL_acts 86 = .ok (.iload_n 3, 1) := by decide +kernel
theorem dL_acts_87 : decode cL_acts 87 = .ok (.iconst 3, 1) := by decide +kernel
theorem dL_acts_88 : decode cL_acts 88 = .ok (.if_icmp .ge 124, 3) := by decide +kernel
theorem dL_acts_91 : decode cL_acts 91 = .ok (.iload_n 2, 1) := by decide +kernel
theorem dL_acts_92 : decode cL_acts 92 = .ok (.bipush 45, 2) := by decide +kernel
theorem dL_acts_94 : decode cL_acts 94 = .ok (.invokestatic 41, 3) := by decide +kernel
theorem dL_acts_97 : decode cL_acts 97 = .ok (.istore 12, 2) := by decide +kernel
theorem dL_acts_99 : decode cL_acts 99 = .ok (.iload 8, 2) := by decide +kernel
theorem dL_acts_101 : decode cL_acts 101 = .ok (.iload 4, 2) := by decide +kernel
theorem dL_acts_103 : decode cL_acts 103 = .ok (.if_icmp .ge 11, 3) := by decide +kernel
theorem dL_acts_106 : decode cL_acts 106 = .ok (.aload_n 0, 1) := by decide +kernel
theorem dL_acts_107 : decode cL_acts 107 = .ok (.iconst 4, 1) := by decide +kernel
theorem dL_acts_108 : decode cL_acts 108 = .ok (.invokevirtual 13, 3) := by decide +kernel
theorem dL_acts_111 : decode cL_acts 111 = .ok (.goto 4, 3) := by decide +kernel
theorem dL_acts_114 : decode cL_acts 114 = .ok (.iconst 0, 1) := by decide +kernel
theorem dL_acts_115 : decode cL_acts 115 = .ok (.istore 13, 2) := by decide +kernel
theorem dL_acts_117 : decode cL_acts 117 = .ok (.iload_n 2, 1) := by decide +kernel
theorem dL_acts_118 : decode cL_acts 118 = .ok (.bipush 6, 2) := by decide +kernel
theorem dL_acts_120 : decode cL_acts 120 = .ok (.ishr, 1) := by decide +kernel
theorem dL_acts_121 : decode cL_acts 121 = .ok (.bipush 34, 2) := by decide +kernel
theorem dL_acts_123 : decode cL_acts 123 = .ok (.invokestatic 41, 3) := by decide +kernel
theorem dL_acts_126 : decode cL_acts 126 = .ok (.istore 14, 2) := by decide +kernel
