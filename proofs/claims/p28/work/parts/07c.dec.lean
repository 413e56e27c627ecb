/-! A LONG LIST OF WORDS, LIST BY LIST -/
theorem gz_m : (.code yL_acts cL_acts 16 (some .boolean) : Cond) ∈ wsL_law := List.mem_append.mpr (Or.inl (List.mem_append.mpr (Or.inl (List.mem_append.mpr (Or.inl (List.mem_append.mpr (Or.inl (List.mem_append.mpr (Or.inl (List.mem_append.mpr (Or.inl (List.mem_append.mpr (Or.inl (List.mem_append.mpr (Or.inl (List.mem_append.mpr (Or.inl (List.mem_append.mpr (Or.inr (List.mem_append.mpr (Or.inr (List.mem_append.mpr (Or.inr (List.mem_append.mpr (Or.inr (List.mem_append.mpr (Or.inr (List.mem_append.mpr (Or.inr (List.mem_append.mpr (Or.inr (List.mem_append.mpr (Or.inr (List.mem_append.mpr (Or.inr (List.mem_append.mpr (Or.inr (List.mem_append.mpr (Or.inr (List.mem_append.mpr (Or.inr (List.mem_append.mpr (Or.inl (List.mem_of_getElem? (l := wsL_law_r13) (i := 10) rfl))))))))))))))))))))))))))))))))))))))))))))
theorem gz_h : GoodIn wsL_law [.code yL_acts cL_acts 16 (some .boolean)] := fun w h => by obtain rfl := List.mem_singleton.mp h; exact ⟨gz_m, Or.inl rfl⟩
set_option maxRecDepth 20000 in
theorem gz_wsL_acts_r1 : GoodIn wsL_law wsL_acts_r1 := goodIn_r _ [243, 244, 105, 245, 246, 111, 112, 113, 2, 114, 25, 29, 21, 115, 116, 117, 24, 118, 119, 120, 121, 122, 28, 123] (by decide +kernel) (by decide +kernel)
set_option maxRecDepth 20000 in
theorem gz_wsL_acts_r2 : GoodIn wsL_law wsL_acts_r2 := goodIn_r _ [124, 125, 126, 127, 20, 128, 81, 82, 83, 84, 80, 129, 130, 131, 40, 132, 62, 133, 134, 135, 136, 137, 138, 139] (by decide +kernel) (by decide +kernel)
set_option maxRecDepth 20000 in
theorem gz_wsL_acts_r3 : GoodIn wsL_law wsL_acts_r3 := goodIn_r _ [140, 51, 57, 141, 142, 143, 144, 145, 11, 146, 45, 147, 299, 300, 301, 302, 251, 252, 253, 254, 13, 12, 17, 255] (by decide +kernel) (by decide +kernel)
set_option maxRecDepth 20000 in
theorem gz_wsL_acts_r4 : GoodIn wsL_law wsL_acts_r4 := goodIn_r _ [236, 237, 238, 41, 42, 43, 44, 164, 239, 240, 241, 242, 303, 304, 305, 16, 306, 72, 71, 73, 290, 157, 158, 159] (by decide +kernel) (by decide +kernel)
set_option maxRecDepth 20000 in
theorem gz_wsL_acts_r5 : GoodIn wsL_law wsL_acts_r5 := goodIn_r _ [307, 308, 309, 310, 311, 191, 192, 193, 170, 312, 313, 314, 315, 316, 317, 318, 260, 261, 262, 263, 50, 264, 59, 60] (by decide +kernel) (by decide +kernel)
set_option maxRecDepth 20000 in
theorem gz_wsL_acts_r6 : GoodIn wsL_law wsL_acts_r6 := goodIn_r _ [61, 265, 64, 65, 66, 319, 320, 321, 322, 323, 324, 266, 267, 268, 269, 270, 271, 272, 273, 234, 230, 231, 232, 233] (by decide +kernel) (by decide +kernel)
set_option maxRecDepth 20000 in
theorem gz_wsL_acts_r7 : GoodIn wsL_law wsL_acts_r7 := goodIn_r _ [90, 235, 247, 248, 249, 250, 256, 257, 258, 259, 274, 275, 276, 277, 278, 279, 280, 281, 74, 282, 283, 284, 285, 286] (by decide +kernel) (by decide +kernel)
set_option maxRecDepth 20000 in
theorem gz_wsL_acts_r8 : GoodIn wsL_law wsL_acts_r8 := goodIn_r _ [287, 288, 289, 75, 171, 172, 173, 174, 175, 176, 177, 178, 156, 179, 180, 181, 148, 149, 150, 151, 152, 153, 154, 155] (by decide +kernel) (by decide +kernel)
set_option maxRecDepth 20000 in
theorem gz_wsL_acts_r9 : GoodIn wsL_law wsL_acts_r9 := goodIn_r _ [160, 161, 162, 163, 165, 53, 54, 55, 166, 167, 168, 169, 325, 326, 327, 328, 329, 330, 331, 332, 333, 334, 335, 336] (by decide +kernel) (by decide +kernel)
set_option maxRecDepth 20000 in
theorem gz_wsL_acts_r10 : GoodIn wsL_law wsL_acts_r10 := goodIn_r _ [337, 338, 339, 340, 341, 342, 343, 344, 345, 346, 347, 348, 349, 350, 351, 352, 194, 195, 196, 197, 198, 199, 200, 201] (by decide +kernel) (by decide +kernel)
set_option maxRecDepth 20000 in
theorem gz_wsL_acts_r11 : GoodIn wsL_law wsL_acts_r11 := goodIn_r _ [202, 203, 204, 205, 206, 207, 208, 209, 353, 354, 355, 356, 357, 358, 359, 360, 361, 362, 363, 364, 365, 366, 367, 368] (by decide +kernel) (by decide +kernel)
set_option maxRecDepth 20000 in
theorem gz_wsL_acts_r12 : GoodIn wsL_law wsL_acts_r12 := goodIn_r _ [369, 370, 371, 372, 373, 374, 375, 376, 377, 378, 379, 380, 381, 382, 383, 384, 385, 386, 387, 388, 389, 390, 391, 392] (by decide +kernel) (by decide +kernel)
set_option maxRecDepth 20000 in
theorem gz_wsL_acts_r13 : GoodIn wsL_law wsL_acts_r13 := goodIn_r _ [393, 394, 395, 396, 397, 398, 399, 400, 401, 402, 403, 404, 405, 406, 407, 408, 409, 410, 411, 412, 413, 414, 415, 416] (by decide +kernel) (by decide +kernel)
set_option maxRecDepth 20000 in
theorem gz_wsL_acts_r14 : GoodIn wsL_law wsL_acts_r14 := goodIn_r _ [417, 418, 419, 420, 421, 422, 423, 424, 425, 426, 427, 428, 429, 430, 431, 432, 433, 434, 435, 436, 437, 438, 439, 440] (by decide +kernel) (by decide +kernel)
set_option maxRecDepth 20000 in
theorem gz_wsL_acts_r15 : GoodIn wsL_law wsL_acts_r15 := goodIn_r _ [441, 442, 443, 444, 445, 446, 447, 448, 449, 450, 451, 452, 97, 453, 454, 455, 456, 457, 458, 459, 460, 461, 462, 33] (by decide +kernel) (by decide +kernel)
set_option maxRecDepth 20000 in
theorem gz_wsL_acts_r16 : GoodIn wsL_law wsL_acts_r16 := goodIn_r _ [463, 464, 465, 32, 466, 467, 468, 102, 469, 470, 471, 472, 473, 474, 475, 476, 477, 478, 479, 480, 481, 482, 483, 484] (by decide +kernel) (by decide +kernel)
set_option maxRecDepth 20000 in
theorem gz_wsL_acts_r17 : GoodIn wsL_law wsL_acts_r17 := goodIn_r _ [485, 486, 487, 488, 489, 490, 491, 492, 493, 494, 495, 496, 497, 498, 499, 500, 501, 502, 503, 504, 505, 506, 507, 508] (by decide +kernel) (by decide +kernel)
set_option maxRecDepth 20000 in
theorem gz_wsL_acts_r18 : GoodIn wsL_law wsL_acts_r18 := goodIn_r _ [509, 510, 511, 512, 513, 514] (by decide +kernel) (by decide +kernel)
set_option maxRecDepth 20000 in
theorem gz_wsX70 : GoodIn wsL_law wsX70 := goodIn_r _ [515, 516, 517, 518, 519, 520, 521] (by decide +kernel) (by decide +kernel)
set_option maxRecDepth 20000 in
theorem gz_wsX10 : GoodIn wsL_law wsX10 := goodIn_r _ [538, 539, 540] (by decide +kernel) (by decide +kernel)
set_option maxRecDepth 20000 in
theorem gz_wsX60 : GoodIn wsL_law wsX60 := goodIn_r _ [541, 542, 543, 544, 545, 546, 547] (by decide +kernel) (by decide +kernel)
set_option maxRecDepth 20000 in
theorem gz_wsX30 : GoodIn wsL_law wsX30 := goodIn_r _ [533, 534, 535, 536, 537] (by decide +kernel) (by decide +kernel)
set_option maxRecDepth 20000 in
theorem gz_wsX40 : GoodIn wsL_law wsX40 := goodIn_r _ [522, 523, 524, 525, 526, 527] (by decide +kernel) (by decide +kernel)
set_option maxRecDepth 20000 in
theorem gz_wsX50 : GoodIn wsL_law wsX50 := goodIn_r _ [551, 552, 553, 554] (by decide +kernel) (by decide +kernel)
set_option maxRecDepth 20000 in
theorem gz_wsX00 : GoodIn wsL_law wsX00 := goodIn_r _ [528, 529, 530, 531, 532] (by decide +kernel) (by decide +kernel)
set_option maxRecDepth 20000 in
theorem gz_wsX20 : GoodIn wsL_law wsX20 := goodIn_r _ [548, 549, 550] (by decide +kernel) (by decide +kernel)
theorem ggL_law_L_acts : GoodIn wsL_law wsL_acts := goodIn_app gz_h (goodIn_app (goodIn_app (goodIn_app (goodIn_app (goodIn_app (goodIn_app (goodIn_app (goodIn_app (goodIn_app gz_wsL_acts_r1 (goodIn_app gz_wsL_acts_r2 (goodIn_app gz_wsL_acts_r3 (goodIn_app gz_wsL_acts_r4 (goodIn_app gz_wsL_acts_r5 (goodIn_app gz_wsL_acts_r6 (goodIn_app gz_wsL_acts_r7 (goodIn_app gz_wsL_acts_r8 (goodIn_app gz_wsL_acts_r9 (goodIn_app gz_wsL_acts_r10 (goodIn_app gz_wsL_acts_r11 (goodIn_app gz_wsL_acts_r12 (goodIn_app gz_wsL_acts_r13 (goodIn_app gz_wsL_acts_r14 (goodIn_app gz_wsL_acts_r15 (goodIn_app gz_wsL_acts_r16 (goodIn_app gz_wsL_acts_r17 gz_wsL_acts_r18))))))))))))))))) gz_wsX70) gz_wsX10) gz_wsX60) gz_wsX30) gz_wsX40) gz_wsX50) gz_wsX00) gz_wsX20)
set_option maxRecDepth 20000 in
theorem gL_law_L_acts : GoodIn wsL_law (va_wsS RL 113 yL_acts wsL_acts) := goodIn_app (goodIn_of _ (by decide +kernel)) ggL_law_L_acts
