/-! THE LAW'S WORDS ARE WORDS OF THE TABLES -/
set_option maxRecDepth 20000 in
theorem liR1 : ∀ w ∈ wsL_law_r1, w ∈ lw_tbl := fun w h => (goodIn_r wsL_law_r1 [26, 27, 16, 28, 29, 30, 31, 32, 33, 34, 35, 17, 215, 216, 103, 104, 20, 217, 125, 126, 21, 218, 147, 148] (by decide +kernel) (by decide +kernel) w h).1
set_option maxRecDepth 20000 in
theorem liR2 : ∀ w ∈ wsL_law_r2, w ∈ lw_tbl := fun w h => (goodIn_r wsL_law_r2 [22, 219, 166, 167, 23, 220, 199, 200, 24, 221, 36, 37, 38, 39, 40, 41, 18, 75, 78, 81, 84, 85, 42, 43] (by decide +kernel) (by decide +kernel) w h).1
set_option maxRecDepth 20000 in
theorem liR3 : ∀ w ∈ wsL_law_r3, w ∈ lw_tbl := fun w h => (goodIn_r wsL_law_r3 [44, 45, 49, 50, 46, 47, 19, 48, 62, 51, 65, 66, 67, 68, 52, 69, 70, 71, 72, 105, 106, 107, 108, 109] (by decide +kernel) (by decide +kernel) w h).1
set_option maxRecDepth 20000 in
theorem liR4 : ∀ w ∈ wsL_law_r4, w ∈ lw_tbl := fun w h => (goodIn_r wsL_law_r4 [110, 111, 112, 113, 127, 128, 129, 130, 131, 132, 133, 134, 135, 149, 150, 151, 152, 153, 156, 155, 168, 169, 170, 171] (by decide +kernel) (by decide +kernel) w h).1
set_option maxRecDepth 20000 in
theorem liR5 : ∀ w ∈ wsL_law_r5, w ∈ lw_tbl := fun w h => (goodIn_r wsL_law_r5 [198, 172, 201, 202, 203, 204, 205, 341, 342, 15, 343, 344, 412, 413, 414, 299, 300, 301, 302, 303, 304, 305, 306, 158] (by decide +kernel) (by decide +kernel) w h).1
set_option maxRecDepth 20000 in
theorem liR6 : ∀ w ∈ wsL_law_r6, w ∈ lw_tbl := fun w h => (goodIn_r wsL_law_r6 [307, 308, 309, 310, 173, 311, 312, 313, 314, 315, 316, 317, 318, 319, 321, 3, 322, 323, 324, 325, 326, 258, 259, 328] (by decide +kernel) (by decide +kernel) w h).1
set_option maxRecDepth 20000 in
theorem liR7 : ∀ w ∈ wsL_law_r7, w ∈ lw_tbl := fun w h => (goodIn_r wsL_law_r7 [329, 330, 331, 332, 379, 380, 381, 382, 383, 384, 385, 386, 362, 296, 297, 298, 387, 388, 389, 390, 87, 391, 392, 393] (by decide +kernel) (by decide +kernel) w h).1
set_option maxRecDepth 20000 in
theorem liR8 : ∀ w ∈ wsL_law_r8, w ∈ lw_tbl := fun w h => (goodIn_r wsL_law_r8 [394, 395, 367, 368, 369, 370, 371, 372, 373, 374, 375, 376, 377, 378, 354, 355, 356, 357, 358, 359, 360, 361, 363, 364] (by decide +kernel) (by decide +kernel) w h).1
set_option maxRecDepth 20000 in
theorem liR9 : ∀ w ∈ wsL_law_r9, w ∈ lw_tbl := fun w h => (goodIn_r wsL_law_r9 [365, 366, 396, 397, 398, 399, 400, 401, 402, 403, 404, 405, 406, 407, 408, 409, 410, 411, 415, 416, 417, 418, 419, 420] (by decide +kernel) (by decide +kernel) w h).1
set_option maxRecDepth 20000 in
theorem liR10 : ∀ w ∈ wsL_law_r10, w ∈ lw_tbl := fun w h => (goodIn_r wsL_law_r10 [421, 422, 423, 424, 425, 426, 333, 334, 335, 336, 337, 338, 339, 340, 274, 276, 2, 277, 157, 278, 246, 247, 248, 249] (by decide +kernel) (by decide +kernel) w h).1
set_option maxRecDepth 20000 in
theorem liR11 : ∀ w ∈ wsL_law_r11, w ∈ lw_tbl := fun w h => (goodIn_r wsL_law_r11 [250, 251, 252, 345, 346, 347, 348, 237, 238, 239, 240, 241, 243, 0, 244, 245, 253, 254, 255, 256, 260, 261, 262, 263] (by decide +kernel) (by decide +kernel) w h).1
set_option maxRecDepth 20000 in
theorem liR12 : ∀ w ∈ wsL_law_r12, w ∈ lw_tbl := fun w h => (goodIn_r wsL_law_r12 [264, 265, 266, 268, 1, 269, 270, 271, 272, 273, 279, 280, 281, 282, 283, 284, 285, 286, 287, 288, 289, 290, 291, 292] (by decide +kernel) (by decide +kernel) w h).1
def lA13 : List Cond := [Cond.selects RX0 yX0_addVolunteer yX0_addVolunteer, Cond.code yX0_addVolunteer cX0_addVolunteer 4 (some .int), Cond.methodLink RX0 52 yX5_has, Cond.methodLink RL 109 yL_digest, Cond.static yL_digest, Cond.code yL_digest cL_digest 4 (some .long), Cond.constantLong RL 9 (61), Cond.constantLong RL 11 (31), Cond.methodLink RL 113 yL_acts, Cond.static yL_acts]
set_option maxRecDepth 20000 in
theorem liA13 : ∀ w ∈ lA13, w ∈ lw_tbl := fun w h => (goodIn_r lA13 [293, 294, 295, 349, 350, 351, 352, 353, 427, 428] (by decide +kernel) (by decide +kernel) w h).1
def lB13 : List Cond := [Cond.methodLink RL 57 yX7_meal, Cond.instanceMethod yX7_meal, Cond.selects RX7 yX7_meal yX7_meal, Cond.code yX7_meal cX7_meal 4 (some .int), Cond.methodLink RX7 70 yX0_addMeal, Cond.instanceMethod yX0_addMeal, Cond.selects RX0 yX0_addMeal yX0_addMeal, Cond.code yX0_addMeal cX0_addMeal 5 (some .int), Cond.methodLink RX0 56 yX4_freeCells, Cond.instanceMethod yX4_freeCells, Cond.selects RX4 yX4_freeCells yX4_freeCells, Cond.code yX4_freeCells cX4_freeCells 2 (some .int), Cond.methodLink RX4 59 yX4_mealsIn]
set_option maxRecDepth 20000 in
theorem liB13 : ∀ w ∈ lB13, w ∈ lw_tbl := fun w h => (goodIn_r lB13 [430, 431, 432, 433, 434, 435, 436, 437, 438, 439, 440, 441, 442] (by decide +kernel) (by decide +kernel) w h).1
set_option maxRecDepth 20000 in
theorem liM13 : (Cond.code yL_acts cL_acts 16 (some .boolean) : Cond) ∈ lw_tbl := List.mem_of_getElem? (i := 429) rfl
theorem liR13 : ∀ w ∈ wsL_law_r13, w ∈ lw_tbl := fun w h => (List.mem_append.mp (show w ∈ lA13 ++ (Cond.code yL_acts cL_acts 16 (some .boolean) :: lB13) from h)).elim (liA13 w) (fun h => (List.mem_cons.mp h).elim (fun e => by rw [e]; exact liM13) (liB13 w))
set_option maxRecDepth 20000 in
theorem liR14 : ∀ w ∈ wsL_law_r14, w ∈ lw_tbl := fun w h => (goodIn_r wsL_law_r14 [443, 444, 25, 445, 446, 447, 448, 449, 450, 451, 452, 453, 454, 455, 456, 457, 458, 459, 460, 461, 462, 463, 464, 465] (by decide +kernel) (by decide +kernel) w h).1
set_option maxRecDepth 20000 in
theorem liR15 : ∀ w ∈ wsL_law_r15, w ∈ lw_tbl := fun w h => (goodIn_r wsL_law_r15 [466, 467, 468, 469, 470, 471, 472, 473, 474, 475, 476, 477, 479, 4, 480, 481, 482, 483, 484, 485, 486, 487, 488, 489] (by decide +kernel) (by decide +kernel) w h).1
set_option maxRecDepth 20000 in
theorem liR16 : ∀ w ∈ wsL_law_r16, w ∈ lw_tbl := fun w h => (goodIn_r wsL_law_r16 [490, 491, 492, 493, 494, 495, 496, 497, 498, 499, 500, 501, 502, 503, 504, 505, 506, 507, 508, 509, 510, 511, 512, 513] (by decide +kernel) (by decide +kernel) w h).1
set_option maxRecDepth 20000 in
theorem liR17 : ∀ w ∈ wsL_law_r17, w ∈ lw_tbl := fun w h => (goodIn_r wsL_law_r17 [514, 515, 516, 517, 518, 520, 5, 521, 522, 523, 524, 525, 526, 527, 528, 529, 532, 533, 534, 535, 536, 537, 538, 539] (by decide +kernel) (by decide +kernel) w h).1
set_option maxRecDepth 20000 in
theorem liR18 : ∀ w ∈ wsL_law_r18, w ∈ lw_tbl := fun w h => (goodIn_r wsL_law_r18 [540, 541, 543, 6, 544, 549, 545, 546, 547, 548, 550, 552, 7, 553, 554, 556, 8, 557, 558, 560, 9, 561, 562, 564] (by decide +kernel) (by decide +kernel) w h).1
set_option maxRecDepth 20000 in
theorem liR19 : ∀ w ∈ wsL_law_r19, w ∈ lw_tbl := fun w h => (goodIn_r wsL_law_r19 [10, 565, 566, 567, 568, 569, 570, 571, 572, 573, 574, 575, 576, 577, 578, 579, 580, 581, 582, 583, 584, 586, 587, 588] (by decide +kernel) (by decide +kernel) w h).1
set_option maxRecDepth 20000 in
theorem liR20 : ∀ w ∈ wsL_law_r20, w ∈ lw_tbl := fun w h => (goodIn_r wsL_law_r20 [589, 590, 591, 592, 593, 594, 595, 596, 597, 598, 599, 206, 207, 600, 601, 602, 603, 604, 175, 178, 176, 180, 182, 605] (by decide +kernel) (by decide +kernel) w h).1
set_option maxRecDepth 20000 in
theorem liR21 : ∀ w ∈ wsL_law_r21, w ∈ lw_tbl := fun w h => (goodIn_r wsL_law_r21 [607, 11, 608, 609, 610, 611, 612, 614, 12, 615, 616, 618, 13, 619, 620, 622, 14, 623, 624, 625, 626, 627, 628, 629] (by decide +kernel) (by decide +kernel) w h).1
set_option maxRecDepth 20000 in
theorem liR22 : ∀ w ∈ wsL_law_r22, w ∈ lw_tbl := fun w h => (goodIn_r wsL_law_r22 [630, 631, 632, 633, 634, 635, 636, 638, 639, 640, 641] (by decide +kernel) (by decide +kernel) w h).1
set_option maxRecDepth 20000 in
theorem liX7 : ∀ w ∈ wsX70, w ∈ lw_tbl := fun w h => (goodIn_p wsX70 [] (by decide +kernel) (by decide +kernel) w h).1
set_option maxRecDepth 20000 in
theorem liX4 : ∀ w ∈ wsX40, w ∈ lw_tbl := fun w h => (goodIn_p wsX40 [] (by decide +kernel) (by decide +kernel) w h).1
set_option maxRecDepth 20000 in
theorem liX0 : ∀ w ∈ wsX00, w ∈ lw_tbl := fun w h => (goodIn_p wsX00 [] (by decide +kernel) (by decide +kernel) w h).1
set_option maxRecDepth 20000 in
theorem liX3 : ∀ w ∈ wsX30, w ∈ lw_tbl := fun w h => (goodIn_p wsX30 [] (by decide +kernel) (by decide +kernel) w h).1
set_option maxRecDepth 20000 in
theorem liX1 : ∀ w ∈ wsX10, w ∈ lw_tbl := fun w h => (goodIn_p wsX10 [] (by decide +kernel) (by decide +kernel) w h).1
set_option maxRecDepth 20000 in
theorem liX6 : ∀ w ∈ wsX60, w ∈ lw_tbl := fun w h => (goodIn_p wsX60 [] (by decide +kernel) (by decide +kernel) w h).1
set_option maxRecDepth 20000 in
theorem liX2 : ∀ w ∈ wsX20, w ∈ lw_tbl := fun w h => (goodIn_p wsX20 [] (by decide +kernel) (by decide +kernel) w h).1
set_option maxRecDepth 20000 in
theorem liX5 : ∀ w ∈ wsX50, w ∈ lw_tbl := fun w h => (goodIn_p wsX50 [] (by decide +kernel) (by decide +kernel) w h).1
theorem wsL_law_in : ∀ w ∈ wsL_law, w ∈ lw_tbl := fun w h => (List.mem_append.mp h).elim ((fun w h => (List.mem_append.mp h).elim ((fun w h => (List.mem_append.mp h).elim ((fun w h => (List.mem_append.mp h).elim ((fun w h => (List.mem_append.mp h).elim ((fun w h => (List.mem_append.mp h).elim ((fun w h => (List.mem_append.mp h).elim ((fun w h => (List.mem_append.mp h).elim ((fun w h => (List.mem_append.mp h).elim ((fun w h => (List.mem_append.mp h).elim (liR1 w) ((fun w h => (List.mem_append.mp h).elim (liR2 w) ((fun w h => (List.mem_append.mp h).elim (liR3 w) ((fun w h => (List.mem_append.mp h).elim (liR4 w) ((fun w h => (List.mem_append.mp h).elim (liR5 w) ((fun w h => (List.mem_append.mp h).elim (liR6 w) ((fun w h => (List.mem_append.mp h).elim (liR7 w) ((fun w h => (List.mem_append.mp h).elim (liR8 w) ((fun w h => (List.mem_append.mp h).elim (liR9 w) ((fun w h => (List.mem_append.mp h).elim (liR10 w) ((fun w h => (List.mem_append.mp h).elim (liR11 w) ((fun w h => (List.mem_append.mp h).elim (liR12 w) ((fun w h => (List.mem_append.mp h).elim (liR13 w) ((fun w h => (List.mem_append.mp h).elim (liR14 w) ((fun w h => (List.mem_append.mp h).elim (liR15 w) ((fun w h => (List.mem_append.mp h).elim (liR16 w) ((fun w h => (List.mem_append.mp h).elim (liR17 w) ((fun w h => (List.mem_append.mp h).elim (liR18 w) ((fun w h => (List.mem_append.mp h).elim (liR19 w) ((fun w h => (List.mem_append.mp h).elim (liR20 w) ((fun w h => (List.mem_append.mp h).elim (liR21 w) (liR22 w)) w)) w)) w)) w)) w)) w)) w)) w)) w)) w)) w)) w)) w)) w)) w)) w)) w)) w)) w)) w)) w) (liX7 w)) w) (liX4 w)) w) (liX0 w)) w) (liX3 w)) w) (liX1 w)) w) (liX6 w)) w) (liX2 w)) w) (liX5 w)) w) (fun h => absurd h List.not_mem_nil)
theorem law_hts {args : Array Value} {s : State} (h : ∀ w ∈ lw_tbl, w.before args s = true) : ∀ w ∈ wsL_law, w.before args s = true := fun w hw => h w (wsL_law_in w hw)
