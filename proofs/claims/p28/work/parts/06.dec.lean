theorem dX7_fault_0 : decode cX7_fault 0 = .ok (.aload_n 0, 1) := by decide +kernel
theorem dX7_fault_1 : decode cX7_fault 1 = .ok (.getfield 54, 3) := by decide +kernel
theorem dX7_fault_4 : decode cX7_fault 4 = .ok (.aload_n 0, 1) := by decide +kernel
theorem dX7_fault_5 : decode cX7_fault 5 = .ok (.invokevirtual 58, 3) := by decide +kernel
theorem dX7_fault_8 : decode cX7_fault 8 = .ok (.invokevirtual 146, 3) := by decide +kernel
theorem dX7_fault_11 : decode cX7_fault 11 = .ok (.pop, 1) := by decide +kernel
theorem dX7_fault_12 : decode cX7_fault 12 = .ok (.aload_n 0, 1) := by decide +kernel
theorem dX7_fault_13 : decode cX7_fault 13 = .ok (.getfield 54, 3) := by decide +kernel
theorem dX7_fault_16 : decode cX7_fault 16 = .ok (.iload_n 1, 1) := by decide +kernel
theorem dX7_fault_17 : decode cX7_fault 17 = .ok (.invokevirtual 150, 3) := by decide +kernel
theorem dX7_fault_20 : decode cX7_fault 20 = .ok (.ireturn, 1) := by decide +kernel
set_option maxRecDepth 20000 in
theorem ggX7_play_X7_onTrial : GoodIn wsX7_play wsX7_onTrial := goodIn_r _ [6, 7, 8, 9, 10, 11, 12, 13, 14, 15, 16, 17, 18, 19, 20, 21, 22, 23, 24, 25, 26, 27, 234, 235, 236, 237, 238, 239, 240, 241, 242, 243, 244, 245, 246, 247, 248, 249, 250] (by decide +kernel) (by decide +kernel)
set_option maxRecDepth 20000 in
theorem gX7_play_X7_onTrial : GoodIn wsX7_play (wsV RX7 58 RX7 yX7_onTrial wsX7_onTrial) := goodIn_app (goodIn_of _ (by decide +kernel)) ggX7_play_X7_onTrial
set_option maxRecDepth 20000 in
theorem ggX7_play_X2_playText : GoodIn wsX7_play wsX2_playText := goodIn_r _ [32, 33, 34, 35, 36, 37, 38, 39, 40, 41, 42, 43, 44, 45, 46, 47, 48, 49, 50, 51, 52, 53, 54, 55, 56, 57, 58, 59, 60, 61, 62, 63, 5, 64, 65, 66, 67, 68, 69, 70, 71, 31, 72, 73, 74, 75, 76, 77, 78, 79, 80, 81, 82, 83, 24, 84, 26, 85, 86, 87, 13, 88, 16, 17, 89, 90, 91, 92, 93, 27, 94, 95, 96, 97, 20, 98, 99, 100, 101, 102, 103, 104, 105, 106, 107, 108, 109, 110, 111, 112, 113, 114, 115, 116, 117, 118, 119, 120, 121, 122, 123, 124, 125, 126, 127, 128, 129, 130, 131, 132, 133, 134, 135, 136, 137, 138, 139, 140, 141, 142, 143, 144, 145, 146, 147, 148, 149, 150, 18, 151, 152, 153, 154, 155, 156, 157, 158, 159, 160, 161, 162, 163, 164, 165, 19, 166, 167, 168, 169, 170, 171, 172, 173, 174, 175, 176, 177, 15, 178, 179, 180, 181, 182, 183, 184, 185, 186, 187, 188, 189, 190, 191, 192, 193, 194, 195, 196, 197, 198, 199, 200, 201, 202, 203, 204, 205, 206, 207, 208, 209, 210, 211, 212, 213, 214, 215, 251, 252, 253, 254, 255, 256, 257, 258, 259, 260, 261, 262, 263, 264, 265, 241, 242, 243, 244, 245, 246, 247, 248, 249, 250] (by decide +kernel) (by decide +kernel)
set_option maxRecDepth 20000 in
theorem gX7_play_X2_playText : GoodIn wsX7_play (wsV RX7 146 RX2 yX2_playText wsX2_playText) := goodIn_app (goodIn_of _ (by decide +kernel)) ggX7_play_X2_playText
set_option maxRecDepth 20000 in
theorem ggX7_play_X7_settle : GoodIn wsX7_play wsX7_settle := goodIn_r _ [219, 220, 8, 7, 221, 222, 223, 224, 225, 226, 227, 228, 229, 230, 231, 232, 233, 11, 12, 13, 14, 15, 16, 17, 18, 19, 20, 21, 22, 23, 24, 25, 26, 27, 10, 234, 235, 236, 237, 238, 239, 240, 266, 267, 268, 241, 242, 243, 244, 245, 246, 247, 248, 249, 250] (by decide +kernel) (by decide +kernel)
set_option maxRecDepth 20000 in
theorem gX7_play_X7_settle : GoodIn wsX7_play (wsV RX7 66 RX7 yX7_settle wsX7_settle) := goodIn_app (goodIn_of _ (by decide +kernel)) ggX7_play_X7_settle
theorem dX7_play_0 : decode cX7_play 0 = .ok (.aload_n 0, 1) := by decide +kernel
theorem dX7_play_1 : decode cX7_play 1 = .ok (.aload_n 0, 1) := by decide +kernel
theorem dX7_play_2 : decode cX7_play 2 = .ok (.getfield 54, 3) := by decide +kernel
theorem dX7_play_5 : decode cX7_play 5 = .ok (.aload_n 0, 1) := by decide +kernel
theorem dX7_play_6 : decode cX7_play 6 = .ok (.invokevirtual 58, 3) := by decide +kernel
theorem dX7_play_9 : decode cX7_play 9 = .ok (.invokevirtual 146, 3) := by decide +kernel
theorem dX7_play_12 : decode cX7_play 12 = .ok (.invokevirtual 66, 3) := by decide +kernel
theorem dX7_play_15 : decode cX7_play 15 = .ok (.ireturn, 1) := by decide +kernel
set_option maxRecDepth 20000 in
theorem ggX7_onTrial_X4_copyFrom : GoodIn wsX7_onTrial wsX4_copyFrom := goodIn_r _ [8, 9, 10, 11, 12, 13, 14, 15, 16, 17, 18, 19, 20, 21, 29, 30, 31, 32, 33, 34, 35, 36, 37, 38] (by decide +kernel) (by decide +kernel)
set_option maxRecDepth 20000 in
theorem gX7_onTrial_X4_copyFrom : GoodIn wsX7_onTrial (wsV RX7 153 RX4 yX4_copyFrom wsX4_copyFrom) := goodIn_app (goodIn_of _ (by decide +kernel)) ggX7_onTrial_X4_copyFrom
theorem dX7_onTrial_0 : decode cX7_onTrial 0 = .ok (.aload_n 0, 1) := by decide +kernel
theorem dX7_onTrial_1 : decode cX7_onTrial 1 = .ok (.getfield 16, 3) := by decide +kernel
theorem dX7_onTrial_4 : decode cX7_onTrial 4 = .ok (.aload_n 0, 1) := by decide +kernel
theorem dX7_onTrial_5 : decode cX7_onTrial 5 = .ok (.getfield 10, 3) := by decide +kernel
theorem dX7_onTrial_8 : decode cX7_onTrial 8 = .ok (.invokevirtual 153, 3) := by decide +kernel
theorem dX7_onTrial_11 : decode cX7_onTrial 11 = .ok (.aload_n 0, 1) := by decide +kernel
theorem dX7_onTrial_12 : decode cX7_onTrial 12 = .ok (.getfield 24, 3) := by decide +kernel
theorem dX7_onTrial_15 : decode cX7_onTrial 15 = .ok (.areturn, 1) := by decide +kernel
set_option maxRecDepth 20000 in
theorem ggX7_settle_X1_keep : GoodIn wsX7_settle wsX1_keep := goodIn_r _ [8, 9, 10, 11, 12, 13, 7, 14, 15, 16, 17, 18, 19, 20, 21, 22, 23, 24, 25, 26, 27, 28, 29, 30, 31, 32, 33, 42, 43, 44, 45, 46, 47, 48, 49, 50, 51, 52, 53, 54] (by decide +kernel) (by decide +kernel)
set_option maxRecDepth 20000 in
theorem gX7_settle_X1_keep : GoodIn wsX7_settle (wsV RX7 156 RX1 yX1_keep wsX1_keep) := goodIn_app (goodIn_of _ (by decide +kernel)) ggX7_settle_X1_keep
set_option maxRecDepth 20000 in
theorem ggX7_settle_X4_copyFrom : GoodIn wsX7_settle wsX4_copyFrom := goodIn_r _ [20, 21, 22, 23, 24, 25, 26, 27, 28, 29, 30, 31, 32, 33, 45, 46, 47, 48, 49, 50, 51, 52, 53, 54] (by decide +kernel) (by decide +kernel)
set_option maxRecDepth 20000 in
theorem gX7_settle_X4_copyFrom : GoodIn wsX7_settle (wsV RX7 153 RX4 yX4_copyFrom wsX4_copyFrom) := goodIn_app (goodIn_of _ (by decide +kernel)) ggX7_settle_X4_copyFrom
theorem dX7_settle_0 : decode cX7_settle 0 = .ok (.iload_n 1, 1) := by decide +kernel
theorem dX7_settle_1 : decode cX7_settle 1 = .ok (.ifCond .lt 25, 3) := by decide +kernel
theorem dX7_settle_4 : decode cX7_settle 4 = .ok (.aload_n 0, 1) := by decide +kernel
theorem dX7_settle_5 : decode cX7_settle 5 = .ok (.getfield 38, 3) := by decide +kernel
theorem dX7_settle_8 : decode cX7_settle 8 = .ok (.aload_n 0, 1) := by decide +kernel
theorem dX7_settle_9 : decode cX7_settle 9 = .ok (.getfield 10, 3) := by decide +kernel
theorem dX7_settle_12 : decode cX7_settle 12 = .ok (.invokevirtual 156, 3) := by decide +kernel
theorem dX7_settle_15 : decode cX7_settle 15 = .ok (.aload_n 0, 1) := by decide +kernel
theorem dX7_settle_16 : decode cX7_settle 16 = .ok (.getfield 10, 3) := by decide +kernel
theorem dX7_settle_19 : decode cX7_settle 19 = .ok (.aload_n 0, 1) := by decide +kernel
theorem dX7_settle_20 : decode cX7_settle 20 = .ok (.getfield 16, 3) := by decide +kernel
theorem dX7_settle_23 : decode cX7_settle 23 = .ok (.invokevirtual 153, 3) := by decide +kernel
theorem dX7_settle_26 : decode cX7_settle 26 = .ok (.iload_n 1, 1) := by decide +kernel
theorem dX7_settle_27 : decode cX7_settle 27 = .ok (.ireturn, 1) := by decide +kernel
theorem dX7_isWithin_0 : decode cX7_isWithin 0 = .ok (.iload_n 0, 1) := by decide +kernel
theorem dX7_isWithin_1 : decode cX7_isWithin 1 = .ok (.iload_n 1, 1) := by decide +kernel
theorem dX7_isWithin_2 : decode cX7_isWithin 2 = .ok (.if_icmp .lt 12, 3) := by decide +kernel
theorem dX7_isWithin_5 : decode cX7_isWithin 5 = .ok (.iload_n 0, 1) := by decide +kernel
theorem dX7_isWithin_6 : decode cX7_isWithin 6 = .ok (.iload_n 2, 1) := by decide +kernel
theorem dX7_isWithin_7 : decode cX7_isWithin 7 = .ok (.if_icmp .gt 7, 3) := by decide +kernel
theorem dX7_isWithin_10 : decode cX7_isWithin 10 = .ok (.iconst 1, 1) := by decide +kernel
theorem dX7_isWithin_11 : decode cX7_isWithin 11 = .ok (.goto 4, 3) := by decide +kernel
theorem dX7_isWithin_14 : decode cX7_isWithin 14 = .ok (.iconst 0, 1) := by decide +kernel
theorem dX7_isWithin_15 : decode cX7_isWithin 15 = .ok (.ireturn, 1) := by decide +kernel
theorem dJ6_bitCount_0f7a4_0 : decode cJ6_bitCount_0f7a4 0 = .ok (.iload_n 0, 1) := by decide +kernel
theorem dJ6_bitCount_0f7a4_1 : decode cJ6_bitCount_0f7a4 1 = .ok (.iload_n 0, 1) := by decide +kernel
theorem dJ6_bitCount_0f7a4_2 : decode cJ6_bitCount_0f7a4 2 = .ok (.iconst 1, 1) := by decide +kernel
theorem dJ6_bitCount_0f7a4_3 : decode cJ6_bitCount_0f7a4 3 = .ok (.iushr, 1) := by decide +kernel
theorem dJ6_bitCount_0f7a4_4 : decode cJ6_bitCount_0f7a4 4 = .ok (.ldc_w 265, 3) := by decide +kernel
theorem dJ6_bitCount_0f7a4_7 : decode cJ6_bitCount_0f7a4 7 = .ok (.iand, 1) := by decide +kernel
theorem dJ6_bitCount_0f7a4_8 : decode cJ6_bitCount_0f7a4 8 = .ok (.isub, 1) := by decide +kernel
theorem dJ6_bitCount_0f7a4_9 : decode cJ6_bitCount_0f7a4 9 = .ok (.istore_n 0, 1) := by decide +kernel
theorem dJ6_bitCount_0f7a4_10 : decode cJ6_bitCount_0f7a4 10 = .ok (.iload_n 0, 1) := by decide +kernel
theorem dJ6_bitCount_0f7a4_11 : decode cJ6_bitCount_0f7a4 11 = .ok (.ldc_w 266, 3) := by decide +kernel
theorem dJ6_bitCount_0f7a4_14 : decode cJ6_bitCount_0f7a4 14 = .ok (.iand, 1) := by decide +kernel
theorem dJ6_bitCount_0f7a4_15 : decode cJ6_bitCount_0f7a4 15 = .ok (.iload_n 0, 1) := by decide +kernel
theorem dJ6_bitCount_0f7a4_16 : decode cJ6_bitCount_0f7a4 16 = .ok (.iconst 2, 1) := by decide +kernel
theorem dJ6_bitCount_0f7a4_17 : decode cJ6_bitCount_0f7a4 17 = .ok (.iushr, 1) := by decide +kernel
theorem dJ6_bitCount_0f7a4_18 : decode cJ6_bitCount_0f7a4 18 = .ok (.ldc_w 266, 3) := by decide +kernel
theorem dJ6_bitCount_0f7a4_21 : decode cJ6_bitCount_0f7a4 21 = .ok (.iand, 1) := by decide +kernel
theorem dJ6_bitCount_0f7a4_22 : decode cJ6_bitCount_0f7a4 22 = .ok (.iadd, 1) := by decide +kernel
theorem dJ6_bitCount_0f7a4_23 : decode cJ6_bitCount_0f7a4 23 = .ok (.istore_n 0, 1) := by decide +kernel
theorem dJ6_bitCount_0f7a4_24 : decode cJ6_bitCount_0f7a4 24 = .ok (.iload_n 0, 1) := by decide +kernel
theorem dJ6_bitCount_0f7a4_25 : decode cJ6_bitCount_0f7a4 25 = .ok (.iload_n 0, 1) := by decide +kernel
theorem dJ6_bitCount_0f7a4_26 : decode cJ6_bitCount_0f7a4 26 = .ok (.iconst 4, 1) := by decide +kernel
theorem dJ6_bitCount_0f7a4_27 : decode cJ6_bitCount_0f7a4 27 = .ok (.iushr, 1) := by decide +kernel
theorem dJ6_bitCount_0f7a4_28 : decode cJ6_bitCount_0f7a4 28 = .ok (.iadd, 1) := by decide +kernel
theorem dJ6_bitCount_0f7a4_29 : decode cJ6_bitCount_0f7a4 29 = .ok (.ldc_w 267, 3) := by decide +kernel
theorem dJ6_bitCount_0f7a4_32 : decode cJ6_bitCount_0f7a4 32 = .ok (.iand, 1) := by decide +kernel
theorem dJ6_bitCount_0f7a4_33 : decode cJ6_bitCount_0f7a4 33 = .ok (.istore_n 0, 1) := by decide +kernel
theorem dJ6_bitCount_0f7a4_34 : decode cJ6_bitCount_0f7a4 34 = .ok (.iload_n 0, 1) := by decide +kernel
theorem dJ6_bitCount_0f7a4_35 : decode cJ6_bitCount_0f7a4 35 = .ok (.iload_n 0, 1) := by decide +kernel
theorem dJ6_bitCount_0f7a4_36 : decode cJ6_bitCount_0f7a4 36 = .ok (.bipush 8, 2) := by decide +kernel
theorem dJ6_bitCount_0f7a4_38 : decode cJ6_bitCount_0f7a4 38 = .ok (.iushr, 1) := by decide +kernel
theorem dJ6_bitCount_0f7a4_39 : decode cJ6_bitCount_0f7a4 39 = .ok (.iadd, 1) := by decide +kernel
theorem dJ6_bitCount_0f7a4_40 : decode cJ6_bitCount_0f7a4 40 = .ok (.istore_n 0, 1) := by decide +kernel
theorem dJ6_bitCount_0f7a4_41 : decode cJ6_bitCount_0f7a4 41 = .ok (.iload_n 0, 1) := by decide +kernel
theorem dJ6_bitCount_0f7a4_42 : decode cJ6_bitCount_0f7a4 42 = .ok (.iload_n 0, 1) := by decide +kernel
theorem dJ6_bitCount_0f7a4_43 : decode cJ6_bitCount_0f7a4 43 = .ok (.bipush 16, 2) := by decide +kernel
theorem dJ6_bitCount_0f7a4_45 : decode cJ6_bitCount_0f7a4 45 = .ok (.iushr, 1) := by decide +kernel
theorem dJ6_bitCount_0f7a4_46 : decode cJ6_bitCount_0f7a4 46 = .ok (.iadd, 1) := by decide +kernel
theorem dJ6_bitCount_0f7a4_47 : decode cJ6_bitCount_0f7a4 47 = .ok (.istore_n 0, 1) := by decide +kernel
theorem dJ6_bitCount_0f7a4_48 : decode cJ6_bitCount_0f7a4 48 = .ok (.iload_n 0, 1) := by decide +kernel
theorem dJ6_bitCount_0f7a4_49 : decode cJ6_bitCount_0f7a4 49 = .ok (.bipush 63, 2) := by decide +kernel
theorem dJ6_bitCount_0f7a4_51 : decode cJ6_bitCount_0f7a4 51 = .ok (.iand, 1) := by decide +kernel
theorem dJ6_bitCount_0f7a4_52 : decode cJ6_bitCount_0f7a4 52 = .ok (.ireturn, 1) := by decide +kernel
theorem dJ9_abs_0f7a4_0 : decode cJ9_abs_0f7a4 0 = .ok (.iload_n 0, 1) := by decide +kernel
theorem dJ9_abs_0f7a4_1 : decode cJ9_abs_0f7a4 1 = .ok (.ifCond .ge 8, 3) := by decide +kernel
theorem dJ9_abs_0f7a4_4 : decode cJ9_abs_0f7a4 4 = .ok (.iload_n 0, 1) := by decide +kernel
theorem dJ9_abs_0f7a4_5 : decode cJ9_abs_0f7a4 5 = .ok (.ineg, 1) := by decide +kernel
theorem dJ9_abs_0f7a4_6 : decode cJ9_abs_0f7a4 6 = .ok (.goto 4, 3) := by decide +kernel
theorem dJ9_abs_0f7a4_9 : decode cJ9_abs_0f7a4 9 = .ok (.iload_n 0, 1) := by decide +kernel
theorem dJ9_abs_0f7a4_10 : decode cJ9_abs_0f7a4 10 = .ok (.ireturn, 1) := by decide +kernel
theorem dJ9_max_7cf53_0 : decode cJ9_max_7cf53 0 = .ok (.iload_n 0, 1) := by decide +kernel
theorem dJ9_max_7cf53_1 : decode cJ9_max_7cf53 1 = .ok (.iload_n 1, 1) := by decide +kernel
theorem dJ9_max_7cf53_2 : decode cJ9_max_7cf53 2 = .ok (.if_icmp .lt 7, 3) := by decide +kernel
theorem dJ9_max_7cf53_5 : decode cJ9_max_7cf53 5 = .ok (.iload_n 0, 1) := by decide +kernel
theorem dJ9_max_7cf53_6 : decode cJ9_max_7cf53 6 = .ok (.goto 4, 3) := by decide +kernel
theorem dJ9_max_7cf53_9 : decode cJ9_max_7cf53 9 = .ok (.iload_n 1, 1) := by decide +kernel
theorem dJ9_max_7cf53_10 : decode cJ9_max_7cf53 10 = .ok (.ireturn, 1) := by decide +kernel
theorem dL_lot_0 : decode cL_lot 0 = .ok (.iload_n 1, 1) := by decide +kernel
theorem dL_lot_1 : decode cL_lot 1 = .ok (.aload_n 0, 1) := by decide +kernel
theorem dL_lot_2 : decode cL_lot 2 = .ok (.arraylength, 1) := by decide +kernel
theorem dL_lot_3 : decode cL_lot 3 = .ok (.if_icmp .ge 9, 3) := by decide +kernel
theorem dL_lot_6 : decode cL_lot 6 = .ok (.aload_n 0, 1) := by decide +kernel
theorem dL_lot_7 : decode cL_lot 7 = .ok (.iload_n 1, 1) := by decide +kernel
theorem dL_lot_8 : decode cL_lot 8 = .ok (.iaload, 1) := by decide +kernel
theorem dL_lot_9 : decode cL_lot 9 = .ok (.goto 15, 3) := by decide +kernel
theorem dL_lot_12 : decode cL_lot 12 = .ok (.ldc 7, 2) := by decide +kernel
theorem dL_lot_14 : decode cL_lot 14 = .ok (.iload_n 1, 1) := by decide +kernel
theorem dL_lot_15 : decode cL_lot 15 = .ok (.sipush 2963, 3) := by decide +kernel
theorem dL_lot_18 : decode cL_lot 18 = .ok (.iadd, 1) := by decide +kernel
theorem dL_lot_19 : decode cL_lot 19 = .ok (.imul, 1) := by decide +kernel
theorem dL_lot_20 : decode cL_lot 20 = .ok (.sipush 2731, 3) := by decide +kernel
theorem dL_lot_23 : decode cL_lot 23 = .ok (.iadd, 1) := by decide +kernel
theorem dL_lot_24 : decode cL_lot 24 = .ok (.ireturn, 1) := by decide +kernel
theorem dL_low_0 : decode cL_low 0 = .ok (.iload_n 0, 1) := by decide +kernel
theorem dL_low_1 : decode cL_low 1 = .ok (.ldc 8, 2) := by decide +kernel
theorem dL_low_3 : decode cL_low 3 = .ok (.iand, 1) := by decide +kernel
theorem dL_low_4 : decode cL_low 4 = .ok (.iload_n 1, 1) := by decide +kernel
theorem dL_low_5 : decode cL_low 5 = .ok (.irem, 1) := by decide +kernel
theorem dL_low_6 : decode cL_low 6 = .ok (.ireturn, 1) := by decide +kernel
set_option maxRecDepth 20000 in
theorem ggL_digest_X7_count : GoodIn wsL_digest wsX7_count := goodIn_r _ [7, 8, 9, 10, 11, 12, 13, 14, 15, 16, 17, 18, 19, 20, 21, 22, 23, 24, 25, 26, 27, 28, 29, 30, 31, 32, 33, 34, 35, 36, 37, 38, 39, 40, 41, 42, 43, 44, 45, 46, 47, 48, 49, 6, 50, 51, 52, 53, 54, 55, 56, 57, 126, 127, 128, 129, 130, 131, 132, 133, 134, 135, 136, 137, 138, 139, 140, 141, 142, 143, 144, 145, 146, 147, 148, 149, 150, 151, 152, 153, 154, 155, 156, 157] (by decide +kernel) (by decide +kernel)
set_option maxRecDepth 20000 in
theorem gL_digest_X7_count : GoodIn wsL_digest (wsV RL 13 RX7 yX7_count wsX7_count) := goodIn_app (goodIn_of _ (by decide +kernel)) ggL_digest_X7_count
set_option maxRecDepth 20000 in
theorem ggL_digest_X7_lockerOf : GoodIn wsL_digest wsX7_lockerOf := goodIn_r _ [61, 10, 62, 63, 64, 26, 65, 28, 32, 66, 67, 68, 36, 69, 38, 49, 6, 50, 70, 71, 72, 54, 73, 74, 75, 34, 35, 37, 57, 44, 45, 46, 47, 48, 43, 126, 127, 128, 129, 130, 131, 132, 143, 144, 145, 146, 147, 154, 155, 156, 157, 148, 149, 150, 151, 152, 153] (by decide +kernel) (by decide +kernel)
set_option maxRecDepth 20000 in
theorem gL_digest_X7_lockerOf : GoodIn wsL_digest (wsV RL 19 RX7 yX7_lockerOf wsX7_lockerOf) := goodIn_app (goodIn_of _ (by decide +kernel)) ggL_digest_X7_lockerOf
set_option maxRecDepth 20000 in
theorem ggL_digest_X7_mealOf : GoodIn wsL_digest wsX7_mealOf := goodIn_r _ [79, 10, 80, 81, 82, 26, 83, 29, 66, 67, 68, 36, 69, 38, 49, 6, 50, 43, 44, 45, 46, 47, 48, 84, 85, 86, 126, 127, 128, 129, 130, 131, 132, 143, 144, 145, 146, 147, 154, 155, 156, 157] (by decide +kernel) (by decide +kernel)
set_option maxRecDepth 20000 in
theorem gL_digest_X7_mealOf : GoodIn wsL_digest (wsV RL 23 RX7 yX7_mealOf wsX7_mealOf) := goodIn_app (goodIn_of _ (by decide +kernel)) ggL_digest_X7_mealOf
set_option maxRecDepth 20000 in
theorem ggL_digest_X7_personOf : GoodIn wsL_digest wsX7_personOf := goodIn_r _ [90, 10, 91, 92, 93, 26, 94, 30, 32, 66, 67, 68, 36, 69, 38, 49, 6, 50, 95, 96, 97, 54, 98, 99, 100, 101, 102, 103, 104, 57, 44, 45, 46, 47, 48, 105, 106, 107, 108, 74, 75, 34, 35, 37, 43, 126, 127, 128, 129, 130, 131, 132, 143, 144, 145, 146, 147, 154, 155, 156, 157, 148, 149, 150, 151, 152, 153] (by decide +kernel) (by decide +kernel)
set_option maxRecDepth 20000 in
theorem gL_digest_X7_personOf : GoodIn wsL_digest (wsV RL 26 RX7 yX7_personOf wsX7_personOf) := goodIn_app (goodIn_of _ (by decide +kernel)) ggL_digest_X7_personOf
set_option maxRecDepth 20000 in
theorem ggL_digest_X7_volunteerOf : GoodIn wsL_digest wsX7_volunteerOf := goodIn_r _ [112, 10, 113, 114, 115, 26, 116, 31, 32, 66, 67, 68, 36, 69, 38, 49, 6, 50, 117, 118, 119, 54, 120, 74, 75, 34, 35, 37, 57, 44, 45, 46, 47, 48, 121, 122, 123, 124, 125, 100, 101, 102, 103, 104, 43, 126, 127, 128, 129, 130, 131, 132, 143, 144, 145, 146, 147, 154, 155, 156, 157, 148, 149, 150, 151, 152, 153] (by decide +kernel) (by decide +kernel)
set_option maxRecDepth 20000 in
theorem gL_digest_X7_volunteerOf : GoodIn wsL_digest (wsV RL 29 RX7 yX7_volunteerOf wsX7_volunteerOf) := goodIn_app (goodIn_of _ (by decide +kernel)) ggL_digest_X7_volunteerOf
theorem dL_digest_0 : decode cL_digest 0 = .ok (.ldc2_w 9, 3) := by decide +kernel
theorem dL_digest_3 : decode cL_digest 3 = .ok (.lstore_n 1, 1) := by decide +kernel
theorem dL_digest_4 : decode cL_digest 4 = .ok (.iconst 0, 1) := by decide +kernel
theorem dL_digest_5 : decode cL_digest 5 = .ok (.istore_n 3, 1) := by decide +kernel
theorem dL_digest_6 : decode cL_digest 6 = .ok (.iload_n 3, 1) := by decide +kernel
theorem dL_digest_7 : decode cL_digest 7 = .ok (.bipush 17, 2) := by decide +kernel
theorem dL_digest_9 : decode cL_digest 9 = .ok (.if_icmp .ge 38, 3) := by decide +kernel
theorem dL_digest_12 : decode cL_digest 12 = .ok (.ldc2_w 11, 3) := by decide +kernel
theorem dL_digest_15 : decode cL_digest 15 = .ok (.lload_n 1, 1) := by decide +kernel
theorem dL_digest_16 : decode cL_digest 16 = .ok (.lmul, 1) := by decide +kernel
theorem dL_digest_17 : decode cL_digest 17 = .ok (.iload_n 3, 1) := by decide +kernel
theorem dL_digest_18 : decode cL_digest 18 = .ok (.bipush 11, 2) := by decide +kernel
theorem dL_digest_20 : decode cL_digest 20 = .ok (.if_icmp .eq 9, 3) := by decide +kernel
theorem dL_digest_23 : decode cL_digest 23 = .ok (.iload_n 3, 1) := by decide +kernel
theorem dL_digest_24 : decode cL_digest 24 = .ok (.bipush 12, 2) := by decide +kernel
theorem dL_digest_26 : decode cL_digest 26 = .ok (.if_icmp .ne 7, 3) := by decide +kernel
theorem dL_digest_29 : decode cL_digest 29 = .ok (.iconst 0, 1) := by decide +kernel
theorem dL_digest_30 : decode cL_digest 30 = .ok (.goto 8, 3) := by decide +kernel
theorem dL_digest_33 : decode cL_digest 33 = .ok (.aload_n 0, 1) := by decide +kernel
theorem dL_digest_34 : decode cL_digest 34 = .ok (.iload_n 3, 1) := by decide +kernel
theorem dL_digest_35 : decode cL_digest 35 = .ok (.invokevirtual 13, 3) := by decide +kernel
theorem dL_digest_38 : decode cL_digest 38 = .ok (.i2l, 1) := by decide +kernel
theorem dL_digest_39 : decode cL_digest 39 = .ok (.ladd, 1) := by decide +kernel
theorem dL_digest_40 : decode cL_digest 40 = .ok (.lstore_n 1, 1) := by decide +kernel
theorem dL_digest_41 : decode cL_digest 41 = .ok (.iinc 3 1, 3) := by decide +kernel
theorem dL_digest_44 : decode cL_digest 44 = .ok (.goto (-38), 3) := by decide +kernel
theorem dL_digest_47 : decode cL_digest 47 = .ok (.iconst 0, 1) := by decide +kernel
theorem dL_digest_48 : decode cL_digest 48 = .ok (.istore_n 3, 1) := by decide +kernel
theorem dL_digest_49 : decode cL_digest 49 = .ok (.iload_n 3, 1) := by decide +kernel
theorem dL_digest_50 : decode cL_digest 50 = .ok (.aload_n 0, 1) := by decide +kernel
theorem dL_digest_51 : decode cL_digest 51 = .ok (.iconst 0, 1) := by decide +kernel
theorem dL_digest_52 : decode cL_digest 52 = .ok (.invokevirtual 13, 3) := by decide +kernel
theorem dL_digest_55 : decode cL_digest 55 = .ok (.bipush 9, 2) := by decide +kernel
theorem dL_digest_57 : decode cL_digest 57 = .ok (.imul, 1) := by decide +kernel
theorem dL_digest_58 : decode cL_digest 58 = .ok (.if_icmp .ge 29, 3) := by decide +kernel
theorem dL_digest_61 : decode cL_digest 61 = .ok (.ldc2_w 11, 3) := by decide +kernel
theorem dL_digest_64 : decode cL_digest 64 = .ok (.lload_n 1, 1) := by decide +kernel
theorem dL_digest_65 : decode cL_digest 65 = .ok (.lmul, 1) := by decide +kernel
theorem dL_digest_66 : decode cL_digest 66 = .ok (.aload_n 0, 1) := by decide +kernel
theorem dL_digest_67 : decode cL_digest 67 = .ok (.iload_n 3, 1) := by decide +kernel
theorem dL_digest_68 : decode cL_digest 68 = .ok (.bipush 9, 2) := by decide +kernel
theorem dL_digest_70 : decode cL_digest 70 = .ok (.idiv, 1) := by decide +kernel
theorem dL_digest_71 : decode cL_digest 71 = .ok (.iload_n 3, 1) := by decide +kernel
theorem dL_digest_72 : decode cL_digest 72 = .ok (.bipush 9, 2) := by decide +kernel
theorem dL_digest_74 : decode cL_digest 74 = .ok (.irem, 1) := by decide +kernel
theorem dL_digest_75 : decode cL_digest 75 = .ok (.invokevirtual 19, 3) := by decide +kernel
theorem dL_digest_78 : decode cL_digest 78 = .ok (.i2l, 1) := by decide +kernel
theorem dL_digest_79 : decode cL_digest 79 = .ok (.ladd, 1) := by decide +kernel
theorem dL_digest_80 : decode cL_digest 80 = .ok (.lstore_n 1, 1) := by decide +kernel
theorem dL_digest_81 : decode cL_digest 81 = .ok (.iinc 3 1, 3) := by decide +kernel
theorem dL_digest_84 : decode cL_digest 84 = .ok (.goto (-35), 3) := by decide +kernel
theorem dL_digest_87 : decode cL_digest 87 = .ok (.iconst 0, 1) := by decide +kernel
theorem dL_digest_88 : decode cL_digest 88 = .ok (.istore_n 3, 1) := by decide +kernel
theorem dL_digest_89 : decode cL_digest 89 = .ok (.iload_n 3, 1) := by decide +kernel
theorem dL_digest_90 : decode cL_digest 90 = .ok (.aload_n 0, 1) := by decide +kernel
theorem dL_digest_91 : decode cL_digest 91 = .ok (.iconst 1, 1) := by decide +kernel
theorem dL_digest_92 : decode cL_digest 92 = .ok (.invokevirtual 13, 3) := by decide +kernel
theorem dL_digest_95 : decode cL_digest 95 = .ok (.bipush 7, 2) := by decide +kernel
theorem dL_digest_97 : decode cL_digest 97 = .ok (.imul, 1) := by decide +kernel
theorem dL_digest_98 : decode cL_digest 98 = .ok (.if_icmp .ge 29, 3) := by decide +kernel
theorem dL_digest_101 : decode cL_digest 101 = .ok (.ldc2_w 11, 3) := by decide +kernel
theorem dL_digest_104 : decode cL_digest 104 = .ok (.lload_n 1, 1) := by decide +kernel
theorem dL_digest_105 : decode cL_digest 105 = .ok (.lmul, 1) := by decide +kernel
theorem dL_digest_106 : decode cL_digest 106 = .ok (.aload_n 0, 1) := by decide +kernel
theorem dL_digest_107 : decode cL_digest 107 = .ok (.iload_n 3, 1) := by decide +kernel
theorem dL_digest_108 : decode cL_digest 108 = .ok (.bipush 7, 2) := by decide +kernel
theorem dL_digest_110 : decode cL_digest 110 = .ok (.idiv, 1) := by decide +kernel
theorem dL_digest_111 : decode cL_digest 111 = .ok (.iload_n 3, 1) := by decide +kernel
theorem dL_digest_112 : decode cL_digest 112 = .ok (.bipush 7, 2) := by decide +kernel
theorem dL_digest_114 : decode cL_digest 114 = .ok (.irem, 1) := by decide +kernel
theorem dL_digest_115 : decode cL_digest 115 = .ok (.invokevirtual 23, 3) := by decide +kernel
theorem dL_digest_118 : decode cL_digest 118 = .ok (.i2l, 1) := by decide +kernel
theorem dL_digest_119 : decode cL_digest 119 = .ok (.ladd, 1) := by decide +kernel
theorem dL_digest_120 : decode cL_digest 120 = .ok (.lstore_n 1, 1) := by decide +kernel
theorem dL_digest_121 : decode cL_digest 121 = .ok (.iinc 3 1, 3) := by decide +kernel
theorem dL_digest_124 : decode cL_digest 124 = .ok (.goto (-35), 3) := by decide +kernel
theorem dL_digest_127 : decode cL_digest 127 = .ok (.iconst 0, 1) := by decide +kernel
theorem dL_digest_128 : decode cL_digest 128 = .ok (.istore_n 3, 1) := by decide +kernel
theorem dL_digest_129 : decode cL_digest 129 = .ok (.iload_n 3, 1) := by decide +kernel
theorem dL_digest_130 : decode cL_digest 130 = .ok (.aload_n 0, 1) := by decide +kernel
theorem dL_digest_131 : decode cL_digest 131 = .ok (.iconst 2, 1) := by decide +kernel
theorem dL_digest_132 : decode cL_digest 132 = .ok (.invokevirtual 13, 3) := by decide +kernel
theorem dL_digest_135 : decode cL_digest 135 = .ok (.bipush 6, 2) := by decide +kernel
theorem dL_digest_137 : decode cL_digest 137 = .ok (.imul, 1) := by decide +kernel
theorem dL_digest_138 : decode cL_digest 138 = .ok (.if_icmp .ge 29, 3) := by decide +kernel
theorem dL_digest_141 : decode cL_digest 141 = .ok (.ldc2_w 11, 3) := by decide +kernel
theorem dL_digest_144 : decode cL_digest 144 = .ok (.lload_n 1, 1) := by decide +kernel
theorem dL_digest_145 : decode cL_digest 145 = .ok (.lmul, 1) := by decide +kernel
theorem dL_digest_146 : decode cL_digest 146 = .ok (.aload_n 0, 1) := by decide +kernel
theorem dL_digest_147 : decode cL_digest 147 = .ok (.iload_n 3, 1) := by decide +kernel
theorem dL_digest_148 : decode cL_digest 148 = .ok (.bipush 6, 2) := by decide +kernel
theorem dL_digest_150 : decode cL_digest 150 = .ok (.idiv, 1) := by decide +kernel
theorem dL_digest_151 : decode cL_digest 151 = .ok (.iload_n 3, 1) := by decide +kernel
theorem dL_digest_152 : decode cL_digest 152 = .ok (.bipush 6, 2) := by decide +kernel
theorem dL_digest_154 : decode cL_digest 154 = .ok (.irem, 1) := by decide +kernel
theorem dL_digest_155 : decode cL_digest 155 = .ok (.invokevirtual 26, 3) := by decide +kernel
theorem dL_digest_158 : decode cL_digest 158 = .ok (.i2l, 1) := by decide +kernel
theorem dL_digest_159 : decode cL_digest 159 = .ok (.ladd, 1) := by decide +kernel
theorem dL_digest_160 : decode cL_digest 160 = .ok (.lstore_n 1, 1) := by decide +kernel
theorem dL_digest_161 : decode cL_digest 161 = .ok (.iinc 3 1, 3) := by decide +kernel
theorem dL_digest_164 : decode cL_digest 164 = .ok (.goto (-35), 3) := by decide +kernel
theorem dL_digest_167 : decode cL_digest 167 = .ok (.iconst 0, 1) := by decide +kernel
theorem dL_digest_168 : decode cL_digest 168 = .ok (.istore_n 3, 1) := by decide +kernel
theorem dL_digest_169 : decode cL_digest 169 = .ok (.iload_n 3, 1) := by decide +kernel
theorem dL_digest_170 : decode cL_digest 170 = .ok (.aload_n 0, 1) := by decide +kernel
theorem dL_digest_171 : decode cL_digest 171 = .ok (.iconst 3, 1) := by decide +kernel
theorem dL_digest_172 : decode cL_digest 172 = .ok (.invokevirtual 13, 3) := by decide +kernel
theorem dL_digest_175 : decode cL_digest 175 = .ok (.iconst 5, 1) := by decide +kernel
theorem dL_digest_176 : decode cL_digest 176 = .ok (.imul, 1) := by decide +kernel
theorem dL_digest_177 : decode cL_digest 177 = .ok (.if_icmp .ge 27, 3) := by decide +kernel
theorem dL_digest_180 : decode cL_digest 180 = .ok (.ldc2_w 11, 3) := by decide +kernel
theorem dL_digest_183 : decode cL_digest 183 = .ok (.lload_n 1, 1) := by decide +kernel
theorem dL_digest_184 : decode cL_digest 184 = .ok (.lmul, 1) := by decide +kernel
theorem dL_digest_185 : decode cL_digest 185 = .ok (.aload_n 0, 1) := by decide +kernel
theorem dL_digest_186 : decode cL_digest 186 = .ok (.iload_n 3, 1) := by decide +kernel
theorem dL_digest_187 : decode cL_digest 187 = .ok (.iconst 5, 1) := by decide +kernel
theorem dL_digest_188 : decode cL_digest 188 = .ok (.idiv, 1) := by decide +kernel
theorem dL_digest_189 : decode cL_digest 189 = .ok (.iload_n 3, 1) := by decide +kernel
theorem dL_digest_190 : decode cL_digest 190 = .ok (.iconst 5, 1) := by decide +kernel
theorem dL_digest_191 : decode cL_digest 191 = .ok (.irem, 1) := by decide +kernel
theorem dL_digest_192 : decode cL_digest 192 = .ok (.invokevirtual 29, 3) := by decide +kernel
theorem dL_digest_195 : decode cL_digest 195 = .ok (.i2l, 1) := by decide +kernel
theorem dL_digest_196 : decode cL_digest 196 = .ok (.ladd, 1) := by decide +kernel
theorem dL_digest_197 : decode cL_digest 197 = .ok (.lstore_n 1, 1) := by decide +kernel
theorem dL_digest_198 : decode cL_digest 198 = .ok (.iinc 3 1, 3) := by decide +kernel
theorem dL_digest_201 : decode cL_digest 201 = .ok (.goto (-32), 3) := by decide +kernel
theorem dL_digest_204 : decode cL_digest 204 = .ok (.lload_n 1, 1) := by decide +kernel
theorem dL_digest_205 : decode cL_digest 205 = .ok (.lreturn, 1) := by decide +kernel
set_option maxRecDepth 20000 in
theorem ggL_holds_X7_count : GoodIn wsL_holds wsX7_count := goodIn_r _ [5, 6, 7, 8, 9, 10, 11, 12, 13, 14, 15, 16, 17, 18, 19, 20, 21, 22, 23, 24, 25, 26, 27, 28, 29, 30, 31, 32, 33, 34, 35, 36, 37, 38, 39, 40, 41, 42, 43, 44, 45, 46, 47, 4, 48, 49, 50, 51, 52, 53, 54, 55, 136, 137, 138, 139, 140, 141, 142, 143, 144, 145, 146, 147, 148, 149, 150, 151, 152, 153, 154, 155, 156, 157, 158, 159, 160, 161, 162, 163, 164, 165, 166, 167] (by decide +kernel) (by decide +kernel)
set_option maxRecDepth 20000 in
theorem gL_holds_X7_count : GoodIn wsL_holds (wsV RL 13 RX7 yX7_count wsX7_count) := goodIn_app (goodIn_of _ (by decide +kernel)) ggL_holds_X7_count
set_option maxRecDepth 20000 in
theorem ggL_holds_X7_personOf : GoodIn wsL_holds wsX7_personOf := goodIn_r _ [59, 8, 60, 61, 62, 24, 63, 28, 30, 64, 65, 66, 34, 67, 36, 47, 4, 48, 68, 69, 70, 52, 71, 72, 73, 74, 75, 76, 77, 55, 42, 43, 44, 45, 46, 78, 79, 80, 81, 82, 83, 32, 33, 35, 41, 136, 137, 138, 139, 140, 141, 142, 153, 154, 155, 156, 157, 164, 165, 166, 167, 158, 159, 160, 161, 162, 163] (by decide +kernel) (by decide +kernel)
set_option maxRecDepth 20000 in
theorem gL_holds_X7_personOf : GoodIn wsL_holds (wsV RL 26 RX7 yX7_personOf wsX7_personOf) := goodIn_app (goodIn_of _ (by decide +kernel)) ggL_holds_X7_personOf
set_option maxRecDepth 20000 in
theorem ggL_holds_X7_mealOf : GoodIn wsL_holds wsX7_mealOf := goodIn_r _ [87, 8, 88, 89, 90, 24, 91, 27, 64, 65, 66, 34, 67, 36, 47, 4, 48, 41, 42, 43, 44, 45, 46, 92, 93, 94, 136, 137, 138, 139, 140, 141, 142, 153, 154, 155, 156, 157, 164, 165, 166, 167] (by decide +kernel) (by decide +kernel)
set_option maxRecDepth 20000 in
theorem gL_holds_X7_mealOf : GoodIn wsL_holds (wsV RL 23 RX7 yX7_mealOf wsX7_mealOf) := goodIn_app (goodIn_of _ (by decide +kernel)) ggL_holds_X7_mealOf
set_option maxRecDepth 20000 in
theorem ggL_holds_X7_lockerOf : GoodIn wsL_holds wsX7_lockerOf := goodIn_r _ [98, 8, 99, 100, 101, 24, 102, 26, 30, 64, 65, 66, 34, 67, 36, 47, 4, 48, 103, 104, 105, 52, 106, 82, 83, 32, 33, 35, 55, 42, 43, 44, 45, 46, 41, 136, 137, 138, 139, 140, 141, 142, 153, 154, 155, 156, 157, 164, 165, 166, 167, 158, 159, 160, 161, 162, 163] (by decide +kernel) (by decide +kernel)
set_option maxRecDepth 20000 in
theorem gL_holds_X7_lockerOf : GoodIn wsL_holds (wsV RL 19 RX7 yX7_lockerOf wsX7_lockerOf) := goodIn_app (goodIn_of _ (by decide +kernel)) ggL_holds_X7_lockerOf
set_option maxRecDepth 20000 in
theorem ggL_holds_X7_volunteerOf : GoodIn wsL_holds wsX7_volunteerOf := goodIn_r _ [110, 8, 111, 112, 113, 24, 114, 29, 30, 64, 65, 66, 34, 67, 36, 47, 4, 48, 115, 116, 117, 52, 118, 82, 83, 32, 33, 35, 55, 42, 43, 44, 45, 46, 119, 120, 121, 122, 123, 73, 74, 75, 76, 77, 41, 136, 137, 138, 139, 140, 141, 142, 153, 154, 155, 156, 157, 164, 165, 166, 167, 158, 159, 160, 161, 162, 163] (by decide +kernel) (by decide +kernel)
set_option maxRecDepth 20000 in
theorem gL_holds_X7_volunteerOf : GoodIn wsL_holds (wsV RL 29 RX7 yX7_volunteerOf wsX7_volunteerOf) := goodIn_app (goodIn_of _ (by decide +kernel)) ggL_holds_X7_volunteerOf
set_option maxRecDepth 20000 in
theorem ggL_holds_X7_shareBits : GoodIn wsL_holds wsX7_shareBits := goodIn_r _ [127, 8, 128, 129, 130, 24, 131, 37, 38, 39, 40, 27, 31, 32, 33, 34, 35, 36, 41, 42, 43, 44, 45, 46, 47, 4, 48, 132, 133, 134, 135, 136, 137, 138, 139, 140, 141, 142, 153, 154, 155, 156, 157, 164, 165, 166, 167] (by decide +kernel) (by decide +kernel)
set_option maxRecDepth 20000 in
theorem gL_holds_X7_shareBits : GoodIn wsL_holds (wsV RL 34 RX7 yX7_shareBits wsX7_shareBits) := goodIn_app (goodIn_of _ (by decide +kernel)) ggL_holds_X7_shareBits
theorem dL_holds_0 : decode cL_holds 0 = .ok (.iconst 0, 1) := by decide +kernel
theorem dL_holds_1 : decode cL_holds 1 = .ok (.istore_n 1, 1) := by decide +kernel
theorem dL_holds_2 : decode cL_holds 2 = .ok (.iconst 0, 1) := by decide +kernel
theorem dL_holds_3 : decode cL_holds 3 = .ok (.istore_n 2, 1) := by decide +kernel
theorem dL_holds_4 : decode cL_holds 4 = .ok (.iload_n 2, 1) := by decide +kernel
theorem dL_holds_5 : decode cL_holds 5 = .ok (.aload_n 0, 1) := by decide +kernel
theorem dL_holds_6 : decode cL_holds 6 = .ok (.iconst 2, 1) := by decide +kernel
theorem dL_holds_7 : decode cL_holds 7 = .ok (.invokevirtual 13, 3) := by decide +kernel
theorem dL_holds_10 : decode cL_holds 10 = .ok (.if_icmp .ge 145, 3) := by decide +kernel
theorem dL_holds_13 : decode cL_holds 13 = .ok (.aload_n 0, 1) := by decide +kernel
theorem dL_holds_14 : decode cL_holds 14 = .ok (.iload_n 2, 1) := by decide +kernel
theorem dL_holds_15 : decode cL_holds 15 = .ok (.iconst 3, 1) := by decide +kernel
theorem dL_holds_16 : decode cL_holds 16 = .ok (.invokevirtual 26, 3) := by decide +kernel
theorem dL_holds_19 : decode cL_holds 19 = .ok (.istore_n 3, 1) := by decide +kernel
theorem dL_holds_20 : decode cL_holds 20 = .ok (.iload_n 1, 1) := by decide +kernel
theorem dL_holds_21 : decode cL_holds 21 = .ok (.iload_n 3, 1) := by decide +kernel
theorem dL_holds_22 : decode cL_holds 22 = .ok (.ifCond .lt 7, 3) := by decide +kernel
theorem dL_holds_25 : decode cL_holds 25 = .ok (.iconst 1, 1) := by decide +kernel
theorem dL_holds_26 : decode cL_holds 26 = .ok (.goto 4, 3) := by decide +kernel
theorem dL_holds_29 : decode cL_holds 29 = .ok (.iconst 0, 1) := by decide +kernel
theorem dL_holds_30 : decode cL_holds 30 = .ok (.iadd, 1) := by decide +kernel
theorem dL_holds_31 : decode cL_holds 31 = .ok (.istore_n 1, 1) := by decide +kernel
theorem dL_holds_32 : decode cL_holds 32 = .ok (.iload_n 3, 1) := by decide +kernel
theorem dL_holds_33 : decode cL_holds 33 = .ok (.bipush (-4), 2) := by decide +kernel
theorem dL_holds_35 : decode cL_holds 35 = .ok (.if_icmp .eq 63, 3) := by decide +kernel
theorem dL_holds_38 : decode cL_holds 38 = .ok (.aload_n 0, 1) := by decide +kernel
theorem dL_holds_39 : decode cL_holds 39 = .ok (.iload_n 3, 1) := by decide +kernel
theorem dL_holds_40 : decode cL_holds 40 = .ok (.iconst 0, 1) := by decide +kernel
theorem dL_holds_41 : decode cL_holds 41 = .ok (.invokevirtual 23, 3) := by decide +kernel
theorem dL_holds_44 : decode cL_holds 44 = .ok (.iconst 1, 1) := by decide +kernel
theorem dL_holds_45 : decode cL_holds 45 = .ok (.if_icmp .ne 57, 3) := by decide +kernel
theorem dL_holds_48 : decode cL_holds 48 = .ok (.aload_n 0, 1) := by decide +kernel
theorem dL_holds_49 : decode cL_holds 49 = .ok (.iload_n 3, 1) := by decide +kernel
theorem dL_holds_50 : decode cL_holds 50 = .ok (.iconst 5, 1) := by decide +kernel
theorem dL_holds_51 : decode cL_holds 51 = .ok (.invokevirtual 23, 3) := by decide +kernel
theorem dL_holds_54 : decode cL_holds 54 = .ok (.iload_n 2, 1) := by decide +kernel
theorem dL_holds_55 : decode cL_holds 55 = .ok (.if_icmp .ne 47, 3) := by decide +kernel
theorem dL_holds_58 : decode cL_holds 58 = .ok (.aload_n 0, 1) := by decide +kernel
theorem dL_holds_59 : decode cL_holds 59 = .ok (.iload_n 3, 1) := by decide +kernel
theorem dL_holds_60 : decode cL_holds 60 = .ok (.iconst 3, 1) := by decide +kernel
theorem dL_holds_61 : decode cL_holds 61 = .ok (.invokevirtual 23, 3) := by decide +kernel
theorem dL_holds_64 : decode cL_holds 64 = .ok (.aload_n 0, 1) := by decide +kernel
theorem dL_holds_65 : decode cL_holds 65 = .ok (.iload_n 2, 1) := by decide +kernel
theorem dL_holds_66 : decode cL_holds 66 = .ok (.iconst 0, 1) := by decide +kernel
theorem dL_holds_67 : decode cL_holds 67 = .ok (.invokevirtual 26, 3) := by decide +kernel
theorem dL_holds_70 : decode cL_holds 70 = .ok (.iand, 1) := by decide +kernel
theorem dL_holds_71 : decode cL_holds 71 = .ok (.ifCond .ne 31, 3) := by decide +kernel
theorem dL_holds_74 : decode cL_holds 74 = .ok (.aload_n 0, 1) := by decide +kernel
theorem dL_holds_75 : decode cL_holds 75 = .ok (.iload_n 3, 1) := by decide +kernel
theorem dL_holds_76 : decode cL_holds 76 = .ok (.iconst 4, 1) := by decide +kernel
theorem dL_holds_77 : decode cL_holds 77 = .ok (.invokevirtual 23, 3) := by decide +kernel
theorem dL_holds_80 : decode cL_holds 80 = .ok (.sipush 1000, 3) := by decide +kernel
theorem dL_holds_83 : decode cL_holds 83 = .ok (.if_icmp .lt 19, 3) := by decide +kernel
theorem dL_holds_86 : decode cL_holds 86 = .ok (.aload_n 0, 1) := by decide +kernel
theorem dL_holds_87 : decode cL_holds 87 = .ok (.iload_n 3, 1) := by decide +kernel
theorem dL_holds_88 : decode cL_holds 88 = .ok (.iconst 4, 1) := by decide +kernel
theorem dL_holds_89 : decode cL_holds 89 = .ok (.invokevirtual 23, 3) := by decide +kernel
theorem dL_holds_92 : decode cL_holds 92 = .ok (.sipush 9999, 3) := by decide +kernel
theorem dL_holds_95 : decode cL_holds 95 = .ok (.if_icmp .gt 7, 3) := by decide +kernel
theorem dL_holds_98 : decode cL_holds 98 = .ok (.iconst 1, 1) := by decide +kernel
theorem dL_holds_99 : decode cL_holds 99 = .ok (.goto 4, 3) := by decide +kernel
theorem dL_holds_102 : decode cL_holds 102 = .ok (.iconst 0, 1) := by decide +kernel
theorem dL_holds_103 : decode cL_holds 103 = .ok (.istore 4, 2) := by decide +kernel
theorem dL_holds_105 : decode cL_holds 105 = .ok (.iload 4, 2) := by decide +kernel
theorem dL_holds_107 : decode cL_holds 107 = .ok (.ifCond .eq 40, 3) := by decide +kernel
theorem dL_holds_110 : decode cL_holds 110 = .ok (.aload_n 0, 1) := by decide +kernel
theorem dL_holds_111 : decode cL_holds 111 = .ok (.iload_n 2, 1) := by decide +kernel
theorem dL_holds_112 : decode cL_holds 112 = .ok (.iconst 2, 1) := by decide +kernel
theorem dL_holds_113 : decode cL_holds 113 = .ok (.invokevirtual 26, 3) := by decide +kernel
theorem dL_holds_116 : decode cL_holds 116 = .ok (.bipush 99, 2) := by decide +kernel
theorem dL_holds_118 : decode cL_holds 118 = .ok (.if_icmp .gt 29, 3) := by decide +kernel
theorem dL_holds_121 : decode cL_holds 121 = .ok (.aload_n 0, 1) := by decide +kernel
theorem dL_holds_122 : decode cL_holds 122 = .ok (.iload_n 2, 1) := by decide +kernel
theorem dL_holds_123 : decode cL_holds 123 = .ok (.iconst 1, 1) := by decide +kernel
theorem dL_holds_124 : decode cL_holds 124 = .ok (.invokevirtual 26, 3) := by decide +kernel
theorem dL_holds_127 : decode cL_holds 127 = .ok (.bipush 8, 2) := by decide +kernel
theorem dL_holds_129 : decode cL_holds 129 = .ok (.if_icmp .gt 18, 3) := by decide +kernel
theorem dL_holds_132 : decode cL_holds 132 = .ok (.aload_n 0, 1) := by decide +kernel
theorem dL_holds_133 : decode cL_holds 133 = .ok (.iload_n 2, 1) := by decide +kernel
theorem dL_holds_134 : decode cL_holds 134 = .ok (.iconst 1, 1) := by decide +kernel
theorem dL_holds_135 : decode cL_holds 135 = .ok (.invokevirtual 26, 3) := by decide +kernel
theorem dL_holds_138 : decode cL_holds 138 = .ok (.aload_n 0, 1) := by decide +kernel
theorem dL_holds_139 : decode cL_holds 139 = .ok (.iload_n 2, 1) := by decide +kernel
theorem dL_holds_140 : decode cL_holds 140 = .ok (.iconst 5, 1) := by decide +kernel
theorem dL_holds_141 : decode cL_holds 141 = .ok (.invokevirtual 26, 3) := by decide +kernel
theorem dL_holds_144 : decode cL_holds 144 = .ok (.if_icmp .le 5, 3) := by decide +kernel
theorem dL_holds_147 : decode cL_holds 147 = .ok (.iconst 0, 1) := by decide +kernel
theorem dL_holds_148 : decode cL_holds 148 = .ok (.ireturn, 1) := by decide +kernel
theorem dL_holds_149 : decode cL_holds 149 = .ok (.iinc 2 1, 3) := by decide +kernel
theorem dL_holds_152 : decode cL_holds 152 = .ok (.goto (-148), 3) := by decide +kernel
theorem dL_holds_155 : decode cL_holds 155 = .ok (.iconst 0, 1) := by decide +kernel
theorem dL_holds_156 : decode cL_holds 156 = .ok (.istore_n 2, 1) := by decide +kernel
theorem dL_holds_157 : decode cL_holds 157 = .ok (.iconst 0, 1) := by decide +kernel
theorem dL_holds_158 : decode cL_holds 158 = .ok (.istore_n 3, 1) := by decide +kernel
theorem dL_holds_159 : decode cL_holds 159 = .ok (.iconst 0, 1) := by decide +kernel
theorem dL_holds_160 : decode cL_holds 160 = .ok (.istore 4, 2) := by decide +kernel
theorem dL_holds_162 : decode cL_holds 162 = .ok (.iload 4, 2) := by decide +kernel
theorem dL_holds_164 : decode cL_holds 164 = .ok (.aload_n 0, 1) := by decide +kernel
theorem dL_holds_165 : decode cL_holds 165 = .ok (.iconst 0, 1) := by decide +kernel
theorem dL_holds_166 : decode cL_holds 166 = .ok (.invokevirtual 13, 3) := by decide +kernel
theorem dL_holds_169 : decode cL_holds 169 = .ok (.if_icmp .ge 29, 3) := by decide +kernel
theorem dL_holds_172 : decode cL_holds 172 = .ok (.iload_n 2, 1) := by decide +kernel
theorem dL_holds_173 : decode cL_holds 173 = .ok (.aload_n 0, 1) := by decide +kernel
theorem dL_holds_174 : decode cL_holds 174 = .ok (.iload 4, 2) := by decide +kernel
theorem dL_holds_176 : decode cL_holds 176 = .ok (.iconst 3, 1) := by decide +kernel
theorem dL_holds_177 : decode cL_holds 177 = .ok (.invokevirtual 19, 3) := by decide +kernel
theorem dL_holds_180 : decode cL_holds 180 = .ok (.iadd, 1) := by decide +kernel
theorem dL_holds_181 : decode cL_holds 181 = .ok (.istore_n 2, 1) := by decide +kernel
theorem dL_holds_182 : decode cL_holds 182 = .ok (.iload_n 3, 1) := by decide +kernel
theorem dL_holds_183 : decode cL_holds 183 = .ok (.aload_n 0, 1) := by decide +kernel
theorem dL_holds_184 : decode cL_holds 184 = .ok (.iload 4, 2) := by decide +kernel
theorem dL_holds_186 : decode cL_holds 186 = .ok (.iconst 5, 1) := by decide +kernel
theorem dL_holds_187 : decode cL_holds 187 = .ok (.invokevirtual 19, 3) := by decide +kernel
theorem dL_holds_190 : decode cL_holds 190 = .ok (.iadd, 1) := by decide +kernel
theorem dL_holds_191 : decode cL_holds 191 = .ok (.istore_n 3, 1) := by decide +kernel
theorem dL_holds_192 : decode cL_holds 192 = .ok (.iinc 4 1, 3) := by decide +kernel
theorem dL_holds_195 : decode cL_holds 195 = .ok (.goto (-33), 3) := by decide +kernel
theorem dL_holds_198 : decode cL_holds 198 = .ok (.iconst 0, 1) := by decide +kernel
theorem dL_holds_199 : decode cL_holds 199 = .ok (.istore 4, 2) := by decide +kernel
theorem dL_holds_201 : decode cL_holds 201 = .ok (.iload 4, 2) := by decide +kernel
theorem dL_holds_203 : decode cL_holds 203 = .ok (.aload_n 0, 1) := by decide +kernel
theorem dL_holds_204 : decode cL_holds 204 = .ok (.iconst 3, 1) := by decide +kernel
theorem dL_holds_205 : decode cL_holds 205 = .ok (.invokevirtual 13, 3) := by decide +kernel
theorem dL_holds_208 : decode cL_holds 208 = .ok (.if_icmp .ge 47, 3) := by decide +kernel
theorem dL_holds_211 : decode cL_holds 211 = .ok (.aload_n 0, 1) := by decide +kernel
theorem dL_holds_212 : decode cL_holds 212 = .ok (.iload 4, 2) := by decide +kernel
theorem dL_holds_214 : decode cL_holds 214 = .ok (.iconst 3, 1) := by decide +kernel
theorem dL_holds_215 : decode cL_holds 215 = .ok (.invokevirtual 29, 3) := by decide +kernel
theorem dL_holds_218 : decode cL_holds 218 = .ok (.istore 5, 2) := by decide +kernel
theorem dL_holds_220 : decode cL_holds 220 = .ok (.iload 5, 2) := by decide +kernel
theorem dL_holds_222 : decode cL_holds 222 = .ok (.ifCond .lt 25, 3) := by decide +kernel
theorem dL_holds_225 : decode cL_holds 225 = .ok (.iload 5, 2) := by decide +kernel
theorem dL_holds_227 : decode cL_holds 227 = .ok (.bipush 36, 2) := by decide +kernel
theorem dL_holds_229 : decode cL_holds 229 = .ok (.if_icmp .gt 18, 3) := by decide +kernel
theorem dL_holds_232 : decode cL_holds 232 = .ok (.aload_n 0, 1) := by decide +kernel
theorem dL_holds_233 : decode cL_holds 233 = .ok (.iload 4, 2) := by decide +kernel
theorem dL_holds_235 : decode cL_holds 235 = .ok (.iconst 4, 1) := by decide +kernel
theorem dL_holds_236 : decode cL_holds 236 = .ok (.invokevirtual 29, 3) := by decide +kernel
theorem dL_holds_239 : decode cL_holds 239 = .ok (.aload_n 0, 1) := by decide +kernel
theorem dL_holds_240 : decode cL_holds 240 = .ok (.iconst 4, 1) := by decide +kernel
theorem dL_holds_241 : decode cL_holds 241 = .ok (.invokevirtual 13, 3) := by decide +kernel
theorem dL_holds_244 : decode cL_holds 244 = .ok (.if_icmp .le 5, 3) := by decide +kernel
theorem dL_holds_247 : decode cL_holds 247 = .ok (.iconst 0, 1) := by decide +kernel
theorem dL_holds_248 : decode cL_holds 248 = .ok (.ireturn, 1) := by decide +kernel
theorem dL_holds_249 : decode cL_holds 249 = .ok (.iinc 4 1, 3) := by decide +kernel
theorem dL_holds_252 : decode cL_holds 252 = .ok (.goto (-51), 3) := by decide +kernel
theorem dL_holds_255 : decode cL_holds 255 = .ok (.iload_n 1, 1) := by decide +kernel
theorem dL_holds_256 : decode cL_holds 256 = .ok (.aload_n 0, 1) := by decide +kernel
theorem dL_holds_257 : decode cL_holds 257 = .ok (.bipush 10, 2) := by decide +kernel
theorem dL_holds_259 : decode cL_holds 259 = .ok (.invokevirtual 13, 3) := by decide +kernel
theorem dL_holds_262 : decode cL_holds 262 = .ok (.if_icmp .ne 101, 3) := by decide +kernel
theorem dL_holds_265 : decode cL_holds 265 = .ok (.iload_n 2, 1) := by decide +kernel
theorem dL_holds_266 : decode cL_holds 266 = .ok (.aload_n 0, 1) := by decide +kernel
theorem dL_holds_267 : decode cL_holds 267 = .ok (.iconst 1, 1) := by decide +kernel
theorem dL_holds_268 : decode cL_holds 268 = .ok (.invokevirtual 13, 3) := by decide +kernel
theorem dL_holds_271 : decode cL_holds 271 = .ok (.if_icmp .ne 92, 3) := by decide +kernel
theorem dL_holds_274 : decode cL_holds 274 = .ok (.iload_n 3, 1) := by decide +kernel
theorem dL_holds_275 : decode cL_holds 275 = .ok (.aload_n 0, 1) := by decide +kernel
theorem dL_holds_276 : decode cL_holds 276 = .ok (.bipush 7, 2) := by decide +kernel
theorem dL_holds_278 : decode cL_holds 278 = .ok (.invokevirtual 13, 3) := by decide +kernel
theorem dL_holds_281 : decode cL_holds 281 = .ok (.if_icmp .ne 82, 3) := by decide +kernel
theorem dL_holds_284 : decode cL_holds 284 = .ok (.aload_n 0, 1) := by decide +kernel
theorem dL_holds_285 : decode cL_holds 285 = .ok (.iconst 5, 1) := by decide +kernel
theorem dL_holds_286 : decode cL_holds 286 = .ok (.invokevirtual 13, 3) := by decide +kernel
theorem dL_holds_289 : decode cL_holds 289 = .ok (.aload_n 0, 1) := by decide +kernel
theorem dL_holds_290 : decode cL_holds 290 = .ok (.bipush 6, 2) := by decide +kernel
theorem dL_holds_292 : decode cL_holds 292 = .ok (.invokevirtual 13, 3) := by decide +kernel
theorem dL_holds_295 : decode cL_holds 295 = .ok (.iadd, 1) := by decide +kernel
theorem dL_holds_296 : decode cL_holds 296 = .ok (.aload_n 0, 1) := by decide +kernel
theorem dL_holds_297 : decode cL_holds 297 = .ok (.bipush 7, 2) := by decide +kernel
theorem dL_holds_299 : decode cL_holds 299 = .ok (.invokevirtual 13, 3) := by decide +kernel
theorem dL_holds_302 : decode cL_holds 302 = .ok (.iadd, 1) := by decide +kernel
theorem dL_holds_303 : decode cL_holds 303 = .ok (.aload_n 0, 1) := by decide +kernel
theorem dL_holds_304 : decode cL_holds 304 = .ok (.bipush 8, 2) := by decide +kernel
theorem dL_holds_306 : decode cL_holds 306 = .ok (.invokevirtual 13, 3) := by decide +kernel
theorem dL_holds_309 : decode cL_holds 309 = .ok (.iadd, 1) := by decide +kernel
theorem dL_holds_310 : decode cL_holds 310 = .ok (.aload_n 0, 1) := by decide +kernel
theorem dL_holds_311 : decode cL_holds 311 = .ok (.bipush 9, 2) := by decide +kernel
theorem dL_holds_313 : decode cL_holds 313 = .ok (.invokevirtual 13, 3) := by decide +kernel
theorem dL_holds_316 : decode cL_holds 316 = .ok (.iadd, 1) := by decide +kernel
theorem dL_holds_317 : decode cL_holds 317 = .ok (.iload_n 2, 1) := by decide +kernel
theorem dL_holds_318 : decode cL_holds 318 = .ok (.if_icmp .ne 45, 3) := by decide +kernel
theorem dL_holds_321 : decode cL_holds 321 = .ok (.aload_n 0, 1) := by decide +kernel
theorem dL_holds_322 : decode cL_holds 322 = .ok (.invokevirtual 34, 3) := by decide +kernel
theorem dL_holds_325 : decode cL_holds 325 = .ok (.bipush (-4), 2) := by decide +kernel
theorem dL_holds_327 : decode cL_holds 327 = .ok (.if_icmp .ne 7, 3) := by decide +kernel
theorem dL_holds_330 : decode cL_holds 330 = .ok (.iconst 1, 1) := by decide +kernel
theorem dL_holds_331 : decode cL_holds 331 = .ok (.goto 4, 3) := by decide +kernel
theorem dL_holds_334 : decode cL_holds 334 = .ok (.iconst 0, 1) := by decide +kernel
theorem dL_holds_335 : decode cL_holds 335 = .ok (.aload_n 0, 1) := by decide +kernel
theorem dL_holds_336 : decode cL_holds 336 = .ok (.iconst 5, 1) := by decide +kernel
theorem dL_holds_337 : decode cL_holds 337 = .ok (.invokevirtual 13, 3) := by decide +kernel
theorem dL_holds_340 : decode cL_holds 340 = .ok (.aload_n 0, 1) := by decide +kernel
theorem dL_holds_341 : decode cL_holds 341 = .ok (.bipush 6, 2) := by decide +kernel
theorem dL_holds_343 : decode cL_holds 343 = .ok (.invokevirtual 13, 3) := by decide +kernel
theorem dL_holds_346 : decode cL_holds 346 = .ok (.iadd, 1) := by decide +kernel
theorem dL_holds_347 : decode cL_holds 347 = .ok (.iload_n 2, 1) := by decide +kernel
theorem dL_holds_348 : decode cL_holds 348 = .ok (.if_icmp .ne 7, 3) := by decide +kernel
theorem dL_holds_351 : decode cL_holds 351 = .ok (.iconst 1, 1) := by decide +kernel
theorem dL_holds_352 : decode cL_holds 352 = .ok (.goto 4, 3) := by decide +kernel
theorem dL_holds_355 : decode cL_holds 355 = .ok (.iconst 0, 1) := by decide +kernel
theorem dL_holds_356 : decode cL_holds 356 = .ok (.if_icmp .ne 7, 3) := by decide +kernel
theorem dL_holds_359 : decode cL_holds 359 = .ok (.iconst 1, 1) := by decide +kernel
theorem dL_holds_360 : decode cL_holds 360 = .ok (.goto 4, 3) := by decide +kernel
theorem dL_holds_363 : decode cL_holds 363 = .ok (.iconst 0, 1) := by decide +kernel
theorem dL_holds_364 : decode cL_holds 364 = .ok (.ireturn, 1) := by decide +kernel
set_option maxRecDepth 20000 in
theorem ggL_digits_X7_type : GoodIn wsL_digits wsX7_type := goodIn_r _ [5, 6, 7, 8, 9, 10, 11, 12, 13, 14, 4, 15, 16, 17, 18, 19, 20, 21, 22, 23, 24, 25, 26, 27, 28, 29] (by decide +kernel) (by decide +kernel)
set_option maxRecDepth 20000 in
theorem gL_digits_X7_type : GoodIn wsL_digits (wsV RL 38 RX7 yX7_type wsX7_type) := goodIn_app (goodIn_of _ (by decide +kernel)) ggL_digits_X7_type
theorem dL_digits_0 : decode cL_digits 0 = .ok (.iload_n 1, 1) := by decide +kernel
theorem dL_digits_1 : decode cL_digits 1 = .ok (.sipush 1000, 3) := by decide +kernel
theorem dL_digits_4 : decode cL_digits 4 = .ok (.if_icmp .lt 18, 3) := by decide +kernel
theorem dL_digits_7 : decode cL_digits 7 = .ok (.aload_n 0, 1) := by decide +kernel
theorem dL_digits_8 : decode cL_digits 8 = .ok (.bipush 48, 2) := by decide +kernel
theorem dL_digits_10 : decode cL_digits 10 = .ok (.iload_n 1, 1) := by decide +kernel
theorem dL_digits_11 : decode cL_digits 11 = .ok (.sipush 1000, 3) := by decide +kernel
theorem dL_digits_14 : decode cL_digits 14 = .ok (.idiv, 1) := by decide +kernel
theorem dL_digits_15 : decode cL_digits 15 = .ok (.iadd, 1) := by decide +kernel
theorem dL_digits_16 : decode cL_digits 16 = .ok (.invokevirtual 38, 3) := by decide +kernel
theorem dL_digits_19 : decode cL_digits 19 = .ok (.ifCond .le 7, 3) := by decide +kernel
theorem dL_digits_22 : decode cL_digits 22 = .ok (.iconst 1, 1) := by decide +kernel
theorem dL_digits_23 : decode cL_digits 23 = .ok (.goto 4, 3) := by decide +kernel
theorem dL_digits_26 : decode cL_digits 26 = .ok (.iconst 0, 1) := by decide +kernel
theorem dL_digits_27 : decode cL_digits 27 = .ok (.istore_n 2, 1) := by decide +kernel
theorem dL_digits_28 : decode cL_digits 28 = .ok (.iload_n 2, 1) := by decide +kernel
theorem dL_digits_29 : decode cL_digits 29 = .ok (.ifCond .eq 53, 3) := by decide +kernel
theorem dL_digits_32 : decode cL_digits 32 = .ok (.iload_n 1, 1) := by decide +kernel
theorem dL_digits_33 : decode cL_digits 33 = .ok (.bipush 100, 2) := by decide +kernel
theorem dL_digits_35 : decode cL_digits 35 = .ok (.if_icmp .lt 20, 3) := by decide +kernel
theorem dL_digits_38 : decode cL_digits 38 = .ok (.aload_n 0, 1) := by decide +kernel
theorem dL_digits_39 : decode cL_digits 39 = .ok (.bipush 48, 2) := by decide +kernel
theorem dL_digits_41 : decode cL_digits 41 = .ok (.iload_n 1, 1) := by decide +kernel
theorem dL_digits_42 : decode cL_digits 42 = .ok (.bipush 100, 2) := by decide +kernel
theorem dL_digits_44 : decode cL_digits 44 = .ok (.idiv, 1) := by decide +kernel
theorem dL_digits_45 : decode cL_digits 45 = .ok (.bipush 10, 2) := by decide +kernel
theorem dL_digits_47 : decode cL_digits 47 = .ok (.irem, 1) := by decide +kernel
theorem dL_digits_48 : decode cL_digits 48 = .ok (.iadd, 1) := by decide +kernel
theorem dL_digits_49 : decode cL_digits 49 = .ok (.invokevirtual 38, 3) := by decide +kernel
theorem dL_digits_52 : decode cL_digits 52 = .ok (.ifCond .le 30, 3) := by decide +kernel
theorem dL_digits_55 : decode cL_digits 55 = .ok (.iload_n 1, 1) := by decide +kernel
theorem dL_digits_56 : decode cL_digits 56 = .ok (.bipush 10, 2) := by decide +kernel
theorem dL_digits_58 : decode cL_digits 58 = .ok (.if_icmp .lt 20, 3) := by decide +kernel
theorem dL_digits_61 : decode cL_digits 61 = .ok (.aload_n 0, 1) := by decide +kernel
theorem dL_digits_62 : decode cL_digits 62 = .ok (.bipush 48, 2) := by decide +kernel
theorem dL_digits_64 : decode cL_digits 64 = .ok (.iload_n 1, 1) := by decide +kernel
theorem dL_digits_65 : decode cL_digits 65 = .ok (.bipush 10, 2) := by decide +kernel
theorem dL_digits_67 : decode cL_digits 67 = .ok (.idiv, 1) := by decide +kernel
theorem dL_digits_68 : decode cL_digits 68 = .ok (.bipush 10, 2) := by decide +kernel
theorem dL_digits_70 : decode cL_digits 70 = .ok (.irem, 1) := by decide +kernel
theorem dL_digits_71 : decode cL_digits 71 = .ok (.iadd, 1) := by decide +kernel
theorem dL_digits_72 : decode cL_digits 72 = .ok (.invokevirtual 38, 3) := by decide +kernel
theorem dL_digits_75 : decode cL_digits 75 = .ok (.ifCond .le 7, 3) := by decide +kernel
theorem dL_digits_78 : decode cL_digits 78 = .ok (.iconst 1, 1) := by decide +kernel
theorem dL_digits_79 : decode cL_digits 79 = .ok (.goto 4, 3) := by decide +kernel
theorem dL_digits_82 : decode cL_digits 82 = .ok (.iconst 0, 1) := by decide +kernel
theorem dL_digits_83 : decode cL_digits 83 = .ok (.istore_n 2, 1) := by decide +kernel
theorem dL_digits_84 : decode cL_digits 84 = .ok (.iload_n 2, 1) := by decide +kernel
theorem dL_digits_85 : decode cL_digits 85 = .ok (.ifCond .eq 21, 3) := by decide +kernel
theorem dL_digits_88 : decode cL_digits 88 = .ok (.aload_n 0, 1) := by decide +kernel
theorem dL_digits_89 : decode cL_digits 89 = .ok (.bipush 48, 2) := by decide +kernel
theorem dL_digits_91 : decode cL_digits 91 = .ok (.iload_n 1, 1) := by decide +kernel
theorem dL_digits_92 : decode cL_digits 92 = .ok (.bipush 10, 2) := by decide +kernel
theorem dL_digits_94 : decode cL_digits 94 = .ok (.irem, 1) := by decide +kernel
theorem dL_digits_95 : decode cL_digits 95 = .ok (.iadd, 1) := by decide +kernel
theorem dL_digits_96 : decode cL_digits 96 = .ok (.invokevirtual 38, 3) := by decide +kernel
theorem dL_digits_99 : decode cL_digits 99 = .ok (.ifCond .le 7, 3) := by decide +kernel
theorem dL_digits_102 : decode cL_digits 102 = .ok (.iconst 1, 1) := by decide +kernel
theorem dL_digits_103 : decode cL_digits 103 = .ok (.goto 4, 3) := by decide +kernel
theorem dL_digits_106 : decode cL_digits 106 = .ok (.iconst 0, 1) := by decide +kernel
theorem dL_digits_107 : decode cL_digits 107 = .ok (.ireturn, 1) := by decide +kernel
set_option maxRecDepth 20000 in
theorem ggL_types_L_low : GoodIn wsL_types wsL_low := goodIn_r _ [4, 5] (by decide +kernel) (by decide +kernel)
set_option maxRecDepth 20000 in
theorem gL_types_L_low : GoodIn wsL_types (va_wsS RL 41 yL_low wsL_low) := goodIn_app (goodIn_of _ (by decide +kernel)) ggL_types_L_low
set_option maxRecDepth 20000 in
theorem ggL_types_X7_clearText : GoodIn wsL_types wsX7_clearText := goodIn_r _ [10, 11, 12, 13, 14, 15, 16, 17, 96, 97, 98, 99, 100, 101, 102, 103, 104, 105, 106, 107, 108, 109] (by decide +kernel) (by decide +kernel)
set_option maxRecDepth 20000 in
theorem gL_types_X7_clearText : GoodIn wsL_types (wsV RL 44 RX7 yX7_clearText wsX7_clearText) := goodIn_app (goodIn_of _ (by decide +kernel)) ggL_types_X7_clearText
set_option maxRecDepth 20000 in
theorem ggL_types_X7_count : GoodIn wsL_types wsX7_count := goodIn_r _ [21, 22, 11, 23, 24, 25, 26, 27, 28, 29, 30, 31, 32, 15, 33, 17, 34, 35, 36, 37, 38, 39, 40, 41, 42, 43, 44, 45, 46, 47, 48, 49, 50, 51, 52, 53, 54, 55, 56, 57, 58, 59, 60, 9, 61, 62, 63, 64, 65, 66, 67, 68, 96, 97, 98, 99, 100, 101, 102, 110, 111, 112, 103, 104, 105, 106, 107, 108, 109, 113, 114, 115, 116, 117, 118, 119, 120, 121, 122, 123, 124, 125, 126, 127] (by decide +kernel) (by decide +kernel)
set_option maxRecDepth 20000 in
theorem gL_types_X7_count : GoodIn wsL_types (wsV RL 13 RX7 yX7_count wsX7_count) := goodIn_app (goodIn_of _ (by decide +kernel)) ggL_types_X7_count
set_option maxRecDepth 20000 in
theorem ggL_types_X7_mealOf : GoodIn wsL_types wsX7_mealOf := goodIn_r _ [72, 23, 73, 74, 75, 37, 76, 40, 77, 78, 79, 47, 80, 49, 60, 9, 61, 54, 55, 56, 57, 58, 59, 81, 82, 83, 96, 97, 98, 99, 100, 101, 102, 113, 114, 115, 116, 117, 124, 125, 126, 127] (by decide +kernel) (by decide +kernel)
set_option maxRecDepth 20000 in
theorem gL_types_X7_mealOf : GoodIn wsL_types (wsV RL 23 RX7 yX7_mealOf wsX7_mealOf) := goodIn_app (goodIn_of _ (by decide +kernel)) ggL_types_X7_mealOf
set_option maxRecDepth 20000 in
theorem ggL_types_X7_type : GoodIn wsL_types wsX7_type := goodIn_r _ [87, 11, 88, 89, 90, 15, 91, 17, 92, 60, 9, 61, 96, 97, 98, 99, 100, 101, 102, 103, 104, 105, 106, 107, 108, 109] (by decide +kernel) (by decide +kernel)
set_option maxRecDepth 20000 in
theorem gL_types_X7_type : GoodIn wsL_types (wsV RL 38 RX7 yX7_type wsX7_type) := goodIn_app (goodIn_of _ (by decide +kernel)) ggL_types_X7_type
set_option maxRecDepth 20000 in
theorem ggL_types_L_digits : GoodIn wsL_types wsL_digits := goodIn_r _ [95, 84, 85, 86, 9, 87, 11, 88, 89, 90, 15, 91, 17, 92, 60, 61, 96, 97, 98, 99, 100, 101, 102, 103, 104, 105, 106, 107, 108, 109] (by decide +kernel) (by decide +kernel)
set_option maxRecDepth 20000 in
theorem gL_types_L_digits : GoodIn wsL_types (va_wsS RL 47 yL_digits wsL_digits) := goodIn_app (goodIn_of _ (by decide +kernel)) ggL_types_L_digits
theorem dL_types_0 : decode cL_types 0 = .ok (.iload_n 1, 1) := by decide +kernel
theorem dL_types_1 : decode cL_types 1 = .ok (.iconst 5, 1) := by decide +kernel
theorem dL_types_2 : decode cL_types 2 = .ok (.invokestatic 41, 3) := by decide +kernel
theorem dL_types_5 : decode cL_types 5 = .ok (.istore_n 2, 1) := by decide +kernel
theorem dL_types_6 : decode cL_types 6 = .ok (.aload_n 0, 1) := by decide +kernel
theorem dL_types_7 : decode cL_types 7 = .ok (.invokevirtual 44, 3) := by decide +kernel
theorem dL_types_10 : decode cL_types 10 = .ok (.ifCond .lt 7, 3) := by decide +kernel
theorem dL_types_13 : decode cL_types 13 = .ok (.iconst 1, 1) := by decide +kernel
theorem dL_types_14 : decode cL_types 14 = .ok (.goto 4, 3) := by decide +kernel
theorem dL_types_17 : decode cL_types 17 = .ok (.iconst 0, 1) := by decide +kernel
theorem dL_types_18 : decode cL_types 18 = .ok (.istore_n 3, 1) := by decide +kernel
theorem dL_types_19 : decode cL_types 19 = .ok (.iconst 0, 1) := by decide +kernel
theorem dL_types_20 : decode cL_types 20 = .ok (.istore 4, 2) := by decide +kernel
theorem dL_types_22 : decode cL_types 22 = .ok (.iload 4, 2) := by decide +kernel
theorem dL_types_24 : decode cL_types 24 = .ok (.iload_n 2, 1) := by decide +kernel
theorem dL_types_25 : decode cL_types 25 = .ok (.if_icmp .ge 290, 3) := by decide +kernel
theorem dL_types_28 : decode cL_types 28 = .ok (.iload_n 1, 1) := by decide +kernel
theorem dL_types_29 : decode cL_types 29 = .ok (.iconst 3, 1) := by decide +kernel
theorem dL_types_30 : decode cL_types 30 = .ok (.iconst 5, 1) := by decide +kernel
theorem dL_types_31 : decode cL_types 31 = .ok (.iload 4, 2) := by decide +kernel
theorem dL_types_33 : decode cL_types 33 = .ok (.imul, 1) := by decide +kernel
theorem dL_types_34 : decode cL_types 34 = .ok (.iadd, 1) := by decide +kernel
theorem dL_types_35 : decode cL_types 35 = .ok (.ishr, 1) := by decide +kernel
theorem dL_types_36 : decode cL_types 36 = .ok (.istore 5, 2) := by decide +kernel
theorem dL_types_38 : decode cL_types 38 = .ok (.iload 5, 2) := by decide +kernel
theorem dL_types_40 : decode cL_types 40 = .ok (.bipush 7, 2) := by decide +kernel
theorem dL_types_42 : decode cL_types 42 = .ok (.invokestatic 41, 3) := by decide +kernel
theorem dL_types_45 : decode cL_types 45 = .ok (.istore 6, 2) := by decide +kernel
theorem dL_types_47 : decode cL_types 47 = .ok (.iload 5, 2) := by decide +kernel
theorem dL_types_49 : decode cL_types 49 = .ok (.iconst 2, 1) := by decide +kernel
theorem dL_types_50 : decode cL_types 50 = .ok (.ishr, 1) := by decide +kernel
theorem dL_types_51 : decode cL_types 51 = .ok (.iload 6, 2) := by decide +kernel
theorem dL_types_53 : decode cL_types 53 = .ok (.bipush 6, 2) := by decide +kernel
theorem dL_types_55 : decode cL_types 55 = .ok (.if_icmp .ne 8, 3) := by decide +kernel
theorem dL_types_58 : decode cL_types 58 = .ok (.bipush 12, 2) := by decide +kernel
theorem dL_types_60 : decode cL_types 60 = .ok (.goto 4, 3) := by decide +kernel
theorem dL_types_63 : decode cL_types 63 = .ok (.iconst 3, 1) := by decide +kernel
theorem dL_types_64 : decode cL_types 64 = .ok (.invokestatic 41, 3) := by decide +kernel
theorem dL_types_67 : decode cL_types 67 = .ok (.istore 7, 2) := by decide +kernel
theorem dL_types_69 : decode cL_types 69 = .ok (.aload_n 0, 1) := by decide +kernel
theorem dL_types_70 : decode cL_types 70 = .ok (.iconst 1, 1) := by decide +kernel
theorem dL_types_71 : decode cL_types 71 = .ok (.invokevirtual 13, 3) := by decide +kernel
theorem dL_types_74 : decode cL_types 74 = .ok (.ifCond .ne 7, 3) := by decide +kernel
theorem dL_types_77 : decode cL_types 77 = .ok (.iconst 0, 1) := by decide +kernel
theorem dL_types_78 : decode cL_types 78 = .ok (.goto 15, 3) := by decide +kernel
theorem dL_types_81 : decode cL_types 81 = .ok (.iload 5, 2) := by decide +kernel
theorem dL_types_83 : decode cL_types 83 = .ok (.iconst 4, 1) := by decide +kernel
theorem dL_types_84 : decode cL_types 84 = .ok (.ishr, 1) := by decide +kernel
theorem dL_types_85 : decode cL_types 85 = .ok (.aload_n 0, 1) := by decide +kernel
theorem dL_types_86 : decode cL_types 86 = .ok (.iconst 1, 1) := by decide +kernel
theorem dL_types_87 : decode cL_types 87 = .ok (.invokevirtual 13, 3) := by decide +kernel
theorem dL_types_90 : decode cL_types 90 = .ok (.invokestatic 41, 3) := by decide +kernel
theorem dL_types_93 : decode cL_types 93 = .ok (.istore 8, 2) := by decide +kernel
theorem dL_types_95 : decode cL_types 95 = .ok (.iload 6, 2) := by decide +kernel
theorem dL_types_97 : decode cL_types 97 = .ok (.ifCond .eq 9, 3) := by decide +kernel
theorem dL_types_100 : decode cL_types 100 = .ok (.iload 6, 2) := by decide +kernel
theorem dL_types_102 : decode cL_types 102 = .ok (.iconst 3, 1) := by decide +kernel
theorem dL_types_103 : decode cL_types 103 = .ok (.if_icmp .ne 8, 3) := by decide +kernel
theorem dL_types_106 : decode cL_types 106 = .ok (.iload 8, 2) := by decide +kernel
theorem dL_types_108 : decode cL_types 108 = .ok (.goto 43, 3) := by decide +kernel
theorem dL_types_111 : decode cL_types 111 = .ok (.iload 6, 2) := by decide +kernel
theorem dL_types_113 : decode cL_types 113 = .ok (.iconst 4, 1) := by decide +kernel
theorem dL_types_114 : decode cL_types 114 = .ok (.if_icmp .ne 14, 3) := by decide +kernel
theorem dL_types_117 : decode cL_types 117 = .ok (.iload 5, 2) := by decide +kernel
theorem dL_types_119 : decode cL_types 119 = .ok (.iconst 4, 1) := by decide +kernel
theorem dL_types_120 : decode cL_types 120 = .ok (.ishr, 1) := by decide +kernel
theorem dL_types_121 : decode cL_types 121 = .ok (.iconst 4, 1) := by decide +kernel
theorem dL_types_122 : decode cL_types 122 = .ok (.invokestatic 41, 3) := by decide +kernel
theorem dL_types_125 : decode cL_types 125 = .ok (.goto 26, 3) := by decide +kernel
theorem dL_types_128 : decode cL_types 128 = .ok (.aload_n 0, 1) := by decide +kernel
theorem dL_types_129 : decode cL_types 129 = .ok (.iload 8, 2) := by decide +kernel
theorem dL_types_131 : decode cL_types 131 = .ok (.iconst 4, 1) := by decide +kernel
theorem dL_types_132 : decode cL_types 132 = .ok (.invokevirtual 23, 3) := by decide +kernel
theorem dL_types_135 : decode cL_types 135 = .ok (.ifCond .ge 9, 3) := by decide +kernel
theorem dL_types_138 : decode cL_types 138 = .ok (.sipush 1000, 3) := by decide +kernel
theorem dL_types_141 : decode cL_types 141 = .ok (.goto 10, 3) := by decide +kernel
theorem dL_types_144 : decode cL_types 144 = .ok (.aload_n 0, 1) := by decide +kernel
theorem dL_types_145 : decode cL_types 145 = .ok (.iload 8, 2) := by decide +kernel
theorem dL_types_147 : decode cL_types 147 = .ok (.iconst 4, 1) := by decide +kernel
theorem dL_types_148 : decode cL_types 148 = .ok (.invokevirtual 23, 3) := by decide +kernel
theorem dL_types_151 : decode cL_types 151 = .ok (.istore 9, 2) := by decide +kernel
theorem dL_types_153 : decode cL_types 153 = .ok (.iload_n 3, 1) := by decide +kernel
theorem dL_types_154 : decode cL_types 154 = .ok (.ifCond .eq 90, 3) := by decide +kernel
theorem dL_types_157 : decode cL_types 157 = .ok (.aload_n 0, 1) := by decide +kernel
theorem dL_types_158 : decode cL_types 158 = .ok (.iload 6, 2) := by decide +kernel
theorem dL_types_160 : decode cL_types 160 = .ok (.ifCond .ne 8, 3) := by decide +kernel
theorem dL_types_163 : decode cL_types 163 = .ok (.bipush 114, 2) := by decide +kernel
theorem dL_types_165 : decode cL_types 165 = .ok (.goto 60, 3) := by decide +kernel
theorem dL_types_168 : decode cL_types 168 = .ok (.iload 6, 2) := by decide +kernel
theorem dL_types_170 : decode cL_types 170 = .ok (.iconst 1, 1) := by decide +kernel
theorem dL_types_171 : decode cL_types 171 = .ok (.if_icmp .ne 8, 3) := by decide +kernel
theorem dL_types_174 : decode cL_types 174 = .ok (.bipush 102, 2) := by decide +kernel
theorem dL_types_176 : decode cL_types 176 = .ok (.goto 49, 3) := by decide +kernel
theorem dL_types_179 : decode cL_types 179 = .ok (.iload 6, 2) := by decide +kernel
theorem dL_types_181 : decode cL_types 181 = .ok (.iconst 2, 1) := by decide +kernel
theorem dL_types_182 : decode cL_types 182 = .ok (.if_icmp .ne 8, 3) := by decide +kernel
theorem dL_types_185 : decode cL_types 185 = .ok (.bipush 110, 2) := by decide +kernel
theorem dL_types_187 : decode cL_types 187 = .ok (.goto 38, 3) := by decide +kernel
theorem dL_types_190 : decode cL_types 190 = .ok (.iload 6, 2) := by decide +kernel
theorem dL_types_192 : decode cL_types 192 = .ok (.iconst 3, 1) := by decide +kernel
theorem dL_types_193 : decode cL_types 193 = .ok (.if_icmp .ne 8, 3) := by decide +kernel
theorem dL_types_196 : decode cL_types 196 = .ok (.bipush 116, 2) := by decide +kernel
theorem dL_types_198 : decode cL_types 198 = .ok (.goto 27, 3) := by decide +kernel
theorem dL_types_201 : decode cL_types 201 = .ok (.iload 6, 2) := by decide +kernel
theorem dL_types_203 : decode cL_types 203 = .ok (.iconst 4, 1) := by decide +kernel
theorem dL_types_204 : decode cL_types 204 = .ok (.if_icmp .ne 8, 3) := by decide +kernel
theorem dL_types_207 : decode cL_types 207 = .ok (.bipush 103, 2) := by decide +kernel
theorem dL_types_209 : decode cL_types 209 = .ok (.goto 16, 3) := by decide +kernel
theorem dL_types_212 : decode cL_types 212 = .ok (.iload 6, 2) := by decide +kernel
theorem dL_types_214 : decode cL_types 214 = .ok (.iconst 5, 1) := by decide +kernel
theorem dL_types_215 : decode cL_types 215 = .ok (.if_icmp .ne 8, 3) := by decide +kernel
theorem dL_types_218 : decode cL_types 218 = .ok (.bipush 112, 2) := by decide +kernel
theorem dL_types_220 : decode cL_types 220 = .ok (.goto 5, 3) := by decide +kernel
theorem dL_types_223 : decode cL_types 223 = .ok (.bipush 104, 2) := by decide +kernel
theorem dL_types_225 : decode cL_types 225 = .ok (.invokevirtual 38, 3) := by decide +kernel
theorem dL_types_228 : decode cL_types 228 = .ok (.ifCond .le 16, 3) := by decide +kernel
theorem dL_types_231 : decode cL_types 231 = .ok (.aload_n 0, 1) := by decide +kernel
theorem dL_types_232 : decode cL_types 232 = .ok (.iload 7, 2) := by decide +kernel
theorem dL_types_234 : decode cL_types 234 = .ok (.invokestatic 47, 3) := by decide +kernel
theorem dL_types_237 : decode cL_types 237 = .ok (.ifCond .eq 7, 3) := by decide +kernel
theorem dL_types_240 : decode cL_types 240 = .ok (.iconst 1, 1) := by decide +kernel
theorem dL_types_241 : decode cL_types 241 = .ok (.goto 4, 3) := by decide +kernel
theorem dL_types_244 : decode cL_types 244 = .ok (.iconst 0, 1) := by decide +kernel
theorem dL_types_245 : decode cL_types 245 = .ok (.istore_n 3, 1) := by decide +kernel
theorem dL_types_246 : decode cL_types 246 = .ok (.iload_n 3, 1) := by decide +kernel
theorem dL_types_247 : decode cL_types 247 = .ok (.ifCond .eq 60, 3) := by decide +kernel
theorem dL_types_250 : decode cL_types 250 = .ok (.iload 6, 2) := by decide +kernel
theorem dL_types_252 : decode cL_types 252 = .ok (.iconst 4, 1) := by decide +kernel
theorem dL_types_253 : decode cL_types 253 = .ok (.if_icmp .gt 21, 3) := by decide +kernel
theorem dL_types_256 : decode cL_types 256 = .ok (.aload_n 0, 1) := by decide +kernel
theorem dL_types_257 : decode cL_types 257 = .ok (.bipush 44, 2) := by decide +kernel
theorem dL_types_259 : decode cL_types 259 = .ok (.invokevirtual 38, 3) := by decide +kernel
theorem dL_types_262 : decode cL_types 262 = .ok (.ifCond .le 45, 3) := by decide +kernel
theorem dL_types_265 : decode cL_types 265 = .ok (.aload_n 0, 1) := by decide +kernel
theorem dL_types_266 : decode cL_types 266 = .ok (.iload 9, 2) := by decide +kernel
theorem dL_types_268 : decode cL_types 268 = .ok (.invokestatic 47, 3) := by decide +kernel
theorem dL_types_271 : decode cL_types 271 = .ok (.ifCond .eq 36, 3) := by decide +kernel
theorem dL_types_274 : decode cL_types 274 = .ok (.iload_n 1, 1) := by decide +kernel
theorem dL_types_275 : decode cL_types 275 = .ok (.bipush 24, 2) := by decide +kernel
theorem dL_types_277 : decode cL_types 277 = .ok (.ishr, 1) := by decide +kernel
theorem dL_types_278 : decode cL_types 278 = .ok (.bipush 6, 2) := by decide +kernel
theorem dL_types_280 : decode cL_types 280 = .ok (.invokestatic 41, 3) := by decide +kernel
theorem dL_types_283 : decode cL_types 283 = .ok (.ifCond .ne 11, 3) := by decide +kernel
theorem dL_types_286 : decode cL_types 286 = .ok (.iload 4, 2) := by decide +kernel
theorem dL_types_288 : decode cL_types 288 = .ok (.iload_n 2, 1) := by decide +kernel
theorem dL_types_289 : decode cL_types 289 = .ok (.iconst 1, 1) := by decide +kernel
theorem dL_types_290 : decode cL_types 290 = .ok (.isub, 1) := by decide +kernel
theorem dL_types_291 : decode cL_types 291 = .ok (.if_icmp .eq 12, 3) := by decide +kernel
theorem dL_types_294 : decode cL_types 294 = .ok (.aload_n 0, 1) := by decide +kernel
theorem dL_types_295 : decode cL_types 295 = .ok (.bipush 59, 2) := by decide +kernel
theorem dL_types_297 : decode cL_types 297 = .ok (.invokevirtual 38, 3) := by decide +kernel
theorem dL_types_300 : decode cL_types 300 = .ok (.ifCond .le 7, 3) := by decide +kernel
theorem dL_types_303 : decode cL_types 303 = .ok (.iconst 1, 1) := by decide +kernel
theorem dL_types_304 : decode cL_types 304 = .ok (.goto 4, 3) := by decide +kernel
theorem dL_types_307 : decode cL_types 307 = .ok (.iconst 0, 1) := by decide +kernel
theorem dL_types_308 : decode cL_types 308 = .ok (.istore_n 3, 1) := by decide +kernel
theorem dL_types_309 : decode cL_types 309 = .ok (.iinc 4 1, 3) := by decide +kernel
theorem dL_types_312 : decode cL_types 312 = .ok (.goto (-290), 3) := by decide +kernel
theorem dL_types_315 : decode cL_types 315 = .ok (.iload_n 3, 1) := by decide +kernel
theorem dL_types_316 : decode cL_types 316 = .ok (.ireturn, 1) := by decide +kernel
set_option maxRecDepth 20000 in
theorem ggL_reads_X7_fault : GoodIn wsL_reads wsX7_fault := goodIn_r _ [5, 6, 7, 8, 9, 4, 10, 11, 12, 13, 14, 15, 16, 17, 18, 19, 20, 21, 22, 23, 24, 25, 26, 27, 28, 29, 30, 31, 32, 33, 34, 35, 36, 37, 38, 39, 40, 41, 42, 43, 44, 45, 46, 47, 48, 49, 50, 51, 52, 53, 54, 55, 56, 57, 58, 59, 60, 61, 62, 63, 64, 65, 66, 67, 68, 69, 70, 71, 72, 73, 74, 75, 76, 77, 78, 79, 80, 81, 82, 83, 84, 85, 86, 87, 88, 89, 90, 91, 92, 93, 94, 95, 96, 97, 98, 99, 100, 101, 102, 103, 104, 105, 106, 107, 108, 109, 110, 111, 112, 113, 114, 115, 116, 117, 118, 119, 120, 121, 122, 123, 124, 125, 126, 127, 128, 129, 130, 131, 132, 133, 134, 135, 136, 137, 138, 139, 140, 141, 142, 143, 144, 145, 146, 147, 148, 149, 150, 151, 152, 153, 154, 155, 156, 157, 158, 159, 160, 161, 162, 163, 164, 165, 166, 167, 168, 169, 170, 171, 172, 173, 174, 175, 176, 177, 178, 179, 180, 181, 182, 183, 184, 185, 186, 187, 188, 189, 190, 191, 192, 193, 194, 195, 196, 197, 198, 199, 200, 201, 202, 203, 204, 205, 206, 207, 208, 209, 210, 211, 212, 213, 214, 215, 216, 217, 218, 219, 220, 221, 222, 223, 274, 275, 276, 277, 278, 279, 280, 281, 282, 283, 284, 285, 286, 287, 288, 289, 290, 291, 292, 293, 294, 295, 296, 297, 298, 299, 300, 301, 302, 303, 304, 305] (by decide +kernel) (by decide +kernel)
set_option maxRecDepth 20000 in
theorem gL_reads_X7_fault : GoodIn wsL_reads (wsV RL 51 RX7 yX7_fault wsX7_fault) := goodIn_app (goodIn_of _ (by decide +kernel)) ggL_reads_X7_fault
set_option maxRecDepth 20000 in
theorem ggL_reads_X7_count : GoodIn wsL_reads wsX7_count := goodIn_r _ [227, 228, 229, 230, 231, 232, 233, 234, 235, 236, 237, 41, 42, 43, 44, 45, 238, 239, 240, 241, 242, 243, 244, 245, 246, 247, 248, 111, 112, 28, 113, 30, 249, 250, 251, 252, 253, 94, 95, 96, 97, 31, 67, 4, 68, 254, 167, 168, 17, 169, 23, 93, 274, 275, 276, 277, 278, 279, 280, 306, 307, 308, 294, 295, 296, 297, 298, 299, 300, 309, 310, 311, 312, 313, 281, 282, 283, 284, 285, 286, 287, 288, 289, 290] (by decide +kernel) (by decide +kernel)
set_option maxRecDepth 20000 in
theorem gL_reads_X7_count : GoodIn wsL_reads (wsV RL 13 RX7 yX7_count wsX7_count) := goodIn_app (goodIn_of _ (by decide +kernel)) ggL_reads_X7_count
set_option maxRecDepth 20000 in
theorem ggL_reads_X7_play : GoodIn wsL_reads wsX7_play := goodIn_r _ [258, 6, 7, 8, 9, 4, 10, 11, 12, 13, 14, 15, 16, 17, 18, 19, 20, 21, 22, 23, 24, 25, 26, 27, 28, 29, 30, 31, 32, 33, 34, 35, 36, 37, 38, 39, 40, 41, 42, 43, 44, 45, 46, 47, 48, 49, 50, 51, 52, 53, 54, 55, 56, 57, 58, 59, 60, 61, 62, 63, 64, 65, 66, 67, 68, 69, 70, 71, 72, 73, 74, 75, 76, 77, 78, 79, 80, 81, 82, 83, 84, 85, 86, 87, 88, 89, 90, 91, 92, 93, 94, 95, 96, 97, 98, 99, 100, 101, 102, 103, 104, 105, 106, 107, 108, 109, 110, 111, 112, 113, 114, 115, 116, 117, 118, 119, 120, 121, 122, 123, 124, 125, 126, 127, 128, 129, 130, 131, 132, 133, 134, 135, 136, 137, 138, 139, 140, 141, 142, 143, 144, 145, 146, 147, 148, 149, 150, 151, 152, 153, 154, 155, 156, 157, 158, 159, 160, 161, 162, 163, 164, 165, 166, 167, 168, 169, 170, 171, 172, 173, 174, 175, 176, 177, 178, 179, 180, 181, 182, 183, 184, 185, 186, 187, 188, 189, 190, 191, 192, 193, 194, 195, 196, 197, 198, 199, 200, 201, 202, 203, 204, 205, 206, 207, 208, 209, 210, 211, 212, 213, 214, 215, 216, 217, 218, 219, 259, 260, 261, 262, 228, 263, 264, 265, 234, 266, 236, 267, 268, 269, 270, 271, 272, 273, 274, 275, 276, 277, 278, 279, 280, 281, 282, 283, 284, 285, 286, 287, 288, 289, 290, 291, 292, 293, 294, 295, 296, 297, 298, 299, 300, 301, 302, 303, 304, 305, 306, 307, 308] (by decide +kernel) (by decide +kernel)
set_option maxRecDepth 20000 in
theorem gL_reads_X7_play : GoodIn wsL_reads (wsV RL 54 RX7 yX7_play wsX7_play) := goodIn_app (goodIn_of _ (by decide +kernel)) ggL_reads_X7_play
theorem dL_reads_0 : decode cL_reads 0 = .ok (.aload_n 0, 1) := by decide +kernel
theorem dL_reads_1 : decode cL_reads 1 = .ok (.iconst 0, 1) := by decide +kernel
theorem dL_reads_2 : decode cL_reads 2 = .ok (.invokevirtual 51, 3) := by decide +kernel
theorem dL_reads_5 : decode cL_reads 5 = .ok (.istore_n 1, 1) := by decide +kernel
theorem dL_reads_6 : decode cL_reads 6 = .ok (.aload_n 0, 1) := by decide +kernel
theorem dL_reads_7 : decode cL_reads 7 = .ok (.iconst 1, 1) := by decide +kernel
theorem dL_reads_8 : decode cL_reads 8 = .ok (.invokevirtual 51, 3) := by decide +kernel
theorem dL_reads_11 : decode cL_reads 11 = .ok (.istore_n 2, 1) := by decide +kernel
theorem dL_reads_12 : decode cL_reads 12 = .ok (.aload_n 0, 1) := by decide +kernel
theorem dL_reads_13 : decode cL_reads 13 = .ok (.bipush 12, 2) := by decide +kernel
theorem dL_reads_15 : decode cL_reads 15 = .ok (.invokevirtual 13, 3) := by decide +kernel
theorem dL_reads_18 : decode cL_reads 18 = .ok (.istore_n 3, 1) := by decide +kernel
theorem dL_reads_19 : decode cL_reads 19 = .ok (.aload_n 0, 1) := by decide +kernel
theorem dL_reads_20 : decode cL_reads 20 = .ok (.invokevirtual 54, 3) := by decide +kernel
theorem dL_reads_23 : decode cL_reads 23 = .ok (.istore 4, 2) := by decide +kernel
theorem dL_reads_25 : decode cL_reads 25 = .ok (.iload_n 1, 1) := by decide +kernel
theorem dL_reads_26 : decode cL_reads 26 = .ok (.bipush (-4), 2) := by decide +kernel
theorem dL_reads_28 : decode cL_reads 28 = .ok (.if_icmp .ne 26, 3) := by decide +kernel
theorem dL_reads_31 : decode cL_reads 31 = .ok (.iload_n 2, 1) := by decide +kernel
theorem dL_reads_32 : decode cL_reads 32 = .ok (.bipush (-4), 2) := by decide +kernel
theorem dL_reads_34 : decode cL_reads 34 = .ok (.if_icmp .ne 20, 3) := by decide +kernel
theorem dL_reads_37 : decode cL_reads 37 = .ok (.iload 4, 2) := by decide +kernel
theorem dL_reads_39 : decode cL_reads 39 = .ok (.ifCond .lt 15, 3) := by decide +kernel
theorem dL_reads_42 : decode cL_reads 42 = .ok (.iload 4, 2) := by decide +kernel
theorem dL_reads_44 : decode cL_reads 44 = .ok (.iload_n 3, 1) := by decide +kernel
theorem dL_reads_45 : decode cL_reads 45 = .ok (.iconst 3, 1) := by decide +kernel
theorem dL_reads_46 : decode cL_reads 46 = .ok (.idiv, 1) := by decide +kernel
theorem dL_reads_47 : decode cL_reads 47 = .ok (.if_icmp .gt 7, 3) := by decide +kernel
theorem dL_reads_50 : decode cL_reads 50 = .ok (.iconst 1, 1) := by decide +kernel
theorem dL_reads_51 : decode cL_reads 51 = .ok (.goto 4, 3) := by decide +kernel
theorem dL_reads_54 : decode cL_reads 54 = .ok (.iconst 0, 1) := by decide +kernel
theorem dL_reads_55 : decode cL_reads 55 = .ok (.istore 5, 2) := by decide +kernel
theorem dL_reads_57 : decode cL_reads 57 = .ok (.iload_n 1, 1) := by decide +kernel
theorem dL_reads_58 : decode cL_reads 58 = .ok (.ifCond .lt 28, 3) := by decide +kernel
theorem dL_reads_61 : decode cL_reads 61 = .ok (.iload_n 1, 1) := by decide +kernel
theorem dL_reads_62 : decode cL_reads 62 = .ok (.iload_n 3, 1) := by decide +kernel
theorem dL_reads_63 : decode cL_reads 63 = .ok (.if_icmp .ge 23, 3) := by decide +kernel
theorem dL_reads_66 : decode cL_reads 66 = .ok (.iload_n 2, 1) := by decide +kernel
theorem dL_reads_67 : decode cL_reads 67 = .ok (.ifCond .le 19, 3) := by decide +kernel
theorem dL_reads_70 : decode cL_reads 70 = .ok (.iload_n 2, 1) := by decide +kernel
theorem dL_reads_71 : decode cL_reads 71 = .ok (.iconst 4, 1) := by decide +kernel
theorem dL_reads_72 : decode cL_reads 72 = .ok (.if_icmp .ge 14, 3) := by decide +kernel
theorem dL_reads_75 : decode cL_reads 75 = .ok (.iload 4, 2) := by decide +kernel
theorem dL_reads_77 : decode cL_reads 77 = .ok (.bipush (-2), 2) := by decide +kernel
theorem dL_reads_79 : decode cL_reads 79 = .ok (.if_icmp .ne 7, 3) := by decide +kernel
theorem dL_reads_82 : decode cL_reads 82 = .ok (.iconst 1, 1) := by decide +kernel
theorem dL_reads_83 : decode cL_reads 83 = .ok (.goto 4, 3) := by decide +kernel
theorem dL_reads_86 : decode cL_reads 86 = .ok (.iconst 0, 1) := by decide +kernel
theorem dL_reads_87 : decode cL_reads 87 = .ok (.istore 6, 2) := by decide +kernel
theorem dL_reads_89 : decode cL_reads 89 = .ok (.iload 5, 2) := by decide +kernel
theorem dL_reads_91 : decode cL_reads 91 = .ok (.ifCond .ne 8, 3) := by decide +kernel
theorem dL_reads_94 : decode cL_reads 94 = .ok (.iload 6, 2) := by decide +kernel
theorem dL_reads_96 : decode cL_reads 96 = .ok (.ifCond .eq 17, 3) := by decide +kernel
theorem dL_reads_99 : decode cL_reads 99 = .ok (.aload_n 0, 1) := by decide +kernel
theorem dL_reads_100 : decode cL_reads 100 = .ok (.bipush 12, 2) := by decide +kernel
theorem dL_reads_102 : decode cL_reads 102 = .ok (.invokevirtual 13, 3) := by decide +kernel
theorem dL_reads_105 : decode cL_reads 105 = .ok (.iload_n 3, 1) := by decide +kernel
theorem dL_reads_106 : decode cL_reads 106 = .ok (.if_icmp .ne 7, 3) := by decide +kernel
theorem dL_reads_109 : decode cL_reads 109 = .ok (.iconst 1, 1) := by decide +kernel
theorem dL_reads_110 : decode cL_reads 110 = .ok (.goto 4, 3) := by decide +kernel
theorem dL_reads_113 : decode cL_reads 113 = .ok (.iconst 0, 1) := by decide +kernel
theorem dL_reads_114 : decode cL_reads 114 = .ok (.ireturn, 1) := by decide +kernel
set_option maxRecDepth 20000 in
theorem ggL_acts_L_low : GoodIn wsL_acts wsL_low := goodIn_r _ [4, 5] (by decide +kernel) (by decide +kernel)
set_option maxRecDepth 20000 in
theorem gL_acts_L_low : GoodIn wsL_acts (va_wsS RL 41 yL_low wsL_low) := goodIn_app (goodIn_of _ (by decide +kernel)) ggL_acts_L_low
set_option maxRecDepth 20000 in
theorem ggL_acts_X7_count : GoodIn wsL_acts wsX7_count := goodIn_r _ [10, 11, 12, 13, 14, 15, 16, 17, 18, 19, 20, 21, 22, 23, 24, 25, 26, 27, 28, 29, 30, 31, 32, 33, 34, 35, 36, 37, 38, 39, 40, 41, 42, 43, 44, 45, 46, 47, 48, 49, 50, 51, 52, 9, 53, 54, 55, 56, 57, 58, 59, 60, 415, 416, 417, 418, 419, 420, 421, 422, 423, 424, 425, 426, 427, 428, 429, 430, 431, 432, 433, 434, 435, 436, 437, 438, 439, 440, 441, 442, 443, 444, 445, 446] (by decide +kernel) (by decide +kernel)
set_option maxRecDepth 20000 in
theorem gL_acts_X7_count : GoodIn wsL_acts (wsV RL 13 RX7 yX7_count wsX7_count) := goodIn_app (goodIn_of _ (by decide +kernel)) ggL_acts_X7_count
set_option maxRecDepth 20000 in
theorem ggL_acts_X7_meal : GoodIn wsL_acts wsX7_meal := goodIn_r _ [64, 65, 66, 67, 9, 68, 69, 70, 71, 72, 73, 74, 57, 75, 76, 77, 78, 79, 59, 80, 81, 82, 83, 39, 84, 41, 51, 85, 86, 87, 88, 89, 90, 91, 92, 93, 94, 95, 96, 52, 53, 97, 98, 99, 100, 60, 47, 48, 49, 50, 101, 102, 103, 104, 105, 37, 38, 40, 106, 107, 108, 109, 110, 111, 112, 113, 114, 115, 116, 117, 118, 119, 120, 121, 122, 123, 124, 125, 126, 127, 128, 129, 130, 131, 132, 133, 134, 135, 11, 136, 137, 138, 17, 139, 19, 140, 141, 142, 143, 144, 145, 146, 415, 416, 417, 418, 419, 420, 421, 437, 438, 439, 440, 441, 442, 443, 444, 445, 446, 447, 448, 449, 450, 451, 422, 423, 424] (by decide +kernel) (by decide +kernel)
set_option maxRecDepth 20000 in
theorem gL_acts_X7_meal : GoodIn wsL_acts (wsV RL 57 RX7 yX7_meal wsX7_meal) := goodIn_app (goodIn_of _ (by decide +kernel)) ggL_acts_X7_meal
set_option maxRecDepth 20000 in
theorem ggL_acts_X7_locker : GoodIn wsL_acts wsX7_locker := goodIn_r _ [150, 65, 66, 67, 9, 68, 69, 70, 71, 72, 73, 74, 57, 75, 76, 77, 78, 79, 59, 80, 81, 82, 83, 39, 84, 41, 51, 151, 152, 153, 88, 154, 90, 52, 53, 113, 114, 115, 116, 117, 118, 119, 120, 121, 122, 123, 124, 125, 50, 132, 133, 134, 135, 11, 136, 137, 138, 17, 139, 19, 140, 141, 142, 143, 144, 145, 146, 415, 416, 417, 418, 419, 420, 421, 437, 438, 439, 440, 441, 442, 443, 444, 445, 446, 447, 448, 449, 450, 451, 422, 423, 424] (by decide +kernel) (by decide +kernel)
set_option maxRecDepth 20000 in
theorem gL_acts_X7_locker : GoodIn wsL_acts (wsV RL 61 RX7 yX7_locker wsX7_locker) := goodIn_app (goodIn_of _ (by decide +kernel)) ggL_acts_X7_locker
set_option maxRecDepth 20000 in
theorem ggL_acts_X7_person : GoodIn wsL_acts wsX7_person := goodIn_r _ [158, 65, 66, 67, 9, 68, 69, 70, 71, 72, 73, 74, 57, 75, 76, 77, 78, 79, 59, 80, 81, 82, 83, 39, 84, 41, 51, 159, 160, 161, 88, 162, 163, 52, 53, 113, 114, 115, 116, 117, 118, 119, 120, 121, 122, 123, 124, 125, 50, 132, 133, 134, 135, 11, 136, 137, 138, 17, 139, 19, 140, 141, 142, 143, 144, 145, 146, 415, 416, 417, 418, 419, 420, 421, 437, 438, 439, 440, 441, 442, 443, 444, 445, 446, 447, 448, 449, 450, 451, 422, 423, 424] (by decide +kernel) (by decide +kernel)
set_option maxRecDepth 20000 in
theorem gL_acts_X7_person : GoodIn wsL_acts (wsV RL 64 RX7 yX7_person wsX7_person) := goodIn_app (goodIn_of _ (by decide +kernel)) ggL_acts_X7_person
set_option maxRecDepth 20000 in
theorem ggL_acts_X7_volunteer : GoodIn wsL_acts wsX7_volunteer := goodIn_r _ [167, 65, 66, 67, 9, 68, 69, 70, 71, 72, 73, 74, 57, 75, 76, 77, 78, 79, 59, 80, 81, 82, 83, 39, 84, 41, 51, 168, 169, 170, 88, 171, 90, 172, 93, 94, 95, 96, 52, 53, 113, 114, 115, 116, 117, 118, 119, 120, 121, 122, 123, 124, 125, 50, 132, 133, 134, 135, 11, 136, 137, 138, 17, 139, 19, 140, 141, 142, 143, 144, 145, 146, 415, 416, 417, 418, 419, 420, 421, 437, 438, 439, 440, 441, 442, 443, 444, 445, 446, 447, 448, 449, 450, 451, 422, 423, 424] (by decide +kernel) (by decide +kernel)
set_option maxRecDepth 20000 in
theorem gL_acts_X7_volunteer : GoodIn wsL_acts (wsV RL 67 RX7 yX7_volunteer wsX7_volunteer) := goodIn_app (goodIn_of _ (by decide +kernel)) ggL_acts_X7_volunteer
set_option maxRecDepth 20000 in
theorem ggL_acts_X7_mealOf : GoodIn wsL_acts wsX7_mealOf := goodIn_r _ [176, 13, 177, 178, 179, 29, 180, 32, 181, 94, 95, 39, 96, 41, 52, 9, 53, 46, 47, 48, 49, 50, 51, 182, 183, 184, 415, 416, 417, 418, 419, 420, 421, 432, 433, 434, 435, 436, 443, 444, 445, 446] (by decide +kernel) (by decide +kernel)
set_option maxRecDepth 20000 in
theorem gL_acts_X7_mealOf : GoodIn wsL_acts (wsV RL 23 RX7 yX7_mealOf wsX7_mealOf) := goodIn_app (goodIn_of _ (by decide +kernel)) ggL_acts_X7_mealOf
set_option maxRecDepth 20000 in
theorem ggL_acts_X7_personOf : GoodIn wsL_acts wsX7_personOf := goodIn_r _ [188, 13, 189, 190, 191, 29, 192, 33, 35, 181, 94, 95, 39, 96, 41, 52, 9, 53, 193, 194, 195, 57, 196, 78, 80, 197, 198, 199, 200, 60, 47, 48, 49, 50, 51, 201, 202, 203, 204, 77, 105, 37, 38, 40, 46, 415, 416, 417, 418, 419, 420, 421, 432, 433, 434, 435, 436, 443, 444, 445, 446, 437, 438, 439, 440, 441, 442] (by decide +kernel) (by decide +kernel)
set_option maxRecDepth 20000 in
theorem gL_acts_X7_personOf : GoodIn wsL_acts (wsV RL 26 RX7 yX7_personOf wsX7_personOf) := goodIn_app (goodIn_of _ (by decide +kernel)) ggL_acts_X7_personOf
set_option maxRecDepth 20000 in
theorem ggL_acts_X7_reserve : GoodIn wsL_acts wsX7_reserve := goodIn_r _ [208, 65, 66, 67, 9, 68, 69, 70, 71, 72, 73, 74, 57, 75, 76, 77, 78, 79, 59, 80, 81, 82, 83, 39, 84, 41, 51, 209, 210, 211, 88, 212, 163, 92, 91, 93, 94, 95, 96, 213, 214, 215, 216, 60, 47, 48, 49, 50, 217, 194, 195, 196, 197, 198, 199, 200, 218, 202, 203, 204, 105, 37, 38, 40, 122, 123, 124, 125, 132, 133, 134, 135, 11, 136, 137, 138, 17, 139, 19, 140, 141, 142, 143, 144, 145, 146, 415, 416, 417, 418, 419, 420, 421, 437, 438, 439, 440, 441, 442, 443, 444, 445, 446, 447, 448, 449, 450, 451, 422, 423, 424] (by decide +kernel) (by decide +kernel)
set_option maxRecDepth 20000 in
theorem gL_acts_X7_reserve : GoodIn wsL_acts (wsV RL 70 RX7 yX7_reserve wsX7_reserve) := goodIn_app (goodIn_of _ (by decide +kernel)) ggL_acts_X7_reserve
set_option maxRecDepth 20000 in
theorem ggL_acts_X7_fetch : GoodIn wsL_acts wsX7_fetch := goodIn_r _ [222, 65, 66, 67, 9, 68, 69, 70, 71, 72, 73, 74, 57, 75, 76, 77, 78, 79, 59, 80, 81, 82, 83, 39, 84, 41, 51, 223, 224, 225, 88, 226, 90, 92, 163, 93, 94, 95, 96, 52, 53, 227, 228, 229, 230, 231, 37, 38, 40, 232, 47, 48, 49, 50, 122, 123, 124, 125, 126, 127, 128, 129, 130, 131, 132, 133, 134, 135, 11, 136, 137, 138, 17, 139, 19, 140, 141, 142, 143, 144, 145, 146, 415, 416, 417, 418, 419, 420, 421, 437, 438, 439, 440, 441, 442, 443, 444, 445, 446, 447, 448, 449, 450, 451, 422, 423, 424] (by decide +kernel) (by decide +kernel)
set_option maxRecDepth 20000 in
theorem gL_acts_X7_fetch : GoodIn wsL_acts (wsV RL 73 RX7 yX7_fetch wsX7_fetch) := goodIn_app (goodIn_of _ (by decide +kernel)) ggL_acts_X7_fetch
set_option maxRecDepth 20000 in
theorem ggL_acts_X7_volunteerOf : GoodIn wsL_acts wsX7_volunteerOf := goodIn_r _ [236, 13, 237, 238, 239, 29, 240, 34, 35, 181, 94, 95, 39, 96, 41, 52, 9, 53, 241, 242, 243, 57, 244, 77, 105, 37, 38, 40, 60, 47, 48, 49, 50, 51, 245, 246, 247, 248, 79, 80, 197, 198, 199, 200, 46, 415, 416, 417, 418, 419, 420, 421, 432, 433, 434, 435, 436, 443, 444, 445, 446, 437, 438, 439, 440, 441, 442] (by decide +kernel) (by decide +kernel)
set_option maxRecDepth 20000 in
theorem gL_acts_X7_volunteerOf : GoodIn wsL_acts (wsV RL 29 RX7 yX7_volunteerOf wsX7_volunteerOf) := goodIn_app (goodIn_of _ (by decide +kernel)) ggL_acts_X7_volunteerOf
set_option maxRecDepth 20000 in
theorem ggL_acts_X7_take : GoodIn wsL_acts wsX7_take := goodIn_r _ [252, 65, 66, 67, 9, 68, 69, 70, 71, 72, 73, 74, 57, 75, 76, 77, 78, 79, 59, 80, 81, 82, 83, 39, 84, 41, 51, 253, 254, 255, 88, 256, 172, 92, 91, 90, 93, 94, 95, 96, 232, 47, 48, 49, 50, 257, 242, 243, 244, 105, 37, 38, 40, 60, 258, 107, 108, 109, 110, 111, 112, 259, 246, 247, 248, 197, 198, 199, 200, 122, 123, 124, 125, 126, 127, 128, 129, 130, 131, 132, 133, 134, 135, 11, 136, 137, 138, 17, 139, 19, 140, 141, 142, 143, 144, 145, 146, 415, 416, 417, 418, 419, 420, 421, 437, 438, 439, 440, 441, 442, 443, 444, 445, 446, 447, 448, 449, 450, 451, 422, 423, 424] (by decide +kernel) (by decide +kernel)
set_option maxRecDepth 20000 in
theorem gL_acts_X7_take : GoodIn wsL_acts (wsV RL 76 RX7 yX7_take wsX7_take) := goodIn_app (goodIn_of _ (by decide +kernel)) ggL_acts_X7_take
set_option maxRecDepth 20000 in
theorem ggL_acts_X7_go : GoodIn wsL_acts wsX7_go := goodIn_r _ [263, 65, 66, 67, 9, 68, 69, 70, 71, 72, 73, 74, 57, 75, 76, 77, 78, 79, 59, 80, 81, 82, 83, 39, 84, 41, 51, 264, 265, 266, 88, 267, 172, 90, 91, 93, 94, 95, 96, 232, 47, 48, 49, 50, 259, 246, 247, 248, 197, 198, 199, 200, 60, 268, 269, 270, 271, 272, 273, 274, 275, 55, 56, 58, 122, 123, 124, 125, 132, 133, 134, 135, 11, 136, 137, 138, 17, 139, 19, 140, 141, 142, 143, 144, 145, 146, 415, 416, 417, 418, 419, 420, 421, 437, 438, 439, 440, 441, 442, 443, 444, 445, 446, 447, 448, 449, 450, 451, 422, 423, 424] (by decide +kernel) (by decide +kernel)
set_option maxRecDepth 20000 in
theorem gL_acts_X7_go : GoodIn wsL_acts (wsV RL 79 RX7 yX7_go wsX7_go) := goodIn_app (goodIn_of _ (by decide +kernel)) ggL_acts_X7_go
set_option maxRecDepth 20000 in
theorem ggL_acts_X7_put : GoodIn wsL_acts wsX7_put := goodIn_r _ [279, 65, 66, 67, 9, 68, 69, 70, 71, 72, 73, 74, 57, 75, 76, 77, 78, 79, 59, 80, 81, 82, 83, 39, 84, 41, 51, 280, 281, 282, 88, 283, 172, 91, 93, 94, 95, 96, 259, 246, 247, 248, 197, 198, 199, 200, 60, 47, 48, 49, 50, 284, 285, 286, 287, 92, 90, 232, 97, 98, 99, 100, 101, 102, 103, 104, 105, 37, 38, 40, 106, 107, 108, 109, 110, 111, 112, 231, 122, 123, 124, 125, 126, 127, 128, 129, 130, 131, 132, 133, 134, 135, 11, 136, 137, 138, 17, 139, 19, 140, 141, 142, 143, 144, 145, 146, 415, 416, 417, 418, 419, 420, 421, 437, 438, 439, 440, 441, 442, 443, 444, 445, 446, 447, 448, 449, 450, 451, 422, 423, 424] (by decide +kernel) (by decide +kernel)
set_option maxRecDepth 20000 in
theorem gL_acts_X7_put : GoodIn wsL_acts (wsV RL 82 RX7 yX7_put wsX7_put) := goodIn_app (goodIn_of _ (by decide +kernel)) ggL_acts_X7_put
set_option maxRecDepth 20000 in
theorem ggL_acts_X7_set : GoodIn wsL_acts wsX7_set := goodIn_r _ [291, 65, 66, 67, 9, 68, 69, 70, 71, 72, 73, 74, 57, 75, 76, 77, 78, 79, 59, 80, 81, 82, 83, 39, 84, 41, 51, 292, 293, 294, 88, 295, 91, 52, 53, 296, 55, 56, 58, 60, 47, 48, 49, 50, 122, 123, 124, 125, 132, 133, 134, 135, 11, 136, 137, 138, 17, 139, 19, 140, 141, 142, 143, 144, 145, 146, 415, 416, 417, 418, 419, 420, 421, 437, 438, 439, 440, 441, 442, 443, 444, 445, 446, 447, 448, 449, 450, 451, 422, 423, 424] (by decide +kernel) (by decide +kernel)
set_option maxRecDepth 20000 in
theorem gL_acts_X7_set : GoodIn wsL_acts (wsV RL 85 RX7 yX7_set wsX7_set) := goodIn_app (goodIn_of _ (by decide +kernel)) ggL_acts_X7_set
set_option maxRecDepth 20000 in
theorem ggL_acts_X7_pass : GoodIn wsL_acts wsX7_pass := goodIn_r _ [300, 65, 66, 67, 9, 68, 69, 70, 71, 72, 73, 74, 57, 75, 76, 77, 78, 79, 59, 80, 81, 82, 83, 39, 84, 41, 51, 301, 302, 303, 88, 304, 91, 172, 52, 53, 305, 306, 307, 308, 92, 309, 198, 199, 200, 231, 37, 38, 40, 232, 47, 48, 49, 50, 310, 311, 312, 313, 60, 122, 123, 124, 125, 314, 315, 316, 317, 90, 126, 127, 128, 129, 130, 131, 318, 319, 320, 321, 284, 285, 286, 287, 97, 98, 99, 100, 101, 102, 103, 104, 105, 106, 107, 108, 109, 110, 111, 112, 322, 323, 324, 325, 296, 55, 56, 58, 326, 327, 328, 329, 163, 132, 133, 134, 135, 11, 136, 137, 138, 17, 139, 19, 140, 141, 142, 143, 144, 145, 146, 415, 416, 417, 418, 419, 420, 421, 437, 438, 439, 440, 441, 442, 443, 444, 445, 446, 447, 448, 449, 450, 451, 422, 423, 424] (by decide +kernel) (by decide +kernel)
set_option maxRecDepth 20000 in
theorem gL_acts_X7_pass : GoodIn wsL_acts (wsV RL 88 RX7 yX7_pass wsX7_pass) := goodIn_app (goodIn_of _ (by decide +kernel)) ggL_acts_X7_pass
set_option maxRecDepth 20000 in
theorem ggL_acts_L_types : GoodIn wsL_acts wsL_types := goodIn_r _ [332, 1, 2, 3, 4, 5, 333, 334, 335, 9, 336, 12, 337, 338, 339, 23, 340, 25, 6, 7, 8, 10, 11, 13, 14, 15, 16, 17, 18, 19, 20, 21, 22, 24, 26, 27, 28, 29, 30, 31, 32, 33, 34, 35, 36, 37, 38, 39, 40, 41, 42, 43, 44, 45, 46, 47, 48, 49, 50, 51, 52, 53, 54, 55, 56, 57, 58, 59, 60, 173, 174, 175, 176, 177, 178, 179, 180, 181, 94, 95, 96, 182, 183, 184, 341, 342, 343, 344, 345, 346, 347, 348, 349, 350, 351, 352, 415, 416, 417, 418, 419, 420, 421, 425, 426, 427, 428, 429, 430, 431, 422, 423, 424, 432, 433, 434, 435, 436, 437, 438, 439, 440, 441, 442, 443, 444, 445, 446] (by decide +kernel) (by decide +kernel)
set_option maxRecDepth 20000 in
theorem gL_acts_L_types : GoodIn wsL_acts (va_wsS RL 91 yL_types wsL_types) := goodIn_app (goodIn_of _ (by decide +kernel)) ggL_acts_L_types
set_option maxRecDepth 20000 in
theorem ggL_acts_L_reads : GoodIn wsL_acts wsL_reads := goodIn_r _ [355, 356, 357, 358, 9, 359, 360, 65, 66, 67, 68, 69, 70, 71, 72, 73, 74, 57, 75, 76, 77, 78, 79, 59, 80, 81, 82, 83, 39, 84, 41, 51, 361, 362, 363, 364, 365, 366, 367, 368, 369, 21, 22, 23, 24, 25, 370, 371, 372, 373, 374, 375, 376, 377, 378, 379, 380, 381, 382, 349, 383, 384, 385, 386, 387, 388, 389, 52, 53, 390, 391, 392, 393, 394, 395, 396, 397, 398, 210, 211, 88, 212, 163, 92, 91, 93, 94, 95, 96, 213, 214, 215, 216, 60, 47, 48, 49, 50, 217, 194, 195, 196, 197, 198, 199, 200, 218, 202, 203, 204, 105, 37, 38, 40, 122, 123, 124, 125, 399, 224, 225, 226, 90, 227, 228, 229, 230, 231, 232, 126, 127, 128, 129, 130, 131, 400, 254, 255, 256, 172, 257, 242, 243, 244, 258, 107, 108, 109, 110, 111, 112, 259, 246, 247, 248, 401, 265, 266, 267, 268, 269, 270, 271, 272, 273, 274, 275, 55, 56, 58, 402, 281, 282, 283, 284, 285, 286, 287, 97, 98, 99, 100, 101, 102, 103, 104, 106, 403, 302, 303, 304, 305, 306, 307, 308, 309, 310, 311, 312, 313, 314, 315, 316, 317, 318, 319, 320, 321, 322, 323, 324, 325, 296, 326, 327, 328, 329, 404, 405, 406, 407, 408, 409, 410, 6, 7, 8, 10, 11, 12, 13, 14, 15, 16, 17, 18, 19, 20, 26, 27, 28, 29, 30, 31, 32, 33, 34, 35, 36, 42, 43, 44, 45, 46, 54, 411, 412, 413, 414, 132, 133, 134, 135, 136, 137, 138, 139, 140, 141, 142, 143, 144, 145, 146, 415, 416, 417, 418, 419, 420, 421, 437, 438, 439, 440, 441, 442, 443, 444, 445, 446, 452, 453, 454, 425, 426, 427, 428, 429, 430, 431, 447, 448, 449, 450, 451, 422, 423, 424, 432, 433, 434, 435, 436] (by decide +kernel) (by decide +kernel)
set_option maxRecDepth 20000 in
theorem gL_acts_L_reads : GoodIn wsL_acts (va_wsS RL 94 yL_reads wsL_reads) := goodIn_app (goodIn_of _ (by decide +kernel)) ggL_acts_L_reads
theorem dL_acts_0 : decode cL_acts 0 = .ok (.iload_n 1, 1) := by decide +kernel
theorem dL_acts_1 : decode cL_acts 1 = .ok (.bipush 16, 2) := by decide +kernel
theorem dL_acts_3 : decode cL_acts 3 = .ok (.invokestatic 41, 3) := by decide +kernel
theorem dL_acts_6 : decode cL_acts 6 = .ok (.istore_n 3, 1) := by decide +kernel
theorem dL_acts_7 : decode cL_acts 7 = .ok (.aload_n 0, 1) := by decide +kernel
theorem dL_acts_8 : decode cL_acts 8 = .ok (.iconst 0, 1) := by decide +kernel
theorem dL_acts_9 : decode cL_acts 9 = .ok (.invokevirtual 13, 3) := by decide +kernel
theorem dL_acts_12 : decode cL_acts 12 = .ok (.istore 4, 2) := by decide +kernel
theorem dL_acts_14 : decode cL_acts 14 = .ok (.aload_n 0, 1) := by decide +kernel
theorem dL_acts_15 : decode cL_acts 15 = .ok (.iconst 1, 1) := by decide +kernel
theorem dL_acts_16 : decode cL_acts 16 = .ok (.invokevirtual 13, 3) := by decide +kernel
theorem dL_acts_19 : decode cL_acts 19 = .ok (.istore 5, 2) := by decide +kernel
theorem dL_acts_21 : decode cL_acts 21 = .ok (.aload_n 0, 1) := by decide +kernel
theorem dL_acts_22 : decode cL_acts 22 = .ok (.iconst 2, 1) := by decide +kernel
theorem dL_acts_23 : decode cL_acts 23 = .ok (.invokevirtual 13, 3) := by decide +kernel
theorem dL_acts_26 : decode cL_acts 26 = .ok (.istore 6, 2) := by decide +kernel
theorem dL_acts_28 : decode cL_acts 28 = .ok (.aload_n 0, 1) := by decide +kernel
theorem dL_acts_29 : decode cL_acts 29 = .ok (.iconst 3, 1) := by decide +kernel
theorem dL_acts_30 : decode cL_acts 30 = .ok (.invokevirtual 13, 3) := by decide +kernel
theorem dL_acts_33 : decode cL_acts 33 = .ok (.istore 7, 2) := by decide +kernel
theorem dL_acts_35 : decode cL_acts 35 = .ok (.iload_n 1, 1) := by decide +kernel
theorem dL_acts_36 : decode cL_acts 36 = .ok (.iconst 5, 1) := by decide +kernel
theorem dL_acts_37 : decode cL_acts 37 = .ok (.ishr, 1) := by decide +kernel
theorem dL_acts_38 : decode cL_acts 38 = .ok (.iload 4, 2) := by decide +kernel
theorem dL_acts_40 : decode cL_acts 40 = .ok (.iconst 1, 1) := by decide +kernel
theorem dL_acts_41 : decode cL_acts 41 = .ok (.iadd, 1) := by decide +kernel
theorem dL_acts_42 : decode cL_acts 42 = .ok (.invokestatic 41, 3) := by decide +kernel
theorem dL_acts_45 : decode cL_acts 45 = .ok (.istore 8, 2) := by decide +kernel
theorem dL_acts_47 : decode cL_acts 47 = .ok (.iload_n 1, 1) := by decide +kernel
theorem dL_acts_48 : decode cL_acts 48 = .ok (.bipush 8, 2) := by decide +kernel
theorem dL_acts_50 : decode cL_acts 50 = .ok (.ishr, 1) := by decide +kernel
theorem dL_acts_51 : decode cL_acts 51 = .ok (.iload 5, 2) := by decide +kernel
theorem dL_acts_53 : decode cL_acts 53 = .ok (.iconst 1, 1) := by decide +kernel
theorem dL_acts_54 : decode cL_acts 54 = .ok (.iadd, 1) := by decide +kernel
theorem dL_acts_55 : decode cL_acts 55 = .ok (.invokestatic 41, 3) := by decide +kernel
theorem dL_acts_58 : decode cL_acts 58 = .ok (.istore 9, 2) := by decide +kernel
theorem dL_acts_60 : decode cL_acts 60 = .ok (.iload_n 1, 1) := by decide +kernel
theorem dL_acts_61 : decode cL_acts 61 = .ok (.bipush 13, 2) := by decide +kernel
theorem dL_acts_63 : decode cL_acts 63 = .ok (.ishr, 1) := by decide +kernel
theorem dL_acts_64 : decode cL_acts 64 = .ok (.iload 6, 2) := by decide +kernel
theorem dL_acts_66 : decode cL_acts 66 = .ok (.iconst 1, 1) := by decide +kernel
theorem dL_acts_67 : decode cL_acts 67 = .ok (.iadd, 1) := by decide +kernel
theorem dL_acts_68 : decode cL_acts 68 = .ok (.invokestatic 41, 3) := by decide +kernel
theorem dL_acts_71 : decode cL_acts 71 = .ok (.istore 10, 2) := by decide +kernel
theorem dL_acts_73 : decode cL_acts 73 = .ok (.iload_n 1, 1) := by decide +kernel
theorem dL_acts_74 : decode cL_acts 74 = .ok (.bipush 17, 2) := by decide +kernel
theorem dL_acts_76 : decode cL_acts 76 = .ok (.ishr, 1) := by decide +kernel
theorem dL_acts_77 : decode cL_acts 77 = .ok (.iload 7, 2) := by decide +kernel
theorem dL_acts_79 : decode cL_acts 79 = .ok (.iconst 1, 1) := by decide +kernel
theorem dL_acts_80 : decode cL_acts 80 = .ok (.iadd, 1) := by decide +kernel
theorem dL_acts_81 : decode cL_acts 81 = .ok (.invokestatic 41, 3) := by decide +kernel
theorem dL_acts_84 : decode cL_acts 84 = .ok (.istore 11, 2) := by decide +kernel
theorem dL_acts_86 : decode cL_acts 86 = .ok (.iload_n 3, 1) := by decide +kernel
theorem dL_acts_87 : decode cL_acts 87 = .ok (.iconst 3, 1) := by decide +kernel
theorem dL_acts_88 : decode cL_acts 88 = .ok (.if_icmp .ge 124, 3) := by decide +kernel
theorem dL_acts_91 : decode cL_acts 91 = .ok (.iload_n 2, 1) := by decide +kernel
theorem dL_acts_92 : decode cL_acts 92 = .ok (.bipush 45, 2) := by decide +kernel
theorem dL_acts_94 : decode cL_acts 94 = .ok (.invokestatic 41, 3) := by decide +kernel
theorem dL_acts_97 : decode cL_acts 97 = .ok (.istore 12, 2) := by decide +kernel
theorem dL_acts_99 : decode cL_acts 99 = .ok (.iload 8, 2) := by decide +kernel
theorem dL_acts_101 : decode cL_acts 101 = .ok (.iload 4, 2) := by decide +kernel
theorem dL_acts_103 : decode cL_acts 103 = .ok (.if_icmp .ge 11, 3) := by decide +kernel
theorem dL_acts_106 : decode cL_acts 106 = .ok (.aload_n 0, 1) := by decide +kernel
theorem dL_acts_107 : decode cL_acts 107 = .ok (.iconst 4, 1) := by decide +kernel
theorem dL_acts_108 : decode cL_acts 108 = .ok (.invokevirtual 13, 3) := by decide +kernel
theorem dL_acts_111 : decode cL_acts 111 = .ok (.goto 4, 3) := by decide +kernel
theorem dL_acts_114 : decode cL_acts 114 = .ok (.iconst 0, 1) := by decide +kernel
theorem dL_acts_115 : decode cL_acts 115 = .ok (.istore 13, 2) := by decide +kernel
theorem dL_acts_117 : decode cL_acts 117 = .ok (.iload_n 2, 1) := by decide +kernel
theorem dL_acts_118 : decode cL_acts 118 = .ok (.bipush 6, 2) := by decide +kernel
theorem dL_acts_120 : decode cL_acts 120 = .ok (.ishr, 1) := by decide +kernel
theorem dL_acts_121 : decode cL_acts 121 = .ok (.bipush 34, 2) := by decide +kernel
theorem dL_acts_123 : decode cL_acts 123 = .ok (.invokestatic 41, 3) := by decide +kernel
theorem dL_acts_126 : decode cL_acts 126 = .ok (.istore 14, 2) := by decide +kernel
