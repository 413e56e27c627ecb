theorem dX7_fault_0 : decode cX7_fault 0 = .ok (.aload_n 0, 1) := by decide +kernel
theorem dX7_fault_1 : decode cX7_fault 1 = .ok (.getfield 54, 3) := by decide +kernel
theorem dX7_fault_4 : decode cX7_fault 4 = .ok (.aload_n 0, 1) := by decide +kernel
theorem dX7_fault_5 : decode cX7_fault 5 = .ok (.invokevirtual 58, 3) := by decide +kernel
theorem dX7_fault_8 : decode cX7_fault 8 = .ok (.invokevirtual 146, 3) := by decide +kernel
theorem dX7_fault_11 : decode cX7_fault 11 = .ok (.pop, 1) := by decide +kernel
theorem dX7_fault_12 : decode cX7_fault 12 = .ok (.aload_n 0, 1) := by decide +kernel
theorem dX7_fault_13 : decode cX7_fault 13 = .ok (.getfield 54, 3) := by decide +kernel
theorem dX7_fault_16 : decode cX7_fault 16 = .ok (.iload_n 1, 1) := by decide +kernel
theorem dX7_fault_17 : decode cX7_fault 17 = .ok (.invokevirtual 150, 3) := by decide +kernel
theorem dX7_fault_20 : decode cX7_fault 20 = .ok (.ireturn, 1) := by decide +kernel
set_option maxRecDepth 20000 in
theorem ggX7_play_X7_onTrial : GoodIn wsX7_play wsX7_onTrial := goodIn_r _ [6, 7, 8, 9, 10, 11, 12, 13, 14, 15, 16, 17, 18, 19, 20, 21, 22, 23, 24, 25, 26, 27, 234, 235, 236, 237, 238, 239, 240, 241, 242, 243, 244, 245, 246, 247, 248, 249, 250] (by decide +kernel) (by decide +kernel)
set_option maxRecDepth 20000 in
theorem gX7_play_X7_onTrial : GoodIn wsX7_play (wsV RX7 58 RX7 yX7_onTrial wsX7_onTrial) := goodIn_app (goodIn_of _ (by decide +kernel)) ggX7_play_X7_onTrial
set_option maxRecDepth 20000 in
theorem ggX7_play_X2_playText : GoodIn wsX7_play wsX2_playText := goodIn_r _ [32, 33, 34, 35, 36, 37, 38, 39, 40, 41, 42, 43, 44, 45, 46, 47, 48, 49, 50, 51, 52, 53, 54, 55, 56, 57, 58, 59, 60, 61, 62, 63, 5, 64, 65, 66, 67, 68, 69, 70, 71, 31, 72, 73, 74, 75, 76, 77, 78, 79, 80, 81, 82, 83, 24, 84, 26, 85, 86, 87, 13, 88, 16, 17, 89, 90, 91, 92, 93, 27, 94, 95, 96, 97, 20, 98, 99, 100, 101, 102, 103, 104, 105, 106, 107, 108, 109, 110, 111, 112, 113, 114, 115, 116, 117, 118, 119, 120, 121, 122, 123, 124, 125, 126, 127, 128, 129, 130, 131, 132, 133, 134, 135, 136, 137, 138, 139, 140, 141, 142, 143, 144, 145, 146, 147, 148, 149, 150, 18, 151, 152, 153, 154, 155, 156, 157, 158, 159, 160, 161, 162, 163, 164, 165, 19, 166, 167, 168, 169, 170, 171, 172, 173, 174, 175, 176, 177, 15, 178, 179, 180, 181, 182, 183, 184, 185, 186, 187, 188, 189, 190, 191, 192, 193, 194, 195, 196, 197, 198, 199, 200, 201, 202, 203, 204, 205, 206, 207, 208, 209, 210, 211, 212, 213, 214, 215, 251, 252, 253, 254, 255, 256, 257, 258, 259, 260, 261, 262, 263, 264, 265, 241, 242, 243, 244, 245, 246, 247, 248, 249, 250] (by decide +kernel) (by decide +kernel)
set_option maxRecDepth 20000 in
theorem gX7_play_X2_playText : GoodIn wsX7_play (wsV RX7 146 RX2 yX2_playText wsX2_playText) := goodIn_app (goodIn_of _ (by decide +kernel)) ggX7_play_X2_playText
set_option maxRecDepth 20000 in
theorem ggX7_play_X7_settle : GoodIn wsX7_play wsX7_settle := goodIn_r _ [219, 220, 8, 7, 221, 222, 223, 224, 225, 226, 227, 228, 229, 230, 231, 232, 233, 11, 12, 13, 14, 15, 16, 17, 18, 19, 20, 21, 22, 23, 24, 25, 26, 27, 10, 234, 235, 236, 237, 238, 239, 240, 266, 267, 268, 241, 242, 243, 244, 245, 246, 247, 248, 249, 250] (by decide +kernel) (by decide +kernel)
set_option maxRecDepth 20000 in
theorem gX7_play_X7_settle : GoodIn wsX7_play (wsV RX7 66 RX7 yX7_settle wsX7_settle) := goodIn_app (goodIn_of _ (by decide +kernel)) ggX7_play_X7_settle
theorem dX7_play_0 : decode cX7_play 0 = .ok (.aload_n 0, 1) := by decide +kernel
theorem dX7_play_1 : decode cX7_play 1 = .ok (.aload_n 0, 1) := by decide +kernel
theorem dX7_play_2 : decode cX7_play 2 = .ok (.getfield 54, 3) := by decide +kernel
theorem dX7_play_5 : decode cX7_play 5 = .ok (.aload_n 0, 1) := by decide +kernel
theorem dX7_play_6 : decode cX7_play 6 = .ok (.invokevirtual 58, 3) := by decide +kernel
theorem dX7_play_9 : decode cX7_play 9 = .ok (.invokevirtual 146, 3) := by decide +kernel
theorem dX7_play_12 : decode cX7_play 12 = .ok (.invokevirtual 66, 3) := by decide +kernel
theorem dX7_play_15 : decode cX7_play 15 = .ok (.ireturn, 1) := by decide +kernel
set_option maxRecDepth 20000 in
theorem ggX7_onTrial_X4_copyFrom : GoodIn wsX7_onTrial wsX4_copyFrom := goodIn_r _ [8, 9, 10, 11, 12, 13, 14, 15, 16, 17, 18, 19, 20, 21, 29, 30, 31, 32, 33, 34, 35, 36, 37, 38] (by decide +kernel) (by decide +kernel)
set_option maxRecDepth 20000 in
theorem gX7_onTrial_X4_copyFrom : GoodIn wsX7_onTrial (wsV RX7 153 RX4 yX4_copyFrom wsX4_copyFrom) := goodIn_app (goodIn_of _ (by decide +kernel)) ggX7_onTrial_X4_copyFrom
theorem dX7_onTrial_0 : decode cX7_onTrial 0 = .ok (.aload_n 0, 1) := by decide +kernel
theorem dX7_onTrial_1 : decode cX7_onTrial 1 = .ok (.getfield 16, 3) := by decide +kernel
theorem dX7_onTrial_4 : decode cX7_onTrial 4 = .ok (.aload_n 0, 1) := by decide +kernel
theorem dX7_onTrial_5 : decode cX7_onTrial 5 = .ok (.getfield 10, 3) := by decide +kernel
theorem dX7_onTrial_8 : decode cX7_onTrial 8 = .ok (.invokevirtual 153, 3) := by decide +kernel
theorem dX7_onTrial_11 : decode cX7_onTrial 11 = .ok (.aload_n 0, 1) := by decide +kernel
theorem dX7_onTrial_12 : decode cX7_onTrial 12 = .ok (.getfield 24, 3) := by decide +kernel
theorem dX7_onTrial_15 : decode cX7_onTrial 15 = .ok (.areturn, 1) := by decide +kernel
set_option maxRecDepth 20000 in
theorem ggX7_settle_X1_keep : GoodIn wsX7_settle wsX1_keep := goodIn_r _ [8, 9, 10, 11, 12, 13, 7, 14, 15, 16, 17, 18, 19, 20, 21, 22, 23, 24, 25, 26, 27, 28, 29, 30, 31, 32, 33, 42, 43, 44, 45, 46, 47, 48, 49, 50, 51, 52, 53, 54] (by decide +kernel) (by decide +kernel)
set_option maxRecDepth 20000 in
theorem gX7_settle_X1_keep : GoodIn wsX7_settle (wsV RX7 156 RX1 yX1_keep wsX1_keep) := goodIn_app (goodIn_of _ (by decide +kernel)) ggX7_settle_X1_keep
set_option maxRecDepth 20000 in
theorem ggX7_settle_X4_copyFrom : GoodIn wsX7_settle wsX4_copyFrom := goodIn_r _ [20, 21, 22, 23, 24, 25, 26, 27, 28, 29, 30, 31, 32, 33, 45, 46, 47, 48, 49, 50, 51, 52, 53, 54] (by decide +kernel) (by decide +kernel)
set_option maxRecDepth 20000 in
theorem gX7_settle_X4_copyFrom : GoodIn wsX7_settle (wsV RX7 153 RX4 yX4_copyFrom wsX4_copyFrom) := goodIn_app (goodIn_of _ (by decide +kernel)) ggX7_settle_X4_copyFrom
theorem dX7_settle_0 : decode cX7_settle 0 = .ok (.iload_n 1, 1) := by decide +kernel
theorem dX7_settle_1 : decode cX7_settle 1 = .ok (.ifCond .lt 25, 3) := by decide +kernel
theorem dX7_settle_4 : decode cX7_settle 4 = .ok (.aload_n 0, 1) := by decide +kernel
theorem dX7_settle_5 : decode cX7_settle 5 = .ok (.getfield 38, 3) := by decide +kernel
theorem dX7_settle_8 : decode cX7_settle 8 = .ok (.aload_n 0, 1) := by decide +kernel
theorem dX7_settle_9 : decode cX7_settle 9 = .ok (.getfield 10, 3) := by decide +kernel
theorem dX7_settle_12 : decode cX7_settle 12 = .ok (.invokevirtual 156, 3) := by decide +kernel
theorem dX7_settle_15 : decode cX7_settle 15 = .ok (.aload_n 0, 1) := by decide +kernel
theorem dX7_settle_16 : decode cX7_settle 16 = .ok (.getfield 10, 3) := by decide +kernel
theorem dX7_settle_19 : decode cX7_settle 19 = .ok (.aload_n 0, 1) := by decide +kernel
theorem dX7_settle_20 : decode cX7_settle 20 = .ok (.getfield 16, 3) := by decide +kernel
theorem dX7_settle_23 : decode cX7_settle 23 = .ok (.invokevirtual 153, 3) := by decide +kernel
theorem dX7_settle_26 : decode cX7_settle 26 = .ok (.iload_n 1, 1) := by decide +kernel
theorem dX7_settle_27 : decode cX7_settle 27 = .ok (.ireturn, 1) := by decide +kernel
theorem dX7_isWithin_0 : decode cX7_isWithin 0 = .ok (.iload_n 0, 1) := by decide +kernel
theorem dX7_isWithin_1 : decode cX7_isWithin 1 = .ok (.iload_n 1, 1) := by decide +kernel
theorem dX7_isWithin_2 : decode cX7_isWithin 2 = .ok (.if_icmp .lt 12, 3) := by decide +kernel
theorem dX7_isWithin_5 : decode cX7_isWithin 5 = .ok (.iload_n 0, 1) := by decide +kernel
theorem dX7_isWithin_6 : decode cX7_isWithin 6 = .ok (.iload_n 2, 1) := by decide +kernel
theorem dX7_isWithin_7 : decode cX7_isWithin 7 = .ok (.if_icmp .gt 7, 3) := by decide +kernel
theorem dX7_isWithin_10 : decode cX7_isWithin 10 = .ok (.iconst 1, 1) := by decide +kernel
theorem dX7_isWithin_11 : decode cX7_isWithin 11 = .ok (.goto 4, 3) := by decide +kernel
theorem dX7_isWithin_14 : decode cX7_isWithin 14 = .ok (.iconst 0, 1) := by decide +kernel
theorem dX7_isWithin_15 : decode cX7_isWithin 15 = .ok (.ireturn, 1) := by decide +kernel
theorem dJ6_bitCount_0f7a4_0 : decode cJ6_bitCount_0f7a4 0 = .ok (.iload_n 0, 1) := by decide +kernel
theorem dJ6_bitCount_0f7a4_1 : decode cJ6_bitCount_0f7a4 1 = .ok (.iload_n 0, 1) := by decide +kernel
theorem dJ6_bitCount_0f7a4_2 : decode cJ6_bitCount_0f7a4 2 = .ok (.iconst 1, 1) := by decide +kernel
theorem dJ6_bitCount_0f7a4_3 : decode cJ6_bitCount_0f7a4 3 = .ok (.iushr, 1) := by decide +kernel
theorem dJ6_bitCount_0f7a4_4 : decode cJ6_bitCount_0f7a4 4 = .ok (.ldc_w 265, 3) := by decide +kernel
theorem dJ6_bitCount_0f7a4_7 : decode cJ6_bitCount_0f7a4 7 = .ok (.iand, 1) := by decide +kernel
theorem dJ6_bitCount_0f7a4_8 : decode cJ6_bitCount_0f7a4 8 = .ok (.isub, 1) := by decide +kernel
theorem dJ6_bitCount_0f7a4_9 : decode cJ6_bitCount_0f7a4 9 = .ok (.istore_n 0, 1) := by decide +kernel
theorem dJ6_bitCount_0f7a4_10 : decode cJ6_bitCount_0f7a4 10 = .ok (.iload_n 0, 1) := by decide +kernel
theorem dJ6_bitCount_0f7a4_11 : decode cJ6_bitCount_0f7a4 11 = .ok (.ldc_w 266, 3) := by decide +kernel
theorem dJ6_bitCount_0f7a4_14 : decode cJ6_bitCount_0f7a4 14 = .ok (.iand, 1) := by decide +kernel
theorem dJ6_bitCount_0f7a4_15 : decode cJ6_bitCount_0f7a4 15 = .ok (.iload_n 0, 1) := by decide +kernel
theorem dJ6_bitCount_0f7a4_16 : decode cJ6_bitCount_0f7a4 16 = .ok (.iconst 2, 1) := by decide +kernel
theorem dJ6_bitCount_0f7a4_17 : decode cJ6_bitCount_0f7a4 17 = .ok (.iushr, 1) := by decide +kernel
theorem dJ6_bitCount_0f7a4_18 : decode cJ6_bitCount_0f7a4 18 = .ok (.ldc_w 266, 3) := by decide +kernel
theorem dJ6_bitCount_0f7a4_21 : decode cJ6_bitCount_0f7a4 21 = .ok (.iand, 1) := by decide +kernel
theorem dJ6_bitCount_0f7a4_22 : decode cJ6_bitCount_0f7a4 22 = .ok (.iadd, 1) := by decide +kernel
theorem dJ6_bitCount_0f7a4_23 : decode cJ6_bitCount_0f7a4 23 = .ok (.istore_n 0, 1) := by decide +kernel
theorem dJ6_bitCount_0f7a4_24 : decode cJ6_bitCount_0f7a4 24 = .ok (.iload_n 0, 1) := by decide +kernel
theorem dJ6_bitCount_0f7a4_25 : decode cJ6_bitCount_0f7a4 25 = .ok (.iload_n 0, 1) := by decide +kernel
theorem dJ6_bitCount_0f7a4_26 : decode cJ6_bitCount_0f7a4 26 = .ok (.iconst 4, 1) := by decide +kernel
theorem dJ6_bitCount_0f7a4_27 : decode cJ6_bitCount_0f7a4 27 = .ok (.iushr, 1) := by decide +kernel
theorem dJ6_bitCount_0f7a4_28 : decode cJ6_bitCount_0f7a4 28 = .ok (.iadd, 1) := by decide +kernel
theorem dJ6_bitCount_0f7a4_29 : decode cJ6_bitCount_0f7a4 29 = .ok (.ldc_w 267, 3) := by decide +kernel
theorem dJ6_bitCount_0f7a4_32 : decode cJ6_bitCount_0f7a4 32 = .ok (.iand, 1) := by decide +kernel
theorem dJ6_bitCount_0f7a4_33 : decode cJ6_bitCount_0f7a4 33 = .ok (.istore_n 0, 1) := by decide +kernel
theorem dJ6_bitCount_0f7a4_34 : decode cJ6_bitCount_0f7a4 34 = .ok (.iload_n 0, 1) := by decide +kernel
theorem dJ6_bitCount_0f7a4_35 : decode cJ6_bitCount_0f7a4 35 = .ok (.iload_n 0, 1) := by decide +kernel
theorem dJ6_bitCount_0f7a4_36 : decode cJ6_bitCount_0f7a4 36 = .ok (.bipush 8, 2) := by decide +kernel
theorem dJ6_bitCount_0f7a4_38 : decode cJ6_bitCount_0f7a4 38 = .ok (.iushr, 1) := by decide +kernel
theorem dJ6_bitCount_0f7a4_39 : decode cJ6_bitCount_0f7a4 39 = .ok (.iadd, 1) := by decide +kernel
theorem dJ6_bitCount_0f7a4_40 : decode cJ6_bitCount_0f7a4 40 = .ok (.istore_n 0, 1) := by decide +kernel
theorem dJ6_bitCount_0f7a4_41 : decode cJ6_bitCount_0f7a4 41 = .ok (.iload_n 0, 1) := by decide +kernel
theorem dJ6_bitCount_0f7a4_42 : decode cJ6_bitCount_0f7a4 42 = .ok (.iload_n 0, 1) := by decide +kernel
theorem dJ6_bitCount_0f7a4_43 : decode cJ6_bitCount_0f7a4 43 = .ok (.bipush 16, 2) := by decide +kernel
theorem dJ6_bitCount_0f7a4_45 : decode cJ6_bitCount_0f7a4 45 = .ok (.iushr, 1) := by decide +kernel
theorem dJ6_bitCount_0f7a4_46 : decode cJ6_bitCount_0f7a4 46 = .ok (.iadd, 1) := by decide +kernel
theorem dJ6_bitCount_0f7a4_47 : decode cJ6_bitCount_0f7a4 47 = .ok (.istore_n 0, 1) := by decide +kernel
theorem dJ6_bitCount_0f7a4_48 : decode cJ6_bitCount_0f7a4 48 = .ok (.iload_n 0, 1) := by decide +kernel
theorem dJ6_bitCount_0f7a4_49 : decode cJ6_bitCount_0f7a4 49 = .ok (.bipush 63, 2) := by decide +kernel
theorem dJ6_bitCount_0f7a4_51 : decode cJ6_bitCount_0f7a4 51 = .ok (.iand, 1) := by decide +kernel
theorem dJ6_bitCount_0f7a4_52 : decode cJ6_bitCount_0f7a4 52 = .ok (.ireturn, 1) := by decide +kernel
theorem dJ9_abs_0f7a4_0 : decode cJ9_abs_0f7a4 0 = .ok (.iload_n 0, 1) := by decide +kernel
theorem dJ9_abs_0f7a4_1 : decode cJ9_abs_0f7a4 1 = .ok (.ifCond .ge 8, 3) := by decide +kernel
theorem dJ9_abs_0f7a4_4 : decode cJ9_abs_0f7a4 4 = .ok (.iload_n 0, 1) := by decide +kernel
theorem dJ9_abs_0f7a4_5 : decode cJ9_abs_0f7a4 5 = .ok (.ineg, 1) := by decide +kernel
theorem dJ9_abs_0f7a4_6 : decode cJ9_abs_0f7a4 6 = .ok (.goto 4, 3) := by decide +kernel
theorem dJ9_abs_0f7a4_9 : decode cJ9_abs_0f7a4 9 = .ok (.iload_n 0, 1) := by decide +kernel
theorem dJ9_abs_0f7a4_10 : decode cJ9_abs_0f7a4 10 = .ok (.ireturn, 1) := by decide +kernel
theorem dJ9_max_7cf53_0 : decode cJ9_max_7cf53 0 = .ok (.iload_n 0, 1) := by decide +kernel
theorem dJ9_max_7cf53_1 : decode cJ9_max_7cf53 1 = .ok (.iload_n 1, 1) := by decide +kernel
theorem dJ9_max_7cf53_2 : decode cJ9_max_7cf53 2 = .ok (.if_icmp .lt 7, 3) := by decide +kernel
theorem dJ9_max_7cf53_5 : decode cJ9_max_7cf53 5 = .ok (.iload_n 0, 1) := by decide +kernel
theorem dJ9_max_7cf53_6 : decode cJ9_max_7cf53 6 = .ok (.goto 4, 3) := by decide +kernel
theorem dJ9_max_7cf53_9 : decode cJ9_max_7cf53 9 = .ok (.iload_n 1, 1) := by decide +kernel
theorem dJ9_max_7cf53_10 : decode cJ9_max_7cf53 10 = .ok (.ireturn, 1) := by decide +kernel
theorem dL_lot_0 : decode cL_lot 0 = .ok (.iload_n 1, 1) := by decide +kernel
theorem dL_lot_1 : decode cL_lot 1 = .ok (.aload_n 0, 1) := by decide +kernel
theorem dL_lot_2 : decode cL_lot 2 = .ok (.arraylength, 1) := by decide +kernel
theorem dL_lot_3 : decode cL_lot 3 = .ok (.if_icmp .ge 9, 3) := by decide +kernel
theorem dL_lot_6 : decode cL_lot 6 = .ok (.aload_n 0, 1) := by decide +kernel
theorem dL_lot_7 : decode cL_lot 7 = .ok (.iload_n 1, 1) := by decide +kernel
theorem dL_lot_8 : decode cL_lot 8 = .ok (.iaload, 1) := by decide +kernel
theorem dL_lot_9 : decode cL_lot 9 = .ok (.goto 15, 3) := by decide +kernel
theorem dL_lot_12 : decode cL_lot 12 = .ok (.ldc 7, 2) := by decide +kernel
theorem dL_lot_14 : decode cL_lot 14 = .ok (.iload_n 1, 1) := by decide +kernel
theorem dL_lot_15 : decode cL_lot 15 = .ok (.sipush 2963, 3) := by decide +kernel
theorem dL_lot_18 : decode cL_lot 18 = .ok (.iadd, 1) := by decide +kernel
theorem dL_lot_19 : decode cL_lot 19 = .ok (.imul, 1) := by decide +kernel
theorem dL_lot_20 : decode cL_lot 20 = .ok (.sipush 2731, 3) := by decide +kernel
theorem dL_lot_23 : decode cL_lot 23 = .ok (.iadd, 1) := by decide +kernel
theorem dL_lot_24 : decode cL_lot 24 = .ok (.ireturn, 1) := by decide +kernel
theorem dL_low_0 : decode cL_low 0 = .ok (.iload_n 0, 1) := by decide +kernel
theorem dL_low_1 : decode cL_low 1 = .ok (.ldc 8, 2) := by decide +kernel
theorem dL_low_3 : decode cL_low 3 = .ok (.iand, 1) := by decide +kernel
theorem dL_low_4 : decode cL_low 4 = .ok (.iload_n 1, 1) := by decide +kernel
theorem dL_low_5 : decode cL_low 5 = .ok (.irem, 1) := by decide +kernel
theorem dL_low_6 : decode cL_low 6 = .ok (.ireturn, 1) := by decide +kernel
set_option maxRecDepth 20000 in
theorem ggL_digest_X7_count : GoodIn wsL_digest wsX7_count := goodIn_r _ [7, 8, 9, 10, 11, 12, 13, 14, 15, 16, 17, 18, 19, 20, 21, 22, 23, 24, 25, 26, 27, 28, 29, 30, 31, 32, 33, 34, 35, 36, 37, 38, 39, 40, 41, 42, 43, 44, 45, 46, 47, 48, 49, 6, 50, 51, 52, 53, 54, 55, 56, 57, 126, 127, 128, 129, 130, 131, 132, 133, 134, 135, 136, 137, 138, 139, 140, 141, 142, 143, 144, 145, 146, 147, 148, 149, 150, 151, 152, 153, 154, 155, 156, 157] (by decide +kernel) (by decide +kernel)
set_option maxRecDepth 20000 in
theorem gL_digest_X7_count : GoodIn wsL_digest (wsV RL 13 RX7 yX7_count wsX7_count) := goodIn_app (goodIn_of _ (by decide +kernel)) ggL_digest_X7_count
set_option maxRecDepth 20000 in
theorem ggL_digest_X7_lockerOf : GoodIn wsL_digest wsX7_lockerOf := goodIn_r _ [61, 10, 62, 63, 64, 26, 65, 28, 32, 66, 67, 68, 36, 69, 38, 49, 6, 50, 70, 71, 72, 54, 73, 74, 75, 34, 35, 37, 57, 44, 45, 46, 47, 48, 43, 126, 127, 128, 129, 130, 131, 132, 143, 144, 145, 146, 147, 154, 155, 156, 157, 148, 149, 150, 151, 152, 153] (by decide +kernel) (by decide +kernel)
set_option maxRecDepth 20000 in
theorem gL_digest_X7_lockerOf : GoodIn wsL_digest (wsV RL 19 RX7 yX7_lockerOf wsX7_lockerOf) := goodIn_app (goodIn_of _ (by decide +kernel)) ggL_digest_X7_lockerOf
set_option maxRecDepth 20000 in
theorem ggL_digest_X7_mealOf : GoodIn wsL_digest wsX7_mealOf := goodIn_r _ [79, 10, 80, 81, 82, 26, 83, 29, 66, 67, 68, 36, 69, 38, 49, 6, 50, 43, 44, 45, 46, 47, 48, 84, 85, 86, 126, 127, 128, 129, 130, 131, 132, 143, 144, 145, 146, 147, 154, 155, 156, 157] (by decide +kernel) (by decide +kernel)
set_option maxRecDepth 20000 in
theorem gL_digest_X7_mealOf : GoodIn wsL_digest (wsV RL 23 RX7 yX7_mealOf wsX7_mealOf) := goodIn_app (goodIn_of _ (by decide +kernel)) ggL_digest_X7_mealOf
set_option maxRecDepth 20000 in
theorem ggL_digest_X7_personOf : GoodIn wsL_digest wsX7_personOf := goodIn_r _ [90, 10, 91, 92, 93, 26, 94, 30, 32, 66, 67, 68, 36, 69, 38, 49, 6, 50, 95, 96, 97, 54, 98, 99, 100, 101, 102, 103, 104, 57, 44, 45, 46, 47, 48, 105, 106, 107, 108, 74, 75, 34, 35, 37, 43, 126, 127, 128, 129, 130, 131, 132, 143, 144, 145, 146, 147, 154, 155, 156, 157, 148, 149, 150, 151, 152, 153] (by decide +kernel) (by decide +kernel)
set_option maxRecDepth 20000 in
theorem gL_digest_X7_personOf : GoodIn wsL_digest (wsV RL 26 RX7 yX7_personOf wsX7_personOf) := goodIn_app (goodIn_of _ (by decide +kernel)) ggL_digest_X7_personOf
set_option maxRecDepth 20000 in
theorem ggL_digest_X7_volunteerOf : GoodIn wsL_digest wsX7_volunteerOf := goodIn_r _ [112, 10, 113, 114, 115, 26, 116, 31, 32, 66, 67, 68, 36, 69, 38, 49, 6, 50, 117, 118, 119, 54, 120, 74, 75, 34, 35, 37, 57, 44, 45, 46, 47, 48, 121, 122, 123, 124, 125, 100, 101, 102, 103, 104, 43, 126, 127, 128, 129, 130, 131, 132, 143, 144, 145, 146, 147, 154, 155, 156, 157, 148, 149, 150, 151, 152, 153] (by decide +kernel) (by decide +kernel)
set_option maxRecDepth 20000 in
theorem gL_digest_X7_volunteerOf : GoodIn wsL_digest (wsV RL 29 RX7 yX7_volunteerOf wsX7_volunteerOf) := goodIn_app (goodIn_of _ (by decide +kernel)) ggL_digest_X7_volunteerOf
theorem dL_digest_0 : decode cL_digest 0 = .ok (.ldc2_w 9, 3) := by decide +kernel
theorem dL_digest_3 : decode cL_digest 3 = .ok (.lstore_n 1, 1) := by decide +kernel
theorem dL_digest_4 : decode cL_digest 4 = .ok (.iconst 0, 1) := by decide +kernel
theorem dL_digest_5 : decode cL_digest 5 = .ok (.istore_n 3, 1) := by decide +kernel
theorem dL_digest_6 : decode cL_digest 6 = .ok (.iload_n 3, 1) := by decide +kernel
theorem dL_digest_7 : decode cL_digest 7 = .ok (.bipush 17, 2) := by decide +kernel
theorem dL_digest_9 : decode cL_digest 9 = .ok (.if_icmp .ge 38, 3) := by decide +kernel
theorem dL_digest_12 : decode cL_digest 12 = .ok (.ldc2_w 11, 3) := by decide +kernel
theorem dL_digest_15 : decode cL_digest 15 = .ok (.lload_n 1, 1) := by decide +kernel
theorem dL_digest_16 : decode cL_digest 16 = .ok (.lmul, 1) := by decide +kernel
theorem dL_digest_17 : decode cL_digest 17 = .ok (.iload_n 3, 1) := by decide +kernel
theorem dL_digest_18 : decode cL_digest 18 = .ok (.bipush 11, 2) := by decide +kernel
theorem dL_digest_20 : decode cL_digest 20 = .ok (.if_icmp .eq 9, 3) := by decide +kernel
theorem dL_digest_23 : decode cL_digest 23 = .ok (.iload_n 3, 1) := by decide +kernel
theorem dL_digest_24 : decode cL_digest 24 = .ok (.bipush 12, 2) := by decide +kernel
theorem dL_digest_26 : decode cL_digest 26 = .ok (.if_icmp .ne 7, 3) := by decide +kernel
theorem dL_digest_29 : decode cL_digest 29 = .ok (.iconst 0, 1) := by decide +kernel
theorem dL_digest_30 : decode cL_digest 30 = .ok (.goto 8, 3) := by decide +kernel
theorem dL_digest_33 : decode cL_digest 33 = .ok (.aload_n 0, 1) := by decide +kernel
theorem dL_digest_34 : decode cL_digest 34 = .ok (.iload_n 3, 1) := by decide +kernel
theorem dL_digest_35 : decode cL_digest 35 = .ok (.invokevirtual 13, 3) := by decide +kernel
theorem dL_digest_38 : decode cL_digest 38 = .ok (.i2l, 1) := by decide +kernel
theorem dL_digest_39 : decode cL_digest 39 = .ok (.ladd, 1) := by decide +kernel
theorem dL_digest_40 : decode cL_digest 40 = .ok (.lstore_n 1, 1) := by decide +kernel
theorem dL_digest_41 : decode cL_digest 41 = .ok (.iinc 3 1, 3) := by decide +kernel
theorem dL_digest_44 : decode cL_digest 44 = .ok (.goto (-38), 3) := by decide +kernel
theorem dL_digest_47 : decode cL_digest 47 = .ok (.iconst 0, 1) := by decide +kernel
theorem dL_digest_48 : decode cL_digest 48 = .ok (.istore_n 3, 1) := by decide +kernel
theorem dL_digest_49 : decode cL_digest 49 = .ok (.iload_n 3, 1) := by decide +kernel
theorem dL_digest_50 : decode cL_digest 50 = .ok (.aload_n 0, 1) := by decide +kernel
theorem dL_digest_51 : decode cL_digest 51 = .ok (.iconst 0, 1) := by decide +kernel
theorem dL_digest_52 : decode cL_digest 52 = .ok (.invokevirtual 13, 3) := by decide +kernel
theorem dL_digest_55 : decode cL_digest 55 = .ok (.bipush 9, 2) := by decide +kernel
theorem dL_digest_57 : decode cL_digest 57 = .ok (.imul, 1) := by decide +kernel
theorem dL_digest_58 : decode cL_digest 58 = .ok (.if_icmp .ge 29, 3) := by decide +kernel
theorem dL_digest_61 : decode cL_digest 61 = .ok (.ldc2_w 11, 3) := by decide +kernel
theorem dL_digest_64 : decode cL_digest 64 = .ok (.lload_n 1, 1) := by decide +kernel
theorem dL_digest_65 : decode cL_digest 65 = .ok (.lmul, 1) := by decide +kernel
theorem dL_digest_66 : decode cL_digest 66 = .ok (.aload_n 0, 1) := by decide +kernel
theorem dL_digest_67 : decode cL_digest 67 = .ok (.iload_n 3, 1) := by decide +kernel
theorem dL_digest_68 : decode cL_digest 68 = .ok (.bipush 9, 2) := by decide +kernel
theorem dL_digest_70 : decode cL_digest 70 = .ok (.idiv, 1) := by decide +kernel
theorem dL_digest_71 : decode cL_digest 71 = .ok (.iload_n 3, 1) := by decide +kernel
theorem dL_digest_72 : decode cL_digest 72 = .ok (.bipush 9, 2) := by decide +kernel
theorem dL_digest_74 : decode cL_digest 74 = .ok (.irem, 1) := by decide +kernel
theorem dL_digest_75 : decode cL_digest 75 = .ok (.invokevirtual 19, 3) := by decide +kernel
theorem dL_digest_78 : decode cL_digest 78 = .ok (.i2l, 1) := by decide +kernel
theorem dL_digest_79 : decode cL_digest 79 = .ok (.ladd, 1) := by decide +kernel
theorem dL_digest_80 : decode cL_digest 80 = .ok (.lstore_n 1, 1) := by decide +kernel
theorem dL_digest_81 : decode cL_digest 81 = .ok (.iinc 3 1, 3) := by decide +kernel
theorem dL_digest_84 : decode cL_digest 84 = .ok (.goto (-35), 3) := by decide +kernel
theorem dL_digest_87 : decode cL_digest 87 = .ok (.iconst 0, 1) := by decide +kernel
theorem dL_digest_88 : decode cL_digest 88 = .ok (.istore_n 3, 1) := by decide +kernel
theorem dL_digest_89 : decode cL_digest 89 = .ok (.iload_n 3, 1) := by decide +kernel
theorem dL_digest_90 : decode cL_digest 90 = .ok (.aload_n 0, 1) := by decide +kernel
theorem dL_digest_91 : decode cL_digest 91 = .ok (.iconst 1, 1) := by decide +kernel
theorem dL_digest_92 : decode cL_digest 92 = .ok (.invokevirtual 13, 3) := by decide +kernel
theorem dL_digest_95 : decode cL_digest 95 = .ok (.bipush 7, 2) := by decide +kernel
theorem dL_digest_97 : decode cL_digest 97 = .ok (.imul, 1) := by decide +kernel
theorem dL_digest_98 : decode cL_digest 98 = .ok (.if_icmp .ge 29, 3) := by decide +kernel
theorem dL_digest_101 : decode cL_digest 101 = .ok (.ldc2_w 11, 3) := by decide +kernel
theorem dL_digest_104 : decode cL_digest 104 = .ok (.lload_n 1, 1) := by decide +kernel
theorem dL_digest_105 : decode cL_digest 105 = .ok (.lmul, 1) := by decide +kernel
theorem dL_digest_106 : decode cL_digest 106 = .ok (.aload_n 0, 1) := by decide +kernel
theorem dL_digest_107 : decode cL_digest 107 = .ok (.iload_n 3, 1) := by decide +kernel
theorem dL_digest_108 : decode cL_digest 108 = .ok (.bipush 7, 2) := by decide +kernel
theorem dL_digest_110 : decode cL_digest 110 = .ok (.idiv, 1) := by decide +kernel
theorem dL_digest_111 : decode cL_digest 111 = .ok (.iload_n 3, 1) := by decide +kernel
theorem dL_digest_112 : decode cL_digest 112 = .ok (.bipush 7, 2) := by decide +kernel
theorem dL_digest_114 : decode cL_digest 114 = .ok (.irem, 1) := by decide +kernel
theorem dL_digest_115 : decode cL_digest 115 = .ok (.invokevirtual 23, 3) := by decide +kernel
theorem dL_digest_118 : decode cL_digest 118 = .ok (.i2l, 1) := by decide +kernel
theorem dL_digest_119 : decode cL_digest 119 = .ok (.ladd, 1) := by decide +kernel
theorem dL_digest_120 : decode cL_digest 120 = .ok (.lstore_n 1, 1) := by decide +kernel
theorem dL_digest_121 : decode cL_digest 121 = .ok (.iinc 3 1, 3) := by decide +kernel
theorem dL_digest_124 : decode cL_digest 124 = .ok (.goto (-35), 3) := by decide +kernel
theorem dL_digest_127 : decode cL_digest 127 = .ok (.iconst 0, 1) := by decide +kernel
theorem dL_digest_128 : decode cL_digest 128 = .ok (.istore_n 3, 1) := by decide +kernel
theorem dL_digest_129 : decode cL_digest 129 = .ok (.iload_n 3, 1) := by decide +kernel
theorem dL_digest_130 : decode cL_digest 130 = .ok (.aload_n 0, 1) := by decide +kernel
theorem dL_digest_131 : decode cL_digest 131 = .ok (.iconst 2, 1) := by decide +kernel
theorem dL_digest_132 : decode cL_digest 132 = .ok (.invokevirtual 13, 3) := by decide +kernel
theorem dL_digest_135 : decode cL_digest 135 = .ok (.bipush 6, 2) := by decide +kernel
theorem dL_digest_137 : decode cL_digest 137 = .ok (.imul, 1) := by decide +kernel
theorem dL_digest_138 : decode cL_digest 138 = .ok (.if_icmp .ge 29, 3) := by decide +kernel
theorem dL_digest_141 : decode cL_digest 141 = .ok (.ldc2_w 11, 3) := by decide +kernel
theorem dL_digest_144 : decode cL_digest 144 = .ok (.lload_n 1, 1) := by decide +kernel
theorem dL_digest_145 : decode cL_digest 145 = .ok (.lmul, 1) := by decide +kernel
theorem dL_digest_146 : decode cL_digest 146 = .ok (.aload_n 0, 1) := by decide +kernel
theorem dL_digest_147 : decode cL_digest 147 = .ok (.iload_n 3, 1) := by decide +kernel
theorem dL_digest_148 : decode cL_digest 148 = .ok (.bipush 6, 2) := by decide +kernel
theorem dL_digest_150 : decode cL_digest 150 = .ok (.idiv, 1) := by decide +kernel
theorem dL_digest_151 : decode cL_digest 151 = .ok (.iload_n 3, 1) := by decide +kernel
theorem dL_digest_152 : decode cL_digest 152 = .ok (.bipush 6, 2) := by decide +kernel
theorem dL_digest_154 : decode cL_digest 154 = .ok (.irem, 1) := by decide +kernel
theorem dL_digest_155 : decode cL_digest 155 = .ok (.invokevirtual 26, 3) := by decide +kernel
theorem dL_digest_158 : decode cL_digest 158 = .ok (.i2l, 1) := by decide +kernel
theorem dL_digest_159 : decode cL_digest 159 = .ok (.ladd, 1) := by decide +kernel
theorem dL_digest_160 : decode cL_digest 160 = .ok (.lstore_n 1, 1) := by decide +kernel
theorem dL_digest_161 : decode cL_digest 161 = .ok (.iinc 3 1, 3) := by decide +kernel
theorem dL_digest_164 : decode cL_digest 164 = .ok (.goto (-35), 3) := by decide +kernel
theorem dL_digest_167 : decode cL_digest 167 = .ok (.iconst 0, 1) := by decide +kernel
theorem dL_digest_168 : decode cL_digest 168 = .ok (.istore_n 3, 1) := by decide +kernel
theorem dL_digest_169 : decode cL_digest 169 = .ok (.iload_n 3, 1) := by decide +kernel
theorem dL_digest_170 : decode cL_digest 170 = .ok (.aload_n 0, 1) := by decide +kernel
theorem dL_digest_171 : decode cL_digest 171 = .ok (.iconst 3, 1) := by decide +kernel
theorem dL_digest_172 : decode cL_digest 172 = .ok (.invokevirtual 13, 3) := by decide +kernel
theorem dL_digest_175 : decode cL_digest 175 = .ok (.iconst 5, 1) := by decide +kernel
theorem dL_digest_176 : decode cL_digest 176 = .ok (.imul, 1) := by decide +kernel
theorem dL_digest_177 : decode cL_digest 177 = .ok (.if_icmp .ge 27, 3) := by decide +kernel
theorem dL_digest_180 : decode cL_digest 180 = .ok (.ldc2_w 11, 3) := by decide +kernel
theorem dL_digest_183 : decode cL_digest 183 = .ok (.lload_n 1, 1) := by decide +kernel
theorem dL_digest_184 : decode cL_digest 184 = .ok (.lmul, 1) := by decide +kernel
theorem dL_digest_185 : decode cL_digest 185 = .ok (.aload_n 0, 1) := by decide +kernel
theorem dL_digest_186 : decode cL_digest 186 = .ok (.iload_n 3, 1) := by decide +kernel
theorem dL_digest_187 : decode cL_digest 187 = .ok (.iconst 5, 1) := by decide +kernel
theorem dL_digest_188 : decode cL_digest 188 = .ok (.idiv, 1) := by decide +kernel
theorem dL_digest_189 : decode cL_digest 189 = .ok (.iload_n 3, 1) := by decide +kernel
theorem dL_digest_190 : decode cL_digest 190 = .ok (.iconst 5, 1) := by decide +kernel
theorem dL_digest_191 : decode cL_digest 191 = .ok (.irem, 1) := by decide +kernel
theorem dL_digest_192 : decode cL_digest 192 = .ok (.invokevirtual 29, 3) := by decide +kernel
theorem dL_digest_195 : decode cL_digest 195 = .ok (.i2l, 1) := by decide +kernel
theorem dL_digest_196 : decode cL_digest 196 = .ok (.ladd, 1) := by decide +kernel
theorem dL_digest_197 : decode cL_digest 197 = .ok (.lstore_n 1, 1) := by decide +kernel
theorem dL_digest_198 : decode cL_digest 198 = .ok (.iinc 3 1, 3) := by decide +kernel
theorem dL_digest_201 : decode cL_digest 201 = .ok (.goto (-32), 3) := by decide +kernel
theorem dL_digest_204 : decode cL_digest 204 = .ok (.lload_n 1, 1) := by decide +kernel
theorem dL_digest_205 : decode cL_digest 205 = .ok (.lreturn, 1) := by decide +kernel
set_option maxRecDepth 20000 in
theorem ggL_holds_X7_count : GoodIn wsL_holds wsX7_count := goodIn_r _ [5, 6, 7, 8, 9, 10, 11, 12, 13, 14, 15, 16, 17, 18, 19, 20, 21, 22, 23, 24, 25, 26, 27, 28, 29, 30, 31, 32, 33, 34, 35, 36, 37, 38, 39, 40, 41, 42, 43, 44, 45, 46, 47, 4, 48, 49, 50, 51, 52, 53, 54, 55, 136, 137, 138, 139, 140, 141, 142, 143, 144, 145, 146, 147, 148, 149, 150, 151, 152, 153, 154, 155, 156, 157, 158, 159, 160, 161, 162, 163, 164, 165, 166, 167] (by decide +kernel) (by decide +kernel)
set_option maxRecDepth 20000 in
theorem gL_holds_X7_count : GoodIn wsL_holds (wsV RL 13 RX7 yX7_count wsX7_count) := goodIn_app (goodIn_of _ (by decide +kernel)) ggL_holds_X7_count
