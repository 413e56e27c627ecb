theorem dX3_ofBestMove_83 : decode cX3_ofBestMove 83 = .ok (.iload 6, 2) := by decide +kernel
theorem dX3_ofBestMove_85 : decode cX3_ofBestMove 85 = .ok (.invokevirtual 94, 3) := by decide +kernel
theorem dX3_ofBestMove_88 : decode cX3_ofBestMove 88 = .ok (.istore 4, 2) := by decide +kernel
theorem dX3_ofBestMove_90 : decode cX3_ofBestMove 90 = .ok (.iinc 6 1, 3) := by decide +kernel
theorem dX3_ofBestMove_93 : decode cX3_ofBestMove 93 = .ok (.goto (-55), 3) := by decide +kernel
theorem dX3_ofBestMove_96 : decode cX3_ofBestMove 96 = .ok (.iinc 5 1, 3) := by decide +kernel
theorem dX3_ofBestMove_99 : decode cX3_ofBestMove 99 = .ok (.goto (-76), 3) := by decide +kernel
theorem dX3_ofBestMove_102 : decode cX3_ofBestMove 102 = .ok (.iload_n 2, 1) := by decide +kernel
theorem dX3_ofBestMove_103 : decode cX3_ofBestMove 103 = .ok (.ifCond .lt 7, 3) := by decide +kernel
theorem dX3_ofBestMove_106 : decode cX3_ofBestMove 106 = .ok (.iload_n 1, 1) := by decide +kernel
theorem dX3_ofBestMove_107 : decode cX3_ofBestMove 107 = .ok (.ifCond .ne 5, 3) := by decide +kernel
theorem dX3_ofBestMove_110 : decode cX3_ofBestMove 110 = .ok (.iload_n 2, 1) := by decide +kernel
theorem dX3_ofBestMove_111 : decode cX3_ofBestMove 111 = .ok (.ireturn, 1) := by decide +kernel
theorem dX3_ofBestMove_112 : decode cX3_ofBestMove 112 = .ok (.iload_n 1, 1) := by decide +kernel
theorem dX3_ofBestMove_113 : decode cX3_ofBestMove 113 = .ok (.iconst 1, 1) := by decide +kernel
theorem dX3_ofBestMove_114 : decode cX3_ofBestMove 114 = .ok (.if_icmp .ne 7, 3) := by decide +kernel
theorem dX3_ofBestMove_117 : decode cX3_ofBestMove 117 = .ok (.iload_n 3, 1) := by decide +kernel
theorem dX3_ofBestMove_118 : decode cX3_ofBestMove 118 = .ok (.goto 5, 3) := by decide +kernel
theorem dX3_ofBestMove_121 : decode cX3_ofBestMove 121 = .ok (.iload 4, 2) := by decide +kernel
theorem dX3_ofBestMove_123 : decode cX3_ofBestMove 123 = .ok (.ireturn, 1) := by decide +kernel
set_option maxRecDepth 20000 in
theorem ggX3_savesByMove_X5_at : GoodIn wsX3_savesByMove wsX5_at := goodIn_r _ [7, 8, 9, 43, 44, 45, 46] (by decide +kernel) (by decide +kernel)
set_option maxRecDepth 20000 in
theorem gX3_savesByMove_X5_at : GoodIn wsX3_savesByMove (wsV RX3 44 RX5 yX5_at wsX5_at) := goodIn_app (goodIn_of _ (by decide +kernel)) ggX3_savesByMove_X5_at
set_option maxRecDepth 20000 in
theorem ggX3_savesByMove_X4_isCold : GoodIn wsX3_savesByMove wsX4_isCold := goodIn_r _ [14, 15, 16, 4, 5, 6, 7, 8, 9, 47, 48, 49, 50, 51, 52, 43, 44, 45, 46] (by decide +kernel) (by decide +kernel)
set_option maxRecDepth 20000 in
theorem gX3_savesByMove_X4_isCold : GoodIn wsX3_savesByMove (wsV RX3 88 RX4 yX4_isCold wsX4_isCold) := goodIn_app (goodIn_of _ (by decide +kernel)) ggX3_savesByMove_X4_isCold
set_option maxRecDepth 20000 in
theorem ggX3_savesByMove_X4_freeCells : GoodIn wsX3_savesByMove wsX4_freeCells := goodIn_r _ [20, 15, 16, 4, 5, 6, 7, 8, 9, 21, 22, 23, 13, 24, 25, 26, 27, 28, 29, 30, 31, 32, 33, 34, 35, 36, 37, 47, 48, 49, 50, 51, 52, 43, 44, 45, 46] (by decide +kernel) (by decide +kernel)
set_option maxRecDepth 20000 in
theorem gX3_savesByMove_X4_freeCells : GoodIn wsX3_savesByMove (wsV RX3 97 RX4 yX4_freeCells wsX4_freeCells) := goodIn_app (goodIn_of _ (by decide +kernel)) ggX3_savesByMove_X4_freeCells
theorem dX3_savesByMove_0 : decode cX3_savesByMove 0 = .ok (.aload_n 0, 1) := by decide +kernel
theorem dX3_savesByMove_1 : decode cX3_savesByMove 1 = .ok (.getfield 25, 3) := by decide +kernel
theorem dX3_savesByMove_4 : decode cX3_savesByMove 4 = .ok (.iload_n 1, 1) := by decide +kernel
theorem dX3_savesByMove_5 : decode cX3_savesByMove 5 = .ok (.iconst 0, 1) := by decide +kernel
theorem dX3_savesByMove_6 : decode cX3_savesByMove 6 = .ok (.invokevirtual 44, 3) := by decide +kernel
theorem dX3_savesByMove_9 : decode cX3_savesByMove 9 = .ok (.ifCond .ne 48, 3) := by decide +kernel
theorem dX3_savesByMove_12 : decode cX3_savesByMove 12 = .ok (.aload_n 0, 1) := by decide +kernel
theorem dX3_savesByMove_13 : decode cX3_savesByMove 13 = .ok (.getfield 9, 3) := by decide +kernel
theorem dX3_savesByMove_16 : decode cX3_savesByMove 16 = .ok (.aload_n 0, 1) := by decide +kernel
theorem dX3_savesByMove_17 : decode cX3_savesByMove 17 = .ok (.getfield 25, 3) := by decide +kernel
theorem dX3_savesByMove_20 : decode cX3_savesByMove 20 = .ok (.iload_n 1, 1) := by decide +kernel
theorem dX3_savesByMove_21 : decode cX3_savesByMove 21 = .ok (.iconst 1, 1) := by decide +kernel
theorem dX3_savesByMove_22 : decode cX3_savesByMove 22 = .ok (.invokevirtual 44, 3) := by decide +kernel
theorem dX3_savesByMove_25 : decode cX3_savesByMove 25 = .ok (.invokevirtual 88, 3) := by decide +kernel
theorem dX3_savesByMove_28 : decode cX3_savesByMove 28 = .ok (.ifCond .ne 29, 3) := by decide +kernel
theorem dX3_savesByMove_31 : decode cX3_savesByMove 31 = .ok (.aload_n 0, 1) := by decide +kernel
theorem dX3_savesByMove_32 : decode cX3_savesByMove 32 = .ok (.getfield 9, 3) := by decide +kernel
theorem dX3_savesByMove_35 : decode cX3_savesByMove 35 = .ok (.iload_n 2, 1) := by decide +kernel
theorem dX3_savesByMove_36 : decode cX3_savesByMove 36 = .ok (.invokevirtual 88, 3) := by decide +kernel
theorem dX3_savesByMove_39 : decode cX3_savesByMove 39 = .ok (.ifCond .eq 18, 3) := by decide +kernel
theorem dX3_savesByMove_42 : decode cX3_savesByMove 42 = .ok (.aload_n 0, 1) := by decide +kernel
theorem dX3_savesByMove_43 : decode cX3_savesByMove 43 = .ok (.getfield 9, 3) := by decide +kernel
theorem dX3_savesByMove_46 : decode cX3_savesByMove 46 = .ok (.iload_n 2, 1) := by decide +kernel
theorem dX3_savesByMove_47 : decode cX3_savesByMove 47 = .ok (.invokevirtual 97, 3) := by decide +kernel
theorem dX3_savesByMove_50 : decode cX3_savesByMove 50 = .ok (.ifCond .le 7, 3) := by decide +kernel
theorem dX3_savesByMove_53 : decode cX3_savesByMove 53 = .ok (.iconst 1, 1) := by decide +kernel
theorem dX3_savesByMove_54 : decode cX3_savesByMove 54 = .ok (.goto 4, 3) := by decide +kernel
theorem dX3_savesByMove_57 : decode cX3_savesByMove 57 = .ok (.iconst 0, 1) := by decide +kernel
theorem dX3_savesByMove_58 : decode cX3_savesByMove 58 = .ok (.ireturn, 1) := by decide +kernel
set_option maxRecDepth 20000 in
theorem ggX3_hoursOnArriving_X5_at : GoodIn wsX3_hoursOnArriving wsX5_at := goodIn_r _ [7, 8, 9, 30, 31, 32, 33] (by decide +kernel) (by decide +kernel)
set_option maxRecDepth 20000 in
theorem gX3_hoursOnArriving_X5_at : GoodIn wsX3_hoursOnArriving (wsV RX3 44 RX5 yX5_at wsX5_at) := goodIn_app (goodIn_of _ (by decide +kernel)) ggX3_hoursOnArriving_X5_at
set_option maxRecDepth 20000 in
theorem ggX3_hoursOnArriving_X4_wayHours : GoodIn wsX3_hoursOnArriving wsX4_wayHours := goodIn_r _ [14, 15, 16, 17, 18, 19, 20, 21, 13, 22, 23, 24, 4, 5, 6, 7, 8, 9, 34, 35, 36, 37, 38, 39, 30, 31, 32, 33] (by decide +kernel) (by decide +kernel)
set_option maxRecDepth 20000 in
theorem gX3_hoursOnArriving_X4_wayHours : GoodIn wsX3_hoursOnArriving (wsV RX3 100 RX4 yX4_wayHours wsX4_wayHours) := goodIn_app (goodIn_of _ (by decide +kernel)) ggX3_hoursOnArriving_X4_wayHours
theorem dX3_hoursOnArriving_0 : decode cX3_hoursOnArriving 0 = .ok (.aload_n 0, 1) := by decide +kernel
theorem dX3_hoursOnArriving_1 : decode cX3_hoursOnArriving 1 = .ok (.getfield 9, 3) := by decide +kernel
theorem dX3_hoursOnArriving_4 : decode cX3_hoursOnArriving 4 = .ok (.aload_n 0, 1) := by decide +kernel
theorem dX3_hoursOnArriving_5 : decode cX3_hoursOnArriving 5 = .ok (.getfield 25, 3) := by decide +kernel
theorem dX3_hoursOnArriving_8 : decode cX3_hoursOnArriving 8 = .ok (.iload_n 1, 1) := by decide +kernel
theorem dX3_hoursOnArriving_9 : decode cX3_hoursOnArriving 9 = .ok (.iconst 1, 1) := by decide +kernel
theorem dX3_hoursOnArriving_10 : decode cX3_hoursOnArriving 10 = .ok (.invokevirtual 44, 3) := by decide +kernel
theorem dX3_hoursOnArriving_13 : decode cX3_hoursOnArriving 13 = .ok (.iload_n 2, 1) := by decide +kernel
theorem dX3_hoursOnArriving_14 : decode cX3_hoursOnArriving 14 = .ok (.invokevirtual 100, 3) := by decide +kernel
theorem dX3_hoursOnArriving_17 : decode cX3_hoursOnArriving 17 = .ok (.istore_n 3, 1) := by decide +kernel
theorem dX3_hoursOnArriving_18 : decode cX3_hoursOnArriving 18 = .ok (.aload_n 0, 1) := by decide +kernel
theorem dX3_hoursOnArriving_19 : decode cX3_hoursOnArriving 19 = .ok (.getfield 25, 3) := by decide +kernel
theorem dX3_hoursOnArriving_22 : decode cX3_hoursOnArriving 22 = .ok (.iload_n 1, 1) := by decide +kernel
theorem dX3_hoursOnArriving_23 : decode cX3_hoursOnArriving 23 = .ok (.iconst 2, 1) := by decide +kernel
theorem dX3_hoursOnArriving_24 : decode cX3_hoursOnArriving 24 = .ok (.invokevirtual 44, 3) := by decide +kernel
theorem dX3_hoursOnArriving_27 : decode cX3_hoursOnArriving 27 = .ok (.iconst 2, 1) := by decide +kernel
theorem dX3_hoursOnArriving_28 : decode cX3_hoursOnArriving 28 = .ok (.iload_n 3, 1) := by decide +kernel
theorem dX3_hoursOnArriving_29 : decode cX3_hoursOnArriving 29 = .ok (.imul, 1) := by decide +kernel
theorem dX3_hoursOnArriving_30 : decode cX3_hoursOnArriving 30 = .ok (.isub, 1) := by decide +kernel
theorem dX3_hoursOnArriving_31 : decode cX3_hoursOnArriving 31 = .ok (.ireturn, 1) := by decide +kernel
set_option maxRecDepth 20000 in
theorem ggX3_bitsOfFetchedShare_X3_mealsAtStages : GoodIn wsX3_bitsOfFetchedShare wsX3_mealsAtStages := goodIn_r _ [5, 6, 7, 8, 9, 10, 11, 12, 13, 14, 15, 16, 17, 18, 19, 20, 21, 26, 27, 28, 29, 30, 31, 32, 33, 34] (by decide +kernel) (by decide +kernel)
set_option maxRecDepth 20000 in
theorem gX3_bitsOfFetchedShare_X3_mealsAtStages : GoodIn wsX3_bitsOfFetchedShare (wsV RX3 76 RX3 yX3_mealsAtStages wsX3_mealsAtStages) := goodIn_app (goodIn_of _ (by decide +kernel)) ggX3_bitsOfFetchedShare_X3_mealsAtStages
set_option maxRecDepth 20000 in
theorem ggX3_bitsOfFetchedShare_X3_floatBits : GoodIn wsX3_bitsOfFetchedShare wsX3_floatBits := goodIn_r _ [24, 25] (by decide +kernel) (by decide +kernel)
set_option maxRecDepth 20000 in
theorem gX3_bitsOfFetchedShare_X3_floatBits : GoodIn wsX3_bitsOfFetchedShare (va_wsS RX3 103 yX3_floatBits wsX3_floatBits) := goodIn_app (goodIn_of _ (by decide +kernel)) ggX3_bitsOfFetchedShare_X3_floatBits
theorem dX3_bitsOfFetchedShare_0 : decode cX3_bitsOfFetchedShare 0 = .ok (.aload_n 0, 1) := by decide +kernel
theorem dX3_bitsOfFetchedShare_1 : decode cX3_bitsOfFetchedShare 1 = .ok (.iconst 3, 1) := by decide +kernel
theorem dX3_bitsOfFetchedShare_2 : decode cX3_bitsOfFetchedShare 2 = .ok (.iconst 5, 1) := by decide +kernel
theorem dX3_bitsOfFetchedShare_3 : decode cX3_bitsOfFetchedShare 3 = .ok (.invokevirtual 76, 3) := by decide +kernel
theorem dX3_bitsOfFetchedShare_6 : decode cX3_bitsOfFetchedShare 6 = .ok (.istore_n 1, 1) := by decide +kernel
theorem dX3_bitsOfFetchedShare_7 : decode cX3_bitsOfFetchedShare 7 = .ok (.iload_n 1, 1) := by decide +kernel
theorem dX3_bitsOfFetchedShare_8 : decode cX3_bitsOfFetchedShare 8 = .ok (.ifCond .gt 6, 3) := by decide +kernel
theorem dX3_bitsOfFetchedShare_11 : decode cX3_bitsOfFetchedShare 11 = .ok (.bipush (-4), 2) := by decide +kernel
theorem dX3_bitsOfFetchedShare_13 : decode cX3_bitsOfFetchedShare 13 = .ok (.ireturn, 1) := by decide +kernel
theorem dX3_bitsOfFetchedShare_14 : decode cX3_bitsOfFetchedShare 14 = .ok (.aload_n 0, 1) := by decide +kernel
theorem dX3_bitsOfFetchedShare_15 : decode cX3_bitsOfFetchedShare 15 = .ok (.iconst 3, 1) := by decide +kernel
theorem dX3_bitsOfFetchedShare_16 : decode cX3_bitsOfFetchedShare 16 = .ok (.iconst 3, 1) := by decide +kernel
theorem dX3_bitsOfFetchedShare_17 : decode cX3_bitsOfFetchedShare 17 = .ok (.invokevirtual 76, 3) := by decide +kernel
theorem dX3_bitsOfFetchedShare_20 : decode cX3_bitsOfFetchedShare 20 = .ok (.i2f, 1) := by decide +kernel
theorem dX3_bitsOfFetchedShare_21 : decode cX3_bitsOfFetchedShare 21 = .ok (.iload_n 1, 1) := by decide +kernel
theorem dX3_bitsOfFetchedShare_22 : decode cX3_bitsOfFetchedShare 22 = .ok (.i2f, 1) := by decide +kernel
theorem dX3_bitsOfFetchedShare_23 : decode cX3_bitsOfFetchedShare 23 = .ok (.fdiv, 1) := by decide +kernel
theorem dX3_bitsOfFetchedShare_24 : decode cX3_bitsOfFetchedShare 24 = .ok (.invokestatic 103, 3) := by decide +kernel
theorem dX3_bitsOfFetchedShare_27 : decode cX3_bitsOfFetchedShare 27 = .ok (.ireturn, 1) := by decide +kernel
theorem dX3_floatBits_0 : decode cX3_floatBits 0 = .ok (.fload_n 0, 1) := by decide +kernel
theorem dX3_floatBits_1 : decode cX3_floatBits 1 = .ok (.fconst 0, 1) := by decide +kernel
theorem dX3_floatBits_2 : decode cX3_floatBits 2 = .ok (.fcmp .g, 1) := by decide +kernel
theorem dX3_floatBits_3 : decode cX3_floatBits 3 = .ok (.ifCond .gt 5, 3) := by decide +kernel
theorem dX3_floatBits_6 : decode cX3_floatBits 6 = .ok (.iconst 0, 1) := by decide +kernel
theorem dX3_floatBits_7 : decode cX3_floatBits 7 = .ok (.ireturn, 1) := by decide +kernel
theorem dX3_floatBits_8 : decode cX3_floatBits 8 = .ok (.fload_n 0, 1) := by decide +kernel
theorem dX3_floatBits_9 : decode cX3_floatBits 9 = .ok (.fstore_n 1, 1) := by decide +kernel
theorem dX3_floatBits_10 : decode cX3_floatBits 10 = .ok (.bipush 127, 2) := by decide +kernel
theorem dX3_floatBits_12 : decode cX3_floatBits 12 = .ok (.istore_n 2, 1) := by decide +kernel
theorem dX3_floatBits_13 : decode cX3_floatBits 13 = .ok (.iconst 0, 1) := by decide +kernel
theorem dX3_floatBits_14 : decode cX3_floatBits 14 = .ok (.istore_n 3, 1) := by decide +kernel
theorem dX3_floatBits_15 : decode cX3_floatBits 15 = .ok (.iload_n 3, 1) := by decide +kernel
theorem dX3_floatBits_16 : decode cX3_floatBits 16 = .ok (.iconst 5, 1) := by decide +kernel
theorem dX3_floatBits_17 : decode cX3_floatBits 17 = .ok (.if_icmp .ge 22, 3) := by decide +kernel
theorem dX3_floatBits_20 : decode cX3_floatBits 20 = .ok (.fload_n 1, 1) := by decide +kernel
theorem dX3_floatBits_21 : decode cX3_floatBits 21 = .ok (.fconst 1, 1) := by decide +kernel
theorem dX3_floatBits_22 : decode cX3_floatBits 22 = .ok (.fcmp .g, 1) := by decide +kernel
theorem dX3_floatBits_23 : decode cX3_floatBits 23 = .ok (.ifCond .ge 16, 3) := by decide +kernel
theorem dX3_floatBits_26 : decode cX3_floatBits 26 = .ok (.fload_n 1, 1) := by decide +kernel
theorem dX3_floatBits_27 : decode cX3_floatBits 27 = .ok (.fconst 2, 1) := by decide +kernel
theorem dX3_floatBits_28 : decode cX3_floatBits 28 = .ok (.fmul, 1) := by decide +kernel
theorem dX3_floatBits_29 : decode cX3_floatBits 29 = .ok (.fstore_n 1, 1) := by decide +kernel
theorem dX3_floatBits_30 : decode cX3_floatBits 30 = .ok (.iinc 2 (-1), 3) := by decide +kernel
theorem dX3_floatBits_33 : decode cX3_floatBits 33 = .ok (.iinc 3 1, 3) := by decide +kernel
theorem dX3_floatBits_36 : decode cX3_floatBits 36 = .ok (.goto (-21), 3) := by decide +kernel
theorem dX3_floatBits_39 : decode cX3_floatBits 39 = .ok (.fload_n 1, 1) := by decide +kernel
theorem dX3_floatBits_40 : decode cX3_floatBits 40 = .ok (.fconst 1, 1) := by decide +kernel
theorem dX3_floatBits_41 : decode cX3_floatBits 41 = .ok (.fsub, 1) := by decide +kernel
theorem dX3_floatBits_42 : decode cX3_floatBits 42 = .ok (.ldc 107, 2) := by decide +kernel
theorem dX3_floatBits_44 : decode cX3_floatBits 44 = .ok (.fmul, 1) := by decide +kernel
theorem dX3_floatBits_45 : decode cX3_floatBits 45 = .ok (.f2i, 1) := by decide +kernel
theorem dX3_floatBits_46 : decode cX3_floatBits 46 = .ok (.istore_n 3, 1) := by decide +kernel
theorem dX3_floatBits_47 : decode cX3_floatBits 47 = .ok (.iload_n 2, 1) := by decide +kernel
theorem dX3_floatBits_48 : decode cX3_floatBits 48 = .ok (.bipush 23, 2) := by decide +kernel
theorem dX3_floatBits_50 : decode cX3_floatBits 50 = .ok (.ishl, 1) := by decide +kernel
theorem dX3_floatBits_51 : decode cX3_floatBits 51 = .ok (.iload_n 3, 1) := by decide +kernel
theorem dX3_floatBits_52 : decode cX3_floatBits 52 = .ok (.ior, 1) := by decide +kernel
theorem dX3_floatBits_53 : decode cX3_floatBits 53 = .ok (.ireturn, 1) := by decide +kernel
set_option maxRecDepth 20000 in
theorem ggX4_init_X5_init : GoodIn wsX4_init wsX5_init := goodIn_r _ [14, 15, 2, 3, 16, 17, 18, 19, 20, 21, 22, 23, 33, 34, 35, 36] (by decide +kernel) (by decide +kernel)
set_option maxRecDepth 20000 in
theorem gX4_init_X5_init : GoodIn wsX4_init (wsX5_init) := ggX4_init_X5_init
set_option maxRecDepth 20000 in
theorem ggX4_init_X5_addRow : GoodIn wsX4_init wsX5_addRow := goodIn_r _ [27, 28, 33, 34, 35, 36] (by decide +kernel) (by decide +kernel)
set_option maxRecDepth 20000 in
theorem gX4_init_X5_addRow : GoodIn wsX4_init (wsV RX4 36 RX5 yX5_addRow wsX5_addRow) := goodIn_app (goodIn_of _ (by decide +kernel)) ggX4_init_X5_addRow
set_option maxRecDepth 20000 in
theorem ggX4_init_X5_store : GoodIn wsX4_init wsX5_store := goodIn_r _ [32, 17, 23, 33, 34, 35, 36] (by decide +kernel) (by decide +kernel)
set_option maxRecDepth 20000 in
theorem gX4_init_X5_store : GoodIn wsX4_init (wsV RX4 40 RX5 yX5_store wsX5_store) := goodIn_app (goodIn_of _ (by decide +kernel)) ggX4_init_X5_store
theorem dX4_init_0 : decode cX4_init 0 = .ok (.aload_n 0, 1) := by decide +kernel
theorem dX4_init_1 : decode cX4_init 1 = .ok (.invokespecial 3, 3) := by decide +kernel
theorem dX4_init_4 : decode cX4_init 4 = .ok (.aload_n 0, 1) := by decide +kernel
theorem dX4_init_5 : decode cX4_init 5 = .ok (.new 9, 3) := by decide +kernel
theorem dX4_init_8 : decode cX4_init 8 = .ok (.dup, 1) := by decide +kernel
theorem dX4_init_9 : decode cX4_init 9 = .ok (.iconst 5, 1) := by decide +kernel
theorem dX4_init_10 : decode cX4_init 10 = .ok (.bipush 9, 2) := by decide +kernel
theorem dX4_init_12 : decode cX4_init 12 = .ok (.invokespecial 11, 3) := by decide +kernel
theorem dX4_init_15 : decode cX4_init 15 = .ok (.putfield 14, 3) := by decide +kernel
theorem dX4_init_18 : decode cX4_init 18 = .ok (.aload_n 0, 1) := by decide +kernel
theorem dX4_init_19 : decode cX4_init 19 = .ok (.new 9, 3) := by decide +kernel
theorem dX4_init_22 : decode cX4_init 22 = .ok (.dup, 1) := by decide +kernel
theorem dX4_init_23 : decode cX4_init 23 = .ok (.bipush 24, 2) := by decide +kernel
theorem dX4_init_25 : decode cX4_init 25 = .ok (.bipush 8, 2) := by decide +kernel
theorem dX4_init_27 : decode cX4_init 27 = .ok (.invokespecial 11, 3) := by decide +kernel
theorem dX4_init_30 : decode cX4_init 30 = .ok (.putfield 20, 3) := by decide +kernel
theorem dX4_init_33 : decode cX4_init 33 = .ok (.aload_n 0, 1) := by decide +kernel
theorem dX4_init_34 : decode cX4_init 34 = .ok (.new 9, 3) := by decide +kernel
theorem dX4_init_37 : decode cX4_init 37 = .ok (.dup, 1) := by decide +kernel
theorem dX4_init_38 : decode cX4_init 38 = .ok (.bipush 8, 2) := by decide +kernel
theorem dX4_init_40 : decode cX4_init 40 = .ok (.bipush 6, 2) := by decide +kernel
theorem dX4_init_42 : decode cX4_init 42 = .ok (.invokespecial 11, 3) := by decide +kernel
theorem dX4_init_45 : decode cX4_init 45 = .ok (.putfield 23, 3) := by decide +kernel
theorem dX4_init_48 : decode cX4_init 48 = .ok (.aload_n 0, 1) := by decide +kernel
theorem dX4_init_49 : decode cX4_init 49 = .ok (.new 9, 3) := by decide +kernel
theorem dX4_init_52 : decode cX4_init 52 = .ok (.dup, 1) := by decide +kernel
theorem dX4_init_53 : decode cX4_init 53 = .ok (.iconst 3, 1) := by decide +kernel
theorem dX4_init_54 : decode cX4_init 54 = .ok (.iconst 5, 1) := by decide +kernel
theorem dX4_init_55 : decode cX4_init 55 = .ok (.invokespecial 11, 3) := by decide +kernel
theorem dX4_init_58 : decode cX4_init 58 = .ok (.putfield 26, 3) := by decide +kernel
theorem dX4_init_61 : decode cX4_init 61 = .ok (.aload_n 0, 1) := by decide +kernel
theorem dX4_init_62 : decode cX4_init 62 = .ok (.new 9, 3) := by decide +kernel
theorem dX4_init_65 : decode cX4_init 65 = .ok (.dup, 1) := by decide +kernel
theorem dX4_init_66 : decode cX4_init 66 = .ok (.iconst 4, 1) := by decide +kernel
theorem dX4_init_67 : decode cX4_init 67 = .ok (.iconst 1, 1) := by decide +kernel
theorem dX4_init_68 : decode cX4_init 68 = .ok (.invokespecial 11, 3) := by decide +kernel
theorem dX4_init_71 : decode cX4_init 71 = .ok (.putfield 29, 3) := by decide +kernel
theorem dX4_init_74 : decode cX4_init 74 = .ok (.iconst 0, 1) := by decide +kernel
theorem dX4_init_75 : decode cX4_init 75 = .ok (.istore_n 1, 1) := by decide +kernel
theorem dX4_init_76 : decode cX4_init 76 = .ok (.iload_n 1, 1) := by decide +kernel
theorem dX4_init_77 : decode cX4_init 77 = .ok (.getstatic 32, 3) := by decide +kernel
theorem dX4_init_80 : decode cX4_init 80 = .ok (.arraylength, 1) := by decide +kernel
theorem dX4_init_81 : decode cX4_init 81 = .ok (.if_icmp .ge 29, 3) := by decide +kernel
theorem dX4_init_84 : decode cX4_init 84 = .ok (.aload_n 0, 1) := by decide +kernel
theorem dX4_init_85 : decode cX4_init 85 = .ok (.getfield 29, 3) := by decide +kernel
theorem dX4_init_88 : decode cX4_init 88 = .ok (.aload_n 0, 1) := by decide +kernel
theorem dX4_init_89 : decode cX4_init 89 = .ok (.getfield 29, 3) := by decide +kernel
theorem dX4_init_92 : decode cX4_init 92 = .ok (.invokevirtual 36, 3) := by decide +kernel
theorem dX4_init_95 : decode cX4_init 95 = .ok (.iconst 0, 1) := by decide +kernel
theorem dX4_init_96 : decode cX4_init 96 = .ok (.getstatic 32, 3) := by decide +kernel
theorem dX4_init_99 : decode cX4_init 99 = .ok (.iload_n 1, 1) := by decide +kernel
theorem dX4_init_100 : decode cX4_init 100 = .ok (.iaload, 1) := by decide +kernel
theorem dX4_init_101 : decode cX4_init 101 = .ok (.invokevirtual 40, 3) := by decide +kernel
theorem dX4_init_104 : decode cX4_init 104 = .ok (.iinc 1 1, 3) := by decide +kernel
theorem dX4_init_107 : decode cX4_init 107 = .ok (.goto (-31), 3) := by decide +kernel
theorem dX4_init_110 : decode cX4_init 110 = .ok (.return_, 1) := by decide +kernel
set_option maxRecDepth 20000 in
theorem ggX4_copyFrom_X5_copyFrom : GoodIn wsX4_copyFrom wsX5_copyFrom := goodIn_r _ [11, 12, 13, 20, 21, 22, 23] (by decide +kernel) (by decide +kernel)
set_option maxRecDepth 20000 in
theorem gX4_copyFrom_X5_copyFrom : GoodIn wsX4_copyFrom (wsV RX4 44 RX5 yX5_copyFrom wsX5_copyFrom) := goodIn_app (goodIn_of _ (by decide +kernel)) ggX4_copyFrom_X5_copyFrom
theorem dX4_copyFrom_0 : decode cX4_copyFrom 0 = .ok (.aload_n 0, 1) := by decide +kernel
theorem dX4_copyFrom_1 : decode cX4_copyFrom 1 = .ok (.getfield 14, 3) := by decide +kernel
theorem dX4_copyFrom_4 : decode cX4_copyFrom 4 = .ok (.aload_n 1, 1) := by decide +kernel
theorem dX4_copyFrom_5 : decode cX4_copyFrom 5 = .ok (.getfield 14, 3) := by decide +kernel
theorem dX4_copyFrom_8 : decode cX4_copyFrom 8 = .ok (.invokevirtual 44, 3) := by decide +kernel
theorem dX4_copyFrom_11 : decode cX4_copyFrom 11 = .ok (.aload_n 0, 1) := by decide +kernel
theorem dX4_copyFrom_12 : decode cX4_copyFrom 12 = .ok (.getfield 20, 3) := by decide +kernel
theorem dX4_copyFrom_15 : decode cX4_copyFrom 15 = .ok (.aload_n 1, 1) := by decide +kernel
theorem dX4_copyFrom_16 : decode cX4_copyFrom 16 = .ok (.getfield 20, 3) := by decide +kernel
theorem dX4_copyFrom_19 : decode cX4_copyFrom 19 = .ok (.invokevirtual 44, 3) := by decide +kernel
theorem dX4_copyFrom_22 : decode cX4_copyFrom 22 = .ok (.aload_n 0, 1) := by decide +kernel
theorem dX4_copyFrom_23 : decode cX4_copyFrom 23 = .ok (.getfield 23, 3) := by decide +kernel
theorem dX4_copyFrom_26 : decode cX4_copyFrom 26 = .ok (.aload_n 1, 1) := by decide +kernel
theorem dX4_copyFrom_27 : decode cX4_copyFrom 27 = .ok (.getfield 23, 3) := by decide +kernel
theorem dX4_copyFrom_30 : decode cX4_copyFrom 30 = .ok (.invokevirtual 44, 3) := by decide +kernel
theorem dX4_copyFrom_33 : decode cX4_copyFrom 33 = .ok (.aload_n 0, 1) := by decide +kernel
theorem dX4_copyFrom_34 : decode cX4_copyFrom 34 = .ok (.getfield 26, 3) := by decide +kernel
theorem dX4_copyFrom_37 : decode cX4_copyFrom 37 = .ok (.aload_n 1, 1) := by decide +kernel
theorem dX4_copyFrom_38 : decode cX4_copyFrom 38 = .ok (.getfield 26, 3) := by decide +kernel
theorem dX4_copyFrom_41 : decode cX4_copyFrom 41 = .ok (.invokevirtual 44, 3) := by decide +kernel
theorem dX4_copyFrom_44 : decode cX4_copyFrom 44 = .ok (.aload_n 0, 1) := by decide +kernel
theorem dX4_copyFrom_45 : decode cX4_copyFrom 45 = .ok (.getfield 29, 3) := by decide +kernel
theorem dX4_copyFrom_48 : decode cX4_copyFrom 48 = .ok (.aload_n 1, 1) := by decide +kernel
theorem dX4_copyFrom_49 : decode cX4_copyFrom 49 = .ok (.getfield 29, 3) := by decide +kernel
theorem dX4_copyFrom_52 : decode cX4_copyFrom 52 = .ok (.invokevirtual 44, 3) := by decide +kernel
theorem dX4_copyFrom_55 : decode cX4_copyFrom 55 = .ok (.aload_n 0, 1) := by decide +kernel
theorem dX4_copyFrom_56 : decode cX4_copyFrom 56 = .ok (.aload_n 1, 1) := by decide +kernel
theorem dX4_copyFrom_57 : decode cX4_copyFrom 57 = .ok (.getfield 48, 3) := by decide +kernel
theorem dX4_copyFrom_60 : decode cX4_copyFrom 60 = .ok (.putfield 48, 3) := by decide +kernel
theorem dX4_copyFrom_63 : decode cX4_copyFrom 63 = .ok (.return_, 1) := by decide +kernel
set_option maxRecDepth 20000 in
theorem ggX4_setting_X5_at : GoodIn wsX4_setting wsX5_at := goodIn_r _ [6, 7, 8, 15, 16, 17, 18] (by decide +kernel) (by decide +kernel)
set_option maxRecDepth 20000 in
theorem gX4_setting_X5_at : GoodIn wsX4_setting (wsV RX4 52 RX5 yX5_at wsX5_at) := goodIn_app (goodIn_of _ (by decide +kernel)) ggX4_setting_X5_at
theorem dX4_setting_0 : decode cX4_setting 0 = .ok (.aload_n 0, 1) := by decide +kernel
theorem dX4_setting_1 : decode cX4_setting 1 = .ok (.getfield 29, 3) := by decide +kernel
theorem dX4_setting_4 : decode cX4_setting 4 = .ok (.iload_n 1, 1) := by decide +kernel
theorem dX4_setting_5 : decode cX4_setting 5 = .ok (.iconst 0, 1) := by decide +kernel
theorem dX4_setting_6 : decode cX4_setting 6 = .ok (.invokevirtual 52, 3) := by decide +kernel
theorem dX4_setting_9 : decode cX4_setting 9 = .ok (.ireturn, 1) := by decide +kernel
set_option maxRecDepth 20000 in
theorem ggX4_mealsIn_X5_size : GoodIn wsX4_mealsIn wsX5_size := goodIn_r _ [6, 7, 20, 21, 22, 23] (by decide +kernel) (by decide +kernel)
set_option maxRecDepth 20000 in
theorem gX4_mealsIn_X5_size : GoodIn wsX4_mealsIn (wsV RX4 56 RX5 yX5_size wsX5_size) := goodIn_app (goodIn_of _ (by decide +kernel)) ggX4_mealsIn_X5_size
set_option maxRecDepth 20000 in
theorem ggX4_mealsIn_X5_at : GoodIn wsX4_mealsIn wsX5_at := goodIn_r _ [11, 12, 13, 20, 21, 22, 23] (by decide +kernel) (by decide +kernel)
set_option maxRecDepth 20000 in
theorem gX4_mealsIn_X5_at : GoodIn wsX4_mealsIn (wsV RX4 52 RX5 yX5_at wsX5_at) := goodIn_app (goodIn_of _ (by decide +kernel)) ggX4_mealsIn_X5_at
theorem dX4_mealsIn_0 : decode cX4_mealsIn 0 = .ok (.iconst 0, 1) := by decide +kernel
theorem dX4_mealsIn_1 : decode cX4_mealsIn 1 = .ok (.istore_n 2, 1) := by decide +kernel
theorem dX4_mealsIn_2 : decode cX4_mealsIn 2 = .ok (.iconst 0, 1) := by decide +kernel
theorem dX4_mealsIn_3 : decode cX4_mealsIn 3 = .ok (.istore_n 3, 1) := by decide +kernel
theorem dX4_mealsIn_4 : decode cX4_mealsIn 4 = .ok (.iload_n 3, 1) := by decide +kernel
theorem dX4_mealsIn_5 : decode cX4_mealsIn 5 = .ok (.aload_n 0, 1) := by decide +kernel
theorem dX4_mealsIn_6 : decode cX4_mealsIn 6 = .ok (.getfield 20, 3) := by decide +kernel
theorem dX4_mealsIn_9 : decode cX4_mealsIn 9 = .ok (.invokevirtual 56, 3) := by decide +kernel
theorem dX4_mealsIn_12 : decode cX4_mealsIn 12 = .ok (.if_icmp .ge 41, 3) := by decide +kernel
theorem dX4_mealsIn_15 : decode cX4_mealsIn 15 = .ok (.aload_n 0, 1) := by decide +kernel
theorem dX4_mealsIn_16 : decode cX4_mealsIn 16 = .ok (.getfield 20, 3) := by decide +kernel
theorem dX4_mealsIn_19 : decode cX4_mealsIn 19 = .ok (.iload_n 3, 1) := by decide +kernel
theorem dX4_mealsIn_20 : decode cX4_mealsIn 20 = .ok (.iconst 0, 1) := by decide +kernel
theorem dX4_mealsIn_21 : decode cX4_mealsIn 21 = .ok (.invokevirtual 52, 3) := by decide +kernel
theorem dX4_mealsIn_24 : decode cX4_mealsIn 24 = .ok (.iconst 1, 1) := by decide +kernel
theorem dX4_mealsIn_25 : decode cX4_mealsIn 25 = .ok (.if_icmp .gt 22, 3) := by decide +kernel
theorem dX4_mealsIn_28 : decode cX4_mealsIn 28 = .ok (.aload_n 0, 1) := by decide +kernel
theorem dX4_mealsIn_29 : decode cX4_mealsIn 29 = .ok (.getfield 20, 3) := by decide +kernel
theorem dX4_mealsIn_32 : decode cX4_mealsIn 32 = .ok (.iload_n 3, 1) := by decide +kernel
theorem dX4_mealsIn_33 : decode cX4_mealsIn 33 = .ok (.iconst 1, 1) := by decide +kernel
theorem dX4_mealsIn_34 : decode cX4_mealsIn 34 = .ok (.invokevirtual 52, 3) := by decide +kernel
theorem dX4_mealsIn_37 : decode cX4_mealsIn 37 = .ok (.iload_n 1, 1) := by decide +kernel
theorem dX4_mealsIn_38 : decode cX4_mealsIn 38 = .ok (.if_icmp .ne 9, 3) := by decide +kernel
theorem dX4_mealsIn_41 : decode cX4_mealsIn 41 = .ok (.iload_n 2, 1) := by decide +kernel
theorem dX4_mealsIn_42 : decode cX4_mealsIn 42 = .ok (.iconst 1, 1) := by decide +kernel
theorem dX4_mealsIn_43 : decode cX4_mealsIn 43 = .ok (.iload_n 3, 1) := by decide +kernel
theorem dX4_mealsIn_44 : decode cX4_mealsIn 44 = .ok (.ishl, 1) := by decide +kernel
theorem dX4_mealsIn_45 : decode cX4_mealsIn 45 = .ok (.ior, 1) := by decide +kernel
theorem dX4_mealsIn_46 : decode cX4_mealsIn 46 = .ok (.istore_n 2, 1) := by decide +kernel
theorem dX4_mealsIn_47 : decode cX4_mealsIn 47 = .ok (.iinc 3 1, 3) := by decide +kernel
theorem dX4_mealsIn_50 : decode cX4_mealsIn 50 = .ok (.goto (-46), 3) := by decide +kernel
theorem dX4_mealsIn_53 : decode cX4_mealsIn 53 = .ok (.iload_n 2, 1) := by decide +kernel
theorem dX4_mealsIn_54 : decode cX4_mealsIn 54 = .ok (.ireturn, 1) := by decide +kernel
set_option maxRecDepth 20000 in
theorem ggX4_mealsWith_X5_size : GoodIn wsX4_mealsWith wsX5_size := goodIn_r _ [6, 7, 20, 21, 22, 23] (by decide +kernel) (by decide +kernel)
set_option maxRecDepth 20000 in
theorem gX4_mealsWith_X5_size : GoodIn wsX4_mealsWith (wsV RX4 56 RX5 yX5_size wsX5_size) := goodIn_app (goodIn_of _ (by decide +kernel)) ggX4_mealsWith_X5_size
set_option maxRecDepth 20000 in
theorem ggX4_mealsWith_X5_at : GoodIn wsX4_mealsWith wsX5_at := goodIn_r _ [11, 12, 13, 20, 21, 22, 23] (by decide +kernel) (by decide +kernel)
set_option maxRecDepth 20000 in
theorem gX4_mealsWith_X5_at : GoodIn wsX4_mealsWith (wsV RX4 52 RX5 yX5_at wsX5_at) := goodIn_app (goodIn_of _ (by decide +kernel)) ggX4_mealsWith_X5_at
theorem dX4_mealsWith_0 : decode cX4_mealsWith 0 = .ok (.iconst 0, 1) := by decide +kernel
theorem dX4_mealsWith_1 : decode cX4_mealsWith 1 = .ok (.istore_n 2, 1) := by decide +kernel
theorem dX4_mealsWith_2 : decode cX4_mealsWith 2 = .ok (.iconst 0, 1) := by decide +kernel
theorem dX4_mealsWith_3 : decode cX4_mealsWith 3 = .ok (.istore_n 3, 1) := by decide +kernel
theorem dX4_mealsWith_4 : decode cX4_mealsWith 4 = .ok (.iload_n 3, 1) := by decide +kernel
theorem dX4_mealsWith_5 : decode cX4_mealsWith 5 = .ok (.aload_n 0, 1) := by decide +kernel
theorem dX4_mealsWith_6 : decode cX4_mealsWith 6 = .ok (.getfield 20, 3) := by decide +kernel
theorem dX4_mealsWith_9 : decode cX4_mealsWith 9 = .ok (.invokevirtual 56, 3) := by decide +kernel
theorem dX4_mealsWith_12 : decode cX4_mealsWith 12 = .ok (.if_icmp .ge 42, 3) := by decide +kernel
theorem dX4_mealsWith_15 : decode cX4_mealsWith 15 = .ok (.aload_n 0, 1) := by decide +kernel
theorem dX4_mealsWith_16 : decode cX4_mealsWith 16 = .ok (.getfield 20, 3) := by decide +kernel
theorem dX4_mealsWith_19 : decode cX4_mealsWith 19 = .ok (.iload_n 3, 1) := by decide +kernel
theorem dX4_mealsWith_20 : decode cX4_mealsWith 20 = .ok (.iconst 0, 1) := by decide +kernel
theorem dX4_mealsWith_21 : decode cX4_mealsWith 21 = .ok (.invokevirtual 52, 3) := by decide +kernel
theorem dX4_mealsWith_24 : decode cX4_mealsWith 24 = .ok (.iconst 2, 1) := by decide +kernel
theorem dX4_mealsWith_25 : decode cX4_mealsWith 25 = .ok (.if_icmp .ne 23, 3) := by decide +kernel
theorem dX4_mealsWith_28 : decode cX4_mealsWith 28 = .ok (.aload_n 0, 1) := by decide +kernel
theorem dX4_mealsWith_29 : decode cX4_mealsWith 29 = .ok (.getfield 20, 3) := by decide +kernel
theorem dX4_mealsWith_32 : decode cX4_mealsWith 32 = .ok (.iload_n 3, 1) := by decide +kernel
theorem dX4_mealsWith_33 : decode cX4_mealsWith 33 = .ok (.bipush 6, 2) := by decide +kernel
theorem dX4_mealsWith_35 : decode cX4_mealsWith 35 = .ok (.invokevirtual 52, 3) := by decide +kernel
theorem dX4_mealsWith_38 : decode cX4_mealsWith 38 = .ok (.iload_n 1, 1) := by decide +kernel
theorem dX4_mealsWith_39 : decode cX4_mealsWith 39 = .ok (.if_icmp .ne 9, 3) := by decide +kernel
theorem dX4_mealsWith_42 : decode cX4_mealsWith 42 = .ok (.iload_n 2, 1) := by decide +kernel
theorem dX4_mealsWith_43 : decode cX4_mealsWith 43 = .ok (.iconst 1, 1) := by decide +kernel
theorem dX4_mealsWith_44 : decode cX4_mealsWith 44 = .ok (.iload_n 3, 1) := by decide +kernel
theorem dX4_mealsWith_45 : decode cX4_mealsWith 45 = .ok (.ishl, 1) := by decide +kernel
theorem dX4_mealsWith_46 : decode cX4_mealsWith 46 = .ok (.ior, 1) := by decide +kernel
theorem dX4_mealsWith_47 : decode cX4_mealsWith 47 = .ok (.istore_n 2, 1) := by decide +kernel
theorem dX4_mealsWith_48 : decode cX4_mealsWith 48 = .ok (.iinc 3 1, 3) := by decide +kernel
theorem dX4_mealsWith_51 : decode cX4_mealsWith 51 = .ok (.goto (-47), 3) := by decide +kernel
theorem dX4_mealsWith_54 : decode cX4_mealsWith 54 = .ok (.iload_n 2, 1) := by decide +kernel
theorem dX4_mealsWith_55 : decode cX4_mealsWith 55 = .ok (.ireturn, 1) := by decide +kernel
set_option maxRecDepth 20000 in
theorem ggX4_mealsSpoilt_X5_size : GoodIn wsX4_mealsSpoilt wsX5_size := goodIn_r _ [6, 7, 20, 21, 22, 23] (by decide +kernel) (by decide +kernel)
set_option maxRecDepth 20000 in
theorem gX4_mealsSpoilt_X5_size : GoodIn wsX4_mealsSpoilt (wsV RX4 56 RX5 yX5_size wsX5_size) := goodIn_app (goodIn_of _ (by decide +kernel)) ggX4_mealsSpoilt_X5_size
set_option maxRecDepth 20000 in
theorem ggX4_mealsSpoilt_X5_at : GoodIn wsX4_mealsSpoilt wsX5_at := goodIn_r _ [11, 12, 13, 20, 21, 22, 23] (by decide +kernel) (by decide +kernel)
set_option maxRecDepth 20000 in
theorem gX4_mealsSpoilt_X5_at : GoodIn wsX4_mealsSpoilt (wsV RX4 52 RX5 yX5_at wsX5_at) := goodIn_app (goodIn_of _ (by decide +kernel)) ggX4_mealsSpoilt_X5_at
theorem dX4_mealsSpoilt_0 : decode cX4_mealsSpoilt 0 = .ok (.iconst 0, 1) := by decide +kernel
theorem dX4_mealsSpoilt_1 : decode cX4_mealsSpoilt 1 = .ok (.istore_n 1, 1) := by decide +kernel
theorem dX4_mealsSpoilt_2 : decode cX4_mealsSpoilt 2 = .ok (.iconst 0, 1) := by decide +kernel
theorem dX4_mealsSpoilt_3 : decode cX4_mealsSpoilt 3 = .ok (.istore_n 2, 1) := by decide +kernel
theorem dX4_mealsSpoilt_4 : decode cX4_mealsSpoilt 4 = .ok (.iload_n 2, 1) := by decide +kernel
theorem dX4_mealsSpoilt_5 : decode cX4_mealsSpoilt 5 = .ok (.aload_n 0, 1) := by decide +kernel
theorem dX4_mealsSpoilt_6 : decode cX4_mealsSpoilt 6 = .ok (.getfield 20, 3) := by decide +kernel
theorem dX4_mealsSpoilt_9 : decode cX4_mealsSpoilt 9 = .ok (.invokevirtual 56, 3) := by decide +kernel
theorem dX4_mealsSpoilt_12 : decode cX4_mealsSpoilt 12 = .ok (.if_icmp .ge 28, 3) := by decide +kernel
theorem dX4_mealsSpoilt_15 : decode cX4_mealsSpoilt 15 = .ok (.aload_n 0, 1) := by decide +kernel
theorem dX4_mealsSpoilt_16 : decode cX4_mealsSpoilt 16 = .ok (.getfield 20, 3) := by decide +kernel
theorem dX4_mealsSpoilt_19 : decode cX4_mealsSpoilt 19 = .ok (.iload_n 2, 1) := by decide +kernel
theorem dX4_mealsSpoilt_20 : decode cX4_mealsSpoilt 20 = .ok (.iconst 0, 1) := by decide +kernel
theorem dX4_mealsSpoilt_21 : decode cX4_mealsSpoilt 21 = .ok (.invokevirtual 52, 3) := by decide +kernel
theorem dX4_mealsSpoilt_24 : decode cX4_mealsSpoilt 24 = .ok (.iconst 5, 1) := by decide +kernel
theorem dX4_mealsSpoilt_25 : decode cX4_mealsSpoilt 25 = .ok (.if_icmp .ne 9, 3) := by decide +kernel
theorem dX4_mealsSpoilt_28 : decode cX4_mealsSpoilt 28 = .ok (.iload_n 1, 1) := by decide +kernel
theorem dX4_mealsSpoilt_29 : decode cX4_mealsSpoilt 29 = .ok (.iconst 1, 1) := by decide +kernel
theorem dX4_mealsSpoilt_30 : decode cX4_mealsSpoilt 30 = .ok (.iload_n 2, 1) := by decide +kernel
theorem dX4_mealsSpoilt_31 : decode cX4_mealsSpoilt 31 = .ok (.ishl, 1) := by decide +kernel
theorem dX4_mealsSpoilt_32 : decode cX4_mealsSpoilt 32 = .ok (.ior, 1) := by decide +kernel
theorem dX4_mealsSpoilt_33 : decode cX4_mealsSpoilt 33 = .ok (.istore_n 1, 1) := by decide +kernel
theorem dX4_mealsSpoilt_34 : decode cX4_mealsSpoilt 34 = .ok (.iinc 2 1, 3) := by decide +kernel
theorem dX4_mealsSpoilt_37 : decode cX4_mealsSpoilt 37 = .ok (.goto (-33), 3) := by decide +kernel
theorem dX4_mealsSpoilt_40 : decode cX4_mealsSpoilt 40 = .ok (.iload_n 1, 1) := by decide +kernel
theorem dX4_mealsSpoilt_41 : decode cX4_mealsSpoilt 41 = .ok (.ireturn, 1) := by decide +kernel
set_option maxRecDepth 20000 in
theorem ggX4_freeCells_X5_at : GoodIn wsX4_freeCells wsX5_at := goodIn_r _ [6, 7, 8, 33, 34, 35, 36] (by decide +kernel) (by decide +kernel)
set_option maxRecDepth 20000 in
theorem gX4_freeCells_X5_at : GoodIn wsX4_freeCells (wsV RX4 52 RX5 yX5_at wsX5_at) := goodIn_app (goodIn_of _ (by decide +kernel)) ggX4_freeCells_X5_at
set_option maxRecDepth 20000 in
theorem ggX4_freeCells_X4_mealsIn : GoodIn wsX4_freeCells wsX4_mealsIn := goodIn_r _ [13, 14, 15, 16, 17, 5, 18, 19, 2, 3, 4, 6, 7, 8, 27, 28, 29, 30, 31, 32, 33, 34, 35, 36] (by decide +kernel) (by decide +kernel)
set_option maxRecDepth 20000 in
theorem gX4_freeCells_X4_mealsIn : GoodIn wsX4_freeCells (wsV RX4 59 RX4 yX4_mealsIn wsX4_mealsIn) := goodIn_app (goodIn_of _ (by decide +kernel)) ggX4_freeCells_X4_mealsIn
set_option maxRecDepth 20000 in
theorem ggX4_freeCells_J6_bitCount_0f7a4 : GoodIn wsX4_freeCells wsJ6_bitCount_0f7a4 := goodIn_r _ [23, 24, 25, 26] (by decide +kernel) (by decide +kernel)
set_option maxRecDepth 20000 in
theorem gX4_freeCells_J6_bitCount_0f7a4 : GoodIn wsX4_freeCells (va_wsS RX4 63 yJ6_bitCount_0f7a4 wsJ6_bitCount_0f7a4) := goodIn_app (goodIn_of _ (by decide +kernel)) ggX4_freeCells_J6_bitCount_0f7a4
theorem dX4_freeCells_0 : decode cX4_freeCells 0 = .ok (.aload_n 0, 1) := by decide +kernel
theorem dX4_freeCells_1 : decode cX4_freeCells 1 = .ok (.getfield 14, 3) := by decide +kernel
theorem dX4_freeCells_4 : decode cX4_freeCells 4 = .ok (.iload_n 1, 1) := by decide +kernel
theorem dX4_freeCells_5 : decode cX4_freeCells 5 = .ok (.iconst 0, 1) := by decide +kernel
theorem dX4_freeCells_6 : decode cX4_freeCells 6 = .ok (.invokevirtual 52, 3) := by decide +kernel
theorem dX4_freeCells_9 : decode cX4_freeCells 9 = .ok (.aload_n 0, 1) := by decide +kernel
theorem dX4_freeCells_10 : decode cX4_freeCells 10 = .ok (.iload_n 1, 1) := by decide +kernel
theorem dX4_freeCells_11 : decode cX4_freeCells 11 = .ok (.invokevirtual 59, 3) := by decide +kernel
theorem dX4_freeCells_14 : decode cX4_freeCells 14 = .ok (.invokestatic 63, 3) := by decide +kernel
theorem dX4_freeCells_17 : decode cX4_freeCells 17 = .ok (.isub, 1) := by decide +kernel
theorem dX4_freeCells_18 : decode cX4_freeCells 18 = .ok (.ireturn, 1) := by decide +kernel
set_option maxRecDepth 20000 in
theorem ggX4_mealReservedBy_X5_size : GoodIn wsX4_mealReservedBy wsX5_size := goodIn_r _ [6, 7, 20, 21, 22, 23] (by decide +kernel) (by decide +kernel)
set_option maxRecDepth 20000 in
theorem gX4_mealReservedBy_X5_size : GoodIn wsX4_mealReservedBy (wsV RX4 56 RX5 yX5_size wsX5_size) := goodIn_app (goodIn_of _ (by decide +kernel)) ggX4_mealReservedBy_X5_size
set_option maxRecDepth 20000 in
theorem ggX4_mealReservedBy_X5_at : GoodIn wsX4_mealReservedBy wsX5_at := goodIn_r _ [11, 12, 13, 20, 21, 22, 23] (by decide +kernel) (by decide +kernel)
set_option maxRecDepth 20000 in
theorem gX4_mealReservedBy_X5_at : GoodIn wsX4_mealReservedBy (wsV RX4 52 RX5 yX5_at wsX5_at) := goodIn_app (goodIn_of _ (by decide +kernel)) ggX4_mealReservedBy_X5_at
theorem dX4_mealReservedBy_0 : decode cX4_mealReservedBy 0 = .ok (.iconst 0, 1) := by decide +kernel
theorem dX4_mealReservedBy_1 : decode cX4_mealReservedBy 1 = .ok (.istore_n 2, 1) := by decide +kernel
theorem dX4_mealReservedBy_2 : decode cX4_mealReservedBy 2 = .ok (.iload_n 2, 1) := by decide +kernel
theorem dX4_mealReservedBy_3 : decode cX4_mealReservedBy 3 = .ok (.aload_n 0, 1) := by decide +kernel
theorem dX4_mealReservedBy_4 : decode cX4_mealReservedBy 4 = .ok (.getfield 20, 3) := by decide +kernel
theorem dX4_mealReservedBy_7 : decode cX4_mealReservedBy 7 = .ok (.invokevirtual 56, 3) := by decide +kernel
theorem dX4_mealReservedBy_10 : decode cX4_mealReservedBy 10 = .ok (.if_icmp .ge 37, 3) := by decide +kernel
theorem dX4_mealReservedBy_13 : decode cX4_mealReservedBy 13 = .ok (.aload_n 0, 1) := by decide +kernel
theorem dX4_mealReservedBy_14 : decode cX4_mealReservedBy 14 = .ok (.getfield 20, 3) := by decide +kernel
theorem dX4_mealReservedBy_17 : decode cX4_mealReservedBy 17 = .ok (.iload_n 2, 1) := by decide +kernel
theorem dX4_mealReservedBy_18 : decode cX4_mealReservedBy 18 = .ok (.iconst 0, 1) := by decide +kernel
theorem dX4_mealReservedBy_19 : decode cX4_mealReservedBy 19 = .ok (.invokevirtual 52, 3) := by decide +kernel
theorem dX4_mealReservedBy_22 : decode cX4_mealReservedBy 22 = .ok (.iconst 1, 1) := by decide +kernel
theorem dX4_mealReservedBy_23 : decode cX4_mealReservedBy 23 = .ok (.if_icmp .ne 18, 3) := by decide +kernel
theorem dX4_mealReservedBy_26 : decode cX4_mealReservedBy 26 = .ok (.aload_n 0, 1) := by decide +kernel
theorem dX4_mealReservedBy_27 : decode cX4_mealReservedBy 27 = .ok (.getfield 20, 3) := by decide +kernel
theorem dX4_mealReservedBy_30 : decode cX4_mealReservedBy 30 = .ok (.iload_n 2, 1) := by decide +kernel
theorem dX4_mealReservedBy_31 : decode cX4_mealReservedBy 31 = .ok (.iconst 5, 1) := by decide +kernel
theorem dX4_mealReservedBy_32 : decode cX4_mealReservedBy 32 = .ok (.invokevirtual 52, 3) := by decide +kernel
theorem dX4_mealReservedBy_35 : decode cX4_mealReservedBy 35 = .ok (.iload_n 1, 1) := by decide +kernel
theorem dX4_mealReservedBy_36 : decode cX4_mealReservedBy 36 = .ok (.if_icmp .ne 5, 3) := by decide +kernel
theorem dX4_mealReservedBy_39 : decode cX4_mealReservedBy 39 = .ok (.iload_n 2, 1) := by decide +kernel
theorem dX4_mealReservedBy_40 : decode cX4_mealReservedBy 40 = .ok (.ireturn, 1) := by decide +kernel
theorem dX4_mealReservedBy_41 : decode cX4_mealReservedBy 41 = .ok (.iinc 2 1, 3) := by decide +kernel
theorem dX4_mealReservedBy_44 : decode cX4_mealReservedBy 44 = .ok (.goto (-42), 3) := by decide +kernel
theorem dX4_mealReservedBy_47 : decode cX4_mealReservedBy 47 = .ok (.bipush (-4), 2) := by decide +kernel
theorem dX4_mealReservedBy_49 : decode cX4_mealReservedBy 49 = .ok (.ireturn, 1) := by decide +kernel
set_option maxRecDepth 20000 in
theorem ggX4_isFitFor_X5_at : GoodIn wsX4_isFitFor wsX5_at := goodIn_r _ [7, 8, 9, 16, 17, 18, 19] (by decide +kernel) (by decide +kernel)
set_option maxRecDepth 20000 in
theorem gX4_isFitFor_X5_at : GoodIn wsX4_isFitFor (wsV RX4 52 RX5 yX5_at wsX5_at) := goodIn_app (goodIn_of _ (by decide +kernel)) ggX4_isFitFor_X5_at
theorem dX4_isFitFor_0 : decode cX4_isFitFor 0 = .ok (.aload_n 0, 1) := by decide +kernel
theorem dX4_isFitFor_1 : decode cX4_isFitFor 1 = .ok (.getfield 20, 3) := by decide +kernel
theorem dX4_isFitFor_4 : decode cX4_isFitFor 4 = .ok (.iload_n 2, 1) := by decide +kernel
theorem dX4_isFitFor_5 : decode cX4_isFitFor 5 = .ok (.iconst 3, 1) := by decide +kernel
theorem dX4_isFitFor_6 : decode cX4_isFitFor 6 = .ok (.invokevirtual 52, 3) := by decide +kernel
theorem dX4_isFitFor_9 : decode cX4_isFitFor 9 = .ok (.aload_n 0, 1) := by decide +kernel
theorem dX4_isFitFor_10 : decode cX4_isFitFor 10 = .ok (.getfield 23, 3) := by decide +kernel
theorem dX4_isFitFor_13 : decode cX4_isFitFor 13 = .ok (.iload_n 1, 1) := by decide +kernel
theorem dX4_isFitFor_14 : decode cX4_isFitFor 14 = .ok (.iconst 0, 1) := by decide +kernel
theorem dX4_isFitFor_15 : decode cX4_isFitFor 15 = .ok (.invokevirtual 52, 3) := by decide +kernel
theorem dX4_isFitFor_18 : decode cX4_isFitFor 18 = .ok (.iand, 1) := by decide +kernel
theorem dX4_isFitFor_19 : decode cX4_isFitFor 19 = .ok (.istore_n 3, 1) := by decide +kernel
theorem dX4_isFitFor_20 : decode cX4_isFitFor 20 = .ok (.aload_n 0, 1) := by decide +kernel
theorem dX4_isFitFor_21 : decode cX4_isFitFor 21 = .ok (.getfield 20, 3) := by decide +kernel
theorem dX4_isFitFor_24 : decode cX4_isFitFor 24 = .ok (.iload_n 2, 1) := by decide +kernel
theorem dX4_isFitFor_25 : decode cX4_isFitFor 25 = .ok (.iconst 0, 1) := by decide +kernel
theorem dX4_isFitFor_26 : decode cX4_isFitFor 26 = .ok (.invokevirtual 52, 3) := by decide +kernel
theorem dX4_isFitFor_29 : decode cX4_isFitFor 29 = .ok (.ifCond .ne 11, 3) := by decide +kernel
theorem dX4_isFitFor_32 : decode cX4_isFitFor 32 = .ok (.iload_n 3, 1) := by decide +kernel
theorem dX4_isFitFor_33 : decode cX4_isFitFor 33 = .ok (.ifCond .ne 7, 3) := by decide +kernel
theorem dX4_isFitFor_36 : decode cX4_isFitFor 36 = .ok (.iconst 1, 1) := by decide +kernel
theorem dX4_isFitFor_37 : decode cX4_isFitFor 37 = .ok (.goto 4, 3) := by decide +kernel
theorem dX4_isFitFor_40 : decode cX4_isFitFor 40 = .ok (.iconst 0, 1) := by decide +kernel
theorem dX4_isFitFor_41 : decode cX4_isFitFor 41 = .ok (.ireturn, 1) := by decide +kernel
set_option maxRecDepth 20000 in
theorem ggX4_barredHours_X5_at : GoodIn wsX4_barredHours wsX5_at := goodIn_r _ [11, 12, 13, 20, 21, 22, 23] (by decide +kernel) (by decide +kernel)
set_option maxRecDepth 20000 in
theorem gX4_barredHours_X5_at : GoodIn wsX4_barredHours (wsV RX4 52 RX5 yX5_at wsX5_at) := goodIn_app (goodIn_of _ (by decide +kernel)) ggX4_barredHours_X5_at
theorem dX4_barredHours_0 : decode cX4_barredHours 0 = .ok (.iconst 0, 1) := by decide +kernel
theorem dX4_barredHours_1 : decode cX4_barredHours 1 = .ok (.aload_n 0, 1) := by decide +kernel
theorem dX4_barredHours_2 : decode cX4_barredHours 2 = .ok (.getfield 23, 3) := by decide +kernel
theorem dX4_barredHours_5 : decode cX4_barredHours 5 = .ok (.iload_n 1, 1) := by decide +kernel
theorem dX4_barredHours_6 : decode cX4_barredHours 6 = .ok (.iconst 2, 1) := by decide +kernel
theorem dX4_barredHours_7 : decode cX4_barredHours 7 = .ok (.invokevirtual 52, 3) := by decide +kernel
theorem dX4_barredHours_10 : decode cX4_barredHours 10 = .ok (.aload_n 0, 1) := by decide +kernel
theorem dX4_barredHours_11 : decode cX4_barredHours 11 = .ok (.getfield 48, 3) := by decide +kernel
theorem dX4_barredHours_14 : decode cX4_barredHours 14 = .ok (.isub, 1) := by decide +kernel
theorem dX4_barredHours_15 : decode cX4_barredHours 15 = .ok (.invokestatic 68, 3) := by decide +kernel
theorem dX4_barredHours_18 : decode cX4_barredHours 18 = .ok (.ireturn, 1) := by decide +kernel
set_option maxRecDepth 20000 in
theorem ggX4_wayHoursLeft_X5_at : GoodIn wsX4_wayHoursLeft wsX5_at := goodIn_r _ [11, 12, 13, 20, 21, 22, 23] (by decide +kernel) (by decide +kernel)
set_option maxRecDepth 20000 in
theorem gX4_wayHoursLeft_X5_at : GoodIn wsX4_wayHoursLeft (wsV RX4 52 RX5 yX5_at wsX5_at) := goodIn_app (goodIn_of _ (by decide +kernel)) ggX4_wayHoursLeft_X5_at
theorem dX4_wayHoursLeft_0 : decode cX4_wayHoursLeft 0 = .ok (.iconst 0, 1) := by decide +kernel
theorem dX4_wayHoursLeft_1 : decode cX4_wayHoursLeft 1 = .ok (.aload_n 0, 1) := by decide +kernel
theorem dX4_wayHoursLeft_2 : decode cX4_wayHoursLeft 2 = .ok (.getfield 26, 3) := by decide +kernel
theorem dX4_wayHoursLeft_5 : decode cX4_wayHoursLeft 5 = .ok (.iload_n 1, 1) := by decide +kernel
theorem dX4_wayHoursLeft_6 : decode cX4_wayHoursLeft 6 = .ok (.iconst 3, 1) := by decide +kernel
theorem dX4_wayHoursLeft_7 : decode cX4_wayHoursLeft 7 = .ok (.invokevirtual 52, 3) := by decide +kernel
theorem dX4_wayHoursLeft_10 : decode cX4_wayHoursLeft 10 = .ok (.aload_n 0, 1) := by decide +kernel
theorem dX4_wayHoursLeft_11 : decode cX4_wayHoursLeft 11 = .ok (.getfield 48, 3) := by decide +kernel
theorem dX4_wayHoursLeft_14 : decode cX4_wayHoursLeft 14 = .ok (.isub, 1) := by decide +kernel
theorem dX4_wayHoursLeft_15 : decode cX4_wayHoursLeft 15 = .ok (.invokestatic 68, 3) := by decide +kernel
theorem dX4_wayHoursLeft_18 : decode cX4_wayHoursLeft 18 = .ok (.ireturn, 1) := by decide +kernel
set_option maxRecDepth 20000 in
theorem ggX4_wayHours_X4_setting : GoodIn wsX4_wayHours wsX4_setting := goodIn_r _ [9, 10, 11, 12, 13, 14, 15, 16, 17, 18, 19, 20, 21, 22, 23, 24, 25, 26, 27] (by decide +kernel) (by decide +kernel)
set_option maxRecDepth 20000 in
theorem gX4_wayHours_X4_setting : GoodIn wsX4_wayHours (wsV RX4 76 RX4 yX4_setting wsX4_setting) := goodIn_app (goodIn_of _ (by decide +kernel)) ggX4_wayHours_X4_setting
theorem dX4_wayHours_0 : decode cX4_wayHours 0 = .ok (.iload_n 1, 1) := by decide +kernel
theorem dX4_wayHours_1 : decode cX4_wayHours 1 = .ok (.iload_n 2, 1) := by decide +kernel
theorem dX4_wayHours_2 : decode cX4_wayHours 2 = .ok (.isub, 1) := by decide +kernel
theorem dX4_wayHours_3 : decode cX4_wayHours 3 = .ok (.invokestatic 73, 3) := by decide +kernel
theorem dX4_wayHours_6 : decode cX4_wayHours 6 = .ok (.aload_n 0, 1) := by decide +kernel
theorem dX4_wayHours_7 : decode cX4_wayHours 7 = .ok (.iconst 3, 1) := by decide +kernel
theorem dX4_wayHours_8 : decode cX4_wayHours 8 = .ok (.invokevirtual 76, 3) := by decide +kernel
theorem dX4_wayHours_11 : decode cX4_wayHours 11 = .ok (.imul, 1) := by decide +kernel
theorem dX4_wayHours_12 : decode cX4_wayHours 12 = .ok (.ireturn, 1) := by decide +kernel
set_option maxRecDepth 20000 in
theorem ggX4_isCold_X5_at : GoodIn wsX4_isCold wsX5_at := goodIn_r _ [6, 7, 8, 15, 16, 17, 18] (by decide +kernel) (by decide +kernel)
set_option maxRecDepth 20000 in
theorem gX4_isCold_X5_at : GoodIn wsX4_isCold (wsV RX4 52 RX5 yX5_at wsX5_at) := goodIn_app (goodIn_of _ (by decide +kernel)) ggX4_isCold_X5_at
theorem dX4_isCold_0 : decode cX4_isCold 0 = .ok (.aload_n 0, 1) := by decide +kernel
theorem dX4_isCold_1 : decode cX4_isCold 1 = .ok (.getfield 14, 3) := by decide +kernel
theorem dX4_isCold_4 : decode cX4_isCold 4 = .ok (.iload_n 1, 1) := by decide +kernel
theorem dX4_isCold_5 : decode cX4_isCold 5 = .ok (.iconst 1, 1) := by decide +kernel
theorem dX4_isCold_6 : decode cX4_isCold 6 = .ok (.invokevirtual 52, 3) := by decide +kernel
theorem dX4_isCold_9 : decode cX4_isCold 9 = .ok (.iconst 1, 1) := by decide +kernel
theorem dX4_isCold_10 : decode cX4_isCold 10 = .ok (.if_icmp .ne 7, 3) := by decide +kernel
theorem dX4_isCold_13 : decode cX4_isCold 13 = .ok (.iconst 1, 1) := by decide +kernel
theorem dX4_isCold_14 : decode cX4_isCold 14 = .ok (.goto 4, 3) := by decide +kernel
theorem dX4_isCold_17 : decode cX4_isCold 17 = .ok (.iconst 0, 1) := by decide +kernel
theorem dX4_isCold_18 : decode cX4_isCold 18 = .ok (.ireturn, 1) := by decide +kernel
theorem dX5_init_0 : decode cX5_init 0 = .ok (.aload_n 0, 1) := by decide +kernel
theorem dX5_init_1 : decode cX5_init 1 = .ok (.invokespecial 1, 3) := by decide +kernel
theorem dX5_init_4 : decode cX5_init 4 = .ok (.aload_n 0, 1) := by decide +kernel
theorem dX5_init_5 : decode cX5_init 5 = .ok (.iload_n 1, 1) := by decide +kernel
theorem dX5_init_6 : decode cX5_init 6 = .ok (.putfield 7, 3) := by decide +kernel
theorem dX5_init_9 : decode cX5_init 9 = .ok (.aload_n 0, 1) := by decide +kernel
theorem dX5_init_10 : decode cX5_init 10 = .ok (.iload_n 2, 1) := by decide +kernel
theorem dX5_init_11 : decode cX5_init 11 = .ok (.putfield 13, 3) := by decide +kernel
theorem dX5_init_14 : decode cX5_init 14 = .ok (.aload_n 0, 1) := by decide +kernel
theorem dX5_init_15 : decode cX5_init 15 = .ok (.iconst 0, 1) := by decide +kernel
theorem dX5_init_16 : decode cX5_init 16 = .ok (.iload_n 1, 1) := by decide +kernel
theorem dX5_init_17 : decode cX5_init 17 = .ok (.iload_n 2, 1) := by decide +kernel
theorem dX5_init_18 : decode cX5_init 18 = .ok (.imul, 1) := by decide +kernel
theorem dX5_init_19 : decode cX5_init 19 = .ok (.invokestatic 16, 3) := by decide +kernel
theorem dX5_init_22 : decode cX5_init 22 = .ok (.newarray .int, 2) := by decide +kernel
theorem dX5_init_24 : decode cX5_init 24 = .ok (.putfield 22, 3) := by decide +kernel
theorem dX5_init_27 : decode cX5_init 27 = .ok (.return_, 1) := by decide +kernel
theorem dX5_size_0 : decode cX5_size 0 = .ok (.aload_n 0, 1) := by decide +kernel
theorem dX5_size_1 : decode cX5_size 1 = .ok (.getfield 26, 3) := by decide +kernel
theorem dX5_size_4 : decode cX5_size 4 = .ok (.ireturn, 1) := by decide +kernel
theorem dX5_has_0 : decode cX5_has 0 = .ok (.iload_n 1, 1) := by decide +kernel
theorem dX5_has_1 : decode cX5_has 1 = .ok (.ifCond .lt 15, 3) := by decide +kernel
theorem dX5_has_4 : decode cX5_has 4 = .ok (.iload_n 1, 1) := by decide +kernel
theorem dX5_has_5 : decode cX5_has 5 = .ok (.aload_n 0, 1) := by decide +kernel
theorem dX5_has_6 : decode cX5_has 6 = .ok (.getfield 26, 3) := by decide +kernel
theorem dX5_has_9 : decode cX5_has 9 = .ok (.if_icmp .ge 7, 3) := by decide +kernel
theorem dX5_has_12 : decode cX5_has 12 = .ok (.iconst 1, 1) := by decide +kernel
theorem dX5_has_13 : decode cX5_has 13 = .ok (.goto 4, 3) := by decide +kernel
theorem dX5_has_16 : decode cX5_has 16 = .ok (.iconst 0, 1) := by decide +kernel
theorem dX5_has_17 : decode cX5_has 17 = .ok (.ireturn, 1) := by decide +kernel
theorem dX5_isFull_0 : decode cX5_isFull 0 = .ok (.aload_n 0, 1) := by decide +kernel
theorem dX5_isFull_1 : decode cX5_isFull 1 = .ok (.getfield 26, 3) := by decide +kernel
theorem dX5_isFull_4 : decode cX5_isFull 4 = .ok (.aload_n 0, 1) := by decide +kernel
theorem dX5_isFull_5 : decode cX5_isFull 5 = .ok (.getfield 7, 3) := by decide +kernel
theorem dX5_isFull_8 : decode cX5_isFull 8 = .ok (.if_icmp .lt 7, 3) := by decide +kernel
theorem dX5_isFull_11 : decode cX5_isFull 11 = .ok (.iconst 1, 1) := by decide +kernel
theorem dX5_isFull_12 : decode cX5_isFull 12 = .ok (.goto 4, 3) := by decide +kernel
theorem dX5_isFull_15 : decode cX5_isFull 15 = .ok (.iconst 0, 1) := by decide +kernel
theorem dX5_isFull_16 : decode cX5_isFull 16 = .ok (.ireturn, 1) := by decide +kernel
theorem dX5_addRow_0 : decode cX5_addRow 0 = .ok (.aload_n 0, 1) := by decide +kernel
theorem dX5_addRow_1 : decode cX5_addRow 1 = .ok (.dup, 1) := by decide +kernel
theorem dX5_addRow_2 : decode cX5_addRow 2 = .ok (.getfield 26, 3) := by decide +kernel
theorem dX5_addRow_5 : decode cX5_addRow 5 = .ok (.iconst 1, 1) := by decide +kernel
theorem dX5_addRow_6 : decode cX5_addRow 6 = .ok (.iadd, 1) := by decide +kernel
theorem dX5_addRow_7 : decode cX5_addRow 7 = .ok (.putfield 26, 3) := by decide +kernel
theorem dX5_addRow_10 : decode cX5_addRow 10 = .ok (.aload_n 0, 1) := by decide +kernel
theorem dX5_addRow_11 : decode cX5_addRow 11 = .ok (.getfield 26, 3) := by decide +kernel
theorem dX5_addRow_14 : decode cX5_addRow 14 = .ok (.iconst 1, 1) := by decide +kernel
theorem dX5_addRow_15 : decode cX5_addRow 15 = .ok (.isub, 1) := by decide +kernel
theorem dX5_addRow_16 : decode cX5_addRow 16 = .ok (.ireturn, 1) := by decide +kernel
theorem dX5_at_0 : decode cX5_at 0 = .ok (.iload_n 1, 1) := by decide +kernel
theorem dX5_at_1 : decode cX5_at 1 = .ok (.aload_n 0, 1) := by decide +kernel
theorem dX5_at_2 : decode cX5_at 2 = .ok (.getfield 13, 3) := by decide +kernel
theorem dX5_at_5 : decode cX5_at 5 = .ok (.imul, 1) := by decide +kernel
theorem dX5_at_6 : decode cX5_at 6 = .ok (.iload_n 2, 1) := by decide +kernel
theorem dX5_at_7 : decode cX5_at 7 = .ok (.iadd, 1) := by decide +kernel
theorem dX5_at_8 : decode cX5_at 8 = .ok (.istore_n 3, 1) := by decide +kernel
theorem dX5_at_9 : decode cX5_at 9 = .ok (.iload_n 3, 1) := by decide +kernel
theorem dX5_at_10 : decode cX5_at 10 = .ok (.ifCond .lt 21, 3) := by decide +kernel
theorem dX5_at_13 : decode cX5_at 13 = .ok (.iload_n 3, 1) := by decide +kernel
theorem dX5_at_14 : decode cX5_at 14 = .ok (.aload_n 0, 1) := by decide +kernel
theorem dX5_at_15 : decode cX5_at 15 = .ok (.getfield 22, 3) := by decide +kernel
theorem dX5_at_18 : decode cX5_at 18 = .ok (.arraylength, 1) := by decide +kernel
theorem dX5_at_19 : decode cX5_at 19 = .ok (.if_icmp .ge 12, 3) := by decide +kernel
theorem dX5_at_22 : decode cX5_at 22 = .ok (.aload_n 0, 1) := by decide +kernel
theorem dX5_at_23 : decode cX5_at 23 = .ok (.getfield 22, 3) := by decide +kernel
theorem dX5_at_26 : decode cX5_at 26 = .ok (.iload_n 3, 1) := by decide +kernel
theorem dX5_at_27 : decode cX5_at 27 = .ok (.iaload, 1) := by decide +kernel
theorem dX5_at_28 : decode cX5_at 28 = .ok (.goto 4, 3) := by decide +kernel
theorem dX5_at_31 : decode cX5_at 31 = .ok (.iconst 0, 1) := by decide +kernel
theorem dX5_at_32 : decode cX5_at 32 = .ok (.ireturn, 1) := by decide +kernel
theorem dX5_store_0 : decode cX5_store 0 = .ok (.iload_n 1, 1) := by decide +kernel
theorem dX5_store_1 : decode cX5_store 1 = .ok (.aload_n 0, 1) := by decide +kernel
theorem dX5_store_2 : decode cX5_store 2 = .ok (.getfield 13, 3) := by decide +kernel
theorem dX5_store_5 : decode cX5_store 5 = .ok (.imul, 1) := by decide +kernel
theorem dX5_store_6 : decode cX5_store 6 = .ok (.iload_n 2, 1) := by decide +kernel
theorem dX5_store_7 : decode cX5_store 7 = .ok (.iadd, 1) := by decide +kernel
theorem dX5_store_8 : decode cX5_store 8 = .ok (.istore 4, 2) := by decide +kernel
theorem dX5_store_10 : decode cX5_store 10 = .ok (.iload 4, 2) := by decide +kernel
theorem dX5_store_12 : decode cX5_store 12 = .ok (.ifCond .lt 21, 3) := by decide +kernel
theorem dX5_store_15 : decode cX5_store 15 = .ok (.iload 4, 2) := by decide +kernel
theorem dX5_store_17 : decode cX5_store 17 = .ok (.aload_n 0, 1) := by decide +kernel
theorem dX5_store_18 : decode cX5_store 18 = .ok (.getfield 22, 3) := by decide +kernel
theorem dX5_store_21 : decode cX5_store 21 = .ok (.arraylength, 1) := by decide +kernel
theorem dX5_store_22 : decode cX5_store 22 = .ok (.if_icmp .ge 11, 3) := by decide +kernel
theorem dX5_store_25 : decode cX5_store 25 = .ok (.aload_n 0, 1) := by decide +kernel
theorem dX5_store_26 : decode cX5_store 26 = .ok (.getfield 22, 3) := by decide +kernel
theorem dX5_store_29 : decode cX5_store 29 = .ok (.iload 4, 2) := by decide +kernel
theorem dX5_store_31 : decode cX5_store 31 = .ok (.iload_n 3, 1) := by decide +kernel
theorem dX5_store_32 : decode cX5_store 32 = .ok (.iastore, 1) := by decide +kernel
theorem dX5_store_33 : decode cX5_store 33 = .ok (.return_, 1) := by decide +kernel
set_option maxRecDepth 20000 in
theorem ggX5_raise_X5_at : GoodIn wsX5_raise wsX5_at := goodIn_r _ [5, 6, 7, 12, 13, 14, 15] (by decide +kernel) (by decide +kernel)
set_option maxRecDepth 20000 in
theorem gX5_raise_X5_at : GoodIn wsX5_raise (wsV RX5 29 RX5 yX5_at wsX5_at) := goodIn_app (goodIn_of _ (by decide +kernel)) ggX5_raise_X5_at
set_option maxRecDepth 20000 in
theorem ggX5_raise_X5_store : GoodIn wsX5_raise wsX5_store := goodIn_r _ [11, 6, 7, 12, 13, 14, 15] (by decide +kernel) (by decide +kernel)
set_option maxRecDepth 20000 in
theorem gX5_raise_X5_store : GoodIn wsX5_raise (wsV RX5 32 RX5 yX5_store wsX5_store) := goodIn_app (goodIn_of _ (by decide +kernel)) ggX5_raise_X5_store
theorem dX5_raise_0 : decode cX5_raise 0 = .ok (.aload_n 0, 1) := by decide +kernel
theorem dX5_raise_1 : decode cX5_raise 1 = .ok (.iload_n 1, 1) := by decide +kernel
theorem dX5_raise_2 : decode cX5_raise 2 = .ok (.iload_n 2, 1) := by decide +kernel
theorem dX5_raise_3 : decode cX5_raise 3 = .ok (.aload_n 0, 1) := by decide +kernel
theorem dX5_raise_4 : decode cX5_raise 4 = .ok (.iload_n 1, 1) := by decide +kernel
theorem dX5_raise_5 : decode cX5_raise 5 = .ok (.iload_n 2, 1) := by decide +kernel
theorem dX5_raise_6 : decode cX5_raise 6 = .ok (.invokevirtual 29, 3) := by decide +kernel
theorem dX5_raise_9 : decode cX5_raise 9 = .ok (.iconst 1, 1) := by decide +kernel
theorem dX5_raise_10 : decode cX5_raise 10 = .ok (.iadd, 1) := by decide +kernel
theorem dX5_raise_11 : decode cX5_raise 11 = .ok (.invokevirtual 32, 3) := by decide +kernel
theorem dX5_raise_14 : decode cX5_raise 14 = .ok (.return_, 1) := by decide +kernel
theorem dX5_copyFrom_0 : decode cX5_copyFrom 0 = .ok (.aload_n 0, 1) := by decide +kernel
theorem dX5_copyFrom_1 : decode cX5_copyFrom 1 = .ok (.aload_n 1, 1) := by decide +kernel
theorem dX5_copyFrom_2 : decode cX5_copyFrom 2 = .ok (.getfield 26, 3) := by decide +kernel
theorem dX5_copyFrom_5 : decode cX5_copyFrom 5 = .ok (.putfield 26, 3) := by decide +kernel
theorem dX5_copyFrom_8 : decode cX5_copyFrom 8 = .ok (.iconst 0, 1) := by decide +kernel
theorem dX5_copyFrom_9 : decode cX5_copyFrom 9 = .ok (.istore_n 2, 1) := by decide +kernel
theorem dX5_copyFrom_10 : decode cX5_copyFrom 10 = .ok (.iload_n 2, 1) := by decide +kernel
theorem dX5_copyFrom_11 : decode cX5_copyFrom 11 = .ok (.aload_n 0, 1) := by decide +kernel
theorem dX5_copyFrom_12 : decode cX5_copyFrom 12 = .ok (.getfield 22, 3) := by decide +kernel
theorem dX5_copyFrom_15 : decode cX5_copyFrom 15 = .ok (.arraylength, 1) := by decide +kernel
theorem dX5_copyFrom_16 : decode cX5_copyFrom 16 = .ok (.if_icmp .ge 30, 3) := by decide +kernel
theorem dX5_copyFrom_19 : decode cX5_copyFrom 19 = .ok (.iload_n 2, 1) := by decide +kernel
theorem dX5_copyFrom_20 : decode cX5_copyFrom 20 = .ok (.aload_n 1, 1) := by decide +kernel
theorem dX5_copyFrom_21 : decode cX5_copyFrom 21 = .ok (.getfield 22, 3) := by decide +kernel
theorem dX5_copyFrom_24 : decode cX5_copyFrom 24 = .ok (.arraylength, 1) := by decide +kernel
theorem dX5_copyFrom_25 : decode cX5_copyFrom 25 = .ok (.if_icmp .ge 21, 3) := by decide +kernel
theorem dX5_copyFrom_28 : decode cX5_copyFrom 28 = .ok (.aload_n 0, 1) := by decide +kernel
theorem dX5_copyFrom_29 : decode cX5_copyFrom 29 = .ok (.getfield 22, 3) := by decide +kernel
theorem dX5_copyFrom_32 : decode cX5_copyFrom 32 = .ok (.iload_n 2, 1) := by decide +kernel
theorem dX5_copyFrom_33 : decode cX5_copyFrom 33 = .ok (.aload_n 1, 1) := by decide +kernel
theorem dX5_copyFrom_34 : decode cX5_copyFrom 34 = .ok (.getfield 22, 3) := by decide +kernel
theorem dX5_copyFrom_37 : decode cX5_copyFrom 37 = .ok (.iload_n 2, 1) := by decide +kernel
theorem dX5_copyFrom_38 : decode cX5_copyFrom 38 = .ok (.iaload, 1) := by decide +kernel
theorem dX5_copyFrom_39 : decode cX5_copyFrom 39 = .ok (.iastore, 1) := by decide +kernel
theorem dX5_copyFrom_40 : decode cX5_copyFrom 40 = .ok (.iinc 2 1, 3) := by decide +kernel
theorem dX5_copyFrom_43 : decode cX5_copyFrom 43 = .ok (.goto (-33), 3) := by decide +kernel
theorem dX5_copyFrom_46 : decode cX5_copyFrom 46 = .ok (.return_, 1) := by decide +kernel
theorem dX6_init_0 : decode cX6_init 0 = .ok (.aload_n 0, 1) := by decide +kernel
theorem dX6_init_1 : decode cX6_init 1 = .ok (.invokespecial 3, 3) := by decide +kernel
theorem dX6_init_4 : decode cX6_init 4 = .ok (.aload_n 0, 1) := by decide +kernel
theorem dX6_init_5 : decode cX6_init 5 = .ok (.bipush 60, 2) := by decide +kernel
theorem dX6_init_7 : decode cX6_init 7 = .ok (.newarray .char, 2) := by decide +kernel
theorem dX6_init_9 : decode cX6_init 9 = .ok (.putfield 9, 3) := by decide +kernel
theorem dX6_init_12 : decode cX6_init 12 = .ok (.return_, 1) := by decide +kernel
theorem dX6_length_0 : decode cX6_length 0 = .ok (.aload_n 0, 1) := by decide +kernel
theorem dX6_length_1 : decode cX6_length 1 = .ok (.getfield 15, 3) := by decide +kernel
theorem dX6_length_4 : decode cX6_length 4 = .ok (.ireturn, 1) := by decide +kernel
set_option maxRecDepth 20000 in
theorem ggX6_append_X7_isWithin : GoodIn wsX6_append wsX7_isWithin := goodIn_r _ [5] (by decide +kernel) (by decide +kernel)
set_option maxRecDepth 20000 in
theorem gX6_append_X7_isWithin_n19 : GoodIn wsX6_append (wsX7_isWithin) := ggX6_append_X7_isWithin
theorem dX6_append_0 : decode cX6_append 0 = .ok (.iload_n 1, 1) := by decide +kernel
theorem dX6_append_1 : decode cX6_append 1 = .ok (.bipush 32, 2) := by decide +kernel
theorem dX6_append_3 : decode cX6_append 3 = .ok (.bipush 126, 2) := by decide +kernel
theorem dX6_append_5 : decode cX6_append 5 = .ok (.invokestatic 19, 3) := by decide +kernel
theorem dX6_append_8 : decode cX6_append 8 = .ok (.ifCond .ne 5, 3) := by decide +kernel
theorem dX6_append_11 : decode cX6_append 11 = .ok (.iconst (-1), 1) := by decide +kernel
theorem dX6_append_12 : decode cX6_append 12 = .ok (.ireturn, 1) := by decide +kernel
theorem dX6_append_13 : decode cX6_append 13 = .ok (.aload_n 0, 1) := by decide +kernel
theorem dX6_append_14 : decode cX6_append 14 = .ok (.getfield 15, 3) := by decide +kernel
theorem dX6_append_17 : decode cX6_append 17 = .ok (.ifCond .lt 15, 3) := by decide +kernel
theorem dX6_append_20 : decode cX6_append 20 = .ok (.aload_n 0, 1) := by decide +kernel
theorem dX6_append_21 : decode cX6_append 21 = .ok (.getfield 15, 3) := by decide +kernel
theorem dX6_append_24 : decode cX6_append 24 = .ok (.aload_n 0, 1) := by decide +kernel
theorem dX6_append_25 : decode cX6_append 25 = .ok (.getfield 9, 3) := by decide +kernel
theorem dX6_append_28 : decode cX6_append 28 = .ok (.arraylength, 1) := by decide +kernel
theorem dX6_append_29 : decode cX6_append 29 = .ok (.if_icmp .lt 6, 3) := by decide +kernel
theorem dX6_append_32 : decode cX6_append 32 = .ok (.bipush (-3), 2) := by decide +kernel
theorem dX6_append_34 : decode cX6_append 34 = .ok (.ireturn, 1) := by decide +kernel
theorem dX6_append_35 : decode cX6_append 35 = .ok (.aload_n 0, 1) := by decide +kernel
theorem dX6_append_36 : decode cX6_append 36 = .ok (.getfield 9, 3) := by decide +kernel
theorem dX6_append_39 : decode cX6_append 39 = .ok (.aload_n 0, 1) := by decide +kernel
theorem dX6_append_40 : decode cX6_append 40 = .ok (.getfield 15, 3) := by decide +kernel
theorem dX6_append_43 : decode cX6_append 43 = .ok (.iload_n 1, 1) := by decide +kernel
theorem dX6_append_44 : decode cX6_append 44 = .ok (.i2c, 1) := by decide +kernel
theorem dX6_append_45 : decode cX6_append 45 = .ok (.castore, 1) := by decide +kernel
theorem dX6_append_46 : decode cX6_append 46 = .ok (.aload_n 0, 1) := by decide +kernel
theorem dX6_append_47 : decode cX6_append 47 = .ok (.dup, 1) := by decide +kernel
theorem dX6_append_48 : decode cX6_append 48 = .ok (.getfield 15, 3) := by decide +kernel
theorem dX6_append_51 : decode cX6_append 51 = .ok (.iconst 1, 1) := by decide +kernel
theorem dX6_append_52 : decode cX6_append 52 = .ok (.iadd, 1) := by decide +kernel
theorem dX6_append_53 : decode cX6_append 53 = .ok (.putfield 15, 3) := by decide +kernel
theorem dX6_append_56 : decode cX6_append 56 = .ok (.aload_n 0, 1) := by decide +kernel
theorem dX6_append_57 : decode cX6_append 57 = .ok (.getfield 15, 3) := by decide +kernel
theorem dX6_append_60 : decode cX6_append 60 = .ok (.ireturn, 1) := by decide +kernel
theorem dX6_empty_0 : decode cX6_empty 0 = .ok (.aload_n 0, 1) := by decide +kernel
theorem dX6_empty_1 : decode cX6_empty 1 = .ok (.getfield 15, 3) := by decide +kernel
theorem dX6_empty_4 : decode cX6_empty 4 = .ok (.istore_n 1, 1) := by decide +kernel
theorem dX6_empty_5 : decode cX6_empty 5 = .ok (.aload_n 0, 1) := by decide +kernel
theorem dX6_empty_6 : decode cX6_empty 6 = .ok (.iconst 0, 1) := by decide +kernel
theorem dX6_empty_7 : decode cX6_empty 7 = .ok (.putfield 15, 3) := by decide +kernel
theorem dX6_empty_10 : decode cX6_empty 10 = .ok (.iload_n 1, 1) := by decide +kernel
theorem dX6_empty_11 : decode cX6_empty 11 = .ok (.ireturn, 1) := by decide +kernel
set_option maxRecDepth 20000 in
theorem ggX6_readCommand_X6_signAt : GoodIn wsX6_readCommand wsX6_signAt := goodIn_r _ [10, 11, 12, 27, 28, 29, 30, 31, 32, 33] (by decide +kernel) (by decide +kernel)
set_option maxRecDepth 20000 in
theorem gX6_readCommand_X6_signAt : GoodIn wsX6_readCommand (wsV RX6 26 RX6 yX6_signAt wsX6_signAt) := goodIn_app (goodIn_of _ (by decide +kernel)) ggX6_readCommand_X6_signAt
set_option maxRecDepth 20000 in
theorem ggX6_readCommand_X6_numbersOf : GoodIn wsX6_readCommand wsX6_numbersOf := goodIn_r _ [15] (by decide +kernel) (by decide +kernel)
set_option maxRecDepth 20000 in
theorem gX6_readCommand_X6_numbersOf : GoodIn wsX6_readCommand (va_wsS RX6 34 yX6_numbersOf wsX6_numbersOf) := goodIn_app (goodIn_of _ (by decide +kernel)) ggX6_readCommand_X6_numbersOf
set_option maxRecDepth 20000 in
theorem ggX6_readCommand_X6_readNumber : GoodIn wsX6_readCommand wsX6_readNumber := goodIn_r _ [19, 3, 1, 6, 7, 8, 9, 10, 11, 12, 20, 21, 22, 27, 28, 29, 30, 31, 32, 33] (by decide +kernel) (by decide +kernel)
set_option maxRecDepth 20000 in
theorem gX6_readCommand_X6_readNumber : GoodIn wsX6_readCommand (wsV RX6 38 RX6 yX6_readNumber wsX6_readNumber) := goodIn_app (goodIn_of _ (by decide +kernel)) ggX6_readCommand_X6_readNumber
set_option maxRecDepth 20000 in
theorem ggX6_readCommand_X6_readSign : GoodIn wsX6_readCommand wsX6_readSign := goodIn_r _ [26, 1, 6, 7, 8, 9, 10, 11, 12, 27, 28, 29, 30, 31, 32, 33] (by decide +kernel) (by decide +kernel)
set_option maxRecDepth 20000 in
theorem gX6_readCommand_X6_readSign : GoodIn wsX6_readCommand (wsV RX6 48 RX6 yX6_readSign wsX6_readSign) := goodIn_app (goodIn_of _ (by decide +kernel)) ggX6_readCommand_X6_readSign
theorem dX6_readCommand_0 : decode cX6_readCommand 0 = .ok (.aload_n 0, 1) := by decide +kernel
theorem dX6_readCommand_1 : decode cX6_readCommand 1 = .ok (.iload_n 1, 1) := by decide +kernel
theorem dX6_readCommand_2 : decode cX6_readCommand 2 = .ok (.iconst 1, 1) := by decide +kernel
theorem dX6_readCommand_3 : decode cX6_readCommand 3 = .ok (.iadd, 1) := by decide +kernel
theorem dX6_readCommand_4 : decode cX6_readCommand 4 = .ok (.putfield 23, 3) := by decide +kernel
theorem dX6_readCommand_7 : decode cX6_readCommand 7 = .ok (.aload_n 0, 1) := by decide +kernel
theorem dX6_readCommand_8 : decode cX6_readCommand 8 = .ok (.aload_n 0, 1) := by decide +kernel
theorem dX6_readCommand_9 : decode cX6_readCommand 9 = .ok (.iload_n 1, 1) := by decide +kernel
theorem dX6_readCommand_10 : decode cX6_readCommand 10 = .ok (.invokevirtual 26, 3) := by decide +kernel
theorem dX6_readCommand_13 : decode cX6_readCommand 13 = .ok (.putfield 30, 3) := by decide +kernel
theorem dX6_readCommand_16 : decode cX6_readCommand 16 = .ok (.aload_n 0, 1) := by decide +kernel
theorem dX6_readCommand_17 : decode cX6_readCommand 17 = .ok (.getfield 30, 3) := by decide +kernel
theorem dX6_readCommand_20 : decode cX6_readCommand 20 = .ok (.invokestatic 34, 3) := by decide +kernel
theorem dX6_readCommand_23 : decode cX6_readCommand 23 = .ok (.istore_n 2, 1) := by decide +kernel
theorem dX6_readCommand_24 : decode cX6_readCommand 24 = .ok (.iload_n 2, 1) := by decide +kernel
theorem dX6_readCommand_25 : decode cX6_readCommand 25 = .ok (.ifCond .eq 10, 3) := by decide +kernel
theorem dX6_readCommand_28 : decode cX6_readCommand 28 = .ok (.aload_n 0, 1) := by decide +kernel
theorem dX6_readCommand_29 : decode cX6_readCommand 29 = .ok (.invokevirtual 38, 3) := by decide +kernel
theorem dX6_readCommand_32 : decode cX6_readCommand 32 = .ok (.ifCond .ne 5, 3) := by decide +kernel
theorem dX6_readCommand_35 : decode cX6_readCommand 35 = .ok (.iconst 0, 1) := by decide +kernel
theorem dX6_readCommand_36 : decode cX6_readCommand 36 = .ok (.ireturn, 1) := by decide +kernel
theorem dX6_readCommand_37 : decode cX6_readCommand 37 = .ok (.aload_n 0, 1) := by decide +kernel
theorem dX6_readCommand_38 : decode cX6_readCommand 38 = .ok (.aload_n 0, 1) := by decide +kernel
theorem dX6_readCommand_39 : decode cX6_readCommand 39 = .ok (.getfield 42, 3) := by decide +kernel
theorem dX6_readCommand_42 : decode cX6_readCommand 42 = .ok (.putfield 45, 3) := by decide +kernel
theorem dX6_readCommand_45 : decode cX6_readCommand 45 = .ok (.iload_n 2, 1) := by decide +kernel
theorem dX6_readCommand_46 : decode cX6_readCommand 46 = .ok (.iconst 2, 1) := by decide +kernel
theorem dX6_readCommand_47 : decode cX6_readCommand 47 = .ok (.if_icmp .ne 29, 3) := by decide +kernel
theorem dX6_readCommand_50 : decode cX6_readCommand 50 = .ok (.aload_n 0, 1) := by decide +kernel
theorem dX6_readCommand_51 : decode cX6_readCommand 51 = .ok (.bipush 44, 2) := by decide +kernel
theorem dX6_readCommand_53 : decode cX6_readCommand 53 = .ok (.invokevirtual 48, 3) := by decide +kernel
theorem dX6_readCommand_56 : decode cX6_readCommand 56 = .ok (.ifCond .eq 10, 3) := by decide +kernel
theorem dX6_readCommand_59 : decode cX6_readCommand 59 = .ok (.aload_n 0, 1) := by decide +kernel
theorem dX6_readCommand_60 : decode cX6_readCommand 60 = .ok (.invokevirtual 38, 3) := by decide +kernel
theorem dX6_readCommand_63 : decode cX6_readCommand 63 = .ok (.ifCond .ne 5, 3) := by decide +kernel
theorem dX6_readCommand_66 : decode cX6_readCommand 66 = .ok (.iconst 0, 1) := by decide +kernel
theorem dX6_readCommand_67 : decode cX6_readCommand 67 = .ok (.ireturn, 1) := by decide +kernel
theorem dX6_readCommand_68 : decode cX6_readCommand 68 = .ok (.aload_n 0, 1) := by decide +kernel
theorem dX6_readCommand_69 : decode cX6_readCommand 69 = .ok (.aload_n 0, 1) := by decide +kernel
theorem dX6_readCommand_70 : decode cX6_readCommand 70 = .ok (.getfield 42, 3) := by decide +kernel
theorem dX6_readCommand_73 : decode cX6_readCommand 73 = .ok (.putfield 52, 3) := by decide +kernel
theorem dX6_readCommand_76 : decode cX6_readCommand 76 = .ok (.aload_n 0, 1) := by decide +kernel
theorem dX6_readCommand_77 : decode cX6_readCommand 77 = .ok (.bipush 59, 2) := by decide +kernel
theorem dX6_readCommand_79 : decode cX6_readCommand 79 = .ok (.invokevirtual 48, 3) := by decide +kernel
theorem dX6_readCommand_82 : decode cX6_readCommand 82 = .ok (.ireturn, 1) := by decide +kernel
theorem dX6_numbersOf_0 : decode cX6_numbersOf 0 = .ok (.iload_n 0, 1) := by decide +kernel
theorem dX6_numbersOf_1 : decode cX6_numbersOf 1 = .ok (.tableswitch 79 102 116 #[75, 75, 77, 79, 79, 79, 79, 79, 75, 79, 77, 79, 75, 79, 75], 75) := by decide +kernel
theorem dX6_numbersOf_76 : decode cX6_numbersOf 76 = .ok (.iconst 2, 1) := by decide +kernel
theorem dX6_numbersOf_77 : decode cX6_numbersOf 77 = .ok (.ireturn, 1) := by decide +kernel
theorem dX6_numbersOf_78 : decode cX6_numbersOf 78 = .ok (.iconst 1, 1) := by decide +kernel
theorem dX6_numbersOf_79 : decode cX6_numbersOf 79 = .ok (.ireturn, 1) := by decide +kernel
theorem dX6_numbersOf_80 : decode cX6_numbersOf 80 = .ok (.iconst 0, 1) := by decide +kernel
theorem dX6_numbersOf_81 : decode cX6_numbersOf 81 = .ok (.ireturn, 1) := by decide +kernel
set_option maxRecDepth 20000 in
theorem ggX6_readNumber_X6_signAt : GoodIn wsX6_readNumber wsX6_signAt := goodIn_r _ [7, 8, 9, 13, 14, 15, 16, 17, 18, 19] (by decide +kernel) (by decide +kernel)
set_option maxRecDepth 20000 in
theorem gX6_readNumber_X6_signAt : GoodIn wsX6_readNumber (wsV RX6 26 RX6 yX6_signAt wsX6_signAt) := goodIn_app (goodIn_of _ (by decide +kernel)) ggX6_readNumber_X6_signAt
set_option maxRecDepth 20000 in
theorem ggX6_readNumber_X7_isWithin : GoodIn wsX6_readNumber wsX7_isWithin := goodIn_r _ [12] (by decide +kernel) (by decide +kernel)
set_option maxRecDepth 20000 in
theorem gX6_readNumber_X7_isWithin_n19 : GoodIn wsX6_readNumber (wsX7_isWithin) := ggX6_readNumber_X7_isWithin
theorem dX6_readNumber_0 : decode cX6_readNumber 0 = .ok (.iconst 0, 1) := by decide +kernel
theorem dX6_readNumber_1 : decode cX6_readNumber 1 = .ok (.istore_n 1, 1) := by decide +kernel
theorem dX6_readNumber_2 : decode cX6_readNumber 2 = .ok (.aload_n 0, 1) := by decide +kernel
theorem dX6_readNumber_3 : decode cX6_readNumber 3 = .ok (.iconst 0, 1) := by decide +kernel
theorem dX6_readNumber_4 : decode cX6_readNumber 4 = .ok (.putfield 42, 3) := by decide +kernel
theorem dX6_readNumber_7 : decode cX6_readNumber 7 = .ok (.iload_n 1, 1) := by decide +kernel
theorem dX6_readNumber_8 : decode cX6_readNumber 8 = .ok (.iconst 4, 1) := by decide +kernel
theorem dX6_readNumber_9 : decode cX6_readNumber 9 = .ok (.if_icmp .ge 60, 3) := by decide +kernel
theorem dX6_readNumber_12 : decode cX6_readNumber 12 = .ok (.aload_n 0, 1) := by decide +kernel
theorem dX6_readNumber_13 : decode cX6_readNumber 13 = .ok (.aload_n 0, 1) := by decide +kernel
theorem dX6_readNumber_14 : decode cX6_readNumber 14 = .ok (.getfield 23, 3) := by decide +kernel
theorem dX6_readNumber_17 : decode cX6_readNumber 17 = .ok (.invokevirtual 26, 3) := by decide +kernel
theorem dX6_readNumber_20 : decode cX6_readNumber 20 = .ok (.bipush 48, 2) := by decide +kernel
theorem dX6_readNumber_22 : decode cX6_readNumber 22 = .ok (.bipush 57, 2) := by decide +kernel
theorem dX6_readNumber_24 : decode cX6_readNumber 24 = .ok (.invokestatic 19, 3) := by decide +kernel
theorem dX6_readNumber_27 : decode cX6_readNumber 27 = .ok (.ifCond .eq 42, 3) := by decide +kernel
theorem dX6_readNumber_30 : decode cX6_readNumber 30 = .ok (.aload_n 0, 1) := by decide +kernel
theorem dX6_readNumber_31 : decode cX6_readNumber 31 = .ok (.bipush 10, 2) := by decide +kernel
theorem dX6_readNumber_33 : decode cX6_readNumber 33 = .ok (.aload_n 0, 1) := by decide +kernel
theorem dX6_readNumber_34 : decode cX6_readNumber 34 = .ok (.getfield 42, 3) := by decide +kernel
theorem dX6_readNumber_37 : decode cX6_readNumber 37 = .ok (.imul, 1) := by decide +kernel
theorem dX6_readNumber_38 : decode cX6_readNumber 38 = .ok (.aload_n 0, 1) := by decide +kernel
theorem dX6_readNumber_39 : decode cX6_readNumber 39 = .ok (.aload_n 0, 1) := by decide +kernel
theorem dX6_readNumber_40 : decode cX6_readNumber 40 = .ok (.getfield 23, 3) := by decide +kernel
theorem dX6_readNumber_43 : decode cX6_readNumber 43 = .ok (.invokevirtual 26, 3) := by decide +kernel
theorem dX6_readNumber_46 : decode cX6_readNumber 46 = .ok (.bipush 48, 2) := by decide +kernel
theorem dX6_readNumber_48 : decode cX6_readNumber 48 = .ok (.isub, 1) := by decide +kernel
theorem dX6_readNumber_49 : decode cX6_readNumber 49 = .ok (.iadd, 1) := by decide +kernel
theorem dX6_readNumber_50 : decode cX6_readNumber 50 = .ok (.putfield 42, 3) := by decide +kernel
theorem dX6_readNumber_53 : decode cX6_readNumber 53 = .ok (.aload_n 0, 1) := by decide +kernel
theorem dX6_readNumber_54 : decode cX6_readNumber 54 = .ok (.dup, 1) := by decide +kernel
theorem dX6_readNumber_55 : decode cX6_readNumber 55 = .ok (.getfield 23, 3) := by decide +kernel
theorem dX6_readNumber_58 : decode cX6_readNumber 58 = .ok (.iconst 1, 1) := by decide +kernel
theorem dX6_readNumber_59 : decode cX6_readNumber 59 = .ok (.iadd, 1) := by decide +kernel
theorem dX6_readNumber_60 : decode cX6_readNumber 60 = .ok (.putfield 23, 3) := by decide +kernel
theorem dX6_readNumber_63 : decode cX6_readNumber 63 = .ok (.iinc 1 1, 3) := by decide +kernel
theorem dX6_readNumber_66 : decode cX6_readNumber 66 = .ok (.goto (-59), 3) := by decide +kernel
theorem dX6_readNumber_69 : decode cX6_readNumber 69 = .ok (.iload_n 1, 1) := by decide +kernel
theorem dX6_readNumber_70 : decode cX6_readNumber 70 = .ok (.ifCond .le 7, 3) := by decide +kernel
theorem dX6_readNumber_73 : decode cX6_readNumber 73 = .ok (.iconst 1, 1) := by decide +kernel
theorem dX6_readNumber_74 : decode cX6_readNumber 74 = .ok (.goto 4, 3) := by decide +kernel
theorem dX6_readNumber_77 : decode cX6_readNumber 77 = .ok (.iconst 0, 1) := by decide +kernel
theorem dX6_readNumber_78 : decode cX6_readNumber 78 = .ok (.ireturn, 1) := by decide +kernel
set_option maxRecDepth 20000 in
theorem ggX6_readSign_X6_signAt : GoodIn wsX6_readSign wsX6_signAt := goodIn_r _ [6, 7, 8, 9, 10, 11, 12, 13, 14, 15] (by decide +kernel) (by decide +kernel)
set_option maxRecDepth 20000 in
theorem gX6_readSign_X6_signAt : GoodIn wsX6_readSign (wsV RX6 26 RX6 yX6_signAt wsX6_signAt) := goodIn_app (goodIn_of _ (by decide +kernel)) ggX6_readSign_X6_signAt
theorem dX6_readSign_0 : decode cX6_readSign 0 = .ok (.aload_n 0, 1) := by decide +kernel
theorem dX6_readSign_1 : decode cX6_readSign 1 = .ok (.aload_n 0, 1) := by decide +kernel
theorem dX6_readSign_2 : decode cX6_readSign 2 = .ok (.getfield 23, 3) := by decide +kernel
theorem dX6_readSign_5 : decode cX6_readSign 5 = .ok (.invokevirtual 26, 3) := by decide +kernel
theorem dX6_readSign_8 : decode cX6_readSign 8 = .ok (.iload_n 1, 1) := by decide +kernel
theorem dX6_readSign_9 : decode cX6_readSign 9 = .ok (.if_icmp .eq 5, 3) := by decide +kernel
theorem dX6_readSign_12 : decode cX6_readSign 12 = .ok (.iconst 0, 1) := by decide +kernel
theorem dX6_readSign_13 : decode cX6_readSign 13 = .ok (.ireturn, 1) := by decide +kernel
theorem dX6_readSign_14 : decode cX6_readSign 14 = .ok (.aload_n 0, 1) := by decide +kernel
theorem dX6_readSign_15 : decode cX6_readSign 15 = .ok (.dup, 1) := by decide +kernel
theorem dX6_readSign_16 : decode cX6_readSign 16 = .ok (.getfield 23, 3) := by decide +kernel
theorem dX6_readSign_19 : decode cX6_readSign 19 = .ok (.iconst 1, 1) := by decide +kernel
theorem dX6_readSign_20 : decode cX6_readSign 20 = .ok (.iadd, 1) := by decide +kernel
theorem dX6_readSign_21 : decode cX6_readSign 21 = .ok (.putfield 23, 3) := by decide +kernel
theorem dX6_readSign_24 : decode cX6_readSign 24 = .ok (.iconst 1, 1) := by decide +kernel
theorem dX6_readSign_25 : decode cX6_readSign 25 = .ok (.ireturn, 1) := by decide +kernel
theorem dX6_signAt_0 : decode cX6_signAt 0 = .ok (.iload_n 1, 1) := by decide +kernel
theorem dX6_signAt_1 : decode cX6_signAt 1 = .ok (.ifCond .lt 29, 3) := by decide +kernel
theorem dX6_signAt_4 : decode cX6_signAt 4 = .ok (.iload_n 1, 1) := by decide +kernel
theorem dX6_signAt_5 : decode cX6_signAt 5 = .ok (.aload_n 0, 1) := by decide +kernel
theorem dX6_signAt_6 : decode cX6_signAt 6 = .ok (.getfield 15, 3) := by decide +kernel
theorem dX6_signAt_9 : decode cX6_signAt 9 = .ok (.if_icmp .ge 21, 3) := by decide +kernel
theorem dX6_signAt_12 : decode cX6_signAt 12 = .ok (.iload_n 1, 1) := by decide +kernel
theorem dX6_signAt_13 : decode cX6_signAt 13 = .ok (.aload_n 0, 1) := by decide +kernel
theorem dX6_signAt_14 : decode cX6_signAt 14 = .ok (.getfield 9, 3) := by decide +kernel
theorem dX6_signAt_17 : decode cX6_signAt 17 = .ok (.arraylength, 1) := by decide +kernel
theorem dX6_signAt_18 : decode cX6_signAt 18 = .ok (.if_icmp .ge 12, 3) := by decide +kernel
theorem dX6_signAt_21 : decode cX6_signAt 21 = .ok (.aload_n 0, 1) := by decide +kernel
theorem dX6_signAt_22 : decode cX6_signAt 22 = .ok (.getfield 9, 3) := by decide +kernel
theorem dX6_signAt_25 : decode cX6_signAt 25 = .ok (.iload_n 1, 1) := by decide +kernel
theorem dX6_signAt_26 : decode cX6_signAt 26 = .ok (.caload, 1) := by decide +kernel
theorem dX6_signAt_27 : decode cX6_signAt 27 = .ok (.goto 4, 3) := by decide +kernel
theorem dX6_signAt_30 : decode cX6_signAt 30 = .ok (.iconst 0, 1) := by decide +kernel
theorem dX6_signAt_31 : decode cX6_signAt 31 = .ok (.ireturn, 1) := by decide +kernel
set_option maxRecDepth 20000 in
theorem ggX7_init_X4_init : GoodIn wsX7_init wsX4_init := goodIn_r _ [31, 32, 2, 3, 33, 34, 35, 36, 37, 38, 39, 40, 41, 42, 43, 44, 45, 46, 47, 48, 49, 50, 51, 52, 53, 54, 55, 56, 57, 58, 59, 60, 61, 134, 135, 136, 137, 98, 99, 100, 101, 102, 103] (by decide +kernel) (by decide +kernel)
set_option maxRecDepth 20000 in
theorem gX7_init_X4_init : GoodIn wsX7_init (wsX4_init) := ggX7_init_X4_init
set_option maxRecDepth 20000 in
theorem ggX7_init_X0_init : GoodIn wsX7_init wsX0_init := goodIn_r _ [64, 65, 2, 3, 66, 67, 68, 69, 70, 111, 112, 113, 114, 115, 98, 99, 100, 101, 102, 103] (by decide +kernel) (by decide +kernel)
set_option maxRecDepth 20000 in
theorem gX7_init_X0_init : GoodIn wsX7_init (wsX0_init) := ggX7_init_X0_init
set_option maxRecDepth 20000 in
theorem ggX7_init_X3_init : GoodIn wsX7_init wsX3_init := goodIn_r _ [73, 74, 2, 3, 75, 76, 77, 78, 79, 116, 117, 118, 119, 120, 98, 99, 100, 101, 102, 103] (by decide +kernel) (by decide +kernel)
set_option maxRecDepth 20000 in
theorem gX7_init_X3_init : GoodIn wsX7_init (wsX3_init) := ggX7_init_X3_init
set_option maxRecDepth 20000 in
theorem ggX7_init_X1_init : GoodIn wsX7_init wsX1_init := goodIn_r _ [82, 83, 2, 3, 84, 85, 5, 6, 86, 30, 31, 32, 33, 34, 35, 36, 37, 38, 39, 40, 41, 42, 43, 44, 45, 46, 47, 48, 49, 50, 51, 52, 53, 54, 55, 56, 57, 58, 59, 60, 61, 121, 122, 123, 98, 99, 100, 101, 102, 103, 134, 135, 136, 137] (by decide +kernel) (by decide +kernel)
set_option maxRecDepth 20000 in
theorem gX7_init_X1_init : GoodIn wsX7_init (wsX1_init) := ggX7_init_X1_init
set_option maxRecDepth 20000 in
theorem ggX7_init_X6_init : GoodIn wsX7_init wsX6_init := goodIn_r _ [89, 90, 2, 3, 91, 92, 124, 125, 126, 127, 128, 129, 130] (by decide +kernel) (by decide +kernel)
set_option maxRecDepth 20000 in
theorem gX7_init_X6_init : GoodIn wsX7_init (wsX6_init) := ggX7_init_X6_init
set_option maxRecDepth 20000 in
theorem ggX7_init_X2_init : GoodIn wsX7_init wsX2_init := goodIn_r _ [95, 96, 2, 3, 97, 131, 132, 133] (by decide +kernel) (by decide +kernel)
set_option maxRecDepth 20000 in
theorem gX7_init_X2_init : GoodIn wsX7_init (wsX2_init) := ggX7_init_X2_init
theorem dX7_init_0 : decode cX7_init 0 = .ok (.aload_n 0, 1) := by decide +kernel
theorem dX7_init_1 : decode cX7_init 1 = .ok (.invokespecial 1, 3) := by decide +kernel
theorem dX7_init_4 : decode cX7_init 4 = .ok (.aload_n 0, 1) := by decide +kernel
theorem dX7_init_5 : decode cX7_init 5 = .ok (.new 7, 3) := by decide +kernel
theorem dX7_init_8 : decode cX7_init 8 = .ok (.dup, 1) := by decide +kernel
theorem dX7_init_9 : decode cX7_init 9 = .ok (.invokespecial 9, 3) := by decide +kernel
theorem dX7_init_12 : decode cX7_init 12 = .ok (.putfield 10, 3) := by decide +kernel
theorem dX7_init_15 : decode cX7_init 15 = .ok (.aload_n 0, 1) := by decide +kernel
theorem dX7_init_16 : decode cX7_init 16 = .ok (.new 7, 3) := by decide +kernel
theorem dX7_init_19 : decode cX7_init 19 = .ok (.dup, 1) := by decide +kernel
theorem dX7_init_20 : decode cX7_init 20 = .ok (.invokespecial 9, 3) := by decide +kernel
theorem dX7_init_23 : decode cX7_init 23 = .ok (.putfield 16, 3) := by decide +kernel
theorem dX7_init_26 : decode cX7_init 26 = .ok (.aload_n 0, 1) := by decide +kernel
theorem dX7_init_27 : decode cX7_init 27 = .ok (.new 19, 3) := by decide +kernel
theorem dX7_init_30 : decode cX7_init 30 = .ok (.dup, 1) := by decide +kernel
theorem dX7_init_31 : decode cX7_init 31 = .ok (.aload_n 0, 1) := by decide +kernel
theorem dX7_init_32 : decode cX7_init 32 = .ok (.getfield 16, 3) := by decide +kernel
theorem dX7_init_35 : decode cX7_init 35 = .ok (.invokespecial 21, 3) := by decide +kernel
theorem dX7_init_38 : decode cX7_init 38 = .ok (.putfield 24, 3) := by decide +kernel
theorem dX7_init_41 : decode cX7_init 41 = .ok (.aload_n 0, 1) := by decide +kernel
theorem dX7_init_42 : decode cX7_init 42 = .ok (.new 28, 3) := by decide +kernel
theorem dX7_init_45 : decode cX7_init 45 = .ok (.dup, 1) := by decide +kernel
theorem dX7_init_46 : decode cX7_init 46 = .ok (.aload_n 0, 1) := by decide +kernel
theorem dX7_init_47 : decode cX7_init 47 = .ok (.getfield 10, 3) := by decide +kernel
theorem dX7_init_50 : decode cX7_init 50 = .ok (.invokespecial 30, 3) := by decide +kernel
theorem dX7_init_53 : decode cX7_init 53 = .ok (.putfield 31, 3) := by decide +kernel
theorem dX7_init_56 : decode cX7_init 56 = .ok (.aload_n 0, 1) := by decide +kernel
theorem dX7_init_57 : decode cX7_init 57 = .ok (.new 35, 3) := by decide +kernel
theorem dX7_init_60 : decode cX7_init 60 = .ok (.dup, 1) := by decide +kernel
theorem dX7_init_61 : decode cX7_init 61 = .ok (.invokespecial 37, 3) := by decide +kernel
theorem dX7_init_64 : decode cX7_init 64 = .ok (.putfield 38, 3) := by decide +kernel
theorem dX7_init_67 : decode cX7_init 67 = .ok (.aload_n 0, 1) := by decide +kernel
theorem dX7_init_68 : decode cX7_init 68 = .ok (.new 42, 3) := by decide +kernel
theorem dX7_init_71 : decode cX7_init 71 = .ok (.dup, 1) := by decide +kernel
theorem dX7_init_72 : decode cX7_init 72 = .ok (.invokespecial 44, 3) := by decide +kernel
theorem dX7_init_75 : decode cX7_init 75 = .ok (.putfield 45, 3) := by decide +kernel
theorem dX7_init_78 : decode cX7_init 78 = .ok (.aload_n 0, 1) := by decide +kernel
theorem dX7_init_79 : decode cX7_init 79 = .ok (.new 49, 3) := by decide +kernel
theorem dX7_init_82 : decode cX7_init 82 = .ok (.dup, 1) := by decide +kernel
theorem dX7_init_83 : decode cX7_init 83 = .ok (.aload_n 0, 1) := by decide +kernel
theorem dX7_init_84 : decode cX7_init 84 = .ok (.getfield 45, 3) := by decide +kernel
theorem dX7_init_87 : decode cX7_init 87 = .ok (.invokespecial 51, 3) := by decide +kernel
theorem dX7_init_90 : decode cX7_init 90 = .ok (.putfield 54, 3) := by decide +kernel
theorem dX7_init_93 : decode cX7_init 93 = .ok (.return_, 1) := by decide +kernel
set_option maxRecDepth 20000 in
theorem ggX7_locker_X7_onTrial : GoodIn wsX7_locker wsX7_onTrial := goodIn_r _ [5, 6, 7, 8, 9, 10, 11, 12, 13, 14, 15, 16, 17, 18, 19, 20, 21, 22, 23, 24, 25, 26, 67, 68, 69, 70, 71, 72, 73, 74, 75, 76, 77, 78, 79, 80, 81, 82, 83] (by decide +kernel) (by decide +kernel)
set_option maxRecDepth 20000 in
theorem gX7_locker_X7_onTrial : GoodIn wsX7_locker (wsV RX7 58 RX7 yX7_onTrial wsX7_onTrial) := goodIn_app (goodIn_of _ (by decide +kernel)) ggX7_locker_X7_onTrial
set_option maxRecDepth 20000 in
theorem ggX7_locker_X0_addLocker : GoodIn wsX7_locker wsX0_addLocker := goodIn_r _ [31, 32, 33, 4, 34, 35, 36, 37, 23, 38, 25, 39, 40, 41, 42, 43, 44, 45, 46, 47, 48, 26, 84, 85, 86, 87, 88, 80, 81, 82, 83] (by decide +kernel) (by decide +kernel)
set_option maxRecDepth 20000 in
theorem gX7_locker_X0_addLocker : GoodIn wsX7_locker (wsV RX7 62 RX0 yX0_addLocker wsX0_addLocker) := goodIn_app (goodIn_of _ (by decide +kernel)) ggX7_locker_X0_addLocker
set_option maxRecDepth 20000 in
theorem ggX7_locker_X7_settle : GoodIn wsX7_locker wsX7_settle := goodIn_r _ [52, 53, 7, 6, 54, 55, 56, 57, 58, 59, 60, 61, 62, 63, 64, 65, 66, 10, 11, 12, 13, 14, 15, 16, 17, 18, 19, 20, 21, 22, 23, 24, 25, 26, 9, 67, 68, 69, 70, 71, 72, 73, 89, 90, 91, 74, 75, 76, 77, 78, 79, 80, 81, 82, 83] (by decide +kernel) (by decide +kernel)
set_option maxRecDepth 20000 in
theorem gX7_locker_X7_settle : GoodIn wsX7_locker (wsV RX7 66 RX7 yX7_settle wsX7_settle) := goodIn_app (goodIn_of _ (by decide +kernel)) ggX7_locker_X7_settle
theorem dX7_locker_0 : decode cX7_locker 0 = .ok (.aload_n 0, 1) := by decide +kernel
theorem dX7_locker_1 : decode cX7_locker 1 = .ok (.aload_n 0, 1) := by decide +kernel
theorem dX7_locker_2 : decode cX7_locker 2 = .ok (.invokevirtual 58, 3) := by decide +kernel
theorem dX7_locker_5 : decode cX7_locker 5 = .ok (.iload_n 1, 1) := by decide +kernel
theorem dX7_locker_6 : decode cX7_locker 6 = .ok (.iload_n 2, 1) := by decide +kernel
theorem dX7_locker_7 : decode cX7_locker 7 = .ok (.invokevirtual 62, 3) := by decide +kernel
theorem dX7_locker_10 : decode cX7_locker 10 = .ok (.invokevirtual 66, 3) := by decide +kernel
theorem dX7_locker_13 : decode cX7_locker 13 = .ok (.ireturn, 1) := by decide +kernel
set_option maxRecDepth 20000 in
theorem ggX7_meal_X7_onTrial : GoodIn wsX7_meal wsX7_onTrial := goodIn_r _ [5, 6, 7, 8, 9, 10, 11, 12, 13, 14, 15, 16, 17, 18, 19, 20, 21, 22, 23, 24, 25, 26, 102, 103, 104, 105, 106, 107, 108, 109, 110, 111, 112, 113, 114, 115, 116, 117, 118] (by decide +kernel) (by decide +kernel)
set_option maxRecDepth 20000 in
theorem gX7_meal_X7_onTrial : GoodIn wsX7_meal (wsV RX7 58 RX7 yX7_onTrial wsX7_onTrial) := goodIn_app (goodIn_of _ (by decide +kernel)) ggX7_meal_X7_onTrial
set_option maxRecDepth 20000 in
theorem ggX7_meal_X0_addMeal : GoodIn wsX7_meal wsX0_addMeal := goodIn_r _ [31, 32, 33, 34, 35, 36, 37, 23, 38, 25, 39, 4, 40, 41, 42, 43, 12, 44, 14, 45, 46, 47, 48, 49, 26, 50, 51, 52, 53, 15, 54, 55, 56, 57, 58, 59, 60, 61, 62, 63, 64, 65, 66, 67, 68, 69, 70, 71, 72, 73, 74, 75, 76, 77, 78, 79, 80, 81, 82, 83, 119, 120, 121, 122, 123, 115, 116, 117, 118, 109, 110, 111, 112, 113, 114] (by decide +kernel) (by decide +kernel)
set_option maxRecDepth 20000 in
theorem gX7_meal_X0_addMeal : GoodIn wsX7_meal (wsV RX7 70 RX0 yX0_addMeal wsX0_addMeal) := goodIn_app (goodIn_of _ (by decide +kernel)) ggX7_meal_X0_addMeal
set_option maxRecDepth 20000 in
theorem ggX7_meal_X7_settle : GoodIn wsX7_meal wsX7_settle := goodIn_r _ [87, 88, 7, 6, 89, 90, 91, 92, 93, 94, 95, 96, 97, 98, 99, 100, 101, 10, 11, 12, 13, 14, 15, 16, 17, 18, 19, 20, 21, 22, 23, 24, 25, 26, 9, 102, 103, 104, 105, 106, 107, 108, 124, 125, 126, 109, 110, 111, 112, 113, 114, 115, 116, 117, 118] (by decide +kernel) (by decide +kernel)
set_option maxRecDepth 20000 in
theorem gX7_meal_X7_settle : GoodIn wsX7_meal (wsV RX7 66 RX7 yX7_settle wsX7_settle) := goodIn_app (goodIn_of _ (by decide +kernel)) ggX7_meal_X7_settle
theorem dX7_meal_0 : decode cX7_meal 0 = .ok (.aload_n 0, 1) := by decide +kernel
theorem dX7_meal_1 : decode cX7_meal 1 = .ok (.aload_n 0, 1) := by decide +kernel
theorem dX7_meal_2 : decode cX7_meal 2 = .ok (.invokevirtual 58, 3) := by decide +kernel
theorem dX7_meal_5 : decode cX7_meal 5 = .ok (.iload_n 1, 1) := by decide +kernel
theorem dX7_meal_6 : decode cX7_meal 6 = .ok (.iload_n 2, 1) := by decide +kernel
theorem dX7_meal_7 : decode cX7_meal 7 = .ok (.iload_n 3, 1) := by decide +kernel
theorem dX7_meal_8 : decode cX7_meal 8 = .ok (.invokevirtual 70, 3) := by decide +kernel
theorem dX7_meal_11 : decode cX7_meal 11 = .ok (.invokevirtual 66, 3) := by decide +kernel
theorem dX7_meal_14 : decode cX7_meal 14 = .ok (.ireturn, 1) := by decide +kernel
set_option maxRecDepth 20000 in
theorem ggX7_person_X7_onTrial : GoodIn wsX7_person wsX7_onTrial := goodIn_r _ [5, 6, 7, 8, 9, 10, 11, 12, 13, 14, 15, 16, 17, 18, 19, 20, 21, 22, 23, 24, 25, 26, 67, 68, 69, 70, 71, 72, 73, 74, 75, 76, 77, 78, 79, 80, 81, 82, 83] (by decide +kernel) (by decide +kernel)
set_option maxRecDepth 20000 in
theorem gX7_person_X7_onTrial : GoodIn wsX7_person (wsV RX7 58 RX7 yX7_onTrial wsX7_onTrial) := goodIn_app (goodIn_of _ (by decide +kernel)) ggX7_person_X7_onTrial
set_option maxRecDepth 20000 in
theorem ggX7_person_X0_addPerson : GoodIn wsX7_person wsX0_addPerson := goodIn_r _ [31, 32, 33, 4, 34, 35, 36, 37, 23, 38, 25, 39, 40, 41, 42, 43, 44, 45, 46, 47, 48, 26, 84, 85, 86, 87, 88, 80, 81, 82, 83] (by decide +kernel) (by decide +kernel)
set_option maxRecDepth 20000 in
theorem gX7_person_X0_addPerson : GoodIn wsX7_person (wsV RX7 74 RX0 yX0_addPerson wsX0_addPerson) := goodIn_app (goodIn_of _ (by decide +kernel)) ggX7_person_X0_addPerson
set_option maxRecDepth 20000 in
theorem ggX7_person_X7_settle : GoodIn wsX7_person wsX7_settle := goodIn_r _ [52, 53, 7, 6, 54, 55, 56, 57, 58, 59, 60, 61, 62, 63, 64, 65, 66, 10, 11, 12, 13, 14, 15, 16, 17, 18, 19, 20, 21, 22, 23, 24, 25, 26, 9, 67, 68, 69, 70, 71, 72, 73, 89, 90, 91, 74, 75, 76, 77, 78, 79, 80, 81, 82, 83] (by decide +kernel) (by decide +kernel)
set_option maxRecDepth 20000 in
theorem gX7_person_X7_settle : GoodIn wsX7_person (wsV RX7 66 RX7 yX7_settle wsX7_settle) := goodIn_app (goodIn_of _ (by decide +kernel)) ggX7_person_X7_settle
theorem dX7_person_0 : decode cX7_person 0 = .ok (.aload_n 0, 1) := by decide +kernel
