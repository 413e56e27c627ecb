theorem dX4_copyFrom_16 : decode cX4_copyFrom 16 = .ok (.getfield 20, 3) := by decide +kernel
theorem dX4_copyFrom_19 : decode cX4_copyFrom 19 = .ok (.invokevirtual 44, 3) := by decide +kernel
theorem dX4_copyFrom_22 : decode cX4_copyFrom 22 = .ok (.aload_n 0, 1) := by decide +kernel
theorem dX4_copyFrom_23 : decode cX4_copyFrom 23 = .ok (.getfield 23, 3) := by decide +kernel
theorem dX4_copyFrom_26 : decode cX4_copyFrom 26 = .ok (.aload_n 1, 1) := by decide +kernel
theorem dX4_copyFrom_27 : decode cX4_copyFrom 27 = .ok (.getfield 23, 3) := by decide +kernel
theorem dX4_copyFrom_30 : decode cX4_copyFrom 30 = .ok (.invokevirtual 44, 3) := by decide +kernel
theorem dX4_copyFrom_33 : decode cX4_copyFrom 33 = .ok (.aload_n 0, 1) := by decide +kernel
theorem dX4_copyFrom_34 : decode cX4_copyFrom 34 = .ok (.getfield 26, 3) := by decide +kernel
theorem dX4_copyFrom_37 : decode cX4_copyFrom 37 = .ok (.aload_n 1, 1) := by decide +kernel
theorem dX4_copyFrom_38 : decode cX4_copyFrom 38 = .ok (.getfield 26, 3) := by decide +kernel
theorem dX4_copyFrom_41 : decode cX4_copyFrom 41 = .ok (.invokevirtual 44, 3) := by decide +kernel
theorem dX4_copyFrom_44 : decode cX4_copyFrom 44 = .ok (.aload_n 0, 1) := by decide +kernel
theorem dX4_copyFrom_45 : decode cX4_copyFrom 45 = .ok (.getfield 29, 3) := by decide +kernel
theorem dX4_copyFrom_48 : decode cX4_copyFrom 48 = .ok (.aload_n 1, 1) := by decide +kernel
theorem dX4_copyFrom_49 : decode cX4_copyFrom 49 = .ok (.getfield 29, 3) := by decide +kernel
theorem dX4_copyFrom_52 : decode cX4_copyFrom 52 = .ok (.invokevirtual 44, 3) := by decide +kernel
theorem dX4_copyFrom_55 : decode cX4_copyFrom 55 = .ok (.aload_n 0, 1) := by decide +kernel
theorem dX4_copyFrom_56 : decode cX4_copyFrom 56 = .ok (.aload_n 1, 1) := by decide +kernel
theorem dX4_copyFrom_57 : decode cX4_copyFrom 57 = .ok (.getfield 48, 3) := by decide +kernel
theorem dX4_copyFrom_60 : decode cX4_copyFrom 60 = .ok (.putfield 48, 3) := by decide +kernel
theorem dX4_copyFrom_63 : decode cX4_copyFrom 63 = .ok (.return_, 1) := by decide +kernel
set_option maxRecDepth 20000 in
theorem ggX4_setting_X5_at : GoodIn wsX4_setting wsX5_at := goodIn_r _ [6, 7, 8, 15, 16, 17, 18] (by decide +kernel) (by decide +kernel)
set_option maxRecDepth 20000 in
theorem gX4_setting_X5_at : GoodIn wsX4_setting (wsV RX4 52 RX5 yX5_at wsX5_at) := goodIn_app (goodIn_of _ (by decide +kernel)) ggX4_setting_X5_at
theorem dX4_setting_0 : decode cX4_setting 0 = .ok (.aload_n 0, 1) := by decide +kernel
theorem dX4_setting_1 : decode cX4_setting 1 = .ok (.getfield 29, 3) := by decide +kernel
theorem dX4_setting_4 : decode cX4_setting 4 = .ok (.iload_n 1, 1) := by decide +kernel
theorem dX4_setting_5 : decode cX4_setting 5 = .ok (.iconst 0, 1) := by decide +kernel
theorem dX4_setting_6 : decode cX4_setting 6 = .ok (.invokevirtual 52, 3) := by decide +kernel
theorem dX4_setting_9 : decode cX4_setting 9 = .ok (.ireturn, 1) := by decide +kernel
set_option maxRecDepth 20000 in
theorem ggX4_mealsIn_X5_size : GoodIn wsX4_mealsIn wsX5_size := goodIn_r _ [6, 7, 20, 21, 22, 23] (by decide +kernel) (by decide +kernel)
set_option maxRecDepth 20000 in
theorem gX4_mealsIn_X5_size : GoodIn wsX4_mealsIn (wsV RX4 56 RX5 yX5_size wsX5_size) := goodIn_app (goodIn_of _ (by decide +kernel)) ggX4_mealsIn_X5_size
set_option maxRecDepth 20000 in
theorem ggX4_mealsIn_X5_at : GoodIn wsX4_mealsIn wsX5_at := goodIn_r _ [11, 12, 13, 20, 21, 22, 23] (by decide +kernel) (by decide +kernel)
set_option maxRecDepth 20000 in
theorem gX4_mealsIn_X5_at : GoodIn wsX4_mealsIn (wsV RX4 52 RX5 yX5_at wsX5_at) := goodIn_app (goodIn_of _ (by decide +kernel)) ggX4_mealsIn_X5_at
theorem dX4_mealsIn_0 : decode cX4_mealsIn 0 = .ok (.iconst 0, 1) := by decide +kernel
theorem dX4_mealsIn_1 : decode cX4_mealsIn 1 = .ok (.istore_n 2, 1) := by decide +kernel
theorem dX4_mealsIn_2 : decode cX4_mealsIn 2 = .ok (.iconst 0, 1) := by decide +kernel
theorem dX4_mealsIn_3 : decode cX4_mealsIn 3 = .ok (.istore_n 3, 1) := by decide +kernel
theorem dX4_mealsIn_4 : decode cX4_mealsIn 4 = .ok (.iload_n 3, 1) := by decide +kernel
theorem dX4_mealsIn_5 : decode cX4_mealsIn 5 = .ok (.aload_n 0, 1) := by decide +kernel
theorem dX4_mealsIn_6 : decode cX4_mealsIn 6 = .ok (.getfield 20, 3) := by decide +kernel
theorem dX4_mealsIn_9 : decode cX4_mealsIn 9 = .ok (.invokevirtual 56, 3) := by decide +kernel
theorem dX4_mealsIn_12 : decode cX4_mealsIn 12 = .ok (.if_icmp .ge 41, 3) := by decide +kernel
theorem dX4_mealsIn_15 : decode cX4_mealsIn 15 = .ok (.aload_n 0, 1) := by decide +kernel
theorem dX4_mealsIn_16 : decode cX4_mealsIn 16 = .ok (.getfield 20, 3) := by decide +kernel
theorem dX4_mealsIn_19 : decode cX4_mealsIn 19 = .ok (.iload_n 3, 1) := by decide +kernel
theorem dX4_mealsIn_20 : decode cX4_mealsIn 20 = .ok (.iconst 0, 1) := by decide +kernel
theorem dX4_mealsIn_21 : decode cX4_mealsIn 21 = .ok (.invokevirtual 52, 3) := by decide +kernel
theorem dX4_mealsIn_24 : decode cX4_mealsIn 24 = .ok (.iconst 1, 1) := by decide +kernel
theorem dX4_mealsIn_25 : decode cX4_mealsIn 25 = .ok (.if_icmp .gt 22, 3) := by decide +kernel
theorem dX4_mealsIn_28 : decode cX4_mealsIn 28 = .ok (.aload_n 0, 1) := by decide +kernel
theorem dX4_mealsIn_29 : decode cX4_mealsIn 29 = .ok (.getfield 20, 3) := by decide +kernel
theorem dX4_mealsIn_32 : decode cX4_mealsIn 32 = .ok (.iload_n 3, 1) := by decide +kernel
theorem dX4_mealsIn_33 : decode cX4_mealsIn 33 = .ok (.iconst 1, 1) := by decide +kernel
theorem dX4_mealsIn_34 : decode cX4_mealsIn 34 = .ok (.invokevirtual 52, 3) := by decide +kernel
theorem dX4_mealsIn_37 : decode cX4_mealsIn 37 = .ok (.iload_n 1, 1) := by decide +kernel
theorem dX4_mealsIn_38 : decode cX4_mealsIn 38 = .ok (.if_icmp .ne 9, 3) := by decide +kernel
theorem dX4_mealsIn_41 : decode cX4_mealsIn 41 = .ok (.iload_n 2, 1) := by decide +kernel
theorem dX4_mealsIn_42 : decode cX4_mealsIn 42 = .ok (.iconst 1, 1) := by decide +kernel
theorem dX4_mealsIn_43 : decode cX4_mealsIn 43 = .ok (.iload_n 3, 1) := by decide +kernel
theorem dX4_mealsIn_44 : decode cX4_mealsIn 44 = .ok (.ishl, 1) := by decide +kernel
theorem dX4_mealsIn_45 : decode cX4_mealsIn 45 = .ok (.ior, 1) := by decide +kernel
theorem dX4_mealsIn_46 : decode cX4_mealsIn 46 = .ok (.istore_n 2, 1) := by decide +kernel
theorem dX4_mealsIn_47 : decode cX4_mealsIn 47 = .ok (.iinc 3 1, 3) := by decide +kernel
theorem dX4_mealsIn_50 : decode cX4_mealsIn 50 = .ok (.goto (-46), 3) := by decide +kernel
theorem dX4_mealsIn_53 : decode cX4_mealsIn 53 = .ok (.iload_n 2, 1) := by decide +kernel
theorem dX4_mealsIn_54 : decode cX4_mealsIn 54 = .ok (.ireturn, 1) := by decide +kernel
set_option maxRecDepth 20000 in
theorem ggX4_mealsWith_X5_size : GoodIn wsX4_mealsWith wsX5_size := goodIn_r _ [6, 7, 20, 21, 22, 23] (by decide +kernel) (by decide +kernel)
set_option maxRecDepth 20000 in
theorem gX4_mealsWith_X5_size : GoodIn wsX4_mealsWith (wsV RX4 56 RX5 yX5_size wsX5_size) := goodIn_app (goodIn_of _ (by decide +kernel)) ggX4_mealsWith_X5_size
set_option maxRecDepth 20000 in
theorem ggX4_mealsWith_X5_at : GoodIn wsX4_mealsWith wsX5_at := goodIn_r _ [11, 12, 13, 20, 21, 22, 23] (by decide +kernel) (by decide +kernel)
set_option maxRecDepth 20000 in
theorem gX4_mealsWith_X5_at : GoodIn wsX4_mealsWith (wsV RX4 52 RX5 yX5_at wsX5_at) := goodIn_app (goodIn_of _ (by decide +kernel)) ggX4_mealsWith_X5_at
theorem dX4_mealsWith_0 : decode cX4_mealsWith 0 = .ok (.iconst 0, 1) := by decide +kernel
theorem dX4_mealsWith_1 : decode cX4_mealsWith 1 = .ok (.istore_n 2, 1) := by decide +kernel
theorem dX4_mealsWith_2 : decode cX4_mealsWith 2 = .ok (.iconst 0, 1) := by decide +kernel
theorem dX4_mealsWith_3 : decode cX4_mealsWith 3 = .ok (.istore_n 3, 1) := by decide +kernel
theorem dX4_mealsWith_4 : decode cX4_mealsWith 4 = .ok (.iload_n 3, 1) := by decide +kernel
theorem dX4_mealsWith_5 : decode cX4_mealsWith 5 = .ok (.aload_n 0, 1) := by decide +kernel
theorem dX4_mealsWith_6 : decode cX4_mealsWith 6 = .ok (.getfield 20, 3) := by decide +kernel
theorem dX4_mealsWith_9 : decode cX4_mealsWith 9 = .ok (.invokevirtual 56, 3) := by decide +kernel
theorem dX4_mealsWith_12 : decode cX4_mealsWith 12 = .ok (.if_icmp .ge 42, 3) := by decide +kernel
theorem dX4_mealsWith_15 : decode cX4_mealsWith 15 = .ok (.aload_n 0, 1) := by decide +kernel
theorem dX4_mealsWith_16 : decode cX4_mealsWith 16 = .ok (.getfield 20, 3) := by decide +kernel
theorem dX4_mealsWith_19 : decode cX4_mealsWith 19 = .ok (.iload_n 3, 1) := by decide +kernel
theorem dX4_mealsWith_20 : decode cX4_mealsWith 20 = .ok (.iconst 0, 1) := by decide +kernel
theorem dX4_mealsWith_21 : decode cX4_mealsWith 21 = .ok (.invokevirtual 52, 3) := by decide +kernel
theorem dX4_mealsWith_24 : decode cX4_mealsWith 24 = .ok (.iconst 2, 1) := by decide +kernel
theorem dX4_mealsWith_25 : decode cX4_mealsWith 25 = .ok (.if_icmp .ne 23, 3) := by decide +kernel
theorem dX4_mealsWith_28 : decode cX4_mealsWith 28 = .ok (.aload_n 0, 1) := by decide +kernel
theorem dX4_mealsWith_29 : decode cX4_mealsWith 29 = .ok (.getfield 20, 3) := by decide +kernel
theorem dX4_mealsWith_32 : decode cX4_mealsWith 32 = .ok (.iload_n 3, 1) := by decide +kernel
theorem dX4_mealsWith_33 : decode cX4_mealsWith 33 = .ok (.bipush 6, 2) := by decide +kernel
theorem dX4_mealsWith_35 : decode cX4_mealsWith 35 = .ok (.invokevirtual 52, 3) := by decide +kernel
theorem dX4_mealsWith_38 : decode cX4_mealsWith 38 = .ok (.iload_n 1, 1) := by decide +kernel
theorem dX4_mealsWith_39 : decode cX4_mealsWith 39 = .ok (.if_icmp .ne 9, 3) := by decide +kernel
theorem dX4_mealsWith_42 : decode cX4_mealsWith 42 = .ok (.iload_n 2, 1) := by decide +kernel
theorem dX4_mealsWith_43 : decode cX4_mealsWith 43 = .ok (.iconst 1, 1) := by decide +kernel
theorem dX4_mealsWith_44 : decode cX4_mealsWith 44 = .ok (.iload_n 3, 1) := by decide +kernel
theorem dX4_mealsWith_45 : decode cX4_mealsWith 45 = .ok (.ishl, 1) := by decide +kernel
theorem dX4_mealsWith_46 : decode cX4_mealsWith 46 = .ok (.ior, 1) := by decide +kernel
theorem dX4_mealsWith_47 : decode cX4_mealsWith 47 = .ok (.istore_n 2, 1) := by decide +kernel
theorem dX4_mealsWith_48 : decode cX4_mealsWith 48 = .ok (.iinc 3 1, 3) := by decide +kernel
theorem dX4_mealsWith_51 : decode cX4_mealsWith 51 = .ok (.goto (-47), 3) := by decide +kernel
theorem dX4_mealsWith_54 : decode cX4_mealsWith 54 = .ok (.iload_n 2, 1) := by decide +kernel
theorem dX4_mealsWith_55 : decode cX4_mealsWith 55 = .ok (.ireturn, 1) := by decide +kernel
set_option maxRecDepth 20000 in
theorem ggX4_freeCells_X5_at : GoodIn wsX4_freeCells wsX5_at := goodIn_r _ [6, 7, 8, 33, 34, 35, 36] (by decide +kernel) (by decide +kernel)
set_option maxRecDepth 20000 in
theorem gX4_freeCells_X5_at : GoodIn wsX4_freeCells (wsV RX4 52 RX5 yX5_at wsX5_at) := goodIn_app (goodIn_of _ (by decide +kernel)) ggX4_freeCells_X5_at
set_option maxRecDepth 20000 in
theorem ggX4_freeCells_X4_mealsIn : GoodIn wsX4_freeCells wsX4_mealsIn := goodIn_r _ [13, 14, 15, 16, 17, 5, 18, 19, 2, 3, 4, 6, 7, 8, 27, 28, 29, 30, 31, 32, 33, 34, 35, 36] (by decide +kernel) (by decide +kernel)
set_option maxRecDepth 20000 in
theorem gX4_freeCells_X4_mealsIn : GoodIn wsX4_freeCells (wsV RX4 59 RX4 yX4_mealsIn wsX4_mealsIn) := goodIn_app (goodIn_of _ (by decide +kernel)) ggX4_freeCells_X4_mealsIn
set_option maxRecDepth 20000 in
theorem ggX4_freeCells_J6_bitCount_0f7a4 : GoodIn wsX4_freeCells wsJ6_bitCount_0f7a4 := goodIn_r _ [23, 24, 25, 26] (by decide +kernel) (by decide +kernel)
set_option maxRecDepth 20000 in
theorem gX4_freeCells_J6_bitCount_0f7a4 : GoodIn wsX4_freeCells (va_wsS RX4 63 yJ6_bitCount_0f7a4 wsJ6_bitCount_0f7a4) := goodIn_app (goodIn_of _ (by decide +kernel)) ggX4_freeCells_J6_bitCount_0f7a4
theorem dX4_freeCells_0 : decode cX4_freeCells 0 = .ok (.aload_n 0, 1) := by decide +kernel
theorem dX4_freeCells_1 : decode cX4_freeCells 1 = .ok (.getfield 14, 3) := by decide +kernel
theorem dX4_freeCells_4 : decode cX4_freeCells 4 = .ok (.iload_n 1, 1) := by decide +kernel
theorem dX4_freeCells_5 : decode cX4_freeCells 5 = .ok (.iconst 0, 1) := by decide +kernel
theorem dX4_freeCells_6 : decode cX4_freeCells 6 = .ok (.invokevirtual 52, 3) := by decide +kernel
theorem dX4_freeCells_9 : decode cX4_freeCells 9 = .ok (.aload_n 0, 1) := by decide +kernel
theorem dX4_freeCells_10 : decode cX4_freeCells 10 = .ok (.iload_n 1, 1) := by decide +kernel
theorem dX4_freeCells_11 : decode cX4_freeCells 11 = .ok (.invokevirtual 59, 3) := by decide +kernel
theorem dX4_freeCells_14 : decode cX4_freeCells 14 = .ok (.invokestatic 63, 3) := by decide +kernel
theorem dX4_freeCells_17 : decode cX4_freeCells 17 = .ok (.isub, 1) := by decide +kernel
theorem dX4_freeCells_18 : decode cX4_freeCells 18 = .ok (.ireturn, 1) := by decide +kernel
set_option maxRecDepth 20000 in
theorem ggX4_mealReservedBy_X5_size : GoodIn wsX4_mealReservedBy wsX5_size := goodIn_r _ [6, 7, 20, 21, 22, 23] (by decide +kernel) (by decide +kernel)
set_option maxRecDepth 20000 in
theorem gX4_mealReservedBy_X5_size : GoodIn wsX4_mealReservedBy (wsV RX4 56 RX5 yX5_size wsX5_size) := goodIn_app (goodIn_of _ (by decide +kernel)) ggX4_mealReservedBy_X5_size
set_option maxRecDepth 20000 in
theorem ggX4_mealReservedBy_X5_at : GoodIn wsX4_mealReservedBy wsX5_at := goodIn_r _ [11, 12, 13, 20, 21, 22, 23] (by decide +kernel) (by decide +kernel)
set_option maxRecDepth 20000 in
theorem gX4_mealReservedBy_X5_at : GoodIn wsX4_mealReservedBy (wsV RX4 52 RX5 yX5_at wsX5_at) := goodIn_app (goodIn_of _ (by decide +kernel)) ggX4_mealReservedBy_X5_at
theorem dX4_mealReservedBy_0 : decode cX4_mealReservedBy 0 = .ok (.iconst 0, 1) := by decide +kernel
theorem dX4_mealReservedBy_1 : decode cX4_mealReservedBy 1 = .ok (.istore_n 2, 1) := by decide +kernel
theorem dX4_mealReservedBy_2 : decode cX4_mealReservedBy 2 = .ok (.iload_n 2, 1) := by decide +kernel
theorem dX4_mealReservedBy_3 : decode cX4_mealReservedBy 3 = .ok (.aload_n 0, 1) := by decide +kernel
theorem dX4_mealReservedBy_4 : decode cX4_mealReservedBy 4 = .ok (.getfield 20, 3) := by decide +kernel
theorem dX4_mealReservedBy_7 : decode cX4_mealReservedBy 7 = .ok (.invokevirtual 56, 3) := by decide +kernel
theorem dX4_mealReservedBy_10 : decode cX4_mealReservedBy 10 = .ok (.if_icmp .ge 37, 3) := by decide +kernel
theorem dX4_mealReservedBy_13 : decode cX4_mealReservedBy 13 = .ok (.aload_n 0, 1) := by decide +kernel
theorem dX4_mealReservedBy_14 : decode cX4_mealReservedBy 14 = .ok (.getfield 20, 3) := by decide +kernel
theorem dX4_mealReservedBy_17 : decode cX4_mealReservedBy 17 = .ok (.iload_n 2, 1) := by decide +kernel
theorem dX4_mealReservedBy_18 : decode cX4_mealReservedBy 18 = .ok (.iconst 0, 1) := by decide +kernel
theorem dX4_mealReservedBy_19 : decode cX4_mealReservedBy 19 = .ok (.invokevirtual 52, 3) := by decide +kernel
theorem dX4_mealReservedBy_22 : decode cX4_mealReservedBy 22 = .ok (.iconst 1, 1) := by decide +kernel
theorem dX4_mealReservedBy_23 : decode cX4_mealReservedBy 23 = .ok (.if_icmp .ne 18, 3) := by decide +kernel
theorem dX4_mealReservedBy_26 : decode cX4_mealReservedBy 26 = .ok (.aload_n 0, 1) := by decide +kernel
theorem dX4_mealReservedBy_27 : decode cX4_mealReservedBy 27 = .ok (.getfield 20, 3) := by decide +kernel
theorem dX4_mealReservedBy_30 : decode cX4_mealReservedBy 30 = .ok (.iload_n 2, 1) := by decide +kernel
theorem dX4_mealReservedBy_31 : decode cX4_mealReservedBy 31 = .ok (.iconst 5, 1) := by decide +kernel
theorem dX4_mealReservedBy_32 : decode cX4_mealReservedBy 32 = .ok (.invokevirtual 52, 3) := by decide +kernel
theorem dX4_mealReservedBy_35 : decode cX4_mealReservedBy 35 = .ok (.iload_n 1, 1) := by decide +kernel
theorem dX4_mealReservedBy_36 : decode cX4_mealReservedBy 36 = .ok (.if_icmp .ne 5, 3) := by decide +kernel
theorem dX4_mealReservedBy_39 : decode cX4_mealReservedBy 39 = .ok (.iload_n 2, 1) := by decide +kernel
theorem dX4_mealReservedBy_40 : decode cX4_mealReservedBy 40 = .ok (.ireturn, 1) := by decide +kernel
theorem dX4_mealReservedBy_41 : decode cX4_mealReservedBy 41 = .ok (.iinc 2 1, 3) := by decide +kernel
theorem dX4_mealReservedBy_44 : decode cX4_mealReservedBy 44 = .ok (.goto (-42), 3) := by decide +kernel
theorem dX4_mealReservedBy_47 : decode cX4_mealReservedBy 47 = .ok (.bipush (-4), 2) := by decide +kernel
theorem dX4_mealReservedBy_49 : decode cX4_mealReservedBy 49 = .ok (.ireturn, 1) := by decide +kernel
set_option maxRecDepth 20000 in
theorem ggX4_isFitFor_X5_at : GoodIn wsX4_isFitFor wsX5_at := goodIn_r _ [7, 8, 9, 16, 17, 18, 19] (by decide +kernel) (by decide +kernel)
set_option maxRecDepth 20000 in
theorem gX4_isFitFor_X5_at : GoodIn wsX4_isFitFor (wsV RX4 52 RX5 yX5_at wsX5_at) := goodIn_app (goodIn_of _ (by decide +kernel)) ggX4_isFitFor_X5_at
theorem dX4_isFitFor_0 : decode cX4_isFitFor 0 = .ok (.aload_n 0, 1) := by decide +kernel
theorem dX4_isFitFor_1 : decode cX4_isFitFor 1 = .ok (.getfield 20, 3) := by decide +kernel
theorem dX4_isFitFor_4 : decode cX4_isFitFor 4 = .ok (.iload_n 2, 1) := by decide +kernel
theorem dX4_isFitFor_5 : decode cX4_isFitFor 5 = .ok (.iconst 3, 1) := by decide +kernel
theorem dX4_isFitFor_6 : decode cX4_isFitFor 6 = .ok (.invokevirtual 52, 3) := by decide +kernel
theorem dX4_isFitFor_9 : decode cX4_isFitFor 9 = .ok (.aload_n 0, 1) := by decide +kernel
theorem dX4_isFitFor_10 : decode cX4_isFitFor 10 = .ok (.getfield 23, 3) := by decide +kernel
theorem dX4_isFitFor_13 : decode cX4_isFitFor 13 = .ok (.iload_n 1, 1) := by decide +kernel
theorem dX4_isFitFor_14 : decode cX4_isFitFor 14 = .ok (.iconst 0, 1) := by decide +kernel
theorem dX4_isFitFor_15 : decode cX4_isFitFor 15 = .ok (.invokevirtual 52, 3) := by decide +kernel
theorem dX4_isFitFor_18 : decode cX4_isFitFor 18 = .ok (.iand, 1) := by decide +kernel
theorem dX4_isFitFor_19 : decode cX4_isFitFor 19 = .ok (.istore_n 3, 1) := by decide +kernel
theorem dX4_isFitFor_20 : decode cX4_isFitFor 20 = .ok (.aload_n 0, 1) := by decide +kernel
theorem dX4_isFitFor_21 : decode cX4_isFitFor 21 = .ok (.getfield 20, 3) := by decide +kernel
theorem dX4_isFitFor_24 : decode cX4_isFitFor 24 = .ok (.iload_n 2, 1) := by decide +kernel
theorem dX4_isFitFor_25 : decode cX4_isFitFor 25 = .ok (.iconst 0, 1) := by decide +kernel
theorem dX4_isFitFor_26 : decode cX4_isFitFor 26 = .ok (.invokevirtual 52, 3) := by decide +kernel
theorem dX4_isFitFor_29 : decode cX4_isFitFor 29 = .ok (.ifCond .ne 11, 3) := by decide +kernel
theorem dX4_isFitFor_32 : decode cX4_isFitFor 32 = .ok (.iload_n 3, 1) := by decide +kernel
theorem dX4_isFitFor_33 : decode cX4_isFitFor 33 = .ok (.ifCond .ne 7, 3) := by decide +kernel
theorem dX4_isFitFor_36 : decode cX4_isFitFor 36 = .ok (.iconst 1, 1) := by decide +kernel
theorem dX4_isFitFor_37 : decode cX4_isFitFor 37 = .ok (.goto 4, 3) := by decide +kernel
theorem dX4_isFitFor_40 : decode cX4_isFitFor 40 = .ok (.iconst 0, 1) := by decide +kernel
theorem dX4_isFitFor_41 : decode cX4_isFitFor 41 = .ok (.ireturn, 1) := by decide +kernel
set_option maxRecDepth 20000 in
theorem ggX4_barredHours_X5_at : GoodIn wsX4_barredHours wsX5_at := goodIn_r _ [11, 12, 13, 20, 21, 22, 23] (by decide +kernel) (by decide +kernel)
set_option maxRecDepth 20000 in
theorem gX4_barredHours_X5_at : GoodIn wsX4_barredHours (wsV RX4 52 RX5 yX5_at wsX5_at) := goodIn_app (goodIn_of _ (by decide +kernel)) ggX4_barredHours_X5_at
theorem dX4_barredHours_0 : decode cX4_barredHours 0 = .ok (.iconst 0, 1) := by decide +kernel
theorem dX4_barredHours_1 : decode cX4_barredHours 1 = .ok (.aload_n 0, 1) := by decide +kernel
theorem dX4_barredHours_2 : decode cX4_barredHours 2 = .ok (.getfield 23, 3) := by decide +kernel
theorem dX4_barredHours_5 : decode cX4_barredHours 5 = .ok (.iload_n 1, 1) := by decide +kernel
theorem dX4_barredHours_6 : decode cX4_barredHours 6 = .ok (.iconst 2, 1) := by decide +kernel
theorem dX4_barredHours_7 : decode cX4_barredHours 7 = .ok (.invokevirtual 52, 3) := by decide +kernel
theorem dX4_barredHours_10 : decode cX4_barredHours 10 = .ok (.aload_n 0, 1) := by decide +kernel
theorem dX4_barredHours_11 : decode cX4_barredHours 11 = .ok (.getfield 48, 3) := by decide +kernel
theorem dX4_barredHours_14 : decode cX4_barredHours 14 = .ok (.isub, 1) := by decide +kernel
theorem dX4_barredHours_15 : decode cX4_barredHours 15 = .ok (.invokestatic 68, 3) := by decide +kernel
theorem dX4_barredHours_18 : decode cX4_barredHours 18 = .ok (.ireturn, 1) := by decide +kernel
set_option maxRecDepth 20000 in
theorem ggX4_wayHoursLeft_X5_at : GoodIn wsX4_wayHoursLeft wsX5_at := goodIn_r _ [11, 12, 13, 20, 21, 22, 23] (by decide +kernel) (by decide +kernel)
set_option maxRecDepth 20000 in
theorem gX4_wayHoursLeft_X5_at : GoodIn wsX4_wayHoursLeft (wsV RX4 52 RX5 yX5_at wsX5_at) := goodIn_app (goodIn_of _ (by decide +kernel)) ggX4_wayHoursLeft_X5_at
theorem dX4_wayHoursLeft_0 : decode cX4_wayHoursLeft 0 = .ok (.iconst 0, 1) := by decide +kernel
theorem dX4_wayHoursLeft_1 : decode cX4_wayHoursLeft 1 = .ok (.aload_n 0, 1) := by decide +kernel
theorem dX4_wayHoursLeft_2 : decode cX4_wayHoursLeft 2 = .ok (.getfield 26, 3) := by decide +kernel
theorem dX4_wayHoursLeft_5 : decode cX4_wayHoursLeft 5 = .ok (.iload_n 1, 1) := by decide +kernel
theorem dX4_wayHoursLeft_6 : decode cX4_wayHoursLeft 6 = .ok (.iconst 3, 1) := by decide +kernel
theorem dX4_wayHoursLeft_7 : decode cX4_wayHoursLeft 7 = .ok (.invokevirtual 52, 3) := by decide +kernel
theorem dX4_wayHoursLeft_10 : decode cX4_wayHoursLeft 10 = .ok (.aload_n 0, 1) := by decide +kernel
theorem dX4_wayHoursLeft_11 : decode cX4_wayHoursLeft 11 = .ok (.getfield 48, 3) := by decide +kernel
theorem dX4_wayHoursLeft_14 : decode cX4_wayHoursLeft 14 = .ok (.isub, 1) := by decide +kernel
theorem dX4_wayHoursLeft_15 : decode cX4_wayHoursLeft 15 = .ok (.invokestatic 68, 3) := by decide +kernel
theorem dX4_wayHoursLeft_18 : decode cX4_wayHoursLeft 18 = .ok (.ireturn, 1) := by decide +kernel
set_option maxRecDepth 20000 in
theorem ggX4_wayHours_X4_setting : GoodIn wsX4_wayHours wsX4_setting := goodIn_r _ [9, 10, 11, 12, 13, 14, 15, 16, 17, 18, 19, 20, 21, 22, 23, 24, 25, 26, 27] (by decide +kernel) (by decide +kernel)
set_option maxRecDepth 20000 in
theorem gX4_wayHours_X4_setting : GoodIn wsX4_wayHours (wsV RX4 76 RX4 yX4_setting wsX4_setting) := goodIn_app (goodIn_of _ (by decide +kernel)) ggX4_wayHours_X4_setting
theorem dX4_wayHours_0 : decode cX4_wayHours 0 = .ok (.iload_n 1, 1) := by decide +kernel
theorem dX4_wayHours_1 : decode cX4_wayHours 1 = .ok (.iload_n 2, 1) := by decide +kernel
theorem dX4_wayHours_2 : decode cX4_wayHours 2 = .ok (.isub, 1) := by decide +kernel
theorem dX4_wayHours_3 : decode cX4_wayHours 3 = .ok (.invokestatic 73, 3) := by decide +kernel
theorem dX4_wayHours_6 : decode cX4_wayHours 6 = .ok (.aload_n 0, 1) := by decide +kernel
theorem dX4_wayHours_7 : decode cX4_wayHours 7 = .ok (.iconst 3, 1) := by decide +kernel
theorem dX4_wayHours_8 : decode cX4_wayHours 8 = .ok (.invokevirtual 76, 3) := by decide +kernel
theorem dX4_wayHours_11 : decode cX4_wayHours 11 = .ok (.imul, 1) := by decide +kernel
theorem dX4_wayHours_12 : decode cX4_wayHours 12 = .ok (.ireturn, 1) := by decide +kernel
set_option maxRecDepth 20000 in
theorem ggX4_isCold_X5_at : GoodIn wsX4_isCold wsX5_at := goodIn_r _ [6, 7, 8, 15, 16, 17, 18] (by decide +kernel) (by decide +kernel)
set_option maxRecDepth 20000 in
theorem gX4_isCold_X5_at : GoodIn wsX4_isCold (wsV RX4 52 RX5 yX5_at wsX5_at) := goodIn_app (goodIn_of _ (by decide +kernel)) ggX4_isCold_X5_at
theorem dX4_isCold_0 : decode cX4_isCold 0 = .ok (.aload_n 0, 1) := by decide +kernel
theorem dX4_isCold_1 : decode cX4_isCold 1 = .ok (.getfield 14, 3) := by decide +kernel
theorem dX4_isCold_4 : decode cX4_isCold 4 = .ok (.iload_n 1, 1) := by decide +kernel
theorem dX4_isCold_5 : decode cX4_isCold 5 = .ok (.iconst 1, 1) := by decide +kernel
theorem dX4_isCold_6 : decode cX4_isCold 6 = .ok (.invokevirtual 52, 3) := by decide +kernel
theorem dX4_isCold_9 : decode cX4_isCold 9 = .ok (.iconst 1, 1) := by decide +kernel
theorem dX4_isCold_10 : decode cX4_isCold 10 = .ok (.if_icmp .ne 7, 3) := by decide +kernel
theorem dX4_isCold_13 : decode cX4_isCold 13 = .ok (.iconst 1, 1) := by decide +kernel
theorem dX4_isCold_14 : decode cX4_isCold 14 = .ok (.goto 4, 3) := by decide +kernel
theorem dX4_isCold_17 : decode cX4_isCold 17 = .ok (.iconst 0, 1) := by decide +kernel
theorem dX4_isCold_18 : decode cX4_isCold 18 = .ok (.ireturn, 1) := by decide +kernel
theorem dX5_init_0 : decode cX5_init 0 = .ok (.aload_n 0, 1) := by decide +kernel
theorem dX5_init_1 : decode cX5_init 1 = .ok (.invokespecial 1, 3) := by decide +kernel
theorem dX5_init_4 : decode cX5_init 4 = .ok (.aload_n 0, 1) := by decide +kernel
theorem dX5_init_5 : decode cX5_init 5 = .ok (.iload_n 1, 1) := by decide +kernel
theorem dX5_init_6 : decode cX5_init 6 = .ok (.putfield 7, 3) := by decide +kernel
theorem dX5_init_9 : decode cX5_init 9 = .ok (.aload_n 0, 1) := by decide +kernel
theorem dX5_init_10 : decode cX5_init 10 = .ok (.iload_n 2, 1) := by decide +kernel
theorem dX5_init_11 : decode cX5_init 11 = .ok (.putfield 13, 3) := by decide +kernel
theorem dX5_init_14 : decode cX5_init 14 = .ok (.aload_n 0, 1) := by decide +kernel
theorem dX5_init_15 : decode cX5_init 15 = .ok (.iconst 0, 1) := by decide +kernel
theorem dX5_init_16 : decode cX5_init 16 = .ok (.iload_n 1, 1) := by decide +kernel
theorem dX5_init_17 : decode cX5_init 17 = .ok (.iload_n 2, 1) := by decide +kernel
theorem dX5_init_18 : decode cX5_init 18 = .ok (.imul, 1) := by decide +kernel
theorem dX5_init_19 : decode cX5_init 19 = .ok (.invokestatic 16, 3) := by decide +kernel
theorem dX5_init_22 : decode cX5_init 22 = .ok (.newarray .int, 2) := by decide +kernel
theorem dX5_init_24 : decode cX5_init 24 = .ok (.putfield 22, 3) := by decide +kernel
theorem dX5_init_27 : decode cX5_init 27 = .ok (.return_, 1) := by decide +kernel
theorem dX5_size_0 : decode cX5_size 0 = .ok (.aload_n 0, 1) := by decide +kernel
theorem dX5_size_1 : decode cX5_size 1 = .ok (.getfield 26, 3) := by decide +kernel
theorem dX5_size_4 : decode cX5_size 4 = .ok (.ireturn, 1) := by decide +kernel
theorem dX5_has_0 : decode cX5_has 0 = .ok (.iload_n 1, 1) := by decide +kernel
theorem dX5_has_1 : decode cX5_has 1 = .ok (.ifCond .lt 15, 3) := by decide +kernel
theorem dX5_has_4 : decode cX5_has 4 = .ok (.iload_n 1, 1) := by decide +kernel
theorem dX5_has_5 : decode cX5_has 5 = .ok (.aload_n 0, 1) := by decide +kernel
theorem dX5_has_6 : decode cX5_has 6 = .ok (.getfield 26, 3) := by decide +kernel
theorem dX5_has_9 : decode cX5_has 9 = .ok (.if_icmp .ge 7, 3) := by decide +kernel
theorem dX5_has_12 : decode cX5_has 12 = .ok (.iconst 1, 1) := by decide +kernel
theorem dX5_has_13 : decode cX5_has 13 = .ok (.goto 4, 3) := by decide +kernel
theorem dX5_has_16 : decode cX5_has 16 = .ok (.iconst 0, 1) := by decide +kernel
theorem dX5_has_17 : decode cX5_has 17 = .ok (.ireturn, 1) := by decide +kernel
theorem dX5_isFull_0 : decode cX5_isFull 0 = .ok (.aload_n 0, 1) := by decide +kernel
theorem dX5_isFull_1 : decode cX5_isFull 1 = .ok (.getfield 26, 3) := by decide +kernel
theorem dX5_isFull_4 : decode cX5_isFull 4 = .ok (.aload_n 0, 1) := by decide +kernel
theorem dX5_isFull_5 : decode cX5_isFull 5 = .ok (.getfield 7, 3) := by decide +kernel
theorem dX5_isFull_8 : decode cX5_isFull 8 = .ok (.if_icmp .lt 7, 3) := by decide +kernel
theorem dX5_isFull_11 : decode cX5_isFull 11 = .ok (.iconst 1, 1) := by decide +kernel
theorem dX5_isFull_12 : decode cX5_isFull 12 = .ok (.goto 4, 3) := by decide +kernel
theorem dX5_isFull_15 : decode cX5_isFull 15 = .ok (.iconst 0, 1) := by decide +kernel
theorem dX5_isFull_16 : decode cX5_isFull 16 = .ok (.ireturn, 1) := by decide +kernel
theorem dX5_addRow_0 : decode cX5_addRow 0 = .ok (.aload_n 0, 1) := by decide +kernel
theorem dX5_addRow_1 : decode cX5_addRow 1 = .ok (.dup, 1) := by decide +kernel
theorem dX5_addRow_2 : decode cX5_addRow 2 = .ok (.getfield 26, 3) := by decide +kernel
theorem dX5_addRow_5 : decode cX5_addRow 5 = .ok (.iconst 1, 1) := by decide +kernel
theorem dX5_addRow_6 : decode cX5_addRow 6 = .ok (.iadd, 1) := by decide +kernel
theorem dX5_addRow_7 : decode cX5_addRow 7 = .ok (.putfield 26, 3) := by decide +kernel
theorem dX5_addRow_10 : decode cX5_addRow 10 = .ok (.aload_n 0, 1) := by decide +kernel
theorem dX5_addRow_11 : decode cX5_addRow 11 = .ok (.getfield 26, 3) := by decide +kernel
theorem dX5_addRow_14 : decode cX5_addRow 14 = .ok (.iconst 1, 1) := by decide +kernel
theorem dX5_addRow_15 : decode cX5_addRow 15 = .ok (.isub, 1) := by decide +kernel
theorem dX5_addRow_16 : decode cX5_addRow 16 = .ok (.ireturn, 1) := by decide +kernel
theorem dX5_at_0 : decode cX5_at 0 = .ok (.iload_n 1, 1) := by decide +kernel
theorem dX5_at_1 : decode cX5_at 1 = .ok (.aload_n 0, 1) := by decide +kernel
theorem dX5_at_2 : decode cX5_at 2 = .ok (.getfield 13, 3) := by decide +kernel
theorem dX5_at_5 : decode cX5_at 5 = .ok (.imul, 1) := by decide +kernel
theorem dX5_at_6 : decode cX5_at 6 = .ok (.iload_n 2, 1) := by decide +kernel
theorem dX5_at_7 : decode cX5_at 7 = .ok (.iadd, 1) := by decide +kernel
theorem dX5_at_8 : decode cX5_at 8 = .ok (.istore_n 3, 1) := by decide +kernel
theorem dX5_at_9 : decode cX5_at 9 = .ok (.iload_n 3, 1) := by decide +kernel
theorem dX5_at_10 : decode cX5_at 10 = .ok (.ifCond .lt 21, 3) := by decide +kernel
theorem dX5_at_13 : decode cX5_at 13 = .ok (.iload_n 3, 1) := by decide +kernel
theorem dX5_at_14 : decode cX5_at 14 = .ok (.aload_n 0, 1) := by decide +kernel
theorem dX5_at_15 : decode cX5_at 15 = .ok (.getfield 22, 3) := by decide +kernel
theorem dX5_at_18 : decode cX5_at 18 = .ok (.arraylength, 1) := by decide +kernel
theorem dX5_at_19 : decode cX5_at 19 = .ok (.if_icmp .ge 12, 3) := by decide +kernel
theorem dX5_at_22 : decode cX5_at 22 = .ok (.aload_n 0, 1) := by decide +kernel
theorem dX5_at_23 : decode cX5_at 23 = .ok (.getfield 22, 3) := by decide +kernel
theorem dX5_at_26 : decode cX5_at 26 = .ok (.iload_n 3, 1) := by decide +kernel
theorem dX5_at_27 : decode cX5_at 27 = .ok (.iaload, 1) := by decide +kernel
theorem dX5_at_28 : decode cX5_at 28 = .ok (.goto 4, 3) := by decide +kernel
theorem dX5_at_31 : decode cX5_at 31 = .ok (.iconst 0, 1) := by decide +kernel
theorem dX5_at_32 : decode cX5_at 32 = .ok (.ireturn, 1) := by decide +kernel
theorem dX5_store_0 : decode cX5_store 0 = .ok (.iload_n 1, 1) := by decide +kernel
theorem dX5_store_1 : decode cX5_store 1 = .ok (.aload_n 0, 1) := by decide +kernel
theorem dX5_store_2 : decode cX5_store 2 = .ok (.getfield 13, 3) := by decide +kernel
theorem dX5_store_5 : decode cX5_store 5 = .ok (.imul, 1) := by decide +kernel
theorem dX5_store_6 : decode cX5_store 6 = .ok (.iload_n 2, 1) := by decide +kernel
theorem dX5_store_7 : decode cX5_store 7 = .ok (.iadd, 1) := by decide +kernel
theorem dX5_store_8 : decode cX5_store 8 = .ok (.istore 4, 2) := by decide +kernel
theorem dX5_store_10 : decode cX5_store 10 = .ok (.iload 4, 2) := by decide +kernel
theorem dX5_store_12 : decode cX5_store 12 = .ok (.ifCond .lt 21, 3) := by decide +kernel
theorem dX5_store_15 : decode cX5_store 15 = .ok (.iload 4, 2) := by decide +kernel
theorem dX5_store_17 : decode cX5_store 17 = .ok (.aload_n 0, 1) := by decide +kernel
theorem dX5_store_18 : decode cX5_store 18 = .ok (.getfield 22, 3) := by decide +kernel
theorem dX5_store_21 : decode cX5_store 21 = .ok (.arraylength, 1) := by decide +kernel
theorem dX5_store_22 : decode cX5_store 22 = .ok (.if_icmp .ge 11, 3) := by decide +kernel
theorem dX5_store_25 : decode cX5_store 25 = .ok (.aload_n 0, 1) := by decide +kernel
theorem dX5_store_26 : decode cX5_store 26 = .ok (.getfield 22, 3) := by decide +kernel
theorem dX5_store_29 : decode cX5_store 29 = .ok (.iload 4, 2) := by decide +kernel
theorem dX5_store_31 : decode cX5_store 31 = .ok (.iload_n 3, 1) := by decide +kernel
theorem dX5_store_32 : decode cX5_store 32 = .ok (.iastore, 1) := by decide +kernel
theorem dX5_store_33 : decode cX5_store 33 = .ok (.return_, 1) := by decide +kernel
set_option maxRecDepth 20000 in
theorem ggX5_raise_X5_at : GoodIn wsX5_raise wsX5_at := goodIn_r _ [5, 6, 7, 12, 13, 14, 15] (by decide +kernel) (by decide +kernel)
set_option maxRecDepth 20000 in
theorem gX5_raise_X5_at : GoodIn wsX5_raise (wsV RX5 29 RX5 yX5_at wsX5_at) := goodIn_app (goodIn_of _ (by decide +kernel)) ggX5_raise_X5_at
set_option maxRecDepth 20000 in
theorem ggX5_raise_X5_store : GoodIn wsX5_raise wsX5_store := goodIn_r _ [11, 6, 7, 12, 13, 14, 15] (by decide +kernel) (by decide +kernel)
set_option maxRecDepth 20000 in
theorem gX5_raise_X5_store : GoodIn wsX5_raise (wsV RX5 32 RX5 yX5_store wsX5_store) := goodIn_app (goodIn_of _ (by decide +kernel)) ggX5_raise_X5_store
theorem dX5_raise_0 : decode cX5_raise 0 = .ok (.aload_n 0, 1) := by decide +kernel
theorem dX5_raise_1 : decode cX5_raise 1 = .ok (.iload_n 1, 1) := by decide +kernel
theorem dX5_raise_2 : decode cX5_raise 2 = .ok (.iload_n 2, 1) := by decide +kernel
theorem dX5_raise_3 : decode cX5_raise 3 = .ok (.aload_n 0, 1) := by decide +kernel
theorem dX5_raise_4 : decode cX5_raise 4 = .ok (.iload_n 1, 1) := by decide +kernel
theorem dX5_raise_5 : decode cX5_raise 5 = .ok (.iload_n 2, 1) := by decide +kernel
theorem dX5_raise_6 : decode cX5_raise 6 = .ok (.invokevirtual 29, 3) := by decide +kernel
theorem dX5_raise_9 : decode cX5_raise 9 = .ok (.iconst 1, 1) := by decide +kernel
theorem dX5_raise_10 : decode cX5_raise 10 = .ok (.iadd, 1) := by decide +kernel
theorem dX5_raise_11 : decode cX5_raise 11 = .ok (.invokevirtual 32, 3) := by decide +kernel
theorem dX5_raise_14 : decode cX5_raise 14 = .ok (.return_, 1) := by decide +kernel
theorem dX5_copyFrom_0 : decode cX5_copyFrom 0 = .ok (.aload_n 0, 1) := by decide +kernel
theorem dX5_copyFrom_1 : decode cX5_copyFrom 1 = .ok (.aload_n 1, 1) := by decide +kernel
theorem dX5_copyFrom_2 : decode cX5_copyFrom 2 = .ok (.getfield 26, 3) := by decide +kernel
theorem dX5_copyFrom_5 : decode cX5_copyFrom 5 = .ok (.putfield 26, 3) := by decide +kernel
theorem dX5_copyFrom_8 : decode cX5_copyFrom 8 = .ok (.iconst 0, 1) := by decide +kernel
theorem dX5_copyFrom_9 : decode cX5_copyFrom 9 = .ok (.istore_n 2, 1) := by decide +kernel
theorem dX5_copyFrom_10 : decode cX5_copyFrom 10 = .ok (.iload_n 2, 1) := by decide +kernel
theorem dX5_copyFrom_11 : decode cX5_copyFrom 11 = .ok (.aload_n 0, 1) := by decide +kernel
theorem dX5_copyFrom_12 : decode cX5_copyFrom 12 = .ok (.getfield 22, 3) := by decide +kernel
theorem dX5_copyFrom_15 : decode cX5_copyFrom 15 = .ok (.arraylength, 1) := by decide +kernel
theorem dX5_copyFrom_16 : decode cX5_copyFrom 16 = .ok (.if_icmp .ge 30, 3) := by decide +kernel
theorem dX5_copyFrom_19 : decode cX5_copyFrom 19 = .ok (.iload_n 2, 1) := by decide +kernel
theorem dX5_copyFrom_20 : decode cX5_copyFrom 20 = .ok (.aload_n 1, 1) := by decide +kernel
theorem dX5_copyFrom_21 : decode cX5_copyFrom 21 = .ok (.getfield 22, 3) := by decide +kernel
theorem dX5_copyFrom_24 : decode cX5_copyFrom 24 = .ok (.arraylength, 1) := by decide +kernel
theorem dX5_copyFrom_25 : decode cX5_copyFrom 25 = .ok (.if_icmp .ge 21, 3) := by decide +kernel
theorem dX5_copyFrom_28 : decode cX5_copyFrom 28 = .ok (.aload_n 0, 1) := by decide +kernel
theorem dX5_copyFrom_29 : decode cX5_copyFrom 29 = .ok (.getfield 22, 3) := by decide +kernel
theorem dX5_copyFrom_32 : decode cX5_copyFrom 32 = .ok (.iload_n 2, 1) := by decide +kernel
theorem dX5_copyFrom_33 : decode cX5_copyFrom 33 = .ok (.aload_n 1, 1) := by decide +kernel
theorem dX5_copyFrom_34 : decode cX5_copyFrom 34 = .ok (.getfield 22, 3) := by decide +kernel
theorem dX5_copyFrom_37 : decode cX5_copyFrom 37 = .ok (.iload_n 2, 1) := by decide +kernel
theorem dX5_copyFrom_38 : decode cX5_copyFrom 38 = .ok (.iaload, 1) := by decide +kernel
theorem dX5_copyFrom_39 : decode cX5_copyFrom 39 = .ok (.iastore, 1) := by decide +kernel
theorem dX5_copyFrom_40 : decode cX5_copyFrom 40 = .ok (.iinc 2 1, 3) := by decide +kernel
theorem dX5_copyFrom_43 : decode cX5_copyFrom 43 = .ok (.goto (-33), 3) := by decide +kernel
theorem dX5_copyFrom_46 : decode cX5_copyFrom 46 = .ok (.return_, 1) := by decide +kernel
theorem dX6_init_0 : decode cX6_init 0 = .ok (.aload_n 0, 1) := by decide +kernel
theorem dX6_init_1 : decode cX6_init 1 = .ok (.invokespecial 3, 3) := by decide +kernel
theorem dX6_init_4 : decode cX6_init 4 = .ok (.aload_n 0, 1) := by decide +kernel
theorem dX6_init_5 : decode cX6_init 5 = .ok (.bipush 60, 2) := by decide +kernel
theorem dX6_init_7 : decode cX6_init 7 = .ok (.newarray .char, 2) := by decide +kernel
theorem dX6_init_9 : decode cX6_init 9 = .ok (.putfield 9, 3) := by decide +kernel
theorem dX6_init_12 : decode cX6_init 12 = .ok (.return_, 1) := by decide +kernel
theorem dX6_length_0 : decode cX6_length 0 = .ok (.aload_n 0, 1) := by decide +kernel
theorem dX6_length_1 : decode cX6_length 1 = .ok (.getfield 15, 3) := by decide +kernel
theorem dX6_length_4 : decode cX6_length 4 = .ok (.ireturn, 1) := by decide +kernel
set_option maxRecDepth 20000 in
theorem ggX6_append_X7_isWithin : GoodIn wsX6_append wsX7_isWithin := goodIn_r _ [5] (by decide +kernel) (by decide +kernel)
set_option maxRecDepth 20000 in
theorem gX6_append_X7_isWithin_n19 : GoodIn wsX6_append (wsX7_isWithin) := ggX6_append_X7_isWithin
theorem dX6_append_0 : decode cX6_append 0 = .ok (.iload_n 1, 1) := by decide +kernel
theorem dX6_append_1 : decode cX6_append 1 = .ok (.bipush 32, 2) := by decide +kernel
theorem dX6_append_3 : decode cX6_append 3 = .ok (.bipush 126, 2) := by decide +kernel
theorem dX6_append_5 : decode cX6_append 5 = .ok (.invokestatic 19, 3) := by decide +kernel
theorem dX6_append_8 : decode cX6_append 8 = .ok (.ifCond .ne 5, 3) := by decide +kernel
theorem dX6_append_11 : decode cX6_append 11 = .ok (.iconst (-1), 1) := by decide +kernel
theorem dX6_append_12 : decode cX6_append 12 = .ok (.ireturn, 1) := by decide +kernel
theorem dX6_append_13 : decode cX6_append 13 = .ok (.aload_n 0, 1) := by decide +kernel
theorem dX6_append_14 : decode cX6_append 14 = .ok (.getfield 15, 3) := by decide +kernel
theorem dX6_append_17 : decode cX6_append 17 = .ok (.ifCond .lt 15, 3) := by decide +kernel
theorem dX6_append_20 : decode cX6_append 20 = .ok (.aload_n 0, 1) := by decide +kernel
theorem dX6_append_21 : decode cX6_append 21 = .ok (.getfield 15, 3) := by decide +kernel
theorem dX6_append_24 : decode cX6_append 24 = .ok (.aload_n 0, 1) := by decide +kernel
theorem dX6_append_25 : decode cX6_append 25 = .ok (.getfield 9, 3) := by decide +kernel
theorem dX6_append_28 : decode cX6_append 28 = .ok (.arraylength, 1) := by decide +kernel
theorem dX6_append_29 : decode cX6_append 29 = .ok (.if_icmp .lt 6, 3) := by decide +kernel
theorem dX6_append_32 : decode cX6_append 32 = .ok (.bipush (-3), 2) := by decide +kernel
theorem dX6_append_34 : decode cX6_append 34 = .ok (.ireturn, 1) := by decide +kernel
theorem dX6_append_35 : decode cX6_append 35 = .ok (.aload_n 0, 1) := by decide +kernel
theorem dX6_append_36 : decode cX6_append 36 = .ok (.getfield 9, 3) := by decide +kernel
theorem dX6_append_39 : decode cX6_append 39 = .ok (.aload_n 0, 1) := by decide +kernel
theorem dX6_append_40 : decode cX6_append 40 = .ok (.getfield 15, 3) := by decide +kernel
theorem dX6_append_43 : decode cX6_append 43 = .ok (.iload_n 1, 1) := by decide +kernel
theorem dX6_append_44 : decode cX6_append 44 = .ok (.i2c, 1) := by decide +kernel
theorem dX6_append_45 : decode cX6_append 45 = .ok (.castore, 1) := by decide +kernel
theorem dX6_append_46 : decode cX6_append 46 = .ok (.aload_n 0, 1) := by decide +kernel
theorem dX6_append_47 : decode cX6_append 47 = .ok (.dup, 1) := by decide +kernel
theorem dX6_append_48 : decode cX6_append 48 = .ok (.getfield 15, 3) := by decide +kernel
theorem dX6_append_51 : decode cX6_append 51 = .ok (.iconst 1, 1) := by decide +kernel
theorem dX6_append_52 : decode cX6_append 52 = .ok (.iadd, 1) := by decide +kernel
theorem dX6_append_53 : decode cX6_append 53 = .ok (.putfield 15, 3) := by decide +kernel
theorem dX6_append_56 : decode cX6_append 56 = .ok (.aload_n 0, 1) := by decide +kernel
theorem dX6_append_57 : decode cX6_append 57 = .ok (.getfield 15, 3) := by decide +kernel
theorem dX6_append_60 : decode cX6_append 60 = .ok (.ireturn, 1) := by decide +kernel
theorem dX6_empty_0 : decode cX6_empty 0 = .ok (.aload_n 0, 1) := by decide +kernel
theorem dX6_empty_1 : decode cX6_empty 1 = .ok (.getfield 15, 3) := by decide +kernel
theorem dX6_empty_4 : decode cX6_empty 4 = .ok (.istore_n 1, 1) := by decide +kernel
theorem dX6_empty_5 : decode cX6_empty 5 = .ok (.aload_n 0, 1) := by decide +kernel
theorem dX6_empty_6 : decode cX6_empty 6 = .ok (.iconst 0, 1) := by decide +kernel
theorem dX6_empty_7 : decode cX6_empty 7 = .ok (.putfield 15, 3) := by decide +kernel
theorem dX6_empty_10 : decode cX6_empty 10 = .ok (.iload_n 1, 1) := by decide +kernel
theorem dX6_empty_11 : decode cX6_empty 11 = .ok (.ireturn, 1) := by decide +kernel
set_option maxRecDepth 20000 in
theorem ggX6_readCommand_X6_signAt : GoodIn wsX6_readCommand wsX6_signAt := goodIn_r _ [10, 11, 12, 27, 28, 29, 30, 31, 32, 33] (by decide +kernel) (by decide +kernel)
set_option maxRecDepth 20000 in
theorem gX6_readCommand_X6_signAt : GoodIn wsX6_readCommand (wsV RX6 26 RX6 yX6_signAt wsX6_signAt) := goodIn_app (goodIn_of _ (by decide +kernel)) ggX6_readCommand_X6_signAt
set_option maxRecDepth 20000 in
theorem ggX6_readCommand_X6_numbersOf : GoodIn wsX6_readCommand wsX6_numbersOf := goodIn_r _ [15] (by decide +kernel) (by decide +kernel)
set_option maxRecDepth 20000 in
theorem gX6_readCommand_X6_numbersOf : GoodIn wsX6_readCommand (va_wsS RX6 34 yX6_numbersOf wsX6_numbersOf) := goodIn_app (goodIn_of _ (by decide +kernel)) ggX6_readCommand_X6_numbersOf
set_option maxRecDepth 20000 in
theorem ggX6_readCommand_X6_readNumber : GoodIn wsX6_readCommand wsX6_readNumber := goodIn_r _ [19, 3, 1, 6, 7, 8, 9, 10, 11, 12, 20, 21, 22, 27, 28, 29, 30, 31, 32, 33] (by decide +kernel) (by decide +kernel)
set_option maxRecDepth 20000 in
theorem gX6_readCommand_X6_readNumber : GoodIn wsX6_readCommand (wsV RX6 38 RX6 yX6_readNumber wsX6_readNumber) := goodIn_app (goodIn_of _ (by decide +kernel)) ggX6_readCommand_X6_readNumber
set_option maxRecDepth 20000 in
theorem ggX6_readCommand_X6_readSign : GoodIn wsX6_readCommand wsX6_readSign := goodIn_r _ [26, 1, 6, 7, 8, 9, 10, 11, 12, 27, 28, 29, 30, 31, 32, 33] (by decide +kernel) (by decide +kernel)
set_option maxRecDepth 20000 in
theorem gX6_readCommand_X6_readSign : GoodIn wsX6_readCommand (wsV RX6 48 RX6 yX6_readSign wsX6_readSign) := goodIn_app (goodIn_of _ (by decide +kernel)) ggX6_readCommand_X6_readSign
theorem dX6_readCommand_0 : decode cX6_readCommand 0 = .ok (.aload_n 0, 1) := by decide +kernel
theorem dX6_readCommand_1 : decode cX6_readCommand 1 = .ok (.iload_n 1, 1) := by decide +kernel
theorem dX6_readCommand_2 : decode cX6_readCommand 2 = .ok (.iconst 1, 1) := by decide +kernel
theorem dX6_readCommand_3 : decode cX6_readCommand 3 = .ok (.iadd, 1) := by decide +kernel
theorem dX6_readCommand_4 : decode cX6_readCommand 4 = .ok (.putfield 23, 3) := by decide +kernel
theorem dX6_readCommand_7 : decode cX6_readCommand 7 = .ok (.aload_n 0, 1) := by decide +kernel
theorem dX6_readCommand_8 : decode cX6_readCommand 8 = .ok (.aload_n 0, 1) := by decide +kernel
theorem dX6_readCommand_9 : decode cX6_readCommand 9 = .ok (.iload_n 1, 1) := by decide +kernel
theorem dX6_readCommand_10 : decode cX6_readCommand 10 = .ok (.invokevirtual 26, 3) := by decide +kernel
theorem dX6_readCommand_13 : decode cX6_readCommand 13 = .ok (.putfield 30, 3) := by decide +kernel
theorem dX6_readCommand_16 : decode cX6_readCommand 16 = .ok (.aload_n 0, 1) := by decide +kernel
theorem dX6_readCommand_17 : decode cX6_readCommand 17 = .ok (.getfield 30, 3) := by decide +kernel
theorem dX6_readCommand_20 : decode cX6_readCommand 20 = .ok (.invokestatic 34, 3) := by decide +kernel
theorem dX6_readCommand_23 : decode cX6_readCommand 23 = .ok (.istore_n 2, 1) := by decide +kernel
theorem dX6_readCommand_24 : decode cX6_readCommand 24 = .ok (.iload_n 2, 1) := by decide +kernel
theorem dX6_readCommand_25 : decode cX6_readCommand 25 = .ok (.ifCond .eq 10, 3) := by decide +kernel
theorem dX6_readCommand_28 : decode cX6_readCommand 28 = .ok (.aload_n 0, 1) := by decide +kernel
theorem dX6_readCommand_29 : decode cX6_readCommand 29 = .ok (.invokevirtual 38, 3) := by decide +kernel
theorem dX6_readCommand_32 : decode cX6_readCommand 32 = .ok (.ifCond .ne 5, 3) := by decide +kernel
theorem dX6_readCommand_35 : decode cX6_readCommand 35 = .ok (.iconst 0, 1) := by decide +kernel
theorem dX6_readCommand_36 : decode cX6_readCommand 36 = .ok (.ireturn, 1) := by decide +kernel
theorem dX6_readCommand_37 : decode cX6_readCommand 37 = .ok (.aload_n 0, 1) := by decide +kernel
theorem dX6_readCommand_38 : decode cX6_readCommand 38 = .ok (.aload_n 0, 1) := by decide +kernel
theorem dX6_readCommand_39 : decode cX6_readCommand 39 = .ok (.getfield 42, 3) := by decide +kernel
theorem dX6_readCommand_42 : decode cX6_readCommand 42 = .ok (.putfield 45, 3) := by decide +kernel
theorem dX6_readCommand_45 : decode cX6_readCommand 45 = .ok (.iload_n 2, 1) := by decide +kernel
theorem dX6_readCommand_46 : decode cX6_readCommand 46 = .ok (.iconst 2, 1) := by decide +kernel
theorem dX6_readCommand_47 : decode cX6_readCommand 47 = .ok (.if_icmp .ne 29, 3) := by decide +kernel
theorem dX6_readCommand_50 : decode cX6_readCommand 50 = .ok (.aload_n 0, 1) := by decide +kernel
theorem dX6_readCommand_51 : decode cX6_readCommand 51 = .ok (.bipush 44, 2) := by decide +kernel
theorem dX6_readCommand_53 : decode cX6_readCommand 53 = .ok (.invokevirtual 48, 3) := by decide +kernel
theorem dX6_readCommand_56 : decode cX6_readCommand 56 = .ok (.ifCond .eq 10, 3) := by decide +kernel
theorem dX6_readCommand_59 : decode cX6_readCommand 59 = .ok (.aload_n 0, 1) := by decide +kernel
theorem dX6_readCommand_60 : decode cX6_readCommand 60 = .ok (.invokevirtual 38, 3) := by decide +kernel
theorem dX6_readCommand_63 : decode cX6_readCommand 63 = .ok (.ifCond .ne 5, 3) := by decide +kernel
theorem dX6_readCommand_66 : decode cX6_readCommand 66 = .ok (.iconst 0, 1) := by decide +kernel
theorem dX6_readCommand_67 : decode cX6_readCommand 67 = .ok (.ireturn, 1) := by decide +kernel
theorem dX6_readCommand_68 : decode cX6_readCommand 68 = .ok (.aload_n 0, 1) := by decide +kernel
theorem dX6_readCommand_69 : decode cX6_readCommand 69 = .ok (.aload_n 0, 1) := by decide +kernel
theorem dX6_readCommand_70 : decode cX6_readCommand 70 = .ok (.getfield 42, 3) := by decide +kernel
theorem dX6_readCommand_73 : decode cX6_readCommand 73 = .ok (.putfield 52, 3) := by decide +kernel
theorem dX6_readCommand_76 : decode cX6_readCommand 76 = .ok (.aload_n 0, 1) := by decide +kernel
theorem dX6_readCommand_77 : decode cX6_readCommand 77 = .ok (.bipush 59, 2) := by decide +kernel
theorem dX6_readCommand_79 : decode cX6_readCommand 79 = .ok (.invokevirtual 48, 3) := by decide +kernel
theorem dX6_readCommand_82 : decode cX6_readCommand 82 = .ok (.ireturn, 1) := by decide +kernel
theorem dX6_numbersOf_0 : decode cX6_numbersOf 0 = .ok (.iload_n 0, 1) := by decide +kernel
theorem dX6_numbersOf_1 : decode cX6_numbersOf 1 = .ok (.tableswitch 79 102 116 #[75, 75, 77, 79, 79, 79, 79, 79, 75, 79, 77, 79, 75, 79, 75], 75) := by decide +kernel
theorem dX6_numbersOf_76 : decode cX6_numbersOf 76 = .ok (.iconst 2, 1) := by decide +kernel
theorem dX6_numbersOf_77 : decode cX6_numbersOf 77 = .ok (.ireturn, 1) := by decide +kernel
theorem dX6_numbersOf_78 : decode cX6_numbersOf 78 = .ok (.iconst 1, 1) := by decide +kernel
theorem dX6_numbersOf_79 : decode cX6_numbersOf 79 = .ok (.ireturn, 1) := by decide +kernel
theorem dX6_numbersOf_80 : decode cX6_numbersOf 80 = .ok (.iconst 0, 1) := by decide +kernel
theorem dX6_numbersOf_81 : decode cX6_numbersOf 81 = .ok (.ireturn, 1) := by decide +kernel
set_option maxRecDepth 20000 in
theorem ggX6_readNumber_X6_signAt : GoodIn wsX6_readNumber wsX6_signAt := goodIn_r _ [7, 8, 9, 13, 14, 15, 16, 17, 18, 19] (by decide +kernel) (by decide +kernel)
set_option maxRecDepth 20000 in
theorem gX6_readNumber_X6_signAt : GoodIn wsX6_readNumber (wsV RX6 26 RX6 yX6_signAt wsX6_signAt) := goodIn_app (goodIn_of _ (by decide +kernel)) ggX6_readNumber_X6_signAt
set_option maxRecDepth 20000 in
theorem ggX6_readNumber_X7_isWithin : GoodIn wsX6_readNumber wsX7_isWithin := goodIn_r _ [12] (by decide +kernel) (by decide +kernel)
set_option maxRecDepth 20000 in
theorem gX6_readNumber_X7_isWithin_n19 : GoodIn wsX6_readNumber (wsX7_isWithin) := ggX6_readNumber_X7_isWithin
theorem dX6_readNumber_0 : decode cX6_readNumber 0 = .ok (.iconst 0, 1) := by decide +kernel
theorem dX6_readNumber_1 : decode cX6_readNumber 1 = .ok (.istore_n 1, 1) := by decide +kernel
theorem dX6_readNumber_2 : decode cX6_readNumber 2 = .ok (.aload_n 0, 1) := by decide +kernel
theorem dX6_readNumber_3 : decode cX6_readNumber 3 = .ok (.iconst 0, 1) := by decide +kernel
theorem dX6_readNumber_4 : decode cX6_readNumber 4 = .ok (.putfield 42, 3) := by decide +kernel
theorem dX6_readNumber_7 : decode cX6_readNumber 7 = .ok (.iload_n 1, 1) := by decide +kernel
theorem dX6_readNumber_8 : decode cX6_readNumber 8 = .ok (.iconst 4, 1) := by decide +kernel
theorem dX6_readNumber_9 : decode cX6_readNumber 9 = .ok (.if_icmp .ge 60, 3) := by decide +kernel
theorem dX6_readNumber_12 : decode cX6_readNumber 12 = .ok (.aload_n 0, 1) := by decide +kernel
theorem dX6_readNumber_13 : decode cX6_readNumber 13 = .ok (.aload_n 0, 1) := by decide +kernel
theorem dX6_readNumber_14 : decode cX6_readNumber 14 = .ok (.getfield 23, 3) := by decide +kernel
theorem dX6_readNumber_17 : decode cX6_readNumber 17 = .ok (.invokevirtual 26, 3) := by decide +kernel
theorem dX6_readNumber_20 : decode cX6_readNumber 20 = .ok (.bipush 48, 2) := by decide +kernel
theorem dX6_readNumber_22 : decode cX6_readNumber 22 = .ok (.bipush 57, 2) := by decide +kernel
theorem dX6_readNumber_24 : decode cX6_readNumber 24 = .ok (.invokestatic 19, 3) := by decide +kernel
theorem dX6_readNumber_27 : decode cX6_readNumber 27 = .ok (.ifCond .eq 42, 3) := by decide +kernel
theorem dX6_readNumber_30 : decode cX6_readNumber 30 = .ok (.aload_n 0, 1) := by decide +kernel
theorem dX6_readNumber_31 : decode cX6_readNumber 31 = .ok (.bipush 10, 2) := by decide +kernel
theorem dX6_readNumber_33 : decode cX6_readNumber 33 = .ok (.aload_n 0, 1) := by decide +kernel
theorem dX6_readNumber_34 : decode cX6_readNumber 34 = .ok (.getfield 42, 3) := by decide +kernel
theorem dX6_readNumber_37 : decode cX6_readNumber 37 = .ok (.imul, 1) := by decide +kernel
theorem dX6_readNumber_38 : decode cX6_readNumber 38 = .ok (.aload_n 0, 1) := by decide +kernel
theorem dX6_readNumber_39 : decode cX6_readNumber 39 = .ok (.aload_n 0, 1) := by decide +kernel
theorem dX6_readNumber_40 : decode cX6_readNumber 40 = .ok (.getfield 23, 3) := by decide +kernel
theorem dX6_readNumber_43 : decode cX6_readNumber 43 = .ok (.invokevirtual 26, 3) := by decide +kernel
theorem dX6_readNumber_46 : decode cX6_readNumber 46 = .ok (.bipush 48, 2) := by decide +kernel
theorem dX6_readNumber_48 : decode cX6_readNumber 48 = .ok (.isub, 1) := by decide +kernel
theorem dX6_readNumber_49 : decode cX6_readNumber 49 = .ok (.iadd, 1) := by decide +kernel
theorem dX6_readNumber_50 : decode cX6_readNumber 50 = .ok (.putfield 42, 3) := by decide +kernel
theorem dX6_readNumber_53 : decode cX6_readNumber 53 = .ok (.aload_n 0, 1) := by decide +kernel
theorem dX6_readNumber_54 : decode cX6_readNumber 54 = .ok (.dup, 1) := by decide +kernel
theorem dX6_readNumber_55 : decode cX6_readNumber 55 = .ok (.getfield 23, 3) := by decide +kernel
theorem dX6_readNumber_58 : decode cX6_readNumber 58 = .ok (.iconst 1, 1) := by decide +kernel
theorem dX6_readNumber_59 : decode cX6_readNumber 59 = .ok (.iadd, 1) := by decide +kernel
theorem dX6_readNumber_60 : decode cX6_readNumber 60 = .ok (.putfield 23, 3) := by decide +kernel
theorem dX6_readNumber_63 : decode cX6_readNumber 63 = .ok (.iinc 1 1, 3) := by decide +kernel
theorem dX6_readNumber_66 : decode cX6_readNumber 66 = .ok (.goto (-59), 3) := by decide +kernel
theorem dX6_readNumber_69 : decode cX6_readNumber 69 = .ok (.iload_n 1, 1) := by decide +kernel
theorem dX6_readNumber_70 : decode cX6_readNumber 70 = .ok (.ifCond .le 7, 3) := by decide +kernel
theorem dX6_readNumber_73 : decode cX6_readNumber 73 = .ok (.iconst 1, 1) := by decide +kernel
theorem dX6_readNumber_74 : decode cX6_readNumber 74 = .ok (.goto 4, 3) := by decide +kernel
theorem dX6_readNumber_77 : decode cX6_readNumber 77 = .ok (.iconst 0, 1) := by decide +kernel
theorem dX6_readNumber_78 : decode cX6_readNumber 78 = .ok (.ireturn, 1) := by decide +kernel
set_option maxRecDepth 20000 in
theorem ggX6_readSign_X6_signAt : GoodIn wsX6_readSign wsX6_signAt := goodIn_r _ [6, 7, 8, 9, 10, 11, 12, 13, 14, 15] (by decide +kernel) (by decide +kernel)
set_option maxRecDepth 20000 in
theorem gX6_readSign_X6_signAt : GoodIn wsX6_readSign (wsV RX6 26 RX6 yX6_signAt wsX6_signAt) := goodIn_app (goodIn_of _ (by decide +kernel)) ggX6_readSign_X6_signAt
theorem dX6_readSign_0 : decode cX6_readSign 0 = .ok (.aload_n 0, 1) := by decide +kernel
theorem dX6_readSign_1 : decode cX6_readSign 1 = .ok (.aload_n 0, 1) := by decide +kernel
theorem dX6_readSign_2 : decode cX6_readSign 2 = .ok (.getfield 23, 3) := by decide +kernel
theorem dX6_readSign_5 : decode cX6_readSign 5 = .ok (.invokevirtual 26, 3) := by decide +kernel
theorem dX6_readSign_8 : decode cX6_readSign 8 = .ok (.iload_n 1, 1) := by decide +kernel
theorem dX6_readSign_9 : decode cX6_readSign 9 = .ok (.if_icmp .eq 5, 3) := by decide +kernel
theorem dX6_readSign_12 : decode cX6_readSign 12 = .ok (.iconst 0, 1) := by decide +kernel
theorem dX6_readSign_13 : decode cX6_readSign 13 = .ok (.ireturn, 1) := by decide +kernel
theorem dX6_readSign_14 : decode cX6_readSign 14 = .ok (.aload_n 0, 1) := by decide +kernel
theorem dX6_readSign_15 : decode cX6_readSign 15 = .ok (.dup, 1) := by decide +kernel
theorem dX6_readSign_16 : decode cX6_readSign 16 = .ok (.getfield 23, 3) := by decide +kernel
theorem dX6_readSign_19 : decode cX6_readSign 19 = .ok (.iconst 1, 1) := by decide +kernel
theorem dX6_readSign_20 : decode cX6_readSign 20 = .ok (.iadd, 1) := by decide +kernel
theorem dX6_readSign_21 : decode cX6_readSign 21 = .ok (.putfield 23, 3) := by decide +kernel
theorem dX6_readSign_24 : decode cX6_readSign 24 = .ok (.iconst 1, 1) := by decide +kernel
theorem dX6_readSign_25 : decode cX6_readSign 25 = .ok (.ireturn, 1) := by decide +kernel
theorem dX6_signAt_0 : decode cX6_signAt 0 = .ok (.iload_n 1, 1) := by decide +kernel
theorem dX6_signAt_1 : decode cX6_signAt 1 = .ok (.ifCond .lt 29, 3) := by decide +kernel
theorem dX6_signAt_4 : decode cX6_signAt 4 = .ok (.iload_n 1, 1) := by decide +kernel
theorem dX6_signAt_5 : decode cX6_signAt 5 = .ok (.aload_n 0, 1) := by decide +kernel
theorem dX6_signAt_6 : decode cX6_signAt 6 = .ok (.getfield 15, 3) := by decide +kernel
theorem dX6_signAt_9 : decode cX6_signAt 9 = .ok (.if_icmp .ge 21, 3) := by decide +kernel
theorem dX6_signAt_12 : decode cX6_signAt 12 = .ok (.iload_n 1, 1) := by decide +kernel
theorem dX6_signAt_13 : decode cX6_signAt 13 = .ok (.aload_n 0, 1) := by decide +kernel
theorem dX6_signAt_14 : decode cX6_signAt 14 = .ok (.getfield 9, 3) := by decide +kernel
theorem dX6_signAt_17 : decode cX6_signAt 17 = .ok (.arraylength, 1) := by decide +kernel
theorem dX6_signAt_18 : decode cX6_signAt 18 = .ok (.if_icmp .ge 12, 3) := by decide +kernel
theorem dX6_signAt_21 : decode cX6_signAt 21 = .ok (.aload_n 0, 1) := by decide +kernel
theorem dX6_signAt_22 : decode cX6_signAt 22 = .ok (.getfield 9, 3) := by decide +kernel
theorem dX6_signAt_25 : decode cX6_signAt 25 = .ok (.iload_n 1, 1) := by decide +kernel
theorem dX6_signAt_26 : decode cX6_signAt 26 = .ok (.caload, 1) := by decide +kernel
theorem dX6_signAt_27 : decode cX6_signAt 27 = .ok (.goto 4, 3) := by decide +kernel
theorem dX6_signAt_30 : decode cX6_signAt 30 = .ok (.iconst 0, 1) := by decide +kernel
theorem dX6_signAt_31 : decode cX6_signAt 31 = .ok (.ireturn, 1) := by decide +kernel
set_option maxRecDepth 20000 in
theorem ggX7_init_X4_init : GoodIn wsX7_init wsX4_init := goodIn_r _ [31, 32, 2, 3, 33, 34, 35, 36, 37, 38, 39, 40, 41, 42, 43, 44, 45, 46, 47, 48, 49, 50, 51, 52, 53, 54, 55, 56, 57, 58, 59, 60, 61, 134, 135, 136, 137, 98, 99, 100, 101, 102, 103] (by decide +kernel) (by decide +kernel)
set_option maxRecDepth 20000 in
theorem gX7_init_X4_init : GoodIn wsX7_init (wsX4_init) := ggX7_init_X4_init
set_option maxRecDepth 20000 in
theorem ggX7_init_X0_init : GoodIn wsX7_init wsX0_init := goodIn_r _ [64, 65, 2, 3, 66, 67, 68, 69, 70, 111, 112, 113, 114, 115, 98, 99, 100, 101, 102, 103] (by decide +kernel) (by decide +kernel)
set_option maxRecDepth 20000 in
theorem gX7_init_X0_init : GoodIn wsX7_init (wsX0_init) := ggX7_init_X0_init
set_option maxRecDepth 20000 in
theorem ggX7_init_X3_init : GoodIn wsX7_init wsX3_init := goodIn_r _ [73, 74, 2, 3, 75, 76, 77, 78, 79, 116, 117, 118, 119, 120, 98, 99, 100, 101, 102, 103] (by decide +kernel) (by decide +kernel)
set_option maxRecDepth 20000 in
theorem gX7_init_X3_init : GoodIn wsX7_init (wsX3_init) := ggX7_init_X3_init
set_option maxRecDepth 20000 in
theorem ggX7_init_X1_init : GoodIn wsX7_init wsX1_init := goodIn_r _ [82, 83, 2, 3, 84, 85, 5, 6, 86, 30, 31, 32, 33, 34, 35, 36, 37, 38, 39, 40, 41, 42, 43, 44, 45, 46, 47, 48, 49, 50, 51, 52, 53, 54, 55, 56, 57, 58, 59, 60, 61, 121, 122, 123, 98, 99, 100, 101, 102, 103, 134, 135, 136, 137] (by decide +kernel) (by decide +kernel)
set_option maxRecDepth 20000 in
theorem gX7_init_X1_init : GoodIn wsX7_init (wsX1_init) := ggX7_init_X1_init
set_option maxRecDepth 20000 in
theorem ggX7_init_X6_init : GoodIn wsX7_init wsX6_init := goodIn_r _ [89, 90, 2, 3, 91, 92, 124, 125, 126, 127, 128, 129, 130] (by decide +kernel) (by decide +kernel)
set_option maxRecDepth 20000 in
theorem gX7_init_X6_init : GoodIn wsX7_init (wsX6_init) := ggX7_init_X6_init
set_option maxRecDepth 20000 in
theorem ggX7_init_X2_init : GoodIn wsX7_init wsX2_init := goodIn_r _ [95, 96, 2, 3, 97, 131, 132, 133] (by decide +kernel) (by decide +kernel)
set_option maxRecDepth 20000 in
theorem gX7_init_X2_init : GoodIn wsX7_init (wsX2_init) := ggX7_init_X2_init
theorem dX7_init_0 : decode cX7_init 0 = .ok (.aload_n 0, 1) := by decide +kernel
theorem dX7_init_1 : decode cX7_init 1 = .ok (.invokespecial 1, 3) := by decide +kernel
theorem dX7_init_4 : decode cX7_init 4 = .ok (.aload_n 0, 1) := by decide +kernel
theorem dX7_init_5 : decode cX7_init 5 = .ok (.new 7, 3) := by decide +kernel
theorem dX7_init_8 : decode cX7_init 8 = .ok (.dup, 1) := by decide +kernel
theorem dX7_init_9 : decode cX7_init 9 = .ok (.invokespecial 9, 3) := by decide +kernel
theorem dX7_init_12 : decode cX7_init 12 = .ok (.putfield 10, 3) := by decide +kernel
theorem dX7_init_15 : decode cX7_init 15 = .ok (.aload_n 0, 1) := by decide +kernel
theorem dX7_init_16 : decode cX7_init 16 = .ok (.new 7, 3) := by decide +kernel
theorem dX7_init_19 : decode cX7_init 19 = .ok (.dup, 1) := by decide +kernel
theorem dX7_init_20 : decode cX7_init 20 = .ok (.invokespecial 9, 3) := by decide +kernel
theorem dX7_init_23 : decode cX7_init 23 = .ok (.putfield 16, 3) := by decide +kernel
theorem dX7_init_26 : decode cX7_init 26 = .ok (.aload_n 0, 1) := by decide +kernel
theorem dX7_init_27 : decode cX7_init 27 = .ok (.new 19, 3) := by decide +kernel
theorem dX7_init_30 : decode cX7_init 30 = .ok (.dup, 1) := by decide +kernel
theorem dX7_init_31 : decode cX7_init 31 = .ok (.aload_n 0, 1) := by decide +kernel
theorem dX7_init_32 : decode cX7_init 32 = .ok (.getfield 16, 3) := by decide +kernel
theorem dX7_init_35 : decode cX7_init 35 = .ok (.invokespecial 21, 3) := by decide +kernel
theorem dX7_init_38 : decode cX7_init 38 = .ok (.putfield 24, 3) := by decide +kernel
theorem dX7_init_41 : decode cX7_init 41 = .ok (.aload_n 0, 1) := by decide +kernel
theorem dX7_init_42 : decode cX7_init 42 = .ok (.new 28, 3) := by decide +kernel
theorem dX7_init_45 : decode cX7_init 45 = .ok (.dup, 1) := by decide +kernel
theorem dX7_init_46 : decode cX7_init 46 = .ok (.aload_n 0, 1) := by decide +kernel
theorem dX7_init_47 : decode cX7_init 47 = .ok (.getfield 10, 3) := by decide +kernel
theorem dX7_init_50 : decode cX7_init 50 = .ok (.invokespecial 30, 3) := by decide +kernel
theorem dX7_init_53 : decode cX7_init 53 = .ok (.putfield 31, 3) := by decide +kernel
theorem dX7_init_56 : decode cX7_init 56 = .ok (.aload_n 0, 1) := by decide +kernel
theorem dX7_init_57 : decode cX7_init 57 = .ok (.new 35, 3) := by decide +kernel
theorem dX7_init_60 : decode cX7_init 60 = .ok (.dup, 1) := by decide +kernel
theorem dX7_init_61 : decode cX7_init 61 = .ok (.invokespecial 37, 3) := by decide +kernel
theorem dX7_init_64 : decode cX7_init 64 = .ok (.putfield 38, 3) := by decide +kernel
theorem dX7_init_67 : decode cX7_init 67 = .ok (.aload_n 0, 1) := by decide +kernel
theorem dX7_init_68 : decode cX7_init 68 = .ok (.new 42, 3) := by decide +kernel
theorem dX7_init_71 : decode cX7_init 71 = .ok (.dup, 1) := by decide +kernel
theorem dX7_init_72 : decode cX7_init 72 = .ok (.invokespecial 44, 3) := by decide +kernel
theorem dX7_init_75 : decode cX7_init 75 = .ok (.putfield 45, 3) := by decide +kernel
theorem dX7_init_78 : decode cX7_init 78 = .ok (.aload_n 0, 1) := by decide +kernel
theorem dX7_init_79 : decode cX7_init 79 = .ok (.new 49, 3) := by decide +kernel
theorem dX7_init_82 : decode cX7_init 82 = .ok (.dup, 1) := by decide +kernel
theorem dX7_init_83 : decode cX7_init 83 = .ok (.aload_n 0, 1) := by decide +kernel
theorem dX7_init_84 : decode cX7_init 84 = .ok (.getfield 45, 3) := by decide +kernel
theorem dX7_init_87 : decode cX7_init 87 = .ok (.invokespecial 51, 3) := by decide +kernel
theorem dX7_init_90 : decode cX7_init 90 = .ok (.putfield 54, 3) := by decide +kernel
theorem dX7_init_93 : decode cX7_init 93 = .ok (.return_, 1) := by decide +kernel
set_option maxRecDepth 20000 in
theorem ggX7_locker_X7_onTrial : GoodIn wsX7_locker wsX7_onTrial := goodIn_r _ [5, 6, 7, 8, 9, 10, 11, 12, 13, 14, 15, 16, 17, 18, 19, 20, 21, 22, 23, 24, 25, 26, 67, 68, 69, 70, 71, 72, 73, 74, 75, 76, 77, 78, 79, 80, 81, 82, 83] (by decide +kernel) (by decide +kernel)
set_option maxRecDepth 20000 in
theorem gX7_locker_X7_onTrial : GoodIn wsX7_locker (wsV RX7 58 RX7 yX7_onTrial wsX7_onTrial) := goodIn_app (goodIn_of _ (by decide +kernel)) ggX7_locker_X7_onTrial
set_option maxRecDepth 20000 in
theorem ggX7_locker_X0_addLocker : GoodIn wsX7_locker wsX0_addLocker := goodIn_r _ [31, 32, 33, 4, 34, 35, 36, 37, 23, 38, 25, 39, 40, 41, 42, 43, 44, 45, 46, 47, 48, 26, 84, 85, 86, 87, 88, 80, 81, 82, 83] (by decide +kernel) (by decide +kernel)
set_option maxRecDepth 20000 in
theorem gX7_locker_X0_addLocker : GoodIn wsX7_locker (wsV RX7 62 RX0 yX0_addLocker wsX0_addLocker) := goodIn_app (goodIn_of _ (by decide +kernel)) ggX7_locker_X0_addLocker
set_option maxRecDepth 20000 in
theorem ggX7_locker_X7_settle : GoodIn wsX7_locker wsX7_settle := goodIn_r _ [52, 53, 7, 6, 54, 55, 56, 57, 58, 59, 60, 61, 62, 63, 64, 65, 66, 10, 11, 12, 13, 14, 15, 16, 17, 18, 19, 20, 21, 22, 23, 24, 25, 26, 9, 67, 68, 69, 70, 71, 72, 73, 89, 90, 91, 74, 75, 76, 77, 78, 79, 80, 81, 82, 83] (by decide +kernel) (by decide +kernel)
set_option maxRecDepth 20000 in
theorem gX7_locker_X7_settle : GoodIn wsX7_locker (wsV RX7 66 RX7 yX7_settle wsX7_settle) := goodIn_app (goodIn_of _ (by decide +kernel)) ggX7_locker_X7_settle
theorem dX7_locker_0 : decode cX7_locker 0 = .ok (.aload_n 0, 1) := by decide +kernel
theorem dX7_locker_1 : decode cX7_locker 1 = .ok (.aload_n 0, 1) := by decide +kernel
theorem dX7_locker_2 : decode cX7_locker 2 = .ok (.invokevirtual 58, 3) := by decide +kernel
theorem dX7_locker_5 : decode cX7_locker 5 = .ok (.iload_n 1, 1) := by decide +kernel
theorem dX7_locker_6 : decode cX7_locker 6 = .ok (.iload_n 2, 1) := by decide +kernel
theorem dX7_locker_7 : decode cX7_locker 7 = .ok (.invokevirtual 62, 3) := by decide +kernel
theorem dX7_locker_10 : decode cX7_locker 10 = .ok (.invokevirtual 66, 3) := by decide +kernel
theorem dX7_locker_13 : decode cX7_locker 13 = .ok (.ireturn, 1) := by decide +kernel
set_option maxRecDepth 20000 in
theorem ggX7_meal_X7_onTrial : GoodIn wsX7_meal wsX7_onTrial := goodIn_r _ [5, 6, 7, 8, 9, 10, 11, 12, 13, 14, 15, 16, 17, 18, 19, 20, 21, 22, 23, 24, 25, 26, 102, 103, 104, 105, 106, 107, 108, 109, 110, 111, 112, 113, 114, 115, 116, 117, 118] (by decide +kernel) (by decide +kernel)
set_option maxRecDepth 20000 in
theorem gX7_meal_X7_onTrial : GoodIn wsX7_meal (wsV RX7 58 RX7 yX7_onTrial wsX7_onTrial) := goodIn_app (goodIn_of _ (by decide +kernel)) ggX7_meal_X7_onTrial
set_option maxRecDepth 20000 in
theorem ggX7_meal_X0_addMeal : GoodIn wsX7_meal wsX0_addMeal := goodIn_r _ [31, 32, 33, 34, 35, 36, 37, 23, 38, 25, 39, 4, 40, 41, 42, 43, 12, 44, 14, 45, 46, 47, 48, 49, 26, 50, 51, 52, 53, 15, 54, 55, 56, 57, 58, 59, 60, 61, 62, 63, 64, 65, 66, 67, 68, 69, 70, 71, 72, 73, 74, 75, 76, 77, 78, 79, 80, 81, 82, 83, 119, 120, 121, 122, 123, 115, 116, 117, 118, 109, 110, 111, 112, 113, 114] (by decide +kernel) (by decide +kernel)
set_option maxRecDepth 20000 in
theorem gX7_meal_X0_addMeal : GoodIn wsX7_meal (wsV RX7 70 RX0 yX0_addMeal wsX0_addMeal) := goodIn_app (goodIn_of _ (by decide +kernel)) ggX7_meal_X0_addMeal
set_option maxRecDepth 20000 in
theorem ggX7_meal_X7_settle : GoodIn wsX7_meal wsX7_settle := goodIn_r _ [87, 88, 7, 6, 89, 90, 91, 92, 93, 94, 95, 96, 97, 98, 99, 100, 101, 10, 11, 12, 13, 14, 15, 16, 17, 18, 19, 20, 21, 22, 23, 24, 25, 26, 9, 102, 103, 104, 105, 106, 107, 108, 124, 125, 126, 109, 110, 111, 112, 113, 114, 115, 116, 117, 118] (by decide +kernel) (by decide +kernel)
set_option maxRecDepth 20000 in
theorem gX7_meal_X7_settle : GoodIn wsX7_meal (wsV RX7 66 RX7 yX7_settle wsX7_settle) := goodIn_app (goodIn_of _ (by decide +kernel)) ggX7_meal_X7_settle
theorem dX7_meal_0 : decode cX7_meal 0 = .ok (.aload_n 0, 1) := by decide +kernel
theorem dX7_meal_1 : decode cX7_meal 1 = .ok (.aload_n 0, 1) := by decide +kernel
theorem dX7_meal_2 : decode cX7_meal 2 = .ok (.invokevirtual 58, 3) := by decide +kernel
theorem dX7_meal_5 : decode cX7_meal 5 = .ok (.iload_n 1, 1) := by decide +kernel
theorem dX7_meal_6 : decode cX7_meal 6 = .ok (.iload_n 2, 1) := by decide +kernel
theorem dX7_meal_7 : decode cX7_meal 7 = .ok (.iload_n 3, 1) := by decide +kernel
theorem dX7_meal_8 : decode cX7_meal 8 = .ok (.invokevirtual 70, 3) := by decide +kernel
theorem dX7_meal_11 : decode cX7_meal 11 = .ok (.invokevirtual 66, 3) := by decide +kernel
theorem dX7_meal_14 : decode cX7_meal 14 = .ok (.ireturn, 1) := by decide +kernel
set_option maxRecDepth 20000 in
theorem ggX7_person_X7_onTrial : GoodIn wsX7_person wsX7_onTrial := goodIn_r _ [5, 6, 7, 8, 9, 10, 11, 12, 13, 14, 15, 16, 17, 18, 19, 20, 21, 22, 23, 24, 25, 26, 67, 68, 69, 70, 71, 72, 73, 74, 75, 76, 77, 78, 79, 80, 81, 82, 83] (by decide +kernel) (by decide +kernel)
set_option maxRecDepth 20000 in
theorem gX7_person_X7_onTrial : GoodIn wsX7_person (wsV RX7 58 RX7 yX7_onTrial wsX7_onTrial) := goodIn_app (goodIn_of _ (by decide +kernel)) ggX7_person_X7_onTrial
set_option maxRecDepth 20000 in
theorem ggX7_person_X0_addPerson : GoodIn wsX7_person wsX0_addPerson := goodIn_r _ [31, 32, 33, 4, 34, 35, 36, 37, 23, 38, 25, 39, 40, 41, 42, 43, 44, 45, 46, 47, 48, 26, 84, 85, 86, 87, 88, 80, 81, 82, 83] (by decide +kernel) (by decide +kernel)
set_option maxRecDepth 20000 in
theorem gX7_person_X0_addPerson : GoodIn wsX7_person (wsV RX7 74 RX0 yX0_addPerson wsX0_addPerson) := goodIn_app (goodIn_of _ (by decide +kernel)) ggX7_person_X0_addPerson
set_option maxRecDepth 20000 in
theorem ggX7_person_X7_settle : GoodIn wsX7_person wsX7_settle := goodIn_r _ [52, 53, 7, 6, 54, 55, 56, 57, 58, 59, 60, 61, 62, 63, 64, 65, 66, 10, 11, 12, 13, 14, 15, 16, 17, 18, 19, 20, 21, 22, 23, 24, 25, 26, 9, 67, 68, 69, 70, 71, 72, 73, 89, 90, 91, 74, 75, 76, 77, 78, 79, 80, 81, 82, 83] (by decide +kernel) (by decide +kernel)
set_option maxRecDepth 20000 in
theorem gX7_person_X7_settle : GoodIn wsX7_person (wsV RX7 66 RX7 yX7_settle wsX7_settle) := goodIn_app (goodIn_of _ (by decide +kernel)) ggX7_person_X7_settle
theorem dX7_person_0 : decode cX7_person 0 = .ok (.aload_n 0, 1) := by decide +kernel
theorem dX7_person_1 : decode cX7_person 1 = .ok (.aload_n 0, 1) := by decide +kernel
theorem dX7_person_2 : decode cX7_person 2 = .ok (.invokevirtual 58, 3) := by decide +kernel
theorem dX7_person_5 : decode cX7_person 5 = .ok (.iload_n 1, 1) := by decide +kernel
theorem dX7_person_6 : decode cX7_person 6 = .ok (.invokevirtual 74, 3) := by decide +kernel
theorem dX7_person_9 : decode cX7_person 9 = .ok (.invokevirtual 66, 3) := by decide +kernel
theorem dX7_person_12 : decode cX7_person 12 = .ok (.ireturn, 1) := by decide +kernel
set_option maxRecDepth 20000 in
theorem ggX7_volunteer_X7_onTrial : GoodIn wsX7_volunteer wsX7_onTrial := goodIn_r _ [5, 6, 7, 8, 9, 10, 11, 12, 13, 14, 15, 16, 17, 18, 19, 20, 21, 22, 23, 24, 25, 26, 72, 73, 74, 75, 76, 77, 78, 79, 80, 81, 82, 83, 84, 85, 86, 87, 88] (by decide +kernel) (by decide +kernel)
set_option maxRecDepth 20000 in
theorem gX7_volunteer_X7_onTrial : GoodIn wsX7_volunteer (wsV RX7 58 RX7 yX7_onTrial wsX7_onTrial) := goodIn_app (goodIn_of _ (by decide +kernel)) ggX7_volunteer_X7_onTrial
set_option maxRecDepth 20000 in
theorem ggX7_volunteer_X0_addVolunteer : GoodIn wsX7_volunteer wsX0_addVolunteer := goodIn_r _ [31, 32, 33, 34, 35, 36, 23, 37, 25, 38, 4, 39, 40, 41, 42, 43, 44, 45, 46, 47, 48, 49, 50, 51, 52, 53, 26, 89, 90, 91, 92, 93, 85, 86, 87, 88] (by decide +kernel) (by decide +kernel)
set_option maxRecDepth 20000 in
theorem gX7_volunteer_X0_addVolunteer : GoodIn wsX7_volunteer (wsV RX7 77 RX0 yX0_addVolunteer wsX0_addVolunteer) := goodIn_app (goodIn_of _ (by decide +kernel)) ggX7_volunteer_X0_addVolunteer
set_option maxRecDepth 20000 in
theorem ggX7_volunteer_X7_settle : GoodIn wsX7_volunteer wsX7_settle := goodIn_r _ [57, 58, 7, 6, 59, 60, 61, 62, 63, 64, 65, 66, 67, 68, 69, 70, 71, 10, 11, 12, 13, 14, 15, 16, 17, 18, 19, 20, 21, 22, 23, 24, 25, 26, 9, 72, 73, 74, 75, 76, 77, 78, 94, 95, 96, 79, 80, 81, 82, 83, 84, 85, 86, 87, 88] (by decide +kernel) (by decide +kernel)
set_option maxRecDepth 20000 in
theorem gX7_volunteer_X7_settle : GoodIn wsX7_volunteer (wsV RX7 66 RX7 yX7_settle wsX7_settle) := goodIn_app (goodIn_of _ (by decide +kernel)) ggX7_volunteer_X7_settle
theorem dX7_volunteer_0 : decode cX7_volunteer 0 = .ok (.aload_n 0, 1) := by decide +kernel
theorem dX7_volunteer_1 : decode cX7_volunteer 1 = .ok (.aload_n 0, 1) := by decide +kernel
theorem dX7_volunteer_2 : decode cX7_volunteer 2 = .ok (.invokevirtual 58, 3) := by decide +kernel
theorem dX7_volunteer_5 : decode cX7_volunteer 5 = .ok (.iload_n 1, 1) := by decide +kernel
theorem dX7_volunteer_6 : decode cX7_volunteer 6 = .ok (.iload_n 2, 1) := by decide +kernel
theorem dX7_volunteer_7 : decode cX7_volunteer 7 = .ok (.invokevirtual 77, 3) := by decide +kernel
theorem dX7_volunteer_10 : decode cX7_volunteer 10 = .ok (.invokevirtual 66, 3) := by decide +kernel
theorem dX7_volunteer_13 : decode cX7_volunteer 13 = .ok (.ireturn, 1) := by decide +kernel
set_option maxRecDepth 20000 in
theorem ggX7_reserve_X7_onTrial : GoodIn wsX7_reserve wsX7_onTrial := goodIn_r _ [5, 6, 7, 8, 9, 10, 11, 12, 13, 14, 15, 16, 17, 18, 19, 20, 21, 22, 23, 24, 25, 26, 86, 87, 88, 89, 90, 91, 92, 93, 94, 95, 96, 97, 98, 99, 100, 101, 102] (by decide +kernel) (by decide +kernel)
set_option maxRecDepth 20000 in
theorem gX7_reserve_X7_onTrial : GoodIn wsX7_reserve (wsV RX7 58 RX7 yX7_onTrial wsX7_onTrial) := goodIn_app (goodIn_of _ (by decide +kernel)) ggX7_reserve_X7_onTrial
set_option maxRecDepth 20000 in
theorem ggX7_reserve_X0_reserveMeal : GoodIn wsX7_reserve wsX0_reserveMeal := goodIn_r _ [31, 32, 33, 34, 35, 36, 37, 23, 38, 25, 39, 40, 41, 12, 42, 15, 16, 43, 44, 45, 46, 47, 26, 48, 49, 50, 51, 19, 52, 53, 54, 55, 56, 57, 58, 59, 60, 61, 62, 63, 64, 65, 66, 67, 103, 104, 105, 106, 107, 93, 94, 95, 96, 97, 98, 99, 100, 101, 102] (by decide +kernel) (by decide +kernel)
set_option maxRecDepth 20000 in
theorem gX7_reserve_X0_reserveMeal : GoodIn wsX7_reserve (wsV RX7 80 RX0 yX0_reserveMeal wsX0_reserveMeal) := goodIn_app (goodIn_of _ (by decide +kernel)) ggX7_reserve_X0_reserveMeal
set_option maxRecDepth 20000 in
theorem ggX7_reserve_X7_settle : GoodIn wsX7_reserve wsX7_settle := goodIn_r _ [71, 72, 7, 6, 73, 74, 75, 76, 77, 78, 79, 80, 81, 82, 83, 84, 85, 10, 11, 12, 13, 14, 15, 16, 17, 18, 19, 20, 21, 22, 23, 24, 25, 26, 9, 86, 87, 88, 89, 90, 91, 92, 108, 109, 110, 93, 94, 95, 96, 97, 98, 99, 100, 101, 102] (by decide +kernel) (by decide +kernel)
set_option maxRecDepth 20000 in
theorem gX7_reserve_X7_settle : GoodIn wsX7_reserve (wsV RX7 66 RX7 yX7_settle wsX7_settle) := goodIn_app (goodIn_of _ (by decide +kernel)) ggX7_reserve_X7_settle
theorem dX7_reserve_0 : decode cX7_reserve 0 = .ok (.aload_n 0, 1) := by decide +kernel
theorem dX7_reserve_1 : decode cX7_reserve 1 = .ok (.aload_n 0, 1) := by decide +kernel
theorem dX7_reserve_2 : decode cX7_reserve 2 = .ok (.invokevirtual 58, 3) := by decide +kernel
theorem dX7_reserve_5 : decode cX7_reserve 5 = .ok (.iload_n 1, 1) := by decide +kernel
theorem dX7_reserve_6 : decode cX7_reserve 6 = .ok (.iload_n 2, 1) := by decide +kernel
theorem dX7_reserve_7 : decode cX7_reserve 7 = .ok (.invokevirtual 80, 3) := by decide +kernel
theorem dX7_reserve_10 : decode cX7_reserve 10 = .ok (.invokevirtual 66, 3) := by decide +kernel
theorem dX7_reserve_13 : decode cX7_reserve 13 = .ok (.ireturn, 1) := by decide +kernel
set_option maxRecDepth 20000 in
theorem ggX7_fetch_X7_onTrial : GoodIn wsX7_fetch wsX7_onTrial := goodIn_r _ [5, 6, 7, 8, 9, 10, 11, 12, 13, 14, 15, 16, 17, 18, 19, 20, 21, 22, 23, 24, 25, 26, 82, 83, 84, 85, 86, 87, 88, 89, 90, 91, 92, 93, 94, 95, 96, 97, 98] (by decide +kernel) (by decide +kernel)
set_option maxRecDepth 20000 in
theorem gX7_fetch_X7_onTrial : GoodIn wsX7_fetch (wsV RX7 58 RX7 yX7_onTrial wsX7_onTrial) := goodIn_app (goodIn_of _ (by decide +kernel)) ggX7_fetch_X7_onTrial
set_option maxRecDepth 20000 in
theorem ggX7_fetch_X0_endReservation : GoodIn wsX7_fetch wsX0_endReservation := goodIn_r _ [31, 32, 33, 34, 35, 36, 37, 23, 38, 25, 39, 4, 40, 41, 42, 43, 30, 44, 45, 46, 47, 48, 49, 50, 51, 52, 53, 26, 54, 55, 56, 57, 58, 59, 60, 61, 62, 63, 99, 100, 101, 102, 103, 95, 96, 97, 98] (by decide +kernel) (by decide +kernel)
set_option maxRecDepth 20000 in
theorem gX7_fetch_X0_endReservation : GoodIn wsX7_fetch (wsV RX7 83 RX0 yX0_endReservation wsX0_endReservation) := goodIn_app (goodIn_of _ (by decide +kernel)) ggX7_fetch_X0_endReservation
set_option maxRecDepth 20000 in
theorem ggX7_fetch_X7_settle : GoodIn wsX7_fetch wsX7_settle := goodIn_r _ [67, 68, 7, 6, 69, 70, 71, 72, 73, 74, 75, 76, 77, 78, 79, 80, 81, 10, 11, 12, 13, 14, 15, 16, 17, 18, 19, 20, 21, 22, 23, 24, 25, 26, 9, 82, 83, 84, 85, 86, 87, 88, 104, 105, 106, 89, 90, 91, 92, 93, 94, 95, 96, 97, 98] (by decide +kernel) (by decide +kernel)
set_option maxRecDepth 20000 in
theorem gX7_fetch_X7_settle : GoodIn wsX7_fetch (wsV RX7 66 RX7 yX7_settle wsX7_settle) := goodIn_app (goodIn_of _ (by decide +kernel)) ggX7_fetch_X7_settle
theorem dX7_fetch_0 : decode cX7_fetch 0 = .ok (.aload_n 0, 1) := by decide +kernel
theorem dX7_fetch_1 : decode cX7_fetch 1 = .ok (.aload_n 0, 1) := by decide +kernel
theorem dX7_fetch_2 : decode cX7_fetch 2 = .ok (.invokevirtual 58, 3) := by decide +kernel
theorem dX7_fetch_5 : decode cX7_fetch 5 = .ok (.iload_n 1, 1) := by decide +kernel
theorem dX7_fetch_6 : decode cX7_fetch 6 = .ok (.iload_n 2, 1) := by decide +kernel
theorem dX7_fetch_7 : decode cX7_fetch 7 = .ok (.iload_n 3, 1) := by decide +kernel
theorem dX7_fetch_8 : decode cX7_fetch 8 = .ok (.invokevirtual 83, 3) := by decide +kernel
theorem dX7_fetch_11 : decode cX7_fetch 11 = .ok (.invokevirtual 66, 3) := by decide +kernel
theorem dX7_fetch_14 : decode cX7_fetch 14 = .ok (.ireturn, 1) := by decide +kernel
set_option maxRecDepth 20000 in
theorem ggX7_take_X7_onTrial : GoodIn wsX7_take wsX7_onTrial := goodIn_r _ [5, 6, 7, 8, 9, 10, 11, 12, 13, 14, 15, 16, 17, 18, 19, 20, 21, 22, 23, 24, 25, 26, 97, 98, 99, 100, 101, 102, 103, 104, 105, 106, 107, 108, 109, 110, 111, 112, 113] (by decide +kernel) (by decide +kernel)
set_option maxRecDepth 20000 in
theorem gX7_take_X7_onTrial : GoodIn wsX7_take (wsV RX7 58 RX7 yX7_onTrial wsX7_onTrial) := goodIn_app (goodIn_of _ (by decide +kernel)) ggX7_take_X7_onTrial
set_option maxRecDepth 20000 in
theorem ggX7_take_X0_takeMeal : GoodIn wsX7_take wsX0_takeMeal := goodIn_r _ [31, 32, 33, 34, 35, 36, 37, 38, 23, 39, 25, 40, 41, 42, 43, 44, 26, 45, 46, 47, 12, 48, 15, 49, 50, 51, 52, 53, 54, 55, 56, 57, 58, 59, 60, 61, 62, 63, 64, 17, 19, 65, 66, 67, 68, 69, 70, 71, 72, 73, 74, 75, 76, 77, 78, 114, 115, 116, 117, 118, 110, 111, 112, 113, 104, 105, 106, 107, 108, 109] (by decide +kernel) (by decide +kernel)
set_option maxRecDepth 20000 in
theorem gX7_take_X0_takeMeal : GoodIn wsX7_take (wsV RX7 86 RX0 yX0_takeMeal wsX0_takeMeal) := goodIn_app (goodIn_of _ (by decide +kernel)) ggX7_take_X0_takeMeal
set_option maxRecDepth 20000 in
theorem ggX7_take_X7_settle : GoodIn wsX7_take wsX7_settle := goodIn_r _ [82, 83, 7, 6, 84, 85, 86, 87, 88, 89, 90, 91, 92, 93, 94, 95, 96, 10, 11, 12, 13, 14, 15, 16, 17, 18, 19, 20, 21, 22, 23, 24, 25, 26, 9, 97, 98, 99, 100, 101, 102, 103, 119, 120, 121, 104, 105, 106, 107, 108, 109, 110, 111, 112, 113] (by decide +kernel) (by decide +kernel)
set_option maxRecDepth 20000 in
theorem gX7_take_X7_settle : GoodIn wsX7_take (wsV RX7 66 RX7 yX7_settle wsX7_settle) := goodIn_app (goodIn_of _ (by decide +kernel)) ggX7_take_X7_settle
theorem dX7_take_0 : decode cX7_take 0 = .ok (.aload_n 0, 1) := by decide +kernel
theorem dX7_take_1 : decode cX7_take 1 = .ok (.aload_n 0, 1) := by decide +kernel
theorem dX7_take_2 : decode cX7_take 2 = .ok (.invokevirtual 58, 3) := by decide +kernel
theorem dX7_take_5 : decode cX7_take 5 = .ok (.iload_n 1, 1) := by decide +kernel
theorem dX7_take_6 : decode cX7_take 6 = .ok (.iload_n 2, 1) := by decide +kernel
theorem dX7_take_7 : decode cX7_take 7 = .ok (.invokevirtual 86, 3) := by decide +kernel
theorem dX7_take_10 : decode cX7_take 10 = .ok (.invokevirtual 66, 3) := by decide +kernel
theorem dX7_take_13 : decode cX7_take 13 = .ok (.ireturn, 1) := by decide +kernel
set_option maxRecDepth 20000 in
theorem ggX7_go_X7_onTrial : GoodIn wsX7_go wsX7_onTrial := goodIn_r _ [5, 6, 7, 8, 9, 10, 11, 12, 13, 14, 15, 16, 17, 18, 19, 20, 21, 22, 23, 24, 25, 26, 86, 87, 88, 89, 90, 91, 92, 93, 94, 95, 96, 97, 98, 99, 100, 101, 102] (by decide +kernel) (by decide +kernel)
set_option maxRecDepth 20000 in
theorem gX7_go_X7_onTrial : GoodIn wsX7_go (wsV RX7 58 RX7 yX7_onTrial wsX7_onTrial) := goodIn_app (goodIn_of _ (by decide +kernel)) ggX7_go_X7_onTrial
set_option maxRecDepth 20000 in
theorem ggX7_go_X0_sendVolunteer : GoodIn wsX7_go wsX0_sendVolunteer := goodIn_r _ [31, 32, 33, 34, 35, 36, 37, 23, 38, 25, 39, 40, 41, 42, 43, 26, 44, 45, 46, 12, 47, 17, 19, 48, 49, 50, 51, 52, 53, 54, 55, 56, 57, 58, 59, 60, 61, 62, 63, 18, 64, 65, 66, 67, 103, 104, 105, 106, 107, 93, 94, 95, 96, 97, 98, 99, 100, 101, 102] (by decide +kernel) (by decide +kernel)
set_option maxRecDepth 20000 in
theorem gX7_go_X0_sendVolunteer : GoodIn wsX7_go (wsV RX7 89 RX0 yX0_sendVolunteer wsX0_sendVolunteer) := goodIn_app (goodIn_of _ (by decide +kernel)) ggX7_go_X0_sendVolunteer
set_option maxRecDepth 20000 in
theorem ggX7_go_X7_settle : GoodIn wsX7_go wsX7_settle := goodIn_r _ [71, 72, 7, 6, 73, 74, 75, 76, 77, 78, 79, 80, 81, 82, 83, 84, 85, 10, 11, 12, 13, 14, 15, 16, 17, 18, 19, 20, 21, 22, 23, 24, 25, 26, 9, 86, 87, 88, 89, 90, 91, 92, 108, 109, 110, 93, 94, 95, 96, 97, 98, 99, 100, 101, 102] (by decide +kernel) (by decide +kernel)
set_option maxRecDepth 20000 in
theorem gX7_go_X7_settle : GoodIn wsX7_go (wsV RX7 66 RX7 yX7_settle wsX7_settle) := goodIn_app (goodIn_of _ (by decide +kernel)) ggX7_go_X7_settle
theorem dX7_go_0 : decode cX7_go 0 = .ok (.aload_n 0, 1) := by decide +kernel
theorem dX7_go_1 : decode cX7_go 1 = .ok (.aload_n 0, 1) := by decide +kernel
theorem dX7_go_2 : decode cX7_go 2 = .ok (.invokevirtual 58, 3) := by decide +kernel
theorem dX7_go_5 : decode cX7_go 5 = .ok (.iload_n 1, 1) := by decide +kernel
theorem dX7_go_6 : decode cX7_go 6 = .ok (.iload_n 2, 1) := by decide +kernel
theorem dX7_go_7 : decode cX7_go 7 = .ok (.invokevirtual 89, 3) := by decide +kernel
theorem dX7_go_10 : decode cX7_go 10 = .ok (.invokevirtual 66, 3) := by decide +kernel
theorem dX7_go_13 : decode cX7_go 13 = .ok (.ireturn, 1) := by decide +kernel
set_option maxRecDepth 20000 in
theorem ggX7_put_X7_onTrial : GoodIn wsX7_put wsX7_onTrial := goodIn_r _ [5, 6, 7, 8, 9, 10, 11, 12, 13, 14, 15, 16, 17, 18, 19, 20, 21, 22, 23, 24, 25, 26, 106, 107, 108, 109, 110, 111, 112, 113, 114, 115, 116, 117, 118, 119, 120, 121, 122] (by decide +kernel) (by decide +kernel)
set_option maxRecDepth 20000 in
theorem gX7_put_X7_onTrial : GoodIn wsX7_put (wsV RX7 58 RX7 yX7_onTrial wsX7_onTrial) := goodIn_app (goodIn_of _ (by decide +kernel)) ggX7_put_X7_onTrial
set_option maxRecDepth 20000 in
theorem ggX7_put_X0_putMealsIn : GoodIn wsX7_put wsX0_putMealsIn := goodIn_r _ [31, 32, 33, 34, 35, 36, 23, 37, 25, 38, 39, 40, 12, 41, 17, 19, 42, 43, 44, 45, 46, 47, 48, 49, 50, 26, 51, 52, 53, 30, 54, 55, 56, 57, 58, 59, 60, 61, 14, 62, 63, 64, 65, 15, 66, 67, 68, 69, 70, 71, 72, 73, 74, 75, 76, 77, 78, 79, 80, 81, 82, 83, 84, 85, 86, 87, 123, 124, 125, 126, 127, 119, 120, 121, 122, 113, 114, 115, 116, 117, 118] (by decide +kernel) (by decide +kernel)
set_option maxRecDepth 20000 in
theorem gX7_put_X0_putMealsIn : GoodIn wsX7_put (wsV RX7 92 RX0 yX0_putMealsIn wsX0_putMealsIn) := goodIn_app (goodIn_of _ (by decide +kernel)) ggX7_put_X0_putMealsIn
set_option maxRecDepth 20000 in
theorem ggX7_put_X7_settle : GoodIn wsX7_put wsX7_settle := goodIn_r _ [91, 92, 7, 6, 93, 94, 95, 96, 97, 98, 99, 100, 101, 102, 103, 104, 105, 10, 11, 12, 13, 14, 15, 16, 17, 18, 19, 20, 21, 22, 23, 24, 25, 26, 9, 106, 107, 108, 109, 110, 111, 112, 128, 129, 130, 113, 114, 115, 116, 117, 118, 119, 120, 121, 122] (by decide +kernel) (by decide +kernel)
set_option maxRecDepth 20000 in
theorem gX7_put_X7_settle : GoodIn wsX7_put (wsV RX7 66 RX7 yX7_settle wsX7_settle) := goodIn_app (goodIn_of _ (by decide +kernel)) ggX7_put_X7_settle
theorem dX7_put_0 : decode cX7_put 0 = .ok (.aload_n 0, 1) := by decide +kernel
theorem dX7_put_1 : decode cX7_put 1 = .ok (.aload_n 0, 1) := by decide +kernel
theorem dX7_put_2 : decode cX7_put 2 = .ok (.invokevirtual 58, 3) := by decide +kernel
theorem dX7_put_5 : decode cX7_put 5 = .ok (.iload_n 1, 1) := by decide +kernel
theorem dX7_put_6 : decode cX7_put 6 = .ok (.invokevirtual 92, 3) := by decide +kernel
theorem dX7_put_9 : decode cX7_put 9 = .ok (.invokevirtual 66, 3) := by decide +kernel
theorem dX7_put_12 : decode cX7_put 12 = .ok (.ireturn, 1) := by decide +kernel
set_option maxRecDepth 20000 in
theorem ggX7_pass_X7_onTrial : GoodIn wsX7_pass wsX7_onTrial := goodIn_r _ [5, 6, 7, 8, 9, 10, 11, 12, 13, 14, 15, 16, 17, 18, 19, 20, 21, 22, 23, 24, 25, 26, 129, 130, 131, 132, 133, 134, 135, 136, 137, 138, 139, 140, 141, 142, 143, 144, 145] (by decide +kernel) (by decide +kernel)
set_option maxRecDepth 20000 in
theorem gX7_pass_X7_onTrial : GoodIn wsX7_pass (wsV RX7 58 RX7 yX7_onTrial wsX7_onTrial) := goodIn_app (goodIn_of _ (by decide +kernel)) ggX7_pass_X7_onTrial
set_option maxRecDepth 20000 in
theorem ggX7_pass_X0_passHours : GoodIn wsX7_pass wsX0_passHours := goodIn_r _ [31, 32, 33, 34, 4, 35, 36, 37, 38, 30, 39, 40, 41, 42, 43, 44, 45, 46, 47, 23, 48, 25, 49, 50, 51, 52, 53, 26, 54, 55, 56, 12, 57, 14, 58, 59, 60, 61, 62, 63, 64, 65, 66, 67, 68, 69, 70, 71, 72, 73, 74, 75, 76, 77, 78, 79, 80, 81, 82, 83, 84, 85, 86, 87, 88, 89, 15, 90, 91, 92, 93, 94, 95, 96, 97, 98, 99, 100, 101, 102, 103, 104, 105, 18, 106, 107, 108, 109, 110, 146, 147, 148, 149, 150, 136, 137, 138, 139, 140, 141, 142, 143, 144, 145] (by decide +kernel) (by decide +kernel)
set_option maxRecDepth 20000 in
theorem gX7_pass_X0_passHours : GoodIn wsX7_pass (wsV RX7 95 RX0 yX0_passHours wsX0_passHours) := goodIn_app (goodIn_of _ (by decide +kernel)) ggX7_pass_X0_passHours
set_option maxRecDepth 20000 in
theorem ggX7_pass_X7_settle : GoodIn wsX7_pass wsX7_settle := goodIn_r _ [114, 115, 7, 6, 116, 117, 118, 119, 120, 121, 122, 123, 124, 125, 126, 127, 128, 10, 11, 12, 13, 14, 15, 16, 17, 18, 19, 20, 21, 22, 23, 24, 25, 26, 9, 129, 130, 131, 132, 133, 134, 135, 151, 152, 153, 136, 137, 138, 139, 140, 141, 142, 143, 144, 145] (by decide +kernel) (by decide +kernel)
set_option maxRecDepth 20000 in
theorem gX7_pass_X7_settle : GoodIn wsX7_pass (wsV RX7 66 RX7 yX7_settle wsX7_settle) := goodIn_app (goodIn_of _ (by decide +kernel)) ggX7_pass_X7_settle
theorem dX7_pass_0 : decode cX7_pass 0 = .ok (.aload_n 0, 1) := by decide +kernel
theorem dX7_pass_1 : decode cX7_pass 1 = .ok (.aload_n 0, 1) := by decide +kernel
theorem dX7_pass_2 : decode cX7_pass 2 = .ok (.invokevirtual 58, 3) := by decide +kernel
theorem dX7_pass_5 : decode cX7_pass 5 = .ok (.iload_n 1, 1) := by decide +kernel
theorem dX7_pass_6 : decode cX7_pass 6 = .ok (.sipush 5000, 3) := by decide +kernel
theorem dX7_pass_9 : decode cX7_pass 9 = .ok (.invokevirtual 95, 3) := by decide +kernel
theorem dX7_pass_12 : decode cX7_pass 12 = .ok (.invokevirtual 66, 3) := by decide +kernel
theorem dX7_pass_15 : decode cX7_pass 15 = .ok (.ireturn, 1) := by decide +kernel
set_option maxRecDepth 20000 in
theorem ggX7_set_X7_onTrial : GoodIn wsX7_set wsX7_onTrial := goodIn_r _ [5, 6, 7, 8, 9, 10, 11, 12, 13, 14, 15, 16, 17, 18, 19, 20, 21, 22, 23, 24, 25, 26, 66, 67, 68, 69, 70, 71, 72, 73, 74, 75, 76, 77, 78, 79, 80, 81, 82] (by decide +kernel) (by decide +kernel)
set_option maxRecDepth 20000 in
theorem gX7_set_X7_onTrial : GoodIn wsX7_set (wsV RX7 58 RX7 yX7_onTrial wsX7_onTrial) := goodIn_app (goodIn_of _ (by decide +kernel)) ggX7_set_X7_onTrial
set_option maxRecDepth 20000 in
theorem ggX7_set_X0_changeSetting : GoodIn wsX7_set wsX0_changeSetting := goodIn_r _ [31, 32, 33, 4, 34, 35, 36, 37, 12, 38, 18, 39, 40, 41, 23, 42, 43, 26, 44, 45, 46, 47, 83, 84, 85, 86, 87, 73, 74, 75, 76, 77, 78, 79, 80, 81, 82] (by decide +kernel) (by decide +kernel)
set_option maxRecDepth 20000 in
theorem gX7_set_X0_changeSetting : GoodIn wsX7_set (wsV RX7 98 RX0 yX0_changeSetting wsX0_changeSetting) := goodIn_app (goodIn_of _ (by decide +kernel)) ggX7_set_X0_changeSetting
set_option maxRecDepth 20000 in
theorem ggX7_set_X7_settle : GoodIn wsX7_set wsX7_settle := goodIn_r _ [51, 52, 7, 6, 53, 54, 55, 56, 57, 58, 59, 60, 61, 62, 63, 64, 65, 10, 11, 12, 13, 14, 15, 16, 17, 18, 19, 20, 21, 22, 23, 24, 25, 26, 9, 66, 67, 68, 69, 70, 71, 72, 88, 89, 90, 73, 74, 75, 76, 77, 78, 79, 80, 81, 82] (by decide +kernel) (by decide +kernel)
set_option maxRecDepth 20000 in
theorem gX7_set_X7_settle : GoodIn wsX7_set (wsV RX7 66 RX7 yX7_settle wsX7_settle) := goodIn_app (goodIn_of _ (by decide +kernel)) ggX7_set_X7_settle
theorem dX7_set_0 : decode cX7_set 0 = .ok (.aload_n 0, 1) := by decide +kernel
theorem dX7_set_1 : decode cX7_set 1 = .ok (.aload_n 0, 1) := by decide +kernel
theorem dX7_set_2 : decode cX7_set 2 = .ok (.invokevirtual 58, 3) := by decide +kernel
theorem dX7_set_5 : decode cX7_set 5 = .ok (.iload_n 1, 1) := by decide +kernel
theorem dX7_set_6 : decode cX7_set 6 = .ok (.iload_n 2, 1) := by decide +kernel
theorem dX7_set_7 : decode cX7_set 7 = .ok (.invokevirtual 98, 3) := by decide +kernel
theorem dX7_set_10 : decode cX7_set 10 = .ok (.invokevirtual 66, 3) := by decide +kernel
theorem dX7_set_13 : decode cX7_set 13 = .ok (.ireturn, 1) := by decide +kernel
set_option maxRecDepth 20000 in
theorem ggX7_mealOf_X3_ofMeal : GoodIn wsX7_mealOf wsX3_ofMeal := goodIn_r _ [6, 7, 8, 9, 10, 11, 12, 13, 14, 15, 16, 17, 18, 19, 20, 21, 22, 23, 24, 5, 25, 33, 34, 35, 36, 37, 38, 39, 40, 41] (by decide +kernel) (by decide +kernel)
set_option maxRecDepth 20000 in
theorem gX7_mealOf_X3_ofMeal : GoodIn wsX7_mealOf (wsV RX7 101 RX3 yX3_ofMeal wsX3_ofMeal) := goodIn_app (goodIn_of _ (by decide +kernel)) ggX7_mealOf_X3_ofMeal
theorem dX7_mealOf_0 : decode cX7_mealOf 0 = .ok (.aload_n 0, 1) := by decide +kernel
theorem dX7_mealOf_1 : decode cX7_mealOf 1 = .ok (.getfield 31, 3) := by decide +kernel
theorem dX7_mealOf_4 : decode cX7_mealOf 4 = .ok (.iload_n 1, 1) := by decide +kernel
theorem dX7_mealOf_5 : decode cX7_mealOf 5 = .ok (.iload_n 2, 1) := by decide +kernel
theorem dX7_mealOf_6 : decode cX7_mealOf 6 = .ok (.invokevirtual 101, 3) := by decide +kernel
theorem dX7_mealOf_9 : decode cX7_mealOf 9 = .ok (.ireturn, 1) := by decide +kernel
set_option maxRecDepth 20000 in
theorem ggX7_lockerOf_X3_ofLocker : GoodIn wsX7_lockerOf wsX3_ofLocker := goodIn_r _ [6, 7, 8, 9, 10, 11, 12, 13, 14, 15, 16, 17, 18, 19, 20, 21, 22, 23, 24, 25, 26, 27, 28, 29, 30, 31, 32, 33, 34, 42, 43, 44, 45, 46, 47, 48, 49, 50, 51, 52, 53, 54, 55, 56] (by decide +kernel) (by decide +kernel)
set_option maxRecDepth 20000 in
theorem gX7_lockerOf_X3_ofLocker : GoodIn wsX7_lockerOf (wsV RX7 104 RX3 yX3_ofLocker wsX3_ofLocker) := goodIn_app (goodIn_of _ (by decide +kernel)) ggX7_lockerOf_X3_ofLocker
theorem dX7_lockerOf_0 : decode cX7_lockerOf 0 = .ok (.aload_n 0, 1) := by decide +kernel
theorem dX7_lockerOf_1 : decode cX7_lockerOf 1 = .ok (.getfield 31, 3) := by decide +kernel
theorem dX7_lockerOf_4 : decode cX7_lockerOf 4 = .ok (.iload_n 1, 1) := by decide +kernel
theorem dX7_lockerOf_5 : decode cX7_lockerOf 5 = .ok (.iload_n 2, 1) := by decide +kernel
theorem dX7_lockerOf_6 : decode cX7_lockerOf 6 = .ok (.invokevirtual 104, 3) := by decide +kernel
theorem dX7_lockerOf_9 : decode cX7_lockerOf 9 = .ok (.ireturn, 1) := by decide +kernel
set_option maxRecDepth 20000 in
theorem ggX7_personOf_X3_ofPerson : GoodIn wsX7_personOf wsX3_ofPerson := goodIn_r _ [6, 7, 8, 9, 10, 11, 12, 13, 14, 15, 16, 17, 18, 19, 20, 21, 22, 23, 24, 25, 26, 27, 28, 29, 30, 31, 32, 33, 34, 35, 36, 37, 38, 39, 40, 41, 42, 43, 44, 52, 53, 54, 55, 56, 57, 58, 59, 60, 61, 62, 63, 64, 65, 66] (by decide +kernel) (by decide +kernel)
set_option maxRecDepth 20000 in
theorem gX7_personOf_X3_ofPerson : GoodIn wsX7_personOf (wsV RX7 107 RX3 yX3_ofPerson wsX3_ofPerson) := goodIn_app (goodIn_of _ (by decide +kernel)) ggX7_personOf_X3_ofPerson
theorem dX7_personOf_0 : decode cX7_personOf 0 = .ok (.aload_n 0, 1) := by decide +kernel
theorem dX7_personOf_1 : decode cX7_personOf 1 = .ok (.getfield 31, 3) := by decide +kernel
theorem dX7_personOf_4 : decode cX7_personOf 4 = .ok (.iload_n 1, 1) := by decide +kernel
theorem dX7_personOf_5 : decode cX7_personOf 5 = .ok (.iload_n 2, 1) := by decide +kernel
theorem dX7_personOf_6 : decode cX7_personOf 6 = .ok (.invokevirtual 107, 3) := by decide +kernel
theorem dX7_personOf_9 : decode cX7_personOf 9 = .ok (.ireturn, 1) := by decide +kernel
set_option maxRecDepth 20000 in
theorem ggX7_volunteerOf_X3_ofVolunteer : GoodIn wsX7_volunteerOf wsX3_ofVolunteer := goodIn_r _ [6, 7, 8, 9, 10, 11, 12, 13, 14, 15, 16, 17, 18, 19, 20, 21, 22, 23, 24, 25, 26, 27, 28, 29, 30, 31, 32, 33, 34, 35, 36, 37, 38, 39, 40, 41, 42, 43, 44, 52, 53, 54, 55, 56, 57, 58, 59, 60, 61, 62, 63, 64, 65, 66] (by decide +kernel) (by decide +kernel)
set_option maxRecDepth 20000 in
theorem gX7_volunteerOf_X3_ofVolunteer : GoodIn wsX7_volunteerOf (wsV RX7 110 RX3 yX3_ofVolunteer wsX3_ofVolunteer) := goodIn_app (goodIn_of _ (by decide +kernel)) ggX7_volunteerOf_X3_ofVolunteer
theorem dX7_volunteerOf_0 : decode cX7_volunteerOf 0 = .ok (.aload_n 0, 1) := by decide +kernel
theorem dX7_volunteerOf_1 : decode cX7_volunteerOf 1 = .ok (.getfield 31, 3) := by decide +kernel
theorem dX7_volunteerOf_4 : decode cX7_volunteerOf 4 = .ok (.iload_n 1, 1) := by decide +kernel
theorem dX7_volunteerOf_5 : decode cX7_volunteerOf 5 = .ok (.iload_n 2, 1) := by decide +kernel
theorem dX7_volunteerOf_6 : decode cX7_volunteerOf 6 = .ok (.invokevirtual 110, 3) := by decide +kernel
theorem dX7_volunteerOf_9 : decode cX7_volunteerOf 9 = .ok (.ireturn, 1) := by decide +kernel
set_option maxRecDepth 20000 in
theorem ggX7_count_X1_size : GoodIn wsX7_count wsX1_size := goodIn_r _ [8, 9, 59, 60, 61] (by decide +kernel) (by decide +kernel)
set_option maxRecDepth 20000 in
theorem gX7_count_X1_size : GoodIn wsX7_count (wsV RX7 113 RX1 yX1_size wsX1_size) := goodIn_app (goodIn_of _ (by decide +kernel)) ggX7_count_X1_size
set_option maxRecDepth 20000 in
theorem ggX7_count_X6_length : GoodIn wsX7_count wsX6_length := goodIn_r _ [14, 15, 62, 63, 64, 65, 66, 67, 68] (by decide +kernel) (by decide +kernel)
set_option maxRecDepth 20000 in
theorem gX7_count_X6_length : GoodIn wsX7_count (wsV RX7 117 RX6 yX6_length wsX6_length) := goodIn_app (goodIn_of _ (by decide +kernel)) ggX7_count_X6_length
set_option maxRecDepth 20000 in
theorem ggX7_count_X3_total : GoodIn wsX7_count wsX3_total := goodIn_r _ [20, 21, 22, 23, 24, 25, 26, 27, 28, 29, 30, 31, 32, 33, 34, 19, 35, 36, 37, 38, 39, 40, 41, 42, 43, 44, 45, 46, 47, 48, 49, 50, 51, 69, 70, 71, 72, 73, 74, 75, 76, 77, 78, 79, 80, 81, 82, 83] (by decide +kernel) (by decide +kernel)
set_option maxRecDepth 20000 in
theorem gX7_count_X3_total : GoodIn wsX7_count (wsV RX7 120 RX3 yX3_total wsX3_total) := goodIn_app (goodIn_of _ (by decide +kernel)) ggX7_count_X3_total
theorem dX7_count_0 : decode cX7_count 0 = .ok (.iload_n 1, 1) := by decide +kernel
theorem dX7_count_1 : decode cX7_count 1 = .ok (.lookupswitch 43 #[(11, 27), (12, 35)], 27) := by decide +kernel
theorem dX7_count_28 : decode cX7_count 28 = .ok (.aload_n 0, 1) := by decide +kernel
theorem dX7_count_29 : decode cX7_count 29 = .ok (.getfield 38, 3) := by decide +kernel
theorem dX7_count_32 : decode cX7_count 32 = .ok (.invokevirtual 113, 3) := by decide +kernel
theorem dX7_count_35 : decode cX7_count 35 = .ok (.ireturn, 1) := by decide +kernel
theorem dX7_count_36 : decode cX7_count 36 = .ok (.aload_n 0, 1) := by decide +kernel
theorem dX7_count_37 : decode cX7_count 37 = .ok (.getfield 45, 3) := by decide +kernel
theorem dX7_count_40 : decode cX7_count 40 = .ok (.invokevirtual 117, 3) := by decide +kernel
theorem dX7_count_43 : decode cX7_count 43 = .ok (.ireturn, 1) := by decide +kernel
theorem dX7_count_44 : decode cX7_count 44 = .ok (.aload_n 0, 1) := by decide +kernel
theorem dX7_count_45 : decode cX7_count 45 = .ok (.getfield 31, 3) := by decide +kernel
theorem dX7_count_48 : decode cX7_count 48 = .ok (.iload_n 1, 1) := by decide +kernel
theorem dX7_count_49 : decode cX7_count 49 = .ok (.invokevirtual 120, 3) := by decide +kernel
theorem dX7_count_52 : decode cX7_count 52 = .ok (.ireturn, 1) := by decide +kernel
set_option maxRecDepth 20000 in
theorem ggX7_shareBits_X3_bitsOfFetchedShare : GoodIn wsX7_shareBits wsX3_bitsOfFetchedShare := goodIn_r _ [6, 7, 8, 9, 5, 10, 11, 12, 13, 14, 15, 16, 17, 18, 19, 20, 21, 22, 23, 24, 25, 26, 27, 28, 29, 30, 38, 39, 40, 41, 42, 43, 44, 45, 46] (by decide +kernel) (by decide +kernel)
set_option maxRecDepth 20000 in
theorem gX7_shareBits_X3_bitsOfFetchedShare : GoodIn wsX7_shareBits (wsV RX7 133 RX3 yX3_bitsOfFetchedShare wsX3_bitsOfFetchedShare) := goodIn_app (goodIn_of _ (by decide +kernel)) ggX7_shareBits_X3_bitsOfFetchedShare
theorem dX7_shareBits_0 : decode cX7_shareBits 0 = .ok (.aload_n 0, 1) := by decide +kernel
theorem dX7_shareBits_1 : decode cX7_shareBits 1 = .ok (.getfield 31, 3) := by decide +kernel
theorem dX7_shareBits_4 : decode cX7_shareBits 4 = .ok (.invokevirtual 133, 3) := by decide +kernel
theorem dX7_shareBits_7 : decode cX7_shareBits 7 = .ok (.ireturn, 1) := by decide +kernel
set_option maxRecDepth 20000 in
theorem ggX7_undo_X1_restoreLatest : GoodIn wsX7_undo wsX1_restoreLatest := goodIn_r _ [7, 8, 9, 10, 11, 6, 12, 13, 14, 15, 16, 17, 18, 19, 20, 21, 22, 23, 24, 25, 26, 27, 28, 29, 30, 31, 32, 40, 41, 42, 43, 44, 45, 46, 47, 48, 49, 50, 51, 52] (by decide +kernel) (by decide +kernel)
set_option maxRecDepth 20000 in
theorem gX7_undo_X1_restoreLatest : GoodIn wsX7_undo (wsV RX7 136 RX1 yX1_restoreLatest wsX1_restoreLatest) := goodIn_app (goodIn_of _ (by decide +kernel)) ggX7_undo_X1_restoreLatest
theorem dX7_undo_0 : decode cX7_undo 0 = .ok (.aload_n 0, 1) := by decide +kernel
theorem dX7_undo_1 : decode cX7_undo 1 = .ok (.getfield 38, 3) := by decide +kernel
theorem dX7_undo_4 : decode cX7_undo 4 = .ok (.aload_n 0, 1) := by decide +kernel
theorem dX7_undo_5 : decode cX7_undo 5 = .ok (.getfield 10, 3) := by decide +kernel
theorem dX7_undo_8 : decode cX7_undo 8 = .ok (.invokevirtual 136, 3) := by decide +kernel
theorem dX7_undo_11 : decode cX7_undo 11 = .ok (.ireturn, 1) := by decide +kernel
set_option maxRecDepth 20000 in
theorem ggX7_type_X6_append : GoodIn wsX7_type wsX6_append := goodIn_r _ [6, 7, 8, 9, 10, 11, 19, 20, 21, 22, 23, 24, 25] (by decide +kernel) (by decide +kernel)
set_option maxRecDepth 20000 in
theorem gX7_type_X6_append : GoodIn wsX7_type (wsV RX7 140 RX6 yX6_append wsX6_append) := goodIn_app (goodIn_of _ (by decide +kernel)) ggX7_type_X6_append
theorem dX7_type_0 : decode cX7_type 0 = .ok (.aload_n 0, 1) := by decide +kernel
theorem dX7_type_1 : decode cX7_type 1 = .ok (.getfield 45, 3) := by decide +kernel
theorem dX7_type_4 : decode cX7_type 4 = .ok (.iload_n 1, 1) := by decide +kernel
theorem dX7_type_5 : decode cX7_type 5 = .ok (.invokevirtual 140, 3) := by decide +kernel
theorem dX7_type_8 : decode cX7_type 8 = .ok (.ireturn, 1) := by decide +kernel
set_option maxRecDepth 20000 in
theorem ggX7_clearText_X6_empty : GoodIn wsX7_clearText wsX6_empty := goodIn_r _ [6, 7, 15, 16, 17, 18, 19, 20, 21] (by decide +kernel) (by decide +kernel)
set_option maxRecDepth 20000 in
theorem gX7_clearText_X6_empty : GoodIn wsX7_clearText (wsV RX7 143 RX6 yX6_empty wsX6_empty) := goodIn_app (goodIn_of _ (by decide +kernel)) ggX7_clearText_X6_empty
theorem dX7_clearText_0 : decode cX7_clearText 0 = .ok (.aload_n 0, 1) := by decide +kernel
theorem dX7_clearText_1 : decode cX7_clearText 1 = .ok (.getfield 45, 3) := by decide +kernel
theorem dX7_clearText_4 : decode cX7_clearText 4 = .ok (.invokevirtual 143, 3) := by decide +kernel
theorem dX7_clearText_7 : decode cX7_clearText 7 = .ok (.ireturn, 1) := by decide +kernel
set_option maxRecDepth 20000 in
theorem ggX7_fault_X7_onTrial : GoodIn wsX7_fault wsX7_onTrial := goodIn_r _ [6, 7, 8, 9, 10, 11, 12, 13, 14, 15, 16, 17, 18, 19, 20, 21, 22, 23, 24, 25, 26, 27, 220, 221, 222, 223, 224, 225, 226, 227, 228, 229, 230, 231, 232, 233, 234, 235, 236] (by decide +kernel) (by decide +kernel)
set_option maxRecDepth 20000 in
theorem gX7_fault_X7_onTrial : GoodIn wsX7_fault (wsV RX7 58 RX7 yX7_onTrial wsX7_onTrial) := goodIn_app (goodIn_of _ (by decide +kernel)) ggX7_fault_X7_onTrial
set_option maxRecDepth 20000 in
theorem ggX7_fault_X2_playText : GoodIn wsX7_fault wsX2_playText := goodIn_r _ [32, 33, 34, 35, 36, 37, 38, 39, 40, 41, 42, 43, 44, 45, 46, 47, 48, 49, 50, 51, 52, 53, 54, 55, 56, 57, 58, 59, 60, 61, 62, 63, 5, 64, 65, 66, 67, 68, 69, 70, 71, 31, 72, 73, 74, 75, 76, 77, 78, 79, 80, 81, 82, 83, 24, 84, 26, 85, 86, 87, 13, 88, 16, 17, 89, 90, 91, 92, 93, 27, 94, 95, 96, 97, 20, 98, 99, 100, 101, 102, 103, 104, 105, 106, 107, 108, 109, 110, 111, 112, 113, 114, 115, 116, 117, 118, 119, 120, 121, 122, 123, 124, 125, 126, 127, 128, 129, 130, 131, 132, 133, 134, 135, 136, 137, 138, 139, 140, 141, 142, 143, 144, 145, 146, 147, 148, 149, 150, 18, 151, 152, 153, 154, 155, 156, 157, 158, 159, 160, 161, 162, 163, 164, 165, 19, 166, 167, 168, 169, 170, 171, 172, 173, 174, 175, 176, 177, 15, 178, 179, 180, 181, 182, 183, 184, 185, 186, 187, 188, 189, 190, 191, 192, 193, 194, 195, 196, 197, 198, 199, 200, 201, 202, 203, 204, 205, 206, 207, 208, 209, 210, 211, 212, 213, 214, 215, 237, 238, 239, 240, 241, 242, 243, 244, 245, 246, 247, 248, 249, 250, 251, 227, 228, 229, 230, 231, 232, 233, 234, 235, 236] (by decide +kernel) (by decide +kernel)
set_option maxRecDepth 20000 in
theorem gX7_fault_X2_playText : GoodIn wsX7_fault (wsV RX7 146 RX2 yX2_playText wsX2_playText) := goodIn_app (goodIn_of _ (by decide +kernel)) ggX7_fault_X2_playText
set_option maxRecDepth 20000 in
theorem ggX7_fault_X2_ofFault : GoodIn wsX7_fault wsX2_ofFault := goodIn_r _ [219, 34, 33, 63, 5, 64, 237, 238, 239] (by decide +kernel) (by decide +kernel)
set_option maxRecDepth 20000 in
theorem gX7_fault_X2_ofFault : GoodIn wsX7_fault (wsV RX7 150 RX2 yX2_ofFault wsX2_ofFault) := goodIn_app (goodIn_of _ (by decide +kernel)) ggX7_fault_X2_ofFault
