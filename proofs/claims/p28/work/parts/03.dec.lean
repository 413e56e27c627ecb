theorem dX0_init_0 : decode cX0_init 0 = .ok (.aload_n 0, 1) := by decide +kernel
theorem dX0_init_1 : decode cX0_init 1 = .ok (.invokespecial 3, 3) := by decide +kernel
theorem dX0_init_4 : decode cX0_init 4 = .ok (.aload_n 0, 1) := by decide +kernel
theorem dX0_init_5 : decode cX0_init 5 = .ok (.aload_n 1, 1) := by decide +kernel
theorem dX0_init_6 : decode cX0_init 6 = .ok (.putfield 9, 3) := by decide +kernel
theorem dX0_init_9 : decode cX0_init 9 = .ok (.aload_n 0, 1) := by decide +kernel
theorem dX0_init_10 : decode cX0_init 10 = .ok (.aload_n 1, 1) := by decide +kernel
theorem dX0_init_11 : decode cX0_init 11 = .ok (.getfield 15, 3) := by decide +kernel
theorem dX0_init_14 : decode cX0_init 14 = .ok (.putfield 21, 3) := by decide +kernel
theorem dX0_init_17 : decode cX0_init 17 = .ok (.aload_n 0, 1) := by decide +kernel
theorem dX0_init_18 : decode cX0_init 18 = .ok (.aload_n 1, 1) := by decide +kernel
theorem dX0_init_19 : decode cX0_init 19 = .ok (.getfield 22, 3) := by decide +kernel
theorem dX0_init_22 : decode cX0_init 22 = .ok (.putfield 25, 3) := by decide +kernel
theorem dX0_init_25 : decode cX0_init 25 = .ok (.aload_n 0, 1) := by decide +kernel
theorem dX0_init_26 : decode cX0_init 26 = .ok (.aload_n 1, 1) := by decide +kernel
theorem dX0_init_27 : decode cX0_init 27 = .ok (.getfield 26, 3) := by decide +kernel
theorem dX0_init_30 : decode cX0_init 30 = .ok (.putfield 29, 3) := by decide +kernel
theorem dX0_init_33 : decode cX0_init 33 = .ok (.aload_n 0, 1) := by decide +kernel
theorem dX0_init_34 : decode cX0_init 34 = .ok (.aload_n 1, 1) := by decide +kernel
theorem dX0_init_35 : decode cX0_init 35 = .ok (.getfield 30, 3) := by decide +kernel
theorem dX0_init_38 : decode cX0_init 38 = .ok (.putfield 33, 3) := by decide +kernel
theorem dX0_init_41 : decode cX0_init 41 = .ok (.return_, 1) := by decide +kernel
set_option maxRecDepth 20000 in
theorem ggX0_addLocker_X7_isWithin : GoodIn wsX0_addLocker wsX7_isWithin := goodIn_r _ [4] (by decide +kernel) (by decide +kernel)
set_option maxRecDepth 20000 in
theorem gX0_addLocker_X7_isWithin_n34 : GoodIn wsX0_addLocker (wsX7_isWithin) := ggX0_addLocker_X7_isWithin
set_option maxRecDepth 20000 in
theorem ggX0_addLocker_X5_isFull : GoodIn wsX0_addLocker wsX5_isFull := goodIn_r _ [9, 10, 11, 27, 28, 29, 30] (by decide +kernel) (by decide +kernel)
set_option maxRecDepth 20000 in
theorem gX0_addLocker_X5_isFull : GoodIn wsX0_addLocker (wsV RX0 38 RX5 yX5_isFull wsX5_isFull) := goodIn_app (goodIn_of _ (by decide +kernel)) ggX0_addLocker_X5_isFull
set_option maxRecDepth 20000 in
theorem ggX0_addLocker_X5_addRow : GoodIn wsX0_addLocker wsX5_addRow := goodIn_r _ [15, 10, 27, 28, 29, 30] (by decide +kernel) (by decide +kernel)
set_option maxRecDepth 20000 in
theorem gX0_addLocker_X5_addRow : GoodIn wsX0_addLocker (wsV RX0 44 RX5 yX5_addRow wsX5_addRow) := goodIn_app (goodIn_of _ (by decide +kernel)) ggX0_addLocker_X5_addRow
set_option maxRecDepth 20000 in
theorem ggX0_addLocker_X5_store : GoodIn wsX0_addLocker wsX5_store := goodIn_r _ [19, 20, 21, 27, 28, 29, 30] (by decide +kernel) (by decide +kernel)
set_option maxRecDepth 20000 in
theorem gX0_addLocker_X5_store : GoodIn wsX0_addLocker (wsV RX0 48 RX5 yX5_store wsX5_store) := goodIn_app (goodIn_of _ (by decide +kernel)) ggX0_addLocker_X5_store
theorem dX0_addLocker_0 : decode cX0_addLocker 0 = .ok (.iload_n 1, 1) := by decide +kernel
theorem dX0_addLocker_1 : decode cX0_addLocker 1 = .ok (.iconst 1, 1) := by decide +kernel
theorem dX0_addLocker_2 : decode cX0_addLocker 2 = .ok (.bipush 8, 2) := by decide +kernel
theorem dX0_addLocker_4 : decode cX0_addLocker 4 = .ok (.invokestatic 34, 3) := by decide +kernel
theorem dX0_addLocker_7 : decode cX0_addLocker 7 = .ok (.ifCond .eq 12, 3) := by decide +kernel
theorem dX0_addLocker_10 : decode cX0_addLocker 10 = .ok (.iload_n 2, 1) := by decide +kernel
theorem dX0_addLocker_11 : decode cX0_addLocker 11 = .ok (.iconst 0, 1) := by decide +kernel
theorem dX0_addLocker_12 : decode cX0_addLocker 12 = .ok (.iconst 1, 1) := by decide +kernel
theorem dX0_addLocker_13 : decode cX0_addLocker 13 = .ok (.invokestatic 34, 3) := by decide +kernel
theorem dX0_addLocker_16 : decode cX0_addLocker 16 = .ok (.ifCond .ne 5, 3) := by decide +kernel
theorem dX0_addLocker_19 : decode cX0_addLocker 19 = .ok (.iconst (-1), 1) := by decide +kernel
theorem dX0_addLocker_20 : decode cX0_addLocker 20 = .ok (.ireturn, 1) := by decide +kernel
theorem dX0_addLocker_21 : decode cX0_addLocker 21 = .ok (.aload_n 0, 1) := by decide +kernel
theorem dX0_addLocker_22 : decode cX0_addLocker 22 = .ok (.getfield 21, 3) := by decide +kernel
theorem dX0_addLocker_25 : decode cX0_addLocker 25 = .ok (.invokevirtual 38, 3) := by decide +kernel
theorem dX0_addLocker_28 : decode cX0_addLocker 28 = .ok (.ifCond .eq 6, 3) := by decide +kernel
theorem dX0_addLocker_31 : decode cX0_addLocker 31 = .ok (.bipush (-3), 2) := by decide +kernel
theorem dX0_addLocker_33 : decode cX0_addLocker 33 = .ok (.ireturn, 1) := by decide +kernel
theorem dX0_addLocker_34 : decode cX0_addLocker 34 = .ok (.aload_n 0, 1) := by decide +kernel
theorem dX0_addLocker_35 : decode cX0_addLocker 35 = .ok (.getfield 21, 3) := by decide +kernel
theorem dX0_addLocker_38 : decode cX0_addLocker 38 = .ok (.invokevirtual 44, 3) := by decide +kernel
theorem dX0_addLocker_41 : decode cX0_addLocker 41 = .ok (.istore_n 3, 1) := by decide +kernel
theorem dX0_addLocker_42 : decode cX0_addLocker 42 = .ok (.aload_n 0, 1) := by decide +kernel
theorem dX0_addLocker_43 : decode cX0_addLocker 43 = .ok (.getfield 21, 3) := by decide +kernel
theorem dX0_addLocker_46 : decode cX0_addLocker 46 = .ok (.iload_n 3, 1) := by decide +kernel
theorem dX0_addLocker_47 : decode cX0_addLocker 47 = .ok (.iconst 0, 1) := by decide +kernel
theorem dX0_addLocker_48 : decode cX0_addLocker 48 = .ok (.iload_n 1, 1) := by decide +kernel
theorem dX0_addLocker_49 : decode cX0_addLocker 49 = .ok (.invokevirtual 48, 3) := by decide +kernel
theorem dX0_addLocker_52 : decode cX0_addLocker 52 = .ok (.aload_n 0, 1) := by decide +kernel
theorem dX0_addLocker_53 : decode cX0_addLocker 53 = .ok (.getfield 21, 3) := by decide +kernel
theorem dX0_addLocker_56 : decode cX0_addLocker 56 = .ok (.iload_n 3, 1) := by decide +kernel
theorem dX0_addLocker_57 : decode cX0_addLocker 57 = .ok (.iconst 1, 1) := by decide +kernel
theorem dX0_addLocker_58 : decode cX0_addLocker 58 = .ok (.iload_n 2, 1) := by decide +kernel
theorem dX0_addLocker_59 : decode cX0_addLocker 59 = .ok (.invokevirtual 48, 3) := by decide +kernel
theorem dX0_addLocker_62 : decode cX0_addLocker 62 = .ok (.iload_n 3, 1) := by decide +kernel
theorem dX0_addLocker_63 : decode cX0_addLocker 63 = .ok (.ireturn, 1) := by decide +kernel
set_option maxRecDepth 20000 in
theorem ggX0_addMeal_X5_has : GoodIn wsX0_addMeal wsX5_has := goodIn_r _ [8, 9, 65, 66, 67, 68] (by decide +kernel) (by decide +kernel)
set_option maxRecDepth 20000 in
theorem gX0_addMeal_X5_has : GoodIn wsX0_addMeal (wsV RX0 52 RX5 yX5_has wsX5_has) := goodIn_app (goodIn_of _ (by decide +kernel)) ggX0_addMeal_X5_has
set_option maxRecDepth 20000 in
theorem ggX0_addMeal_X7_isWithin : GoodIn wsX0_addMeal wsX7_isWithin := goodIn_r _ [12] (by decide +kernel) (by decide +kernel)
set_option maxRecDepth 20000 in
theorem gX0_addMeal_X7_isWithin_n34 : GoodIn wsX0_addMeal (wsX7_isWithin) := ggX0_addMeal_X7_isWithin
set_option maxRecDepth 20000 in
theorem ggX0_addMeal_X4_freeCells : GoodIn wsX0_addMeal wsX4_freeCells := goodIn_r _ [17, 18, 19, 20, 21, 7, 22, 23, 24, 25, 26, 27, 16, 28, 29, 30, 31, 32, 33, 9, 34, 35, 36, 37, 38, 39, 40, 69, 70, 71, 72, 73, 74, 65, 66, 67, 68] (by decide +kernel) (by decide +kernel)
set_option maxRecDepth 20000 in
theorem gX0_addMeal_X4_freeCells : GoodIn wsX0_addMeal (wsV RX0 56 RX4 yX4_freeCells wsX4_freeCells) := goodIn_app (goodIn_of _ (by decide +kernel)) ggX0_addMeal_X4_freeCells
set_option maxRecDepth 20000 in
theorem ggX0_addMeal_X5_isFull : GoodIn wsX0_addMeal wsX5_isFull := goodIn_r _ [44, 9, 45, 65, 66, 67, 68] (by decide +kernel) (by decide +kernel)
set_option maxRecDepth 20000 in
theorem gX0_addMeal_X5_isFull : GoodIn wsX0_addMeal (wsV RX0 38 RX5 yX5_isFull wsX5_isFull) := goodIn_app (goodIn_of _ (by decide +kernel)) ggX0_addMeal_X5_isFull
set_option maxRecDepth 20000 in
theorem ggX0_addMeal_X5_addRow : GoodIn wsX0_addMeal wsX5_addRow := goodIn_r _ [49, 9, 65, 66, 67, 68] (by decide +kernel) (by decide +kernel)
set_option maxRecDepth 20000 in
theorem gX0_addMeal_X5_addRow : GoodIn wsX0_addMeal (wsV RX0 44 RX5 yX5_addRow wsX5_addRow) := goodIn_app (goodIn_of _ (by decide +kernel)) ggX0_addMeal_X5_addRow
set_option maxRecDepth 20000 in
theorem ggX0_addMeal_X5_store : GoodIn wsX0_addMeal wsX5_store := goodIn_r _ [53, 23, 24, 65, 66, 67, 68] (by decide +kernel) (by decide +kernel)
set_option maxRecDepth 20000 in
theorem gX0_addMeal_X5_store : GoodIn wsX0_addMeal (wsV RX0 48 RX5 yX5_store wsX5_store) := goodIn_app (goodIn_of _ (by decide +kernel)) ggX0_addMeal_X5_store
set_option maxRecDepth 20000 in
theorem ggX0_addMeal_X5_raise : GoodIn wsX0_addMeal wsX5_raise := goodIn_r _ [57, 58, 20, 21, 7, 22, 23, 24, 59, 51, 52, 53, 65, 66, 67, 68] (by decide +kernel) (by decide +kernel)
set_option maxRecDepth 20000 in
theorem gX0_addMeal_X5_raise : GoodIn wsX0_addMeal (wsV RX0 60 RX5 yX5_raise wsX5_raise) := goodIn_app (goodIn_of _ (by decide +kernel)) ggX0_addMeal_X5_raise
theorem dX0_addMeal_0 : decode cX0_addMeal 0 = .ok (.aload_n 0, 1) := by decide +kernel
theorem dX0_addMeal_1 : decode cX0_addMeal 1 = .ok (.getfield 21, 3) := by decide +kernel
theorem dX0_addMeal_4 : decode cX0_addMeal 4 = .ok (.iload_n 1, 1) := by decide +kernel
theorem dX0_addMeal_5 : decode cX0_addMeal 5 = .ok (.invokevirtual 52, 3) := by decide +kernel
theorem dX0_addMeal_8 : decode cX0_addMeal 8 = .ok (.ifCond .eq 23, 3) := by decide +kernel
theorem dX0_addMeal_11 : decode cX0_addMeal 11 = .ok (.iload_n 2, 1) := by decide +kernel
theorem dX0_addMeal_12 : decode cX0_addMeal 12 = .ok (.iconst 1, 1) := by decide +kernel
theorem dX0_addMeal_13 : decode cX0_addMeal 13 = .ok (.bipush 99, 2) := by decide +kernel
theorem dX0_addMeal_15 : decode cX0_addMeal 15 = .ok (.invokestatic 34, 3) := by decide +kernel
theorem dX0_addMeal_18 : decode cX0_addMeal 18 = .ok (.ifCond .eq 13, 3) := by decide +kernel
theorem dX0_addMeal_21 : decode cX0_addMeal 21 = .ok (.iload_n 3, 1) := by decide +kernel
theorem dX0_addMeal_22 : decode cX0_addMeal 22 = .ok (.iconst 0, 1) := by decide +kernel
theorem dX0_addMeal_23 : decode cX0_addMeal 23 = .ok (.bipush 31, 2) := by decide +kernel
theorem dX0_addMeal_25 : decode cX0_addMeal 25 = .ok (.invokestatic 34, 3) := by decide +kernel
theorem dX0_addMeal_28 : decode cX0_addMeal 28 = .ok (.ifCond .ne 5, 3) := by decide +kernel
theorem dX0_addMeal_31 : decode cX0_addMeal 31 = .ok (.iconst (-1), 1) := by decide +kernel
theorem dX0_addMeal_32 : decode cX0_addMeal 32 = .ok (.ireturn, 1) := by decide +kernel
theorem dX0_addMeal_33 : decode cX0_addMeal 33 = .ok (.aload_n 0, 1) := by decide +kernel
theorem dX0_addMeal_34 : decode cX0_addMeal 34 = .ok (.getfield 9, 3) := by decide +kernel
theorem dX0_addMeal_37 : decode cX0_addMeal 37 = .ok (.iload_n 1, 1) := by decide +kernel
theorem dX0_addMeal_38 : decode cX0_addMeal 38 = .ok (.invokevirtual 56, 3) := by decide +kernel
theorem dX0_addMeal_41 : decode cX0_addMeal 41 = .ok (.ifCond .gt 6, 3) := by decide +kernel
theorem dX0_addMeal_44 : decode cX0_addMeal 44 = .ok (.bipush (-2), 2) := by decide +kernel
theorem dX0_addMeal_46 : decode cX0_addMeal 46 = .ok (.ireturn, 1) := by decide +kernel
theorem dX0_addMeal_47 : decode cX0_addMeal 47 = .ok (.aload_n 0, 1) := by decide +kernel
theorem dX0_addMeal_48 : decode cX0_addMeal 48 = .ok (.getfield 25, 3) := by decide +kernel
theorem dX0_addMeal_51 : decode cX0_addMeal 51 = .ok (.invokevirtual 38, 3) := by decide +kernel
theorem dX0_addMeal_54 : decode cX0_addMeal 54 = .ok (.ifCond .eq 6, 3) := by decide +kernel
theorem dX0_addMeal_57 : decode cX0_addMeal 57 = .ok (.bipush (-3), 2) := by decide +kernel
theorem dX0_addMeal_59 : decode cX0_addMeal 59 = .ok (.ireturn, 1) := by decide +kernel
theorem dX0_addMeal_60 : decode cX0_addMeal 60 = .ok (.aload_n 0, 1) := by decide +kernel
theorem dX0_addMeal_61 : decode cX0_addMeal 61 = .ok (.getfield 25, 3) := by decide +kernel
theorem dX0_addMeal_64 : decode cX0_addMeal 64 = .ok (.invokevirtual 44, 3) := by decide +kernel
theorem dX0_addMeal_67 : decode cX0_addMeal 67 = .ok (.istore 4, 2) := by decide +kernel
theorem dX0_addMeal_69 : decode cX0_addMeal 69 = .ok (.aload_n 0, 1) := by decide +kernel
theorem dX0_addMeal_70 : decode cX0_addMeal 70 = .ok (.getfield 25, 3) := by decide +kernel
theorem dX0_addMeal_73 : decode cX0_addMeal 73 = .ok (.iload 4, 2) := by decide +kernel
theorem dX0_addMeal_75 : decode cX0_addMeal 75 = .ok (.iconst 0, 1) := by decide +kernel
theorem dX0_addMeal_76 : decode cX0_addMeal 76 = .ok (.iconst 0, 1) := by decide +kernel
theorem dX0_addMeal_77 : decode cX0_addMeal 77 = .ok (.invokevirtual 48, 3) := by decide +kernel
theorem dX0_addMeal_80 : decode cX0_addMeal 80 = .ok (.aload_n 0, 1) := by decide +kernel
theorem dX0_addMeal_81 : decode cX0_addMeal 81 = .ok (.getfield 25, 3) := by decide +kernel
theorem dX0_addMeal_84 : decode cX0_addMeal 84 = .ok (.iload 4, 2) := by decide +kernel
theorem dX0_addMeal_86 : decode cX0_addMeal 86 = .ok (.iconst 1, 1) := by decide +kernel
theorem dX0_addMeal_87 : decode cX0_addMeal 87 = .ok (.iload_n 1, 1) := by decide +kernel
theorem dX0_addMeal_88 : decode cX0_addMeal 88 = .ok (.invokevirtual 48, 3) := by decide +kernel
theorem dX0_addMeal_91 : decode cX0_addMeal 91 = .ok (.aload_n 0, 1) := by decide +kernel
theorem dX0_addMeal_92 : decode cX0_addMeal 92 = .ok (.getfield 25, 3) := by decide +kernel
theorem dX0_addMeal_95 : decode cX0_addMeal 95 = .ok (.iload 4, 2) := by decide +kernel
theorem dX0_addMeal_97 : decode cX0_addMeal 97 = .ok (.iconst 2, 1) := by decide +kernel
theorem dX0_addMeal_98 : decode cX0_addMeal 98 = .ok (.iload_n 2, 1) := by decide +kernel
theorem dX0_addMeal_99 : decode cX0_addMeal 99 = .ok (.invokevirtual 48, 3) := by decide +kernel
theorem dX0_addMeal_102 : decode cX0_addMeal 102 = .ok (.aload_n 0, 1) := by decide +kernel
theorem dX0_addMeal_103 : decode cX0_addMeal 103 = .ok (.getfield 25, 3) := by decide +kernel
theorem dX0_addMeal_106 : decode cX0_addMeal 106 = .ok (.iload 4, 2) := by decide +kernel
theorem dX0_addMeal_108 : decode cX0_addMeal 108 = .ok (.iconst 3, 1) := by decide +kernel
theorem dX0_addMeal_109 : decode cX0_addMeal 109 = .ok (.iload_n 3, 1) := by decide +kernel
theorem dX0_addMeal_110 : decode cX0_addMeal 110 = .ok (.invokevirtual 48, 3) := by decide +kernel
theorem dX0_addMeal_113 : decode cX0_addMeal 113 = .ok (.aload_n 0, 1) := by decide +kernel
theorem dX0_addMeal_114 : decode cX0_addMeal 114 = .ok (.getfield 21, 3) := by decide +kernel
theorem dX0_addMeal_117 : decode cX0_addMeal 117 = .ok (.iload_n 1, 1) := by decide +kernel
theorem dX0_addMeal_118 : decode cX0_addMeal 118 = .ok (.iconst 3, 1) := by decide +kernel
theorem dX0_addMeal_119 : decode cX0_addMeal 119 = .ok (.invokevirtual 60, 3) := by decide +kernel
theorem dX0_addMeal_122 : decode cX0_addMeal 122 = .ok (.iload 4, 2) := by decide +kernel
theorem dX0_addMeal_124 : decode cX0_addMeal 124 = .ok (.ireturn, 1) := by decide +kernel
set_option maxRecDepth 20000 in
theorem ggX0_addPerson_X7_isWithin : GoodIn wsX0_addPerson wsX7_isWithin := goodIn_r _ [4] (by decide +kernel) (by decide +kernel)
set_option maxRecDepth 20000 in
theorem gX0_addPerson_X7_isWithin_n34 : GoodIn wsX0_addPerson (wsX7_isWithin) := ggX0_addPerson_X7_isWithin
set_option maxRecDepth 20000 in
theorem ggX0_addPerson_X5_isFull : GoodIn wsX0_addPerson wsX5_isFull := goodIn_r _ [9, 10, 11, 27, 28, 29, 30] (by decide +kernel) (by decide +kernel)
set_option maxRecDepth 20000 in
theorem gX0_addPerson_X5_isFull : GoodIn wsX0_addPerson (wsV RX0 38 RX5 yX5_isFull wsX5_isFull) := goodIn_app (goodIn_of _ (by decide +kernel)) ggX0_addPerson_X5_isFull
set_option maxRecDepth 20000 in
theorem ggX0_addPerson_X5_addRow : GoodIn wsX0_addPerson wsX5_addRow := goodIn_r _ [15, 10, 27, 28, 29, 30] (by decide +kernel) (by decide +kernel)
set_option maxRecDepth 20000 in
theorem gX0_addPerson_X5_addRow : GoodIn wsX0_addPerson (wsV RX0 44 RX5 yX5_addRow wsX5_addRow) := goodIn_app (goodIn_of _ (by decide +kernel)) ggX0_addPerson_X5_addRow
set_option maxRecDepth 20000 in
theorem ggX0_addPerson_X5_store : GoodIn wsX0_addPerson wsX5_store := goodIn_r _ [19, 20, 21, 27, 28, 29, 30] (by decide +kernel) (by decide +kernel)
set_option maxRecDepth 20000 in
theorem gX0_addPerson_X5_store : GoodIn wsX0_addPerson (wsV RX0 48 RX5 yX5_store wsX5_store) := goodIn_app (goodIn_of _ (by decide +kernel)) ggX0_addPerson_X5_store
theorem dX0_addPerson_0 : decode cX0_addPerson 0 = .ok (.iload_n 1, 1) := by decide +kernel
theorem dX0_addPerson_1 : decode cX0_addPerson 1 = .ok (.iconst 0, 1) := by decide +kernel
theorem dX0_addPerson_2 : decode cX0_addPerson 2 = .ok (.bipush 31, 2) := by decide +kernel
theorem dX0_addPerson_4 : decode cX0_addPerson 4 = .ok (.invokestatic 34, 3) := by decide +kernel
theorem dX0_addPerson_7 : decode cX0_addPerson 7 = .ok (.ifCond .ne 5, 3) := by decide +kernel
theorem dX0_addPerson_10 : decode cX0_addPerson 10 = .ok (.iconst (-1), 1) := by decide +kernel
theorem dX0_addPerson_11 : decode cX0_addPerson 11 = .ok (.ireturn, 1) := by decide +kernel
theorem dX0_addPerson_12 : decode cX0_addPerson 12 = .ok (.aload_n 0, 1) := by decide +kernel
theorem dX0_addPerson_13 : decode cX0_addPerson 13 = .ok (.getfield 29, 3) := by decide +kernel
theorem dX0_addPerson_16 : decode cX0_addPerson 16 = .ok (.invokevirtual 38, 3) := by decide +kernel
theorem dX0_addPerson_19 : decode cX0_addPerson 19 = .ok (.ifCond .eq 6, 3) := by decide +kernel
theorem dX0_addPerson_22 : decode cX0_addPerson 22 = .ok (.bipush (-3), 2) := by decide +kernel
theorem dX0_addPerson_24 : decode cX0_addPerson 24 = .ok (.ireturn, 1) := by decide +kernel
theorem dX0_addPerson_25 : decode cX0_addPerson 25 = .ok (.aload_n 0, 1) := by decide +kernel
theorem dX0_addPerson_26 : decode cX0_addPerson 26 = .ok (.getfield 29, 3) := by decide +kernel
theorem dX0_addPerson_29 : decode cX0_addPerson 29 = .ok (.invokevirtual 44, 3) := by decide +kernel
theorem dX0_addPerson_32 : decode cX0_addPerson 32 = .ok (.istore_n 2, 1) := by decide +kernel
theorem dX0_addPerson_33 : decode cX0_addPerson 33 = .ok (.aload_n 0, 1) := by decide +kernel
theorem dX0_addPerson_34 : decode cX0_addPerson 34 = .ok (.getfield 29, 3) := by decide +kernel
theorem dX0_addPerson_37 : decode cX0_addPerson 37 = .ok (.iload_n 2, 1) := by decide +kernel
theorem dX0_addPerson_38 : decode cX0_addPerson 38 = .ok (.iconst 0, 1) := by decide +kernel
theorem dX0_addPerson_39 : decode cX0_addPerson 39 = .ok (.iload_n 1, 1) := by decide +kernel
theorem dX0_addPerson_40 : decode cX0_addPerson 40 = .ok (.invokevirtual 48, 3) := by decide +kernel
theorem dX0_addPerson_43 : decode cX0_addPerson 43 = .ok (.iload_n 2, 1) := by decide +kernel
theorem dX0_addPerson_44 : decode cX0_addPerson 44 = .ok (.ireturn, 1) := by decide +kernel
set_option maxRecDepth 20000 in
theorem ggX0_addVolunteer_X5_has : GoodIn wsX0_addVolunteer wsX5_has := goodIn_r _ [7, 8, 32, 33, 34, 35] (by decide +kernel) (by decide +kernel)
set_option maxRecDepth 20000 in
theorem gX0_addVolunteer_X5_has : GoodIn wsX0_addVolunteer (wsV RX0 52 RX5 yX5_has wsX5_has) := goodIn_app (goodIn_of _ (by decide +kernel)) ggX0_addVolunteer_X5_has
set_option maxRecDepth 20000 in
theorem ggX0_addVolunteer_X7_isWithin : GoodIn wsX0_addVolunteer wsX7_isWithin := goodIn_r _ [11] (by decide +kernel) (by decide +kernel)
set_option maxRecDepth 20000 in
theorem gX0_addVolunteer_X7_isWithin_n34 : GoodIn wsX0_addVolunteer (wsX7_isWithin) := ggX0_addVolunteer_X7_isWithin
set_option maxRecDepth 20000 in
theorem ggX0_addVolunteer_X5_isFull : GoodIn wsX0_addVolunteer wsX5_isFull := goodIn_r _ [15, 8, 16, 32, 33, 34, 35] (by decide +kernel) (by decide +kernel)
set_option maxRecDepth 20000 in
theorem gX0_addVolunteer_X5_isFull : GoodIn wsX0_addVolunteer (wsV RX0 38 RX5 yX5_isFull wsX5_isFull) := goodIn_app (goodIn_of _ (by decide +kernel)) ggX0_addVolunteer_X5_isFull
set_option maxRecDepth 20000 in
theorem ggX0_addVolunteer_X5_addRow : GoodIn wsX0_addVolunteer wsX5_addRow := goodIn_r _ [20, 8, 32, 33, 34, 35] (by decide +kernel) (by decide +kernel)
set_option maxRecDepth 20000 in
theorem gX0_addVolunteer_X5_addRow : GoodIn wsX0_addVolunteer (wsV RX0 44 RX5 yX5_addRow wsX5_addRow) := goodIn_app (goodIn_of _ (by decide +kernel)) ggX0_addVolunteer_X5_addRow
set_option maxRecDepth 20000 in
theorem ggX0_addVolunteer_X5_store : GoodIn wsX0_addVolunteer wsX5_store := goodIn_r _ [24, 25, 26, 32, 33, 34, 35] (by decide +kernel) (by decide +kernel)
set_option maxRecDepth 20000 in
theorem gX0_addVolunteer_X5_store : GoodIn wsX0_addVolunteer (wsV RX0 48 RX5 yX5_store wsX5_store) := goodIn_app (goodIn_of _ (by decide +kernel)) ggX0_addVolunteer_X5_store
theorem dX0_addVolunteer_0 : decode cX0_addVolunteer 0 = .ok (.aload_n 0, 1) := by decide +kernel
theorem dX0_addVolunteer_1 : decode cX0_addVolunteer 1 = .ok (.getfield 21, 3) := by decide +kernel
theorem dX0_addVolunteer_4 : decode cX0_addVolunteer 4 = .ok (.iload_n 1, 1) := by decide +kernel
theorem dX0_addVolunteer_5 : decode cX0_addVolunteer 5 = .ok (.invokevirtual 52, 3) := by decide +kernel
theorem dX0_addVolunteer_8 : decode cX0_addVolunteer 8 = .ok (.ifCond .eq 12, 3) := by decide +kernel
theorem dX0_addVolunteer_11 : decode cX0_addVolunteer 11 = .ok (.iload_n 2, 1) := by decide +kernel
theorem dX0_addVolunteer_12 : decode cX0_addVolunteer 12 = .ok (.iconst 1, 1) := by decide +kernel
theorem dX0_addVolunteer_13 : decode cX0_addVolunteer 13 = .ok (.iconst 4, 1) := by decide +kernel
theorem dX0_addVolunteer_14 : decode cX0_addVolunteer 14 = .ok (.invokestatic 34, 3) := by decide +kernel
theorem dX0_addVolunteer_17 : decode cX0_addVolunteer 17 = .ok (.ifCond .ne 5, 3) := by decide +kernel
theorem dX0_addVolunteer_20 : decode cX0_addVolunteer 20 = .ok (.iconst (-1), 1) := by decide +kernel
theorem dX0_addVolunteer_21 : decode cX0_addVolunteer 21 = .ok (.ireturn, 1) := by decide +kernel
theorem dX0_addVolunteer_22 : decode cX0_addVolunteer 22 = .ok (.aload_n 0, 1) := by decide +kernel
theorem dX0_addVolunteer_23 : decode cX0_addVolunteer 23 = .ok (.getfield 33, 3) := by decide +kernel
theorem dX0_addVolunteer_26 : decode cX0_addVolunteer 26 = .ok (.invokevirtual 38, 3) := by decide +kernel
theorem dX0_addVolunteer_29 : decode cX0_addVolunteer 29 = .ok (.ifCond .eq 6, 3) := by decide +kernel
theorem dX0_addVolunteer_32 : decode cX0_addVolunteer 32 = .ok (.bipush (-3), 2) := by decide +kernel
theorem dX0_addVolunteer_34 : decode cX0_addVolunteer 34 = .ok (.ireturn, 1) := by decide +kernel
theorem dX0_addVolunteer_35 : decode cX0_addVolunteer 35 = .ok (.aload_n 0, 1) := by decide +kernel
theorem dX0_addVolunteer_36 : decode cX0_addVolunteer 36 = .ok (.getfield 33, 3) := by decide +kernel
theorem dX0_addVolunteer_39 : decode cX0_addVolunteer 39 = .ok (.invokevirtual 44, 3) := by decide +kernel
theorem dX0_addVolunteer_42 : decode cX0_addVolunteer 42 = .ok (.istore_n 3, 1) := by decide +kernel
theorem dX0_addVolunteer_43 : decode cX0_addVolunteer 43 = .ok (.aload_n 0, 1) := by decide +kernel
theorem dX0_addVolunteer_44 : decode cX0_addVolunteer 44 = .ok (.getfield 33, 3) := by decide +kernel
theorem dX0_addVolunteer_47 : decode cX0_addVolunteer 47 = .ok (.iload_n 3, 1) := by decide +kernel
theorem dX0_addVolunteer_48 : decode cX0_addVolunteer 48 = .ok (.iconst 0, 1) := by decide +kernel
theorem dX0_addVolunteer_49 : decode cX0_addVolunteer 49 = .ok (.iload_n 2, 1) := by decide +kernel
theorem dX0_addVolunteer_50 : decode cX0_addVolunteer 50 = .ok (.invokevirtual 48, 3) := by decide +kernel
theorem dX0_addVolunteer_53 : decode cX0_addVolunteer 53 = .ok (.aload_n 0, 1) := by decide +kernel
theorem dX0_addVolunteer_54 : decode cX0_addVolunteer 54 = .ok (.getfield 33, 3) := by decide +kernel
theorem dX0_addVolunteer_57 : decode cX0_addVolunteer 57 = .ok (.iload_n 3, 1) := by decide +kernel
theorem dX0_addVolunteer_58 : decode cX0_addVolunteer 58 = .ok (.iconst 1, 1) := by decide +kernel
theorem dX0_addVolunteer_59 : decode cX0_addVolunteer 59 = .ok (.iload_n 1, 1) := by decide +kernel
theorem dX0_addVolunteer_60 : decode cX0_addVolunteer 60 = .ok (.invokevirtual 48, 3) := by decide +kernel
theorem dX0_addVolunteer_63 : decode cX0_addVolunteer 63 = .ok (.iload_n 3, 1) := by decide +kernel
theorem dX0_addVolunteer_64 : decode cX0_addVolunteer 64 = .ok (.ireturn, 1) := by decide +kernel
set_option maxRecDepth 20000 in
theorem ggX0_reserveMeal_X5_has : GoodIn wsX0_reserveMeal wsX5_has := goodIn_r _ [8, 9, 55, 56, 57, 58] (by decide +kernel) (by decide +kernel)
set_option maxRecDepth 20000 in
theorem gX0_reserveMeal_X5_has : GoodIn wsX0_reserveMeal (wsV RX0 52 RX5 yX5_has wsX5_has) := goodIn_app (goodIn_of _ (by decide +kernel)) ggX0_reserveMeal_X5_has
set_option maxRecDepth 20000 in
theorem ggX0_reserveMeal_X4_isFitFor : GoodIn wsX0_reserveMeal wsX4_isFitFor := goodIn_r _ [14, 15, 16, 17, 18, 19, 7, 20, 21, 22, 49, 50, 51, 52, 53, 54, 55, 56, 57, 58] (by decide +kernel) (by decide +kernel)
set_option maxRecDepth 20000 in
theorem gX0_reserveMeal_X4_isFitFor : GoodIn wsX0_reserveMeal (wsV RX0 64 RX4 yX4_isFitFor wsX4_isFitFor) := goodIn_app (goodIn_of _ (by decide +kernel)) ggX0_reserveMeal_X4_isFitFor
set_option maxRecDepth 20000 in
theorem ggX0_reserveMeal_X4_barredHours : GoodIn wsX0_reserveMeal wsX4_barredHours := goodIn_r _ [26, 16, 27, 28, 29, 30, 31, 17, 18, 19, 7, 20, 21, 22, 49, 50, 51, 52, 53, 54, 55, 56, 57, 58] (by decide +kernel) (by decide +kernel)
set_option maxRecDepth 20000 in
theorem gX0_reserveMeal_X4_barredHours : GoodIn wsX0_reserveMeal (wsV RX0 68 RX4 yX4_barredHours wsX4_barredHours) := goodIn_app (goodIn_of _ (by decide +kernel)) ggX0_reserveMeal_X4_barredHours
set_option maxRecDepth 20000 in
theorem ggX0_reserveMeal_X4_mealReservedBy : GoodIn wsX0_reserveMeal wsX4_mealReservedBy := goodIn_r _ [35, 15, 36, 37, 38, 7, 39, 9, 17, 18, 19, 20, 21, 22, 49, 50, 51, 52, 53, 54, 55, 56, 57, 58] (by decide +kernel) (by decide +kernel)
set_option maxRecDepth 20000 in
theorem gX0_reserveMeal_X4_mealReservedBy : GoodIn wsX0_reserveMeal (wsV RX0 71 RX4 yX4_mealReservedBy wsX4_mealReservedBy) := goodIn_app (goodIn_of _ (by decide +kernel)) ggX0_reserveMeal_X4_mealReservedBy
set_option maxRecDepth 20000 in
theorem ggX0_reserveMeal_X5_store : GoodIn wsX0_reserveMeal wsX5_store := goodIn_r _ [43, 21, 22, 55, 56, 57, 58] (by decide +kernel) (by decide +kernel)
set_option maxRecDepth 20000 in
theorem gX0_reserveMeal_X5_store : GoodIn wsX0_reserveMeal (wsV RX0 48 RX5 yX5_store wsX5_store) := goodIn_app (goodIn_of _ (by decide +kernel)) ggX0_reserveMeal_X5_store
theorem dX0_reserveMeal_0 : decode cX0_reserveMeal 0 = .ok (.aload_n 0, 1) := by decide +kernel
theorem dX0_reserveMeal_1 : decode cX0_reserveMeal 1 = .ok (.getfield 29, 3) := by decide +kernel
theorem dX0_reserveMeal_4 : decode cX0_reserveMeal 4 = .ok (.iload_n 1, 1) := by decide +kernel
theorem dX0_reserveMeal_5 : decode cX0_reserveMeal 5 = .ok (.invokevirtual 52, 3) := by decide +kernel
theorem dX0_reserveMeal_8 : decode cX0_reserveMeal 8 = .ok (.ifCond .eq 14, 3) := by decide +kernel
theorem dX0_reserveMeal_11 : decode cX0_reserveMeal 11 = .ok (.aload_n 0, 1) := by decide +kernel
theorem dX0_reserveMeal_12 : decode cX0_reserveMeal 12 = .ok (.getfield 25, 3) := by decide +kernel
theorem dX0_reserveMeal_15 : decode cX0_reserveMeal 15 = .ok (.iload_n 2, 1) := by decide +kernel
theorem dX0_reserveMeal_16 : decode cX0_reserveMeal 16 = .ok (.invokevirtual 52, 3) := by decide +kernel
theorem dX0_reserveMeal_19 : decode cX0_reserveMeal 19 = .ok (.ifCond .ne 5, 3) := by decide +kernel
theorem dX0_reserveMeal_22 : decode cX0_reserveMeal 22 = .ok (.iconst (-1), 1) := by decide +kernel
theorem dX0_reserveMeal_23 : decode cX0_reserveMeal 23 = .ok (.ireturn, 1) := by decide +kernel
theorem dX0_reserveMeal_24 : decode cX0_reserveMeal 24 = .ok (.aload_n 0, 1) := by decide +kernel
theorem dX0_reserveMeal_25 : decode cX0_reserveMeal 25 = .ok (.getfield 9, 3) := by decide +kernel
theorem dX0_reserveMeal_28 : decode cX0_reserveMeal 28 = .ok (.iload_n 1, 1) := by decide +kernel
theorem dX0_reserveMeal_29 : decode cX0_reserveMeal 29 = .ok (.iload_n 2, 1) := by decide +kernel
theorem dX0_reserveMeal_30 : decode cX0_reserveMeal 30 = .ok (.invokevirtual 64, 3) := by decide +kernel
theorem dX0_reserveMeal_33 : decode cX0_reserveMeal 33 = .ok (.ifCond .eq 25, 3) := by decide +kernel
theorem dX0_reserveMeal_36 : decode cX0_reserveMeal 36 = .ok (.aload_n 0, 1) := by decide +kernel
theorem dX0_reserveMeal_37 : decode cX0_reserveMeal 37 = .ok (.getfield 9, 3) := by decide +kernel
theorem dX0_reserveMeal_40 : decode cX0_reserveMeal 40 = .ok (.iload_n 1, 1) := by decide +kernel
theorem dX0_reserveMeal_41 : decode cX0_reserveMeal 41 = .ok (.invokevirtual 68, 3) := by decide +kernel
theorem dX0_reserveMeal_44 : decode cX0_reserveMeal 44 = .ok (.ifCond .gt 14, 3) := by decide +kernel
theorem dX0_reserveMeal_47 : decode cX0_reserveMeal 47 = .ok (.aload_n 0, 1) := by decide +kernel
theorem dX0_reserveMeal_48 : decode cX0_reserveMeal 48 = .ok (.getfield 9, 3) := by decide +kernel
theorem dX0_reserveMeal_51 : decode cX0_reserveMeal 51 = .ok (.iload_n 1, 1) := by decide +kernel
theorem dX0_reserveMeal_52 : decode cX0_reserveMeal 52 = .ok (.invokevirtual 71, 3) := by decide +kernel
theorem dX0_reserveMeal_55 : decode cX0_reserveMeal 55 = .ok (.ifCond .lt 6, 3) := by decide +kernel
theorem dX0_reserveMeal_58 : decode cX0_reserveMeal 58 = .ok (.bipush (-2), 2) := by decide +kernel
theorem dX0_reserveMeal_60 : decode cX0_reserveMeal 60 = .ok (.ireturn, 1) := by decide +kernel
theorem dX0_reserveMeal_61 : decode cX0_reserveMeal 61 = .ok (.sipush 1000, 3) := by decide +kernel
theorem dX0_reserveMeal_64 : decode cX0_reserveMeal 64 = .ok (.bipush 37, 2) := by decide +kernel
theorem dX0_reserveMeal_66 : decode cX0_reserveMeal 66 = .ok (.iload_n 2, 1) := by decide +kernel
theorem dX0_reserveMeal_67 : decode cX0_reserveMeal 67 = .ok (.imul, 1) := by decide +kernel
theorem dX0_reserveMeal_68 : decode cX0_reserveMeal 68 = .ok (.bipush 11, 2) := by decide +kernel
theorem dX0_reserveMeal_70 : decode cX0_reserveMeal 70 = .ok (.aload_n 0, 1) := by decide +kernel
theorem dX0_reserveMeal_71 : decode cX0_reserveMeal 71 = .ok (.getfield 9, 3) := by decide +kernel
theorem dX0_reserveMeal_74 : decode cX0_reserveMeal 74 = .ok (.getfield 74, 3) := by decide +kernel
theorem dX0_reserveMeal_77 : decode cX0_reserveMeal 77 = .ok (.imul, 1) := by decide +kernel
theorem dX0_reserveMeal_78 : decode cX0_reserveMeal 78 = .ok (.iadd, 1) := by decide +kernel
theorem dX0_reserveMeal_79 : decode cX0_reserveMeal 79 = .ok (.bipush 7, 2) := by decide +kernel
theorem dX0_reserveMeal_81 : decode cX0_reserveMeal 81 = .ok (.iload_n 1, 1) := by decide +kernel
theorem dX0_reserveMeal_82 : decode cX0_reserveMeal 82 = .ok (.imul, 1) := by decide +kernel
theorem dX0_reserveMeal_83 : decode cX0_reserveMeal 83 = .ok (.iadd, 1) := by decide +kernel
theorem dX0_reserveMeal_84 : decode cX0_reserveMeal 84 = .ok (.sipush 9000, 3) := by decide +kernel
theorem dX0_reserveMeal_87 : decode cX0_reserveMeal 87 = .ok (.irem, 1) := by decide +kernel
theorem dX0_reserveMeal_88 : decode cX0_reserveMeal 88 = .ok (.iadd, 1) := by decide +kernel
theorem dX0_reserveMeal_89 : decode cX0_reserveMeal 89 = .ok (.istore_n 3, 1) := by decide +kernel
theorem dX0_reserveMeal_90 : decode cX0_reserveMeal 90 = .ok (.aload_n 0, 1) := by decide +kernel
theorem dX0_reserveMeal_91 : decode cX0_reserveMeal 91 = .ok (.getfield 25, 3) := by decide +kernel
theorem dX0_reserveMeal_94 : decode cX0_reserveMeal 94 = .ok (.iload_n 2, 1) := by decide +kernel
theorem dX0_reserveMeal_95 : decode cX0_reserveMeal 95 = .ok (.iconst 0, 1) := by decide +kernel
theorem dX0_reserveMeal_96 : decode cX0_reserveMeal 96 = .ok (.iconst 1, 1) := by decide +kernel
theorem dX0_reserveMeal_97 : decode cX0_reserveMeal 97 = .ok (.invokevirtual 48, 3) := by decide +kernel
theorem dX0_reserveMeal_100 : decode cX0_reserveMeal 100 = .ok (.aload_n 0, 1) := by decide +kernel
theorem dX0_reserveMeal_101 : decode cX0_reserveMeal 101 = .ok (.getfield 25, 3) := by decide +kernel
theorem dX0_reserveMeal_104 : decode cX0_reserveMeal 104 = .ok (.iload_n 2, 1) := by decide +kernel
theorem dX0_reserveMeal_105 : decode cX0_reserveMeal 105 = .ok (.iconst 4, 1) := by decide +kernel
theorem dX0_reserveMeal_106 : decode cX0_reserveMeal 106 = .ok (.iload_n 3, 1) := by decide +kernel
theorem dX0_reserveMeal_107 : decode cX0_reserveMeal 107 = .ok (.invokevirtual 48, 3) := by decide +kernel
theorem dX0_reserveMeal_110 : decode cX0_reserveMeal 110 = .ok (.aload_n 0, 1) := by decide +kernel
theorem dX0_reserveMeal_111 : decode cX0_reserveMeal 111 = .ok (.getfield 25, 3) := by decide +kernel
theorem dX0_reserveMeal_114 : decode cX0_reserveMeal 114 = .ok (.iload_n 2, 1) := by decide +kernel
theorem dX0_reserveMeal_115 : decode cX0_reserveMeal 115 = .ok (.iconst 5, 1) := by decide +kernel
theorem dX0_reserveMeal_116 : decode cX0_reserveMeal 116 = .ok (.iload_n 1, 1) := by decide +kernel
theorem dX0_reserveMeal_117 : decode cX0_reserveMeal 117 = .ok (.invokevirtual 48, 3) := by decide +kernel
theorem dX0_reserveMeal_120 : decode cX0_reserveMeal 120 = .ok (.aload_n 0, 1) := by decide +kernel
theorem dX0_reserveMeal_121 : decode cX0_reserveMeal 121 = .ok (.getfield 25, 3) := by decide +kernel
theorem dX0_reserveMeal_124 : decode cX0_reserveMeal 124 = .ok (.iload_n 2, 1) := by decide +kernel
theorem dX0_reserveMeal_125 : decode cX0_reserveMeal 125 = .ok (.bipush 7, 2) := by decide +kernel
theorem dX0_reserveMeal_127 : decode cX0_reserveMeal 127 = .ok (.aload_n 0, 1) := by decide +kernel
theorem dX0_reserveMeal_128 : decode cX0_reserveMeal 128 = .ok (.getfield 9, 3) := by decide +kernel
theorem dX0_reserveMeal_131 : decode cX0_reserveMeal 131 = .ok (.getfield 74, 3) := by decide +kernel
theorem dX0_reserveMeal_134 : decode cX0_reserveMeal 134 = .ok (.invokevirtual 48, 3) := by decide +kernel
theorem dX0_reserveMeal_137 : decode cX0_reserveMeal 137 = .ok (.iload_n 3, 1) := by decide +kernel
theorem dX0_reserveMeal_138 : decode cX0_reserveMeal 138 = .ok (.ireturn, 1) := by decide +kernel
set_option maxRecDepth 20000 in
theorem ggX0_endReservation_X5_has : GoodIn wsX0_endReservation wsX5_has := goodIn_r _ [8, 9, 43, 44, 45, 46] (by decide +kernel) (by decide +kernel)
set_option maxRecDepth 20000 in
theorem gX0_endReservation_X5_has : GoodIn wsX0_endReservation (wsV RX0 52 RX5 yX5_has wsX5_has) := goodIn_app (goodIn_of _ (by decide +kernel)) ggX0_endReservation_X5_has
set_option maxRecDepth 20000 in
theorem ggX0_endReservation_X7_isWithin : GoodIn wsX0_endReservation wsX7_isWithin := goodIn_r _ [12] (by decide +kernel) (by decide +kernel)
set_option maxRecDepth 20000 in
theorem gX0_endReservation_X7_isWithin_n34 : GoodIn wsX0_endReservation (wsX7_isWithin) := ggX0_endReservation_X7_isWithin
set_option maxRecDepth 20000 in
theorem ggX0_endReservation_X0_mealWithCode : GoodIn wsX0_endReservation wsX0_mealWithCode := goodIn_r _ [17, 2, 18, 19, 20, 7, 21, 9, 22, 23, 24, 25, 26, 27, 38, 39, 40, 41, 42, 43, 44, 45, 46] (by decide +kernel) (by decide +kernel)
set_option maxRecDepth 20000 in
theorem gX0_endReservation_X0_mealWithCode : GoodIn wsX0_endReservation (wsV RX0 78 RX0 yX0_mealWithCode wsX0_mealWithCode) := goodIn_app (goodIn_of _ (by decide +kernel)) ggX0_endReservation_X0_mealWithCode
set_option maxRecDepth 20000 in
theorem ggX0_endReservation_X5_store : GoodIn wsX0_endReservation wsX5_store := goodIn_r _ [31, 26, 27, 43, 44, 45, 46] (by decide +kernel) (by decide +kernel)
set_option maxRecDepth 20000 in
theorem gX0_endReservation_X5_store : GoodIn wsX0_endReservation (wsV RX0 48 RX5 yX5_store wsX5_store) := goodIn_app (goodIn_of _ (by decide +kernel)) ggX0_endReservation_X5_store
set_option maxRecDepth 20000 in
theorem ggX0_endReservation_X5_raise : GoodIn wsX0_endReservation wsX5_raise := goodIn_r _ [35, 36, 23, 24, 7, 25, 26, 27, 37, 29, 30, 31, 43, 44, 45, 46] (by decide +kernel) (by decide +kernel)
set_option maxRecDepth 20000 in
theorem gX0_endReservation_X5_raise : GoodIn wsX0_endReservation (wsV RX0 60 RX5 yX5_raise wsX5_raise) := goodIn_app (goodIn_of _ (by decide +kernel)) ggX0_endReservation_X5_raise
set_option maxRecDepth 20000 in
theorem ggX0_endReservation_X5_at : GoodIn wsX0_endReservation wsX5_at := goodIn_r _ [25, 26, 27, 43, 44, 45, 46] (by decide +kernel) (by decide +kernel)
set_option maxRecDepth 20000 in
theorem gX0_endReservation_X5_at : GoodIn wsX0_endReservation (wsV RX0 82 RX5 yX5_at wsX5_at) := goodIn_app (goodIn_of _ (by decide +kernel)) ggX0_endReservation_X5_at
theorem dX0_endReservation_0 : decode cX0_endReservation 0 = .ok (.aload_n 0, 1) := by decide +kernel
theorem dX0_endReservation_1 : decode cX0_endReservation 1 = .ok (.getfield 21, 3) := by decide +kernel
theorem dX0_endReservation_4 : decode cX0_endReservation 4 = .ok (.iload_n 1, 1) := by decide +kernel
theorem dX0_endReservation_5 : decode cX0_endReservation 5 = .ok (.invokevirtual 52, 3) := by decide +kernel
theorem dX0_endReservation_8 : decode cX0_endReservation 8 = .ok (.ifCond .eq 25, 3) := by decide +kernel
theorem dX0_endReservation_11 : decode cX0_endReservation 11 = .ok (.iload_n 2, 1) := by decide +kernel
theorem dX0_endReservation_12 : decode cX0_endReservation 12 = .ok (.sipush 1000, 3) := by decide +kernel
theorem dX0_endReservation_15 : decode cX0_endReservation 15 = .ok (.sipush 9999, 3) := by decide +kernel
theorem dX0_endReservation_18 : decode cX0_endReservation 18 = .ok (.invokestatic 34, 3) := by decide +kernel
theorem dX0_endReservation_21 : decode cX0_endReservation 21 = .ok (.ifCond .eq 12, 3) := by decide +kernel
theorem dX0_endReservation_24 : decode cX0_endReservation 24 = .ok (.iload_n 3, 1) := by decide +kernel
theorem dX0_endReservation_25 : decode cX0_endReservation 25 = .ok (.iconst 0, 1) := by decide +kernel
theorem dX0_endReservation_26 : decode cX0_endReservation 26 = .ok (.iconst 1, 1) := by decide +kernel
theorem dX0_endReservation_27 : decode cX0_endReservation 27 = .ok (.invokestatic 34, 3) := by decide +kernel
theorem dX0_endReservation_30 : decode cX0_endReservation 30 = .ok (.ifCond .ne 5, 3) := by decide +kernel
theorem dX0_endReservation_33 : decode cX0_endReservation 33 = .ok (.iconst (-1), 1) := by decide +kernel
theorem dX0_endReservation_34 : decode cX0_endReservation 34 = .ok (.ireturn, 1) := by decide +kernel
theorem dX0_endReservation_35 : decode cX0_endReservation 35 = .ok (.aload_n 0, 1) := by decide +kernel
theorem dX0_endReservation_36 : decode cX0_endReservation 36 = .ok (.iload_n 1, 1) := by decide +kernel
theorem dX0_endReservation_37 : decode cX0_endReservation 37 = .ok (.iload_n 2, 1) := by decide +kernel
theorem dX0_endReservation_38 : decode cX0_endReservation 38 = .ok (.invokevirtual 78, 3) := by decide +kernel
theorem dX0_endReservation_41 : decode cX0_endReservation 41 = .ok (.istore 4, 2) := by decide +kernel
theorem dX0_endReservation_43 : decode cX0_endReservation 43 = .ok (.iload 4, 2) := by decide +kernel
theorem dX0_endReservation_45 : decode cX0_endReservation 45 = .ok (.ifCond .ge 6, 3) := by decide +kernel
theorem dX0_endReservation_48 : decode cX0_endReservation 48 = .ok (.bipush (-2), 2) := by decide +kernel
theorem dX0_endReservation_50 : decode cX0_endReservation 50 = .ok (.ireturn, 1) := by decide +kernel
theorem dX0_endReservation_51 : decode cX0_endReservation 51 = .ok (.iload_n 3, 1) := by decide +kernel
theorem dX0_endReservation_52 : decode cX0_endReservation 52 = .ok (.iconst 1, 1) := by decide +kernel
theorem dX0_endReservation_53 : decode cX0_endReservation 53 = .ok (.if_icmp .ne 27, 3) := by decide +kernel
theorem dX0_endReservation_56 : decode cX0_endReservation 56 = .ok (.aload_n 0, 1) := by decide +kernel
theorem dX0_endReservation_57 : decode cX0_endReservation 57 = .ok (.getfield 25, 3) := by decide +kernel
theorem dX0_endReservation_60 : decode cX0_endReservation 60 = .ok (.iload 4, 2) := by decide +kernel
theorem dX0_endReservation_62 : decode cX0_endReservation 62 = .ok (.iconst 0, 1) := by decide +kernel
theorem dX0_endReservation_63 : decode cX0_endReservation 63 = .ok (.iconst 4, 1) := by decide +kernel
theorem dX0_endReservation_64 : decode cX0_endReservation 64 = .ok (.invokevirtual 48, 3) := by decide +kernel
theorem dX0_endReservation_67 : decode cX0_endReservation 67 = .ok (.aload_n 0, 1) := by decide +kernel
theorem dX0_endReservation_68 : decode cX0_endReservation 68 = .ok (.getfield 21, 3) := by decide +kernel
theorem dX0_endReservation_71 : decode cX0_endReservation 71 = .ok (.iload_n 1, 1) := by decide +kernel
theorem dX0_endReservation_72 : decode cX0_endReservation 72 = .ok (.bipush 6, 2) := by decide +kernel
theorem dX0_endReservation_74 : decode cX0_endReservation 74 = .ok (.invokevirtual 60, 3) := by decide +kernel
theorem dX0_endReservation_77 : decode cX0_endReservation 77 = .ok (.goto 41, 3) := by decide +kernel
theorem dX0_endReservation_80 : decode cX0_endReservation 80 = .ok (.aload_n 0, 1) := by decide +kernel
theorem dX0_endReservation_81 : decode cX0_endReservation 81 = .ok (.getfield 25, 3) := by decide +kernel
theorem dX0_endReservation_84 : decode cX0_endReservation 84 = .ok (.iload 4, 2) := by decide +kernel
theorem dX0_endReservation_86 : decode cX0_endReservation 86 = .ok (.iconst 0, 1) := by decide +kernel
theorem dX0_endReservation_87 : decode cX0_endReservation 87 = .ok (.iconst 3, 1) := by decide +kernel
theorem dX0_endReservation_88 : decode cX0_endReservation 88 = .ok (.invokevirtual 48, 3) := by decide +kernel
theorem dX0_endReservation_91 : decode cX0_endReservation 91 = .ok (.aload_n 0, 1) := by decide +kernel
theorem dX0_endReservation_92 : decode cX0_endReservation 92 = .ok (.getfield 21, 3) := by decide +kernel
theorem dX0_endReservation_95 : decode cX0_endReservation 95 = .ok (.iload_n 1, 1) := by decide +kernel
theorem dX0_endReservation_96 : decode cX0_endReservation 96 = .ok (.iconst 5, 1) := by decide +kernel
theorem dX0_endReservation_97 : decode cX0_endReservation 97 = .ok (.invokevirtual 60, 3) := by decide +kernel
theorem dX0_endReservation_100 : decode cX0_endReservation 100 = .ok (.aload_n 0, 1) := by decide +kernel
theorem dX0_endReservation_101 : decode cX0_endReservation 101 = .ok (.getfield 29, 3) := by decide +kernel
theorem dX0_endReservation_104 : decode cX0_endReservation 104 = .ok (.aload_n 0, 1) := by decide +kernel
theorem dX0_endReservation_105 : decode cX0_endReservation 105 = .ok (.getfield 25, 3) := by decide +kernel
theorem dX0_endReservation_108 : decode cX0_endReservation 108 = .ok (.iload 4, 2) := by decide +kernel
theorem dX0_endReservation_110 : decode cX0_endReservation 110 = .ok (.iconst 5, 1) := by decide +kernel
theorem dX0_endReservation_111 : decode cX0_endReservation 111 = .ok (.invokevirtual 82, 3) := by decide +kernel
theorem dX0_endReservation_114 : decode cX0_endReservation 114 = .ok (.iconst 4, 1) := by decide +kernel
theorem dX0_endReservation_115 : decode cX0_endReservation 115 = .ok (.invokevirtual 60, 3) := by decide +kernel
theorem dX0_endReservation_118 : decode cX0_endReservation 118 = .ok (.iload 4, 2) := by decide +kernel
theorem dX0_endReservation_120 : decode cX0_endReservation 120 = .ok (.ireturn, 1) := by decide +kernel
set_option maxRecDepth 20000 in
theorem ggX0_mealWithCode_X5_size : GoodIn wsX0_mealWithCode wsX5_size := goodIn_r _ [6, 7, 19, 20, 21, 22] (by decide +kernel) (by decide +kernel)
set_option maxRecDepth 20000 in
theorem gX0_mealWithCode_X5_size : GoodIn wsX0_mealWithCode (wsV RX0 85 RX5 yX5_size wsX5_size) := goodIn_app (goodIn_of _ (by decide +kernel)) ggX0_mealWithCode_X5_size
set_option maxRecDepth 20000 in
theorem ggX0_mealWithCode_X5_at : GoodIn wsX0_mealWithCode wsX5_at := goodIn_r _ [11, 12, 13, 19, 20, 21, 22] (by decide +kernel) (by decide +kernel)
set_option maxRecDepth 20000 in
theorem gX0_mealWithCode_X5_at : GoodIn wsX0_mealWithCode (wsV RX0 82 RX5 yX5_at wsX5_at) := goodIn_app (goodIn_of _ (by decide +kernel)) ggX0_mealWithCode_X5_at
theorem dX0_mealWithCode_0 : decode cX0_mealWithCode 0 = .ok (.iconst 0, 1) := by decide +kernel
theorem dX0_mealWithCode_1 : decode cX0_mealWithCode 1 = .ok (.istore_n 3, 1) := by decide +kernel
theorem dX0_mealWithCode_2 : decode cX0_mealWithCode 2 = .ok (.iload_n 3, 1) := by decide +kernel
theorem dX0_mealWithCode_3 : decode cX0_mealWithCode 3 = .ok (.aload_n 0, 1) := by decide +kernel
theorem dX0_mealWithCode_4 : decode cX0_mealWithCode 4 = .ok (.getfield 25, 3) := by decide +kernel
theorem dX0_mealWithCode_7 : decode cX0_mealWithCode 7 = .ok (.invokevirtual 85, 3) := by decide +kernel
theorem dX0_mealWithCode_10 : decode cX0_mealWithCode 10 = .ok (.if_icmp .ge 50, 3) := by decide +kernel
theorem dX0_mealWithCode_13 : decode cX0_mealWithCode 13 = .ok (.aload_n 0, 1) := by decide +kernel
theorem dX0_mealWithCode_14 : decode cX0_mealWithCode 14 = .ok (.getfield 25, 3) := by decide +kernel
theorem dX0_mealWithCode_17 : decode cX0_mealWithCode 17 = .ok (.iload_n 3, 1) := by decide +kernel
theorem dX0_mealWithCode_18 : decode cX0_mealWithCode 18 = .ok (.iconst 0, 1) := by decide +kernel
theorem dX0_mealWithCode_19 : decode cX0_mealWithCode 19 = .ok (.invokevirtual 82, 3) := by decide +kernel
theorem dX0_mealWithCode_22 : decode cX0_mealWithCode 22 = .ok (.iconst 1, 1) := by decide +kernel
theorem dX0_mealWithCode_23 : decode cX0_mealWithCode 23 = .ok (.if_icmp .ne 31, 3) := by decide +kernel
theorem dX0_mealWithCode_26 : decode cX0_mealWithCode 26 = .ok (.aload_n 0, 1) := by decide +kernel
theorem dX0_mealWithCode_27 : decode cX0_mealWithCode 27 = .ok (.getfield 25, 3) := by decide +kernel
theorem dX0_mealWithCode_30 : decode cX0_mealWithCode 30 = .ok (.iload_n 3, 1) := by decide +kernel
theorem dX0_mealWithCode_31 : decode cX0_mealWithCode 31 = .ok (.iconst 1, 1) := by decide +kernel
theorem dX0_mealWithCode_32 : decode cX0_mealWithCode 32 = .ok (.invokevirtual 82, 3) := by decide +kernel
theorem dX0_mealWithCode_35 : decode cX0_mealWithCode 35 = .ok (.iload_n 1, 1) := by decide +kernel
theorem dX0_mealWithCode_36 : decode cX0_mealWithCode 36 = .ok (.if_icmp .ne 18, 3) := by decide +kernel
theorem dX0_mealWithCode_39 : decode cX0_mealWithCode 39 = .ok (.aload_n 0, 1) := by decide +kernel
theorem dX0_mealWithCode_40 : decode cX0_mealWithCode 40 = .ok (.getfield 25, 3) := by decide +kernel
theorem dX0_mealWithCode_43 : decode cX0_mealWithCode 43 = .ok (.iload_n 3, 1) := by decide +kernel
theorem dX0_mealWithCode_44 : decode cX0_mealWithCode 44 = .ok (.iconst 4, 1) := by decide +kernel
theorem dX0_mealWithCode_45 : decode cX0_mealWithCode 45 = .ok (.invokevirtual 82, 3) := by decide +kernel
theorem dX0_mealWithCode_48 : decode cX0_mealWithCode 48 = .ok (.iload_n 2, 1) := by decide +kernel
theorem dX0_mealWithCode_49 : decode cX0_mealWithCode 49 = .ok (.if_icmp .ne 5, 3) := by decide +kernel
theorem dX0_mealWithCode_52 : decode cX0_mealWithCode 52 = .ok (.iload_n 3, 1) := by decide +kernel
theorem dX0_mealWithCode_53 : decode cX0_mealWithCode 53 = .ok (.ireturn, 1) := by decide +kernel
theorem dX0_mealWithCode_54 : decode cX0_mealWithCode 54 = .ok (.iinc 3 1, 3) := by decide +kernel
theorem dX0_mealWithCode_57 : decode cX0_mealWithCode 57 = .ok (.goto (-55), 3) := by decide +kernel
theorem dX0_mealWithCode_60 : decode cX0_mealWithCode 60 = .ok (.bipush (-4), 2) := by decide +kernel
theorem dX0_mealWithCode_62 : decode cX0_mealWithCode 62 = .ok (.ireturn, 1) := by decide +kernel
set_option maxRecDepth 20000 in
theorem ggX0_takeMeal_X5_has : GoodIn wsX0_takeMeal wsX5_has := goodIn_r _ [9, 10, 60, 61, 62, 63] (by decide +kernel) (by decide +kernel)
set_option maxRecDepth 20000 in
theorem gX0_takeMeal_X5_has : GoodIn wsX0_takeMeal (wsV RX0 52 RX5 yX5_has wsX5_has) := goodIn_app (goodIn_of _ (by decide +kernel)) ggX0_takeMeal_X5_has
set_option maxRecDepth 20000 in
theorem ggX0_takeMeal_X5_at : GoodIn wsX0_takeMeal wsX5_at := goodIn_r _ [14, 15, 16, 60, 61, 62, 63] (by decide +kernel) (by decide +kernel)
set_option maxRecDepth 20000 in
theorem gX0_takeMeal_X5_at : GoodIn wsX0_takeMeal (wsV RX0 82 RX5 yX5_at wsX5_at) := goodIn_app (goodIn_of _ (by decide +kernel)) ggX0_takeMeal_X5_at
set_option maxRecDepth 20000 in
theorem ggX0_takeMeal_X4_mealsWith : GoodIn wsX0_takeMeal wsX4_mealsWith := goodIn_r _ [21, 22, 23, 24, 25, 8, 26, 10, 27, 12, 13, 14, 15, 16, 64, 65, 66, 67, 68, 69, 60, 61, 62, 63] (by decide +kernel) (by decide +kernel)
set_option maxRecDepth 20000 in
theorem gX0_takeMeal_X4_mealsWith : GoodIn wsX0_takeMeal (wsV RX0 88 RX4 yX4_mealsWith wsX4_mealsWith) := goodIn_app (goodIn_of _ (by decide +kernel)) ggX0_takeMeal_X4_mealsWith
set_option maxRecDepth 20000 in
theorem ggX0_takeMeal_J6_bitCount_0f7a4 : GoodIn wsX0_takeMeal wsJ6_bitCount_0f7a4 := goodIn_r _ [31, 32, 33, 34] (by decide +kernel) (by decide +kernel)
set_option maxRecDepth 20000 in
theorem gX0_takeMeal_J6_bitCount_0f7a4 : GoodIn wsX0_takeMeal (va_wsS RX0 91 yJ6_bitCount_0f7a4 wsJ6_bitCount_0f7a4) := goodIn_app (goodIn_of _ (by decide +kernel)) ggX0_takeMeal_J6_bitCount_0f7a4
set_option maxRecDepth 20000 in
theorem ggX0_takeMeal_X4_wayHoursLeft : GoodIn wsX0_takeMeal wsX4_wayHoursLeft := goodIn_r _ [38, 39, 40, 41, 42, 43, 44, 27, 12, 13, 8, 14, 15, 16, 64, 65, 66, 67, 68, 69, 60, 61, 62, 63] (by decide +kernel) (by decide +kernel)
set_option maxRecDepth 20000 in
theorem gX0_takeMeal_X4_wayHoursLeft : GoodIn wsX0_takeMeal (wsV RX0 96 RX4 yX4_wayHoursLeft wsX4_wayHoursLeft) := goodIn_app (goodIn_of _ (by decide +kernel)) ggX0_takeMeal_X4_wayHoursLeft
set_option maxRecDepth 20000 in
theorem ggX0_takeMeal_X5_store : GoodIn wsX0_takeMeal wsX5_store := goodIn_r _ [48, 15, 16, 60, 61, 62, 63] (by decide +kernel) (by decide +kernel)
set_option maxRecDepth 20000 in
theorem gX0_takeMeal_X5_store : GoodIn wsX0_takeMeal (wsV RX0 48 RX5 yX5_store wsX5_store) := goodIn_app (goodIn_of _ (by decide +kernel)) ggX0_takeMeal_X5_store
set_option maxRecDepth 20000 in
theorem ggX0_takeMeal_X5_raise : GoodIn wsX0_takeMeal wsX5_raise := goodIn_r _ [52, 53, 12, 13, 8, 14, 15, 16, 54, 46, 47, 48, 60, 61, 62, 63] (by decide +kernel) (by decide +kernel)
set_option maxRecDepth 20000 in
theorem gX0_takeMeal_X5_raise : GoodIn wsX0_takeMeal (wsV RX0 60 RX5 yX5_raise wsX5_raise) := goodIn_app (goodIn_of _ (by decide +kernel)) ggX0_takeMeal_X5_raise
theorem dX0_takeMeal_0 : decode cX0_takeMeal 0 = .ok (.aload_n 0, 1) := by decide +kernel
theorem dX0_takeMeal_1 : decode cX0_takeMeal 1 = .ok (.getfield 33, 3) := by decide +kernel
theorem dX0_takeMeal_4 : decode cX0_takeMeal 4 = .ok (.iload_n 1, 1) := by decide +kernel
theorem dX0_takeMeal_5 : decode cX0_takeMeal 5 = .ok (.invokevirtual 52, 3) := by decide +kernel
theorem dX0_takeMeal_8 : decode cX0_takeMeal 8 = .ok (.ifCond .eq 14, 3) := by decide +kernel
theorem dX0_takeMeal_11 : decode cX0_takeMeal 11 = .ok (.aload_n 0, 1) := by decide +kernel
theorem dX0_takeMeal_12 : decode cX0_takeMeal 12 = .ok (.getfield 25, 3) := by decide +kernel
theorem dX0_takeMeal_15 : decode cX0_takeMeal 15 = .ok (.iload_n 2, 1) := by decide +kernel
theorem dX0_takeMeal_16 : decode cX0_takeMeal 16 = .ok (.invokevirtual 52, 3) := by decide +kernel
theorem dX0_takeMeal_19 : decode cX0_takeMeal 19 = .ok (.ifCond .ne 5, 3) := by decide +kernel
theorem dX0_takeMeal_22 : decode cX0_takeMeal 22 = .ok (.iconst (-1), 1) := by decide +kernel
theorem dX0_takeMeal_23 : decode cX0_takeMeal 23 = .ok (.ireturn, 1) := by decide +kernel
theorem dX0_takeMeal_24 : decode cX0_takeMeal 24 = .ok (.aload_n 0, 1) := by decide +kernel
theorem dX0_takeMeal_25 : decode cX0_takeMeal 25 = .ok (.getfield 33, 3) := by decide +kernel
theorem dX0_takeMeal_28 : decode cX0_takeMeal 28 = .ok (.iload_n 1, 1) := by decide +kernel
theorem dX0_takeMeal_29 : decode cX0_takeMeal 29 = .ok (.iconst 1, 1) := by decide +kernel
theorem dX0_takeMeal_30 : decode cX0_takeMeal 30 = .ok (.invokevirtual 82, 3) := by decide +kernel
theorem dX0_takeMeal_33 : decode cX0_takeMeal 33 = .ok (.istore_n 3, 1) := by decide +kernel
theorem dX0_takeMeal_34 : decode cX0_takeMeal 34 = .ok (.aload_n 0, 1) := by decide +kernel
theorem dX0_takeMeal_35 : decode cX0_takeMeal 35 = .ok (.getfield 9, 3) := by decide +kernel
theorem dX0_takeMeal_38 : decode cX0_takeMeal 38 = .ok (.iload_n 1, 1) := by decide +kernel
theorem dX0_takeMeal_39 : decode cX0_takeMeal 39 = .ok (.invokevirtual 88, 3) := by decide +kernel
theorem dX0_takeMeal_42 : decode cX0_takeMeal 42 = .ok (.invokestatic 91, 3) := by decide +kernel
theorem dX0_takeMeal_45 : decode cX0_takeMeal 45 = .ok (.istore 4, 2) := by decide +kernel
theorem dX0_takeMeal_47 : decode cX0_takeMeal 47 = .ok (.aload_n 0, 1) := by decide +kernel
theorem dX0_takeMeal_48 : decode cX0_takeMeal 48 = .ok (.getfield 9, 3) := by decide +kernel
theorem dX0_takeMeal_51 : decode cX0_takeMeal 51 = .ok (.iload_n 1, 1) := by decide +kernel
theorem dX0_takeMeal_52 : decode cX0_takeMeal 52 = .ok (.invokevirtual 96, 3) := by decide +kernel
theorem dX0_takeMeal_55 : decode cX0_takeMeal 55 = .ok (.ifCond .gt 42, 3) := by decide +kernel
theorem dX0_takeMeal_58 : decode cX0_takeMeal 58 = .ok (.iload 4, 2) := by decide +kernel
theorem dX0_takeMeal_60 : decode cX0_takeMeal 60 = .ok (.aload_n 0, 1) := by decide +kernel
theorem dX0_takeMeal_61 : decode cX0_takeMeal 61 = .ok (.getfield 33, 3) := by decide +kernel
theorem dX0_takeMeal_64 : decode cX0_takeMeal 64 = .ok (.iload_n 1, 1) := by decide +kernel
theorem dX0_takeMeal_65 : decode cX0_takeMeal 65 = .ok (.iconst 0, 1) := by decide +kernel
theorem dX0_takeMeal_66 : decode cX0_takeMeal 66 = .ok (.invokevirtual 82, 3) := by decide +kernel
theorem dX0_takeMeal_69 : decode cX0_takeMeal 69 = .ok (.if_icmp .ge 28, 3) := by decide +kernel
theorem dX0_takeMeal_72 : decode cX0_takeMeal 72 = .ok (.aload_n 0, 1) := by decide +kernel
theorem dX0_takeMeal_73 : decode cX0_takeMeal 73 = .ok (.getfield 25, 3) := by decide +kernel
theorem dX0_takeMeal_76 : decode cX0_takeMeal 76 = .ok (.iload_n 2, 1) := by decide +kernel
theorem dX0_takeMeal_77 : decode cX0_takeMeal 77 = .ok (.iconst 0, 1) := by decide +kernel
theorem dX0_takeMeal_78 : decode cX0_takeMeal 78 = .ok (.invokevirtual 82, 3) := by decide +kernel
theorem dX0_takeMeal_81 : decode cX0_takeMeal 81 = .ok (.ifCond .ne 16, 3) := by decide +kernel
theorem dX0_takeMeal_84 : decode cX0_takeMeal 84 = .ok (.aload_n 0, 1) := by decide +kernel
theorem dX0_takeMeal_85 : decode cX0_takeMeal 85 = .ok (.getfield 25, 3) := by decide +kernel
theorem dX0_takeMeal_88 : decode cX0_takeMeal 88 = .ok (.iload_n 2, 1) := by decide +kernel
theorem dX0_takeMeal_89 : decode cX0_takeMeal 89 = .ok (.iconst 1, 1) := by decide +kernel
theorem dX0_takeMeal_90 : decode cX0_takeMeal 90 = .ok (.invokevirtual 82, 3) := by decide +kernel
theorem dX0_takeMeal_93 : decode cX0_takeMeal 93 = .ok (.iload_n 3, 1) := by decide +kernel
theorem dX0_takeMeal_94 : decode cX0_takeMeal 94 = .ok (.if_icmp .eq 6, 3) := by decide +kernel
theorem dX0_takeMeal_97 : decode cX0_takeMeal 97 = .ok (.bipush (-2), 2) := by decide +kernel
theorem dX0_takeMeal_99 : decode cX0_takeMeal 99 = .ok (.ireturn, 1) := by decide +kernel
theorem dX0_takeMeal_100 : decode cX0_takeMeal 100 = .ok (.aload_n 0, 1) := by decide +kernel
theorem dX0_takeMeal_101 : decode cX0_takeMeal 101 = .ok (.getfield 25, 3) := by decide +kernel
theorem dX0_takeMeal_104 : decode cX0_takeMeal 104 = .ok (.iload_n 2, 1) := by decide +kernel
theorem dX0_takeMeal_105 : decode cX0_takeMeal 105 = .ok (.iconst 0, 1) := by decide +kernel
theorem dX0_takeMeal_106 : decode cX0_takeMeal 106 = .ok (.iconst 2, 1) := by decide +kernel
theorem dX0_takeMeal_107 : decode cX0_takeMeal 107 = .ok (.invokevirtual 48, 3) := by decide +kernel
theorem dX0_takeMeal_110 : decode cX0_takeMeal 110 = .ok (.aload_n 0, 1) := by decide +kernel
theorem dX0_takeMeal_111 : decode cX0_takeMeal 111 = .ok (.getfield 25, 3) := by decide +kernel
theorem dX0_takeMeal_114 : decode cX0_takeMeal 114 = .ok (.iload_n 2, 1) := by decide +kernel
theorem dX0_takeMeal_115 : decode cX0_takeMeal 115 = .ok (.bipush 6, 2) := by decide +kernel
theorem dX0_takeMeal_117 : decode cX0_takeMeal 117 = .ok (.iload_n 1, 1) := by decide +kernel
theorem dX0_takeMeal_118 : decode cX0_takeMeal 118 = .ok (.invokevirtual 48, 3) := by decide +kernel
theorem dX0_takeMeal_121 : decode cX0_takeMeal 121 = .ok (.aload_n 0, 1) := by decide +kernel
theorem dX0_takeMeal_122 : decode cX0_takeMeal 122 = .ok (.getfield 21, 3) := by decide +kernel
theorem dX0_takeMeal_125 : decode cX0_takeMeal 125 = .ok (.iload_n 3, 1) := by decide +kernel
theorem dX0_takeMeal_126 : decode cX0_takeMeal 126 = .ok (.bipush 7, 2) := by decide +kernel
theorem dX0_takeMeal_128 : decode cX0_takeMeal 128 = .ok (.invokevirtual 60, 3) := by decide +kernel
theorem dX0_takeMeal_131 : decode cX0_takeMeal 131 = .ok (.iload 4, 2) := by decide +kernel
theorem dX0_takeMeal_133 : decode cX0_takeMeal 133 = .ok (.iconst 1, 1) := by decide +kernel
theorem dX0_takeMeal_134 : decode cX0_takeMeal 134 = .ok (.iadd, 1) := by decide +kernel
theorem dX0_takeMeal_135 : decode cX0_takeMeal 135 = .ok (.ireturn, 1) := by decide +kernel
set_option maxRecDepth 20000 in
theorem ggX0_sendVolunteer_X5_has : GoodIn wsX0_sendVolunteer wsX5_has := goodIn_r _ [8, 9, 55, 56, 57, 58] (by decide +kernel) (by decide +kernel)
set_option maxRecDepth 20000 in
theorem gX0_sendVolunteer_X5_has : GoodIn wsX0_sendVolunteer (wsV RX0 52 RX5 yX5_has wsX5_has) := goodIn_app (goodIn_of _ (by decide +kernel)) ggX0_sendVolunteer_X5_has
set_option maxRecDepth 20000 in
theorem ggX0_sendVolunteer_X5_at : GoodIn wsX0_sendVolunteer wsX5_at := goodIn_r _ [13, 14, 15, 55, 56, 57, 58] (by decide +kernel) (by decide +kernel)
set_option maxRecDepth 20000 in
theorem gX0_sendVolunteer_X5_at : GoodIn wsX0_sendVolunteer (wsV RX0 82 RX5 yX5_at wsX5_at) := goodIn_app (goodIn_of _ (by decide +kernel)) ggX0_sendVolunteer_X5_at
set_option maxRecDepth 20000 in
theorem ggX0_sendVolunteer_X4_wayHoursLeft : GoodIn wsX0_sendVolunteer wsX4_wayHoursLeft := goodIn_r _ [20, 21, 22, 23, 24, 25, 26, 27, 11, 12, 7, 13, 14, 15, 49, 50, 51, 52, 53, 54, 55, 56, 57, 58] (by decide +kernel) (by decide +kernel)
set_option maxRecDepth 20000 in
theorem gX0_sendVolunteer_X4_wayHoursLeft : GoodIn wsX0_sendVolunteer (wsV RX0 96 RX4 yX4_wayHoursLeft wsX4_wayHoursLeft) := goodIn_app (goodIn_of _ (by decide +kernel)) ggX0_sendVolunteer_X4_wayHoursLeft
set_option maxRecDepth 20000 in
theorem ggX0_sendVolunteer_X4_wayHours : GoodIn wsX0_sendVolunteer wsX4_wayHours := goodIn_r _ [31, 32, 33, 25, 34, 35, 36, 37, 19, 38, 39, 27, 11, 12, 7, 13, 14, 15, 49, 50, 51, 52, 53, 54, 55, 56, 57, 58] (by decide +kernel) (by decide +kernel)
set_option maxRecDepth 20000 in
theorem gX0_sendVolunteer_X4_wayHours : GoodIn wsX0_sendVolunteer (wsV RX0 99 RX4 yX4_wayHours wsX4_wayHours) := goodIn_app (goodIn_of _ (by decide +kernel)) ggX0_sendVolunteer_X4_wayHours
set_option maxRecDepth 20000 in
theorem ggX0_sendVolunteer_X5_store : GoodIn wsX0_sendVolunteer wsX5_store := goodIn_r _ [43, 14, 15, 55, 56, 57, 58] (by decide +kernel) (by decide +kernel)
set_option maxRecDepth 20000 in
theorem gX0_sendVolunteer_X5_store : GoodIn wsX0_sendVolunteer (wsV RX0 48 RX5 yX5_store wsX5_store) := goodIn_app (goodIn_of _ (by decide +kernel)) ggX0_sendVolunteer_X5_store
theorem dX0_sendVolunteer_0 : decode cX0_sendVolunteer 0 = .ok (.aload_n 0, 1) := by decide +kernel
theorem dX0_sendVolunteer_1 : decode cX0_sendVolunteer 1 = .ok (.getfield 33, 3) := by decide +kernel
theorem dX0_sendVolunteer_4 : decode cX0_sendVolunteer 4 = .ok (.iload_n 1, 1) := by decide +kernel
theorem dX0_sendVolunteer_5 : decode cX0_sendVolunteer 5 = .ok (.invokevirtual 52, 3) := by decide +kernel
theorem dX0_sendVolunteer_8 : decode cX0_sendVolunteer 8 = .ok (.ifCond .eq 14, 3) := by decide +kernel
theorem dX0_sendVolunteer_11 : decode cX0_sendVolunteer 11 = .ok (.aload_n 0, 1) := by decide +kernel
theorem dX0_sendVolunteer_12 : decode cX0_sendVolunteer 12 = .ok (.getfield 21, 3) := by decide +kernel
theorem dX0_sendVolunteer_15 : decode cX0_sendVolunteer 15 = .ok (.iload_n 2, 1) := by decide +kernel
theorem dX0_sendVolunteer_16 : decode cX0_sendVolunteer 16 = .ok (.invokevirtual 52, 3) := by decide +kernel
theorem dX0_sendVolunteer_19 : decode cX0_sendVolunteer 19 = .ok (.ifCond .ne 5, 3) := by decide +kernel
theorem dX0_sendVolunteer_22 : decode cX0_sendVolunteer 22 = .ok (.iconst (-1), 1) := by decide +kernel
theorem dX0_sendVolunteer_23 : decode cX0_sendVolunteer 23 = .ok (.ireturn, 1) := by decide +kernel
theorem dX0_sendVolunteer_24 : decode cX0_sendVolunteer 24 = .ok (.aload_n 0, 1) := by decide +kernel
theorem dX0_sendVolunteer_25 : decode cX0_sendVolunteer 25 = .ok (.getfield 33, 3) := by decide +kernel
theorem dX0_sendVolunteer_28 : decode cX0_sendVolunteer 28 = .ok (.iload_n 1, 1) := by decide +kernel
theorem dX0_sendVolunteer_29 : decode cX0_sendVolunteer 29 = .ok (.iconst 1, 1) := by decide +kernel
theorem dX0_sendVolunteer_30 : decode cX0_sendVolunteer 30 = .ok (.invokevirtual 82, 3) := by decide +kernel
theorem dX0_sendVolunteer_33 : decode cX0_sendVolunteer 33 = .ok (.istore_n 3, 1) := by decide +kernel
theorem dX0_sendVolunteer_34 : decode cX0_sendVolunteer 34 = .ok (.aload_n 0, 1) := by decide +kernel
theorem dX0_sendVolunteer_35 : decode cX0_sendVolunteer 35 = .ok (.getfield 9, 3) := by decide +kernel
theorem dX0_sendVolunteer_38 : decode cX0_sendVolunteer 38 = .ok (.iload_n 1, 1) := by decide +kernel
theorem dX0_sendVolunteer_39 : decode cX0_sendVolunteer 39 = .ok (.invokevirtual 96, 3) := by decide +kernel
theorem dX0_sendVolunteer_42 : decode cX0_sendVolunteer 42 = .ok (.ifCond .gt 8, 3) := by decide +kernel
theorem dX0_sendVolunteer_45 : decode cX0_sendVolunteer 45 = .ok (.iload_n 3, 1) := by decide +kernel
theorem dX0_sendVolunteer_46 : decode cX0_sendVolunteer 46 = .ok (.iload_n 2, 1) := by decide +kernel
theorem dX0_sendVolunteer_47 : decode cX0_sendVolunteer 47 = .ok (.if_icmp .ne 6, 3) := by decide +kernel
theorem dX0_sendVolunteer_50 : decode cX0_sendVolunteer 50 = .ok (.bipush (-2), 2) := by decide +kernel
theorem dX0_sendVolunteer_52 : decode cX0_sendVolunteer 52 = .ok (.ireturn, 1) := by decide +kernel
theorem dX0_sendVolunteer_53 : decode cX0_sendVolunteer 53 = .ok (.aload_n 0, 1) := by decide +kernel
theorem dX0_sendVolunteer_54 : decode cX0_sendVolunteer 54 = .ok (.getfield 9, 3) := by decide +kernel
theorem dX0_sendVolunteer_57 : decode cX0_sendVolunteer 57 = .ok (.getfield 74, 3) := by decide +kernel
theorem dX0_sendVolunteer_60 : decode cX0_sendVolunteer 60 = .ok (.aload_n 0, 1) := by decide +kernel
theorem dX0_sendVolunteer_61 : decode cX0_sendVolunteer 61 = .ok (.getfield 9, 3) := by decide +kernel
theorem dX0_sendVolunteer_64 : decode cX0_sendVolunteer 64 = .ok (.iload_n 3, 1) := by decide +kernel
theorem dX0_sendVolunteer_65 : decode cX0_sendVolunteer 65 = .ok (.iload_n 2, 1) := by decide +kernel
theorem dX0_sendVolunteer_66 : decode cX0_sendVolunteer 66 = .ok (.invokevirtual 99, 3) := by decide +kernel
theorem dX0_sendVolunteer_69 : decode cX0_sendVolunteer 69 = .ok (.iadd, 1) := by decide +kernel
theorem dX0_sendVolunteer_70 : decode cX0_sendVolunteer 70 = .ok (.istore 4, 2) := by decide +kernel
theorem dX0_sendVolunteer_72 : decode cX0_sendVolunteer 72 = .ok (.aload_n 0, 1) := by decide +kernel
theorem dX0_sendVolunteer_73 : decode cX0_sendVolunteer 73 = .ok (.getfield 33, 3) := by decide +kernel
theorem dX0_sendVolunteer_76 : decode cX0_sendVolunteer 76 = .ok (.iload_n 1, 1) := by decide +kernel
theorem dX0_sendVolunteer_77 : decode cX0_sendVolunteer 77 = .ok (.iconst 1, 1) := by decide +kernel
theorem dX0_sendVolunteer_78 : decode cX0_sendVolunteer 78 = .ok (.iload_n 2, 1) := by decide +kernel
theorem dX0_sendVolunteer_79 : decode cX0_sendVolunteer 79 = .ok (.invokevirtual 48, 3) := by decide +kernel
theorem dX0_sendVolunteer_82 : decode cX0_sendVolunteer 82 = .ok (.aload_n 0, 1) := by decide +kernel
theorem dX0_sendVolunteer_83 : decode cX0_sendVolunteer 83 = .ok (.getfield 33, 3) := by decide +kernel
theorem dX0_sendVolunteer_86 : decode cX0_sendVolunteer 86 = .ok (.iload_n 1, 1) := by decide +kernel
theorem dX0_sendVolunteer_87 : decode cX0_sendVolunteer 87 = .ok (.iconst 3, 1) := by decide +kernel
theorem dX0_sendVolunteer_88 : decode cX0_sendVolunteer 88 = .ok (.iload 4, 2) := by decide +kernel
theorem dX0_sendVolunteer_90 : decode cX0_sendVolunteer 90 = .ok (.invokevirtual 48, 3) := by decide +kernel
theorem dX0_sendVolunteer_93 : decode cX0_sendVolunteer 93 = .ok (.iload 4, 2) := by decide +kernel
theorem dX0_sendVolunteer_95 : decode cX0_sendVolunteer 95 = .ok (.ireturn, 1) := by decide +kernel
set_option maxRecDepth 20000 in
theorem ggX0_putMealsIn_X5_has : GoodIn wsX0_putMealsIn wsX5_has := goodIn_r _ [7, 8, 71, 72, 73, 74] (by decide +kernel) (by decide +kernel)
set_option maxRecDepth 20000 in
theorem gX0_putMealsIn_X5_has : GoodIn wsX0_putMealsIn (wsV RX0 52 RX5 yX5_has wsX5_has) := goodIn_app (goodIn_of _ (by decide +kernel)) ggX0_putMealsIn_X5_has
set_option maxRecDepth 20000 in
theorem ggX0_putMealsIn_X4_wayHoursLeft : GoodIn wsX0_putMealsIn wsX4_wayHoursLeft := goodIn_r _ [13, 14, 15, 16, 17, 18, 19, 20, 21, 22, 6, 23, 24, 25, 75, 76, 77, 78, 79, 80, 71, 72, 73, 74] (by decide +kernel) (by decide +kernel)
set_option maxRecDepth 20000 in
theorem gX0_putMealsIn_X4_wayHoursLeft : GoodIn wsX0_putMealsIn (wsV RX0 96 RX4 yX4_wayHoursLeft wsX4_wayHoursLeft) := goodIn_app (goodIn_of _ (by decide +kernel)) ggX0_putMealsIn_X4_wayHoursLeft
set_option maxRecDepth 20000 in
theorem ggX0_putMealsIn_X0_stowMeals : GoodIn wsX0_putMealsIn wsX0_stowMeals := goodIn_r _ [30, 1, 2, 31, 32, 33, 21, 22, 6, 23, 24, 25, 34, 35, 36, 12, 37, 38, 20, 39, 40, 41, 42, 43, 44, 45, 46, 47, 8, 48, 49, 50, 51, 52, 53, 54, 55, 56, 57, 58, 59, 60, 61, 62, 63, 64, 65, 66, 67, 68, 69, 70, 71, 72, 73, 74, 75, 76, 77, 78, 79, 80] (by decide +kernel) (by decide +kernel)
set_option maxRecDepth 20000 in
theorem gX0_putMealsIn_X0_stowMeals : GoodIn wsX0_putMealsIn (wsV RX0 102 RX0 yX0_stowMeals wsX0_stowMeals) := goodIn_app (goodIn_of _ (by decide +kernel)) ggX0_putMealsIn_X0_stowMeals
theorem dX0_putMealsIn_0 : decode cX0_putMealsIn 0 = .ok (.aload_n 0, 1) := by decide +kernel
theorem dX0_putMealsIn_1 : decode cX0_putMealsIn 1 = .ok (.getfield 33, 3) := by decide +kernel
theorem dX0_putMealsIn_4 : decode cX0_putMealsIn 4 = .ok (.iload_n 1, 1) := by decide +kernel
theorem dX0_putMealsIn_5 : decode cX0_putMealsIn 5 = .ok (.invokevirtual 52, 3) := by decide +kernel
theorem dX0_putMealsIn_8 : decode cX0_putMealsIn 8 = .ok (.ifCond .ne 5, 3) := by decide +kernel
theorem dX0_putMealsIn_11 : decode cX0_putMealsIn 11 = .ok (.iconst (-1), 1) := by decide +kernel
theorem dX0_putMealsIn_12 : decode cX0_putMealsIn 12 = .ok (.ireturn, 1) := by decide +kernel
theorem dX0_putMealsIn_13 : decode cX0_putMealsIn 13 = .ok (.aload_n 0, 1) := by decide +kernel
theorem dX0_putMealsIn_14 : decode cX0_putMealsIn 14 = .ok (.getfield 9, 3) := by decide +kernel
theorem dX0_putMealsIn_17 : decode cX0_putMealsIn 17 = .ok (.iload_n 1, 1) := by decide +kernel
theorem dX0_putMealsIn_18 : decode cX0_putMealsIn 18 = .ok (.invokevirtual 96, 3) := by decide +kernel
theorem dX0_putMealsIn_21 : decode cX0_putMealsIn 21 = .ok (.ifCond .le 6, 3) := by decide +kernel
theorem dX0_putMealsIn_24 : decode cX0_putMealsIn 24 = .ok (.bipush (-2), 2) := by decide +kernel
theorem dX0_putMealsIn_26 : decode cX0_putMealsIn 26 = .ok (.ireturn, 1) := by decide +kernel
theorem dX0_putMealsIn_27 : decode cX0_putMealsIn 27 = .ok (.aload_n 0, 1) := by decide +kernel
theorem dX0_putMealsIn_28 : decode cX0_putMealsIn 28 = .ok (.iload_n 1, 1) := by decide +kernel
theorem dX0_putMealsIn_29 : decode cX0_putMealsIn 29 = .ok (.invokevirtual 102, 3) := by decide +kernel
theorem dX0_putMealsIn_32 : decode cX0_putMealsIn 32 = .ok (.istore_n 2, 1) := by decide +kernel
theorem dX0_putMealsIn_33 : decode cX0_putMealsIn 33 = .ok (.iload_n 2, 1) := by decide +kernel
theorem dX0_putMealsIn_34 : decode cX0_putMealsIn 34 = .ok (.ifCond .le 7, 3) := by decide +kernel
theorem dX0_putMealsIn_37 : decode cX0_putMealsIn 37 = .ok (.iload_n 2, 1) := by decide +kernel
theorem dX0_putMealsIn_38 : decode cX0_putMealsIn 38 = .ok (.goto 5, 3) := by decide +kernel
theorem dX0_putMealsIn_41 : decode cX0_putMealsIn 41 = .ok (.bipush (-2), 2) := by decide +kernel
theorem dX0_putMealsIn_43 : decode cX0_putMealsIn 43 = .ok (.ireturn, 1) := by decide +kernel
set_option maxRecDepth 20000 in
theorem ggX0_stowMeals_X5_at : GoodIn wsX0_stowMeals wsX5_at := goodIn_r _ [9, 10, 11, 52, 53, 54, 55] (by decide +kernel) (by decide +kernel)
set_option maxRecDepth 20000 in
theorem gX0_stowMeals_X5_at : GoodIn wsX0_stowMeals (wsV RX0 82 RX5 yX5_at wsX5_at) := goodIn_app (goodIn_of _ (by decide +kernel)) ggX0_stowMeals_X5_at
set_option maxRecDepth 20000 in
theorem ggX0_stowMeals_X4_freeCells : GoodIn wsX0_stowMeals wsX4_freeCells := goodIn_r _ [16, 17, 18, 6, 7, 8, 9, 10, 11, 19, 20, 21, 15, 22, 23, 24, 25, 26, 27, 28, 29, 30, 31, 32, 33, 34, 35, 56, 57, 58, 59, 60, 61, 52, 53, 54, 55] (by decide +kernel) (by decide +kernel)
set_option maxRecDepth 20000 in
theorem gX0_stowMeals_X4_freeCells : GoodIn wsX0_stowMeals (wsV RX0 56 RX4 yX4_freeCells wsX4_freeCells) := goodIn_app (goodIn_of _ (by decide +kernel)) ggX0_stowMeals_X4_freeCells
set_option maxRecDepth 20000 in
theorem ggX0_stowMeals_X5_size : GoodIn wsX0_stowMeals wsX5_size := goodIn_r _ [27, 28, 52, 53, 54, 55] (by decide +kernel) (by decide +kernel)
set_option maxRecDepth 20000 in
theorem gX0_stowMeals_X5_size : GoodIn wsX0_stowMeals (wsV RX0 85 RX5 yX5_size wsX5_size) := goodIn_app (goodIn_of _ (by decide +kernel)) ggX0_stowMeals_X5_size
set_option maxRecDepth 20000 in
theorem ggX0_stowMeals_X5_store : GoodIn wsX0_stowMeals wsX5_store := goodIn_r _ [40, 10, 11, 52, 53, 54, 55] (by decide +kernel) (by decide +kernel)
set_option maxRecDepth 20000 in
theorem gX0_stowMeals_X5_store : GoodIn wsX0_stowMeals (wsV RX0 48 RX5 yX5_store wsX5_store) := goodIn_app (goodIn_of _ (by decide +kernel)) ggX0_stowMeals_X5_store
set_option maxRecDepth 20000 in
theorem ggX0_stowMeals_X5_raise : GoodIn wsX0_stowMeals wsX5_raise := goodIn_r _ [44, 45, 6, 7, 8, 9, 10, 11, 46, 38, 39, 40, 52, 53, 54, 55] (by decide +kernel) (by decide +kernel)
set_option maxRecDepth 20000 in
theorem gX0_stowMeals_X5_raise : GoodIn wsX0_stowMeals (wsV RX0 60 RX5 yX5_raise wsX5_raise) := goodIn_app (goodIn_of _ (by decide +kernel)) ggX0_stowMeals_X5_raise
theorem dX0_stowMeals_0 : decode cX0_stowMeals 0 = .ok (.aload_n 0, 1) := by decide +kernel
theorem dX0_stowMeals_1 : decode cX0_stowMeals 1 = .ok (.getfield 33, 3) := by decide +kernel
theorem dX0_stowMeals_4 : decode cX0_stowMeals 4 = .ok (.iload_n 1, 1) := by decide +kernel
theorem dX0_stowMeals_5 : decode cX0_stowMeals 5 = .ok (.iconst 1, 1) := by decide +kernel
theorem dX0_stowMeals_6 : decode cX0_stowMeals 6 = .ok (.invokevirtual 82, 3) := by decide +kernel
theorem dX0_stowMeals_9 : decode cX0_stowMeals 9 = .ok (.istore_n 2, 1) := by decide +kernel
theorem dX0_stowMeals_10 : decode cX0_stowMeals 10 = .ok (.aload_n 0, 1) := by decide +kernel
theorem dX0_stowMeals_11 : decode cX0_stowMeals 11 = .ok (.getfield 9, 3) := by decide +kernel
theorem dX0_stowMeals_14 : decode cX0_stowMeals 14 = .ok (.iload_n 2, 1) := by decide +kernel
theorem dX0_stowMeals_15 : decode cX0_stowMeals 15 = .ok (.invokevirtual 56, 3) := by decide +kernel
theorem dX0_stowMeals_18 : decode cX0_stowMeals 18 = .ok (.istore_n 3, 1) := by decide +kernel
theorem dX0_stowMeals_19 : decode cX0_stowMeals 19 = .ok (.iconst 0, 1) := by decide +kernel
theorem dX0_stowMeals_20 : decode cX0_stowMeals 20 = .ok (.istore 4, 2) := by decide +kernel
theorem dX0_stowMeals_22 : decode cX0_stowMeals 22 = .ok (.iconst 0, 1) := by decide +kernel
theorem dX0_stowMeals_23 : decode cX0_stowMeals 23 = .ok (.istore 5, 2) := by decide +kernel
theorem dX0_stowMeals_25 : decode cX0_stowMeals 25 = .ok (.iload 5, 2) := by decide +kernel
theorem dX0_stowMeals_27 : decode cX0_stowMeals 27 = .ok (.aload_n 0, 1) := by decide +kernel
theorem dX0_stowMeals_28 : decode cX0_stowMeals 28 = .ok (.getfield 25, 3) := by decide +kernel
theorem dX0_stowMeals_31 : decode cX0_stowMeals 31 = .ok (.invokevirtual 85, 3) := by decide +kernel
theorem dX0_stowMeals_34 : decode cX0_stowMeals 34 = .ok (.if_icmp .ge 78, 3) := by decide +kernel
theorem dX0_stowMeals_37 : decode cX0_stowMeals 37 = .ok (.iload 4, 2) := by decide +kernel
theorem dX0_stowMeals_39 : decode cX0_stowMeals 39 = .ok (.iload_n 3, 1) := by decide +kernel
theorem dX0_stowMeals_40 : decode cX0_stowMeals 40 = .ok (.if_icmp .ge 72, 3) := by decide +kernel
theorem dX0_stowMeals_43 : decode cX0_stowMeals 43 = .ok (.aload_n 0, 1) := by decide +kernel
theorem dX0_stowMeals_44 : decode cX0_stowMeals 44 = .ok (.getfield 25, 3) := by decide +kernel
theorem dX0_stowMeals_47 : decode cX0_stowMeals 47 = .ok (.iload 5, 2) := by decide +kernel
theorem dX0_stowMeals_49 : decode cX0_stowMeals 49 = .ok (.iconst 0, 1) := by decide +kernel
theorem dX0_stowMeals_50 : decode cX0_stowMeals 50 = .ok (.invokevirtual 82, 3) := by decide +kernel
theorem dX0_stowMeals_53 : decode cX0_stowMeals 53 = .ok (.iconst 2, 1) := by decide +kernel
theorem dX0_stowMeals_54 : decode cX0_stowMeals 54 = .ok (.if_icmp .ne 52, 3) := by decide +kernel
theorem dX0_stowMeals_57 : decode cX0_stowMeals 57 = .ok (.aload_n 0, 1) := by decide +kernel
theorem dX0_stowMeals_58 : decode cX0_stowMeals 58 = .ok (.getfield 25, 3) := by decide +kernel
theorem dX0_stowMeals_61 : decode cX0_stowMeals 61 = .ok (.iload 5, 2) := by decide +kernel
theorem dX0_stowMeals_63 : decode cX0_stowMeals 63 = .ok (.bipush 6, 2) := by decide +kernel
theorem dX0_stowMeals_65 : decode cX0_stowMeals 65 = .ok (.invokevirtual 82, 3) := by decide +kernel
theorem dX0_stowMeals_68 : decode cX0_stowMeals 68 = .ok (.iload_n 1, 1) := by decide +kernel
theorem dX0_stowMeals_69 : decode cX0_stowMeals 69 = .ok (.if_icmp .ne 37, 3) := by decide +kernel
theorem dX0_stowMeals_72 : decode cX0_stowMeals 72 = .ok (.aload_n 0, 1) := by decide +kernel
theorem dX0_stowMeals_73 : decode cX0_stowMeals 73 = .ok (.getfield 25, 3) := by decide +kernel
theorem dX0_stowMeals_76 : decode cX0_stowMeals 76 = .ok (.iload 5, 2) := by decide +kernel
theorem dX0_stowMeals_78 : decode cX0_stowMeals 78 = .ok (.iconst 0, 1) := by decide +kernel
theorem dX0_stowMeals_79 : decode cX0_stowMeals 79 = .ok (.iconst 0, 1) := by decide +kernel
theorem dX0_stowMeals_80 : decode cX0_stowMeals 80 = .ok (.invokevirtual 48, 3) := by decide +kernel
theorem dX0_stowMeals_83 : decode cX0_stowMeals 83 = .ok (.aload_n 0, 1) := by decide +kernel
theorem dX0_stowMeals_84 : decode cX0_stowMeals 84 = .ok (.getfield 25, 3) := by decide +kernel
theorem dX0_stowMeals_87 : decode cX0_stowMeals 87 = .ok (.iload 5, 2) := by decide +kernel
theorem dX0_stowMeals_89 : decode cX0_stowMeals 89 = .ok (.iconst 1, 1) := by decide +kernel
theorem dX0_stowMeals_90 : decode cX0_stowMeals 90 = .ok (.iload_n 2, 1) := by decide +kernel
theorem dX0_stowMeals_91 : decode cX0_stowMeals 91 = .ok (.invokevirtual 48, 3) := by decide +kernel
theorem dX0_stowMeals_94 : decode cX0_stowMeals 94 = .ok (.aload_n 0, 1) := by decide +kernel
theorem dX0_stowMeals_95 : decode cX0_stowMeals 95 = .ok (.getfield 21, 3) := by decide +kernel
theorem dX0_stowMeals_98 : decode cX0_stowMeals 98 = .ok (.iload_n 2, 1) := by decide +kernel
theorem dX0_stowMeals_99 : decode cX0_stowMeals 99 = .ok (.iconst 4, 1) := by decide +kernel
theorem dX0_stowMeals_100 : decode cX0_stowMeals 100 = .ok (.invokevirtual 60, 3) := by decide +kernel
theorem dX0_stowMeals_103 : decode cX0_stowMeals 103 = .ok (.iinc 4 1, 3) := by decide +kernel
theorem dX0_stowMeals_106 : decode cX0_stowMeals 106 = .ok (.iinc 5 1, 3) := by decide +kernel
theorem dX0_stowMeals_109 : decode cX0_stowMeals 109 = .ok (.goto (-84), 3) := by decide +kernel
theorem dX0_stowMeals_112 : decode cX0_stowMeals 112 = .ok (.iload 4, 2) := by decide +kernel
theorem dX0_stowMeals_114 : decode cX0_stowMeals 114 = .ok (.ireturn, 1) := by decide +kernel
set_option maxRecDepth 20000 in
theorem ggX0_passHours_X7_isWithin : GoodIn wsX0_passHours wsX7_isWithin := goodIn_r _ [5] (by decide +kernel) (by decide +kernel)
set_option maxRecDepth 20000 in
theorem gX0_passHours_X7_isWithin_n34 : GoodIn wsX0_passHours (wsX7_isWithin) := ggX0_passHours_X7_isWithin
set_option maxRecDepth 20000 in
theorem ggX0_passHours_X0_spoilMealsOfThisHour : GoodIn wsX0_passHours wsX0_spoilMealsOfThisHour := goodIn_r _ [10, 11, 1, 12, 13, 14, 15, 16, 17, 18, 19, 20, 21, 22, 23, 24, 25, 26, 27, 28, 29, 30, 31, 32, 33, 34, 35, 36, 37, 38, 39, 40, 41, 9, 42, 43, 44, 45, 46, 47, 48, 49, 89, 90, 91, 92, 93, 100, 101, 102, 103, 94, 95, 96, 97, 98, 99] (by decide +kernel) (by decide +kernel)
set_option maxRecDepth 20000 in
theorem gX0_passHours_X0_spoilMealsOfThisHour : GoodIn wsX0_passHours (wsV RX0 105 RX0 yX0_spoilMealsOfThisHour wsX0_spoilMealsOfThisHour) := goodIn_app (goodIn_of _ (by decide +kernel)) ggX0_passHours_X0_spoilMealsOfThisHour
set_option maxRecDepth 20000 in
theorem ggX0_passHours_X5_size : GoodIn wsX0_passHours wsX5_size := goodIn_r _ [20, 21, 100, 101, 102, 103] (by decide +kernel) (by decide +kernel)
set_option maxRecDepth 20000 in
theorem gX0_passHours_X5_size : GoodIn wsX0_passHours (wsV RX0 85 RX5 yX5_size wsX5_size) := goodIn_app (goodIn_of _ (by decide +kernel)) ggX0_passHours_X5_size
set_option maxRecDepth 20000 in
theorem ggX0_passHours_X0_walkAnHour : GoodIn wsX0_passHours wsX0_walkAnHour := goodIn_r _ [53, 2, 1, 22, 23, 24, 19, 25, 26, 27, 44, 45, 46, 47, 48, 49, 36, 37, 38, 89, 90, 91, 92, 93, 94, 95, 96, 97, 98, 99, 100, 101, 102, 103] (by decide +kernel) (by decide +kernel)
set_option maxRecDepth 20000 in
theorem gX0_passHours_X0_walkAnHour : GoodIn wsX0_passHours (wsV RX0 108 RX0 yX0_walkAnHour wsX0_walkAnHour) := goodIn_app (goodIn_of _ (by decide +kernel)) ggX0_passHours_X0_walkAnHour
set_option maxRecDepth 20000 in
theorem ggX0_passHours_X5_at : GoodIn wsX0_passHours wsX5_at := goodIn_r _ [25, 26, 27, 100, 101, 102, 103] (by decide +kernel) (by decide +kernel)
set_option maxRecDepth 20000 in
theorem gX0_passHours_X5_at : GoodIn wsX0_passHours (wsV RX0 82 RX5 yX5_at wsX5_at) := goodIn_app (goodIn_of _ (by decide +kernel)) ggX0_passHours_X5_at
set_option maxRecDepth 20000 in
theorem ggX0_passHours_X0_stowMeals : GoodIn wsX0_passHours wsX0_stowMeals := goodIn_r _ [57, 2, 1, 11, 43, 22, 23, 24, 19, 25, 26, 27, 58, 59, 60, 31, 61, 33, 34, 62, 63, 64, 65, 66, 67, 17, 18, 20, 21, 68, 69, 70, 71, 72, 73, 74, 16, 35, 36, 37, 38, 44, 45, 46, 47, 48, 49, 89, 90, 91, 92, 93, 100, 101, 102, 103, 94, 95, 96, 97, 98, 99] (by decide +kernel) (by decide +kernel)
set_option maxRecDepth 20000 in
theorem gX0_passHours_X0_stowMeals : GoodIn wsX0_passHours (wsV RX0 102 RX0 yX0_stowMeals wsX0_stowMeals) := goodIn_app (goodIn_of _ (by decide +kernel)) ggX0_passHours_X0_stowMeals
set_option maxRecDepth 20000 in
theorem ggX0_passHours_X0_lapseReservations : GoodIn wsX0_passHours wsX0_lapseReservations := goodIn_r _ [78, 11, 1, 16, 17, 18, 19, 20, 21, 22, 23, 24, 25, 26, 27, 79, 80, 81, 31, 82, 83, 34, 35, 36, 37, 38, 84, 85, 86, 9, 87, 88, 44, 45, 46, 47, 48, 49, 89, 90, 91, 92, 93, 94, 95, 96, 97, 98, 99, 100, 101, 102, 103] (by decide +kernel) (by decide +kernel)
set_option maxRecDepth 20000 in
theorem gX0_passHours_X0_lapseReservations : GoodIn wsX0_passHours (wsV RX0 112 RX0 yX0_lapseReservations wsX0_lapseReservations) := goodIn_app (goodIn_of _ (by decide +kernel)) ggX0_passHours_X0_lapseReservations
theorem dX0_passHours_0 : decode cX0_passHours 0 = .ok (.iload_n 1, 1) := by decide +kernel
theorem dX0_passHours_1 : decode cX0_passHours 1 = .ok (.iconst 1, 1) := by decide +kernel
theorem dX0_passHours_2 : decode cX0_passHours 2 = .ok (.bipush 99, 2) := by decide +kernel
theorem dX0_passHours_4 : decode cX0_passHours 4 = .ok (.invokestatic 34, 3) := by decide +kernel
theorem dX0_passHours_7 : decode cX0_passHours 7 = .ok (.ifCond .ne 5, 3) := by decide +kernel
theorem dX0_passHours_10 : decode cX0_passHours 10 = .ok (.iconst (-1), 1) := by decide +kernel
theorem dX0_passHours_11 : decode cX0_passHours 11 = .ok (.ireturn, 1) := by decide +kernel
theorem dX0_passHours_12 : decode cX0_passHours 12 = .ok (.aload_n 0, 1) := by decide +kernel
theorem dX0_passHours_13 : decode cX0_passHours 13 = .ok (.getfield 9, 3) := by decide +kernel
theorem dX0_passHours_16 : decode cX0_passHours 16 = .ok (.getfield 74, 3) := by decide +kernel
theorem dX0_passHours_19 : decode cX0_passHours 19 = .ok (.iload_n 1, 1) := by decide +kernel
theorem dX0_passHours_20 : decode cX0_passHours 20 = .ok (.iadd, 1) := by decide +kernel
theorem dX0_passHours_21 : decode cX0_passHours 21 = .ok (.iload_n 2, 1) := by decide +kernel
theorem dX0_passHours_22 : decode cX0_passHours 22 = .ok (.if_icmp .le 6, 3) := by decide +kernel
theorem dX0_passHours_25 : decode cX0_passHours 25 = .ok (.bipush (-3), 2) := by decide +kernel
theorem dX0_passHours_27 : decode cX0_passHours 27 = .ok (.ireturn, 1) := by decide +kernel
theorem dX0_passHours_28 : decode cX0_passHours 28 = .ok (.iconst 0, 1) := by decide +kernel
theorem dX0_passHours_29 : decode cX0_passHours 29 = .ok (.istore_n 3, 1) := by decide +kernel
theorem dX0_passHours_30 : decode cX0_passHours 30 = .ok (.iconst 0, 1) := by decide +kernel
theorem dX0_passHours_31 : decode cX0_passHours 31 = .ok (.istore 4, 2) := by decide +kernel
theorem dX0_passHours_33 : decode cX0_passHours 33 = .ok (.iload 4, 2) := by decide +kernel
theorem dX0_passHours_35 : decode cX0_passHours 35 = .ok (.iload_n 1, 1) := by decide +kernel
theorem dX0_passHours_36 : decode cX0_passHours 36 = .ok (.if_icmp .ge 87, 3) := by decide +kernel
theorem dX0_passHours_39 : decode cX0_passHours 39 = .ok (.aload_n 0, 1) := by decide +kernel
theorem dX0_passHours_40 : decode cX0_passHours 40 = .ok (.getfield 9, 3) := by decide +kernel
theorem dX0_passHours_43 : decode cX0_passHours 43 = .ok (.dup, 1) := by decide +kernel
theorem dX0_passHours_44 : decode cX0_passHours 44 = .ok (.getfield 74, 3) := by decide +kernel
theorem dX0_passHours_47 : decode cX0_passHours 47 = .ok (.iconst 1, 1) := by decide +kernel
theorem dX0_passHours_48 : decode cX0_passHours 48 = .ok (.iadd, 1) := by decide +kernel
theorem dX0_passHours_49 : decode cX0_passHours 49 = .ok (.putfield 74, 3) := by decide +kernel
theorem dX0_passHours_52 : decode cX0_passHours 52 = .ok (.iload_n 3, 1) := by decide +kernel
theorem dX0_passHours_53 : decode cX0_passHours 53 = .ok (.aload_n 0, 1) := by decide +kernel
theorem dX0_passHours_54 : decode cX0_passHours 54 = .ok (.invokevirtual 105, 3) := by decide +kernel
theorem dX0_passHours_57 : decode cX0_passHours 57 = .ok (.iadd, 1) := by decide +kernel
theorem dX0_passHours_58 : decode cX0_passHours 58 = .ok (.istore_n 3, 1) := by decide +kernel
theorem dX0_passHours_59 : decode cX0_passHours 59 = .ok (.iconst 0, 1) := by decide +kernel
theorem dX0_passHours_60 : decode cX0_passHours 60 = .ok (.istore 5, 2) := by decide +kernel
theorem dX0_passHours_62 : decode cX0_passHours 62 = .ok (.iload 5, 2) := by decide +kernel
theorem dX0_passHours_64 : decode cX0_passHours 64 = .ok (.aload_n 0, 1) := by decide +kernel
theorem dX0_passHours_65 : decode cX0_passHours 65 = .ok (.getfield 33, 3) := by decide +kernel
theorem dX0_passHours_68 : decode cX0_passHours 68 = .ok (.invokevirtual 85, 3) := by decide +kernel
theorem dX0_passHours_71 : decode cX0_passHours 71 = .ok (.if_icmp .ge 42, 3) := by decide +kernel
theorem dX0_passHours_74 : decode cX0_passHours 74 = .ok (.aload_n 0, 1) := by decide +kernel
theorem dX0_passHours_75 : decode cX0_passHours 75 = .ok (.iload 5, 2) := by decide +kernel
theorem dX0_passHours_77 : decode cX0_passHours 77 = .ok (.invokevirtual 108, 3) := by decide +kernel
theorem dX0_passHours_80 : decode cX0_passHours 80 = .ok (.aload_n 0, 1) := by decide +kernel
theorem dX0_passHours_81 : decode cX0_passHours 81 = .ok (.getfield 33, 3) := by decide +kernel
theorem dX0_passHours_84 : decode cX0_passHours 84 = .ok (.iload 5, 2) := by decide +kernel
theorem dX0_passHours_86 : decode cX0_passHours 86 = .ok (.iconst 3, 1) := by decide +kernel
theorem dX0_passHours_87 : decode cX0_passHours 87 = .ok (.invokevirtual 82, 3) := by decide +kernel
theorem dX0_passHours_90 : decode cX0_passHours 90 = .ok (.aload_n 0, 1) := by decide +kernel
theorem dX0_passHours_91 : decode cX0_passHours 91 = .ok (.getfield 9, 3) := by decide +kernel
theorem dX0_passHours_94 : decode cX0_passHours 94 = .ok (.getfield 74, 3) := by decide +kernel
theorem dX0_passHours_97 : decode cX0_passHours 97 = .ok (.if_icmp .ne 10, 3) := by decide +kernel
theorem dX0_passHours_100 : decode cX0_passHours 100 = .ok (.aload_n 0, 1) := by decide +kernel
theorem dX0_passHours_101 : decode cX0_passHours 101 = .ok (.iload 5, 2) := by decide +kernel
theorem dX0_passHours_103 : decode cX0_passHours 103 = .ok (.invokevirtual 102, 3) := by decide +kernel
theorem dX0_passHours_106 : decode cX0_passHours 106 = .ok (.pop, 1) := by decide +kernel
theorem dX0_passHours_107 : decode cX0_passHours 107 = .ok (.iinc 5 1, 3) := by decide +kernel
theorem dX0_passHours_110 : decode cX0_passHours 110 = .ok (.goto (-48), 3) := by decide +kernel
theorem dX0_passHours_113 : decode cX0_passHours 113 = .ok (.aload_n 0, 1) := by decide +kernel
theorem dX0_passHours_114 : decode cX0_passHours 114 = .ok (.invokevirtual 112, 3) := by decide +kernel
theorem dX0_passHours_117 : decode cX0_passHours 117 = .ok (.iinc 4 1, 3) := by decide +kernel
theorem dX0_passHours_120 : decode cX0_passHours 120 = .ok (.goto (-87), 3) := by decide +kernel
theorem dX0_passHours_123 : decode cX0_passHours 123 = .ok (.iload_n 3, 1) := by decide +kernel
theorem dX0_passHours_124 : decode cX0_passHours 124 = .ok (.ireturn, 1) := by decide +kernel
set_option maxRecDepth 20000 in
theorem ggX0_spoilMealsOfThisHour_X5_size : GoodIn wsX0_spoilMealsOfThisHour wsX5_size := goodIn_r _ [11, 12, 47, 48, 49, 50] (by decide +kernel) (by decide +kernel)
set_option maxRecDepth 20000 in
theorem gX0_spoilMealsOfThisHour_X5_size : GoodIn wsX0_spoilMealsOfThisHour (wsV RX0 85 RX5 yX5_size wsX5_size) := goodIn_app (goodIn_of _ (by decide +kernel)) ggX0_spoilMealsOfThisHour_X5_size
set_option maxRecDepth 20000 in
theorem ggX0_spoilMealsOfThisHour_X5_at : GoodIn wsX0_spoilMealsOfThisHour wsX5_at := goodIn_r _ [16, 17, 18, 47, 48, 49, 50] (by decide +kernel) (by decide +kernel)
set_option maxRecDepth 20000 in
theorem gX0_spoilMealsOfThisHour_X5_at : GoodIn wsX0_spoilMealsOfThisHour (wsV RX0 82 RX5 yX5_at wsX5_at) := goodIn_app (goodIn_of _ (by decide +kernel)) ggX0_spoilMealsOfThisHour_X5_at
set_option maxRecDepth 20000 in
theorem ggX0_spoilMealsOfThisHour_X4_isCold : GoodIn wsX0_spoilMealsOfThisHour wsX4_isCold := goodIn_r _ [23, 24, 25, 14, 15, 10, 16, 17, 18, 51, 52, 53, 54, 55, 56, 47, 48, 49, 50] (by decide +kernel) (by decide +kernel)
set_option maxRecDepth 20000 in
theorem gX0_spoilMealsOfThisHour_X4_isCold : GoodIn wsX0_spoilMealsOfThisHour (wsV RX0 115 RX4 yX4_isCold wsX4_isCold) := goodIn_app (goodIn_of _ (by decide +kernel)) ggX0_spoilMealsOfThisHour_X4_isCold
set_option maxRecDepth 20000 in
theorem ggX0_spoilMealsOfThisHour_X5_store : GoodIn wsX0_spoilMealsOfThisHour wsX5_store := goodIn_r _ [29, 17, 18, 47, 48, 49, 50] (by decide +kernel) (by decide +kernel)
set_option maxRecDepth 20000 in
theorem gX0_spoilMealsOfThisHour_X5_store : GoodIn wsX0_spoilMealsOfThisHour (wsV RX0 48 RX5 yX5_store wsX5_store) := goodIn_app (goodIn_of _ (by decide +kernel)) ggX0_spoilMealsOfThisHour_X5_store
set_option maxRecDepth 20000 in
theorem ggX0_spoilMealsOfThisHour_X0_spoil : GoodIn wsX0_spoilMealsOfThisHour wsX0_spoil := goodIn_r _ [34, 1, 35, 13, 14, 15, 10, 16, 17, 18, 36, 37, 38, 39, 40, 41, 27, 28, 29, 26, 42, 43, 44, 45, 46, 47, 48, 49, 50] (by decide +kernel) (by decide +kernel)
set_option maxRecDepth 20000 in
theorem gX0_spoilMealsOfThisHour_X0_spoil : GoodIn wsX0_spoilMealsOfThisHour (wsV RX0 123 RX0 yX0_spoil wsX0_spoil) := goodIn_app (goodIn_of _ (by decide +kernel)) ggX0_spoilMealsOfThisHour_X0_spoil
theorem dX0_spoilMealsOfThisHour_0 : decode cX0_spoilMealsOfThisHour 0 = .ok (.iconst 0, 1) := by decide +kernel
theorem dX0_spoilMealsOfThisHour_1 : decode cX0_spoilMealsOfThisHour 1 = .ok (.istore_n 1, 1) := by decide +kernel
theorem dX0_spoilMealsOfThisHour_2 : decode cX0_spoilMealsOfThisHour 2 = .ok (.iconst 0, 1) := by decide +kernel
theorem dX0_spoilMealsOfThisHour_3 : decode cX0_spoilMealsOfThisHour 3 = .ok (.istore_n 2, 1) := by decide +kernel
theorem dX0_spoilMealsOfThisHour_4 : decode cX0_spoilMealsOfThisHour 4 = .ok (.iload_n 2, 1) := by decide +kernel
theorem dX0_spoilMealsOfThisHour_5 : decode cX0_spoilMealsOfThisHour 5 = .ok (.aload_n 0, 1) := by decide +kernel
theorem dX0_spoilMealsOfThisHour_6 : decode cX0_spoilMealsOfThisHour 6 = .ok (.getfield 25, 3) := by decide +kernel
theorem dX0_spoilMealsOfThisHour_9 : decode cX0_spoilMealsOfThisHour 9 = .ok (.invokevirtual 85, 3) := by decide +kernel
theorem dX0_spoilMealsOfThisHour_12 : decode cX0_spoilMealsOfThisHour 12 = .ok (.if_icmp .ge 108, 3) := by decide +kernel
theorem dX0_spoilMealsOfThisHour_15 : decode cX0_spoilMealsOfThisHour 15 = .ok (.aload_n 0, 1) := by decide +kernel
theorem dX0_spoilMealsOfThisHour_16 : decode cX0_spoilMealsOfThisHour 16 = .ok (.getfield 25, 3) := by decide +kernel
theorem dX0_spoilMealsOfThisHour_19 : decode cX0_spoilMealsOfThisHour 19 = .ok (.iload_n 2, 1) := by decide +kernel
theorem dX0_spoilMealsOfThisHour_20 : decode cX0_spoilMealsOfThisHour 20 = .ok (.iconst 0, 1) := by decide +kernel
theorem dX0_spoilMealsOfThisHour_21 : decode cX0_spoilMealsOfThisHour 21 = .ok (.invokevirtual 82, 3) := by decide +kernel
theorem dX0_spoilMealsOfThisHour_24 : decode cX0_spoilMealsOfThisHour 24 = .ok (.istore_n 3, 1) := by decide +kernel
theorem dX0_spoilMealsOfThisHour_25 : decode cX0_spoilMealsOfThisHour 25 = .ok (.iload_n 3, 1) := by decide +kernel
theorem dX0_spoilMealsOfThisHour_26 : decode cX0_spoilMealsOfThisHour 26 = .ok (.iconst 2, 1) := by decide +kernel
theorem dX0_spoilMealsOfThisHour_27 : decode cX0_spoilMealsOfThisHour 27 = .ok (.if_icmp .le 6, 3) := by decide +kernel
theorem dX0_spoilMealsOfThisHour_30 : decode cX0_spoilMealsOfThisHour 30 = .ok (.goto 84, 3) := by decide +kernel
theorem dX0_spoilMealsOfThisHour_33 : decode cX0_spoilMealsOfThisHour 33 = .ok (.iload_n 3, 1) := by decide +kernel
theorem dX0_spoilMealsOfThisHour_34 : decode cX0_spoilMealsOfThisHour 34 = .ok (.iconst 1, 1) := by decide +kernel
theorem dX0_spoilMealsOfThisHour_35 : decode cX0_spoilMealsOfThisHour 35 = .ok (.if_icmp .gt 26, 3) := by decide +kernel
theorem dX0_spoilMealsOfThisHour_38 : decode cX0_spoilMealsOfThisHour 38 = .ok (.aload_n 0, 1) := by decide +kernel
theorem dX0_spoilMealsOfThisHour_39 : decode cX0_spoilMealsOfThisHour 39 = .ok (.getfield 9, 3) := by decide +kernel
theorem dX0_spoilMealsOfThisHour_42 : decode cX0_spoilMealsOfThisHour 42 = .ok (.aload_n 0, 1) := by decide +kernel
theorem dX0_spoilMealsOfThisHour_43 : decode cX0_spoilMealsOfThisHour 43 = .ok (.getfield 25, 3) := by decide +kernel
theorem dX0_spoilMealsOfThisHour_46 : decode cX0_spoilMealsOfThisHour 46 = .ok (.iload_n 2, 1) := by decide +kernel
theorem dX0_spoilMealsOfThisHour_47 : decode cX0_spoilMealsOfThisHour 47 = .ok (.iconst 1, 1) := by decide +kernel
theorem dX0_spoilMealsOfThisHour_48 : decode cX0_spoilMealsOfThisHour 48 = .ok (.invokevirtual 82, 3) := by decide +kernel
theorem dX0_spoilMealsOfThisHour_51 : decode cX0_spoilMealsOfThisHour 51 = .ok (.invokevirtual 115, 3) := by decide +kernel
theorem dX0_spoilMealsOfThisHour_54 : decode cX0_spoilMealsOfThisHour 54 = .ok (.ifCond .eq 7, 3) := by decide +kernel
theorem dX0_spoilMealsOfThisHour_57 : decode cX0_spoilMealsOfThisHour 57 = .ok (.iconst 1, 1) := by decide +kernel
theorem dX0_spoilMealsOfThisHour_58 : decode cX0_spoilMealsOfThisHour 58 = .ok (.goto 4, 3) := by decide +kernel
theorem dX0_spoilMealsOfThisHour_61 : decode cX0_spoilMealsOfThisHour 61 = .ok (.iconst 0, 1) := by decide +kernel
theorem dX0_spoilMealsOfThisHour_62 : decode cX0_spoilMealsOfThisHour 62 = .ok (.istore 4, 2) := by decide +kernel
theorem dX0_spoilMealsOfThisHour_64 : decode cX0_spoilMealsOfThisHour 64 = .ok (.aload_n 0, 1) := by decide +kernel
theorem dX0_spoilMealsOfThisHour_65 : decode cX0_spoilMealsOfThisHour 65 = .ok (.getfield 25, 3) := by decide +kernel
theorem dX0_spoilMealsOfThisHour_68 : decode cX0_spoilMealsOfThisHour 68 = .ok (.iload_n 2, 1) := by decide +kernel
theorem dX0_spoilMealsOfThisHour_69 : decode cX0_spoilMealsOfThisHour 69 = .ok (.iconst 2, 1) := by decide +kernel
theorem dX0_spoilMealsOfThisHour_70 : decode cX0_spoilMealsOfThisHour 70 = .ok (.invokevirtual 82, 3) := by decide +kernel
theorem dX0_spoilMealsOfThisHour_73 : decode cX0_spoilMealsOfThisHour 73 = .ok (.iload 4, 2) := by decide +kernel
theorem dX0_spoilMealsOfThisHour_75 : decode cX0_spoilMealsOfThisHour 75 = .ok (.ifCond .eq 7, 3) := by decide +kernel
theorem dX0_spoilMealsOfThisHour_78 : decode cX0_spoilMealsOfThisHour 78 = .ok (.iconst 1, 1) := by decide +kernel
theorem dX0_spoilMealsOfThisHour_79 : decode cX0_spoilMealsOfThisHour 79 = .ok (.goto 4, 3) := by decide +kernel
theorem dX0_spoilMealsOfThisHour_82 : decode cX0_spoilMealsOfThisHour 82 = .ok (.iconst 2, 1) := by decide +kernel
theorem dX0_spoilMealsOfThisHour_83 : decode cX0_spoilMealsOfThisHour 83 = .ok (.isub, 1) := by decide +kernel
theorem dX0_spoilMealsOfThisHour_84 : decode cX0_spoilMealsOfThisHour 84 = .ok (.istore 5, 2) := by decide +kernel
theorem dX0_spoilMealsOfThisHour_86 : decode cX0_spoilMealsOfThisHour 86 = .ok (.aload_n 0, 1) := by decide +kernel
theorem dX0_spoilMealsOfThisHour_87 : decode cX0_spoilMealsOfThisHour 87 = .ok (.getfield 25, 3) := by decide +kernel
theorem dX0_spoilMealsOfThisHour_90 : decode cX0_spoilMealsOfThisHour 90 = .ok (.iload_n 2, 1) := by decide +kernel
theorem dX0_spoilMealsOfThisHour_91 : decode cX0_spoilMealsOfThisHour 91 = .ok (.iconst 2, 1) := by decide +kernel
theorem dX0_spoilMealsOfThisHour_92 : decode cX0_spoilMealsOfThisHour 92 = .ok (.iconst 0, 1) := by decide +kernel
theorem dX0_spoilMealsOfThisHour_93 : decode cX0_spoilMealsOfThisHour 93 = .ok (.iload 5, 2) := by decide +kernel
theorem dX0_spoilMealsOfThisHour_95 : decode cX0_spoilMealsOfThisHour 95 = .ok (.invokestatic 118, 3) := by decide +kernel
theorem dX0_spoilMealsOfThisHour_98 : decode cX0_spoilMealsOfThisHour 98 = .ok (.invokevirtual 48, 3) := by decide +kernel
theorem dX0_spoilMealsOfThisHour_101 : decode cX0_spoilMealsOfThisHour 101 = .ok (.iload 5, 2) := by decide +kernel
theorem dX0_spoilMealsOfThisHour_103 : decode cX0_spoilMealsOfThisHour 103 = .ok (.ifCond .gt 11, 3) := by decide +kernel
theorem dX0_spoilMealsOfThisHour_106 : decode cX0_spoilMealsOfThisHour 106 = .ok (.aload_n 0, 1) := by decide +kernel
theorem dX0_spoilMealsOfThisHour_107 : decode cX0_spoilMealsOfThisHour 107 = .ok (.iload_n 2, 1) := by decide +kernel
theorem dX0_spoilMealsOfThisHour_108 : decode cX0_spoilMealsOfThisHour 108 = .ok (.invokevirtual 123, 3) := by decide +kernel
theorem dX0_spoilMealsOfThisHour_111 : decode cX0_spoilMealsOfThisHour 111 = .ok (.iinc 1 1, 3) := by decide +kernel
theorem dX0_spoilMealsOfThisHour_114 : decode cX0_spoilMealsOfThisHour 114 = .ok (.iinc 2 1, 3) := by decide +kernel
theorem dX0_spoilMealsOfThisHour_117 : decode cX0_spoilMealsOfThisHour 117 = .ok (.goto (-113), 3) := by decide +kernel
theorem dX0_spoilMealsOfThisHour_120 : decode cX0_spoilMealsOfThisHour 120 = .ok (.iload_n 1, 1) := by decide +kernel
theorem dX0_spoilMealsOfThisHour_121 : decode cX0_spoilMealsOfThisHour 121 = .ok (.ireturn, 1) := by decide +kernel
set_option maxRecDepth 20000 in
theorem ggX0_spoil_X5_at : GoodIn wsX0_spoil wsX5_at := goodIn_r _ [7, 8, 9, 25, 26, 27, 28] (by decide +kernel) (by decide +kernel)
set_option maxRecDepth 20000 in
theorem gX0_spoil_X5_at : GoodIn wsX0_spoil (wsV RX0 82 RX5 yX5_at wsX5_at) := goodIn_app (goodIn_of _ (by decide +kernel)) ggX0_spoil_X5_at
set_option maxRecDepth 20000 in
theorem ggX0_spoil_X5_raise : GoodIn wsX0_spoil wsX5_raise := goodIn_r _ [13, 14, 4, 5, 6, 7, 8, 9, 15, 16, 17, 18, 25, 26, 27, 28] (by decide +kernel) (by decide +kernel)
set_option maxRecDepth 20000 in
theorem gX0_spoil_X5_raise : GoodIn wsX0_spoil (wsV RX0 60 RX5 yX5_raise wsX5_raise) := goodIn_app (goodIn_of _ (by decide +kernel)) ggX0_spoil_X5_raise
set_option maxRecDepth 20000 in
theorem ggX0_spoil_X5_store : GoodIn wsX0_spoil wsX5_store := goodIn_r _ [18, 8, 9, 25, 26, 27, 28] (by decide +kernel) (by decide +kernel)
set_option maxRecDepth 20000 in
theorem gX0_spoil_X5_store : GoodIn wsX0_spoil (wsV RX0 48 RX5 yX5_store wsX5_store) := goodIn_app (goodIn_of _ (by decide +kernel)) ggX0_spoil_X5_store
theorem dX0_spoil_0 : decode cX0_spoil 0 = .ok (.aload_n 0, 1) := by decide +kernel
theorem dX0_spoil_1 : decode cX0_spoil 1 = .ok (.getfield 25, 3) := by decide +kernel
theorem dX0_spoil_4 : decode cX0_spoil 4 = .ok (.iload_n 1, 1) := by decide +kernel
theorem dX0_spoil_5 : decode cX0_spoil 5 = .ok (.iconst 0, 1) := by decide +kernel
theorem dX0_spoil_6 : decode cX0_spoil 6 = .ok (.invokevirtual 82, 3) := by decide +kernel
theorem dX0_spoil_9 : decode cX0_spoil 9 = .ok (.iconst 1, 1) := by decide +kernel
theorem dX0_spoil_10 : decode cX0_spoil 10 = .ok (.if_icmp .gt 21, 3) := by decide +kernel
theorem dX0_spoil_13 : decode cX0_spoil 13 = .ok (.aload_n 0, 1) := by decide +kernel
theorem dX0_spoil_14 : decode cX0_spoil 14 = .ok (.getfield 21, 3) := by decide +kernel
theorem dX0_spoil_17 : decode cX0_spoil 17 = .ok (.aload_n 0, 1) := by decide +kernel
theorem dX0_spoil_18 : decode cX0_spoil 18 = .ok (.getfield 25, 3) := by decide +kernel
theorem dX0_spoil_21 : decode cX0_spoil 21 = .ok (.iload_n 1, 1) := by decide +kernel
theorem dX0_spoil_22 : decode cX0_spoil 22 = .ok (.iconst 1, 1) := by decide +kernel
theorem dX0_spoil_23 : decode cX0_spoil 23 = .ok (.invokevirtual 82, 3) := by decide +kernel
theorem dX0_spoil_26 : decode cX0_spoil 26 = .ok (.bipush 8, 2) := by decide +kernel
theorem dX0_spoil_28 : decode cX0_spoil 28 = .ok (.invokevirtual 60, 3) := by decide +kernel
theorem dX0_spoil_31 : decode cX0_spoil 31 = .ok (.aload_n 0, 1) := by decide +kernel
theorem dX0_spoil_32 : decode cX0_spoil 32 = .ok (.getfield 25, 3) := by decide +kernel
theorem dX0_spoil_35 : decode cX0_spoil 35 = .ok (.iload_n 1, 1) := by decide +kernel
theorem dX0_spoil_36 : decode cX0_spoil 36 = .ok (.iconst 0, 1) := by decide +kernel
theorem dX0_spoil_37 : decode cX0_spoil 37 = .ok (.iconst 5, 1) := by decide +kernel
theorem dX0_spoil_38 : decode cX0_spoil 38 = .ok (.invokevirtual 48, 3) := by decide +kernel
theorem dX0_spoil_41 : decode cX0_spoil 41 = .ok (.return_, 1) := by decide +kernel
set_option maxRecDepth 20000 in
theorem ggX0_walkAnHour_X5_at : GoodIn wsX0_walkAnHour wsX5_at := goodIn_r _ [7, 8, 9, 30, 31, 32, 33] (by decide +kernel) (by decide +kernel)
set_option maxRecDepth 20000 in
theorem gX0_walkAnHour_X5_at : GoodIn wsX0_walkAnHour (wsV RX0 82 RX5 yX5_at wsX5_at) := goodIn_app (goodIn_of _ (by decide +kernel)) ggX0_walkAnHour_X5_at
set_option maxRecDepth 20000 in
theorem ggX0_walkAnHour_X5_raise : GoodIn wsX0_walkAnHour wsX5_raise := goodIn_r _ [13, 14, 4, 5, 6, 7, 8, 9, 15, 16, 17, 18, 30, 31, 32, 33] (by decide +kernel) (by decide +kernel)
set_option maxRecDepth 20000 in
theorem gX0_walkAnHour_X5_raise : GoodIn wsX0_walkAnHour (wsV RX0 60 RX5 yX5_raise wsX5_raise) := goodIn_app (goodIn_of _ (by decide +kernel)) ggX0_walkAnHour_X5_raise
theorem dX0_walkAnHour_0 : decode cX0_walkAnHour 0 = .ok (.aload_n 0, 1) := by decide +kernel
theorem dX0_walkAnHour_1 : decode cX0_walkAnHour 1 = .ok (.getfield 33, 3) := by decide +kernel
