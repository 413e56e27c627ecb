theorem dX0_walkAnHour_4 : decode cX0_walkAnHour 4 = .ok (.iload_n 1, 1) := by decide +kernel
theorem dX0_walkAnHour_5 : decode cX0_walkAnHour 5 = .ok (.iconst 3, 1) := by decide +kernel
theorem dX0_walkAnHour_6 : decode cX0_walkAnHour 6 = .ok (.invokevirtual 82, 3) := by decide +kernel
theorem dX0_walkAnHour_9 : decode cX0_walkAnHour 9 = .ok (.aload_n 0, 1) := by decide +kernel
theorem dX0_walkAnHour_10 : decode cX0_walkAnHour 10 = .ok (.getfield 9, 3) := by decide +kernel
theorem dX0_walkAnHour_13 : decode cX0_walkAnHour 13 = .ok (.getfield 74, 3) := by decide +kernel
theorem dX0_walkAnHour_16 : decode cX0_walkAnHour 16 = .ok (.if_icmp .lt 12, 3) := by decide +kernel
theorem dX0_walkAnHour_19 : decode cX0_walkAnHour 19 = .ok (.aload_n 0, 1) := by decide +kernel
theorem dX0_walkAnHour_20 : decode cX0_walkAnHour 20 = .ok (.getfield 33, 3) := by decide +kernel
theorem dX0_walkAnHour_23 : decode cX0_walkAnHour 23 = .ok (.iload_n 1, 1) := by decide +kernel
theorem dX0_walkAnHour_24 : decode cX0_walkAnHour 24 = .ok (.iconst 4, 1) := by decide +kernel
theorem dX0_walkAnHour_25 : decode cX0_walkAnHour 25 = .ok (.invokevirtual 60, 3) := by decide +kernel
theorem dX0_walkAnHour_28 : decode cX0_walkAnHour 28 = .ok (.return_, 1) := by decide +kernel
set_option maxRecDepth 20000 in
theorem ggX0_lapseReservations_X5_size : GoodIn wsX0_lapseReservations wsX5_size := goodIn_r _ [7, 8, 49, 50, 51, 52] (by decide +kernel) (by decide +kernel)
set_option maxRecDepth 20000 in
theorem gX0_lapseReservations_X5_size : GoodIn wsX0_lapseReservations (wsV RX0 85 RX5 yX5_size wsX5_size) := goodIn_app (goodIn_of _ (by decide +kernel)) ggX0_lapseReservations_X5_size
set_option maxRecDepth 20000 in
theorem ggX0_lapseReservations_X5_at : GoodIn wsX0_lapseReservations wsX5_at := goodIn_r _ [12, 13, 14, 49, 50, 51, 52] (by decide +kernel) (by decide +kernel)
set_option maxRecDepth 20000 in
theorem gX0_lapseReservations_X5_at : GoodIn wsX0_lapseReservations (wsV RX0 82 RX5 yX5_at wsX5_at) := goodIn_app (goodIn_of _ (by decide +kernel)) ggX0_lapseReservations_X5_at
set_option maxRecDepth 20000 in
theorem ggX0_lapseReservations_X4_setting : GoodIn wsX0_lapseReservations wsX4_setting := goodIn_r _ [19, 20, 21, 10, 11, 6, 12, 13, 14, 43, 44, 45, 46, 47, 48, 49, 50, 51, 52] (by decide +kernel) (by decide +kernel)
set_option maxRecDepth 20000 in
theorem gX0_lapseReservations_X4_setting : GoodIn wsX0_lapseReservations (wsV RX0 126 RX4 yX4_setting wsX4_setting) := goodIn_app (goodIn_of _ (by decide +kernel)) ggX0_lapseReservations_X4_setting
set_option maxRecDepth 20000 in
theorem ggX0_lapseReservations_X5_store : GoodIn wsX0_lapseReservations wsX5_store := goodIn_r _ [25, 13, 14, 49, 50, 51, 52] (by decide +kernel) (by decide +kernel)
set_option maxRecDepth 20000 in
theorem gX0_lapseReservations_X5_store : GoodIn wsX0_lapseReservations (wsV RX0 48 RX5 yX5_store wsX5_store) := goodIn_app (goodIn_of _ (by decide +kernel)) ggX0_lapseReservations_X5_store
set_option maxRecDepth 20000 in
theorem ggX0_lapseReservations_X0_strike : GoodIn wsX0_lapseReservations wsX0_strike := goodIn_r _ [30, 31, 2, 32, 33, 34, 6, 35, 36, 10, 11, 12, 13, 14, 37, 23, 24, 25, 9, 15, 16, 17, 18, 19, 20, 21, 22, 38, 39, 40, 41, 42, 43, 44, 45, 46, 47, 48, 49, 50, 51, 52] (by decide +kernel) (by decide +kernel)
set_option maxRecDepth 20000 in
theorem gX0_lapseReservations_X0_strike : GoodIn wsX0_lapseReservations (wsV RX0 129 RX0 yX0_strike wsX0_strike) := goodIn_app (goodIn_of _ (by decide +kernel)) ggX0_lapseReservations_X0_strike
theorem dX0_lapseReservations_0 : decode cX0_lapseReservations 0 = .ok (.iconst 0, 1) := by decide +kernel
theorem dX0_lapseReservations_1 : decode cX0_lapseReservations 1 = .ok (.istore_n 1, 1) := by decide +kernel
theorem dX0_lapseReservations_2 : decode cX0_lapseReservations 2 = .ok (.iload_n 1, 1) := by decide +kernel
theorem dX0_lapseReservations_3 : decode cX0_lapseReservations 3 = .ok (.aload_n 0, 1) := by decide +kernel
theorem dX0_lapseReservations_4 : decode cX0_lapseReservations 4 = .ok (.getfield 25, 3) := by decide +kernel
theorem dX0_lapseReservations_7 : decode cX0_lapseReservations 7 = .ok (.invokevirtual 85, 3) := by decide +kernel
theorem dX0_lapseReservations_10 : decode cX0_lapseReservations 10 = .ok (.if_icmp .ge 76, 3) := by decide +kernel
theorem dX0_lapseReservations_13 : decode cX0_lapseReservations 13 = .ok (.aload_n 0, 1) := by decide +kernel
theorem dX0_lapseReservations_14 : decode cX0_lapseReservations 14 = .ok (.getfield 9, 3) := by decide +kernel
theorem dX0_lapseReservations_17 : decode cX0_lapseReservations 17 = .ok (.getfield 74, 3) := by decide +kernel
theorem dX0_lapseReservations_20 : decode cX0_lapseReservations 20 = .ok (.aload_n 0, 1) := by decide +kernel
theorem dX0_lapseReservations_21 : decode cX0_lapseReservations 21 = .ok (.getfield 25, 3) := by decide +kernel
theorem dX0_lapseReservations_24 : decode cX0_lapseReservations 24 = .ok (.iload_n 1, 1) := by decide +kernel
theorem dX0_lapseReservations_25 : decode cX0_lapseReservations 25 = .ok (.bipush 7, 2) := by decide +kernel
theorem dX0_lapseReservations_27 : decode cX0_lapseReservations 27 = .ok (.invokevirtual 82, 3) := by decide +kernel
theorem dX0_lapseReservations_30 : decode cX0_lapseReservations 30 = .ok (.isub, 1) := by decide +kernel
theorem dX0_lapseReservations_31 : decode cX0_lapseReservations 31 = .ok (.istore_n 2, 1) := by decide +kernel
theorem dX0_lapseReservations_32 : decode cX0_lapseReservations 32 = .ok (.aload_n 0, 1) := by decide +kernel
theorem dX0_lapseReservations_33 : decode cX0_lapseReservations 33 = .ok (.getfield 25, 3) := by decide +kernel
theorem dX0_lapseReservations_36 : decode cX0_lapseReservations 36 = .ok (.iload_n 1, 1) := by decide +kernel
theorem dX0_lapseReservations_37 : decode cX0_lapseReservations 37 = .ok (.iconst 0, 1) := by decide +kernel
theorem dX0_lapseReservations_38 : decode cX0_lapseReservations 38 = .ok (.invokevirtual 82, 3) := by decide +kernel
theorem dX0_lapseReservations_41 : decode cX0_lapseReservations 41 = .ok (.iconst 1, 1) := by decide +kernel
theorem dX0_lapseReservations_42 : decode cX0_lapseReservations 42 = .ok (.if_icmp .ne 38, 3) := by decide +kernel
theorem dX0_lapseReservations_45 : decode cX0_lapseReservations 45 = .ok (.iload_n 2, 1) := by decide +kernel
theorem dX0_lapseReservations_46 : decode cX0_lapseReservations 46 = .ok (.aload_n 0, 1) := by decide +kernel
theorem dX0_lapseReservations_47 : decode cX0_lapseReservations 47 = .ok (.getfield 9, 3) := by decide +kernel
theorem dX0_lapseReservations_50 : decode cX0_lapseReservations 50 = .ok (.iconst 0, 1) := by decide +kernel
theorem dX0_lapseReservations_51 : decode cX0_lapseReservations 51 = .ok (.invokevirtual 126, 3) := by decide +kernel
theorem dX0_lapseReservations_54 : decode cX0_lapseReservations 54 = .ok (.if_icmp .lt 26, 3) := by decide +kernel
theorem dX0_lapseReservations_57 : decode cX0_lapseReservations 57 = .ok (.aload_n 0, 1) := by decide +kernel
theorem dX0_lapseReservations_58 : decode cX0_lapseReservations 58 = .ok (.getfield 25, 3) := by decide +kernel
theorem dX0_lapseReservations_61 : decode cX0_lapseReservations 61 = .ok (.iload_n 1, 1) := by decide +kernel
theorem dX0_lapseReservations_62 : decode cX0_lapseReservations 62 = .ok (.iconst 0, 1) := by decide +kernel
theorem dX0_lapseReservations_63 : decode cX0_lapseReservations 63 = .ok (.iconst 0, 1) := by decide +kernel
theorem dX0_lapseReservations_64 : decode cX0_lapseReservations 64 = .ok (.invokevirtual 48, 3) := by decide +kernel
theorem dX0_lapseReservations_67 : decode cX0_lapseReservations 67 = .ok (.aload_n 0, 1) := by decide +kernel
theorem dX0_lapseReservations_68 : decode cX0_lapseReservations 68 = .ok (.aload_n 0, 1) := by decide +kernel
theorem dX0_lapseReservations_69 : decode cX0_lapseReservations 69 = .ok (.getfield 25, 3) := by decide +kernel
theorem dX0_lapseReservations_72 : decode cX0_lapseReservations 72 = .ok (.iload_n 1, 1) := by decide +kernel
theorem dX0_lapseReservations_73 : decode cX0_lapseReservations 73 = .ok (.iconst 5, 1) := by decide +kernel
theorem dX0_lapseReservations_74 : decode cX0_lapseReservations 74 = .ok (.invokevirtual 82, 3) := by decide +kernel
theorem dX0_lapseReservations_77 : decode cX0_lapseReservations 77 = .ok (.invokevirtual 129, 3) := by decide +kernel
theorem dX0_lapseReservations_80 : decode cX0_lapseReservations 80 = .ok (.iinc 1 1, 3) := by decide +kernel
theorem dX0_lapseReservations_83 : decode cX0_lapseReservations 83 = .ok (.goto (-81), 3) := by decide +kernel
theorem dX0_lapseReservations_86 : decode cX0_lapseReservations 86 = .ok (.return_, 1) := by decide +kernel
set_option maxRecDepth 20000 in
theorem ggX0_strike_X5_raise : GoodIn wsX0_strike wsX5_raise := goodIn_r _ [7, 8, 9, 10, 6, 11, 12, 13, 14, 15, 16, 17, 38, 39, 40, 41] (by decide +kernel) (by decide +kernel)
set_option maxRecDepth 20000 in
theorem gX0_strike_X5_raise : GoodIn wsX0_strike (wsV RX0 60 RX5 yX5_raise wsX5_raise) := goodIn_app (goodIn_of _ (by decide +kernel)) ggX0_strike_X5_raise
set_option maxRecDepth 20000 in
theorem ggX0_strike_X5_at : GoodIn wsX0_strike wsX5_at := goodIn_r _ [11, 12, 13, 38, 39, 40, 41] (by decide +kernel) (by decide +kernel)
set_option maxRecDepth 20000 in
theorem gX0_strike_X5_at : GoodIn wsX0_strike (wsV RX0 82 RX5 yX5_at wsX5_at) := goodIn_app (goodIn_of _ (by decide +kernel)) ggX0_strike_X5_at
set_option maxRecDepth 20000 in
theorem ggX0_strike_X4_setting : GoodIn wsX0_strike wsX4_setting := goodIn_r _ [23, 24, 25, 9, 10, 6, 11, 12, 13, 32, 33, 34, 35, 36, 37, 38, 39, 40, 41] (by decide +kernel) (by decide +kernel)
set_option maxRecDepth 20000 in
theorem gX0_strike_X4_setting : GoodIn wsX0_strike (wsV RX0 126 RX4 yX4_setting wsX4_setting) := goodIn_app (goodIn_of _ (by decide +kernel)) ggX0_strike_X4_setting
set_option maxRecDepth 20000 in
theorem ggX0_strike_X5_store : GoodIn wsX0_strike wsX5_store := goodIn_r _ [17, 12, 13, 38, 39, 40, 41] (by decide +kernel) (by decide +kernel)
set_option maxRecDepth 20000 in
theorem gX0_strike_X5_store : GoodIn wsX0_strike (wsV RX0 48 RX5 yX5_store wsX5_store) := goodIn_app (goodIn_of _ (by decide +kernel)) ggX0_strike_X5_store
theorem dX0_strike_0 : decode cX0_strike 0 = .ok (.aload_n 0, 1) := by decide +kernel
theorem dX0_strike_1 : decode cX0_strike 1 = .ok (.getfield 29, 3) := by decide +kernel
theorem dX0_strike_4 : decode cX0_strike 4 = .ok (.iload_n 1, 1) := by decide +kernel
theorem dX0_strike_5 : decode cX0_strike 5 = .ok (.iconst 5, 1) := by decide +kernel
theorem dX0_strike_6 : decode cX0_strike 6 = .ok (.invokevirtual 60, 3) := by decide +kernel
theorem dX0_strike_9 : decode cX0_strike 9 = .ok (.aload_n 0, 1) := by decide +kernel
theorem dX0_strike_10 : decode cX0_strike 10 = .ok (.getfield 29, 3) := by decide +kernel
theorem dX0_strike_13 : decode cX0_strike 13 = .ok (.iload_n 1, 1) := by decide +kernel
theorem dX0_strike_14 : decode cX0_strike 14 = .ok (.iconst 1, 1) := by decide +kernel
theorem dX0_strike_15 : decode cX0_strike 15 = .ok (.invokevirtual 60, 3) := by decide +kernel
theorem dX0_strike_18 : decode cX0_strike 18 = .ok (.aload_n 0, 1) := by decide +kernel
theorem dX0_strike_19 : decode cX0_strike 19 = .ok (.getfield 29, 3) := by decide +kernel
theorem dX0_strike_22 : decode cX0_strike 22 = .ok (.iload_n 1, 1) := by decide +kernel
theorem dX0_strike_23 : decode cX0_strike 23 = .ok (.iconst 1, 1) := by decide +kernel
theorem dX0_strike_24 : decode cX0_strike 24 = .ok (.invokevirtual 82, 3) := by decide +kernel
theorem dX0_strike_27 : decode cX0_strike 27 = .ok (.aload_n 0, 1) := by decide +kernel
theorem dX0_strike_28 : decode cX0_strike 28 = .ok (.getfield 9, 3) := by decide +kernel
theorem dX0_strike_31 : decode cX0_strike 31 = .ok (.iconst 1, 1) := by decide +kernel
theorem dX0_strike_32 : decode cX0_strike 32 = .ok (.invokevirtual 126, 3) := by decide +kernel
theorem dX0_strike_35 : decode cX0_strike 35 = .ok (.if_icmp .lt 38, 3) := by decide +kernel
theorem dX0_strike_38 : decode cX0_strike 38 = .ok (.aload_n 0, 1) := by decide +kernel
theorem dX0_strike_39 : decode cX0_strike 39 = .ok (.getfield 29, 3) := by decide +kernel
theorem dX0_strike_42 : decode cX0_strike 42 = .ok (.iload_n 1, 1) := by decide +kernel
theorem dX0_strike_43 : decode cX0_strike 43 = .ok (.iconst 1, 1) := by decide +kernel
theorem dX0_strike_44 : decode cX0_strike 44 = .ok (.iconst 0, 1) := by decide +kernel
theorem dX0_strike_45 : decode cX0_strike 45 = .ok (.invokevirtual 48, 3) := by decide +kernel
theorem dX0_strike_48 : decode cX0_strike 48 = .ok (.aload_n 0, 1) := by decide +kernel
theorem dX0_strike_49 : decode cX0_strike 49 = .ok (.getfield 29, 3) := by decide +kernel
theorem dX0_strike_52 : decode cX0_strike 52 = .ok (.iload_n 1, 1) := by decide +kernel
theorem dX0_strike_53 : decode cX0_strike 53 = .ok (.iconst 2, 1) := by decide +kernel
theorem dX0_strike_54 : decode cX0_strike 54 = .ok (.aload_n 0, 1) := by decide +kernel
theorem dX0_strike_55 : decode cX0_strike 55 = .ok (.getfield 9, 3) := by decide +kernel
theorem dX0_strike_58 : decode cX0_strike 58 = .ok (.getfield 74, 3) := by decide +kernel
theorem dX0_strike_61 : decode cX0_strike 61 = .ok (.aload_n 0, 1) := by decide +kernel
theorem dX0_strike_62 : decode cX0_strike 62 = .ok (.getfield 9, 3) := by decide +kernel
theorem dX0_strike_65 : decode cX0_strike 65 = .ok (.iconst 2, 1) := by decide +kernel
theorem dX0_strike_66 : decode cX0_strike 66 = .ok (.invokevirtual 126, 3) := by decide +kernel
theorem dX0_strike_69 : decode cX0_strike 69 = .ok (.iadd, 1) := by decide +kernel
theorem dX0_strike_70 : decode cX0_strike 70 = .ok (.invokevirtual 48, 3) := by decide +kernel
theorem dX0_strike_73 : decode cX0_strike 73 = .ok (.return_, 1) := by decide +kernel
set_option maxRecDepth 20000 in
theorem ggX0_changeSetting_X7_isWithin : GoodIn wsX0_changeSetting wsX7_isWithin := goodIn_r _ [4] (by decide +kernel) (by decide +kernel)
set_option maxRecDepth 20000 in
theorem gX0_changeSetting_X7_isWithin_n34 : GoodIn wsX0_changeSetting (wsX7_isWithin) := ggX0_changeSetting_X7_isWithin
set_option maxRecDepth 20000 in
theorem ggX0_changeSetting_X4_setting : GoodIn wsX0_changeSetting wsX4_setting := goodIn_r _ [9, 10, 11, 12, 13, 14, 15, 16, 17, 27, 28, 29, 30, 31, 32, 33, 34, 35, 36] (by decide +kernel) (by decide +kernel)
set_option maxRecDepth 20000 in
theorem gX0_changeSetting_X4_setting : GoodIn wsX0_changeSetting (wsV RX0 126 RX4 yX4_setting wsX4_setting) := goodIn_app (goodIn_of _ (by decide +kernel)) ggX0_changeSetting_X4_setting
set_option maxRecDepth 20000 in
theorem ggX0_changeSetting_X5_store : GoodIn wsX0_changeSetting wsX5_store := goodIn_r _ [21, 16, 17, 33, 34, 35, 36] (by decide +kernel) (by decide +kernel)
set_option maxRecDepth 20000 in
theorem gX0_changeSetting_X5_store : GoodIn wsX0_changeSetting (wsV RX0 48 RX5 yX5_store wsX5_store) := goodIn_app (goodIn_of _ (by decide +kernel)) ggX0_changeSetting_X5_store
theorem dX0_changeSetting_0 : decode cX0_changeSetting 0 = .ok (.iload_n 1, 1) := by decide +kernel
theorem dX0_changeSetting_1 : decode cX0_changeSetting 1 = .ok (.ifCond .lt 11, 3) := by decide +kernel
theorem dX0_changeSetting_4 : decode cX0_changeSetting 4 = .ok (.iload_n 1, 1) := by decide +kernel
theorem dX0_changeSetting_5 : decode cX0_changeSetting 5 = .ok (.getstatic 132, 3) := by decide +kernel
theorem dX0_changeSetting_8 : decode cX0_changeSetting 8 = .ok (.arraylength, 1) := by decide +kernel
theorem dX0_changeSetting_9 : decode cX0_changeSetting 9 = .ok (.if_icmp .lt 5, 3) := by decide +kernel
theorem dX0_changeSetting_12 : decode cX0_changeSetting 12 = .ok (.iconst (-1), 1) := by decide +kernel
theorem dX0_changeSetting_13 : decode cX0_changeSetting 13 = .ok (.ireturn, 1) := by decide +kernel
theorem dX0_changeSetting_14 : decode cX0_changeSetting 14 = .ok (.iload_n 2, 1) := by decide +kernel
theorem dX0_changeSetting_15 : decode cX0_changeSetting 15 = .ok (.iconst 1, 1) := by decide +kernel
theorem dX0_changeSetting_16 : decode cX0_changeSetting 16 = .ok (.getstatic 132, 3) := by decide +kernel
theorem dX0_changeSetting_19 : decode cX0_changeSetting 19 = .ok (.iload_n 1, 1) := by decide +kernel
theorem dX0_changeSetting_20 : decode cX0_changeSetting 20 = .ok (.iaload, 1) := by decide +kernel
theorem dX0_changeSetting_21 : decode cX0_changeSetting 21 = .ok (.invokestatic 34, 3) := by decide +kernel
theorem dX0_changeSetting_24 : decode cX0_changeSetting 24 = .ok (.ifCond .ne 5, 3) := by decide +kernel
theorem dX0_changeSetting_27 : decode cX0_changeSetting 27 = .ok (.iconst (-1), 1) := by decide +kernel
theorem dX0_changeSetting_28 : decode cX0_changeSetting 28 = .ok (.ireturn, 1) := by decide +kernel
theorem dX0_changeSetting_29 : decode cX0_changeSetting 29 = .ok (.aload_n 0, 1) := by decide +kernel
theorem dX0_changeSetting_30 : decode cX0_changeSetting 30 = .ok (.getfield 9, 3) := by decide +kernel
theorem dX0_changeSetting_33 : decode cX0_changeSetting 33 = .ok (.iload_n 1, 1) := by decide +kernel
theorem dX0_changeSetting_34 : decode cX0_changeSetting 34 = .ok (.invokevirtual 126, 3) := by decide +kernel
theorem dX0_changeSetting_37 : decode cX0_changeSetting 37 = .ok (.istore_n 3, 1) := by decide +kernel
theorem dX0_changeSetting_38 : decode cX0_changeSetting 38 = .ok (.aload_n 0, 1) := by decide +kernel
theorem dX0_changeSetting_39 : decode cX0_changeSetting 39 = .ok (.getfield 9, 3) := by decide +kernel
theorem dX0_changeSetting_42 : decode cX0_changeSetting 42 = .ok (.getfield 136, 3) := by decide +kernel
theorem dX0_changeSetting_45 : decode cX0_changeSetting 45 = .ok (.iload_n 1, 1) := by decide +kernel
theorem dX0_changeSetting_46 : decode cX0_changeSetting 46 = .ok (.iconst 0, 1) := by decide +kernel
theorem dX0_changeSetting_47 : decode cX0_changeSetting 47 = .ok (.iload_n 2, 1) := by decide +kernel
theorem dX0_changeSetting_48 : decode cX0_changeSetting 48 = .ok (.invokevirtual 48, 3) := by decide +kernel
theorem dX0_changeSetting_51 : decode cX0_changeSetting 51 = .ok (.iload_n 3, 1) := by decide +kernel
theorem dX0_changeSetting_52 : decode cX0_changeSetting 52 = .ok (.ireturn, 1) := by decide +kernel
set_option maxRecDepth 20000 in
theorem ggX1_init_X4_init : GoodIn wsX1_init wsX4_init := goodIn_r _ [10, 11, 2, 3, 12, 13, 14, 15, 16, 17, 18, 19, 20, 21, 22, 23, 24, 25, 26, 27, 28, 29, 30, 31, 32, 33, 34, 35, 36, 37, 38, 39, 40, 50, 51, 52, 53, 44, 45, 46, 47, 48, 49] (by decide +kernel) (by decide +kernel)
set_option maxRecDepth 20000 in
theorem gX1_init_X4_init : GoodIn wsX1_init (wsX4_init) := ggX1_init_X4_init
theorem dX1_init_0 : decode cX1_init 0 = .ok (.aload_n 0, 1) := by decide +kernel
theorem dX1_init_1 : decode cX1_init 1 = .ok (.invokespecial 3, 3) := by decide +kernel
theorem dX1_init_4 : decode cX1_init 4 = .ok (.aload_n 0, 1) := by decide +kernel
theorem dX1_init_5 : decode cX1_init 5 = .ok (.iconst 4, 1) := by decide +kernel
theorem dX1_init_6 : decode cX1_init 6 = .ok (.anewarray 9, 3) := by decide +kernel
theorem dX1_init_9 : decode cX1_init 9 = .ok (.putfield 11, 3) := by decide +kernel
theorem dX1_init_12 : decode cX1_init 12 = .ok (.iconst 0, 1) := by decide +kernel
theorem dX1_init_13 : decode cX1_init 13 = .ok (.istore_n 1, 1) := by decide +kernel
theorem dX1_init_14 : decode cX1_init 14 = .ok (.iload_n 1, 1) := by decide +kernel
theorem dX1_init_15 : decode cX1_init 15 = .ok (.aload_n 0, 1) := by decide +kernel
theorem dX1_init_16 : decode cX1_init 16 = .ok (.getfield 11, 3) := by decide +kernel
theorem dX1_init_19 : decode cX1_init 19 = .ok (.arraylength, 1) := by decide +kernel
theorem dX1_init_20 : decode cX1_init 20 = .ok (.if_icmp .ge 22, 3) := by decide +kernel
theorem dX1_init_23 : decode cX1_init 23 = .ok (.aload_n 0, 1) := by decide +kernel
theorem dX1_init_24 : decode cX1_init 24 = .ok (.getfield 11, 3) := by decide +kernel
theorem dX1_init_27 : decode cX1_init 27 = .ok (.iload_n 1, 1) := by decide +kernel
theorem dX1_init_28 : decode cX1_init 28 = .ok (.new 9, 3) := by decide +kernel
theorem dX1_init_31 : decode cX1_init 31 = .ok (.dup, 1) := by decide +kernel
theorem dX1_init_32 : decode cX1_init 32 = .ok (.invokespecial 17, 3) := by decide +kernel
theorem dX1_init_35 : decode cX1_init 35 = .ok (.aastore, 1) := by decide +kernel
theorem dX1_init_36 : decode cX1_init 36 = .ok (.iinc 1 1, 3) := by decide +kernel
theorem dX1_init_39 : decode cX1_init 39 = .ok (.goto (-25), 3) := by decide +kernel
theorem dX1_init_42 : decode cX1_init 42 = .ok (.return_, 1) := by decide +kernel
theorem dX1_size_0 : decode cX1_size 0 = .ok (.aload_n 0, 1) := by decide +kernel
theorem dX1_size_1 : decode cX1_size 1 = .ok (.getfield 18, 3) := by decide +kernel
theorem dX1_size_4 : decode cX1_size 4 = .ok (.ireturn, 1) := by decide +kernel
set_option maxRecDepth 20000 in
theorem ggX1_keep_X1_slotAt : GoodIn wsX1_keep wsX1_slotAt := goodIn_r _ [7, 2, 8, 27, 28, 29] (by decide +kernel) (by decide +kernel)
set_option maxRecDepth 20000 in
theorem gX1_keep_X1_slotAt : GoodIn wsX1_keep (wsV RX1 25 RX1 yX1_slotAt wsX1_slotAt) := goodIn_app (goodIn_of _ (by decide +kernel)) ggX1_keep_X1_slotAt
set_option maxRecDepth 20000 in
theorem ggX1_keep_X4_copyFrom : GoodIn wsX1_keep wsX4_copyFrom := goodIn_r _ [13, 14, 15, 16, 17, 18, 19, 20, 21, 22, 23, 24, 25, 26, 30, 31, 32, 33, 34, 35, 36, 37, 38, 39] (by decide +kernel) (by decide +kernel)
set_option maxRecDepth 20000 in
theorem gX1_keep_X4_copyFrom : GoodIn wsX1_keep (wsV RX1 29 RX4 yX4_copyFrom wsX4_copyFrom) := goodIn_app (goodIn_of _ (by decide +kernel)) ggX1_keep_X4_copyFrom
theorem dX1_keep_0 : decode cX1_keep 0 = .ok (.aload_n 0, 1) := by decide +kernel
theorem dX1_keep_1 : decode cX1_keep 1 = .ok (.getfield 18, 3) := by decide +kernel
theorem dX1_keep_4 : decode cX1_keep 4 = .ok (.iconst 4, 1) := by decide +kernel
theorem dX1_keep_5 : decode cX1_keep 5 = .ok (.if_icmp .lt 25, 3) := by decide +kernel
theorem dX1_keep_8 : decode cX1_keep 8 = .ok (.aload_n 0, 1) := by decide +kernel
theorem dX1_keep_9 : decode cX1_keep 9 = .ok (.aload_n 0, 1) := by decide +kernel
theorem dX1_keep_10 : decode cX1_keep 10 = .ok (.getfield 22, 3) := by decide +kernel
theorem dX1_keep_13 : decode cX1_keep 13 = .ok (.iconst 1, 1) := by decide +kernel
theorem dX1_keep_14 : decode cX1_keep 14 = .ok (.iadd, 1) := by decide +kernel
theorem dX1_keep_15 : decode cX1_keep 15 = .ok (.iconst 4, 1) := by decide +kernel
theorem dX1_keep_16 : decode cX1_keep 16 = .ok (.irem, 1) := by decide +kernel
theorem dX1_keep_17 : decode cX1_keep 17 = .ok (.putfield 22, 3) := by decide +kernel
theorem dX1_keep_20 : decode cX1_keep 20 = .ok (.aload_n 0, 1) := by decide +kernel
theorem dX1_keep_21 : decode cX1_keep 21 = .ok (.dup, 1) := by decide +kernel
theorem dX1_keep_22 : decode cX1_keep 22 = .ok (.getfield 18, 3) := by decide +kernel
theorem dX1_keep_25 : decode cX1_keep 25 = .ok (.iconst 1, 1) := by decide +kernel
theorem dX1_keep_26 : decode cX1_keep 26 = .ok (.isub, 1) := by decide +kernel
theorem dX1_keep_27 : decode cX1_keep 27 = .ok (.putfield 18, 3) := by decide +kernel
theorem dX1_keep_30 : decode cX1_keep 30 = .ok (.aload_n 0, 1) := by decide +kernel
theorem dX1_keep_31 : decode cX1_keep 31 = .ok (.aload_n 0, 1) := by decide +kernel
theorem dX1_keep_32 : decode cX1_keep 32 = .ok (.getfield 18, 3) := by decide +kernel
theorem dX1_keep_35 : decode cX1_keep 35 = .ok (.invokevirtual 25, 3) := by decide +kernel
theorem dX1_keep_38 : decode cX1_keep 38 = .ok (.astore_n 2, 1) := by decide +kernel
theorem dX1_keep_39 : decode cX1_keep 39 = .ok (.aload_n 2, 1) := by decide +kernel
theorem dX1_keep_40 : decode cX1_keep 40 = .ok (.ifnull 18, 3) := by decide +kernel
theorem dX1_keep_43 : decode cX1_keep 43 = .ok (.aload_n 2, 1) := by decide +kernel
theorem dX1_keep_44 : decode cX1_keep 44 = .ok (.aload_n 1, 1) := by decide +kernel
theorem dX1_keep_45 : decode cX1_keep 45 = .ok (.invokevirtual 29, 3) := by decide +kernel
theorem dX1_keep_48 : decode cX1_keep 48 = .ok (.aload_n 0, 1) := by decide +kernel
theorem dX1_keep_49 : decode cX1_keep 49 = .ok (.dup, 1) := by decide +kernel
theorem dX1_keep_50 : decode cX1_keep 50 = .ok (.getfield 18, 3) := by decide +kernel
theorem dX1_keep_53 : decode cX1_keep 53 = .ok (.iconst 1, 1) := by decide +kernel
theorem dX1_keep_54 : decode cX1_keep 54 = .ok (.iadd, 1) := by decide +kernel
theorem dX1_keep_55 : decode cX1_keep 55 = .ok (.putfield 18, 3) := by decide +kernel
theorem dX1_keep_58 : decode cX1_keep 58 = .ok (.return_, 1) := by decide +kernel
set_option maxRecDepth 20000 in
theorem ggX1_restoreLatest_X1_slotAt : GoodIn wsX1_restoreLatest wsX1_slotAt := goodIn_r _ [6, 7, 8, 27, 28, 29] (by decide +kernel) (by decide +kernel)
set_option maxRecDepth 20000 in
theorem gX1_restoreLatest_X1_slotAt : GoodIn wsX1_restoreLatest (wsV RX1 25 RX1 yX1_slotAt wsX1_slotAt) := goodIn_app (goodIn_of _ (by decide +kernel)) ggX1_restoreLatest_X1_slotAt
set_option maxRecDepth 20000 in
theorem ggX1_restoreLatest_X4_copyFrom : GoodIn wsX1_restoreLatest wsX4_copyFrom := goodIn_r _ [13, 14, 15, 16, 17, 18, 19, 20, 21, 22, 23, 24, 25, 26, 30, 31, 32, 33, 34, 35, 36, 37, 38, 39] (by decide +kernel) (by decide +kernel)
set_option maxRecDepth 20000 in
theorem gX1_restoreLatest_X4_copyFrom : GoodIn wsX1_restoreLatest (wsV RX1 29 RX4 yX4_copyFrom wsX4_copyFrom) := goodIn_app (goodIn_of _ (by decide +kernel)) ggX1_restoreLatest_X4_copyFrom
theorem dX1_restoreLatest_0 : decode cX1_restoreLatest 0 = .ok (.aload_n 0, 1) := by decide +kernel
theorem dX1_restoreLatest_1 : decode cX1_restoreLatest 1 = .ok (.getfield 18, 3) := by decide +kernel
theorem dX1_restoreLatest_4 : decode cX1_restoreLatest 4 = .ok (.ifCond .le 16, 3) := by decide +kernel
theorem dX1_restoreLatest_7 : decode cX1_restoreLatest 7 = .ok (.aload_n 0, 1) := by decide +kernel
theorem dX1_restoreLatest_8 : decode cX1_restoreLatest 8 = .ok (.aload_n 0, 1) := by decide +kernel
theorem dX1_restoreLatest_9 : decode cX1_restoreLatest 9 = .ok (.getfield 18, 3) := by decide +kernel
theorem dX1_restoreLatest_12 : decode cX1_restoreLatest 12 = .ok (.iconst 1, 1) := by decide +kernel
theorem dX1_restoreLatest_13 : decode cX1_restoreLatest 13 = .ok (.isub, 1) := by decide +kernel
theorem dX1_restoreLatest_14 : decode cX1_restoreLatest 14 = .ok (.invokevirtual 25, 3) := by decide +kernel
theorem dX1_restoreLatest_17 : decode cX1_restoreLatest 17 = .ok (.goto 4, 3) := by decide +kernel
theorem dX1_restoreLatest_20 : decode cX1_restoreLatest 20 = .ok (.aconst_null, 1) := by decide +kernel
theorem dX1_restoreLatest_21 : decode cX1_restoreLatest 21 = .ok (.astore_n 2, 1) := by decide +kernel
theorem dX1_restoreLatest_22 : decode cX1_restoreLatest 22 = .ok (.aload_n 2, 1) := by decide +kernel
theorem dX1_restoreLatest_23 : decode cX1_restoreLatest 23 = .ok (.ifnonnull 6, 3) := by decide +kernel
theorem dX1_restoreLatest_26 : decode cX1_restoreLatest 26 = .ok (.bipush (-2), 2) := by decide +kernel
theorem dX1_restoreLatest_28 : decode cX1_restoreLatest 28 = .ok (.ireturn, 1) := by decide +kernel
theorem dX1_restoreLatest_29 : decode cX1_restoreLatest 29 = .ok (.aload_n 1, 1) := by decide +kernel
theorem dX1_restoreLatest_30 : decode cX1_restoreLatest 30 = .ok (.aload_n 2, 1) := by decide +kernel
theorem dX1_restoreLatest_31 : decode cX1_restoreLatest 31 = .ok (.invokevirtual 29, 3) := by decide +kernel
theorem dX1_restoreLatest_34 : decode cX1_restoreLatest 34 = .ok (.aload_n 0, 1) := by decide +kernel
theorem dX1_restoreLatest_35 : decode cX1_restoreLatest 35 = .ok (.dup, 1) := by decide +kernel
theorem dX1_restoreLatest_36 : decode cX1_restoreLatest 36 = .ok (.getfield 18, 3) := by decide +kernel
theorem dX1_restoreLatest_39 : decode cX1_restoreLatest 39 = .ok (.iconst 1, 1) := by decide +kernel
theorem dX1_restoreLatest_40 : decode cX1_restoreLatest 40 = .ok (.isub, 1) := by decide +kernel
theorem dX1_restoreLatest_41 : decode cX1_restoreLatest 41 = .ok (.putfield 18, 3) := by decide +kernel
theorem dX1_restoreLatest_44 : decode cX1_restoreLatest 44 = .ok (.aload_n 0, 1) := by decide +kernel
theorem dX1_restoreLatest_45 : decode cX1_restoreLatest 45 = .ok (.getfield 18, 3) := by decide +kernel
theorem dX1_restoreLatest_48 : decode cX1_restoreLatest 48 = .ok (.ireturn, 1) := by decide +kernel
theorem dX1_slotAt_0 : decode cX1_slotAt 0 = .ok (.aload_n 0, 1) := by decide +kernel
theorem dX1_slotAt_1 : decode cX1_slotAt 1 = .ok (.getfield 22, 3) := by decide +kernel
theorem dX1_slotAt_4 : decode cX1_slotAt 4 = .ok (.iload_n 1, 1) := by decide +kernel
theorem dX1_slotAt_5 : decode cX1_slotAt 5 = .ok (.iadd, 1) := by decide +kernel
theorem dX1_slotAt_6 : decode cX1_slotAt 6 = .ok (.iconst 4, 1) := by decide +kernel
theorem dX1_slotAt_7 : decode cX1_slotAt 7 = .ok (.irem, 1) := by decide +kernel
theorem dX1_slotAt_8 : decode cX1_slotAt 8 = .ok (.istore_n 2, 1) := by decide +kernel
theorem dX1_slotAt_9 : decode cX1_slotAt 9 = .ok (.iload_n 2, 1) := by decide +kernel
theorem dX1_slotAt_10 : decode cX1_slotAt 10 = .ok (.ifCond .lt 21, 3) := by decide +kernel
theorem dX1_slotAt_13 : decode cX1_slotAt 13 = .ok (.iload_n 2, 1) := by decide +kernel
theorem dX1_slotAt_14 : decode cX1_slotAt 14 = .ok (.aload_n 0, 1) := by decide +kernel
theorem dX1_slotAt_15 : decode cX1_slotAt 15 = .ok (.getfield 11, 3) := by decide +kernel
theorem dX1_slotAt_18 : decode cX1_slotAt 18 = .ok (.arraylength, 1) := by decide +kernel
theorem dX1_slotAt_19 : decode cX1_slotAt 19 = .ok (.if_icmp .ge 12, 3) := by decide +kernel
theorem dX1_slotAt_22 : decode cX1_slotAt 22 = .ok (.aload_n 0, 1) := by decide +kernel
theorem dX1_slotAt_23 : decode cX1_slotAt 23 = .ok (.getfield 11, 3) := by decide +kernel
theorem dX1_slotAt_26 : decode cX1_slotAt 26 = .ok (.iload_n 2, 1) := by decide +kernel
theorem dX1_slotAt_27 : decode cX1_slotAt 27 = .ok (.aaload, 1) := by decide +kernel
theorem dX1_slotAt_28 : decode cX1_slotAt 28 = .ok (.goto 4, 3) := by decide +kernel
theorem dX1_slotAt_31 : decode cX1_slotAt 31 = .ok (.aconst_null, 1) := by decide +kernel
theorem dX1_slotAt_32 : decode cX1_slotAt 32 = .ok (.areturn, 1) := by decide +kernel
theorem dX2_init_0 : decode cX2_init 0 = .ok (.aload_n 0, 1) := by decide +kernel
theorem dX2_init_1 : decode cX2_init 1 = .ok (.invokespecial 3, 3) := by decide +kernel
theorem dX2_init_4 : decode cX2_init 4 = .ok (.aload_n 0, 1) := by decide +kernel
theorem dX2_init_5 : decode cX2_init 5 = .ok (.aload_n 1, 1) := by decide +kernel
theorem dX2_init_6 : decode cX2_init 6 = .ok (.putfield 9, 3) := by decide +kernel
theorem dX2_init_9 : decode cX2_init 9 = .ok (.return_, 1) := by decide +kernel
set_option maxRecDepth 20000 in
theorem ggX2_playText_X6_length : GoodIn wsX2_playText wsX6_length := goodIn_r _ [8, 9, 199, 200, 201, 202, 203, 204, 205] (by decide +kernel) (by decide +kernel)
set_option maxRecDepth 20000 in
theorem gX2_playText_X6_length : GoodIn wsX2_playText (wsV RX2 22 RX6 yX6_length wsX6_length) := goodIn_app (goodIn_of _ (by decide +kernel)) ggX2_playText_X6_length
set_option maxRecDepth 20000 in
theorem ggX2_playText_X6_readCommand : GoodIn wsX2_playText wsX6_readCommand := goodIn_r _ [13, 14, 15, 16, 17, 18, 19, 20, 21, 7, 22, 9, 23, 24, 25, 26, 27, 28, 29, 30, 31, 32, 33, 34, 35, 36, 37, 199, 200, 201, 202, 203, 204, 205] (by decide +kernel) (by decide +kernel)
set_option maxRecDepth 20000 in
theorem gX2_playText_X6_readCommand : GoodIn wsX2_playText (wsV RX2 28 RX6 yX6_readCommand wsX6_readCommand) := goodIn_app (goodIn_of _ (by decide +kernel)) ggX2_playText_X6_readCommand
set_option maxRecDepth 20000 in
theorem ggX2_playText_X2_doCommand : GoodIn wsX2_playText wsX2_doCommand := goodIn_r _ [42, 3, 43, 44, 45, 46, 47, 48, 49, 50, 51, 52, 53, 54, 55, 56, 57, 58, 59, 60, 61, 62, 63, 64, 65, 66, 67, 68, 69, 70, 71, 72, 73, 74, 75, 76, 77, 78, 79, 80, 81, 82, 83, 84, 85, 86, 87, 88, 89, 90, 91, 92, 93, 94, 95, 31, 32, 33, 96, 97, 98, 99, 100, 101, 102, 103, 104, 105, 106, 107, 108, 109, 110, 111, 112, 113, 114, 115, 116, 117, 118, 119, 120, 121, 122, 123, 124, 125, 126, 127, 128, 129, 130, 131, 132, 133, 134, 135, 136, 137, 138, 139, 140, 141, 142, 143, 144, 145, 146, 147, 148, 149, 150, 151, 152, 153, 154, 155, 156, 157, 158, 159, 160, 161, 162, 163, 164, 165, 166, 167, 168, 169, 170, 171, 172, 173, 174, 175, 176, 177, 178, 179, 180, 181, 182, 183, 184, 185, 186, 187, 188, 189, 190, 191, 192, 196, 197, 198, 199, 200, 201, 202, 203, 204, 205, 206, 207, 208, 209, 210, 211, 212, 213, 214, 215, 216, 217, 218, 219, 220] (by decide +kernel) (by decide +kernel)
set_option maxRecDepth 20000 in
theorem gX2_playText_X2_doCommand : GoodIn wsX2_playText (wsV RX2 32 RX2 yX2_doCommand wsX2_doCommand) := goodIn_app (goodIn_of _ (by decide +kernel)) ggX2_playText_X2_doCommand
set_option maxRecDepth 20000 in
theorem ggX2_playText_X2_reasonOf : GoodIn wsX2_playText wsX2_reasonOf := goodIn_r _ [195] (by decide +kernel) (by decide +kernel)
set_option maxRecDepth 20000 in
theorem gX2_playText_X2_reasonOf : GoodIn wsX2_playText (va_wsS RX2 36 yX2_reasonOf wsX2_reasonOf) := goodIn_app (goodIn_of _ (by decide +kernel)) ggX2_playText_X2_reasonOf
theorem dX2_playText_0 : decode cX2_playText 0 = .ok (.iconst 0, 1) := by decide +kernel
theorem dX2_playText_1 : decode cX2_playText 1 = .ok (.istore_n 2, 1) := by decide +kernel
theorem dX2_playText_2 : decode cX2_playText 2 = .ok (.aload_n 0, 1) := by decide +kernel
theorem dX2_playText_3 : decode cX2_playText 3 = .ok (.iconst 0, 1) := by decide +kernel
theorem dX2_playText_4 : decode cX2_playText 4 = .ok (.putfield 15, 3) := by decide +kernel
theorem dX2_playText_7 : decode cX2_playText 7 = .ok (.aload_n 0, 1) := by decide +kernel
theorem dX2_playText_8 : decode cX2_playText 8 = .ok (.iconst 0, 1) := by decide +kernel
theorem dX2_playText_9 : decode cX2_playText 9 = .ok (.putfield 19, 3) := by decide +kernel
theorem dX2_playText_12 : decode cX2_playText 12 = .ok (.iload_n 2, 1) := by decide +kernel
theorem dX2_playText_13 : decode cX2_playText 13 = .ok (.bipush 60, 2) := by decide +kernel
theorem dX2_playText_15 : decode cX2_playText 15 = .ok (.if_icmp .ge 74, 3) := by decide +kernel
theorem dX2_playText_18 : decode cX2_playText 18 = .ok (.aload_n 0, 1) := by decide +kernel
theorem dX2_playText_19 : decode cX2_playText 19 = .ok (.getfield 15, 3) := by decide +kernel
theorem dX2_playText_22 : decode cX2_playText 22 = .ok (.aload_n 0, 1) := by decide +kernel
theorem dX2_playText_23 : decode cX2_playText 23 = .ok (.getfield 9, 3) := by decide +kernel
theorem dX2_playText_26 : decode cX2_playText 26 = .ok (.invokevirtual 22, 3) := by decide +kernel
theorem dX2_playText_29 : decode cX2_playText 29 = .ok (.if_icmp .ge 60, 3) := by decide +kernel
theorem dX2_playText_32 : decode cX2_playText 32 = .ok (.aload_n 0, 1) := by decide +kernel
theorem dX2_playText_33 : decode cX2_playText 33 = .ok (.aload_n 0, 1) := by decide +kernel
theorem dX2_playText_34 : decode cX2_playText 34 = .ok (.getfield 9, 3) := by decide +kernel
theorem dX2_playText_37 : decode cX2_playText 37 = .ok (.aload_n 0, 1) := by decide +kernel
theorem dX2_playText_38 : decode cX2_playText 38 = .ok (.getfield 15, 3) := by decide +kernel
theorem dX2_playText_41 : decode cX2_playText 41 = .ok (.invokevirtual 28, 3) := by decide +kernel
theorem dX2_playText_44 : decode cX2_playText 44 = .ok (.ifCond .eq 14, 3) := by decide +kernel
theorem dX2_playText_47 : decode cX2_playText 47 = .ok (.aload_n 0, 1) := by decide +kernel
theorem dX2_playText_48 : decode cX2_playText 48 = .ok (.aload_n 1, 1) := by decide +kernel
theorem dX2_playText_49 : decode cX2_playText 49 = .ok (.invokevirtual 32, 3) := by decide +kernel
theorem dX2_playText_52 : decode cX2_playText 52 = .ok (.invokestatic 36, 3) := by decide +kernel
theorem dX2_playText_55 : decode cX2_playText 55 = .ok (.goto 4, 3) := by decide +kernel
theorem dX2_playText_58 : decode cX2_playText 58 = .ok (.iconst 1, 1) := by decide +kernel
theorem dX2_playText_59 : decode cX2_playText 59 = .ok (.putfield 19, 3) := by decide +kernel
theorem dX2_playText_62 : decode cX2_playText 62 = .ok (.aload_n 0, 1) := by decide +kernel
theorem dX2_playText_63 : decode cX2_playText 63 = .ok (.getfield 19, 3) := by decide +kernel
theorem dX2_playText_66 : decode cX2_playText 66 = .ok (.ifCond .eq 6, 3) := by decide +kernel
theorem dX2_playText_69 : decode cX2_playText 69 = .ok (.bipush (-2), 2) := by decide +kernel
theorem dX2_playText_71 : decode cX2_playText 71 = .ok (.ireturn, 1) := by decide +kernel
theorem dX2_playText_72 : decode cX2_playText 72 = .ok (.aload_n 0, 1) := by decide +kernel
theorem dX2_playText_73 : decode cX2_playText 73 = .ok (.aload_n 0, 1) := by decide +kernel
theorem dX2_playText_74 : decode cX2_playText 74 = .ok (.getfield 9, 3) := by decide +kernel
theorem dX2_playText_77 : decode cX2_playText 77 = .ok (.getfield 40, 3) := by decide +kernel
theorem dX2_playText_80 : decode cX2_playText 80 = .ok (.putfield 15, 3) := by decide +kernel
theorem dX2_playText_83 : decode cX2_playText 83 = .ok (.iinc 2 1, 3) := by decide +kernel
theorem dX2_playText_86 : decode cX2_playText 86 = .ok (.goto (-74), 3) := by decide +kernel
theorem dX2_playText_89 : decode cX2_playText 89 = .ok (.iload_n 2, 1) := by decide +kernel
theorem dX2_playText_90 : decode cX2_playText 90 = .ok (.ireturn, 1) := by decide +kernel
set_option maxRecDepth 20000 in
theorem ggX2_doCommand_X0_reserveMeal : GoodIn wsX2_doCommand wsX0_reserveMeal := goodIn_r _ [6, 7, 8, 9, 10, 11, 12, 13, 14, 15, 16, 17, 18, 19, 20, 21, 22, 23, 24, 25, 26, 27, 28, 29, 30, 31, 32, 33, 34, 35, 36, 37, 38, 39, 40, 41, 42, 43, 44, 45, 46, 47, 48, 49, 165, 166, 167, 168, 169, 170, 171, 172, 173, 174, 175, 176, 177, 178, 179] (by decide +kernel) (by decide +kernel)
set_option maxRecDepth 20000 in
theorem gX2_doCommand_X0_reserveMeal : GoodIn wsX2_doCommand (wsV RX2 53 RX0 yX0_reserveMeal wsX0_reserveMeal) := goodIn_app (goodIn_of _ (by decide +kernel)) ggX2_doCommand_X0_reserveMeal
set_option maxRecDepth 20000 in
theorem ggX2_doCommand_X0_endReservation : GoodIn wsX2_doCommand wsX0_endReservation := goodIn_r _ [53, 54, 8, 7, 10, 11, 12, 13, 14, 15, 55, 56, 57, 58, 59, 60, 5, 61, 62, 43, 44, 45, 63, 24, 25, 26, 27, 28, 46, 47, 48, 49, 64, 65, 66, 67, 68, 69, 165, 166, 167, 168, 169, 176, 177, 178, 179] (by decide +kernel) (by decide +kernel)
set_option maxRecDepth 20000 in
theorem gX2_doCommand_X0_endReservation : GoodIn wsX2_doCommand (wsV RX2 59 RX0 yX0_endReservation wsX0_endReservation) := goodIn_app (goodIn_of _ (by decide +kernel)) ggX2_doCommand_X0_endReservation
set_option maxRecDepth 20000 in
theorem ggX2_doCommand_X0_takeMeal : GoodIn wsX2_doCommand wsX0_takeMeal := goodIn_r _ [73, 74, 8, 9, 54, 10, 11, 12, 13, 14, 15, 63, 24, 25, 26, 27, 28, 75, 76, 77, 19, 78, 21, 42, 43, 44, 45, 23, 79, 80, 81, 82, 83, 84, 85, 86, 87, 88, 89, 90, 33, 34, 35, 36, 37, 46, 47, 48, 49, 64, 65, 66, 67, 68, 69, 165, 166, 167, 168, 169, 176, 177, 178, 179, 170, 171, 172, 173, 174, 175] (by decide +kernel) (by decide +kernel)
set_option maxRecDepth 20000 in
theorem gX2_doCommand_X0_takeMeal : GoodIn wsX2_doCommand (wsV RX2 63 RX0 yX0_takeMeal wsX0_takeMeal) := goodIn_app (goodIn_of _ (by decide +kernel)) ggX2_doCommand_X0_takeMeal
set_option maxRecDepth 20000 in
theorem ggX2_doCommand_X0_sendVolunteer : GoodIn wsX2_doCommand wsX0_sendVolunteer := goodIn_r _ [94, 74, 54, 9, 10, 11, 12, 13, 14, 15, 63, 24, 25, 26, 27, 28, 86, 87, 88, 19, 89, 90, 33, 34, 35, 36, 37, 23, 95, 96, 97, 98, 99, 100, 101, 102, 103, 104, 105, 106, 46, 47, 48, 49, 165, 166, 167, 168, 169, 170, 171, 172, 173, 174, 175, 176, 177, 178, 179] (by decide +kernel) (by decide +kernel)
set_option maxRecDepth 20000 in
theorem gX2_doCommand_X0_sendVolunteer : GoodIn wsX2_doCommand (wsV RX2 66 RX0 yX0_sendVolunteer wsX0_sendVolunteer) := goodIn_app (goodIn_of _ (by decide +kernel)) ggX2_doCommand_X0_sendVolunteer
set_option maxRecDepth 20000 in
theorem ggX2_doCommand_X0_putMealsIn : GoodIn wsX2_doCommand wsX0_putMealsIn := goodIn_r _ [110, 74, 9, 10, 11, 12, 13, 14, 15, 86, 87, 88, 19, 89, 90, 33, 34, 35, 36, 37, 23, 24, 25, 26, 27, 28, 111, 112, 113, 5, 114, 8, 54, 63, 115, 116, 117, 118, 119, 120, 121, 122, 123, 21, 42, 43, 44, 45, 124, 80, 81, 82, 83, 84, 85, 62, 46, 47, 48, 49, 64, 65, 66, 67, 68, 69, 165, 166, 167, 168, 169, 176, 177, 178, 179, 170, 171, 172, 173, 174, 175] (by decide +kernel) (by decide +kernel)
set_option maxRecDepth 20000 in
theorem gX2_doCommand_X0_putMealsIn : GoodIn wsX2_doCommand (wsV RX2 69 RX0 yX0_putMealsIn wsX0_putMealsIn) := goodIn_app (goodIn_of _ (by decide +kernel)) ggX2_doCommand_X0_putMealsIn
set_option maxRecDepth 20000 in
theorem ggX2_doCommand_X0_passHours : GoodIn wsX2_doCommand wsX0_passHours := goodIn_r _ [128, 9, 74, 55, 56, 57, 129, 130, 131, 5, 132, 8, 133, 35, 36, 37, 62, 43, 44, 13, 45, 15, 63, 24, 25, 26, 27, 28, 134, 135, 136, 19, 137, 119, 23, 46, 47, 48, 49, 138, 139, 140, 141, 54, 64, 65, 66, 67, 68, 69, 142, 143, 144, 145, 111, 112, 113, 114, 115, 116, 117, 118, 120, 121, 122, 123, 21, 42, 124, 80, 81, 82, 83, 84, 85, 146, 147, 148, 149, 150, 103, 104, 105, 106, 151, 152, 153, 154, 7, 165, 166, 167, 168, 169, 170, 171, 172, 173, 174, 175, 176, 177, 178, 179] (by decide +kernel) (by decide +kernel)
set_option maxRecDepth 20000 in
theorem gX2_doCommand_X0_passHours : GoodIn wsX2_doCommand (wsV RX2 72 RX0 yX0_passHours wsX0_passHours) := goodIn_app (goodIn_of _ (by decide +kernel)) ggX2_doCommand_X0_passHours
theorem dX2_doCommand_0 : decode cX2_doCommand 0 = .ok (.aload_n 0, 1) := by decide +kernel
theorem dX2_doCommand_1 : decode cX2_doCommand 1 = .ok (.getfield 9, 3) := by decide +kernel
theorem dX2_doCommand_4 : decode cX2_doCommand 4 = .ok (.getfield 43, 3) := by decide +kernel
theorem dX2_doCommand_7 : decode cX2_doCommand 7 = .ok (.tableswitch 182 102 116 #[92, 151, 182, 182, 182, 182, 182, 182, 112, 182, 170, 182, 73, 182, 132], 73) := by decide +kernel
theorem dX2_doCommand_80 : decode cX2_doCommand 80 = .ok (.aload_n 1, 1) := by decide +kernel
theorem dX2_doCommand_81 : decode cX2_doCommand 81 = .ok (.aload_n 0, 1) := by decide +kernel
theorem dX2_doCommand_82 : decode cX2_doCommand 82 = .ok (.getfield 9, 3) := by decide +kernel
theorem dX2_doCommand_85 : decode cX2_doCommand 85 = .ok (.getfield 47, 3) := by decide +kernel
theorem dX2_doCommand_88 : decode cX2_doCommand 88 = .ok (.aload_n 0, 1) := by decide +kernel
theorem dX2_doCommand_89 : decode cX2_doCommand 89 = .ok (.getfield 9, 3) := by decide +kernel
theorem dX2_doCommand_92 : decode cX2_doCommand 92 = .ok (.getfield 50, 3) := by decide +kernel
theorem dX2_doCommand_95 : decode cX2_doCommand 95 = .ok (.invokevirtual 53, 3) := by decide +kernel
theorem dX2_doCommand_98 : decode cX2_doCommand 98 = .ok (.ireturn, 1) := by decide +kernel
theorem dX2_doCommand_99 : decode cX2_doCommand 99 = .ok (.aload_n 1, 1) := by decide +kernel
theorem dX2_doCommand_100 : decode cX2_doCommand 100 = .ok (.aload_n 0, 1) := by decide +kernel
theorem dX2_doCommand_101 : decode cX2_doCommand 101 = .ok (.getfield 9, 3) := by decide +kernel
theorem dX2_doCommand_104 : decode cX2_doCommand 104 = .ok (.getfield 47, 3) := by decide +kernel
theorem dX2_doCommand_107 : decode cX2_doCommand 107 = .ok (.aload_n 0, 1) := by decide +kernel
theorem dX2_doCommand_108 : decode cX2_doCommand 108 = .ok (.getfield 9, 3) := by decide +kernel
theorem dX2_doCommand_111 : decode cX2_doCommand 111 = .ok (.getfield 50, 3) := by decide +kernel
theorem dX2_doCommand_114 : decode cX2_doCommand 114 = .ok (.iconst 0, 1) := by decide +kernel
theorem dX2_doCommand_115 : decode cX2_doCommand 115 = .ok (.invokevirtual 59, 3) := by decide +kernel
theorem dX2_doCommand_118 : decode cX2_doCommand 118 = .ok (.ireturn, 1) := by decide +kernel
theorem dX2_doCommand_119 : decode cX2_doCommand 119 = .ok (.aload_n 1, 1) := by decide +kernel
theorem dX2_doCommand_120 : decode cX2_doCommand 120 = .ok (.aload_n 0, 1) := by decide +kernel
theorem dX2_doCommand_121 : decode cX2_doCommand 121 = .ok (.getfield 9, 3) := by decide +kernel
theorem dX2_doCommand_124 : decode cX2_doCommand 124 = .ok (.getfield 47, 3) := by decide +kernel
theorem dX2_doCommand_127 : decode cX2_doCommand 127 = .ok (.aload_n 0, 1) := by decide +kernel
theorem dX2_doCommand_128 : decode cX2_doCommand 128 = .ok (.getfield 9, 3) := by decide +kernel
theorem dX2_doCommand_131 : decode cX2_doCommand 131 = .ok (.getfield 50, 3) := by decide +kernel
theorem dX2_doCommand_134 : decode cX2_doCommand 134 = .ok (.iconst 1, 1) := by decide +kernel
theorem dX2_doCommand_135 : decode cX2_doCommand 135 = .ok (.invokevirtual 59, 3) := by decide +kernel
theorem dX2_doCommand_138 : decode cX2_doCommand 138 = .ok (.ireturn, 1) := by decide +kernel
theorem dX2_doCommand_139 : decode cX2_doCommand 139 = .ok (.aload_n 1, 1) := by decide +kernel
theorem dX2_doCommand_140 : decode cX2_doCommand 140 = .ok (.aload_n 0, 1) := by decide +kernel
theorem dX2_doCommand_141 : decode cX2_doCommand 141 = .ok (.getfield 9, 3) := by decide +kernel
theorem dX2_doCommand_144 : decode cX2_doCommand 144 = .ok (.getfield 47, 3) := by decide +kernel
theorem dX2_doCommand_147 : decode cX2_doCommand 147 = .ok (.aload_n 0, 1) := by decide +kernel
theorem dX2_doCommand_148 : decode cX2_doCommand 148 = .ok (.getfield 9, 3) := by decide +kernel
theorem dX2_doCommand_151 : decode cX2_doCommand 151 = .ok (.getfield 50, 3) := by decide +kernel
theorem dX2_doCommand_154 : decode cX2_doCommand 154 = .ok (.invokevirtual 63, 3) := by decide +kernel
theorem dX2_doCommand_157 : decode cX2_doCommand 157 = .ok (.ireturn, 1) := by decide +kernel
theorem dX2_doCommand_158 : decode cX2_doCommand 158 = .ok (.aload_n 1, 1) := by decide +kernel
theorem dX2_doCommand_159 : decode cX2_doCommand 159 = .ok (.aload_n 0, 1) := by decide +kernel
theorem dX2_doCommand_160 : decode cX2_doCommand 160 = .ok (.getfield 9, 3) := by decide +kernel
theorem dX2_doCommand_163 : decode cX2_doCommand 163 = .ok (.getfield 47, 3) := by decide +kernel
theorem dX2_doCommand_166 : decode cX2_doCommand 166 = .ok (.aload_n 0, 1) := by decide +kernel
theorem dX2_doCommand_167 : decode cX2_doCommand 167 = .ok (.getfield 9, 3) := by decide +kernel
theorem dX2_doCommand_170 : decode cX2_doCommand 170 = .ok (.getfield 50, 3) := by decide +kernel
theorem dX2_doCommand_173 : decode cX2_doCommand 173 = .ok (.invokevirtual 66, 3) := by decide +kernel
theorem dX2_doCommand_176 : decode cX2_doCommand 176 = .ok (.ireturn, 1) := by decide +kernel
theorem dX2_doCommand_177 : decode cX2_doCommand 177 = .ok (.aload_n 1, 1) := by decide +kernel
theorem dX2_doCommand_178 : decode cX2_doCommand 178 = .ok (.aload_n 0, 1) := by decide +kernel
theorem dX2_doCommand_179 : decode cX2_doCommand 179 = .ok (.getfield 9, 3) := by decide +kernel
theorem dX2_doCommand_182 : decode cX2_doCommand 182 = .ok (.getfield 47, 3) := by decide +kernel
theorem dX2_doCommand_185 : decode cX2_doCommand 185 = .ok (.invokevirtual 69, 3) := by decide +kernel
theorem dX2_doCommand_188 : decode cX2_doCommand 188 = .ok (.ireturn, 1) := by decide +kernel
theorem dX2_doCommand_189 : decode cX2_doCommand 189 = .ok (.aload_n 1, 1) := by decide +kernel
theorem dX2_doCommand_190 : decode cX2_doCommand 190 = .ok (.aload_n 0, 1) := by decide +kernel
theorem dX2_doCommand_191 : decode cX2_doCommand 191 = .ok (.getfield 9, 3) := by decide +kernel
theorem dX2_doCommand_194 : decode cX2_doCommand 194 = .ok (.getfield 47, 3) := by decide +kernel
theorem dX2_doCommand_197 : decode cX2_doCommand 197 = .ok (.sipush 5000, 3) := by decide +kernel
theorem dX2_doCommand_200 : decode cX2_doCommand 200 = .ok (.invokevirtual 72, 3) := by decide +kernel
theorem dX2_doCommand_203 : decode cX2_doCommand 203 = .ok (.ireturn, 1) := by decide +kernel
theorem dX2_reasonOf_0 : decode cX2_reasonOf 0 = .ok (.iload_n 0, 1) := by decide +kernel
theorem dX2_reasonOf_1 : decode cX2_reasonOf 1 = .ok (.ifCond .lt 5, 3) := by decide +kernel
theorem dX2_reasonOf_4 : decode cX2_reasonOf 4 = .ok (.iconst 0, 1) := by decide +kernel
theorem dX2_reasonOf_5 : decode cX2_reasonOf 5 = .ok (.ireturn, 1) := by decide +kernel
theorem dX2_reasonOf_6 : decode cX2_reasonOf 6 = .ok (.iload_n 0, 1) := by decide +kernel
theorem dX2_reasonOf_7 : decode cX2_reasonOf 7 = .ok (.iconst (-1), 1) := by decide +kernel
theorem dX2_reasonOf_8 : decode cX2_reasonOf 8 = .ok (.if_icmp .ne 7, 3) := by decide +kernel
theorem dX2_reasonOf_11 : decode cX2_reasonOf 11 = .ok (.iconst 2, 1) := by decide +kernel
theorem dX2_reasonOf_12 : decode cX2_reasonOf 12 = .ok (.goto 4, 3) := by decide +kernel
theorem dX2_reasonOf_15 : decode cX2_reasonOf 15 = .ok (.iconst 3, 1) := by decide +kernel
theorem dX2_reasonOf_16 : decode cX2_reasonOf 16 = .ok (.ireturn, 1) := by decide +kernel
set_option maxRecDepth 20000 in
theorem ggX2_ofFault_X7_isWithin : GoodIn wsX2_ofFault wsX7_isWithin := goodIn_r _ [5] (by decide +kernel) (by decide +kernel)
set_option maxRecDepth 20000 in
theorem gX2_ofFault_X7_isWithin_n75 : GoodIn wsX2_ofFault (wsX7_isWithin) := ggX2_ofFault_X7_isWithin
theorem dX2_ofFault_0 : decode cX2_ofFault 0 = .ok (.iload_n 1, 1) := by decide +kernel
theorem dX2_ofFault_1 : decode cX2_ofFault 1 = .ok (.iconst 0, 1) := by decide +kernel
theorem dX2_ofFault_2 : decode cX2_ofFault 2 = .ok (.iconst 1, 1) := by decide +kernel
theorem dX2_ofFault_3 : decode cX2_ofFault 3 = .ok (.invokestatic 75, 3) := by decide +kernel
theorem dX2_ofFault_6 : decode cX2_ofFault 6 = .ok (.ifCond .ne 5, 3) := by decide +kernel
theorem dX2_ofFault_9 : decode cX2_ofFault 9 = .ok (.iconst (-1), 1) := by decide +kernel
theorem dX2_ofFault_10 : decode cX2_ofFault 10 = .ok (.ireturn, 1) := by decide +kernel
theorem dX2_ofFault_11 : decode cX2_ofFault 11 = .ok (.aload_n 0, 1) := by decide +kernel
theorem dX2_ofFault_12 : decode cX2_ofFault 12 = .ok (.getfield 19, 3) := by decide +kernel
theorem dX2_ofFault_15 : decode cX2_ofFault 15 = .ok (.ifCond .ne 6, 3) := by decide +kernel
theorem dX2_ofFault_18 : decode cX2_ofFault 18 = .ok (.bipush (-4), 2) := by decide +kernel
theorem dX2_ofFault_20 : decode cX2_ofFault 20 = .ok (.ireturn, 1) := by decide +kernel
theorem dX2_ofFault_21 : decode cX2_ofFault 21 = .ok (.iload_n 1, 1) := by decide +kernel
theorem dX2_ofFault_22 : decode cX2_ofFault 22 = .ok (.ifCond .ne 10, 3) := by decide +kernel
theorem dX2_ofFault_25 : decode cX2_ofFault 25 = .ok (.aload_n 0, 1) := by decide +kernel
theorem dX2_ofFault_26 : decode cX2_ofFault 26 = .ok (.getfield 15, 3) := by decide +kernel
theorem dX2_ofFault_29 : decode cX2_ofFault 29 = .ok (.goto 7, 3) := by decide +kernel
theorem dX2_ofFault_32 : decode cX2_ofFault 32 = .ok (.aload_n 0, 1) := by decide +kernel
theorem dX2_ofFault_33 : decode cX2_ofFault 33 = .ok (.getfield 19, 3) := by decide +kernel
theorem dX2_ofFault_36 : decode cX2_ofFault 36 = .ok (.ireturn, 1) := by decide +kernel
theorem dX3_init_0 : decode cX3_init 0 = .ok (.aload_n 0, 1) := by decide +kernel
theorem dX3_init_1 : decode cX3_init 1 = .ok (.invokespecial 3, 3) := by decide +kernel
theorem dX3_init_4 : decode cX3_init 4 = .ok (.aload_n 0, 1) := by decide +kernel
theorem dX3_init_5 : decode cX3_init 5 = .ok (.aload_n 1, 1) := by decide +kernel
theorem dX3_init_6 : decode cX3_init 6 = .ok (.putfield 9, 3) := by decide +kernel
theorem dX3_init_9 : decode cX3_init 9 = .ok (.aload_n 0, 1) := by decide +kernel
theorem dX3_init_10 : decode cX3_init 10 = .ok (.aload_n 1, 1) := by decide +kernel
theorem dX3_init_11 : decode cX3_init 11 = .ok (.getfield 15, 3) := by decide +kernel
theorem dX3_init_14 : decode cX3_init 14 = .ok (.putfield 21, 3) := by decide +kernel
theorem dX3_init_17 : decode cX3_init 17 = .ok (.aload_n 0, 1) := by decide +kernel
theorem dX3_init_18 : decode cX3_init 18 = .ok (.aload_n 1, 1) := by decide +kernel
theorem dX3_init_19 : decode cX3_init 19 = .ok (.getfield 22, 3) := by decide +kernel
theorem dX3_init_22 : decode cX3_init 22 = .ok (.putfield 25, 3) := by decide +kernel
theorem dX3_init_25 : decode cX3_init 25 = .ok (.aload_n 0, 1) := by decide +kernel
theorem dX3_init_26 : decode cX3_init 26 = .ok (.aload_n 1, 1) := by decide +kernel
theorem dX3_init_27 : decode cX3_init 27 = .ok (.getfield 26, 3) := by decide +kernel
theorem dX3_init_30 : decode cX3_init 30 = .ok (.putfield 29, 3) := by decide +kernel
theorem dX3_init_33 : decode cX3_init 33 = .ok (.aload_n 0, 1) := by decide +kernel
theorem dX3_init_34 : decode cX3_init 34 = .ok (.aload_n 1, 1) := by decide +kernel
theorem dX3_init_35 : decode cX3_init 35 = .ok (.getfield 30, 3) := by decide +kernel
theorem dX3_init_38 : decode cX3_init 38 = .ok (.putfield 33, 3) := by decide +kernel
theorem dX3_init_41 : decode cX3_init 41 = .ok (.return_, 1) := by decide +kernel
set_option maxRecDepth 20000 in
theorem ggX3_ofMeal_X5_has : GoodIn wsX3_ofMeal wsX5_has := goodIn_r _ [6, 7, 26, 27, 28, 29] (by decide +kernel) (by decide +kernel)
set_option maxRecDepth 20000 in
theorem gX3_ofMeal_X5_has : GoodIn wsX3_ofMeal (wsV RX3 34 RX5 yX5_has wsX5_has) := goodIn_app (goodIn_of _ (by decide +kernel)) ggX3_ofMeal_X5_has
set_option maxRecDepth 20000 in
theorem ggX3_ofMeal_X7_isWithin : GoodIn wsX3_ofMeal wsX7_isWithin := goodIn_r _ [10] (by decide +kernel) (by decide +kernel)
set_option maxRecDepth 20000 in
theorem gX3_ofMeal_X7_isWithin_n40 : GoodIn wsX3_ofMeal (wsX7_isWithin) := ggX3_ofMeal_X7_isWithin
set_option maxRecDepth 20000 in
theorem ggX3_ofMeal_X5_at : GoodIn wsX3_ofMeal wsX5_at := goodIn_r _ [14, 15, 16, 26, 27, 28, 29] (by decide +kernel) (by decide +kernel)
set_option maxRecDepth 20000 in
theorem gX3_ofMeal_X5_at : GoodIn wsX3_ofMeal (wsV RX3 44 RX5 yX5_at wsX5_at) := goodIn_app (goodIn_of _ (by decide +kernel)) ggX3_ofMeal_X5_at
set_option maxRecDepth 20000 in
theorem ggX3_ofMeal_X3_tells : GoodIn wsX3_ofMeal wsX3_tells := goodIn_r _ [20] (by decide +kernel) (by decide +kernel)
set_option maxRecDepth 20000 in
theorem gX3_ofMeal_X3_tells : GoodIn wsX3_ofMeal (va_wsS RX3 48 yX3_tells wsX3_tells) := goodIn_app (goodIn_of _ (by decide +kernel)) ggX3_ofMeal_X3_tells
theorem dX3_ofMeal_0 : decode cX3_ofMeal 0 = .ok (.aload_n 0, 1) := by decide +kernel
theorem dX3_ofMeal_1 : decode cX3_ofMeal 1 = .ok (.getfield 25, 3) := by decide +kernel
theorem dX3_ofMeal_4 : decode cX3_ofMeal 4 = .ok (.iload_n 1, 1) := by decide +kernel
theorem dX3_ofMeal_5 : decode cX3_ofMeal 5 = .ok (.invokevirtual 34, 3) := by decide +kernel
theorem dX3_ofMeal_8 : decode cX3_ofMeal 8 = .ok (.ifCond .eq 13, 3) := by decide +kernel
theorem dX3_ofMeal_11 : decode cX3_ofMeal 11 = .ok (.iload_n 2, 1) := by decide +kernel
theorem dX3_ofMeal_12 : decode cX3_ofMeal 12 = .ok (.iconst 0, 1) := by decide +kernel
theorem dX3_ofMeal_13 : decode cX3_ofMeal 13 = .ok (.bipush 6, 2) := by decide +kernel
theorem dX3_ofMeal_15 : decode cX3_ofMeal 15 = .ok (.invokestatic 40, 3) := by decide +kernel
theorem dX3_ofMeal_18 : decode cX3_ofMeal 18 = .ok (.ifCond .ne 5, 3) := by decide +kernel
theorem dX3_ofMeal_21 : decode cX3_ofMeal 21 = .ok (.iconst (-1), 1) := by decide +kernel
theorem dX3_ofMeal_22 : decode cX3_ofMeal 22 = .ok (.ireturn, 1) := by decide +kernel
theorem dX3_ofMeal_23 : decode cX3_ofMeal 23 = .ok (.aload_n 0, 1) := by decide +kernel
theorem dX3_ofMeal_24 : decode cX3_ofMeal 24 = .ok (.getfield 25, 3) := by decide +kernel
theorem dX3_ofMeal_27 : decode cX3_ofMeal 27 = .ok (.iload_n 1, 1) := by decide +kernel
theorem dX3_ofMeal_28 : decode cX3_ofMeal 28 = .ok (.iconst 0, 1) := by decide +kernel
theorem dX3_ofMeal_29 : decode cX3_ofMeal 29 = .ok (.invokevirtual 44, 3) := by decide +kernel
theorem dX3_ofMeal_32 : decode cX3_ofMeal 32 = .ok (.iload_n 2, 1) := by decide +kernel
theorem dX3_ofMeal_33 : decode cX3_ofMeal 33 = .ok (.invokestatic 48, 3) := by decide +kernel
theorem dX3_ofMeal_36 : decode cX3_ofMeal 36 = .ok (.ifCond .eq 15, 3) := by decide +kernel
theorem dX3_ofMeal_39 : decode cX3_ofMeal 39 = .ok (.aload_n 0, 1) := by decide +kernel
theorem dX3_ofMeal_40 : decode cX3_ofMeal 40 = .ok (.getfield 25, 3) := by decide +kernel
theorem dX3_ofMeal_43 : decode cX3_ofMeal 43 = .ok (.iload_n 1, 1) := by decide +kernel
theorem dX3_ofMeal_44 : decode cX3_ofMeal 44 = .ok (.iload_n 2, 1) := by decide +kernel
theorem dX3_ofMeal_45 : decode cX3_ofMeal 45 = .ok (.invokevirtual 44, 3) := by decide +kernel
theorem dX3_ofMeal_48 : decode cX3_ofMeal 48 = .ok (.goto 5, 3) := by decide +kernel
theorem dX3_ofMeal_51 : decode cX3_ofMeal 51 = .ok (.bipush (-4), 2) := by decide +kernel
theorem dX3_ofMeal_53 : decode cX3_ofMeal 53 = .ok (.ireturn, 1) := by decide +kernel
theorem dX3_tells_0 : decode cX3_tells 0 = .ok (.iload_n 1, 1) := by decide +kernel
theorem dX3_tells_1 : decode cX3_tells 1 = .ok (.tableswitch 70 4 6 #[27, 38, 59], 27) := by decide +kernel
theorem dX3_tells_28 : decode cX3_tells 28 = .ok (.iload_n 0, 1) := by decide +kernel
theorem dX3_tells_29 : decode cX3_tells 29 = .ok (.iconst 1, 1) := by decide +kernel
theorem dX3_tells_30 : decode cX3_tells 30 = .ok (.if_icmp .ne 7, 3) := by decide +kernel
theorem dX3_tells_33 : decode cX3_tells 33 = .ok (.iconst 1, 1) := by decide +kernel
theorem dX3_tells_34 : decode cX3_tells 34 = .ok (.goto 4, 3) := by decide +kernel
theorem dX3_tells_37 : decode cX3_tells 37 = .ok (.iconst 0, 1) := by decide +kernel
theorem dX3_tells_38 : decode cX3_tells 38 = .ok (.ireturn, 1) := by decide +kernel
theorem dX3_tells_39 : decode cX3_tells 39 = .ok (.iload_n 0, 1) := by decide +kernel
theorem dX3_tells_40 : decode cX3_tells 40 = .ok (.iconst 1, 1) := by decide +kernel
theorem dX3_tells_41 : decode cX3_tells 41 = .ok (.if_icmp .eq 13, 3) := by decide +kernel
theorem dX3_tells_44 : decode cX3_tells 44 = .ok (.iload_n 0, 1) := by decide +kernel
theorem dX3_tells_45 : decode cX3_tells 45 = .ok (.iconst 3, 1) := by decide +kernel
theorem dX3_tells_46 : decode cX3_tells 46 = .ok (.if_icmp .eq 8, 3) := by decide +kernel
theorem dX3_tells_49 : decode cX3_tells 49 = .ok (.iload_n 0, 1) := by decide +kernel
theorem dX3_tells_50 : decode cX3_tells 50 = .ok (.iconst 4, 1) := by decide +kernel
theorem dX3_tells_51 : decode cX3_tells 51 = .ok (.if_icmp .ne 7, 3) := by decide +kernel
theorem dX3_tells_54 : decode cX3_tells 54 = .ok (.iconst 1, 1) := by decide +kernel
theorem dX3_tells_55 : decode cX3_tells 55 = .ok (.goto 4, 3) := by decide +kernel
theorem dX3_tells_58 : decode cX3_tells 58 = .ok (.iconst 0, 1) := by decide +kernel
theorem dX3_tells_59 : decode cX3_tells 59 = .ok (.ireturn, 1) := by decide +kernel
theorem dX3_tells_60 : decode cX3_tells 60 = .ok (.iload_n 0, 1) := by decide +kernel
theorem dX3_tells_61 : decode cX3_tells 61 = .ok (.iconst 2, 1) := by decide +kernel
theorem dX3_tells_62 : decode cX3_tells 62 = .ok (.if_icmp .ne 7, 3) := by decide +kernel
theorem dX3_tells_65 : decode cX3_tells 65 = .ok (.iconst 1, 1) := by decide +kernel
theorem dX3_tells_66 : decode cX3_tells 66 = .ok (.goto 4, 3) := by decide +kernel
theorem dX3_tells_69 : decode cX3_tells 69 = .ok (.iconst 0, 1) := by decide +kernel
theorem dX3_tells_70 : decode cX3_tells 70 = .ok (.ireturn, 1) := by decide +kernel
theorem dX3_tells_71 : decode cX3_tells 71 = .ok (.iconst 1, 1) := by decide +kernel
theorem dX3_tells_72 : decode cX3_tells 72 = .ok (.ireturn, 1) := by decide +kernel
set_option maxRecDepth 20000 in
theorem ggX3_ofLocker_X5_has : GoodIn wsX3_ofLocker wsX5_has := goodIn_r _ [7, 8, 34, 35, 36, 37] (by decide +kernel) (by decide +kernel)
set_option maxRecDepth 20000 in
theorem gX3_ofLocker_X5_has : GoodIn wsX3_ofLocker (wsV RX3 34 RX5 yX5_has wsX5_has) := goodIn_app (goodIn_of _ (by decide +kernel)) ggX3_ofLocker_X5_has
set_option maxRecDepth 20000 in
theorem ggX3_ofLocker_X7_isWithin : GoodIn wsX3_ofLocker wsX7_isWithin := goodIn_r _ [11] (by decide +kernel) (by decide +kernel)
set_option maxRecDepth 20000 in
theorem gX3_ofLocker_X7_isWithin_n40 : GoodIn wsX3_ofLocker (wsX7_isWithin) := ggX3_ofLocker_X7_isWithin
set_option maxRecDepth 20000 in
theorem ggX3_ofLocker_X4_mealsIn : GoodIn wsX3_ofLocker wsX4_mealsIn := goodIn_r _ [16, 17, 18, 19, 20, 6, 21, 8, 22, 23, 24, 25, 26, 27, 38, 39, 40, 41, 42, 43, 34, 35, 36, 37] (by decide +kernel) (by decide +kernel)
set_option maxRecDepth 20000 in
theorem gX3_ofLocker_X4_mealsIn : GoodIn wsX3_ofLocker (wsV RX3 52 RX4 yX4_mealsIn wsX4_mealsIn) := goodIn_app (goodIn_of _ (by decide +kernel)) ggX3_ofLocker_X4_mealsIn
set_option maxRecDepth 20000 in
theorem ggX3_ofLocker_X5_at : GoodIn wsX3_ofLocker wsX5_at := goodIn_r _ [25, 26, 27, 34, 35, 36, 37] (by decide +kernel) (by decide +kernel)
set_option maxRecDepth 20000 in
theorem gX3_ofLocker_X5_at : GoodIn wsX3_ofLocker (wsV RX3 44 RX5 yX5_at wsX5_at) := goodIn_app (goodIn_of _ (by decide +kernel)) ggX3_ofLocker_X5_at
theorem dX3_ofLocker_0 : decode cX3_ofLocker 0 = .ok (.aload_n 0, 1) := by decide +kernel
theorem dX3_ofLocker_1 : decode cX3_ofLocker 1 = .ok (.getfield 21, 3) := by decide +kernel
theorem dX3_ofLocker_4 : decode cX3_ofLocker 4 = .ok (.iload_n 1, 1) := by decide +kernel
theorem dX3_ofLocker_5 : decode cX3_ofLocker 5 = .ok (.invokevirtual 34, 3) := by decide +kernel
theorem dX3_ofLocker_8 : decode cX3_ofLocker 8 = .ok (.ifCond .eq 13, 3) := by decide +kernel
theorem dX3_ofLocker_11 : decode cX3_ofLocker 11 = .ok (.iload_n 2, 1) := by decide +kernel
theorem dX3_ofLocker_12 : decode cX3_ofLocker 12 = .ok (.iconst 0, 1) := by decide +kernel
theorem dX3_ofLocker_13 : decode cX3_ofLocker 13 = .ok (.bipush 8, 2) := by decide +kernel
theorem dX3_ofLocker_15 : decode cX3_ofLocker 15 = .ok (.invokestatic 40, 3) := by decide +kernel
theorem dX3_ofLocker_18 : decode cX3_ofLocker 18 = .ok (.ifCond .ne 5, 3) := by decide +kernel
theorem dX3_ofLocker_21 : decode cX3_ofLocker 21 = .ok (.iconst (-1), 1) := by decide +kernel
theorem dX3_ofLocker_22 : decode cX3_ofLocker 22 = .ok (.ireturn, 1) := by decide +kernel
theorem dX3_ofLocker_23 : decode cX3_ofLocker 23 = .ok (.iload_n 2, 1) := by decide +kernel
theorem dX3_ofLocker_24 : decode cX3_ofLocker 24 = .ok (.iconst 2, 1) := by decide +kernel
theorem dX3_ofLocker_25 : decode cX3_ofLocker 25 = .ok (.if_icmp .ne 14, 3) := by decide +kernel
theorem dX3_ofLocker_28 : decode cX3_ofLocker 28 = .ok (.aload_n 0, 1) := by decide +kernel
theorem dX3_ofLocker_29 : decode cX3_ofLocker 29 = .ok (.getfield 9, 3) := by decide +kernel
theorem dX3_ofLocker_32 : decode cX3_ofLocker 32 = .ok (.iload_n 1, 1) := by decide +kernel
theorem dX3_ofLocker_33 : decode cX3_ofLocker 33 = .ok (.invokevirtual 52, 3) := by decide +kernel
theorem dX3_ofLocker_36 : decode cX3_ofLocker 36 = .ok (.goto 12, 3) := by decide +kernel
theorem dX3_ofLocker_39 : decode cX3_ofLocker 39 = .ok (.aload_n 0, 1) := by decide +kernel
theorem dX3_ofLocker_40 : decode cX3_ofLocker 40 = .ok (.getfield 21, 3) := by decide +kernel
theorem dX3_ofLocker_43 : decode cX3_ofLocker 43 = .ok (.iload_n 1, 1) := by decide +kernel
theorem dX3_ofLocker_44 : decode cX3_ofLocker 44 = .ok (.iload_n 2, 1) := by decide +kernel
theorem dX3_ofLocker_45 : decode cX3_ofLocker 45 = .ok (.invokevirtual 44, 3) := by decide +kernel
theorem dX3_ofLocker_48 : decode cX3_ofLocker 48 = .ok (.ireturn, 1) := by decide +kernel
set_option maxRecDepth 20000 in
theorem ggX3_ofPerson_X5_has : GoodIn wsX3_ofPerson wsX5_has := goodIn_r _ [7, 8, 44, 45, 46, 47] (by decide +kernel) (by decide +kernel)
set_option maxRecDepth 20000 in
theorem gX3_ofPerson_X5_has : GoodIn wsX3_ofPerson (wsV RX3 34 RX5 yX5_has wsX5_has) := goodIn_app (goodIn_of _ (by decide +kernel)) ggX3_ofPerson_X5_has
set_option maxRecDepth 20000 in
theorem ggX3_ofPerson_X7_isWithin : GoodIn wsX3_ofPerson wsX7_isWithin := goodIn_r _ [11] (by decide +kernel) (by decide +kernel)
set_option maxRecDepth 20000 in
theorem gX3_ofPerson_X7_isWithin_n40 : GoodIn wsX3_ofPerson (wsX7_isWithin) := ggX3_ofPerson_X7_isWithin
set_option maxRecDepth 20000 in
theorem ggX3_ofPerson_X4_barredHours : GoodIn wsX3_ofPerson wsX4_barredHours := goodIn_r _ [16, 17, 18, 19, 20, 21, 22, 23, 24, 25, 6, 26, 27, 28, 48, 49, 50, 51, 52, 53, 44, 45, 46, 47] (by decide +kernel) (by decide +kernel)
set_option maxRecDepth 20000 in
theorem gX3_ofPerson_X4_barredHours : GoodIn wsX3_ofPerson (wsV RX3 56 RX4 yX4_barredHours wsX4_barredHours) := goodIn_app (goodIn_of _ (by decide +kernel)) ggX3_ofPerson_X4_barredHours
set_option maxRecDepth 20000 in
theorem ggX3_ofPerson_X4_mealReservedBy : GoodIn wsX3_ofPerson wsX4_mealReservedBy := goodIn_r _ [32, 33, 34, 35, 36, 6, 37, 8, 23, 24, 25, 26, 27, 28, 48, 49, 50, 51, 52, 53, 44, 45, 46, 47] (by decide +kernel) (by decide +kernel)
set_option maxRecDepth 20000 in
theorem gX3_ofPerson_X4_mealReservedBy : GoodIn wsX3_ofPerson (wsV RX3 59 RX4 yX4_mealReservedBy wsX4_mealReservedBy) := goodIn_app (goodIn_of _ (by decide +kernel)) ggX3_ofPerson_X4_mealReservedBy
set_option maxRecDepth 20000 in
theorem ggX3_ofPerson_X5_at : GoodIn wsX3_ofPerson wsX5_at := goodIn_r _ [26, 27, 28, 44, 45, 46, 47] (by decide +kernel) (by decide +kernel)
set_option maxRecDepth 20000 in
theorem gX3_ofPerson_X5_at : GoodIn wsX3_ofPerson (wsV RX3 44 RX5 yX5_at wsX5_at) := goodIn_app (goodIn_of _ (by decide +kernel)) ggX3_ofPerson_X5_at
theorem dX3_ofPerson_0 : decode cX3_ofPerson 0 = .ok (.aload_n 0, 1) := by decide +kernel
theorem dX3_ofPerson_1 : decode cX3_ofPerson 1 = .ok (.getfield 29, 3) := by decide +kernel
theorem dX3_ofPerson_4 : decode cX3_ofPerson 4 = .ok (.iload_n 1, 1) := by decide +kernel
theorem dX3_ofPerson_5 : decode cX3_ofPerson 5 = .ok (.invokevirtual 34, 3) := by decide +kernel
theorem dX3_ofPerson_8 : decode cX3_ofPerson 8 = .ok (.ifCond .eq 12, 3) := by decide +kernel
theorem dX3_ofPerson_11 : decode cX3_ofPerson 11 = .ok (.iload_n 2, 1) := by decide +kernel
theorem dX3_ofPerson_12 : decode cX3_ofPerson 12 = .ok (.iconst 0, 1) := by decide +kernel
theorem dX3_ofPerson_13 : decode cX3_ofPerson 13 = .ok (.iconst 5, 1) := by decide +kernel
theorem dX3_ofPerson_14 : decode cX3_ofPerson 14 = .ok (.invokestatic 40, 3) := by decide +kernel
theorem dX3_ofPerson_17 : decode cX3_ofPerson 17 = .ok (.ifCond .ne 5, 3) := by decide +kernel
theorem dX3_ofPerson_20 : decode cX3_ofPerson 20 = .ok (.iconst (-1), 1) := by decide +kernel
theorem dX3_ofPerson_21 : decode cX3_ofPerson 21 = .ok (.ireturn, 1) := by decide +kernel
theorem dX3_ofPerson_22 : decode cX3_ofPerson 22 = .ok (.iload_n 2, 1) := by decide +kernel
theorem dX3_ofPerson_23 : decode cX3_ofPerson 23 = .ok (.lookupswitch 43 #[(2, 25), (3, 34)], 25) := by decide +kernel
theorem dX3_ofPerson_48 : decode cX3_ofPerson 48 = .ok (.aload_n 0, 1) := by decide +kernel
theorem dX3_ofPerson_49 : decode cX3_ofPerson 49 = .ok (.getfield 9, 3) := by decide +kernel
theorem dX3_ofPerson_52 : decode cX3_ofPerson 52 = .ok (.iload_n 1, 1) := by decide +kernel
theorem dX3_ofPerson_53 : decode cX3_ofPerson 53 = .ok (.invokevirtual 56, 3) := by decide +kernel
theorem dX3_ofPerson_56 : decode cX3_ofPerson 56 = .ok (.ireturn, 1) := by decide +kernel
theorem dX3_ofPerson_57 : decode cX3_ofPerson 57 = .ok (.aload_n 0, 1) := by decide +kernel
theorem dX3_ofPerson_58 : decode cX3_ofPerson 58 = .ok (.getfield 9, 3) := by decide +kernel
theorem dX3_ofPerson_61 : decode cX3_ofPerson 61 = .ok (.iload_n 1, 1) := by decide +kernel
theorem dX3_ofPerson_62 : decode cX3_ofPerson 62 = .ok (.invokevirtual 59, 3) := by decide +kernel
theorem dX3_ofPerson_65 : decode cX3_ofPerson 65 = .ok (.ireturn, 1) := by decide +kernel
theorem dX3_ofPerson_66 : decode cX3_ofPerson 66 = .ok (.aload_n 0, 1) := by decide +kernel
theorem dX3_ofPerson_67 : decode cX3_ofPerson 67 = .ok (.getfield 29, 3) := by decide +kernel
theorem dX3_ofPerson_70 : decode cX3_ofPerson 70 = .ok (.iload_n 1, 1) := by decide +kernel
theorem dX3_ofPerson_71 : decode cX3_ofPerson 71 = .ok (.iload_n 2, 1) := by decide +kernel
theorem dX3_ofPerson_72 : decode cX3_ofPerson 72 = .ok (.invokevirtual 44, 3) := by decide +kernel
theorem dX3_ofPerson_75 : decode cX3_ofPerson 75 = .ok (.ireturn, 1) := by decide +kernel
set_option maxRecDepth 20000 in
theorem ggX3_ofVolunteer_X5_has : GoodIn wsX3_ofVolunteer wsX5_has := goodIn_r _ [7, 8, 44, 45, 46, 47] (by decide +kernel) (by decide +kernel)
set_option maxRecDepth 20000 in
theorem gX3_ofVolunteer_X5_has : GoodIn wsX3_ofVolunteer (wsV RX3 34 RX5 yX5_has wsX5_has) := goodIn_app (goodIn_of _ (by decide +kernel)) ggX3_ofVolunteer_X5_has
set_option maxRecDepth 20000 in
theorem ggX3_ofVolunteer_X7_isWithin : GoodIn wsX3_ofVolunteer wsX7_isWithin := goodIn_r _ [11] (by decide +kernel) (by decide +kernel)
set_option maxRecDepth 20000 in
theorem gX3_ofVolunteer_X7_isWithin_n40 : GoodIn wsX3_ofVolunteer (wsX7_isWithin) := ggX3_ofVolunteer_X7_isWithin
set_option maxRecDepth 20000 in
theorem ggX3_ofVolunteer_X4_mealsWith : GoodIn wsX3_ofVolunteer wsX4_mealsWith := goodIn_r _ [16, 17, 18, 19, 20, 6, 21, 8, 22, 23, 24, 25, 26, 27, 48, 49, 50, 51, 52, 53, 44, 45, 46, 47] (by decide +kernel) (by decide +kernel)
set_option maxRecDepth 20000 in
theorem gX3_ofVolunteer_X4_mealsWith : GoodIn wsX3_ofVolunteer (wsV RX3 62 RX4 yX4_mealsWith wsX4_mealsWith) := goodIn_app (goodIn_of _ (by decide +kernel)) ggX3_ofVolunteer_X4_mealsWith
set_option maxRecDepth 20000 in
theorem ggX3_ofVolunteer_X4_wayHoursLeft : GoodIn wsX3_ofVolunteer wsX4_wayHoursLeft := goodIn_r _ [31, 32, 33, 34, 35, 36, 37, 22, 23, 24, 6, 25, 26, 27, 48, 49, 50, 51, 52, 53, 44, 45, 46, 47] (by decide +kernel) (by decide +kernel)
set_option maxRecDepth 20000 in
theorem gX3_ofVolunteer_X4_wayHoursLeft : GoodIn wsX3_ofVolunteer (wsV RX3 65 RX4 yX4_wayHoursLeft wsX4_wayHoursLeft) := goodIn_app (goodIn_of _ (by decide +kernel)) ggX3_ofVolunteer_X4_wayHoursLeft
set_option maxRecDepth 20000 in
theorem ggX3_ofVolunteer_X5_at : GoodIn wsX3_ofVolunteer wsX5_at := goodIn_r _ [25, 26, 27, 44, 45, 46, 47] (by decide +kernel) (by decide +kernel)
set_option maxRecDepth 20000 in
theorem gX3_ofVolunteer_X5_at : GoodIn wsX3_ofVolunteer (wsV RX3 44 RX5 yX5_at wsX5_at) := goodIn_app (goodIn_of _ (by decide +kernel)) ggX3_ofVolunteer_X5_at
theorem dX3_ofVolunteer_0 : decode cX3_ofVolunteer 0 = .ok (.aload_n 0, 1) := by decide +kernel
theorem dX3_ofVolunteer_1 : decode cX3_ofVolunteer 1 = .ok (.getfield 33, 3) := by decide +kernel
theorem dX3_ofVolunteer_4 : decode cX3_ofVolunteer 4 = .ok (.iload_n 1, 1) := by decide +kernel
theorem dX3_ofVolunteer_5 : decode cX3_ofVolunteer 5 = .ok (.invokevirtual 34, 3) := by decide +kernel
theorem dX3_ofVolunteer_8 : decode cX3_ofVolunteer 8 = .ok (.ifCond .eq 12, 3) := by decide +kernel
theorem dX3_ofVolunteer_11 : decode cX3_ofVolunteer 11 = .ok (.iload_n 2, 1) := by decide +kernel
theorem dX3_ofVolunteer_12 : decode cX3_ofVolunteer 12 = .ok (.iconst 0, 1) := by decide +kernel
theorem dX3_ofVolunteer_13 : decode cX3_ofVolunteer 13 = .ok (.iconst 4, 1) := by decide +kernel
theorem dX3_ofVolunteer_14 : decode cX3_ofVolunteer 14 = .ok (.invokestatic 40, 3) := by decide +kernel
theorem dX3_ofVolunteer_17 : decode cX3_ofVolunteer 17 = .ok (.ifCond .ne 5, 3) := by decide +kernel
theorem dX3_ofVolunteer_20 : decode cX3_ofVolunteer 20 = .ok (.iconst (-1), 1) := by decide +kernel
theorem dX3_ofVolunteer_21 : decode cX3_ofVolunteer 21 = .ok (.ireturn, 1) := by decide +kernel
theorem dX3_ofVolunteer_22 : decode cX3_ofVolunteer 22 = .ok (.iload_n 2, 1) := by decide +kernel
theorem dX3_ofVolunteer_23 : decode cX3_ofVolunteer 23 = .ok (.lookupswitch 43 #[(2, 25), (3, 34)], 25) := by decide +kernel
theorem dX3_ofVolunteer_48 : decode cX3_ofVolunteer 48 = .ok (.aload_n 0, 1) := by decide +kernel
theorem dX3_ofVolunteer_49 : decode cX3_ofVolunteer 49 = .ok (.getfield 9, 3) := by decide +kernel
theorem dX3_ofVolunteer_52 : decode cX3_ofVolunteer 52 = .ok (.iload_n 1, 1) := by decide +kernel
theorem dX3_ofVolunteer_53 : decode cX3_ofVolunteer 53 = .ok (.invokevirtual 62, 3) := by decide +kernel
theorem dX3_ofVolunteer_56 : decode cX3_ofVolunteer 56 = .ok (.ireturn, 1) := by decide +kernel
theorem dX3_ofVolunteer_57 : decode cX3_ofVolunteer 57 = .ok (.aload_n 0, 1) := by decide +kernel
theorem dX3_ofVolunteer_58 : decode cX3_ofVolunteer 58 = .ok (.getfield 9, 3) := by decide +kernel
theorem dX3_ofVolunteer_61 : decode cX3_ofVolunteer 61 = .ok (.iload_n 1, 1) := by decide +kernel
theorem dX3_ofVolunteer_62 : decode cX3_ofVolunteer 62 = .ok (.invokevirtual 65, 3) := by decide +kernel
theorem dX3_ofVolunteer_65 : decode cX3_ofVolunteer 65 = .ok (.ireturn, 1) := by decide +kernel
theorem dX3_ofVolunteer_66 : decode cX3_ofVolunteer 66 = .ok (.aload_n 0, 1) := by decide +kernel
theorem dX3_ofVolunteer_67 : decode cX3_ofVolunteer 67 = .ok (.getfield 33, 3) := by decide +kernel
theorem dX3_ofVolunteer_70 : decode cX3_ofVolunteer 70 = .ok (.iload_n 1, 1) := by decide +kernel
theorem dX3_ofVolunteer_71 : decode cX3_ofVolunteer 71 = .ok (.iload_n 2, 1) := by decide +kernel
theorem dX3_ofVolunteer_72 : decode cX3_ofVolunteer 72 = .ok (.invokevirtual 44, 3) := by decide +kernel
theorem dX3_ofVolunteer_75 : decode cX3_ofVolunteer 75 = .ok (.ireturn, 1) := by decide +kernel
set_option maxRecDepth 20000 in
theorem ggX3_total_X5_size : GoodIn wsX3_total wsX5_size := goodIn_r _ [10, 11, 44, 45, 46, 47] (by decide +kernel) (by decide +kernel)
set_option maxRecDepth 20000 in
theorem gX3_total_X5_size : GoodIn wsX3_total (wsV RX3 68 RX5 yX5_size wsX5_size) := goodIn_app (goodIn_of _ (by decide +kernel)) ggX3_total_X5_size
set_option maxRecDepth 20000 in
theorem ggX3_total_X3_mealsAtStages : GoodIn wsX3_total wsX3_mealsAtStages := goodIn_r _ [16, 2, 6, 7, 8, 9, 10, 11, 17, 18, 19, 20, 21, 22, 23, 24, 25, 33, 34, 35, 36, 37, 44, 45, 46, 47] (by decide +kernel) (by decide +kernel)
set_option maxRecDepth 20000 in
theorem gX3_total_X3_mealsAtStages : GoodIn wsX3_total (wsV RX3 76 RX3 yX3_mealsAtStages wsX3_mealsAtStages) := goodIn_app (goodIn_of _ (by decide +kernel)) ggX3_total_X3_mealsAtStages
set_option maxRecDepth 20000 in
theorem ggX3_total_X7_isWithin : GoodIn wsX3_total wsX7_isWithin := goodIn_r _ [25] (by decide +kernel) (by decide +kernel)
set_option maxRecDepth 20000 in
theorem gX3_total_X7_isWithin_n40 : GoodIn wsX3_total (wsX7_isWithin) := ggX3_total_X7_isWithin
set_option maxRecDepth 20000 in
theorem ggX3_total_X4_setting : GoodIn wsX3_total wsX4_setting := goodIn_r _ [30, 31, 32, 18, 19, 9, 20, 21, 22, 38, 39, 40, 41, 42, 43, 44, 45, 46, 47] (by decide +kernel) (by decide +kernel)
set_option maxRecDepth 20000 in
theorem gX3_total_X4_setting : GoodIn wsX3_total (wsV RX3 79 RX4 yX4_setting wsX4_setting) := goodIn_app (goodIn_of _ (by decide +kernel)) ggX3_total_X4_setting
theorem dX3_total_0 : decode cX3_total 0 = .ok (.iload_n 1, 1) := by decide +kernel
theorem dX3_total_1 : decode cX3_total 1 = .ok (.tableswitch 141 0 10 #[59, 67, 75, 83, 91, 99, 106, 113, 120, 127, 134], 59) := by decide +kernel
theorem dX3_total_60 : decode cX3_total 60 = .ok (.aload_n 0, 1) := by decide +kernel
theorem dX3_total_61 : decode cX3_total 61 = .ok (.getfield 21, 3) := by decide +kernel
theorem dX3_total_64 : decode cX3_total 64 = .ok (.invokevirtual 68, 3) := by decide +kernel
theorem dX3_total_67 : decode cX3_total 67 = .ok (.ireturn, 1) := by decide +kernel
theorem dX3_total_68 : decode cX3_total 68 = .ok (.aload_n 0, 1) := by decide +kernel
theorem dX3_total_69 : decode cX3_total 69 = .ok (.getfield 25, 3) := by decide +kernel
theorem dX3_total_72 : decode cX3_total 72 = .ok (.invokevirtual 68, 3) := by decide +kernel
theorem dX3_total_75 : decode cX3_total 75 = .ok (.ireturn, 1) := by decide +kernel
theorem dX3_total_76 : decode cX3_total 76 = .ok (.aload_n 0, 1) := by decide +kernel
theorem dX3_total_77 : decode cX3_total 77 = .ok (.getfield 29, 3) := by decide +kernel
theorem dX3_total_80 : decode cX3_total 80 = .ok (.invokevirtual 68, 3) := by decide +kernel
theorem dX3_total_83 : decode cX3_total 83 = .ok (.ireturn, 1) := by decide +kernel
theorem dX3_total_84 : decode cX3_total 84 = .ok (.aload_n 0, 1) := by decide +kernel
theorem dX3_total_85 : decode cX3_total 85 = .ok (.getfield 33, 3) := by decide +kernel
theorem dX3_total_88 : decode cX3_total 88 = .ok (.invokevirtual 68, 3) := by decide +kernel
theorem dX3_total_91 : decode cX3_total 91 = .ok (.ireturn, 1) := by decide +kernel
theorem dX3_total_92 : decode cX3_total 92 = .ok (.aload_n 0, 1) := by decide +kernel
theorem dX3_total_93 : decode cX3_total 93 = .ok (.getfield 9, 3) := by decide +kernel
theorem dX3_total_96 : decode cX3_total 96 = .ok (.getfield 72, 3) := by decide +kernel
theorem dX3_total_99 : decode cX3_total 99 = .ok (.ireturn, 1) := by decide +kernel
theorem dX3_total_100 : decode cX3_total 100 = .ok (.aload_n 0, 1) := by decide +kernel
theorem dX3_total_101 : decode cX3_total 101 = .ok (.iconst 0, 1) := by decide +kernel
theorem dX3_total_102 : decode cX3_total 102 = .ok (.iconst 1, 1) := by decide +kernel
theorem dX3_total_103 : decode cX3_total 103 = .ok (.invokevirtual 76, 3) := by decide +kernel
theorem dX3_total_106 : decode cX3_total 106 = .ok (.ireturn, 1) := by decide +kernel
theorem dX3_total_107 : decode cX3_total 107 = .ok (.aload_n 0, 1) := by decide +kernel
theorem dX3_total_108 : decode cX3_total 108 = .ok (.iconst 2, 1) := by decide +kernel
theorem dX3_total_109 : decode cX3_total 109 = .ok (.iconst 2, 1) := by decide +kernel
theorem dX3_total_110 : decode cX3_total 110 = .ok (.invokevirtual 76, 3) := by decide +kernel
theorem dX3_total_113 : decode cX3_total 113 = .ok (.ireturn, 1) := by decide +kernel
theorem dX3_total_114 : decode cX3_total 114 = .ok (.aload_n 0, 1) := by decide +kernel
theorem dX3_total_115 : decode cX3_total 115 = .ok (.iconst 3, 1) := by decide +kernel
theorem dX3_total_116 : decode cX3_total 116 = .ok (.iconst 3, 1) := by decide +kernel
theorem dX3_total_117 : decode cX3_total 117 = .ok (.invokevirtual 76, 3) := by decide +kernel
theorem dX3_total_120 : decode cX3_total 120 = .ok (.ireturn, 1) := by decide +kernel
theorem dX3_total_121 : decode cX3_total 121 = .ok (.aload_n 0, 1) := by decide +kernel
theorem dX3_total_122 : decode cX3_total 122 = .ok (.iconst 4, 1) := by decide +kernel
theorem dX3_total_123 : decode cX3_total 123 = .ok (.iconst 4, 1) := by decide +kernel
theorem dX3_total_124 : decode cX3_total 124 = .ok (.invokevirtual 76, 3) := by decide +kernel
theorem dX3_total_127 : decode cX3_total 127 = .ok (.ireturn, 1) := by decide +kernel
theorem dX3_total_128 : decode cX3_total 128 = .ok (.aload_n 0, 1) := by decide +kernel
theorem dX3_total_129 : decode cX3_total 129 = .ok (.iconst 5, 1) := by decide +kernel
theorem dX3_total_130 : decode cX3_total 130 = .ok (.iconst 5, 1) := by decide +kernel
theorem dX3_total_131 : decode cX3_total 131 = .ok (.invokevirtual 76, 3) := by decide +kernel
theorem dX3_total_134 : decode cX3_total 134 = .ok (.ireturn, 1) := by decide +kernel
theorem dX3_total_135 : decode cX3_total 135 = .ok (.aload_n 0, 1) := by decide +kernel
theorem dX3_total_136 : decode cX3_total 136 = .ok (.iconst 1, 1) := by decide +kernel
theorem dX3_total_137 : decode cX3_total 137 = .ok (.iconst 1, 1) := by decide +kernel
theorem dX3_total_138 : decode cX3_total 138 = .ok (.invokevirtual 76, 3) := by decide +kernel
theorem dX3_total_141 : decode cX3_total 141 = .ok (.ireturn, 1) := by decide +kernel
theorem dX3_total_142 : decode cX3_total 142 = .ok (.iload_n 1, 1) := by decide +kernel
theorem dX3_total_143 : decode cX3_total 143 = .ok (.bipush 13, 2) := by decide +kernel
theorem dX3_total_145 : decode cX3_total 145 = .ok (.bipush 16, 2) := by decide +kernel
theorem dX3_total_147 : decode cX3_total 147 = .ok (.invokestatic 40, 3) := by decide +kernel
theorem dX3_total_150 : decode cX3_total 150 = .ok (.ifCond .eq 17, 3) := by decide +kernel
theorem dX3_total_153 : decode cX3_total 153 = .ok (.aload_n 0, 1) := by decide +kernel
theorem dX3_total_154 : decode cX3_total 154 = .ok (.getfield 9, 3) := by decide +kernel
theorem dX3_total_157 : decode cX3_total 157 = .ok (.iload_n 1, 1) := by decide +kernel
theorem dX3_total_158 : decode cX3_total 158 = .ok (.bipush 13, 2) := by decide +kernel
theorem dX3_total_160 : decode cX3_total 160 = .ok (.isub, 1) := by decide +kernel
theorem dX3_total_161 : decode cX3_total 161 = .ok (.invokevirtual 79, 3) := by decide +kernel
theorem dX3_total_164 : decode cX3_total 164 = .ok (.goto 4, 3) := by decide +kernel
theorem dX3_total_167 : decode cX3_total 167 = .ok (.iconst (-1), 1) := by decide +kernel
theorem dX3_total_168 : decode cX3_total 168 = .ok (.ireturn, 1) := by decide +kernel
set_option maxRecDepth 20000 in
theorem ggX3_mealsAtStages_X5_size : GoodIn wsX3_mealsAtStages wsX5_size := goodIn_r _ [6, 7, 22, 23, 24, 25] (by decide +kernel) (by decide +kernel)
set_option maxRecDepth 20000 in
theorem gX3_mealsAtStages_X5_size : GoodIn wsX3_mealsAtStages (wsV RX3 68 RX5 yX5_size wsX5_size) := goodIn_app (goodIn_of _ (by decide +kernel)) ggX3_mealsAtStages_X5_size
set_option maxRecDepth 20000 in
theorem ggX3_mealsAtStages_X5_at : GoodIn wsX3_mealsAtStages wsX5_at := goodIn_r _ [11, 12, 13, 22, 23, 24, 25] (by decide +kernel) (by decide +kernel)
set_option maxRecDepth 20000 in
theorem gX3_mealsAtStages_X5_at : GoodIn wsX3_mealsAtStages (wsV RX3 44 RX5 yX5_at wsX5_at) := goodIn_app (goodIn_of _ (by decide +kernel)) ggX3_mealsAtStages_X5_at
set_option maxRecDepth 20000 in
theorem ggX3_mealsAtStages_X7_isWithin : GoodIn wsX3_mealsAtStages wsX7_isWithin := goodIn_r _ [16] (by decide +kernel) (by decide +kernel)
set_option maxRecDepth 20000 in
theorem gX3_mealsAtStages_X7_isWithin_n40 : GoodIn wsX3_mealsAtStages (wsX7_isWithin) := ggX3_mealsAtStages_X7_isWithin
theorem dX3_mealsAtStages_0 : decode cX3_mealsAtStages 0 = .ok (.iconst 0, 1) := by decide +kernel
theorem dX3_mealsAtStages_1 : decode cX3_mealsAtStages 1 = .ok (.istore_n 3, 1) := by decide +kernel
theorem dX3_mealsAtStages_2 : decode cX3_mealsAtStages 2 = .ok (.iconst 0, 1) := by decide +kernel
theorem dX3_mealsAtStages_3 : decode cX3_mealsAtStages 3 = .ok (.istore 4, 2) := by decide +kernel
theorem dX3_mealsAtStages_5 : decode cX3_mealsAtStages 5 = .ok (.iload 4, 2) := by decide +kernel
theorem dX3_mealsAtStages_7 : decode cX3_mealsAtStages 7 = .ok (.aload_n 0, 1) := by decide +kernel
theorem dX3_mealsAtStages_8 : decode cX3_mealsAtStages 8 = .ok (.getfield 25, 3) := by decide +kernel
theorem dX3_mealsAtStages_11 : decode cX3_mealsAtStages 11 = .ok (.invokevirtual 68, 3) := by decide +kernel
theorem dX3_mealsAtStages_14 : decode cX3_mealsAtStages 14 = .ok (.if_icmp .ge 30, 3) := by decide +kernel
theorem dX3_mealsAtStages_17 : decode cX3_mealsAtStages 17 = .ok (.aload_n 0, 1) := by decide +kernel
theorem dX3_mealsAtStages_18 : decode cX3_mealsAtStages 18 = .ok (.getfield 25, 3) := by decide +kernel
theorem dX3_mealsAtStages_21 : decode cX3_mealsAtStages 21 = .ok (.iload 4, 2) := by decide +kernel
theorem dX3_mealsAtStages_23 : decode cX3_mealsAtStages 23 = .ok (.iconst 0, 1) := by decide +kernel
theorem dX3_mealsAtStages_24 : decode cX3_mealsAtStages 24 = .ok (.invokevirtual 44, 3) := by decide +kernel
theorem dX3_mealsAtStages_27 : decode cX3_mealsAtStages 27 = .ok (.iload_n 1, 1) := by decide +kernel
theorem dX3_mealsAtStages_28 : decode cX3_mealsAtStages 28 = .ok (.iload_n 2, 1) := by decide +kernel
theorem dX3_mealsAtStages_29 : decode cX3_mealsAtStages 29 = .ok (.invokestatic 40, 3) := by decide +kernel
theorem dX3_mealsAtStages_32 : decode cX3_mealsAtStages 32 = .ok (.ifCond .eq 6, 3) := by decide +kernel
theorem dX3_mealsAtStages_35 : decode cX3_mealsAtStages 35 = .ok (.iinc 3 1, 3) := by decide +kernel
theorem dX3_mealsAtStages_38 : decode cX3_mealsAtStages 38 = .ok (.iinc 4 1, 3) := by decide +kernel
theorem dX3_mealsAtStages_41 : decode cX3_mealsAtStages 41 = .ok (.goto (-36), 3) := by decide +kernel
theorem dX3_mealsAtStages_44 : decode cX3_mealsAtStages 44 = .ok (.iload_n 3, 1) := by decide +kernel
theorem dX3_mealsAtStages_45 : decode cX3_mealsAtStages 45 = .ok (.ireturn, 1) := by decide +kernel
set_option maxRecDepth 20000 in
theorem ggX3_bitsOfFetchedShare_X3_mealsAtStages : GoodIn wsX3_bitsOfFetchedShare wsX3_mealsAtStages := goodIn_r _ [5, 6, 7, 8, 9, 10, 11, 12, 13, 14, 15, 16, 17, 18, 19, 20, 21, 26, 27, 28, 29, 30, 31, 32, 33, 34] (by decide +kernel) (by decide +kernel)
set_option maxRecDepth 20000 in
theorem gX3_bitsOfFetchedShare_X3_mealsAtStages : GoodIn wsX3_bitsOfFetchedShare (wsV RX3 76 RX3 yX3_mealsAtStages wsX3_mealsAtStages) := goodIn_app (goodIn_of _ (by decide +kernel)) ggX3_bitsOfFetchedShare_X3_mealsAtStages
set_option maxRecDepth 20000 in
theorem ggX3_bitsOfFetchedShare_X3_floatBits : GoodIn wsX3_bitsOfFetchedShare wsX3_floatBits := goodIn_r _ [24, 25] (by decide +kernel) (by decide +kernel)
set_option maxRecDepth 20000 in
theorem gX3_bitsOfFetchedShare_X3_floatBits : GoodIn wsX3_bitsOfFetchedShare (va_wsS RX3 103 yX3_floatBits wsX3_floatBits) := goodIn_app (goodIn_of _ (by decide +kernel)) ggX3_bitsOfFetchedShare_X3_floatBits
theorem dX3_bitsOfFetchedShare_0 : decode cX3_bitsOfFetchedShare 0 = .ok (.aload_n 0, 1) := by decide +kernel
theorem dX3_bitsOfFetchedShare_1 : decode cX3_bitsOfFetchedShare 1 = .ok (.iconst 3, 1) := by decide +kernel
theorem dX3_bitsOfFetchedShare_2 : decode cX3_bitsOfFetchedShare 2 = .ok (.iconst 5, 1) := by decide +kernel
theorem dX3_bitsOfFetchedShare_3 : decode cX3_bitsOfFetchedShare 3 = .ok (.invokevirtual 76, 3) := by decide +kernel
theorem dX3_bitsOfFetchedShare_6 : decode cX3_bitsOfFetchedShare 6 = .ok (.istore_n 1, 1) := by decide +kernel
theorem dX3_bitsOfFetchedShare_7 : decode cX3_bitsOfFetchedShare 7 = .ok (.iload_n 1, 1) := by decide +kernel
theorem dX3_bitsOfFetchedShare_8 : decode cX3_bitsOfFetchedShare 8 = .ok (.ifCond .gt 6, 3) := by decide +kernel
theorem dX3_bitsOfFetchedShare_11 : decode cX3_bitsOfFetchedShare 11 = .ok (.bipush (-4), 2) := by decide +kernel
theorem dX3_bitsOfFetchedShare_13 : decode cX3_bitsOfFetchedShare 13 = .ok (.ireturn, 1) := by decide +kernel
theorem dX3_bitsOfFetchedShare_14 : decode cX3_bitsOfFetchedShare 14 = .ok (.aload_n 0, 1) := by decide +kernel
theorem dX3_bitsOfFetchedShare_15 : decode cX3_bitsOfFetchedShare 15 = .ok (.iconst 3, 1) := by decide +kernel
theorem dX3_bitsOfFetchedShare_16 : decode cX3_bitsOfFetchedShare 16 = .ok (.iconst 3, 1) := by decide +kernel
theorem dX3_bitsOfFetchedShare_17 : decode cX3_bitsOfFetchedShare 17 = .ok (.invokevirtual 76, 3) := by decide +kernel
theorem dX3_bitsOfFetchedShare_20 : decode cX3_bitsOfFetchedShare 20 = .ok (.i2f, 1) := by decide +kernel
theorem dX3_bitsOfFetchedShare_21 : decode cX3_bitsOfFetchedShare 21 = .ok (.iload_n 1, 1) := by decide +kernel
theorem dX3_bitsOfFetchedShare_22 : decode cX3_bitsOfFetchedShare 22 = .ok (.i2f, 1) := by decide +kernel
theorem dX3_bitsOfFetchedShare_23 : decode cX3_bitsOfFetchedShare 23 = .ok (.fdiv, 1) := by decide +kernel
theorem dX3_bitsOfFetchedShare_24 : decode cX3_bitsOfFetchedShare 24 = .ok (.invokestatic 103, 3) := by decide +kernel
theorem dX3_bitsOfFetchedShare_27 : decode cX3_bitsOfFetchedShare 27 = .ok (.ireturn, 1) := by decide +kernel
theorem dX3_floatBits_0 : decode cX3_floatBits 0 = .ok (.fload_n 0, 1) := by decide +kernel
theorem dX3_floatBits_1 : decode cX3_floatBits 1 = .ok (.fconst 0, 1) := by decide +kernel
theorem dX3_floatBits_2 : decode cX3_floatBits 2 = .ok (.fcmp .g, 1) := by decide +kernel
theorem dX3_floatBits_3 : decode cX3_floatBits 3 = .ok (.ifCond .gt 5, 3) := by decide +kernel
theorem dX3_floatBits_6 : decode cX3_floatBits 6 = .ok (.iconst 0, 1) := by decide +kernel
theorem dX3_floatBits_7 : decode cX3_floatBits 7 = .ok (.ireturn, 1) := by decide +kernel
theorem dX3_floatBits_8 : decode cX3_floatBits 8 = .ok (.fload_n 0, 1) := by decide +kernel
theorem dX3_floatBits_9 : decode cX3_floatBits 9 = .ok (.fstore_n 1, 1) := by decide +kernel
theorem dX3_floatBits_10 : decode cX3_floatBits 10 = .ok (.bipush 127, 2) := by decide +kernel
theorem dX3_floatBits_12 : decode cX3_floatBits 12 = .ok (.istore_n 2, 1) := by decide +kernel
theorem dX3_floatBits_13 : decode cX3_floatBits 13 = .ok (.iconst 0, 1) := by decide +kernel
theorem dX3_floatBits_14 : decode cX3_floatBits 14 = .ok (.istore_n 3, 1) := by decide +kernel
theorem dX3_floatBits_15 : decode cX3_floatBits 15 = .ok (.iload_n 3, 1) := by decide +kernel
theorem dX3_floatBits_16 : decode cX3_floatBits 16 = .ok (.iconst 5, 1) := by decide +kernel
theorem dX3_floatBits_17 : decode cX3_floatBits 17 = .ok (.if_icmp .ge 22, 3) := by decide +kernel
theorem dX3_floatBits_20 : decode cX3_floatBits 20 = .ok (.fload_n 1, 1) := by decide +kernel
theorem dX3_floatBits_21 : decode cX3_floatBits 21 = .ok (.fconst 1, 1) := by decide +kernel
theorem dX3_floatBits_22 : decode cX3_floatBits 22 = .ok (.fcmp .g, 1) := by decide +kernel
theorem dX3_floatBits_23 : decode cX3_floatBits 23 = .ok (.ifCond .ge 16, 3) := by decide +kernel
theorem dX3_floatBits_26 : decode cX3_floatBits 26 = .ok (.fload_n 1, 1) := by decide +kernel
theorem dX3_floatBits_27 : decode cX3_floatBits 27 = .ok (.fconst 2, 1) := by decide +kernel
theorem dX3_floatBits_28 : decode cX3_floatBits 28 = .ok (.fmul, 1) := by decide +kernel
theorem dX3_floatBits_29 : decode cX3_floatBits 29 = .ok (.fstore_n 1, 1) := by decide +kernel
theorem dX3_floatBits_30 : decode cX3_floatBits 30 = .ok (.iinc 2 (-1), 3) := by decide +kernel
theorem dX3_floatBits_33 : decode cX3_floatBits 33 = .ok (.iinc 3 1, 3) := by decide +kernel
theorem dX3_floatBits_36 : decode cX3_floatBits 36 = .ok (.goto (-21), 3) := by decide +kernel
theorem dX3_floatBits_39 : decode cX3_floatBits 39 = .ok (.fload_n 1, 1) := by decide +kernel
theorem dX3_floatBits_40 : decode cX3_floatBits 40 = .ok (.fconst 1, 1) := by decide +kernel
theorem dX3_floatBits_41 : decode cX3_floatBits 41 = .ok (.fsub, 1) := by decide +kernel
theorem dX3_floatBits_42 : decode cX3_floatBits 42 = .ok (.ldc 107, 2) := by decide +kernel
theorem dX3_floatBits_44 : decode cX3_floatBits 44 = .ok (.fmul, 1) := by decide +kernel
theorem dX3_floatBits_45 : decode cX3_floatBits 45 = .ok (.f2i, 1) := by decide +kernel
theorem dX3_floatBits_46 : decode cX3_floatBits 46 = .ok (.istore_n 3, 1) := by decide +kernel
theorem dX3_floatBits_47 : decode cX3_floatBits 47 = .ok (.iload_n 2, 1) := by decide +kernel
theorem dX3_floatBits_48 : decode cX3_floatBits 48 = .ok (.bipush 23, 2) := by decide +kernel
theorem dX3_floatBits_50 : decode cX3_floatBits 50 = .ok (.ishl, 1) := by decide +kernel
theorem dX3_floatBits_51 : decode cX3_floatBits 51 = .ok (.iload_n 3, 1) := by decide +kernel
theorem dX3_floatBits_52 : decode cX3_floatBits 52 = .ok (.ior, 1) := by decide +kernel
theorem dX3_floatBits_53 : decode cX3_floatBits 53 = .ok (.ireturn, 1) := by decide +kernel
set_option maxRecDepth 20000 in
theorem ggX4_init_X5_init : GoodIn wsX4_init wsX5_init := goodIn_r _ [14, 15, 2, 3, 16, 17, 18, 19, 20, 21, 22, 23, 33, 34, 35, 36] (by decide +kernel) (by decide +kernel)
set_option maxRecDepth 20000 in
theorem gX4_init_X5_init : GoodIn wsX4_init (wsX5_init) := ggX4_init_X5_init
set_option maxRecDepth 20000 in
theorem ggX4_init_X5_addRow : GoodIn wsX4_init wsX5_addRow := goodIn_r _ [27, 28, 33, 34, 35, 36] (by decide +kernel) (by decide +kernel)
set_option maxRecDepth 20000 in
theorem gX4_init_X5_addRow : GoodIn wsX4_init (wsV RX4 36 RX5 yX5_addRow wsX5_addRow) := goodIn_app (goodIn_of _ (by decide +kernel)) ggX4_init_X5_addRow
set_option maxRecDepth 20000 in
theorem ggX4_init_X5_store : GoodIn wsX4_init wsX5_store := goodIn_r _ [32, 17, 23, 33, 34, 35, 36] (by decide +kernel) (by decide +kernel)
set_option maxRecDepth 20000 in
theorem gX4_init_X5_store : GoodIn wsX4_init (wsV RX4 40 RX5 yX5_store wsX5_store) := goodIn_app (goodIn_of _ (by decide +kernel)) ggX4_init_X5_store
theorem dX4_init_0 : decode cX4_init 0 = .ok (.aload_n 0, 1) := by decide +kernel
theorem dX4_init_1 : decode cX4_init 1 = .ok (.invokespecial 3, 3) := by decide +kernel
theorem dX4_init_4 : decode cX4_init 4 = .ok (.aload_n 0, 1) := by decide +kernel
theorem dX4_init_5 : decode cX4_init 5 = .ok (.new 9, 3) := by decide +kernel
theorem dX4_init_8 : decode cX4_init 8 = .ok (.dup, 1) := by decide +kernel
theorem dX4_init_9 : decode cX4_init 9 = .ok (.iconst 5, 1) := by decide +kernel
theorem dX4_init_10 : decode cX4_init 10 = .ok (.bipush 9, 2) := by decide +kernel
theorem dX4_init_12 : decode cX4_init 12 = .ok (.invokespecial 11, 3) := by decide +kernel
theorem dX4_init_15 : decode cX4_init 15 = .ok (.putfield 14, 3) := by decide +kernel
theorem dX4_init_18 : decode cX4_init 18 = .ok (.aload_n 0, 1) := by decide +kernel
theorem dX4_init_19 : decode cX4_init 19 = .ok (.new 9, 3) := by decide +kernel
theorem dX4_init_22 : decode cX4_init 22 = .ok (.dup, 1) := by decide +kernel
theorem dX4_init_23 : decode cX4_init 23 = .ok (.bipush 24, 2) := by decide +kernel
theorem dX4_init_25 : decode cX4_init 25 = .ok (.bipush 8, 2) := by decide +kernel
theorem dX4_init_27 : decode cX4_init 27 = .ok (.invokespecial 11, 3) := by decide +kernel
theorem dX4_init_30 : decode cX4_init 30 = .ok (.putfield 20, 3) := by decide +kernel
theorem dX4_init_33 : decode cX4_init 33 = .ok (.aload_n 0, 1) := by decide +kernel
theorem dX4_init_34 : decode cX4_init 34 = .ok (.new 9, 3) := by decide +kernel
theorem dX4_init_37 : decode cX4_init 37 = .ok (.dup, 1) := by decide +kernel
theorem dX4_init_38 : decode cX4_init 38 = .ok (.bipush 8, 2) := by decide +kernel
theorem dX4_init_40 : decode cX4_init 40 = .ok (.bipush 6, 2) := by decide +kernel
theorem dX4_init_42 : decode cX4_init 42 = .ok (.invokespecial 11, 3) := by decide +kernel
theorem dX4_init_45 : decode cX4_init 45 = .ok (.putfield 23, 3) := by decide +kernel
theorem dX4_init_48 : decode cX4_init 48 = .ok (.aload_n 0, 1) := by decide +kernel
theorem dX4_init_49 : decode cX4_init 49 = .ok (.new 9, 3) := by decide +kernel
theorem dX4_init_52 : decode cX4_init 52 = .ok (.dup, 1) := by decide +kernel
theorem dX4_init_53 : decode cX4_init 53 = .ok (.iconst 3, 1) := by decide +kernel
theorem dX4_init_54 : decode cX4_init 54 = .ok (.iconst 5, 1) := by decide +kernel
theorem dX4_init_55 : decode cX4_init 55 = .ok (.invokespecial 11, 3) := by decide +kernel
theorem dX4_init_58 : decode cX4_init 58 = .ok (.putfield 26, 3) := by decide +kernel
theorem dX4_init_61 : decode cX4_init 61 = .ok (.aload_n 0, 1) := by decide +kernel
theorem dX4_init_62 : decode cX4_init 62 = .ok (.new 9, 3) := by decide +kernel
theorem dX4_init_65 : decode cX4_init 65 = .ok (.dup, 1) := by decide +kernel
theorem dX4_init_66 : decode cX4_init 66 = .ok (.iconst 4, 1) := by decide +kernel
theorem dX4_init_67 : decode cX4_init 67 = .ok (.iconst 1, 1) := by decide +kernel
theorem dX4_init_68 : decode cX4_init 68 = .ok (.invokespecial 11, 3) := by decide +kernel
theorem dX4_init_71 : decode cX4_init 71 = .ok (.putfield 29, 3) := by decide +kernel
theorem dX4_init_74 : decode cX4_init 74 = .ok (.iconst 0, 1) := by decide +kernel
theorem dX4_init_75 : decode cX4_init 75 = .ok (.istore_n 1, 1) := by decide +kernel
theorem dX4_init_76 : decode cX4_init 76 = .ok (.iload_n 1, 1) := by decide +kernel
theorem dX4_init_77 : decode cX4_init 77 = .ok (.getstatic 32, 3) := by decide +kernel
theorem dX4_init_80 : decode cX4_init 80 = .ok (.arraylength, 1) := by decide +kernel
theorem dX4_init_81 : decode cX4_init 81 = .ok (.if_icmp .ge 29, 3) := by decide +kernel
theorem dX4_init_84 : decode cX4_init 84 = .ok (.aload_n 0, 1) := by decide +kernel
theorem dX4_init_85 : decode cX4_init 85 = .ok (.getfield 29, 3) := by decide +kernel
theorem dX4_init_88 : decode cX4_init 88 = .ok (.aload_n 0, 1) := by decide +kernel
theorem dX4_init_89 : decode cX4_init 89 = .ok (.getfield 29, 3) := by decide +kernel
theorem dX4_init_92 : decode cX4_init 92 = .ok (.invokevirtual 36, 3) := by decide +kernel
theorem dX4_init_95 : decode cX4_init 95 = .ok (.iconst 0, 1) := by decide +kernel
theorem dX4_init_96 : decode cX4_init 96 = .ok (.getstatic 32, 3) := by decide +kernel
theorem dX4_init_99 : decode cX4_init 99 = .ok (.iload_n 1, 1) := by decide +kernel
theorem dX4_init_100 : decode cX4_init 100 = .ok (.iaload, 1) := by decide +kernel
theorem dX4_init_101 : decode cX4_init 101 = .ok (.invokevirtual 40, 3) := by decide +kernel
theorem dX4_init_104 : decode cX4_init 104 = .ok (.iinc 1 1, 3) := by decide +kernel
theorem dX4_init_107 : decode cX4_init 107 = .ok (.goto (-31), 3) := by decide +kernel
theorem dX4_init_110 : decode cX4_init 110 = .ok (.return_, 1) := by decide +kernel
set_option maxRecDepth 20000 in
theorem ggX4_copyFrom_X5_copyFrom : GoodIn wsX4_copyFrom wsX5_copyFrom := goodIn_r _ [11, 12, 13, 20, 21, 22, 23] (by decide +kernel) (by decide +kernel)
set_option maxRecDepth 20000 in
theorem gX4_copyFrom_X5_copyFrom : GoodIn wsX4_copyFrom (wsV RX4 44 RX5 yX5_copyFrom wsX5_copyFrom) := goodIn_app (goodIn_of _ (by decide +kernel)) ggX4_copyFrom_X5_copyFrom
theorem dX4_copyFrom_0 : decode cX4_copyFrom 0 = .ok (.aload_n 0, 1) := by decide +kernel
theorem dX4_copyFrom_1 : decode cX4_copyFrom 1 = .ok (.getfield 14, 3) := by decide +kernel
theorem dX4_copyFrom_4 : decode cX4_copyFrom 4 = .ok (.aload_n 1, 1) := by decide +kernel
theorem dX4_copyFrom_5 : decode cX4_copyFrom 5 = .ok (.getfield 14, 3) := by decide +kernel
theorem dX4_copyFrom_8 : decode cX4_copyFrom 8 = .ok (.invokevirtual 44, 3) := by decide +kernel
theorem dX4_copyFrom_11 : decode cX4_copyFrom 11 = .ok (.aload_n 0, 1) := by decide +kernel
theorem dX4_copyFrom_12 : decode cX4_copyFrom 12 = .ok (.getfield 20, 3) := by decide +kernel
theorem dX4_copyFrom_15 : decode cX4_copyFrom 15 = .ok (.aload_n 1, 1) := by decide +kernel
