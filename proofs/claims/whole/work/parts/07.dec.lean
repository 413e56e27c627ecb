theorem dX8_lays_9 : decode cX8_lays 9 = .ok (.iconst 0, 1) := by decide +kernel
theorem dX8_lays_10 : decode cX8_lays 10 = .ok (.istore 4, 2) := by decide +kernel
theorem dX8_lays_12 : decode cX8_lays 12 = .ok (.iload 4, 2) := by decide +kernel
theorem dX8_lays_14 : decode cX8_lays 14 = .ok (.aload_n 0, 1) := by decide +kernel
theorem dX8_lays_15 : decode cX8_lays 15 = .ok (.getfield 7, 3) := by decide +kernel
theorem dX8_lays_18 : decode cX8_lays 18 = .ok (.iconst 1, 1) := by decide +kernel
theorem dX8_lays_19 : decode cX8_lays 19 = .ok (.iaload, 1) := by decide +kernel
theorem dX8_lays_20 : decode cX8_lays 20 = .ok (.if_icmp .ge 52, 3) := by decide +kernel
theorem dX8_lays_23 : decode cX8_lays 23 = .ok (.aload_n 0, 1) := by decide +kernel
theorem dX8_lays_24 : decode cX8_lays 24 = .ok (.iload 4, 2) := by decide +kernel
theorem dX8_lays_26 : decode cX8_lays 26 = .ok (.iload_n 1, 1) := by decide +kernel
theorem dX8_lays_27 : decode cX8_lays 27 = .ok (.invokevirtual 41, 3) := by decide +kernel
theorem dX8_lays_30 : decode cX8_lays 30 = .ok (.ifCond .eq 36, 3) := by decide +kernel
theorem dX8_lays_33 : decode cX8_lays 33 = .ok (.aload_n 0, 1) := by decide +kernel
theorem dX8_lays_34 : decode cX8_lays 34 = .ok (.iload_n 2, 1) := by decide +kernel
theorem dX8_lays_35 : decode cX8_lays 35 = .ok (.invokevirtual 68, 3) := by decide +kernel
theorem dX8_lays_38 : decode cX8_lays 38 = .ok (.ifCond .le 28, 3) := by decide +kernel
theorem dX8_lays_41 : decode cX8_lays 41 = .ok (.aload_n 0, 1) := by decide +kernel
theorem dX8_lays_42 : decode cX8_lays 42 = .ok (.iload 4, 2) := by decide +kernel
theorem dX8_lays_44 : decode cX8_lays 44 = .ok (.iconst 0, 1) := by decide +kernel
theorem dX8_lays_45 : decode cX8_lays 45 = .ok (.iconst 0, 1) := by decide +kernel
theorem dX8_lays_46 : decode cX8_lays 46 = .ok (.invokevirtual 64, 3) := by decide +kernel
theorem dX8_lays_49 : decode cX8_lays 49 = .ok (.aload_n 0, 1) := by decide +kernel
theorem dX8_lays_50 : decode cX8_lays 50 = .ok (.iload 4, 2) := by decide +kernel
theorem dX8_lays_52 : decode cX8_lays 52 = .ok (.iconst 1, 1) := by decide +kernel
theorem dX8_lays_53 : decode cX8_lays 53 = .ok (.iload_n 2, 1) := by decide +kernel
theorem dX8_lays_54 : decode cX8_lays 54 = .ok (.invokevirtual 64, 3) := by decide +kernel
theorem dX8_lays_57 : decode cX8_lays 57 = .ok (.aload_n 0, 1) := by decide +kernel
theorem dX8_lays_58 : decode cX8_lays 58 = .ok (.iload_n 2, 1) := by decide +kernel
theorem dX8_lays_59 : decode cX8_lays 59 = .ok (.iconst 3, 1) := by decide +kernel
theorem dX8_lays_60 : decode cX8_lays 60 = .ok (.invokevirtual 60, 3) := by decide +kernel
theorem dX8_lays_63 : decode cX8_lays 63 = .ok (.iinc 3 1, 3) := by decide +kernel
theorem dX8_lays_66 : decode cX8_lays 66 = .ok (.iinc 4 1, 3) := by decide +kernel
theorem dX8_lays_69 : decode cX8_lays 69 = .ok (.goto (-57), 3) := by decide +kernel
theorem dX8_lays_72 : decode cX8_lays 72 = .ok (.iload_n 3, 1) := by decide +kernel
theorem dX8_lays_73 : decode cX8_lays 73 = .ok (.ireturn, 1) := by decide +kernel
set_option maxRecDepth 20000 in
theorem ggX8_lapses_X8_ofMeal : GoodIn wsX8_lapses wsX8_ofMeal := goodIn_r _ [6, 1, 19, 20, 21, 22, 23, 24, 25, 26, 27, 28] (by decide +kernel) (by decide +kernel)
set_option maxRecDepth 20000 in
theorem gX8_lapses_X8_ofMeal : GoodIn wsX8_lapses (wsV RX8 33 RX8 yX8_ofMeal wsX8_ofMeal) := goodIn_app (goodIn_of _ (by decide +kernel)) ggX8_lapses_X8_ofMeal
set_option maxRecDepth 20000 in
theorem ggX8_lapses_X8_setMeal : GoodIn wsX8_lapses wsX8_setMeal := goodIn_r _ [10, 1, 19, 20, 21, 22, 23, 24, 25, 26, 27, 28] (by decide +kernel) (by decide +kernel)
set_option maxRecDepth 20000 in
theorem gX8_lapses_X8_setMeal : GoodIn wsX8_lapses (wsV RX8 64 RX8 yX8_setMeal wsX8_setMeal) := goodIn_app (goodIn_of _ (by decide +kernel)) ggX8_lapses_X8_setMeal
set_option maxRecDepth 20000 in
theorem ggX8_lapses_X8_ofPerson : GoodIn wsX8_lapses wsX8_ofPerson := goodIn_r _ [14, 1, 19, 20, 21, 22, 23, 24, 25, 26, 27, 28] (by decide +kernel) (by decide +kernel)
set_option maxRecDepth 20000 in
theorem gX8_lapses_X8_ofPerson : GoodIn wsX8_lapses (wsV RX8 54 RX8 yX8_ofPerson wsX8_ofPerson) := goodIn_app (goodIn_of _ (by decide +kernel)) ggX8_lapses_X8_ofPerson
set_option maxRecDepth 20000 in
theorem ggX8_lapses_X8_setPerson : GoodIn wsX8_lapses wsX8_setPerson := goodIn_r _ [18, 1, 19, 20, 21, 22, 23, 24, 25, 26, 27, 28] (by decide +kernel) (by decide +kernel)
set_option maxRecDepth 20000 in
theorem gX8_lapses_X8_setPerson : GoodIn wsX8_lapses (wsV RX8 71 RX8 yX8_setPerson wsX8_setPerson) := goodIn_app (goodIn_of _ (by decide +kernel)) ggX8_lapses_X8_setPerson
theorem dX8_lapses_0 : decode cX8_lapses 0 = .ok (.aload_n 0, 1) := by decide +kernel
theorem dX8_lapses_1 : decode cX8_lapses 1 = .ok (.iload_n 1, 1) := by decide +kernel
theorem dX8_lapses_2 : decode cX8_lapses 2 = .ok (.iconst 5, 1) := by decide +kernel
theorem dX8_lapses_3 : decode cX8_lapses 3 = .ok (.invokevirtual 33, 3) := by decide +kernel
theorem dX8_lapses_6 : decode cX8_lapses 6 = .ok (.istore_n 2, 1) := by decide +kernel
theorem dX8_lapses_7 : decode cX8_lapses 7 = .ok (.aload_n 0, 1) := by decide +kernel
theorem dX8_lapses_8 : decode cX8_lapses 8 = .ok (.iload_n 1, 1) := by decide +kernel
theorem dX8_lapses_9 : decode cX8_lapses 9 = .ok (.iconst 0, 1) := by decide +kernel
theorem dX8_lapses_10 : decode cX8_lapses 10 = .ok (.iconst 0, 1) := by decide +kernel
theorem dX8_lapses_11 : decode cX8_lapses 11 = .ok (.invokevirtual 64, 3) := by decide +kernel
theorem dX8_lapses_14 : decode cX8_lapses 14 = .ok (.aload_n 0, 1) := by decide +kernel
theorem dX8_lapses_15 : decode cX8_lapses 15 = .ok (.iload_n 1, 1) := by decide +kernel
theorem dX8_lapses_16 : decode cX8_lapses 16 = .ok (.iconst 5, 1) := by decide +kernel
theorem dX8_lapses_17 : decode cX8_lapses 17 = .ok (.iconst (-1), 1) := by decide +kernel
theorem dX8_lapses_18 : decode cX8_lapses 18 = .ok (.invokevirtual 64, 3) := by decide +kernel
theorem dX8_lapses_21 : decode cX8_lapses 21 = .ok (.aload_n 0, 1) := by decide +kernel
theorem dX8_lapses_22 : decode cX8_lapses 22 = .ok (.iload_n 2, 1) := by decide +kernel
theorem dX8_lapses_23 : decode cX8_lapses 23 = .ok (.iconst 4, 1) := by decide +kernel
theorem dX8_lapses_24 : decode cX8_lapses 24 = .ok (.aload_n 0, 1) := by decide +kernel
theorem dX8_lapses_25 : decode cX8_lapses 25 = .ok (.iload_n 2, 1) := by decide +kernel
theorem dX8_lapses_26 : decode cX8_lapses 26 = .ok (.iconst 4, 1) := by decide +kernel
theorem dX8_lapses_27 : decode cX8_lapses 27 = .ok (.invokevirtual 54, 3) := by decide +kernel
theorem dX8_lapses_30 : decode cX8_lapses 30 = .ok (.iconst 1, 1) := by decide +kernel
theorem dX8_lapses_31 : decode cX8_lapses 31 = .ok (.iadd, 1) := by decide +kernel
theorem dX8_lapses_32 : decode cX8_lapses 32 = .ok (.invokevirtual 71, 3) := by decide +kernel
theorem dX8_lapses_35 : decode cX8_lapses 35 = .ok (.aload_n 0, 1) := by decide +kernel
theorem dX8_lapses_36 : decode cX8_lapses 36 = .ok (.iload_n 2, 1) := by decide +kernel
theorem dX8_lapses_37 : decode cX8_lapses 37 = .ok (.iconst 1, 1) := by decide +kernel
theorem dX8_lapses_38 : decode cX8_lapses 38 = .ok (.aload_n 0, 1) := by decide +kernel
theorem dX8_lapses_39 : decode cX8_lapses 39 = .ok (.iload_n 2, 1) := by decide +kernel
theorem dX8_lapses_40 : decode cX8_lapses 40 = .ok (.iconst 1, 1) := by decide +kernel
theorem dX8_lapses_41 : decode cX8_lapses 41 = .ok (.invokevirtual 54, 3) := by decide +kernel
theorem dX8_lapses_44 : decode cX8_lapses 44 = .ok (.iconst 1, 1) := by decide +kernel
theorem dX8_lapses_45 : decode cX8_lapses 45 = .ok (.iadd, 1) := by decide +kernel
theorem dX8_lapses_46 : decode cX8_lapses 46 = .ok (.invokevirtual 71, 3) := by decide +kernel
theorem dX8_lapses_49 : decode cX8_lapses 49 = .ok (.aload_n 0, 1) := by decide +kernel
theorem dX8_lapses_50 : decode cX8_lapses 50 = .ok (.iload_n 2, 1) := by decide +kernel
theorem dX8_lapses_51 : decode cX8_lapses 51 = .ok (.iconst 1, 1) := by decide +kernel
theorem dX8_lapses_52 : decode cX8_lapses 52 = .ok (.invokevirtual 54, 3) := by decide +kernel
theorem dX8_lapses_55 : decode cX8_lapses 55 = .ok (.aload_n 0, 1) := by decide +kernel
theorem dX8_lapses_56 : decode cX8_lapses 56 = .ok (.getfield 7, 3) := by decide +kernel
theorem dX8_lapses_59 : decode cX8_lapses 59 = .ok (.bipush 6, 2) := by decide +kernel
theorem dX8_lapses_61 : decode cX8_lapses 61 = .ok (.iaload, 1) := by decide +kernel
theorem dX8_lapses_62 : decode cX8_lapses 62 = .ok (.if_icmp .lt 30, 3) := by decide +kernel
theorem dX8_lapses_65 : decode cX8_lapses 65 = .ok (.aload_n 0, 1) := by decide +kernel
theorem dX8_lapses_66 : decode cX8_lapses 66 = .ok (.iload_n 2, 1) := by decide +kernel
theorem dX8_lapses_67 : decode cX8_lapses 67 = .ok (.iconst 1, 1) := by decide +kernel
theorem dX8_lapses_68 : decode cX8_lapses 68 = .ok (.iconst 0, 1) := by decide +kernel
theorem dX8_lapses_69 : decode cX8_lapses 69 = .ok (.invokevirtual 71, 3) := by decide +kernel
theorem dX8_lapses_72 : decode cX8_lapses 72 = .ok (.aload_n 0, 1) := by decide +kernel
theorem dX8_lapses_73 : decode cX8_lapses 73 = .ok (.iload_n 2, 1) := by decide +kernel
theorem dX8_lapses_74 : decode cX8_lapses 74 = .ok (.iconst 2, 1) := by decide +kernel
theorem dX8_lapses_75 : decode cX8_lapses 75 = .ok (.aload_n 0, 1) := by decide +kernel
theorem dX8_lapses_76 : decode cX8_lapses 76 = .ok (.getfield 7, 3) := by decide +kernel
theorem dX8_lapses_79 : decode cX8_lapses 79 = .ok (.iconst 4, 1) := by decide +kernel
theorem dX8_lapses_80 : decode cX8_lapses 80 = .ok (.iaload, 1) := by decide +kernel
theorem dX8_lapses_81 : decode cX8_lapses 81 = .ok (.aload_n 0, 1) := by decide +kernel
theorem dX8_lapses_82 : decode cX8_lapses 82 = .ok (.getfield 7, 3) := by decide +kernel
theorem dX8_lapses_85 : decode cX8_lapses 85 = .ok (.bipush 7, 2) := by decide +kernel
theorem dX8_lapses_87 : decode cX8_lapses 87 = .ok (.iaload, 1) := by decide +kernel
theorem dX8_lapses_88 : decode cX8_lapses 88 = .ok (.iadd, 1) := by decide +kernel
theorem dX8_lapses_89 : decode cX8_lapses 89 = .ok (.invokevirtual 71, 3) := by decide +kernel
theorem dX8_lapses_92 : decode cX8_lapses 92 = .ok (.return_, 1) := by decide +kernel
set_option maxRecDepth 20000 in
theorem ggX8_hour_X8_ofHelper : GoodIn wsX8_hour wsX8_ofHelper := goodIn_r _ [6, 1, 74, 75, 76, 77, 78, 79, 80, 81, 82, 83] (by decide +kernel) (by decide +kernel)
set_option maxRecDepth 20000 in
theorem gX8_hour_X8_ofHelper : GoodIn wsX8_hour (wsV RX8 57 RX8 yX8_ofHelper wsX8_ofHelper) := goodIn_app (goodIn_of _ (by decide +kernel)) ggX8_hour_X8_ofHelper
set_option maxRecDepth 20000 in
theorem ggX8_hour_X8_isUnderWay : GoodIn wsX8_hour wsX8_isUnderWay := goodIn_r _ [10, 1, 2, 3, 4, 5, 6, 74, 75, 76, 77, 78, 79, 80, 81, 82, 83] (by decide +kernel) (by decide +kernel)
set_option maxRecDepth 20000 in
theorem gX8_hour_X8_isUnderWay : GoodIn wsX8_hour (wsV RX8 74 RX8 yX8_isUnderWay wsX8_isUnderWay) := goodIn_app (goodIn_of _ (by decide +kernel)) ggX8_hour_X8_isUnderWay
set_option maxRecDepth 20000 in
theorem ggX8_hour_X8_setHelper : GoodIn wsX8_hour wsX8_setHelper := goodIn_r _ [14, 1, 74, 75, 76, 77, 78, 79, 80, 81, 82, 83] (by decide +kernel) (by decide +kernel)
set_option maxRecDepth 20000 in
theorem gX8_hour_X8_setHelper : GoodIn wsX8_hour (wsV RX8 78 RX8 yX8_setHelper wsX8_setHelper) := goodIn_app (goodIn_of _ (by decide +kernel)) ggX8_hour_X8_setHelper
set_option maxRecDepth 20000 in
theorem ggX8_hour_X8_ofMeal : GoodIn wsX8_hour wsX8_ofMeal := goodIn_r _ [18, 1, 74, 75, 76, 77, 78, 79, 80, 81, 82, 83] (by decide +kernel) (by decide +kernel)
set_option maxRecDepth 20000 in
theorem gX8_hour_X8_ofMeal : GoodIn wsX8_hour (wsV RX8 33 RX8 yX8_ofMeal wsX8_ofMeal) := goodIn_app (goodIn_of _ (by decide +kernel)) ggX8_hour_X8_ofMeal
set_option maxRecDepth 20000 in
theorem ggX8_hour_X8_loss : GoodIn wsX8_hour wsX8_loss := goodIn_r _ [22, 15, 16, 17, 5, 18, 1, 23, 24, 25, 26, 74, 75, 76, 77, 78, 79, 80, 81, 82, 83] (by decide +kernel) (by decide +kernel)
set_option maxRecDepth 20000 in
theorem gX8_hour_X8_loss : GoodIn wsX8_hour (wsV RX8 81 RX8 yX8_loss wsX8_loss) := goodIn_app (goodIn_of _ (by decide +kernel)) ggX8_hour_X8_loss
set_option maxRecDepth 20000 in
theorem ggX8_hour_X8_setMeal : GoodIn wsX8_hour wsX8_setMeal := goodIn_r _ [30, 1, 74, 75, 76, 77, 78, 79, 80, 81, 82, 83] (by decide +kernel) (by decide +kernel)
set_option maxRecDepth 20000 in
theorem gX8_hour_X8_setMeal : GoodIn wsX8_hour (wsV RX8 64 RX8 yX8_setMeal wsX8_setMeal) := goodIn_app (goodIn_of _ (by decide +kernel)) ggX8_hour_X8_setMeal
set_option maxRecDepth 20000 in
theorem ggX8_hour_X8_spoils : GoodIn wsX8_hour wsX8_spoils := goodIn_r _ [34, 1, 15, 16, 17, 5, 18, 35, 36, 37, 38, 27, 28, 29, 30, 74, 75, 76, 77, 78, 79, 80, 81, 82, 83] (by decide +kernel) (by decide +kernel)
set_option maxRecDepth 20000 in
theorem gX8_hour_X8_spoils : GoodIn wsX8_hour (wsV RX8 84 RX8 yX8_spoils wsX8_spoils) := goodIn_app (goodIn_of _ (by decide +kernel)) ggX8_hour_X8_spoils
set_option maxRecDepth 20000 in
theorem ggX8_hour_X8_lays : GoodIn wsX8_hour wsX8_lays := goodIn_r _ [42, 1, 2, 3, 4, 5, 6, 43, 44, 45, 46, 15, 16, 17, 18, 47, 48, 49, 50, 23, 24, 25, 26, 51, 52, 53, 54, 55, 56, 57, 58, 59, 60, 61, 27, 28, 29, 30, 35, 36, 37, 38, 74, 75, 76, 77, 78, 79, 80, 81, 82, 83] (by decide +kernel) (by decide +kernel)
set_option maxRecDepth 20000 in
theorem gX8_hour_X8_lays : GoodIn wsX8_hour (wsV RX8 88 RX8 yX8_lays wsX8_lays) := goodIn_app (goodIn_of _ (by decide +kernel)) ggX8_hour_X8_lays
set_option maxRecDepth 20000 in
theorem ggX8_hour_X8_lapses : GoodIn wsX8_hour wsX8_lapses := goodIn_r _ [65, 1, 15, 16, 17, 5, 18, 27, 28, 29, 30, 66, 67, 68, 69, 70, 71, 72, 73, 74, 75, 76, 77, 78, 79, 80, 81, 82, 83] (by decide +kernel) (by decide +kernel)
set_option maxRecDepth 20000 in
theorem gX8_hour_X8_lapses : GoodIn wsX8_hour (wsV RX8 91 RX8 yX8_lapses wsX8_lapses) := goodIn_app (goodIn_of _ (by decide +kernel)) ggX8_hour_X8_lapses
theorem dX8_hour_0 : decode cX8_hour 0 = .ok (.iconst 0, 1) := by decide +kernel
theorem dX8_hour_1 : decode cX8_hour 1 = .ok (.istore_n 1, 1) := by decide +kernel
theorem dX8_hour_2 : decode cX8_hour 2 = .ok (.iconst 0, 1) := by decide +kernel
theorem dX8_hour_3 : decode cX8_hour 3 = .ok (.istore_n 2, 1) := by decide +kernel
theorem dX8_hour_4 : decode cX8_hour 4 = .ok (.iload_n 2, 1) := by decide +kernel
theorem dX8_hour_5 : decode cX8_hour 5 = .ok (.aload_n 0, 1) := by decide +kernel
theorem dX8_hour_6 : decode cX8_hour 6 = .ok (.getfield 7, 3) := by decide +kernel
theorem dX8_hour_9 : decode cX8_hour 9 = .ok (.iconst 3, 1) := by decide +kernel
theorem dX8_hour_10 : decode cX8_hour 10 = .ok (.iaload, 1) := by decide +kernel
theorem dX8_hour_11 : decode cX8_hour 11 = .ok (.if_icmp .ge 35, 3) := by decide +kernel
theorem dX8_hour_14 : decode cX8_hour 14 = .ok (.aload_n 0, 1) := by decide +kernel
theorem dX8_hour_15 : decode cX8_hour 15 = .ok (.iload_n 2, 1) := by decide +kernel
theorem dX8_hour_16 : decode cX8_hour 16 = .ok (.iconst 3, 1) := by decide +kernel
theorem dX8_hour_17 : decode cX8_hour 17 = .ok (.aload_n 0, 1) := by decide +kernel
theorem dX8_hour_18 : decode cX8_hour 18 = .ok (.iload_n 2, 1) := by decide +kernel
theorem dX8_hour_19 : decode cX8_hour 19 = .ok (.iconst 3, 1) := by decide +kernel
theorem dX8_hour_20 : decode cX8_hour 20 = .ok (.invokevirtual 57, 3) := by decide +kernel
theorem dX8_hour_23 : decode cX8_hour 23 = .ok (.aload_n 0, 1) := by decide +kernel
theorem dX8_hour_24 : decode cX8_hour 24 = .ok (.iload_n 2, 1) := by decide +kernel
theorem dX8_hour_25 : decode cX8_hour 25 = .ok (.invokevirtual 74, 3) := by decide +kernel
theorem dX8_hour_28 : decode cX8_hour 28 = .ok (.ifCond .eq 7, 3) := by decide +kernel
theorem dX8_hour_31 : decode cX8_hour 31 = .ok (.iconst 1, 1) := by decide +kernel
theorem dX8_hour_32 : decode cX8_hour 32 = .ok (.goto 4, 3) := by decide +kernel
theorem dX8_hour_35 : decode cX8_hour 35 = .ok (.iconst 0, 1) := by decide +kernel
theorem dX8_hour_36 : decode cX8_hour 36 = .ok (.iadd, 1) := by decide +kernel
theorem dX8_hour_37 : decode cX8_hour 37 = .ok (.invokevirtual 78, 3) := by decide +kernel
theorem dX8_hour_40 : decode cX8_hour 40 = .ok (.iinc 2 1, 3) := by decide +kernel
theorem dX8_hour_43 : decode cX8_hour 43 = .ok (.goto (-39), 3) := by decide +kernel
theorem dX8_hour_46 : decode cX8_hour 46 = .ok (.aload_n 0, 1) := by decide +kernel
theorem dX8_hour_47 : decode cX8_hour 47 = .ok (.getfield 7, 3) := by decide +kernel
theorem dX8_hour_50 : decode cX8_hour 50 = .ok (.iconst 4, 1) := by decide +kernel
theorem dX8_hour_51 : decode cX8_hour 51 = .ok (.dup2, 1) := by decide +kernel
theorem dX8_hour_52 : decode cX8_hour 52 = .ok (.iaload, 1) := by decide +kernel
theorem dX8_hour_53 : decode cX8_hour 53 = .ok (.iconst 1, 1) := by decide +kernel
theorem dX8_hour_54 : decode cX8_hour 54 = .ok (.iadd, 1) := by decide +kernel
theorem dX8_hour_55 : decode cX8_hour 55 = .ok (.iastore, 1) := by decide +kernel
theorem dX8_hour_56 : decode cX8_hour 56 = .ok (.iconst 0, 1) := by decide +kernel
theorem dX8_hour_57 : decode cX8_hour 57 = .ok (.istore_n 2, 1) := by decide +kernel
theorem dX8_hour_58 : decode cX8_hour 58 = .ok (.iload_n 2, 1) := by decide +kernel
theorem dX8_hour_59 : decode cX8_hour 59 = .ok (.aload_n 0, 1) := by decide +kernel
theorem dX8_hour_60 : decode cX8_hour 60 = .ok (.getfield 7, 3) := by decide +kernel
theorem dX8_hour_63 : decode cX8_hour 63 = .ok (.iconst 1, 1) := by decide +kernel
theorem dX8_hour_64 : decode cX8_hour 64 = .ok (.iaload, 1) := by decide +kernel
theorem dX8_hour_65 : decode cX8_hour 65 = .ok (.if_icmp .ge 57, 3) := by decide +kernel
theorem dX8_hour_68 : decode cX8_hour 68 = .ok (.aload_n 0, 1) := by decide +kernel
theorem dX8_hour_69 : decode cX8_hour 69 = .ok (.iload_n 2, 1) := by decide +kernel
theorem dX8_hour_70 : decode cX8_hour 70 = .ok (.iconst 0, 1) := by decide +kernel
theorem dX8_hour_71 : decode cX8_hour 71 = .ok (.invokevirtual 33, 3) := by decide +kernel
theorem dX8_hour_74 : decode cX8_hour 74 = .ok (.iconst 3, 1) := by decide +kernel
theorem dX8_hour_75 : decode cX8_hour 75 = .ok (.if_icmp .ge 41, 3) := by decide +kernel
theorem dX8_hour_78 : decode cX8_hour 78 = .ok (.aload_n 0, 1) := by decide +kernel
theorem dX8_hour_79 : decode cX8_hour 79 = .ok (.iload_n 2, 1) := by decide +kernel
theorem dX8_hour_80 : decode cX8_hour 80 = .ok (.iconst 2, 1) := by decide +kernel
theorem dX8_hour_81 : decode cX8_hour 81 = .ok (.aload_n 0, 1) := by decide +kernel
theorem dX8_hour_82 : decode cX8_hour 82 = .ok (.iload_n 2, 1) := by decide +kernel
theorem dX8_hour_83 : decode cX8_hour 83 = .ok (.iconst 2, 1) := by decide +kernel
theorem dX8_hour_84 : decode cX8_hour 84 = .ok (.invokevirtual 33, 3) := by decide +kernel
theorem dX8_hour_87 : decode cX8_hour 87 = .ok (.aload_n 0, 1) := by decide +kernel
theorem dX8_hour_88 : decode cX8_hour 88 = .ok (.iload_n 2, 1) := by decide +kernel
theorem dX8_hour_89 : decode cX8_hour 89 = .ok (.invokevirtual 81, 3) := by decide +kernel
theorem dX8_hour_92 : decode cX8_hour 92 = .ok (.isub, 1) := by decide +kernel
theorem dX8_hour_93 : decode cX8_hour 93 = .ok (.invokevirtual 64, 3) := by decide +kernel
theorem dX8_hour_96 : decode cX8_hour 96 = .ok (.aload_n 0, 1) := by decide +kernel
theorem dX8_hour_97 : decode cX8_hour 97 = .ok (.iload_n 2, 1) := by decide +kernel
theorem dX8_hour_98 : decode cX8_hour 98 = .ok (.iconst 2, 1) := by decide +kernel
theorem dX8_hour_99 : decode cX8_hour 99 = .ok (.invokevirtual 33, 3) := by decide +kernel
theorem dX8_hour_102 : decode cX8_hour 102 = .ok (.ifCond .gt 14, 3) := by decide +kernel
theorem dX8_hour_105 : decode cX8_hour 105 = .ok (.aload_n 0, 1) := by decide +kernel
theorem dX8_hour_106 : decode cX8_hour 106 = .ok (.iload_n 2, 1) := by decide +kernel
theorem dX8_hour_107 : decode cX8_hour 107 = .ok (.invokevirtual 84, 3) := by decide +kernel
theorem dX8_hour_110 : decode cX8_hour 110 = .ok (.iload_n 1, 1) := by decide +kernel
theorem dX8_hour_111 : decode cX8_hour 111 = .ok (.iconst 1, 1) := by decide +kernel
theorem dX8_hour_112 : decode cX8_hour 112 = .ok (.iload_n 2, 1) := by decide +kernel
theorem dX8_hour_113 : decode cX8_hour 113 = .ok (.ishl, 1) := by decide +kernel
theorem dX8_hour_114 : decode cX8_hour 114 = .ok (.ior, 1) := by decide +kernel
theorem dX8_hour_115 : decode cX8_hour 115 = .ok (.istore_n 1, 1) := by decide +kernel
theorem dX8_hour_116 : decode cX8_hour 116 = .ok (.iinc 2 1, 3) := by decide +kernel
theorem dX8_hour_119 : decode cX8_hour 119 = .ok (.goto (-61), 3) := by decide +kernel
theorem dX8_hour_122 : decode cX8_hour 122 = .ok (.iconst 0, 1) := by decide +kernel
theorem dX8_hour_123 : decode cX8_hour 123 = .ok (.istore_n 2, 1) := by decide +kernel
theorem dX8_hour_124 : decode cX8_hour 124 = .ok (.iload_n 2, 1) := by decide +kernel
theorem dX8_hour_125 : decode cX8_hour 125 = .ok (.aload_n 0, 1) := by decide +kernel
theorem dX8_hour_126 : decode cX8_hour 126 = .ok (.getfield 7, 3) := by decide +kernel
theorem dX8_hour_129 : decode cX8_hour 129 = .ok (.iconst 3, 1) := by decide +kernel
theorem dX8_hour_130 : decode cX8_hour 130 = .ok (.iaload, 1) := by decide +kernel
theorem dX8_hour_131 : decode cX8_hour 131 = .ok (.if_icmp .ge 34, 3) := by decide +kernel
theorem dX8_hour_134 : decode cX8_hour 134 = .ok (.aload_n 0, 1) := by decide +kernel
theorem dX8_hour_135 : decode cX8_hour 135 = .ok (.iload_n 2, 1) := by decide +kernel
theorem dX8_hour_136 : decode cX8_hour 136 = .ok (.iconst 2, 1) := by decide +kernel
theorem dX8_hour_137 : decode cX8_hour 137 = .ok (.invokevirtual 57, 3) := by decide +kernel
theorem dX8_hour_140 : decode cX8_hour 140 = .ok (.aload_n 0, 1) := by decide +kernel
theorem dX8_hour_141 : decode cX8_hour 141 = .ok (.getfield 7, 3) := by decide +kernel
theorem dX8_hour_144 : decode cX8_hour 144 = .ok (.iconst 4, 1) := by decide +kernel
theorem dX8_hour_145 : decode cX8_hour 145 = .ok (.iaload, 1) := by decide +kernel
theorem dX8_hour_146 : decode cX8_hour 146 = .ok (.if_icmp .ne 11, 3) := by decide +kernel
theorem dX8_hour_149 : decode cX8_hour 149 = .ok (.aload_n 0, 1) := by decide +kernel
theorem dX8_hour_150 : decode cX8_hour 150 = .ok (.iload_n 2, 1) := by decide +kernel
theorem dX8_hour_151 : decode cX8_hour 151 = .ok (.invokevirtual 88, 3) := by decide +kernel
theorem dX8_hour_154 : decode cX8_hour 154 = .ok (.goto 4, 3) := by decide +kernel
theorem dX8_hour_157 : decode cX8_hour 157 = .ok (.iconst 0, 1) := by decide +kernel
theorem dX8_hour_158 : decode cX8_hour 158 = .ok (.istore_n 3, 1) := by decide +kernel
theorem dX8_hour_159 : decode cX8_hour 159 = .ok (.iinc 2 1, 3) := by decide +kernel
theorem dX8_hour_162 : decode cX8_hour 162 = .ok (.goto (-38), 3) := by decide +kernel
theorem dX8_hour_165 : decode cX8_hour 165 = .ok (.iconst 0, 1) := by decide +kernel
theorem dX8_hour_166 : decode cX8_hour 166 = .ok (.istore_n 2, 1) := by decide +kernel
theorem dX8_hour_167 : decode cX8_hour 167 = .ok (.iload_n 2, 1) := by decide +kernel
theorem dX8_hour_168 : decode cX8_hour 168 = .ok (.aload_n 0, 1) := by decide +kernel
theorem dX8_hour_169 : decode cX8_hour 169 = .ok (.getfield 7, 3) := by decide +kernel
theorem dX8_hour_172 : decode cX8_hour 172 = .ok (.iconst 1, 1) := by decide +kernel
theorem dX8_hour_173 : decode cX8_hour 173 = .ok (.iaload, 1) := by decide +kernel
theorem dX8_hour_174 : decode cX8_hour 174 = .ok (.if_icmp .ge 47, 3) := by decide +kernel
theorem dX8_hour_177 : decode cX8_hour 177 = .ok (.aload_n 0, 1) := by decide +kernel
theorem dX8_hour_178 : decode cX8_hour 178 = .ok (.iload_n 2, 1) := by decide +kernel
theorem dX8_hour_179 : decode cX8_hour 179 = .ok (.iconst 0, 1) := by decide +kernel
theorem dX8_hour_180 : decode cX8_hour 180 = .ok (.invokevirtual 33, 3) := by decide +kernel
theorem dX8_hour_183 : decode cX8_hour 183 = .ok (.iconst 1, 1) := by decide +kernel
theorem dX8_hour_184 : decode cX8_hour 184 = .ok (.if_icmp .ne 31, 3) := by decide +kernel
theorem dX8_hour_187 : decode cX8_hour 187 = .ok (.aload_n 0, 1) := by decide +kernel
theorem dX8_hour_188 : decode cX8_hour 188 = .ok (.getfield 7, 3) := by decide +kernel
theorem dX8_hour_191 : decode cX8_hour 191 = .ok (.iconst 4, 1) := by decide +kernel
theorem dX8_hour_192 : decode cX8_hour 192 = .ok (.iaload, 1) := by decide +kernel
theorem dX8_hour_193 : decode cX8_hour 193 = .ok (.aload_n 0, 1) := by decide +kernel
theorem dX8_hour_194 : decode cX8_hour 194 = .ok (.iload_n 2, 1) := by decide +kernel
theorem dX8_hour_195 : decode cX8_hour 195 = .ok (.bipush 6, 2) := by decide +kernel
theorem dX8_hour_197 : decode cX8_hour 197 = .ok (.invokevirtual 33, 3) := by decide +kernel
theorem dX8_hour_200 : decode cX8_hour 200 = .ok (.isub, 1) := by decide +kernel
theorem dX8_hour_201 : decode cX8_hour 201 = .ok (.aload_n 0, 1) := by decide +kernel
theorem dX8_hour_202 : decode cX8_hour 202 = .ok (.getfield 7, 3) := by decide +kernel
theorem dX8_hour_205 : decode cX8_hour 205 = .ok (.iconst 5, 1) := by decide +kernel
theorem dX8_hour_206 : decode cX8_hour 206 = .ok (.iaload, 1) := by decide +kernel
theorem dX8_hour_207 : decode cX8_hour 207 = .ok (.if_icmp .lt 8, 3) := by decide +kernel
theorem dX8_hour_210 : decode cX8_hour 210 = .ok (.aload_n 0, 1) := by decide +kernel
theorem dX8_hour_211 : decode cX8_hour 211 = .ok (.iload_n 2, 1) := by decide +kernel
theorem dX8_hour_212 : decode cX8_hour 212 = .ok (.invokevirtual 91, 3) := by decide +kernel
theorem dX8_hour_215 : decode cX8_hour 215 = .ok (.iinc 2 1, 3) := by decide +kernel
theorem dX8_hour_218 : decode cX8_hour 218 = .ok (.goto (-51), 3) := by decide +kernel
theorem dX8_hour_221 : decode cX8_hour 221 = .ok (.iload_n 1, 1) := by decide +kernel
theorem dX8_hour_222 : decode cX8_hour 222 = .ok (.ireturn, 1) := by decide +kernel
set_option maxRecDepth 20000 in
theorem ggX8_passes_X8_hour : GoodIn wsX8_passes wsX8_hour := goodIn_r _ [5, 6, 7, 8, 9, 4, 10, 11, 12, 13, 14, 15, 16, 17, 18, 19, 20, 21, 22, 23, 24, 25, 26, 27, 28, 29, 30, 31, 32, 33, 34, 35, 36, 37, 38, 39, 40, 41, 42, 43, 44, 45, 46, 47, 48, 49, 50, 51, 52, 53, 54, 55, 56, 57, 58, 59, 60, 61, 62, 63, 64, 65, 66, 67, 68, 69, 70, 71, 72, 73, 74, 75, 76, 77, 78, 79, 80, 81, 82, 83, 84, 85, 86, 87] (by decide +kernel) (by decide +kernel)
set_option maxRecDepth 20000 in
theorem gX8_passes_X8_hour : GoodIn wsX8_passes (wsV RX8 94 RX8 yX8_hour wsX8_hour) := goodIn_app (goodIn_of _ (by decide +kernel)) ggX8_passes_X8_hour
theorem dX8_passes_0 : decode cX8_passes 0 = .ok (.iconst 0, 1) := by decide +kernel
theorem dX8_passes_1 : decode cX8_passes 1 = .ok (.istore_n 2, 1) := by decide +kernel
theorem dX8_passes_2 : decode cX8_passes 2 = .ok (.iconst 0, 1) := by decide +kernel
theorem dX8_passes_3 : decode cX8_passes 3 = .ok (.istore_n 3, 1) := by decide +kernel
theorem dX8_passes_4 : decode cX8_passes 4 = .ok (.iload_n 3, 1) := by decide +kernel
theorem dX8_passes_5 : decode cX8_passes 5 = .ok (.iload_n 1, 1) := by decide +kernel
theorem dX8_passes_6 : decode cX8_passes 6 = .ok (.if_icmp .ge 16, 3) := by decide +kernel
theorem dX8_passes_9 : decode cX8_passes 9 = .ok (.iload_n 2, 1) := by decide +kernel
theorem dX8_passes_10 : decode cX8_passes 10 = .ok (.aload_n 0, 1) := by decide +kernel
theorem dX8_passes_11 : decode cX8_passes 11 = .ok (.invokevirtual 94, 3) := by decide +kernel
theorem dX8_passes_14 : decode cX8_passes 14 = .ok (.ior, 1) := by decide +kernel
theorem dX8_passes_15 : decode cX8_passes 15 = .ok (.istore_n 2, 1) := by decide +kernel
theorem dX8_passes_16 : decode cX8_passes 16 = .ok (.iinc 3 1, 3) := by decide +kernel
theorem dX8_passes_19 : decode cX8_passes 19 = .ok (.goto (-15), 3) := by decide +kernel
theorem dX8_passes_22 : decode cX8_passes 22 = .ok (.iload_n 2, 1) := by decide +kernel
theorem dX8_passes_23 : decode cX8_passes 23 = .ok (.ireturn, 1) := by decide +kernel
set_option maxRecDepth 20000 in
theorem ggX8_addsMeal_X8_freeCells : GoodIn wsX8_addsMeal wsX8_freeCells := goodIn_r _ [6, 7, 8, 9, 5, 10, 1, 11, 12, 13, 14, 15, 16, 17, 18, 19, 20, 21, 22, 23, 24, 25, 26, 27, 28, 29, 38, 39, 40, 41, 42, 43, 44, 45, 46, 47] (by decide +kernel) (by decide +kernel)
set_option maxRecDepth 20000 in
theorem gX8_addsMeal_X8_freeCells : GoodIn wsX8_addsMeal (wsV RX8 68 RX8 yX8_freeCells wsX8_freeCells) := goodIn_app (goodIn_of _ (by decide +kernel)) ggX8_addsMeal_X8_freeCells
set_option maxRecDepth 20000 in
theorem ggX8_addsMeal_X8_setMeal : GoodIn wsX8_addsMeal wsX8_setMeal := goodIn_r _ [33, 1, 38, 39, 40, 41, 42, 43, 44, 45, 46, 47] (by decide +kernel) (by decide +kernel)
set_option maxRecDepth 20000 in
theorem gX8_addsMeal_X8_setMeal : GoodIn wsX8_addsMeal (wsV RX8 64 RX8 yX8_setMeal wsX8_setMeal) := goodIn_app (goodIn_of _ (by decide +kernel)) ggX8_addsMeal_X8_setMeal
set_option maxRecDepth 20000 in
theorem ggX8_addsMeal_X8_moreOf : GoodIn wsX8_addsMeal wsX8_moreOf := goodIn_r _ [37, 1, 38, 39, 40, 41, 42, 43, 44, 45, 46, 47] (by decide +kernel) (by decide +kernel)
set_option maxRecDepth 20000 in
theorem gX8_addsMeal_X8_moreOf : GoodIn wsX8_addsMeal (wsV RX8 60 RX8 yX8_moreOf wsX8_moreOf) := goodIn_app (goodIn_of _ (by decide +kernel)) ggX8_addsMeal_X8_moreOf
theorem dX8_addsMeal_0 : decode cX8_addsMeal 0 = .ok (.aload_n 0, 1) := by decide +kernel
theorem dX8_addsMeal_1 : decode cX8_addsMeal 1 = .ok (.iload_n 1, 1) := by decide +kernel
theorem dX8_addsMeal_2 : decode cX8_addsMeal 2 = .ok (.invokevirtual 68, 3) := by decide +kernel
theorem dX8_addsMeal_5 : decode cX8_addsMeal 5 = .ok (.ifCond .ne 6, 3) := by decide +kernel
theorem dX8_addsMeal_8 : decode cX8_addsMeal 8 = .ok (.bipush (-2), 2) := by decide +kernel
theorem dX8_addsMeal_10 : decode cX8_addsMeal 10 = .ok (.ireturn, 1) := by decide +kernel
theorem dX8_addsMeal_11 : decode cX8_addsMeal 11 = .ok (.aload_n 0, 1) := by decide +kernel
theorem dX8_addsMeal_12 : decode cX8_addsMeal 12 = .ok (.getfield 7, 3) := by decide +kernel
theorem dX8_addsMeal_15 : decode cX8_addsMeal 15 = .ok (.iconst 1, 1) := by decide +kernel
theorem dX8_addsMeal_16 : decode cX8_addsMeal 16 = .ok (.iaload, 1) := by decide +kernel
theorem dX8_addsMeal_17 : decode cX8_addsMeal 17 = .ok (.bipush 24, 2) := by decide +kernel
theorem dX8_addsMeal_19 : decode cX8_addsMeal 19 = .ok (.if_icmp .ne 6, 3) := by decide +kernel
theorem dX8_addsMeal_22 : decode cX8_addsMeal 22 = .ok (.bipush (-3), 2) := by decide +kernel
theorem dX8_addsMeal_24 : decode cX8_addsMeal 24 = .ok (.ireturn, 1) := by decide +kernel
theorem dX8_addsMeal_25 : decode cX8_addsMeal 25 = .ok (.aload_n 0, 1) := by decide +kernel
theorem dX8_addsMeal_26 : decode cX8_addsMeal 26 = .ok (.getfield 7, 3) := by decide +kernel
theorem dX8_addsMeal_29 : decode cX8_addsMeal 29 = .ok (.iconst 1, 1) := by decide +kernel
theorem dX8_addsMeal_30 : decode cX8_addsMeal 30 = .ok (.iaload, 1) := by decide +kernel
theorem dX8_addsMeal_31 : decode cX8_addsMeal 31 = .ok (.istore 4, 2) := by decide +kernel
theorem dX8_addsMeal_33 : decode cX8_addsMeal 33 = .ok (.aload_n 0, 1) := by decide +kernel
theorem dX8_addsMeal_34 : decode cX8_addsMeal 34 = .ok (.getfield 7, 3) := by decide +kernel
theorem dX8_addsMeal_37 : decode cX8_addsMeal 37 = .ok (.iconst 1, 1) := by decide +kernel
theorem dX8_addsMeal_38 : decode cX8_addsMeal 38 = .ok (.dup2, 1) := by decide +kernel
theorem dX8_addsMeal_39 : decode cX8_addsMeal 39 = .ok (.iaload, 1) := by decide +kernel
theorem dX8_addsMeal_40 : decode cX8_addsMeal 40 = .ok (.iconst 1, 1) := by decide +kernel
theorem dX8_addsMeal_41 : decode cX8_addsMeal 41 = .ok (.iadd, 1) := by decide +kernel
theorem dX8_addsMeal_42 : decode cX8_addsMeal 42 = .ok (.iastore, 1) := by decide +kernel
theorem dX8_addsMeal_43 : decode cX8_addsMeal 43 = .ok (.aload_n 0, 1) := by decide +kernel
theorem dX8_addsMeal_44 : decode cX8_addsMeal 44 = .ok (.iload 4, 2) := by decide +kernel
theorem dX8_addsMeal_46 : decode cX8_addsMeal 46 = .ok (.iconst 1, 1) := by decide +kernel
theorem dX8_addsMeal_47 : decode cX8_addsMeal 47 = .ok (.iload_n 1, 1) := by decide +kernel
theorem dX8_addsMeal_48 : decode cX8_addsMeal 48 = .ok (.invokevirtual 64, 3) := by decide +kernel
theorem dX8_addsMeal_51 : decode cX8_addsMeal 51 = .ok (.aload_n 0, 1) := by decide +kernel
theorem dX8_addsMeal_52 : decode cX8_addsMeal 52 = .ok (.iload 4, 2) := by decide +kernel
theorem dX8_addsMeal_54 : decode cX8_addsMeal 54 = .ok (.iconst 2, 1) := by decide +kernel
theorem dX8_addsMeal_55 : decode cX8_addsMeal 55 = .ok (.iload_n 2, 1) := by decide +kernel
theorem dX8_addsMeal_56 : decode cX8_addsMeal 56 = .ok (.invokevirtual 64, 3) := by decide +kernel
theorem dX8_addsMeal_59 : decode cX8_addsMeal 59 = .ok (.aload_n 0, 1) := by decide +kernel
theorem dX8_addsMeal_60 : decode cX8_addsMeal 60 = .ok (.iload 4, 2) := by decide +kernel
theorem dX8_addsMeal_62 : decode cX8_addsMeal 62 = .ok (.iconst 3, 1) := by decide +kernel
theorem dX8_addsMeal_63 : decode cX8_addsMeal 63 = .ok (.iload_n 3, 1) := by decide +kernel
theorem dX8_addsMeal_64 : decode cX8_addsMeal 64 = .ok (.invokevirtual 64, 3) := by decide +kernel
theorem dX8_addsMeal_67 : decode cX8_addsMeal 67 = .ok (.aload_n 0, 1) := by decide +kernel
theorem dX8_addsMeal_68 : decode cX8_addsMeal 68 = .ok (.iload 4, 2) := by decide +kernel
theorem dX8_addsMeal_70 : decode cX8_addsMeal 70 = .ok (.iconst 5, 1) := by decide +kernel
theorem dX8_addsMeal_71 : decode cX8_addsMeal 71 = .ok (.iconst (-1), 1) := by decide +kernel
theorem dX8_addsMeal_72 : decode cX8_addsMeal 72 = .ok (.invokevirtual 64, 3) := by decide +kernel
theorem dX8_addsMeal_75 : decode cX8_addsMeal 75 = .ok (.aload_n 0, 1) := by decide +kernel
theorem dX8_addsMeal_76 : decode cX8_addsMeal 76 = .ok (.iload_n 1, 1) := by decide +kernel
theorem dX8_addsMeal_77 : decode cX8_addsMeal 77 = .ok (.iconst 2, 1) := by decide +kernel
theorem dX8_addsMeal_78 : decode cX8_addsMeal 78 = .ok (.invokevirtual 60, 3) := by decide +kernel
theorem dX8_addsMeal_81 : decode cX8_addsMeal 81 = .ok (.iload 4, 2) := by decide +kernel
theorem dX8_addsMeal_83 : decode cX8_addsMeal 83 = .ok (.ireturn, 1) := by decide +kernel
set_option maxRecDepth 20000 in
theorem ggX8_mayHave_X8_ofMeal : GoodIn wsX8_mayHave wsX8_ofMeal := goodIn_r _ [5, 6, 11, 12, 13, 14, 15, 16, 17, 18, 19, 20] (by decide +kernel) (by decide +kernel)
set_option maxRecDepth 20000 in
theorem gX8_mayHave_X8_ofMeal : GoodIn wsX8_mayHave (wsV RX8 33 RX8 yX8_ofMeal wsX8_ofMeal) := goodIn_app (goodIn_of _ (by decide +kernel)) ggX8_mayHave_X8_ofMeal
set_option maxRecDepth 20000 in
theorem ggX8_mayHave_X8_ofPerson : GoodIn wsX8_mayHave wsX8_ofPerson := goodIn_r _ [10, 6, 11, 12, 13, 14, 15, 16, 17, 18, 19, 20] (by decide +kernel) (by decide +kernel)
set_option maxRecDepth 20000 in
theorem gX8_mayHave_X8_ofPerson : GoodIn wsX8_mayHave (wsV RX8 54 RX8 yX8_ofPerson wsX8_ofPerson) := goodIn_app (goodIn_of _ (by decide +kernel)) ggX8_mayHave_X8_ofPerson
theorem dX8_mayHave_0 : decode cX8_mayHave 0 = .ok (.aload_n 0, 1) := by decide +kernel
theorem dX8_mayHave_1 : decode cX8_mayHave 1 = .ok (.iload_n 2, 1) := by decide +kernel
theorem dX8_mayHave_2 : decode cX8_mayHave 2 = .ok (.iconst 0, 1) := by decide +kernel
theorem dX8_mayHave_3 : decode cX8_mayHave 3 = .ok (.invokevirtual 33, 3) := by decide +kernel
theorem dX8_mayHave_6 : decode cX8_mayHave 6 = .ok (.ifCond .ne 23, 3) := by decide +kernel
theorem dX8_mayHave_9 : decode cX8_mayHave 9 = .ok (.aload_n 0, 1) := by decide +kernel
theorem dX8_mayHave_10 : decode cX8_mayHave 10 = .ok (.iload_n 2, 1) := by decide +kernel
theorem dX8_mayHave_11 : decode cX8_mayHave 11 = .ok (.iconst 3, 1) := by decide +kernel
theorem dX8_mayHave_12 : decode cX8_mayHave 12 = .ok (.invokevirtual 33, 3) := by decide +kernel
theorem dX8_mayHave_15 : decode cX8_mayHave 15 = .ok (.aload_n 0, 1) := by decide +kernel
theorem dX8_mayHave_16 : decode cX8_mayHave 16 = .ok (.iload_n 1, 1) := by decide +kernel
theorem dX8_mayHave_17 : decode cX8_mayHave 17 = .ok (.iconst 0, 1) := by decide +kernel
theorem dX8_mayHave_18 : decode cX8_mayHave 18 = .ok (.invokevirtual 54, 3) := by decide +kernel
theorem dX8_mayHave_21 : decode cX8_mayHave 21 = .ok (.iand, 1) := by decide +kernel
theorem dX8_mayHave_22 : decode cX8_mayHave 22 = .ok (.ifCond .ne 7, 3) := by decide +kernel
theorem dX8_mayHave_25 : decode cX8_mayHave 25 = .ok (.iconst 1, 1) := by decide +kernel
theorem dX8_mayHave_26 : decode cX8_mayHave 26 = .ok (.goto 4, 3) := by decide +kernel
theorem dX8_mayHave_29 : decode cX8_mayHave 29 = .ok (.iconst 0, 1) := by decide +kernel
theorem dX8_mayHave_30 : decode cX8_mayHave 30 = .ok (.ireturn, 1) := by decide +kernel
set_option maxRecDepth 20000 in
theorem ggX8_reserves_X8_isPerson : GoodIn wsX8_reserves wsX8_isPerson := goodIn_r _ [6, 1, 7, 8, 5, 9, 38, 39, 40, 41, 42, 43, 44, 45, 46, 47] (by decide +kernel) (by decide +kernel)
set_option maxRecDepth 20000 in
theorem gX8_reserves_X8_isPerson : GoodIn wsX8_reserves (wsV RX8 98 RX8 yX8_isPerson wsX8_isPerson) := goodIn_app (goodIn_of _ (by decide +kernel)) ggX8_reserves_X8_isPerson
set_option maxRecDepth 20000 in
theorem ggX8_reserves_X8_isMeal : GoodIn wsX8_reserves wsX8_isMeal := goodIn_r _ [13, 1, 7, 8, 5, 9, 38, 39, 40, 41, 42, 43, 44, 45, 46, 47] (by decide +kernel) (by decide +kernel)
set_option maxRecDepth 20000 in
theorem gX8_reserves_X8_isMeal : GoodIn wsX8_reserves (wsV RX8 101 RX8 yX8_isMeal wsX8_isMeal) := goodIn_app (goodIn_of _ (by decide +kernel)) ggX8_reserves_X8_isMeal
set_option maxRecDepth 20000 in
theorem ggX8_reserves_X8_isBarred : GoodIn wsX8_reserves wsX8_isBarred := goodIn_r _ [17, 1, 18, 19, 20, 5, 21, 38, 39, 40, 41, 42, 43, 44, 45, 46, 47] (by decide +kernel) (by decide +kernel)
set_option maxRecDepth 20000 in
theorem gX8_reserves_X8_isBarred : GoodIn wsX8_reserves (wsV RX8 104 RX8 yX8_isBarred wsX8_isBarred) := goodIn_app (goodIn_of _ (by decide +kernel)) ggX8_reserves_X8_isBarred
set_option maxRecDepth 20000 in
theorem ggX8_reserves_X8_reservedBy : GoodIn wsX8_reserves wsX8_reservedBy := goodIn_r _ [25, 1, 26, 27, 28, 5, 29, 38, 39, 40, 41, 42, 43, 44, 45, 46, 47] (by decide +kernel) (by decide +kernel)
set_option maxRecDepth 20000 in
theorem gX8_reserves_X8_reservedBy : GoodIn wsX8_reserves (wsV RX8 107 RX8 yX8_reservedBy wsX8_reservedBy) := goodIn_app (goodIn_of _ (by decide +kernel)) ggX8_reserves_X8_reservedBy
set_option maxRecDepth 20000 in
theorem ggX8_reserves_X8_mayHave : GoodIn wsX8_reserves wsX8_mayHave := goodIn_r _ [33, 26, 27, 28, 5, 29, 1, 18, 19, 20, 21, 38, 39, 40, 41, 42, 43, 44, 45, 46, 47] (by decide +kernel) (by decide +kernel)
set_option maxRecDepth 20000 in
theorem gX8_reserves_X8_mayHave : GoodIn wsX8_reserves (wsV RX8 110 RX8 yX8_mayHave wsX8_mayHave) := goodIn_app (goodIn_of _ (by decide +kernel)) ggX8_reserves_X8_mayHave
set_option maxRecDepth 20000 in
theorem ggX8_reserves_X8_setMeal : GoodIn wsX8_reserves wsX8_setMeal := goodIn_r _ [37, 1, 38, 39, 40, 41, 42, 43, 44, 45, 46, 47] (by decide +kernel) (by decide +kernel)
set_option maxRecDepth 20000 in
theorem gX8_reserves_X8_setMeal : GoodIn wsX8_reserves (wsV RX8 64 RX8 yX8_setMeal wsX8_setMeal) := goodIn_app (goodIn_of _ (by decide +kernel)) ggX8_reserves_X8_setMeal
theorem dX8_reserves_0 : decode cX8_reserves 0 = .ok (.aload_n 0, 1) := by decide +kernel
theorem dX8_reserves_1 : decode cX8_reserves 1 = .ok (.iload_n 1, 1) := by decide +kernel
theorem dX8_reserves_2 : decode cX8_reserves 2 = .ok (.invokevirtual 98, 3) := by decide +kernel
theorem dX8_reserves_5 : decode cX8_reserves 5 = .ok (.ifCond .eq 11, 3) := by decide +kernel
theorem dX8_reserves_8 : decode cX8_reserves 8 = .ok (.aload_n 0, 1) := by decide +kernel
theorem dX8_reserves_9 : decode cX8_reserves 9 = .ok (.iload_n 2, 1) := by decide +kernel
theorem dX8_reserves_10 : decode cX8_reserves 10 = .ok (.invokevirtual 101, 3) := by decide +kernel
theorem dX8_reserves_13 : decode cX8_reserves 13 = .ok (.ifCond .ne 5, 3) := by decide +kernel
theorem dX8_reserves_16 : decode cX8_reserves 16 = .ok (.iconst (-1), 1) := by decide +kernel
theorem dX8_reserves_17 : decode cX8_reserves 17 = .ok (.ireturn, 1) := by decide +kernel
theorem dX8_reserves_18 : decode cX8_reserves 18 = .ok (.aload_n 0, 1) := by decide +kernel
theorem dX8_reserves_19 : decode cX8_reserves 19 = .ok (.iload_n 1, 1) := by decide +kernel
theorem dX8_reserves_20 : decode cX8_reserves 20 = .ok (.invokevirtual 104, 3) := by decide +kernel
theorem dX8_reserves_23 : decode cX8_reserves 23 = .ok (.ifCond .ne 20, 3) := by decide +kernel
theorem dX8_reserves_26 : decode cX8_reserves 26 = .ok (.aload_n 0, 1) := by decide +kernel
theorem dX8_reserves_27 : decode cX8_reserves 27 = .ok (.iload_n 1, 1) := by decide +kernel
theorem dX8_reserves_28 : decode cX8_reserves 28 = .ok (.invokevirtual 107, 3) := by decide +kernel
theorem dX8_reserves_31 : decode cX8_reserves 31 = .ok (.ifCond .ge 12, 3) := by decide +kernel
theorem dX8_reserves_34 : decode cX8_reserves 34 = .ok (.aload_n 0, 1) := by decide +kernel
theorem dX8_reserves_35 : decode cX8_reserves 35 = .ok (.iload_n 1, 1) := by decide +kernel
theorem dX8_reserves_36 : decode cX8_reserves 36 = .ok (.iload_n 2, 1) := by decide +kernel
theorem dX8_reserves_37 : decode cX8_reserves 37 = .ok (.invokevirtual 110, 3) := by decide +kernel
theorem dX8_reserves_40 : decode cX8_reserves 40 = .ok (.ifCond .ne 6, 3) := by decide +kernel
theorem dX8_reserves_43 : decode cX8_reserves 43 = .ok (.bipush (-2), 2) := by decide +kernel
theorem dX8_reserves_45 : decode cX8_reserves 45 = .ok (.ireturn, 1) := by decide +kernel
theorem dX8_reserves_46 : decode cX8_reserves 46 = .ok (.sipush 1000, 3) := by decide +kernel
theorem dX8_reserves_49 : decode cX8_reserves 49 = .ok (.bipush 37, 2) := by decide +kernel
theorem dX8_reserves_51 : decode cX8_reserves 51 = .ok (.iload_n 2, 1) := by decide +kernel
theorem dX8_reserves_52 : decode cX8_reserves 52 = .ok (.imul, 1) := by decide +kernel
theorem dX8_reserves_53 : decode cX8_reserves 53 = .ok (.bipush 11, 2) := by decide +kernel
theorem dX8_reserves_55 : decode cX8_reserves 55 = .ok (.aload_n 0, 1) := by decide +kernel
theorem dX8_reserves_56 : decode cX8_reserves 56 = .ok (.getfield 7, 3) := by decide +kernel
theorem dX8_reserves_59 : decode cX8_reserves 59 = .ok (.iconst 4, 1) := by decide +kernel
theorem dX8_reserves_60 : decode cX8_reserves 60 = .ok (.iaload, 1) := by decide +kernel
theorem dX8_reserves_61 : decode cX8_reserves 61 = .ok (.imul, 1) := by decide +kernel
theorem dX8_reserves_62 : decode cX8_reserves 62 = .ok (.iadd, 1) := by decide +kernel
theorem dX8_reserves_63 : decode cX8_reserves 63 = .ok (.bipush 7, 2) := by decide +kernel
theorem dX8_reserves_65 : decode cX8_reserves 65 = .ok (.iload_n 1, 1) := by decide +kernel
theorem dX8_reserves_66 : decode cX8_reserves 66 = .ok (.imul, 1) := by decide +kernel
theorem dX8_reserves_67 : decode cX8_reserves 67 = .ok (.iadd, 1) := by decide +kernel
theorem dX8_reserves_68 : decode cX8_reserves 68 = .ok (.sipush 9000, 3) := by decide +kernel
theorem dX8_reserves_71 : decode cX8_reserves 71 = .ok (.irem, 1) := by decide +kernel
theorem dX8_reserves_72 : decode cX8_reserves 72 = .ok (.iadd, 1) := by decide +kernel
theorem dX8_reserves_73 : decode cX8_reserves 73 = .ok (.istore_n 3, 1) := by decide +kernel
theorem dX8_reserves_74 : decode cX8_reserves 74 = .ok (.aload_n 0, 1) := by decide +kernel
theorem dX8_reserves_75 : decode cX8_reserves 75 = .ok (.iload_n 2, 1) := by decide +kernel
theorem dX8_reserves_76 : decode cX8_reserves 76 = .ok (.iconst 0, 1) := by decide +kernel
theorem dX8_reserves_77 : decode cX8_reserves 77 = .ok (.iconst 1, 1) := by decide +kernel
theorem dX8_reserves_78 : decode cX8_reserves 78 = .ok (.invokevirtual 64, 3) := by decide +kernel
theorem dX8_reserves_81 : decode cX8_reserves 81 = .ok (.aload_n 0, 1) := by decide +kernel
theorem dX8_reserves_82 : decode cX8_reserves 82 = .ok (.iload_n 2, 1) := by decide +kernel
theorem dX8_reserves_83 : decode cX8_reserves 83 = .ok (.iconst 4, 1) := by decide +kernel
theorem dX8_reserves_84 : decode cX8_reserves 84 = .ok (.iload_n 3, 1) := by decide +kernel
theorem dX8_reserves_85 : decode cX8_reserves 85 = .ok (.invokevirtual 64, 3) := by decide +kernel
theorem dX8_reserves_88 : decode cX8_reserves 88 = .ok (.aload_n 0, 1) := by decide +kernel
theorem dX8_reserves_89 : decode cX8_reserves 89 = .ok (.iload_n 2, 1) := by decide +kernel
theorem dX8_reserves_90 : decode cX8_reserves 90 = .ok (.iconst 5, 1) := by decide +kernel
theorem dX8_reserves_91 : decode cX8_reserves 91 = .ok (.iload_n 1, 1) := by decide +kernel
theorem dX8_reserves_92 : decode cX8_reserves 92 = .ok (.invokevirtual 64, 3) := by decide +kernel
theorem dX8_reserves_95 : decode cX8_reserves 95 = .ok (.aload_n 0, 1) := by decide +kernel
theorem dX8_reserves_96 : decode cX8_reserves 96 = .ok (.iload_n 2, 1) := by decide +kernel
theorem dX8_reserves_97 : decode cX8_reserves 97 = .ok (.bipush 6, 2) := by decide +kernel
theorem dX8_reserves_99 : decode cX8_reserves 99 = .ok (.aload_n 0, 1) := by decide +kernel
theorem dX8_reserves_100 : decode cX8_reserves 100 = .ok (.getfield 7, 3) := by decide +kernel
theorem dX8_reserves_103 : decode cX8_reserves 103 = .ok (.iconst 4, 1) := by decide +kernel
theorem dX8_reserves_104 : decode cX8_reserves 104 = .ok (.iaload, 1) := by decide +kernel
theorem dX8_reserves_105 : decode cX8_reserves 105 = .ok (.invokevirtual 64, 3) := by decide +kernel
theorem dX8_reserves_108 : decode cX8_reserves 108 = .ok (.iload_n 3, 1) := by decide +kernel
theorem dX8_reserves_109 : decode cX8_reserves 109 = .ok (.ireturn, 1) := by decide +kernel
set_option maxRecDepth 20000 in
theorem ggX8_fetches_X8_isLocker : GoodIn wsX8_fetches wsX8_isLocker := goodIn_r _ [6, 1, 7, 8, 5, 9, 34, 35, 36, 37, 38, 39, 40, 41, 42, 43] (by decide +kernel) (by decide +kernel)
set_option maxRecDepth 20000 in
theorem gX8_fetches_X8_isLocker : GoodIn wsX8_fetches (wsV RX8 113 RX8 yX8_isLocker wsX8_isLocker) := goodIn_app (goodIn_of _ (by decide +kernel)) ggX8_fetches_X8_isLocker
set_option maxRecDepth 20000 in
theorem ggX8_fetches_X8_in : GoodIn wsX8_fetches wsX8_in := goodIn_r _ [9] (by decide +kernel) (by decide +kernel)
set_option maxRecDepth 20000 in
theorem gX8_fetches_X8_in : GoodIn wsX8_fetches (va_wsS RX8 29 yX8_in wsX8_in) := goodIn_app (goodIn_of _ (by decide +kernel)) ggX8_fetches_X8_in
set_option maxRecDepth 20000 in
theorem ggX8_fetches_X8_ofMeal : GoodIn wsX8_fetches wsX8_ofMeal := goodIn_r _ [13, 1, 34, 35, 36, 37, 38, 39, 40, 41, 42, 43] (by decide +kernel) (by decide +kernel)
set_option maxRecDepth 20000 in
theorem gX8_fetches_X8_ofMeal : GoodIn wsX8_fetches (wsV RX8 33 RX8 yX8_ofMeal wsX8_ofMeal) := goodIn_app (goodIn_of _ (by decide +kernel)) ggX8_fetches_X8_ofMeal
set_option maxRecDepth 20000 in
theorem ggX8_fetches_X8_isIn : GoodIn wsX8_fetches wsX8_isIn := goodIn_r _ [17, 10, 11, 12, 5, 13, 1, 34, 35, 36, 37, 38, 39, 40, 41, 42, 43] (by decide +kernel) (by decide +kernel)
set_option maxRecDepth 20000 in
theorem gX8_fetches_X8_isIn : GoodIn wsX8_fetches (wsV RX8 37 RX8 yX8_isIn wsX8_isIn) := goodIn_app (goodIn_of _ (by decide +kernel)) ggX8_fetches_X8_isIn
set_option maxRecDepth 20000 in
theorem ggX8_fetches_X8_setMeal : GoodIn wsX8_fetches wsX8_setMeal := goodIn_r _ [21, 1, 34, 35, 36, 37, 38, 39, 40, 41, 42, 43] (by decide +kernel) (by decide +kernel)
set_option maxRecDepth 20000 in
theorem gX8_fetches_X8_setMeal : GoodIn wsX8_fetches (wsV RX8 64 RX8 yX8_setMeal wsX8_setMeal) := goodIn_app (goodIn_of _ (by decide +kernel)) ggX8_fetches_X8_setMeal
set_option maxRecDepth 20000 in
theorem ggX8_fetches_X8_moreOf : GoodIn wsX8_fetches wsX8_moreOf := goodIn_r _ [25, 1, 34, 35, 36, 37, 38, 39, 40, 41, 42, 43] (by decide +kernel) (by decide +kernel)
set_option maxRecDepth 20000 in
theorem gX8_fetches_X8_moreOf : GoodIn wsX8_fetches (wsV RX8 60 RX8 yX8_moreOf wsX8_moreOf) := goodIn_app (goodIn_of _ (by decide +kernel)) ggX8_fetches_X8_moreOf
set_option maxRecDepth 20000 in
theorem ggX8_fetches_X8_ofPerson : GoodIn wsX8_fetches wsX8_ofPerson := goodIn_r _ [29, 1, 34, 35, 36, 37, 38, 39, 40, 41, 42, 43] (by decide +kernel) (by decide +kernel)
set_option maxRecDepth 20000 in
theorem gX8_fetches_X8_ofPerson : GoodIn wsX8_fetches (wsV RX8 54 RX8 yX8_ofPerson wsX8_ofPerson) := goodIn_app (goodIn_of _ (by decide +kernel)) ggX8_fetches_X8_ofPerson
set_option maxRecDepth 20000 in
theorem ggX8_fetches_X8_setPerson : GoodIn wsX8_fetches wsX8_setPerson := goodIn_r _ [33, 1, 34, 35, 36, 37, 38, 39, 40, 41, 42, 43] (by decide +kernel) (by decide +kernel)
set_option maxRecDepth 20000 in
theorem gX8_fetches_X8_setPerson : GoodIn wsX8_fetches (wsV RX8 71 RX8 yX8_setPerson wsX8_setPerson) := goodIn_app (goodIn_of _ (by decide +kernel)) ggX8_fetches_X8_setPerson
theorem dX8_fetches_0 : decode cX8_fetches 0 = .ok (.aload_n 0, 1) := by decide +kernel
theorem dX8_fetches_1 : decode cX8_fetches 1 = .ok (.iload_n 1, 1) := by decide +kernel
theorem dX8_fetches_2 : decode cX8_fetches 2 = .ok (.invokevirtual 113, 3) := by decide +kernel
theorem dX8_fetches_5 : decode cX8_fetches 5 = .ok (.ifCond .eq 25, 3) := by decide +kernel
theorem dX8_fetches_8 : decode cX8_fetches 8 = .ok (.iload_n 2, 1) := by decide +kernel
theorem dX8_fetches_9 : decode cX8_fetches 9 = .ok (.sipush 1000, 3) := by decide +kernel
theorem dX8_fetches_12 : decode cX8_fetches 12 = .ok (.sipush 9999, 3) := by decide +kernel
theorem dX8_fetches_15 : decode cX8_fetches 15 = .ok (.invokestatic 29, 3) := by decide +kernel
theorem dX8_fetches_18 : decode cX8_fetches 18 = .ok (.ifCond .eq 12, 3) := by decide +kernel
theorem dX8_fetches_21 : decode cX8_fetches 21 = .ok (.iload_n 3, 1) := by decide +kernel
theorem dX8_fetches_22 : decode cX8_fetches 22 = .ok (.iconst 0, 1) := by decide +kernel
theorem dX8_fetches_23 : decode cX8_fetches 23 = .ok (.iconst 1, 1) := by decide +kernel
theorem dX8_fetches_24 : decode cX8_fetches 24 = .ok (.invokestatic 29, 3) := by decide +kernel
theorem dX8_fetches_27 : decode cX8_fetches 27 = .ok (.ifCond .ne 5, 3) := by decide +kernel
theorem dX8_fetches_30 : decode cX8_fetches 30 = .ok (.iconst (-1), 1) := by decide +kernel
theorem dX8_fetches_31 : decode cX8_fetches 31 = .ok (.ireturn, 1) := by decide +kernel
theorem dX8_fetches_32 : decode cX8_fetches 32 = .ok (.iconst 0, 1) := by decide +kernel
theorem dX8_fetches_33 : decode cX8_fetches 33 = .ok (.istore 4, 2) := by decide +kernel
theorem dX8_fetches_35 : decode cX8_fetches 35 = .ok (.iload 4, 2) := by decide +kernel
theorem dX8_fetches_37 : decode cX8_fetches 37 = .ok (.aload_n 0, 1) := by decide +kernel
theorem dX8_fetches_38 : decode cX8_fetches 38 = .ok (.getfield 7, 3) := by decide +kernel
theorem dX8_fetches_41 : decode cX8_fetches 41 = .ok (.iconst 1, 1) := by decide +kernel
theorem dX8_fetches_42 : decode cX8_fetches 42 = .ok (.iaload, 1) := by decide +kernel
theorem dX8_fetches_43 : decode cX8_fetches 43 = .ok (.if_icmp .ge 41, 3) := by decide +kernel
theorem dX8_fetches_46 : decode cX8_fetches 46 = .ok (.aload_n 0, 1) := by decide +kernel
theorem dX8_fetches_47 : decode cX8_fetches 47 = .ok (.iload 4, 2) := by decide +kernel
theorem dX8_fetches_49 : decode cX8_fetches 49 = .ok (.iconst 0, 1) := by decide +kernel
theorem dX8_fetches_50 : decode cX8_fetches 50 = .ok (.invokevirtual 33, 3) := by decide +kernel
theorem dX8_fetches_53 : decode cX8_fetches 53 = .ok (.iconst 1, 1) := by decide +kernel
theorem dX8_fetches_54 : decode cX8_fetches 54 = .ok (.if_icmp .ne 24, 3) := by decide +kernel
theorem dX8_fetches_57 : decode cX8_fetches 57 = .ok (.aload_n 0, 1) := by decide +kernel
theorem dX8_fetches_58 : decode cX8_fetches 58 = .ok (.iload 4, 2) := by decide +kernel
theorem dX8_fetches_60 : decode cX8_fetches 60 = .ok (.iload_n 1, 1) := by decide +kernel
theorem dX8_fetches_61 : decode cX8_fetches 61 = .ok (.invokevirtual 37, 3) := by decide +kernel
theorem dX8_fetches_64 : decode cX8_fetches 64 = .ok (.ifCond .eq 14, 3) := by decide +kernel
theorem dX8_fetches_67 : decode cX8_fetches 67 = .ok (.aload_n 0, 1) := by decide +kernel
theorem dX8_fetches_68 : decode cX8_fetches 68 = .ok (.iload 4, 2) := by decide +kernel
theorem dX8_fetches_70 : decode cX8_fetches 70 = .ok (.iconst 4, 1) := by decide +kernel
theorem dX8_fetches_71 : decode cX8_fetches 71 = .ok (.invokevirtual 33, 3) := by decide +kernel
theorem dX8_fetches_74 : decode cX8_fetches 74 = .ok (.iload_n 2, 1) := by decide +kernel
theorem dX8_fetches_75 : decode cX8_fetches 75 = .ok (.if_icmp .eq 9, 3) := by decide +kernel
theorem dX8_fetches_78 : decode cX8_fetches 78 = .ok (.iinc 4 1, 3) := by decide +kernel
theorem dX8_fetches_81 : decode cX8_fetches 81 = .ok (.goto (-46), 3) := by decide +kernel
theorem dX8_fetches_84 : decode cX8_fetches 84 = .ok (.iload 4, 2) := by decide +kernel
theorem dX8_fetches_86 : decode cX8_fetches 86 = .ok (.aload_n 0, 1) := by decide +kernel
theorem dX8_fetches_87 : decode cX8_fetches 87 = .ok (.getfield 7, 3) := by decide +kernel
theorem dX8_fetches_90 : decode cX8_fetches 90 = .ok (.iconst 1, 1) := by decide +kernel
theorem dX8_fetches_91 : decode cX8_fetches 91 = .ok (.iaload, 1) := by decide +kernel
theorem dX8_fetches_92 : decode cX8_fetches 92 = .ok (.if_icmp .ne 6, 3) := by decide +kernel
theorem dX8_fetches_95 : decode cX8_fetches 95 = .ok (.bipush (-2), 2) := by decide +kernel
theorem dX8_fetches_97 : decode cX8_fetches 97 = .ok (.ireturn, 1) := by decide +kernel
theorem dX8_fetches_98 : decode cX8_fetches 98 = .ok (.aload_n 0, 1) := by decide +kernel
theorem dX8_fetches_99 : decode cX8_fetches 99 = .ok (.iload 4, 2) := by decide +kernel
theorem dX8_fetches_101 : decode cX8_fetches 101 = .ok (.iconst 5, 1) := by decide +kernel
theorem dX8_fetches_102 : decode cX8_fetches 102 = .ok (.invokevirtual 33, 3) := by decide +kernel
theorem dX8_fetches_105 : decode cX8_fetches 105 = .ok (.istore 5, 2) := by decide +kernel
theorem dX8_fetches_107 : decode cX8_fetches 107 = .ok (.aload_n 0, 1) := by decide +kernel
theorem dX8_fetches_108 : decode cX8_fetches 108 = .ok (.iload 4, 2) := by decide +kernel
theorem dX8_fetches_110 : decode cX8_fetches 110 = .ok (.iconst 0, 1) := by decide +kernel
theorem dX8_fetches_111 : decode cX8_fetches 111 = .ok (.iconst 3, 1) := by decide +kernel
theorem dX8_fetches_112 : decode cX8_fetches 112 = .ok (.iload_n 3, 1) := by decide +kernel
theorem dX8_fetches_113 : decode cX8_fetches 113 = .ok (.iadd, 1) := by decide +kernel
theorem dX8_fetches_114 : decode cX8_fetches 114 = .ok (.invokevirtual 64, 3) := by decide +kernel
theorem dX8_fetches_117 : decode cX8_fetches 117 = .ok (.aload_n 0, 1) := by decide +kernel
theorem dX8_fetches_118 : decode cX8_fetches 118 = .ok (.iload_n 1, 1) := by decide +kernel
theorem dX8_fetches_119 : decode cX8_fetches 119 = .ok (.iconst 4, 1) := by decide +kernel
theorem dX8_fetches_120 : decode cX8_fetches 120 = .ok (.iload_n 3, 1) := by decide +kernel
theorem dX8_fetches_121 : decode cX8_fetches 121 = .ok (.iadd, 1) := by decide +kernel
theorem dX8_fetches_122 : decode cX8_fetches 122 = .ok (.invokevirtual 60, 3) := by decide +kernel
theorem dX8_fetches_125 : decode cX8_fetches 125 = .ok (.aload_n 0, 1) := by decide +kernel
theorem dX8_fetches_126 : decode cX8_fetches 126 = .ok (.getfield 7, 3) := by decide +kernel
theorem dX8_fetches_129 : decode cX8_fetches 129 = .ok (.bipush 9, 2) := by decide +kernel
theorem dX8_fetches_131 : decode cX8_fetches 131 = .ok (.iload_n 3, 1) := by decide +kernel
theorem dX8_fetches_132 : decode cX8_fetches 132 = .ok (.iadd, 1) := by decide +kernel
theorem dX8_fetches_133 : decode cX8_fetches 133 = .ok (.dup2, 1) := by decide +kernel
theorem dX8_fetches_134 : decode cX8_fetches 134 = .ok (.iaload, 1) := by decide +kernel
theorem dX8_fetches_135 : decode cX8_fetches 135 = .ok (.iconst 1, 1) := by decide +kernel
theorem dX8_fetches_136 : decode cX8_fetches 136 = .ok (.iadd, 1) := by decide +kernel
theorem dX8_fetches_137 : decode cX8_fetches 137 = .ok (.iastore, 1) := by decide +kernel
theorem dX8_fetches_138 : decode cX8_fetches 138 = .ok (.aload_n 0, 1) := by decide +kernel
theorem dX8_fetches_139 : decode cX8_fetches 139 = .ok (.iload 5, 2) := by decide +kernel
theorem dX8_fetches_141 : decode cX8_fetches 141 = .ok (.iconst 3, 1) := by decide +kernel
theorem dX8_fetches_142 : decode cX8_fetches 142 = .ok (.aload_n 0, 1) := by decide +kernel
theorem dX8_fetches_143 : decode cX8_fetches 143 = .ok (.iload 5, 2) := by decide +kernel
theorem dX8_fetches_145 : decode cX8_fetches 145 = .ok (.iconst 3, 1) := by decide +kernel
theorem dX8_fetches_146 : decode cX8_fetches 146 = .ok (.invokevirtual 54, 3) := by decide +kernel
theorem dX8_fetches_149 : decode cX8_fetches 149 = .ok (.iconst 1, 1) := by decide +kernel
theorem dX8_fetches_150 : decode cX8_fetches 150 = .ok (.iadd, 1) := by decide +kernel
theorem dX8_fetches_151 : decode cX8_fetches 151 = .ok (.iload_n 3, 1) := by decide +kernel
theorem dX8_fetches_152 : decode cX8_fetches 152 = .ok (.isub, 1) := by decide +kernel
theorem dX8_fetches_153 : decode cX8_fetches 153 = .ok (.invokevirtual 71, 3) := by decide +kernel
theorem dX8_fetches_156 : decode cX8_fetches 156 = .ok (.iload 4, 2) := by decide +kernel
theorem dX8_fetches_158 : decode cX8_fetches 158 = .ok (.ireturn, 1) := by decide +kernel
set_option maxRecDepth 20000 in
theorem ggX8_takes_X8_isHelper : GoodIn wsX8_takes wsX8_isHelper := goodIn_r _ [5, 6, 7, 8, 4, 9, 49, 50, 51, 52, 53, 54, 55, 56, 57, 58] (by decide +kernel) (by decide +kernel)
set_option maxRecDepth 20000 in
theorem gX8_takes_X8_isHelper : GoodIn wsX8_takes (wsV RX8 116 RX8 yX8_isHelper wsX8_isHelper) := goodIn_app (goodIn_of _ (by decide +kernel)) ggX8_takes_X8_isHelper
set_option maxRecDepth 20000 in
theorem ggX8_takes_X8_isMeal : GoodIn wsX8_takes wsX8_isMeal := goodIn_r _ [13, 6, 7, 8, 4, 9, 49, 50, 51, 52, 53, 54, 55, 56, 57, 58] (by decide +kernel) (by decide +kernel)
set_option maxRecDepth 20000 in
theorem gX8_takes_X8_isMeal : GoodIn wsX8_takes (wsV RX8 101 RX8 yX8_isMeal wsX8_isMeal) := goodIn_app (goodIn_of _ (by decide +kernel)) ggX8_takes_X8_isMeal
set_option maxRecDepth 20000 in
theorem ggX8_takes_X8_mealsOf : GoodIn wsX8_takes wsX8_mealsOf := goodIn_r _ [17, 6, 18, 19, 20, 4, 21, 22, 23, 24, 25, 26, 27, 28, 29, 49, 50, 51, 52, 53, 54, 55, 56, 57, 58] (by decide +kernel) (by decide +kernel)
set_option maxRecDepth 20000 in
theorem gX8_takes_X8_mealsOf : GoodIn wsX8_takes (wsV RX8 47 RX8 yX8_mealsOf wsX8_mealsOf) := goodIn_app (goodIn_of _ (by decide +kernel)) ggX8_takes_X8_mealsOf
set_option maxRecDepth 20000 in
theorem ggX8_takes_X8_ones : GoodIn wsX8_takes wsX8_ones := goodIn_r _ [32] (by decide +kernel) (by decide +kernel)
set_option maxRecDepth 20000 in
theorem gX8_takes_X8_ones : GoodIn wsX8_takes (va_wsS RX8 50 yX8_ones wsX8_ones) := goodIn_app (goodIn_of _ (by decide +kernel)) ggX8_takes_X8_ones
set_option maxRecDepth 20000 in
theorem ggX8_takes_X8_isUnderWay : GoodIn wsX8_takes wsX8_isUnderWay := goodIn_r _ [36, 6, 37, 38, 39, 4, 40, 49, 50, 51, 52, 53, 54, 55, 56, 57, 58] (by decide +kernel) (by decide +kernel)
set_option maxRecDepth 20000 in
theorem gX8_takes_X8_isUnderWay : GoodIn wsX8_takes (wsV RX8 74 RX8 yX8_isUnderWay wsX8_isUnderWay) := goodIn_app (goodIn_of _ (by decide +kernel)) ggX8_takes_X8_isUnderWay
set_option maxRecDepth 20000 in
theorem ggX8_takes_X8_ofHelper : GoodIn wsX8_takes wsX8_ofHelper := goodIn_r _ [40, 6, 49, 50, 51, 52, 53, 54, 55, 56, 57, 58] (by decide +kernel) (by decide +kernel)
set_option maxRecDepth 20000 in
theorem gX8_takes_X8_ofHelper : GoodIn wsX8_takes (wsV RX8 57 RX8 yX8_ofHelper wsX8_ofHelper) := goodIn_app (goodIn_of _ (by decide +kernel)) ggX8_takes_X8_ofHelper
set_option maxRecDepth 20000 in
theorem ggX8_takes_X8_ofMeal : GoodIn wsX8_takes wsX8_ofMeal := goodIn_r _ [25, 6, 49, 50, 51, 52, 53, 54, 55, 56, 57, 58] (by decide +kernel) (by decide +kernel)
set_option maxRecDepth 20000 in
theorem gX8_takes_X8_ofMeal : GoodIn wsX8_takes (wsV RX8 33 RX8 yX8_ofMeal wsX8_ofMeal) := goodIn_app (goodIn_of _ (by decide +kernel)) ggX8_takes_X8_ofMeal
set_option maxRecDepth 20000 in
theorem ggX8_takes_X8_isIn : GoodIn wsX8_takes wsX8_isIn := goodIn_r _ [21, 22, 23, 24, 4, 25, 6, 49, 50, 51, 52, 53, 54, 55, 56, 57, 58] (by decide +kernel) (by decide +kernel)
set_option maxRecDepth 20000 in
theorem gX8_takes_X8_isIn : GoodIn wsX8_takes (wsV RX8 37 RX8 yX8_isIn wsX8_isIn) := goodIn_app (goodIn_of _ (by decide +kernel)) ggX8_takes_X8_isIn
set_option maxRecDepth 20000 in
theorem ggX8_takes_X8_setMeal : GoodIn wsX8_takes wsX8_setMeal := goodIn_r _ [44, 6, 49, 50, 51, 52, 53, 54, 55, 56, 57, 58] (by decide +kernel) (by decide +kernel)
set_option maxRecDepth 20000 in
theorem gX8_takes_X8_setMeal : GoodIn wsX8_takes (wsV RX8 64 RX8 yX8_setMeal wsX8_setMeal) := goodIn_app (goodIn_of _ (by decide +kernel)) ggX8_takes_X8_setMeal
set_option maxRecDepth 20000 in
theorem ggX8_takes_X8_moreOf : GoodIn wsX8_takes wsX8_moreOf := goodIn_r _ [48, 6, 49, 50, 51, 52, 53, 54, 55, 56, 57, 58] (by decide +kernel) (by decide +kernel)
set_option maxRecDepth 20000 in
theorem gX8_takes_X8_moreOf : GoodIn wsX8_takes (wsV RX8 60 RX8 yX8_moreOf wsX8_moreOf) := goodIn_app (goodIn_of _ (by decide +kernel)) ggX8_takes_X8_moreOf
theorem dX8_takes_0 : decode cX8_takes 0 = .ok (.aload_n 0, 1) := by decide +kernel
theorem dX8_takes_1 : decode cX8_takes 1 = .ok (.iload_n 1, 1) := by decide +kernel
theorem dX8_takes_2 : decode cX8_takes 2 = .ok (.invokevirtual 116, 3) := by decide +kernel
theorem dX8_takes_5 : decode cX8_takes 5 = .ok (.ifCond .eq 11, 3) := by decide +kernel
theorem dX8_takes_8 : decode cX8_takes 8 = .ok (.aload_n 0, 1) := by decide +kernel
theorem dX8_takes_9 : decode cX8_takes 9 = .ok (.iload_n 2, 1) := by decide +kernel
theorem dX8_takes_10 : decode cX8_takes 10 = .ok (.invokevirtual 101, 3) := by decide +kernel
theorem dX8_takes_13 : decode cX8_takes 13 = .ok (.ifCond .ne 5, 3) := by decide +kernel
theorem dX8_takes_16 : decode cX8_takes 16 = .ok (.iconst (-1), 1) := by decide +kernel
theorem dX8_takes_17 : decode cX8_takes 17 = .ok (.ireturn, 1) := by decide +kernel
theorem dX8_takes_18 : decode cX8_takes 18 = .ok (.aload_n 0, 1) := by decide +kernel
theorem dX8_takes_19 : decode cX8_takes 19 = .ok (.iload_n 1, 1) := by decide +kernel
theorem dX8_takes_20 : decode cX8_takes 20 = .ok (.iconst 1, 1) := by decide +kernel
theorem dX8_takes_21 : decode cX8_takes 21 = .ok (.invokevirtual 47, 3) := by decide +kernel
theorem dX8_takes_24 : decode cX8_takes 24 = .ok (.invokestatic 50, 3) := by decide +kernel
theorem dX8_takes_27 : decode cX8_takes 27 = .ok (.istore_n 3, 1) := by decide +kernel
theorem dX8_takes_28 : decode cX8_takes 28 = .ok (.aload_n 0, 1) := by decide +kernel
theorem dX8_takes_29 : decode cX8_takes 29 = .ok (.iload_n 1, 1) := by decide +kernel
theorem dX8_takes_30 : decode cX8_takes 30 = .ok (.invokevirtual 74, 3) := by decide +kernel
theorem dX8_takes_33 : decode cX8_takes 33 = .ok (.ifCond .ne 40, 3) := by decide +kernel
theorem dX8_takes_36 : decode cX8_takes 36 = .ok (.iload_n 3, 1) := by decide +kernel
theorem dX8_takes_37 : decode cX8_takes 37 = .ok (.aload_n 0, 1) := by decide +kernel
theorem dX8_takes_38 : decode cX8_takes 38 = .ok (.iload_n 1, 1) := by decide +kernel
theorem dX8_takes_39 : decode cX8_takes 39 = .ok (.iconst 0, 1) := by decide +kernel
theorem dX8_takes_40 : decode cX8_takes 40 = .ok (.invokevirtual 57, 3) := by decide +kernel
theorem dX8_takes_43 : decode cX8_takes 43 = .ok (.if_icmp .ge 30, 3) := by decide +kernel
theorem dX8_takes_46 : decode cX8_takes 46 = .ok (.aload_n 0, 1) := by decide +kernel
theorem dX8_takes_47 : decode cX8_takes 47 = .ok (.iload_n 2, 1) := by decide +kernel
theorem dX8_takes_48 : decode cX8_takes 48 = .ok (.iconst 0, 1) := by decide +kernel
theorem dX8_takes_49 : decode cX8_takes 49 = .ok (.invokevirtual 33, 3) := by decide +kernel
theorem dX8_takes_52 : decode cX8_takes 52 = .ok (.ifCond .ne 21, 3) := by decide +kernel
theorem dX8_takes_55 : decode cX8_takes 55 = .ok (.aload_n 0, 1) := by decide +kernel
theorem dX8_takes_56 : decode cX8_takes 56 = .ok (.iload_n 2, 1) := by decide +kernel
theorem dX8_takes_57 : decode cX8_takes 57 = .ok (.aload_n 0, 1) := by decide +kernel
theorem dX8_takes_58 : decode cX8_takes 58 = .ok (.iload_n 1, 1) := by decide +kernel
theorem dX8_takes_59 : decode cX8_takes 59 = .ok (.iconst 1, 1) := by decide +kernel
theorem dX8_takes_60 : decode cX8_takes 60 = .ok (.invokevirtual 57, 3) := by decide +kernel
theorem dX8_takes_63 : decode cX8_takes 63 = .ok (.invokevirtual 37, 3) := by decide +kernel
theorem dX8_takes_66 : decode cX8_takes 66 = .ok (.ifCond .eq 7, 3) := by decide +kernel
theorem dX8_takes_69 : decode cX8_takes 69 = .ok (.iconst 1, 1) := by decide +kernel
theorem dX8_takes_70 : decode cX8_takes 70 = .ok (.goto 4, 3) := by decide +kernel
theorem dX8_takes_73 : decode cX8_takes 73 = .ok (.iconst 0, 1) := by decide +kernel
theorem dX8_takes_74 : decode cX8_takes 74 = .ok (.istore 4, 2) := by decide +kernel
theorem dX8_takes_76 : decode cX8_takes 76 = .ok (.iload 4, 2) := by decide +kernel
theorem dX8_takes_78 : decode cX8_takes 78 = .ok (.ifCond .ne 6, 3) := by decide +kernel
theorem dX8_takes_81 : decode cX8_takes 81 = .ok (.bipush (-2), 2) := by decide +kernel
theorem dX8_takes_83 : decode cX8_takes 83 = .ok (.ireturn, 1) := by decide +kernel
theorem dX8_takes_84 : decode cX8_takes 84 = .ok (.aload_n 0, 1) := by decide +kernel
theorem dX8_takes_85 : decode cX8_takes 85 = .ok (.iload_n 2, 1) := by decide +kernel
theorem dX8_takes_86 : decode cX8_takes 86 = .ok (.iconst 0, 1) := by decide +kernel
theorem dX8_takes_87 : decode cX8_takes 87 = .ok (.iconst 2, 1) := by decide +kernel
theorem dX8_takes_88 : decode cX8_takes 88 = .ok (.invokevirtual 64, 3) := by decide +kernel
theorem dX8_takes_91 : decode cX8_takes 91 = .ok (.aload_n 0, 1) := by decide +kernel
theorem dX8_takes_92 : decode cX8_takes 92 = .ok (.iload_n 2, 1) := by decide +kernel
theorem dX8_takes_93 : decode cX8_takes 93 = .ok (.bipush 7, 2) := by decide +kernel
theorem dX8_takes_95 : decode cX8_takes 95 = .ok (.iload_n 1, 1) := by decide +kernel
theorem dX8_takes_96 : decode cX8_takes 96 = .ok (.invokevirtual 64, 3) := by decide +kernel
theorem dX8_takes_99 : decode cX8_takes 99 = .ok (.aload_n 0, 1) := by decide +kernel
theorem dX8_takes_100 : decode cX8_takes 100 = .ok (.aload_n 0, 1) := by decide +kernel
theorem dX8_takes_101 : decode cX8_takes 101 = .ok (.iload_n 1, 1) := by decide +kernel
theorem dX8_takes_102 : decode cX8_takes 102 = .ok (.iconst 1, 1) := by decide +kernel
theorem dX8_takes_103 : decode cX8_takes 103 = .ok (.invokevirtual 57, 3) := by decide +kernel
theorem dX8_takes_106 : decode cX8_takes 106 = .ok (.bipush 6, 2) := by decide +kernel
theorem dX8_takes_108 : decode cX8_takes 108 = .ok (.invokevirtual 60, 3) := by decide +kernel
theorem dX8_takes_111 : decode cX8_takes 111 = .ok (.iload_n 3, 1) := by decide +kernel
theorem dX8_takes_112 : decode cX8_takes 112 = .ok (.iconst 1, 1) := by decide +kernel
theorem dX8_takes_113 : decode cX8_takes 113 = .ok (.iadd, 1) := by decide +kernel
theorem dX8_takes_114 : decode cX8_takes 114 = .ok (.ireturn, 1) := by decide +kernel
theorem dX8_way_0 : decode cX8_way 0 = .ok (.iload_n 1, 1) := by decide +kernel
theorem dX8_way_1 : decode cX8_way 1 = .ok (.iload_n 2, 1) := by decide +kernel
theorem dX8_way_2 : decode cX8_way 2 = .ok (.if_icmp .le 9, 3) := by decide +kernel
theorem dX8_way_5 : decode cX8_way 5 = .ok (.iload_n 1, 1) := by decide +kernel
theorem dX8_way_6 : decode cX8_way 6 = .ok (.iload_n 2, 1) := by decide +kernel
theorem dX8_way_7 : decode cX8_way 7 = .ok (.isub, 1) := by decide +kernel
theorem dX8_way_8 : decode cX8_way 8 = .ok (.goto 6, 3) := by decide +kernel
theorem dX8_way_11 : decode cX8_way 11 = .ok (.iload_n 2, 1) := by decide +kernel
theorem dX8_way_12 : decode cX8_way 12 = .ok (.iload_n 1, 1) := by decide +kernel
theorem dX8_way_13 : decode cX8_way 13 = .ok (.isub, 1) := by decide +kernel
theorem dX8_way_14 : decode cX8_way 14 = .ok (.aload_n 0, 1) := by decide +kernel
theorem dX8_way_15 : decode cX8_way 15 = .ok (.getfield 7, 3) := by decide +kernel
theorem dX8_way_18 : decode cX8_way 18 = .ok (.bipush 8, 2) := by decide +kernel
theorem dX8_way_20 : decode cX8_way 20 = .ok (.iaload, 1) := by decide +kernel
theorem dX8_way_21 : decode cX8_way 21 = .ok (.imul, 1) := by decide +kernel
theorem dX8_way_22 : decode cX8_way 22 = .ok (.ireturn, 1) := by decide +kernel
set_option maxRecDepth 20000 in
theorem ggX8_goes_X8_isHelper : GoodIn wsX8_goes wsX8_isHelper := goodIn_r _ [6, 1, 7, 8, 5, 9, 30, 31, 32, 33, 34, 35, 36, 37, 38, 39] (by decide +kernel) (by decide +kernel)
set_option maxRecDepth 20000 in
theorem gX8_goes_X8_isHelper : GoodIn wsX8_goes (wsV RX8 116 RX8 yX8_isHelper wsX8_isHelper) := goodIn_app (goodIn_of _ (by decide +kernel)) ggX8_goes_X8_isHelper
set_option maxRecDepth 20000 in
theorem ggX8_goes_X8_isLocker : GoodIn wsX8_goes wsX8_isLocker := goodIn_r _ [13, 1, 7, 8, 5, 9, 30, 31, 32, 33, 34, 35, 36, 37, 38, 39] (by decide +kernel) (by decide +kernel)
set_option maxRecDepth 20000 in
theorem gX8_goes_X8_isLocker : GoodIn wsX8_goes (wsV RX8 113 RX8 yX8_isLocker wsX8_isLocker) := goodIn_app (goodIn_of _ (by decide +kernel)) ggX8_goes_X8_isLocker
set_option maxRecDepth 20000 in
theorem ggX8_goes_X8_isUnderWay : GoodIn wsX8_goes wsX8_isUnderWay := goodIn_r _ [17, 1, 18, 19, 20, 5, 21, 30, 31, 32, 33, 34, 35, 36, 37, 38, 39] (by decide +kernel) (by decide +kernel)
set_option maxRecDepth 20000 in
theorem gX8_goes_X8_isUnderWay : GoodIn wsX8_goes (wsV RX8 74 RX8 yX8_isUnderWay wsX8_isUnderWay) := goodIn_app (goodIn_of _ (by decide +kernel)) ggX8_goes_X8_isUnderWay
set_option maxRecDepth 20000 in
theorem ggX8_goes_X8_ofHelper : GoodIn wsX8_goes wsX8_ofHelper := goodIn_r _ [21, 1, 30, 31, 32, 33, 34, 35, 36, 37, 38, 39] (by decide +kernel) (by decide +kernel)
set_option maxRecDepth 20000 in
theorem gX8_goes_X8_ofHelper : GoodIn wsX8_goes (wsV RX8 57 RX8 yX8_ofHelper wsX8_ofHelper) := goodIn_app (goodIn_of _ (by decide +kernel)) ggX8_goes_X8_ofHelper
set_option maxRecDepth 20000 in
theorem ggX8_goes_X8_way : GoodIn wsX8_goes wsX8_way := goodIn_r _ [25, 1, 30, 31, 32, 33, 34, 35, 36, 37, 38, 39] (by decide +kernel) (by decide +kernel)
set_option maxRecDepth 20000 in
theorem gX8_goes_X8_way : GoodIn wsX8_goes (wsV RX8 119 RX8 yX8_way wsX8_way) := goodIn_app (goodIn_of _ (by decide +kernel)) ggX8_goes_X8_way
set_option maxRecDepth 20000 in
theorem ggX8_goes_X8_setHelper : GoodIn wsX8_goes wsX8_setHelper := goodIn_r _ [29, 1, 30, 31, 32, 33, 34, 35, 36, 37, 38, 39] (by decide +kernel) (by decide +kernel)
set_option maxRecDepth 20000 in
theorem gX8_goes_X8_setHelper : GoodIn wsX8_goes (wsV RX8 78 RX8 yX8_setHelper wsX8_setHelper) := goodIn_app (goodIn_of _ (by decide +kernel)) ggX8_goes_X8_setHelper
theorem dX8_goes_0 : decode cX8_goes 0 = .ok (.aload_n 0, 1) := by decide +kernel
theorem dX8_goes_1 : decode cX8_goes 1 = .ok (.iload_n 1, 1) := by decide +kernel
theorem dX8_goes_2 : decode cX8_goes 2 = .ok (.invokevirtual 116, 3) := by decide +kernel
theorem dX8_goes_5 : decode cX8_goes 5 = .ok (.ifCond .eq 11, 3) := by decide +kernel
theorem dX8_goes_8 : decode cX8_goes 8 = .ok (.aload_n 0, 1) := by decide +kernel
theorem dX8_goes_9 : decode cX8_goes 9 = .ok (.iload_n 2, 1) := by decide +kernel
theorem dX8_goes_10 : decode cX8_goes 10 = .ok (.invokevirtual 113, 3) := by decide +kernel
theorem dX8_goes_13 : decode cX8_goes 13 = .ok (.ifCond .ne 5, 3) := by decide +kernel
theorem dX8_goes_16 : decode cX8_goes 16 = .ok (.iconst (-1), 1) := by decide +kernel
theorem dX8_goes_17 : decode cX8_goes 17 = .ok (.ireturn, 1) := by decide +kernel
theorem dX8_goes_18 : decode cX8_goes 18 = .ok (.aload_n 0, 1) := by decide +kernel
theorem dX8_goes_19 : decode cX8_goes 19 = .ok (.iload_n 1, 1) := by decide +kernel
theorem dX8_goes_20 : decode cX8_goes 20 = .ok (.invokevirtual 74, 3) := by decide +kernel
theorem dX8_goes_23 : decode cX8_goes 23 = .ok (.ifCond .ne 13, 3) := by decide +kernel
theorem dX8_goes_26 : decode cX8_goes 26 = .ok (.aload_n 0, 1) := by decide +kernel
theorem dX8_goes_27 : decode cX8_goes 27 = .ok (.iload_n 1, 1) := by decide +kernel
theorem dX8_goes_28 : decode cX8_goes 28 = .ok (.iconst 1, 1) := by decide +kernel
theorem dX8_goes_29 : decode cX8_goes 29 = .ok (.invokevirtual 57, 3) := by decide +kernel
theorem dX8_goes_32 : decode cX8_goes 32 = .ok (.iload_n 2, 1) := by decide +kernel
theorem dX8_goes_33 : decode cX8_goes 33 = .ok (.if_icmp .ne 6, 3) := by decide +kernel
theorem dX8_goes_36 : decode cX8_goes 36 = .ok (.bipush (-2), 2) := by decide +kernel
theorem dX8_goes_38 : decode cX8_goes 38 = .ok (.ireturn, 1) := by decide +kernel
theorem dX8_goes_39 : decode cX8_goes 39 = .ok (.aload_n 0, 1) := by decide +kernel
theorem dX8_goes_40 : decode cX8_goes 40 = .ok (.iload_n 1, 1) := by decide +kernel
theorem dX8_goes_41 : decode cX8_goes 41 = .ok (.iconst 2, 1) := by decide +kernel
theorem dX8_goes_42 : decode cX8_goes 42 = .ok (.aload_n 0, 1) := by decide +kernel
theorem dX8_goes_43 : decode cX8_goes 43 = .ok (.getfield 7, 3) := by decide +kernel
theorem dX8_goes_46 : decode cX8_goes 46 = .ok (.iconst 4, 1) := by decide +kernel
theorem dX8_goes_47 : decode cX8_goes 47 = .ok (.iaload, 1) := by decide +kernel
theorem dX8_goes_48 : decode cX8_goes 48 = .ok (.aload_n 0, 1) := by decide +kernel
theorem dX8_goes_49 : decode cX8_goes 49 = .ok (.aload_n 0, 1) := by decide +kernel
theorem dX8_goes_50 : decode cX8_goes 50 = .ok (.iload_n 1, 1) := by decide +kernel
theorem dX8_goes_51 : decode cX8_goes 51 = .ok (.iconst 1, 1) := by decide +kernel
theorem dX8_goes_52 : decode cX8_goes 52 = .ok (.invokevirtual 57, 3) := by decide +kernel
theorem dX8_goes_55 : decode cX8_goes 55 = .ok (.iload_n 2, 1) := by decide +kernel
theorem dX8_goes_56 : decode cX8_goes 56 = .ok (.invokevirtual 119, 3) := by decide +kernel
theorem dX8_goes_59 : decode cX8_goes 59 = .ok (.iadd, 1) := by decide +kernel
theorem dX8_goes_60 : decode cX8_goes 60 = .ok (.invokevirtual 78, 3) := by decide +kernel
theorem dX8_goes_63 : decode cX8_goes 63 = .ok (.aload_n 0, 1) := by decide +kernel
theorem dX8_goes_64 : decode cX8_goes 64 = .ok (.iload_n 1, 1) := by decide +kernel
theorem dX8_goes_65 : decode cX8_goes 65 = .ok (.iconst 1, 1) := by decide +kernel
theorem dX8_goes_66 : decode cX8_goes 66 = .ok (.iload_n 2, 1) := by decide +kernel
theorem dX8_goes_67 : decode cX8_goes 67 = .ok (.invokevirtual 78, 3) := by decide +kernel
theorem dX8_goes_70 : decode cX8_goes 70 = .ok (.aload_n 0, 1) := by decide +kernel
theorem dX8_goes_71 : decode cX8_goes 71 = .ok (.iload_n 1, 1) := by decide +kernel
theorem dX8_goes_72 : decode cX8_goes 72 = .ok (.iconst 2, 1) := by decide +kernel
theorem dX8_goes_73 : decode cX8_goes 73 = .ok (.invokevirtual 57, 3) := by decide +kernel
theorem dX8_goes_76 : decode cX8_goes 76 = .ok (.ireturn, 1) := by decide +kernel
set_option maxRecDepth 20000 in
theorem ggX8_puts_X8_isHelper : GoodIn wsX8_puts wsX8_isHelper := goodIn_r _ [5, 6, 7, 8, 4, 9, 57, 58, 59, 60, 61, 62, 63, 64, 65, 66] (by decide +kernel) (by decide +kernel)
set_option maxRecDepth 20000 in
theorem gX8_puts_X8_isHelper : GoodIn wsX8_puts (wsV RX8 116 RX8 yX8_isHelper wsX8_isHelper) := goodIn_app (goodIn_of _ (by decide +kernel)) ggX8_puts_X8_isHelper
set_option maxRecDepth 20000 in
theorem ggX8_puts_X8_isUnderWay : GoodIn wsX8_puts wsX8_isUnderWay := goodIn_r _ [13, 6, 14, 15, 16, 4, 17, 57, 58, 59, 60, 61, 62, 63, 64, 65, 66] (by decide +kernel) (by decide +kernel)
set_option maxRecDepth 20000 in
theorem gX8_puts_X8_isUnderWay : GoodIn wsX8_puts (wsV RX8 74 RX8 yX8_isUnderWay wsX8_isUnderWay) := goodIn_app (goodIn_of _ (by decide +kernel)) ggX8_puts_X8_isUnderWay
set_option maxRecDepth 20000 in
theorem ggX8_puts_X8_lays : GoodIn wsX8_puts wsX8_lays := goodIn_r _ [21, 6, 14, 15, 16, 4, 17, 22, 23, 24, 25, 26, 27, 28, 29, 30, 31, 32, 33, 34, 35, 36, 37, 38, 39, 40, 41, 42, 43, 44, 45, 46, 47, 48, 49, 50, 51, 52, 53, 54, 55, 56, 57, 58, 59, 60, 61, 62, 63, 64, 65, 66] (by decide +kernel) (by decide +kernel)
set_option maxRecDepth 20000 in
theorem gX8_puts_X8_lays : GoodIn wsX8_puts (wsV RX8 88 RX8 yX8_lays wsX8_lays) := goodIn_app (goodIn_of _ (by decide +kernel)) ggX8_puts_X8_lays
theorem dX8_puts_0 : decode cX8_puts 0 = .ok (.aload_n 0, 1) := by decide +kernel
theorem dX8_puts_1 : decode cX8_puts 1 = .ok (.iload_n 1, 1) := by decide +kernel
theorem dX8_puts_2 : decode cX8_puts 2 = .ok (.invokevirtual 116, 3) := by decide +kernel
theorem dX8_puts_5 : decode cX8_puts 5 = .ok (.ifCond .ne 5, 3) := by decide +kernel
theorem dX8_puts_8 : decode cX8_puts 8 = .ok (.iconst (-1), 1) := by decide +kernel
theorem dX8_puts_9 : decode cX8_puts 9 = .ok (.ireturn, 1) := by decide +kernel
theorem dX8_puts_10 : decode cX8_puts 10 = .ok (.aload_n 0, 1) := by decide +kernel
theorem dX8_puts_11 : decode cX8_puts 11 = .ok (.iload_n 1, 1) := by decide +kernel
theorem dX8_puts_12 : decode cX8_puts 12 = .ok (.invokevirtual 74, 3) := by decide +kernel
theorem dX8_puts_15 : decode cX8_puts 15 = .ok (.ifCond .eq 7, 3) := by decide +kernel
theorem dX8_puts_18 : decode cX8_puts 18 = .ok (.iconst 0, 1) := by decide +kernel
theorem dX8_puts_19 : decode cX8_puts 19 = .ok (.goto 8, 3) := by decide +kernel
theorem dX8_puts_22 : decode cX8_puts 22 = .ok (.aload_n 0, 1) := by decide +kernel
theorem dX8_puts_23 : decode cX8_puts 23 = .ok (.iload_n 1, 1) := by decide +kernel
theorem dX8_puts_24 : decode cX8_puts 24 = .ok (.invokevirtual 88, 3) := by decide +kernel
theorem dX8_puts_27 : decode cX8_puts 27 = .ok (.istore_n 2, 1) := by decide +kernel
theorem dX8_puts_28 : decode cX8_puts 28 = .ok (.iload_n 2, 1) := by decide +kernel
theorem dX8_puts_29 : decode cX8_puts 29 = .ok (.ifCond .ne 8, 3) := by decide +kernel
theorem dX8_puts_32 : decode cX8_puts 32 = .ok (.bipush (-2), 2) := by decide +kernel
theorem dX8_puts_34 : decode cX8_puts 34 = .ok (.goto 4, 3) := by decide +kernel
theorem dX8_puts_37 : decode cX8_puts 37 = .ok (.iload_n 2, 1) := by decide +kernel
theorem dX8_puts_38 : decode cX8_puts 38 = .ok (.ireturn, 1) := by decide +kernel
set_option maxRecDepth 20000 in
theorem ggX8_lets_X8_in : GoodIn wsX8_lets wsX8_in := goodIn_r _ [5] (by decide +kernel) (by decide +kernel)
set_option maxRecDepth 20000 in
theorem gX8_lets_X8_in : GoodIn wsX8_lets (va_wsS RX8 29 yX8_in wsX8_in) := goodIn_app (goodIn_of _ (by decide +kernel)) ggX8_lets_X8_in
set_option maxRecDepth 20000 in
theorem ggX8_lets_X8_passes : GoodIn wsX8_lets wsX8_passes := goodIn_r _ [9, 10, 11, 12, 4, 13, 1, 14, 15, 16, 17, 18, 19, 20, 21, 22, 23, 24, 25, 26, 27, 28, 29, 30, 31, 32, 33, 34, 35, 36, 37, 38, 39, 40, 41, 42, 43, 44, 45, 46, 47, 48, 49, 50, 51, 52, 53, 54, 55, 56, 57, 58, 59, 60, 61, 62, 63, 64, 65, 66, 67, 68, 69, 70, 71, 72, 73, 74, 75, 76, 77, 78, 79, 80, 81, 82, 83, 84, 85, 86, 87, 88, 89, 90, 91, 92, 93, 94] (by decide +kernel) (by decide +kernel)
set_option maxRecDepth 20000 in
theorem gX8_lets_X8_passes : GoodIn wsX8_lets (wsV RX8 122 RX8 yX8_passes wsX8_passes) := goodIn_app (goodIn_of _ (by decide +kernel)) ggX8_lets_X8_passes
set_option maxRecDepth 20000 in
theorem ggX8_lets_X8_ones : GoodIn wsX8_lets wsX8_ones := goodIn_r _ [72] (by decide +kernel) (by decide +kernel)
set_option maxRecDepth 20000 in
theorem gX8_lets_X8_ones : GoodIn wsX8_lets (va_wsS RX8 50 yX8_ones wsX8_ones) := goodIn_app (goodIn_of _ (by decide +kernel)) ggX8_lets_X8_ones
theorem dX8_lets_0 : decode cX8_lets 0 = .ok (.iload_n 1, 1) := by decide +kernel
theorem dX8_lets_1 : decode cX8_lets 1 = .ok (.iconst 1, 1) := by decide +kernel
theorem dX8_lets_2 : decode cX8_lets 2 = .ok (.bipush 99, 2) := by decide +kernel
theorem dX8_lets_4 : decode cX8_lets 4 = .ok (.invokestatic 29, 3) := by decide +kernel
theorem dX8_lets_7 : decode cX8_lets 7 = .ok (.ifCond .ne 5, 3) := by decide +kernel
theorem dX8_lets_10 : decode cX8_lets 10 = .ok (.iconst (-1), 1) := by decide +kernel
theorem dX8_lets_11 : decode cX8_lets 11 = .ok (.ireturn, 1) := by decide +kernel
theorem dX8_lets_12 : decode cX8_lets 12 = .ok (.aload_n 0, 1) := by decide +kernel
theorem dX8_lets_13 : decode cX8_lets 13 = .ok (.getfield 7, 3) := by decide +kernel
theorem dX8_lets_16 : decode cX8_lets 16 = .ok (.iconst 4, 1) := by decide +kernel
theorem dX8_lets_17 : decode cX8_lets 17 = .ok (.iaload, 1) := by decide +kernel
theorem dX8_lets_18 : decode cX8_lets 18 = .ok (.iload_n 1, 1) := by decide +kernel
theorem dX8_lets_19 : decode cX8_lets 19 = .ok (.iadd, 1) := by decide +kernel
theorem dX8_lets_20 : decode cX8_lets 20 = .ok (.sipush 5000, 3) := by decide +kernel
theorem dX8_lets_23 : decode cX8_lets 23 = .ok (.if_icmp .le 8, 3) := by decide +kernel
theorem dX8_lets_26 : decode cX8_lets 26 = .ok (.bipush (-3), 2) := by decide +kernel
theorem dX8_lets_28 : decode cX8_lets 28 = .ok (.goto 11, 3) := by decide +kernel
theorem dX8_lets_31 : decode cX8_lets 31 = .ok (.aload_n 0, 1) := by decide +kernel
theorem dX8_lets_32 : decode cX8_lets 32 = .ok (.iload_n 1, 1) := by decide +kernel
theorem dX8_lets_33 : decode cX8_lets 33 = .ok (.invokevirtual 122, 3) := by decide +kernel
theorem dX8_lets_36 : decode cX8_lets 36 = .ok (.invokestatic 50, 3) := by decide +kernel
theorem dX8_lets_39 : decode cX8_lets 39 = .ok (.ireturn, 1) := by decide +kernel
set_option maxRecDepth 20000 in
theorem ggX8_locker_X8_begins : GoodIn wsX8_locker wsX8_begins := goodIn_r _ [6, 7, 1, 21, 22, 23, 24, 25, 26, 27, 28, 29, 30] (by decide +kernel) (by decide +kernel)
set_option maxRecDepth 20000 in
theorem gX8_locker_X8_begins : GoodIn wsX8_locker (wsV RX8 125 RX8 yX8_begins wsX8_begins) := goodIn_app (goodIn_of _ (by decide +kernel)) ggX8_locker_X8_begins
set_option maxRecDepth 20000 in
theorem ggX8_locker_X8_in : GoodIn wsX8_locker wsX8_in := goodIn_r _ [10] (by decide +kernel) (by decide +kernel)
set_option maxRecDepth 20000 in
theorem gX8_locker_X8_in : GoodIn wsX8_locker (va_wsS RX8 29 yX8_in wsX8_in) := goodIn_app (goodIn_of _ (by decide +kernel)) ggX8_locker_X8_in
set_option maxRecDepth 20000 in
theorem ggX8_locker_X8_acted : GoodIn wsX8_locker wsX8_acted := goodIn_r _ [14, 15, 16, 7, 17, 18, 19, 5, 20, 1, 21, 22, 23, 24, 25, 26, 27, 28, 29, 30] (by decide +kernel) (by decide +kernel)
set_option maxRecDepth 20000 in
theorem gX8_locker_X8_acted : GoodIn wsX8_locker (wsV RX8 128 RX8 yX8_acted wsX8_acted) := goodIn_app (goodIn_of _ (by decide +kernel)) ggX8_locker_X8_acted
theorem dX8_locker_0 : decode cX8_locker 0 = .ok (.aload_n 0, 1) := by decide +kernel
theorem dX8_locker_1 : decode cX8_locker 1 = .ok (.invokevirtual 125, 3) := by decide +kernel
theorem dX8_locker_4 : decode cX8_locker 4 = .ok (.iload_n 1, 1) := by decide +kernel
theorem dX8_locker_5 : decode cX8_locker 5 = .ok (.iconst 1, 1) := by decide +kernel
theorem dX8_locker_6 : decode cX8_locker 6 = .ok (.bipush 8, 2) := by decide +kernel
theorem dX8_locker_8 : decode cX8_locker 8 = .ok (.invokestatic 29, 3) := by decide +kernel
theorem dX8_locker_11 : decode cX8_locker 11 = .ok (.ifCond .eq 12, 3) := by decide +kernel
theorem dX8_locker_14 : decode cX8_locker 14 = .ok (.iload_n 2, 1) := by decide +kernel
theorem dX8_locker_15 : decode cX8_locker 15 = .ok (.iconst 0, 1) := by decide +kernel
theorem dX8_locker_16 : decode cX8_locker 16 = .ok (.iconst 1, 1) := by decide +kernel
theorem dX8_locker_17 : decode cX8_locker 17 = .ok (.invokestatic 29, 3) := by decide +kernel
theorem dX8_locker_20 : decode cX8_locker 20 = .ok (.ifCond .ne 5, 3) := by decide +kernel
theorem dX8_locker_23 : decode cX8_locker 23 = .ok (.iconst (-1), 1) := by decide +kernel
theorem dX8_locker_24 : decode cX8_locker 24 = .ok (.ireturn, 1) := by decide +kernel
theorem dX8_locker_25 : decode cX8_locker 25 = .ok (.aload_n 0, 1) := by decide +kernel
theorem dX8_locker_26 : decode cX8_locker 26 = .ok (.getfield 7, 3) := by decide +kernel
theorem dX8_locker_29 : decode cX8_locker 29 = .ok (.iconst 0, 1) := by decide +kernel
theorem dX8_locker_30 : decode cX8_locker 30 = .ok (.iaload, 1) := by decide +kernel
theorem dX8_locker_31 : decode cX8_locker 31 = .ok (.iconst 5, 1) := by decide +kernel
theorem dX8_locker_32 : decode cX8_locker 32 = .ok (.if_icmp .ne 6, 3) := by decide +kernel
theorem dX8_locker_35 : decode cX8_locker 35 = .ok (.bipush (-3), 2) := by decide +kernel
theorem dX8_locker_37 : decode cX8_locker 37 = .ok (.ireturn, 1) := by decide +kernel
theorem dX8_locker_38 : decode cX8_locker 38 = .ok (.bipush 12, 2) := by decide +kernel
theorem dX8_locker_40 : decode cX8_locker 40 = .ok (.bipush 8, 2) := by decide +kernel
theorem dX8_locker_42 : decode cX8_locker 42 = .ok (.aload_n 0, 1) := by decide +kernel
theorem dX8_locker_43 : decode cX8_locker 43 = .ok (.getfield 7, 3) := by decide +kernel
theorem dX8_locker_46 : decode cX8_locker 46 = .ok (.iconst 0, 1) := by decide +kernel
theorem dX8_locker_47 : decode cX8_locker 47 = .ok (.iaload, 1) := by decide +kernel
theorem dX8_locker_48 : decode cX8_locker 48 = .ok (.imul, 1) := by decide +kernel
theorem dX8_locker_49 : decode cX8_locker 49 = .ok (.iadd, 1) := by decide +kernel
theorem dX8_locker_50 : decode cX8_locker 50 = .ok (.istore_n 3, 1) := by decide +kernel
theorem dX8_locker_51 : decode cX8_locker 51 = .ok (.aload_n 0, 1) := by decide +kernel
theorem dX8_locker_52 : decode cX8_locker 52 = .ok (.getfield 7, 3) := by decide +kernel
theorem dX8_locker_55 : decode cX8_locker 55 = .ok (.iload_n 3, 1) := by decide +kernel
theorem dX8_locker_56 : decode cX8_locker 56 = .ok (.iload_n 1, 1) := by decide +kernel
theorem dX8_locker_57 : decode cX8_locker 57 = .ok (.iastore, 1) := by decide +kernel
theorem dX8_locker_58 : decode cX8_locker 58 = .ok (.aload_n 0, 1) := by decide +kernel
theorem dX8_locker_59 : decode cX8_locker 59 = .ok (.getfield 7, 3) := by decide +kernel
theorem dX8_locker_62 : decode cX8_locker 62 = .ok (.iload_n 3, 1) := by decide +kernel
theorem dX8_locker_63 : decode cX8_locker 63 = .ok (.iconst 1, 1) := by decide +kernel
theorem dX8_locker_64 : decode cX8_locker 64 = .ok (.iadd, 1) := by decide +kernel
theorem dX8_locker_65 : decode cX8_locker 65 = .ok (.iload_n 2, 1) := by decide +kernel
theorem dX8_locker_66 : decode cX8_locker 66 = .ok (.iastore, 1) := by decide +kernel
theorem dX8_locker_67 : decode cX8_locker 67 = .ok (.aload_n 0, 1) := by decide +kernel
theorem dX8_locker_68 : decode cX8_locker 68 = .ok (.getfield 7, 3) := by decide +kernel
theorem dX8_locker_71 : decode cX8_locker 71 = .ok (.iconst 0, 1) := by decide +kernel
theorem dX8_locker_72 : decode cX8_locker 72 = .ok (.dup2, 1) := by decide +kernel
theorem dX8_locker_73 : decode cX8_locker 73 = .ok (.iaload, 1) := by decide +kernel
theorem dX8_locker_74 : decode cX8_locker 74 = .ok (.iconst 1, 1) := by decide +kernel
theorem dX8_locker_75 : decode cX8_locker 75 = .ok (.iadd, 1) := by decide +kernel
theorem dX8_locker_76 : decode cX8_locker 76 = .ok (.iastore, 1) := by decide +kernel
theorem dX8_locker_77 : decode cX8_locker 77 = .ok (.aload_n 0, 1) := by decide +kernel
theorem dX8_locker_78 : decode cX8_locker 78 = .ok (.aload_n 0, 1) := by decide +kernel
theorem dX8_locker_79 : decode cX8_locker 79 = .ok (.getfield 7, 3) := by decide +kernel
theorem dX8_locker_82 : decode cX8_locker 82 = .ok (.iconst 0, 1) := by decide +kernel
theorem dX8_locker_83 : decode cX8_locker 83 = .ok (.iaload, 1) := by decide +kernel
theorem dX8_locker_84 : decode cX8_locker 84 = .ok (.iconst 1, 1) := by decide +kernel
theorem dX8_locker_85 : decode cX8_locker 85 = .ok (.isub, 1) := by decide +kernel
theorem dX8_locker_86 : decode cX8_locker 86 = .ok (.invokevirtual 128, 3) := by decide +kernel
theorem dX8_locker_89 : decode cX8_locker 89 = .ok (.ireturn, 1) := by decide +kernel
set_option maxRecDepth 20000 in
theorem ggX8_meal_X8_begins : GoodIn wsX8_meal wsX8_begins := goodIn_r _ [5, 6, 7, 64, 65, 66, 67, 68, 69, 70, 71, 72, 73] (by decide +kernel) (by decide +kernel)
set_option maxRecDepth 20000 in
theorem gX8_meal_X8_begins : GoodIn wsX8_meal (wsV RX8 125 RX8 yX8_begins wsX8_begins) := goodIn_app (goodIn_of _ (by decide +kernel)) ggX8_meal_X8_begins
set_option maxRecDepth 20000 in
theorem ggX8_meal_X8_isLocker : GoodIn wsX8_meal wsX8_isLocker := goodIn_r _ [11, 7, 12, 13, 4, 14, 64, 65, 66, 67, 68, 69, 70, 71, 72, 73] (by decide +kernel) (by decide +kernel)
set_option maxRecDepth 20000 in
theorem gX8_meal_X8_isLocker : GoodIn wsX8_meal (wsV RX8 113 RX8 yX8_isLocker wsX8_isLocker) := goodIn_app (goodIn_of _ (by decide +kernel)) ggX8_meal_X8_isLocker
set_option maxRecDepth 20000 in
theorem ggX8_meal_X8_in : GoodIn wsX8_meal wsX8_in := goodIn_r _ [14] (by decide +kernel) (by decide +kernel)
set_option maxRecDepth 20000 in
theorem gX8_meal_X8_in : GoodIn wsX8_meal (va_wsS RX8 29 yX8_in wsX8_in) := goodIn_app (goodIn_of _ (by decide +kernel)) ggX8_meal_X8_in
set_option maxRecDepth 20000 in
theorem ggX8_meal_X8_addsMeal : GoodIn wsX8_meal wsX8_addsMeal := goodIn_r _ [18, 7, 19, 20, 21, 4, 22, 23, 24, 25, 26, 27, 28, 29, 30, 31, 32, 33, 34, 35, 36, 37, 38, 39, 40, 41, 42, 43, 44, 45, 46, 47, 48, 49, 50, 51, 52, 53, 64, 65, 66, 67, 68, 69, 70, 71, 72, 73] (by decide +kernel) (by decide +kernel)
set_option maxRecDepth 20000 in
theorem gX8_meal_X8_addsMeal : GoodIn wsX8_meal (wsV RX8 131 RX8 yX8_addsMeal wsX8_addsMeal) := goodIn_app (goodIn_of _ (by decide +kernel)) ggX8_meal_X8_addsMeal
set_option maxRecDepth 20000 in
theorem ggX8_meal_X8_acted : GoodIn wsX8_meal wsX8_acted := goodIn_r _ [57, 58, 59, 6, 60, 61, 62, 4, 63, 7, 64, 65, 66, 67, 68, 69, 70, 71, 72, 73] (by decide +kernel) (by decide +kernel)
set_option maxRecDepth 20000 in
theorem gX8_meal_X8_acted : GoodIn wsX8_meal (wsV RX8 128 RX8 yX8_acted wsX8_acted) := goodIn_app (goodIn_of _ (by decide +kernel)) ggX8_meal_X8_acted
theorem dX8_meal_0 : decode cX8_meal 0 = .ok (.aload_n 0, 1) := by decide +kernel
theorem dX8_meal_1 : decode cX8_meal 1 = .ok (.invokevirtual 125, 3) := by decide +kernel
theorem dX8_meal_4 : decode cX8_meal 4 = .ok (.aload_n 0, 1) := by decide +kernel
theorem dX8_meal_5 : decode cX8_meal 5 = .ok (.iload_n 1, 1) := by decide +kernel
theorem dX8_meal_6 : decode cX8_meal 6 = .ok (.invokevirtual 113, 3) := by decide +kernel
theorem dX8_meal_9 : decode cX8_meal 9 = .ok (.ifCond .eq 27, 3) := by decide +kernel
theorem dX8_meal_12 : decode cX8_meal 12 = .ok (.iload_n 2, 1) := by decide +kernel
theorem dX8_meal_13 : decode cX8_meal 13 = .ok (.iconst 1, 1) := by decide +kernel
theorem dX8_meal_14 : decode cX8_meal 14 = .ok (.bipush 99, 2) := by decide +kernel
theorem dX8_meal_16 : decode cX8_meal 16 = .ok (.invokestatic 29, 3) := by decide +kernel
theorem dX8_meal_19 : decode cX8_meal 19 = .ok (.ifCond .eq 17, 3) := by decide +kernel
theorem dX8_meal_22 : decode cX8_meal 22 = .ok (.iload_n 3, 1) := by decide +kernel
theorem dX8_meal_23 : decode cX8_meal 23 = .ok (.iconst 0, 1) := by decide +kernel
theorem dX8_meal_24 : decode cX8_meal 24 = .ok (.bipush 31, 2) := by decide +kernel
theorem dX8_meal_26 : decode cX8_meal 26 = .ok (.invokestatic 29, 3) := by decide +kernel
theorem dX8_meal_29 : decode cX8_meal 29 = .ok (.ifCond .eq 7, 3) := by decide +kernel
theorem dX8_meal_32 : decode cX8_meal 32 = .ok (.iconst 1, 1) := by decide +kernel
theorem dX8_meal_33 : decode cX8_meal 33 = .ok (.goto 4, 3) := by decide +kernel
theorem dX8_meal_36 : decode cX8_meal 36 = .ok (.iconst 0, 1) := by decide +kernel
theorem dX8_meal_37 : decode cX8_meal 37 = .ok (.istore 4, 2) := by decide +kernel
theorem dX8_meal_39 : decode cX8_meal 39 = .ok (.aload_n 0, 1) := by decide +kernel
theorem dX8_meal_40 : decode cX8_meal 40 = .ok (.iload 4, 2) := by decide +kernel
theorem dX8_meal_42 : decode cX8_meal 42 = .ok (.ifCond .eq 13, 3) := by decide +kernel
theorem dX8_meal_45 : decode cX8_meal 45 = .ok (.aload_n 0, 1) := by decide +kernel
theorem dX8_meal_46 : decode cX8_meal 46 = .ok (.iload_n 1, 1) := by decide +kernel
