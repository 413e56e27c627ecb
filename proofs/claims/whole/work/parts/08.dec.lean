theorem dX8_meal_47 : decode cX8_meal 47 = .ok (.iload_n 2, 1) := by decide +kernel
theorem dX8_meal_48 : decode cX8_meal 48 = .ok (.iload_n 3, 1) := by decide +kernel
theorem dX8_meal_49 : decode cX8_meal 49 = .ok (.invokevirtual 131, 3) := by decide +kernel
theorem dX8_meal_52 : decode cX8_meal 52 = .ok (.goto 4, 3) := by decide +kernel
theorem dX8_meal_55 : decode cX8_meal 55 = .ok (.iconst (-1), 1) := by decide +kernel
theorem dX8_meal_56 : decode cX8_meal 56 = .ok (.invokevirtual 128, 3) := by decide +kernel
theorem dX8_meal_59 : decode cX8_meal 59 = .ok (.ireturn, 1) := by decide +kernel
set_option maxRecDepth 20000 in
theorem ggX8_person_X8_begins : GoodIn wsX8_person wsX8_begins := goodIn_r _ [6, 7, 1, 25, 26, 27, 28, 29, 30, 31, 32, 33, 34] (by decide +kernel) (by decide +kernel)
set_option maxRecDepth 20000 in
theorem gX8_person_X8_begins : GoodIn wsX8_person (wsV RX8 125 RX8 yX8_begins wsX8_begins) := goodIn_app (goodIn_of _ (by decide +kernel)) ggX8_person_X8_begins
set_option maxRecDepth 20000 in
theorem ggX8_person_X8_in : GoodIn wsX8_person wsX8_in := goodIn_r _ [10] (by decide +kernel) (by decide +kernel)
set_option maxRecDepth 20000 in
theorem gX8_person_X8_in : GoodIn wsX8_person (va_wsS RX8 29 yX8_in wsX8_in) := goodIn_app (goodIn_of _ (by decide +kernel)) ggX8_person_X8_in
set_option maxRecDepth 20000 in
theorem ggX8_person_X8_setPerson : GoodIn wsX8_person wsX8_setPerson := goodIn_r _ [14, 1, 25, 26, 27, 28, 29, 30, 31, 32, 33, 34] (by decide +kernel) (by decide +kernel)
set_option maxRecDepth 20000 in
theorem gX8_person_X8_setPerson : GoodIn wsX8_person (wsV RX8 71 RX8 yX8_setPerson wsX8_setPerson) := goodIn_app (goodIn_of _ (by decide +kernel)) ggX8_person_X8_setPerson
set_option maxRecDepth 20000 in
theorem ggX8_person_X8_acted : GoodIn wsX8_person wsX8_acted := goodIn_r _ [18, 19, 20, 7, 21, 22, 23, 5, 24, 1, 25, 26, 27, 28, 29, 30, 31, 32, 33, 34] (by decide +kernel) (by decide +kernel)
set_option maxRecDepth 20000 in
theorem gX8_person_X8_acted : GoodIn wsX8_person (wsV RX8 128 RX8 yX8_acted wsX8_acted) := goodIn_app (goodIn_of _ (by decide +kernel)) ggX8_person_X8_acted
theorem dX8_person_0 : decode cX8_person 0 = .ok (.aload_n 0, 1) := by decide +kernel
theorem dX8_person_1 : decode cX8_person 1 = .ok (.invokevirtual 125, 3) := by decide +kernel
theorem dX8_person_4 : decode cX8_person 4 = .ok (.iload_n 1, 1) := by decide +kernel
theorem dX8_person_5 : decode cX8_person 5 = .ok (.iconst 0, 1) := by decide +kernel
theorem dX8_person_6 : decode cX8_person 6 = .ok (.bipush 31, 2) := by decide +kernel
theorem dX8_person_8 : decode cX8_person 8 = .ok (.invokestatic 29, 3) := by decide +kernel
theorem dX8_person_11 : decode cX8_person 11 = .ok (.ifCond .ne 5, 3) := by decide +kernel
theorem dX8_person_14 : decode cX8_person 14 = .ok (.iconst (-1), 1) := by decide +kernel
theorem dX8_person_15 : decode cX8_person 15 = .ok (.ireturn, 1) := by decide +kernel
theorem dX8_person_16 : decode cX8_person 16 = .ok (.aload_n 0, 1) := by decide +kernel
theorem dX8_person_17 : decode cX8_person 17 = .ok (.getfield 7, 3) := by decide +kernel
theorem dX8_person_20 : decode cX8_person 20 = .ok (.iconst 2, 1) := by decide +kernel
theorem dX8_person_21 : decode cX8_person 21 = .ok (.iaload, 1) := by decide +kernel
theorem dX8_person_22 : decode cX8_person 22 = .ok (.bipush 8, 2) := by decide +kernel
theorem dX8_person_24 : decode cX8_person 24 = .ok (.if_icmp .ne 6, 3) := by decide +kernel
theorem dX8_person_27 : decode cX8_person 27 = .ok (.bipush (-3), 2) := by decide +kernel
theorem dX8_person_29 : decode cX8_person 29 = .ok (.ireturn, 1) := by decide +kernel
theorem dX8_person_30 : decode cX8_person 30 = .ok (.aload_n 0, 1) := by decide +kernel
theorem dX8_person_31 : decode cX8_person 31 = .ok (.aload_n 0, 1) := by decide +kernel
theorem dX8_person_32 : decode cX8_person 32 = .ok (.getfield 7, 3) := by decide +kernel
theorem dX8_person_35 : decode cX8_person 35 = .ok (.iconst 2, 1) := by decide +kernel
theorem dX8_person_36 : decode cX8_person 36 = .ok (.iaload, 1) := by decide +kernel
theorem dX8_person_37 : decode cX8_person 37 = .ok (.iconst 0, 1) := by decide +kernel
theorem dX8_person_38 : decode cX8_person 38 = .ok (.iload_n 1, 1) := by decide +kernel
theorem dX8_person_39 : decode cX8_person 39 = .ok (.invokevirtual 71, 3) := by decide +kernel
theorem dX8_person_42 : decode cX8_person 42 = .ok (.aload_n 0, 1) := by decide +kernel
theorem dX8_person_43 : decode cX8_person 43 = .ok (.getfield 7, 3) := by decide +kernel
theorem dX8_person_46 : decode cX8_person 46 = .ok (.iconst 2, 1) := by decide +kernel
theorem dX8_person_47 : decode cX8_person 47 = .ok (.dup2, 1) := by decide +kernel
theorem dX8_person_48 : decode cX8_person 48 = .ok (.iaload, 1) := by decide +kernel
theorem dX8_person_49 : decode cX8_person 49 = .ok (.iconst 1, 1) := by decide +kernel
theorem dX8_person_50 : decode cX8_person 50 = .ok (.iadd, 1) := by decide +kernel
theorem dX8_person_51 : decode cX8_person 51 = .ok (.iastore, 1) := by decide +kernel
theorem dX8_person_52 : decode cX8_person 52 = .ok (.aload_n 0, 1) := by decide +kernel
theorem dX8_person_53 : decode cX8_person 53 = .ok (.aload_n 0, 1) := by decide +kernel
theorem dX8_person_54 : decode cX8_person 54 = .ok (.getfield 7, 3) := by decide +kernel
theorem dX8_person_57 : decode cX8_person 57 = .ok (.iconst 2, 1) := by decide +kernel
theorem dX8_person_58 : decode cX8_person 58 = .ok (.iaload, 1) := by decide +kernel
theorem dX8_person_59 : decode cX8_person 59 = .ok (.iconst 1, 1) := by decide +kernel
theorem dX8_person_60 : decode cX8_person 60 = .ok (.isub, 1) := by decide +kernel
theorem dX8_person_61 : decode cX8_person 61 = .ok (.invokevirtual 128, 3) := by decide +kernel
theorem dX8_person_64 : decode cX8_person 64 = .ok (.ireturn, 1) := by decide +kernel
set_option maxRecDepth 20000 in
theorem ggX8_volunteer_X8_begins : GoodIn wsX8_volunteer wsX8_begins := goodIn_r _ [6, 7, 1, 29, 30, 31, 32, 33, 34, 35, 36, 37, 38] (by decide +kernel) (by decide +kernel)
set_option maxRecDepth 20000 in
theorem gX8_volunteer_X8_begins : GoodIn wsX8_volunteer (wsV RX8 125 RX8 yX8_begins wsX8_begins) := goodIn_app (goodIn_of _ (by decide +kernel)) ggX8_volunteer_X8_begins
set_option maxRecDepth 20000 in
theorem ggX8_volunteer_X8_isLocker : GoodIn wsX8_volunteer wsX8_isLocker := goodIn_r _ [11, 1, 12, 13, 5, 14, 29, 30, 31, 32, 33, 34, 35, 36, 37, 38] (by decide +kernel) (by decide +kernel)
set_option maxRecDepth 20000 in
theorem gX8_volunteer_X8_isLocker : GoodIn wsX8_volunteer (wsV RX8 113 RX8 yX8_isLocker wsX8_isLocker) := goodIn_app (goodIn_of _ (by decide +kernel)) ggX8_volunteer_X8_isLocker
set_option maxRecDepth 20000 in
theorem ggX8_volunteer_X8_in : GoodIn wsX8_volunteer wsX8_in := goodIn_r _ [14] (by decide +kernel) (by decide +kernel)
set_option maxRecDepth 20000 in
theorem gX8_volunteer_X8_in : GoodIn wsX8_volunteer (va_wsS RX8 29 yX8_in wsX8_in) := goodIn_app (goodIn_of _ (by decide +kernel)) ggX8_volunteer_X8_in
set_option maxRecDepth 20000 in
theorem ggX8_volunteer_X8_setHelper : GoodIn wsX8_volunteer wsX8_setHelper := goodIn_r _ [18, 1, 29, 30, 31, 32, 33, 34, 35, 36, 37, 38] (by decide +kernel) (by decide +kernel)
set_option maxRecDepth 20000 in
theorem gX8_volunteer_X8_setHelper : GoodIn wsX8_volunteer (wsV RX8 78 RX8 yX8_setHelper wsX8_setHelper) := goodIn_app (goodIn_of _ (by decide +kernel)) ggX8_volunteer_X8_setHelper
set_option maxRecDepth 20000 in
theorem ggX8_volunteer_X8_acted : GoodIn wsX8_volunteer wsX8_acted := goodIn_r _ [22, 23, 24, 7, 25, 26, 27, 5, 28, 1, 29, 30, 31, 32, 33, 34, 35, 36, 37, 38] (by decide +kernel) (by decide +kernel)
set_option maxRecDepth 20000 in
theorem gX8_volunteer_X8_acted : GoodIn wsX8_volunteer (wsV RX8 128 RX8 yX8_acted wsX8_acted) := goodIn_app (goodIn_of _ (by decide +kernel)) ggX8_volunteer_X8_acted
theorem dX8_volunteer_0 : decode cX8_volunteer 0 = .ok (.aload_n 0, 1) := by decide +kernel
theorem dX8_volunteer_1 : decode cX8_volunteer 1 = .ok (.invokevirtual 125, 3) := by decide +kernel
theorem dX8_volunteer_4 : decode cX8_volunteer 4 = .ok (.aload_n 0, 1) := by decide +kernel
theorem dX8_volunteer_5 : decode cX8_volunteer 5 = .ok (.iload_n 1, 1) := by decide +kernel
theorem dX8_volunteer_6 : decode cX8_volunteer 6 = .ok (.invokevirtual 113, 3) := by decide +kernel
theorem dX8_volunteer_9 : decode cX8_volunteer 9 = .ok (.ifCond .eq 12, 3) := by decide +kernel
theorem dX8_volunteer_12 : decode cX8_volunteer 12 = .ok (.iload_n 2, 1) := by decide +kernel
theorem dX8_volunteer_13 : decode cX8_volunteer 13 = .ok (.iconst 1, 1) := by decide +kernel
theorem dX8_volunteer_14 : decode cX8_volunteer 14 = .ok (.iconst 4, 1) := by decide +kernel
theorem dX8_volunteer_15 : decode cX8_volunteer 15 = .ok (.invokestatic 29, 3) := by decide +kernel
theorem dX8_volunteer_18 : decode cX8_volunteer 18 = .ok (.ifCond .ne 5, 3) := by decide +kernel
theorem dX8_volunteer_21 : decode cX8_volunteer 21 = .ok (.iconst (-1), 1) := by decide +kernel
theorem dX8_volunteer_22 : decode cX8_volunteer 22 = .ok (.ireturn, 1) := by decide +kernel
theorem dX8_volunteer_23 : decode cX8_volunteer 23 = .ok (.aload_n 0, 1) := by decide +kernel
theorem dX8_volunteer_24 : decode cX8_volunteer 24 = .ok (.getfield 7, 3) := by decide +kernel
theorem dX8_volunteer_27 : decode cX8_volunteer 27 = .ok (.iconst 3, 1) := by decide +kernel
theorem dX8_volunteer_28 : decode cX8_volunteer 28 = .ok (.iaload, 1) := by decide +kernel
theorem dX8_volunteer_29 : decode cX8_volunteer 29 = .ok (.iconst 3, 1) := by decide +kernel
theorem dX8_volunteer_30 : decode cX8_volunteer 30 = .ok (.if_icmp .ne 6, 3) := by decide +kernel
theorem dX8_volunteer_33 : decode cX8_volunteer 33 = .ok (.bipush (-3), 2) := by decide +kernel
theorem dX8_volunteer_35 : decode cX8_volunteer 35 = .ok (.ireturn, 1) := by decide +kernel
theorem dX8_volunteer_36 : decode cX8_volunteer 36 = .ok (.aload_n 0, 1) := by decide +kernel
theorem dX8_volunteer_37 : decode cX8_volunteer 37 = .ok (.aload_n 0, 1) := by decide +kernel
theorem dX8_volunteer_38 : decode cX8_volunteer 38 = .ok (.getfield 7, 3) := by decide +kernel
theorem dX8_volunteer_41 : decode cX8_volunteer 41 = .ok (.iconst 3, 1) := by decide +kernel
theorem dX8_volunteer_42 : decode cX8_volunteer 42 = .ok (.iaload, 1) := by decide +kernel
theorem dX8_volunteer_43 : decode cX8_volunteer 43 = .ok (.iconst 0, 1) := by decide +kernel
theorem dX8_volunteer_44 : decode cX8_volunteer 44 = .ok (.iload_n 2, 1) := by decide +kernel
theorem dX8_volunteer_45 : decode cX8_volunteer 45 = .ok (.invokevirtual 78, 3) := by decide +kernel
theorem dX8_volunteer_48 : decode cX8_volunteer 48 = .ok (.aload_n 0, 1) := by decide +kernel
theorem dX8_volunteer_49 : decode cX8_volunteer 49 = .ok (.aload_n 0, 1) := by decide +kernel
theorem dX8_volunteer_50 : decode cX8_volunteer 50 = .ok (.getfield 7, 3) := by decide +kernel
theorem dX8_volunteer_53 : decode cX8_volunteer 53 = .ok (.iconst 3, 1) := by decide +kernel
theorem dX8_volunteer_54 : decode cX8_volunteer 54 = .ok (.iaload, 1) := by decide +kernel
theorem dX8_volunteer_55 : decode cX8_volunteer 55 = .ok (.iconst 1, 1) := by decide +kernel
theorem dX8_volunteer_56 : decode cX8_volunteer 56 = .ok (.iload_n 1, 1) := by decide +kernel
theorem dX8_volunteer_57 : decode cX8_volunteer 57 = .ok (.invokevirtual 78, 3) := by decide +kernel
theorem dX8_volunteer_60 : decode cX8_volunteer 60 = .ok (.aload_n 0, 1) := by decide +kernel
theorem dX8_volunteer_61 : decode cX8_volunteer 61 = .ok (.getfield 7, 3) := by decide +kernel
theorem dX8_volunteer_64 : decode cX8_volunteer 64 = .ok (.iconst 3, 1) := by decide +kernel
theorem dX8_volunteer_65 : decode cX8_volunteer 65 = .ok (.dup2, 1) := by decide +kernel
theorem dX8_volunteer_66 : decode cX8_volunteer 66 = .ok (.iaload, 1) := by decide +kernel
theorem dX8_volunteer_67 : decode cX8_volunteer 67 = .ok (.iconst 1, 1) := by decide +kernel
theorem dX8_volunteer_68 : decode cX8_volunteer 68 = .ok (.iadd, 1) := by decide +kernel
theorem dX8_volunteer_69 : decode cX8_volunteer 69 = .ok (.iastore, 1) := by decide +kernel
theorem dX8_volunteer_70 : decode cX8_volunteer 70 = .ok (.aload_n 0, 1) := by decide +kernel
theorem dX8_volunteer_71 : decode cX8_volunteer 71 = .ok (.aload_n 0, 1) := by decide +kernel
theorem dX8_volunteer_72 : decode cX8_volunteer 72 = .ok (.getfield 7, 3) := by decide +kernel
theorem dX8_volunteer_75 : decode cX8_volunteer 75 = .ok (.iconst 3, 1) := by decide +kernel
theorem dX8_volunteer_76 : decode cX8_volunteer 76 = .ok (.iaload, 1) := by decide +kernel
theorem dX8_volunteer_77 : decode cX8_volunteer 77 = .ok (.iconst 1, 1) := by decide +kernel
theorem dX8_volunteer_78 : decode cX8_volunteer 78 = .ok (.isub, 1) := by decide +kernel
theorem dX8_volunteer_79 : decode cX8_volunteer 79 = .ok (.invokevirtual 128, 3) := by decide +kernel
theorem dX8_volunteer_82 : decode cX8_volunteer 82 = .ok (.ireturn, 1) := by decide +kernel
set_option maxRecDepth 20000 in
theorem ggX8_reserve_X8_begins : GoodIn wsX8_reserve wsX8_begins := goodIn_r _ [5, 6, 7, 57, 58, 59, 60, 61, 62, 63, 64, 65, 66] (by decide +kernel) (by decide +kernel)
set_option maxRecDepth 20000 in
theorem gX8_reserve_X8_begins : GoodIn wsX8_reserve (wsV RX8 125 RX8 yX8_begins wsX8_begins) := goodIn_app (goodIn_of _ (by decide +kernel)) ggX8_reserve_X8_begins
set_option maxRecDepth 20000 in
theorem ggX8_reserve_X8_reserves : GoodIn wsX8_reserve wsX8_reserves := goodIn_r _ [11, 7, 12, 13, 14, 4, 15, 16, 17, 18, 19, 20, 21, 22, 23, 24, 25, 26, 27, 28, 29, 30, 31, 32, 33, 34, 35, 36, 37, 38, 39, 40, 41, 42, 43, 44, 45, 46, 57, 58, 59, 60, 61, 62, 63, 64, 65, 66] (by decide +kernel) (by decide +kernel)
set_option maxRecDepth 20000 in
theorem gX8_reserve_X8_reserves : GoodIn wsX8_reserve (wsV RX8 135 RX8 yX8_reserves wsX8_reserves) := goodIn_app (goodIn_of _ (by decide +kernel)) ggX8_reserve_X8_reserves
set_option maxRecDepth 20000 in
theorem ggX8_reserve_X8_acted : GoodIn wsX8_reserve wsX8_acted := goodIn_r _ [50, 51, 52, 6, 53, 54, 55, 4, 56, 7, 57, 58, 59, 60, 61, 62, 63, 64, 65, 66] (by decide +kernel) (by decide +kernel)
set_option maxRecDepth 20000 in
theorem gX8_reserve_X8_acted : GoodIn wsX8_reserve (wsV RX8 128 RX8 yX8_acted wsX8_acted) := goodIn_app (goodIn_of _ (by decide +kernel)) ggX8_reserve_X8_acted
theorem dX8_reserve_0 : decode cX8_reserve 0 = .ok (.aload_n 0, 1) := by decide +kernel
theorem dX8_reserve_1 : decode cX8_reserve 1 = .ok (.invokevirtual 125, 3) := by decide +kernel
theorem dX8_reserve_4 : decode cX8_reserve 4 = .ok (.aload_n 0, 1) := by decide +kernel
theorem dX8_reserve_5 : decode cX8_reserve 5 = .ok (.aload_n 0, 1) := by decide +kernel
theorem dX8_reserve_6 : decode cX8_reserve 6 = .ok (.iload_n 1, 1) := by decide +kernel
theorem dX8_reserve_7 : decode cX8_reserve 7 = .ok (.iload_n 2, 1) := by decide +kernel
theorem dX8_reserve_8 : decode cX8_reserve 8 = .ok (.invokevirtual 135, 3) := by decide +kernel
theorem dX8_reserve_11 : decode cX8_reserve 11 = .ok (.invokevirtual 128, 3) := by decide +kernel
theorem dX8_reserve_14 : decode cX8_reserve 14 = .ok (.ireturn, 1) := by decide +kernel
set_option maxRecDepth 20000 in
theorem ggX8_fetch_X8_begins : GoodIn wsX8_fetch wsX8_begins := goodIn_r _ [5, 6, 7, 53, 54, 55, 56, 57, 58, 59, 60, 61, 62] (by decide +kernel) (by decide +kernel)
set_option maxRecDepth 20000 in
theorem gX8_fetch_X8_begins : GoodIn wsX8_fetch (wsV RX8 125 RX8 yX8_begins wsX8_begins) := goodIn_app (goodIn_of _ (by decide +kernel)) ggX8_fetch_X8_begins
set_option maxRecDepth 20000 in
theorem ggX8_fetch_X8_fetches : GoodIn wsX8_fetch wsX8_fetches := goodIn_r _ [11, 7, 12, 13, 14, 4, 15, 16, 17, 18, 19, 20, 21, 22, 23, 24, 25, 26, 27, 28, 29, 30, 31, 32, 33, 34, 35, 36, 37, 38, 39, 40, 41, 42, 53, 54, 55, 56, 57, 58, 59, 60, 61, 62] (by decide +kernel) (by decide +kernel)
set_option maxRecDepth 20000 in
theorem gX8_fetch_X8_fetches : GoodIn wsX8_fetch (wsV RX8 138 RX8 yX8_fetches wsX8_fetches) := goodIn_app (goodIn_of _ (by decide +kernel)) ggX8_fetch_X8_fetches
set_option maxRecDepth 20000 in
theorem ggX8_fetch_X8_acted : GoodIn wsX8_fetch wsX8_acted := goodIn_r _ [46, 47, 48, 6, 49, 50, 51, 4, 52, 7, 53, 54, 55, 56, 57, 58, 59, 60, 61, 62] (by decide +kernel) (by decide +kernel)
set_option maxRecDepth 20000 in
theorem gX8_fetch_X8_acted : GoodIn wsX8_fetch (wsV RX8 128 RX8 yX8_acted wsX8_acted) := goodIn_app (goodIn_of _ (by decide +kernel)) ggX8_fetch_X8_acted
theorem dX8_fetch_0 : decode cX8_fetch 0 = .ok (.aload_n 0, 1) := by decide +kernel
theorem dX8_fetch_1 : decode cX8_fetch 1 = .ok (.invokevirtual 125, 3) := by decide +kernel
theorem dX8_fetch_4 : decode cX8_fetch 4 = .ok (.aload_n 0, 1) := by decide +kernel
theorem dX8_fetch_5 : decode cX8_fetch 5 = .ok (.aload_n 0, 1) := by decide +kernel
theorem dX8_fetch_6 : decode cX8_fetch 6 = .ok (.iload_n 1, 1) := by decide +kernel
theorem dX8_fetch_7 : decode cX8_fetch 7 = .ok (.iload_n 2, 1) := by decide +kernel
theorem dX8_fetch_8 : decode cX8_fetch 8 = .ok (.iload_n 3, 1) := by decide +kernel
theorem dX8_fetch_9 : decode cX8_fetch 9 = .ok (.invokevirtual 138, 3) := by decide +kernel
theorem dX8_fetch_12 : decode cX8_fetch 12 = .ok (.invokevirtual 128, 3) := by decide +kernel
theorem dX8_fetch_15 : decode cX8_fetch 15 = .ok (.ireturn, 1) := by decide +kernel
set_option maxRecDepth 20000 in
theorem ggX8_take_X8_begins : GoodIn wsX8_take wsX8_begins := goodIn_r _ [5, 6, 7, 68, 69, 70, 71, 72, 73, 74, 75, 76, 77] (by decide +kernel) (by decide +kernel)
set_option maxRecDepth 20000 in
theorem gX8_take_X8_begins : GoodIn wsX8_take (wsV RX8 125 RX8 yX8_begins wsX8_begins) := goodIn_app (goodIn_of _ (by decide +kernel)) ggX8_take_X8_begins
set_option maxRecDepth 20000 in
theorem ggX8_take_X8_takes : GoodIn wsX8_take wsX8_takes := goodIn_r _ [11, 12, 13, 14, 4, 15, 7, 16, 17, 18, 19, 20, 21, 22, 23, 24, 25, 26, 27, 28, 29, 30, 31, 32, 33, 34, 35, 36, 37, 38, 39, 40, 41, 42, 43, 44, 45, 46, 47, 48, 49, 50, 51, 52, 53, 54, 55, 56, 57, 68, 69, 70, 71, 72, 73, 74, 75, 76, 77] (by decide +kernel) (by decide +kernel)
set_option maxRecDepth 20000 in
theorem gX8_take_X8_takes : GoodIn wsX8_take (wsV RX8 141 RX8 yX8_takes wsX8_takes) := goodIn_app (goodIn_of _ (by decide +kernel)) ggX8_take_X8_takes
set_option maxRecDepth 20000 in
theorem ggX8_take_X8_acted : GoodIn wsX8_take wsX8_acted := goodIn_r _ [61, 62, 63, 6, 64, 65, 66, 4, 67, 7, 68, 69, 70, 71, 72, 73, 74, 75, 76, 77] (by decide +kernel) (by decide +kernel)
set_option maxRecDepth 20000 in
theorem gX8_take_X8_acted : GoodIn wsX8_take (wsV RX8 128 RX8 yX8_acted wsX8_acted) := goodIn_app (goodIn_of _ (by decide +kernel)) ggX8_take_X8_acted
theorem dX8_take_0 : decode cX8_take 0 = .ok (.aload_n 0, 1) := by decide +kernel
theorem dX8_take_1 : decode cX8_take 1 = .ok (.invokevirtual 125, 3) := by decide +kernel
theorem dX8_take_4 : decode cX8_take 4 = .ok (.aload_n 0, 1) := by decide +kernel
theorem dX8_take_5 : decode cX8_take 5 = .ok (.aload_n 0, 1) := by decide +kernel
theorem dX8_take_6 : decode cX8_take 6 = .ok (.iload_n 1, 1) := by decide +kernel
theorem dX8_take_7 : decode cX8_take 7 = .ok (.iload_n 2, 1) := by decide +kernel
theorem dX8_take_8 : decode cX8_take 8 = .ok (.invokevirtual 141, 3) := by decide +kernel
theorem dX8_take_11 : decode cX8_take 11 = .ok (.invokevirtual 128, 3) := by decide +kernel
theorem dX8_take_14 : decode cX8_take 14 = .ok (.ireturn, 1) := by decide +kernel
set_option maxRecDepth 20000 in
theorem ggX8_go_X8_begins : GoodIn wsX8_go wsX8_begins := goodIn_r _ [5, 6, 7, 49, 50, 51, 52, 53, 54, 55, 56, 57, 58] (by decide +kernel) (by decide +kernel)
set_option maxRecDepth 20000 in
theorem gX8_go_X8_begins : GoodIn wsX8_go (wsV RX8 125 RX8 yX8_begins wsX8_begins) := goodIn_app (goodIn_of _ (by decide +kernel)) ggX8_go_X8_begins
set_option maxRecDepth 20000 in
theorem ggX8_go_X8_goes : GoodIn wsX8_go wsX8_goes := goodIn_r _ [11, 7, 12, 13, 14, 4, 15, 16, 17, 18, 19, 20, 21, 22, 23, 24, 25, 26, 27, 28, 29, 30, 31, 32, 33, 34, 35, 36, 37, 38, 49, 50, 51, 52, 53, 54, 55, 56, 57, 58] (by decide +kernel) (by decide +kernel)
set_option maxRecDepth 20000 in
theorem gX8_go_X8_goes : GoodIn wsX8_go (wsV RX8 144 RX8 yX8_goes wsX8_goes) := goodIn_app (goodIn_of _ (by decide +kernel)) ggX8_go_X8_goes
set_option maxRecDepth 20000 in
theorem ggX8_go_X8_acted : GoodIn wsX8_go wsX8_acted := goodIn_r _ [42, 43, 44, 6, 45, 46, 47, 4, 48, 7, 49, 50, 51, 52, 53, 54, 55, 56, 57, 58] (by decide +kernel) (by decide +kernel)
set_option maxRecDepth 20000 in
theorem gX8_go_X8_acted : GoodIn wsX8_go (wsV RX8 128 RX8 yX8_acted wsX8_acted) := goodIn_app (goodIn_of _ (by decide +kernel)) ggX8_go_X8_acted
theorem dX8_go_0 : decode cX8_go 0 = .ok (.aload_n 0, 1) := by decide +kernel
theorem dX8_go_1 : decode cX8_go 1 = .ok (.invokevirtual 125, 3) := by decide +kernel
theorem dX8_go_4 : decode cX8_go 4 = .ok (.aload_n 0, 1) := by decide +kernel
theorem dX8_go_5 : decode cX8_go 5 = .ok (.aload_n 0, 1) := by decide +kernel
theorem dX8_go_6 : decode cX8_go 6 = .ok (.iload_n 1, 1) := by decide +kernel
theorem dX8_go_7 : decode cX8_go 7 = .ok (.iload_n 2, 1) := by decide +kernel
theorem dX8_go_8 : decode cX8_go 8 = .ok (.invokevirtual 144, 3) := by decide +kernel
theorem dX8_go_11 : decode cX8_go 11 = .ok (.invokevirtual 128, 3) := by decide +kernel
theorem dX8_go_14 : decode cX8_go 14 = .ok (.ireturn, 1) := by decide +kernel
set_option maxRecDepth 20000 in
theorem ggX8_put_X8_begins : GoodIn wsX8_put wsX8_begins := goodIn_r _ [5, 6, 7, 76, 77, 78, 79, 80, 81, 82, 83, 84, 85] (by decide +kernel) (by decide +kernel)
set_option maxRecDepth 20000 in
theorem gX8_put_X8_begins : GoodIn wsX8_put (wsV RX8 125 RX8 yX8_begins wsX8_begins) := goodIn_app (goodIn_of _ (by decide +kernel)) ggX8_put_X8_begins
set_option maxRecDepth 20000 in
theorem ggX8_put_X8_puts : GoodIn wsX8_put wsX8_puts := goodIn_r _ [11, 12, 13, 14, 4, 15, 7, 16, 17, 18, 19, 20, 21, 22, 23, 24, 25, 26, 27, 28, 29, 30, 31, 32, 33, 34, 35, 36, 37, 38, 39, 40, 41, 42, 43, 44, 45, 46, 47, 48, 49, 50, 51, 52, 53, 54, 55, 56, 57, 58, 59, 60, 61, 62, 63, 64, 65, 76, 77, 78, 79, 80, 81, 82, 83, 84, 85] (by decide +kernel) (by decide +kernel)
set_option maxRecDepth 20000 in
theorem gX8_put_X8_puts : GoodIn wsX8_put (wsV RX8 147 RX8 yX8_puts wsX8_puts) := goodIn_app (goodIn_of _ (by decide +kernel)) ggX8_put_X8_puts
set_option maxRecDepth 20000 in
theorem ggX8_put_X8_acted : GoodIn wsX8_put wsX8_acted := goodIn_r _ [69, 70, 71, 6, 72, 73, 74, 4, 75, 7, 76, 77, 78, 79, 80, 81, 82, 83, 84, 85] (by decide +kernel) (by decide +kernel)
set_option maxRecDepth 20000 in
theorem gX8_put_X8_acted : GoodIn wsX8_put (wsV RX8 128 RX8 yX8_acted wsX8_acted) := goodIn_app (goodIn_of _ (by decide +kernel)) ggX8_put_X8_acted
theorem dX8_put_0 : decode cX8_put 0 = .ok (.aload_n 0, 1) := by decide +kernel
theorem dX8_put_1 : decode cX8_put 1 = .ok (.invokevirtual 125, 3) := by decide +kernel
theorem dX8_put_4 : decode cX8_put 4 = .ok (.aload_n 0, 1) := by decide +kernel
theorem dX8_put_5 : decode cX8_put 5 = .ok (.aload_n 0, 1) := by decide +kernel
theorem dX8_put_6 : decode cX8_put 6 = .ok (.iload_n 1, 1) := by decide +kernel
theorem dX8_put_7 : decode cX8_put 7 = .ok (.invokevirtual 147, 3) := by decide +kernel
theorem dX8_put_10 : decode cX8_put 10 = .ok (.invokevirtual 128, 3) := by decide +kernel
theorem dX8_put_13 : decode cX8_put 13 = .ok (.ireturn, 1) := by decide +kernel
set_option maxRecDepth 20000 in
theorem ggX8_pass_X8_begins : GoodIn wsX8_pass wsX8_begins := goodIn_r _ [5, 6, 7, 104, 105, 106, 107, 108, 109, 110, 111, 112, 113] (by decide +kernel) (by decide +kernel)
set_option maxRecDepth 20000 in
theorem gX8_pass_X8_begins : GoodIn wsX8_pass (wsV RX8 125 RX8 yX8_begins wsX8_begins) := goodIn_app (goodIn_of _ (by decide +kernel)) ggX8_pass_X8_begins
set_option maxRecDepth 20000 in
theorem ggX8_pass_X8_lets : GoodIn wsX8_pass wsX8_lets := goodIn_r _ [11, 7, 12, 13, 4, 14, 15, 16, 17, 18, 19, 20, 21, 22, 23, 24, 25, 26, 27, 28, 29, 30, 31, 32, 33, 34, 35, 36, 37, 38, 39, 40, 41, 42, 43, 44, 45, 46, 47, 48, 49, 50, 51, 52, 53, 54, 55, 56, 57, 58, 59, 60, 61, 62, 63, 64, 65, 66, 67, 68, 69, 70, 71, 72, 73, 74, 75, 76, 77, 78, 79, 80, 81, 82, 83, 84, 85, 86, 87, 88, 89, 90, 91, 92, 93, 104, 105, 106, 107, 108, 109, 110, 111, 112, 113] (by decide +kernel) (by decide +kernel)
set_option maxRecDepth 20000 in
theorem gX8_pass_X8_lets : GoodIn wsX8_pass (wsV RX8 150 RX8 yX8_lets wsX8_lets) := goodIn_app (goodIn_of _ (by decide +kernel)) ggX8_pass_X8_lets
set_option maxRecDepth 20000 in
theorem ggX8_pass_X8_acted : GoodIn wsX8_pass wsX8_acted := goodIn_r _ [97, 98, 99, 6, 100, 101, 102, 4, 103, 7, 104, 105, 106, 107, 108, 109, 110, 111, 112, 113] (by decide +kernel) (by decide +kernel)
set_option maxRecDepth 20000 in
theorem gX8_pass_X8_acted : GoodIn wsX8_pass (wsV RX8 128 RX8 yX8_acted wsX8_acted) := goodIn_app (goodIn_of _ (by decide +kernel)) ggX8_pass_X8_acted
theorem dX8_pass_0 : decode cX8_pass 0 = .ok (.aload_n 0, 1) := by decide +kernel
theorem dX8_pass_1 : decode cX8_pass 1 = .ok (.invokevirtual 125, 3) := by decide +kernel
theorem dX8_pass_4 : decode cX8_pass 4 = .ok (.aload_n 0, 1) := by decide +kernel
theorem dX8_pass_5 : decode cX8_pass 5 = .ok (.aload_n 0, 1) := by decide +kernel
theorem dX8_pass_6 : decode cX8_pass 6 = .ok (.iload_n 1, 1) := by decide +kernel
theorem dX8_pass_7 : decode cX8_pass 7 = .ok (.invokevirtual 150, 3) := by decide +kernel
theorem dX8_pass_10 : decode cX8_pass 10 = .ok (.invokevirtual 128, 3) := by decide +kernel
theorem dX8_pass_13 : decode cX8_pass 13 = .ok (.ireturn, 1) := by decide +kernel
set_option maxRecDepth 20000 in
theorem ggX8_set_X8_begins : GoodIn wsX8_set wsX8_begins := goodIn_r _ [6, 7, 1, 21, 22, 23, 24, 25, 26, 27, 28, 29, 30] (by decide +kernel) (by decide +kernel)
set_option maxRecDepth 20000 in
theorem gX8_set_X8_begins : GoodIn wsX8_set (wsV RX8 125 RX8 yX8_begins wsX8_begins) := goodIn_app (goodIn_of _ (by decide +kernel)) ggX8_set_X8_begins
set_option maxRecDepth 20000 in
theorem ggX8_set_X8_in : GoodIn wsX8_set wsX8_in := goodIn_r _ [10] (by decide +kernel) (by decide +kernel)
set_option maxRecDepth 20000 in
theorem gX8_set_X8_in : GoodIn wsX8_set (va_wsS RX8 29 yX8_in wsX8_in) := goodIn_app (goodIn_of _ (by decide +kernel)) ggX8_set_X8_in
set_option maxRecDepth 20000 in
theorem ggX8_set_X8_acted : GoodIn wsX8_set wsX8_acted := goodIn_r _ [14, 15, 16, 7, 17, 18, 19, 5, 20, 1, 21, 22, 23, 24, 25, 26, 27, 28, 29, 30] (by decide +kernel) (by decide +kernel)
set_option maxRecDepth 20000 in
theorem gX8_set_X8_acted : GoodIn wsX8_set (wsV RX8 128 RX8 yX8_acted wsX8_acted) := goodIn_app (goodIn_of _ (by decide +kernel)) ggX8_set_X8_acted
theorem dX8_set_0 : decode cX8_set 0 = .ok (.aload_n 0, 1) := by decide +kernel
theorem dX8_set_1 : decode cX8_set 1 = .ok (.invokevirtual 125, 3) := by decide +kernel
theorem dX8_set_4 : decode cX8_set 4 = .ok (.iload_n 1, 1) := by decide +kernel
theorem dX8_set_5 : decode cX8_set 5 = .ok (.ifCond .ne 8, 3) := by decide +kernel
theorem dX8_set_8 : decode cX8_set 8 = .ok (.bipush 48, 2) := by decide +kernel
theorem dX8_set_10 : decode cX8_set 10 = .ok (.goto 15, 3) := by decide +kernel
theorem dX8_set_13 : decode cX8_set 13 = .ok (.iload_n 1, 1) := by decide +kernel
theorem dX8_set_14 : decode cX8_set 14 = .ok (.iconst 2, 1) := by decide +kernel
theorem dX8_set_15 : decode cX8_set 15 = .ok (.if_icmp .ne 8, 3) := by decide +kernel
theorem dX8_set_18 : decode cX8_set 18 = .ok (.bipush 99, 2) := by decide +kernel
theorem dX8_set_20 : decode cX8_set 20 = .ok (.goto 5, 3) := by decide +kernel
theorem dX8_set_23 : decode cX8_set 23 = .ok (.bipush 9, 2) := by decide +kernel
theorem dX8_set_25 : decode cX8_set 25 = .ok (.istore_n 3, 1) := by decide +kernel
theorem dX8_set_26 : decode cX8_set 26 = .ok (.iload_n 1, 1) := by decide +kernel
theorem dX8_set_27 : decode cX8_set 27 = .ok (.iconst 0, 1) := by decide +kernel
theorem dX8_set_28 : decode cX8_set 28 = .ok (.iconst 3, 1) := by decide +kernel
theorem dX8_set_29 : decode cX8_set 29 = .ok (.invokestatic 29, 3) := by decide +kernel
theorem dX8_set_32 : decode cX8_set 32 = .ok (.ifCond .eq 12, 3) := by decide +kernel
theorem dX8_set_35 : decode cX8_set 35 = .ok (.iload_n 2, 1) := by decide +kernel
theorem dX8_set_36 : decode cX8_set 36 = .ok (.iconst 1, 1) := by decide +kernel
theorem dX8_set_37 : decode cX8_set 37 = .ok (.iload_n 3, 1) := by decide +kernel
theorem dX8_set_38 : decode cX8_set 38 = .ok (.invokestatic 29, 3) := by decide +kernel
theorem dX8_set_41 : decode cX8_set 41 = .ok (.ifCond .ne 5, 3) := by decide +kernel
theorem dX8_set_44 : decode cX8_set 44 = .ok (.iconst (-1), 1) := by decide +kernel
theorem dX8_set_45 : decode cX8_set 45 = .ok (.ireturn, 1) := by decide +kernel
theorem dX8_set_46 : decode cX8_set 46 = .ok (.aload_n 0, 1) := by decide +kernel
theorem dX8_set_47 : decode cX8_set 47 = .ok (.getfield 7, 3) := by decide +kernel
theorem dX8_set_50 : decode cX8_set 50 = .ok (.iconst 5, 1) := by decide +kernel
theorem dX8_set_51 : decode cX8_set 51 = .ok (.iload_n 1, 1) := by decide +kernel
theorem dX8_set_52 : decode cX8_set 52 = .ok (.iadd, 1) := by decide +kernel
theorem dX8_set_53 : decode cX8_set 53 = .ok (.iaload, 1) := by decide +kernel
theorem dX8_set_54 : decode cX8_set 54 = .ok (.istore 4, 2) := by decide +kernel
theorem dX8_set_56 : decode cX8_set 56 = .ok (.aload_n 0, 1) := by decide +kernel
theorem dX8_set_57 : decode cX8_set 57 = .ok (.getfield 7, 3) := by decide +kernel
theorem dX8_set_60 : decode cX8_set 60 = .ok (.iconst 5, 1) := by decide +kernel
theorem dX8_set_61 : decode cX8_set 61 = .ok (.iload_n 1, 1) := by decide +kernel
theorem dX8_set_62 : decode cX8_set 62 = .ok (.iadd, 1) := by decide +kernel
theorem dX8_set_63 : decode cX8_set 63 = .ok (.iload_n 2, 1) := by decide +kernel
theorem dX8_set_64 : decode cX8_set 64 = .ok (.iastore, 1) := by decide +kernel
theorem dX8_set_65 : decode cX8_set 65 = .ok (.aload_n 0, 1) := by decide +kernel
theorem dX8_set_66 : decode cX8_set 66 = .ok (.iload 4, 2) := by decide +kernel
theorem dX8_set_68 : decode cX8_set 68 = .ok (.invokevirtual 128, 3) := by decide +kernel
theorem dX8_set_71 : decode cX8_set 71 = .ok (.ireturn, 1) := by decide +kernel
set_option maxRecDepth 20000 in
theorem ggX8_personAt_X8_ofMeal : GoodIn wsX8_personAt wsX8_ofMeal := goodIn_r _ [5, 6, 7, 8, 9, 10, 11, 12, 13, 14, 15, 16] (by decide +kernel) (by decide +kernel)
set_option maxRecDepth 20000 in
theorem gX8_personAt_X8_ofMeal : GoodIn wsX8_personAt (wsV RX8 33 RX8 yX8_ofMeal wsX8_ofMeal) := goodIn_app (goodIn_of _ (by decide +kernel)) ggX8_personAt_X8_ofMeal
theorem dX8_personAt_0 : decode cX8_personAt 0 = .ok (.aload_n 0, 1) := by decide +kernel
theorem dX8_personAt_1 : decode cX8_personAt 1 = .ok (.iload_n 1, 1) := by decide +kernel
theorem dX8_personAt_2 : decode cX8_personAt 2 = .ok (.iconst 0, 1) := by decide +kernel
theorem dX8_personAt_3 : decode cX8_personAt 3 = .ok (.invokevirtual 33, 3) := by decide +kernel
theorem dX8_personAt_6 : decode cX8_personAt 6 = .ok (.istore_n 2, 1) := by decide +kernel
theorem dX8_personAt_7 : decode cX8_personAt 7 = .ok (.iload_n 2, 1) := by decide +kernel
theorem dX8_personAt_8 : decode cX8_personAt 8 = .ok (.iconst 1, 1) := by decide +kernel
theorem dX8_personAt_9 : decode cX8_personAt 9 = .ok (.if_icmp .eq 13, 3) := by decide +kernel
theorem dX8_personAt_12 : decode cX8_personAt 12 = .ok (.iload_n 2, 1) := by decide +kernel
theorem dX8_personAt_13 : decode cX8_personAt 13 = .ok (.iconst 3, 1) := by decide +kernel
theorem dX8_personAt_14 : decode cX8_personAt 14 = .ok (.if_icmp .eq 8, 3) := by decide +kernel
theorem dX8_personAt_17 : decode cX8_personAt 17 = .ok (.iload_n 2, 1) := by decide +kernel
theorem dX8_personAt_18 : decode cX8_personAt 18 = .ok (.iconst 4, 1) := by decide +kernel
theorem dX8_personAt_19 : decode cX8_personAt 19 = .ok (.if_icmp .ne 12, 3) := by decide +kernel
theorem dX8_personAt_22 : decode cX8_personAt 22 = .ok (.aload_n 0, 1) := by decide +kernel
theorem dX8_personAt_23 : decode cX8_personAt 23 = .ok (.iload_n 1, 1) := by decide +kernel
theorem dX8_personAt_24 : decode cX8_personAt 24 = .ok (.iconst 5, 1) := by decide +kernel
theorem dX8_personAt_25 : decode cX8_personAt 25 = .ok (.invokevirtual 33, 3) := by decide +kernel
theorem dX8_personAt_28 : decode cX8_personAt 28 = .ok (.goto 5, 3) := by decide +kernel
theorem dX8_personAt_31 : decode cX8_personAt 31 = .ok (.bipush (-4), 2) := by decide +kernel
theorem dX8_personAt_33 : decode cX8_personAt 33 = .ok (.ireturn, 1) := by decide +kernel
set_option maxRecDepth 20000 in
theorem ggX8_mealOf_X8_isMeal : GoodIn wsX8_mealOf wsX8_isMeal := goodIn_r _ [5, 6, 7, 8, 4, 9, 18, 19, 20, 21, 22, 23, 24, 25, 26, 27] (by decide +kernel) (by decide +kernel)
set_option maxRecDepth 20000 in
theorem gX8_mealOf_X8_isMeal : GoodIn wsX8_mealOf (wsV RX8 101 RX8 yX8_isMeal wsX8_isMeal) := goodIn_app (goodIn_of _ (by decide +kernel)) ggX8_mealOf_X8_isMeal
set_option maxRecDepth 20000 in
theorem ggX8_mealOf_X8_in : GoodIn wsX8_mealOf wsX8_in := goodIn_r _ [9] (by decide +kernel) (by decide +kernel)
set_option maxRecDepth 20000 in
theorem gX8_mealOf_X8_in : GoodIn wsX8_mealOf (va_wsS RX8 29 yX8_in wsX8_in) := goodIn_app (goodIn_of _ (by decide +kernel)) ggX8_mealOf_X8_in
set_option maxRecDepth 20000 in
theorem ggX8_mealOf_X8_ofMeal : GoodIn wsX8_mealOf wsX8_ofMeal := goodIn_r _ [13, 6, 18, 19, 20, 21, 22, 23, 24, 25, 26, 27] (by decide +kernel) (by decide +kernel)
set_option maxRecDepth 20000 in
theorem gX8_mealOf_X8_ofMeal : GoodIn wsX8_mealOf (wsV RX8 33 RX8 yX8_ofMeal wsX8_ofMeal) := goodIn_app (goodIn_of _ (by decide +kernel)) ggX8_mealOf_X8_ofMeal
set_option maxRecDepth 20000 in
theorem ggX8_mealOf_X8_personAt : GoodIn wsX8_mealOf wsX8_personAt := goodIn_r _ [17, 10, 11, 12, 4, 13, 6, 18, 19, 20, 21, 22, 23, 24, 25, 26, 27] (by decide +kernel) (by decide +kernel)
set_option maxRecDepth 20000 in
theorem gX8_mealOf_X8_personAt : GoodIn wsX8_mealOf (wsV RX8 153 RX8 yX8_personAt wsX8_personAt) := goodIn_app (goodIn_of _ (by decide +kernel)) ggX8_mealOf_X8_personAt
theorem dX8_mealOf_0 : decode cX8_mealOf 0 = .ok (.aload_n 0, 1) := by decide +kernel
theorem dX8_mealOf_1 : decode cX8_mealOf 1 = .ok (.iload_n 1, 1) := by decide +kernel
theorem dX8_mealOf_2 : decode cX8_mealOf 2 = .ok (.invokevirtual 101, 3) := by decide +kernel
theorem dX8_mealOf_5 : decode cX8_mealOf 5 = .ok (.ifCond .eq 13, 3) := by decide +kernel
theorem dX8_mealOf_8 : decode cX8_mealOf 8 = .ok (.iload_n 2, 1) := by decide +kernel
theorem dX8_mealOf_9 : decode cX8_mealOf 9 = .ok (.iconst 0, 1) := by decide +kernel
theorem dX8_mealOf_10 : decode cX8_mealOf 10 = .ok (.bipush 6, 2) := by decide +kernel
theorem dX8_mealOf_12 : decode cX8_mealOf 12 = .ok (.invokestatic 29, 3) := by decide +kernel
theorem dX8_mealOf_15 : decode cX8_mealOf 15 = .ok (.ifCond .ne 5, 3) := by decide +kernel
theorem dX8_mealOf_18 : decode cX8_mealOf 18 = .ok (.iconst (-1), 1) := by decide +kernel
theorem dX8_mealOf_19 : decode cX8_mealOf 19 = .ok (.ireturn, 1) := by decide +kernel
theorem dX8_mealOf_20 : decode cX8_mealOf 20 = .ok (.iload_n 2, 1) := by decide +kernel
theorem dX8_mealOf_21 : decode cX8_mealOf 21 = .ok (.tableswitch 78 4 6 #[27, 49, 55], 27) := by decide +kernel
theorem dX8_mealOf_48 : decode cX8_mealOf 48 = .ok (.aload_n 0, 1) := by decide +kernel
theorem dX8_mealOf_49 : decode cX8_mealOf 49 = .ok (.iload_n 1, 1) := by decide +kernel
theorem dX8_mealOf_50 : decode cX8_mealOf 50 = .ok (.iconst 0, 1) := by decide +kernel
theorem dX8_mealOf_51 : decode cX8_mealOf 51 = .ok (.invokevirtual 33, 3) := by decide +kernel
theorem dX8_mealOf_54 : decode cX8_mealOf 54 = .ok (.iconst 1, 1) := by decide +kernel
theorem dX8_mealOf_55 : decode cX8_mealOf 55 = .ok (.if_icmp .ne 12, 3) := by decide +kernel
theorem dX8_mealOf_58 : decode cX8_mealOf 58 = .ok (.aload_n 0, 1) := by decide +kernel
theorem dX8_mealOf_59 : decode cX8_mealOf 59 = .ok (.iload_n 1, 1) := by decide +kernel
theorem dX8_mealOf_60 : decode cX8_mealOf 60 = .ok (.iconst 4, 1) := by decide +kernel
theorem dX8_mealOf_61 : decode cX8_mealOf 61 = .ok (.invokevirtual 33, 3) := by decide +kernel
theorem dX8_mealOf_64 : decode cX8_mealOf 64 = .ok (.goto 5, 3) := by decide +kernel
theorem dX8_mealOf_67 : decode cX8_mealOf 67 = .ok (.bipush (-4), 2) := by decide +kernel
theorem dX8_mealOf_69 : decode cX8_mealOf 69 = .ok (.ireturn, 1) := by decide +kernel
theorem dX8_mealOf_70 : decode cX8_mealOf 70 = .ok (.aload_n 0, 1) := by decide +kernel
theorem dX8_mealOf_71 : decode cX8_mealOf 71 = .ok (.iload_n 1, 1) := by decide +kernel
theorem dX8_mealOf_72 : decode cX8_mealOf 72 = .ok (.invokevirtual 153, 3) := by decide +kernel
theorem dX8_mealOf_75 : decode cX8_mealOf 75 = .ok (.ireturn, 1) := by decide +kernel
theorem dX8_mealOf_76 : decode cX8_mealOf 76 = .ok (.aload_n 0, 1) := by decide +kernel
theorem dX8_mealOf_77 : decode cX8_mealOf 77 = .ok (.iload_n 1, 1) := by decide +kernel
theorem dX8_mealOf_78 : decode cX8_mealOf 78 = .ok (.iconst 0, 1) := by decide +kernel
theorem dX8_mealOf_79 : decode cX8_mealOf 79 = .ok (.invokevirtual 33, 3) := by decide +kernel
theorem dX8_mealOf_82 : decode cX8_mealOf 82 = .ok (.iconst 2, 1) := by decide +kernel
theorem dX8_mealOf_83 : decode cX8_mealOf 83 = .ok (.if_icmp .ne 13, 3) := by decide +kernel
theorem dX8_mealOf_86 : decode cX8_mealOf 86 = .ok (.aload_n 0, 1) := by decide +kernel
theorem dX8_mealOf_87 : decode cX8_mealOf 87 = .ok (.iload_n 1, 1) := by decide +kernel
theorem dX8_mealOf_88 : decode cX8_mealOf 88 = .ok (.bipush 7, 2) := by decide +kernel
theorem dX8_mealOf_90 : decode cX8_mealOf 90 = .ok (.invokevirtual 33, 3) := by decide +kernel
theorem dX8_mealOf_93 : decode cX8_mealOf 93 = .ok (.goto 5, 3) := by decide +kernel
theorem dX8_mealOf_96 : decode cX8_mealOf 96 = .ok (.bipush (-4), 2) := by decide +kernel
theorem dX8_mealOf_98 : decode cX8_mealOf 98 = .ok (.ireturn, 1) := by decide +kernel
theorem dX8_mealOf_99 : decode cX8_mealOf 99 = .ok (.aload_n 0, 1) := by decide +kernel
theorem dX8_mealOf_100 : decode cX8_mealOf 100 = .ok (.iload_n 1, 1) := by decide +kernel
theorem dX8_mealOf_101 : decode cX8_mealOf 101 = .ok (.iload_n 2, 1) := by decide +kernel
theorem dX8_mealOf_102 : decode cX8_mealOf 102 = .ok (.invokevirtual 33, 3) := by decide +kernel
theorem dX8_mealOf_105 : decode cX8_mealOf 105 = .ok (.ireturn, 1) := by decide +kernel
set_option maxRecDepth 20000 in
theorem ggX8_lockerOf_X8_isLocker : GoodIn wsX8_lockerOf wsX8_isLocker := goodIn_r _ [5, 6, 7, 8, 4, 9, 30, 31, 32, 33, 34, 35, 36, 37, 38, 39] (by decide +kernel) (by decide +kernel)
set_option maxRecDepth 20000 in
theorem gX8_lockerOf_X8_isLocker : GoodIn wsX8_lockerOf (wsV RX8 113 RX8 yX8_isLocker wsX8_isLocker) := goodIn_app (goodIn_of _ (by decide +kernel)) ggX8_lockerOf_X8_isLocker
set_option maxRecDepth 20000 in
theorem ggX8_lockerOf_X8_in : GoodIn wsX8_lockerOf wsX8_in := goodIn_r _ [9] (by decide +kernel) (by decide +kernel)
set_option maxRecDepth 20000 in
theorem gX8_lockerOf_X8_in : GoodIn wsX8_lockerOf (va_wsS RX8 29 yX8_in wsX8_in) := goodIn_app (goodIn_of _ (by decide +kernel)) ggX8_lockerOf_X8_in
set_option maxRecDepth 20000 in
theorem ggX8_lockerOf_X8_ofLocker : GoodIn wsX8_lockerOf wsX8_ofLocker := goodIn_r _ [13, 6, 30, 31, 32, 33, 34, 35, 36, 37, 38, 39] (by decide +kernel) (by decide +kernel)
set_option maxRecDepth 20000 in
theorem gX8_lockerOf_X8_ofLocker : GoodIn wsX8_lockerOf (wsV RX8 44 RX8 yX8_ofLocker wsX8_ofLocker) := goodIn_app (goodIn_of _ (by decide +kernel)) ggX8_lockerOf_X8_ofLocker
set_option maxRecDepth 20000 in
theorem ggX8_lockerOf_X8_mealsOf : GoodIn wsX8_lockerOf wsX8_mealsOf := goodIn_r _ [17, 6, 18, 19, 20, 4, 21, 22, 23, 24, 25, 26, 27, 28, 29, 30, 31, 32, 33, 34, 35, 36, 37, 38, 39] (by decide +kernel) (by decide +kernel)
set_option maxRecDepth 20000 in
theorem gX8_lockerOf_X8_mealsOf : GoodIn wsX8_lockerOf (wsV RX8 47 RX8 yX8_mealsOf wsX8_mealsOf) := goodIn_app (goodIn_of _ (by decide +kernel)) ggX8_lockerOf_X8_mealsOf
theorem dX8_lockerOf_0 : decode cX8_lockerOf 0 = .ok (.aload_n 0, 1) := by decide +kernel
theorem dX8_lockerOf_1 : decode cX8_lockerOf 1 = .ok (.iload_n 1, 1) := by decide +kernel
theorem dX8_lockerOf_2 : decode cX8_lockerOf 2 = .ok (.invokevirtual 113, 3) := by decide +kernel
theorem dX8_lockerOf_5 : decode cX8_lockerOf 5 = .ok (.ifCond .eq 13, 3) := by decide +kernel
theorem dX8_lockerOf_8 : decode cX8_lockerOf 8 = .ok (.iload_n 2, 1) := by decide +kernel
theorem dX8_lockerOf_9 : decode cX8_lockerOf 9 = .ok (.iconst 0, 1) := by decide +kernel
theorem dX8_lockerOf_10 : decode cX8_lockerOf 10 = .ok (.bipush 8, 2) := by decide +kernel
theorem dX8_lockerOf_12 : decode cX8_lockerOf 12 = .ok (.invokestatic 29, 3) := by decide +kernel
theorem dX8_lockerOf_15 : decode cX8_lockerOf 15 = .ok (.ifCond .ne 5, 3) := by decide +kernel
theorem dX8_lockerOf_18 : decode cX8_lockerOf 18 = .ok (.iconst (-1), 1) := by decide +kernel
theorem dX8_lockerOf_19 : decode cX8_lockerOf 19 = .ok (.ireturn, 1) := by decide +kernel
theorem dX8_lockerOf_20 : decode cX8_lockerOf 20 = .ok (.iload_n 2, 1) := by decide +kernel
theorem dX8_lockerOf_21 : decode cX8_lockerOf 21 = .ok (.iconst 2, 1) := by decide +kernel
theorem dX8_lockerOf_22 : decode cX8_lockerOf 22 = .ok (.if_icmp .ge 12, 3) := by decide +kernel
theorem dX8_lockerOf_25 : decode cX8_lockerOf 25 = .ok (.aload_n 0, 1) := by decide +kernel
theorem dX8_lockerOf_26 : decode cX8_lockerOf 26 = .ok (.iload_n 1, 1) := by decide +kernel
theorem dX8_lockerOf_27 : decode cX8_lockerOf 27 = .ok (.iload_n 2, 1) := by decide +kernel
theorem dX8_lockerOf_28 : decode cX8_lockerOf 28 = .ok (.invokevirtual 44, 3) := by decide +kernel
theorem dX8_lockerOf_31 : decode cX8_lockerOf 31 = .ok (.goto 25, 3) := by decide +kernel
theorem dX8_lockerOf_34 : decode cX8_lockerOf 34 = .ok (.iload_n 2, 1) := by decide +kernel
theorem dX8_lockerOf_35 : decode cX8_lockerOf 35 = .ok (.iconst 2, 1) := by decide +kernel
theorem dX8_lockerOf_36 : decode cX8_lockerOf 36 = .ok (.if_icmp .ne 12, 3) := by decide +kernel
theorem dX8_lockerOf_39 : decode cX8_lockerOf 39 = .ok (.aload_n 0, 1) := by decide +kernel
theorem dX8_lockerOf_40 : decode cX8_lockerOf 40 = .ok (.iload_n 1, 1) := by decide +kernel
theorem dX8_lockerOf_41 : decode cX8_lockerOf 41 = .ok (.iconst 0, 1) := by decide +kernel
theorem dX8_lockerOf_42 : decode cX8_lockerOf 42 = .ok (.invokevirtual 47, 3) := by decide +kernel
theorem dX8_lockerOf_45 : decode cX8_lockerOf 45 = .ok (.goto 11, 3) := by decide +kernel
theorem dX8_lockerOf_48 : decode cX8_lockerOf 48 = .ok (.aload_n 0, 1) := by decide +kernel
theorem dX8_lockerOf_49 : decode cX8_lockerOf 49 = .ok (.iload_n 1, 1) := by decide +kernel
theorem dX8_lockerOf_50 : decode cX8_lockerOf 50 = .ok (.iload_n 2, 1) := by decide +kernel
theorem dX8_lockerOf_51 : decode cX8_lockerOf 51 = .ok (.iconst 1, 1) := by decide +kernel
theorem dX8_lockerOf_52 : decode cX8_lockerOf 52 = .ok (.isub, 1) := by decide +kernel
theorem dX8_lockerOf_53 : decode cX8_lockerOf 53 = .ok (.invokevirtual 44, 3) := by decide +kernel
theorem dX8_lockerOf_56 : decode cX8_lockerOf 56 = .ok (.ireturn, 1) := by decide +kernel
set_option maxRecDepth 20000 in
theorem ggX8_personOf_X8_isPerson : GoodIn wsX8_personOf wsX8_isPerson := goodIn_r _ [6, 1, 7, 8, 5, 9, 26, 27, 28, 29, 30, 31, 32, 33, 34, 35] (by decide +kernel) (by decide +kernel)
set_option maxRecDepth 20000 in
theorem gX8_personOf_X8_isPerson : GoodIn wsX8_personOf (wsV RX8 98 RX8 yX8_isPerson wsX8_isPerson) := goodIn_app (goodIn_of _ (by decide +kernel)) ggX8_personOf_X8_isPerson
set_option maxRecDepth 20000 in
theorem ggX8_personOf_X8_in : GoodIn wsX8_personOf wsX8_in := goodIn_r _ [9] (by decide +kernel) (by decide +kernel)
set_option maxRecDepth 20000 in
theorem gX8_personOf_X8_in : GoodIn wsX8_personOf (va_wsS RX8 29 yX8_in wsX8_in) := goodIn_app (goodIn_of _ (by decide +kernel)) ggX8_personOf_X8_in
set_option maxRecDepth 20000 in
theorem ggX8_personOf_X8_isBarred : GoodIn wsX8_personOf wsX8_isBarred := goodIn_r _ [13, 1, 14, 15, 16, 5, 17, 26, 27, 28, 29, 30, 31, 32, 33, 34, 35] (by decide +kernel) (by decide +kernel)
set_option maxRecDepth 20000 in
theorem gX8_personOf_X8_isBarred : GoodIn wsX8_personOf (wsV RX8 104 RX8 yX8_isBarred wsX8_isBarred) := goodIn_app (goodIn_of _ (by decide +kernel)) ggX8_personOf_X8_isBarred
set_option maxRecDepth 20000 in
theorem ggX8_personOf_X8_ofPerson : GoodIn wsX8_personOf wsX8_ofPerson := goodIn_r _ [17, 1, 26, 27, 28, 29, 30, 31, 32, 33, 34, 35] (by decide +kernel) (by decide +kernel)
set_option maxRecDepth 20000 in
theorem gX8_personOf_X8_ofPerson : GoodIn wsX8_personOf (wsV RX8 54 RX8 yX8_ofPerson wsX8_ofPerson) := goodIn_app (goodIn_of _ (by decide +kernel)) ggX8_personOf_X8_ofPerson
set_option maxRecDepth 20000 in
theorem ggX8_personOf_X8_reservedBy : GoodIn wsX8_personOf wsX8_reservedBy := goodIn_r _ [21, 1, 22, 23, 24, 5, 25, 26, 27, 28, 29, 30, 31, 32, 33, 34, 35] (by decide +kernel) (by decide +kernel)
set_option maxRecDepth 20000 in
theorem gX8_personOf_X8_reservedBy : GoodIn wsX8_personOf (wsV RX8 107 RX8 yX8_reservedBy wsX8_reservedBy) := goodIn_app (goodIn_of _ (by decide +kernel)) ggX8_personOf_X8_reservedBy
theorem dX8_personOf_0 : decode cX8_personOf 0 = .ok (.aload_n 0, 1) := by decide +kernel
theorem dX8_personOf_1 : decode cX8_personOf 1 = .ok (.iload_n 1, 1) := by decide +kernel
theorem dX8_personOf_2 : decode cX8_personOf 2 = .ok (.invokevirtual 98, 3) := by decide +kernel
theorem dX8_personOf_5 : decode cX8_personOf 5 = .ok (.ifCond .eq 12, 3) := by decide +kernel
theorem dX8_personOf_8 : decode cX8_personOf 8 = .ok (.iload_n 2, 1) := by decide +kernel
theorem dX8_personOf_9 : decode cX8_personOf 9 = .ok (.iconst 0, 1) := by decide +kernel
theorem dX8_personOf_10 : decode cX8_personOf 10 = .ok (.iconst 5, 1) := by decide +kernel
theorem dX8_personOf_11 : decode cX8_personOf 11 = .ok (.invokestatic 29, 3) := by decide +kernel
theorem dX8_personOf_14 : decode cX8_personOf 14 = .ok (.ifCond .ne 5, 3) := by decide +kernel
theorem dX8_personOf_17 : decode cX8_personOf 17 = .ok (.iconst (-1), 1) := by decide +kernel
theorem dX8_personOf_18 : decode cX8_personOf 18 = .ok (.ireturn, 1) := by decide +kernel
theorem dX8_personOf_19 : decode cX8_personOf 19 = .ok (.iload_n 2, 1) := by decide +kernel
theorem dX8_personOf_20 : decode cX8_personOf 20 = .ok (.tableswitch 84 2 5 #[32, 58, 75, 75], 32) := by decide +kernel
theorem dX8_personOf_52 : decode cX8_personOf 52 = .ok (.aload_n 0, 1) := by decide +kernel
theorem dX8_personOf_53 : decode cX8_personOf 53 = .ok (.iload_n 1, 1) := by decide +kernel
theorem dX8_personOf_54 : decode cX8_personOf 54 = .ok (.invokevirtual 104, 3) := by decide +kernel
theorem dX8_personOf_57 : decode cX8_personOf 57 = .ok (.ifCond .eq 19, 3) := by decide +kernel
theorem dX8_personOf_60 : decode cX8_personOf 60 = .ok (.aload_n 0, 1) := by decide +kernel
theorem dX8_personOf_61 : decode cX8_personOf 61 = .ok (.iload_n 1, 1) := by decide +kernel
theorem dX8_personOf_62 : decode cX8_personOf 62 = .ok (.iconst 2, 1) := by decide +kernel
theorem dX8_personOf_63 : decode cX8_personOf 63 = .ok (.invokevirtual 54, 3) := by decide +kernel
theorem dX8_personOf_66 : decode cX8_personOf 66 = .ok (.aload_n 0, 1) := by decide +kernel
theorem dX8_personOf_67 : decode cX8_personOf 67 = .ok (.getfield 7, 3) := by decide +kernel
theorem dX8_personOf_70 : decode cX8_personOf 70 = .ok (.iconst 4, 1) := by decide +kernel
theorem dX8_personOf_71 : decode cX8_personOf 71 = .ok (.iaload, 1) := by decide +kernel
theorem dX8_personOf_72 : decode cX8_personOf 72 = .ok (.isub, 1) := by decide +kernel
theorem dX8_personOf_73 : decode cX8_personOf 73 = .ok (.goto 4, 3) := by decide +kernel
theorem dX8_personOf_76 : decode cX8_personOf 76 = .ok (.iconst 0, 1) := by decide +kernel
theorem dX8_personOf_77 : decode cX8_personOf 77 = .ok (.ireturn, 1) := by decide +kernel
theorem dX8_personOf_78 : decode cX8_personOf 78 = .ok (.aload_n 0, 1) := by decide +kernel
theorem dX8_personOf_79 : decode cX8_personOf 79 = .ok (.iload_n 1, 1) := by decide +kernel
theorem dX8_personOf_80 : decode cX8_personOf 80 = .ok (.invokevirtual 107, 3) := by decide +kernel
theorem dX8_personOf_83 : decode cX8_personOf 83 = .ok (.istore_n 3, 1) := by decide +kernel
theorem dX8_personOf_84 : decode cX8_personOf 84 = .ok (.iload_n 3, 1) := by decide +kernel
theorem dX8_personOf_85 : decode cX8_personOf 85 = .ok (.ifCond .ge 8, 3) := by decide +kernel
theorem dX8_personOf_88 : decode cX8_personOf 88 = .ok (.bipush (-4), 2) := by decide +kernel
theorem dX8_personOf_90 : decode cX8_personOf 90 = .ok (.goto 4, 3) := by decide +kernel
theorem dX8_personOf_93 : decode cX8_personOf 93 = .ok (.iload_n 3, 1) := by decide +kernel
theorem dX8_personOf_94 : decode cX8_personOf 94 = .ok (.ireturn, 1) := by decide +kernel
theorem dX8_personOf_95 : decode cX8_personOf 95 = .ok (.aload_n 0, 1) := by decide +kernel
theorem dX8_personOf_96 : decode cX8_personOf 96 = .ok (.iload_n 1, 1) := by decide +kernel
theorem dX8_personOf_97 : decode cX8_personOf 97 = .ok (.iload_n 2, 1) := by decide +kernel
theorem dX8_personOf_98 : decode cX8_personOf 98 = .ok (.iconst 1, 1) := by decide +kernel
theorem dX8_personOf_99 : decode cX8_personOf 99 = .ok (.isub, 1) := by decide +kernel
theorem dX8_personOf_100 : decode cX8_personOf 100 = .ok (.invokevirtual 54, 3) := by decide +kernel
theorem dX8_personOf_103 : decode cX8_personOf 103 = .ok (.ireturn, 1) := by decide +kernel
theorem dX8_personOf_104 : decode cX8_personOf 104 = .ok (.aload_n 0, 1) := by decide +kernel
theorem dX8_personOf_105 : decode cX8_personOf 105 = .ok (.iload_n 1, 1) := by decide +kernel
theorem dX8_personOf_106 : decode cX8_personOf 106 = .ok (.iload_n 2, 1) := by decide +kernel
theorem dX8_personOf_107 : decode cX8_personOf 107 = .ok (.invokevirtual 54, 3) := by decide +kernel
theorem dX8_personOf_110 : decode cX8_personOf 110 = .ok (.ireturn, 1) := by decide +kernel
set_option maxRecDepth 20000 in
theorem ggX8_volunteerOf_X8_isHelper : GoodIn wsX8_volunteerOf wsX8_isHelper := goodIn_r _ [6, 1, 7, 8, 5, 9, 34, 35, 36, 37, 38, 39, 40, 41, 42, 43] (by decide +kernel) (by decide +kernel)
set_option maxRecDepth 20000 in
theorem gX8_volunteerOf_X8_isHelper : GoodIn wsX8_volunteerOf (wsV RX8 116 RX8 yX8_isHelper wsX8_isHelper) := goodIn_app (goodIn_of _ (by decide +kernel)) ggX8_volunteerOf_X8_isHelper
set_option maxRecDepth 20000 in
theorem ggX8_volunteerOf_X8_in : GoodIn wsX8_volunteerOf wsX8_in := goodIn_r _ [9] (by decide +kernel) (by decide +kernel)
set_option maxRecDepth 20000 in
theorem gX8_volunteerOf_X8_in : GoodIn wsX8_volunteerOf (va_wsS RX8 29 yX8_in wsX8_in) := goodIn_app (goodIn_of _ (by decide +kernel)) ggX8_volunteerOf_X8_in
set_option maxRecDepth 20000 in
theorem ggX8_volunteerOf_X8_mealsOf : GoodIn wsX8_volunteerOf wsX8_mealsOf := goodIn_r _ [13, 1, 14, 15, 16, 5, 17, 18, 19, 20, 21, 22, 23, 24, 25, 34, 35, 36, 37, 38, 39, 40, 41, 42, 43] (by decide +kernel) (by decide +kernel)
set_option maxRecDepth 20000 in
theorem gX8_volunteerOf_X8_mealsOf : GoodIn wsX8_volunteerOf (wsV RX8 47 RX8 yX8_mealsOf wsX8_mealsOf) := goodIn_app (goodIn_of _ (by decide +kernel)) ggX8_volunteerOf_X8_mealsOf
set_option maxRecDepth 20000 in
theorem ggX8_volunteerOf_X8_isUnderWay : GoodIn wsX8_volunteerOf wsX8_isUnderWay := goodIn_r _ [29, 1, 30, 31, 32, 5, 33, 34, 35, 36, 37, 38, 39, 40, 41, 42, 43] (by decide +kernel) (by decide +kernel)
set_option maxRecDepth 20000 in
theorem gX8_volunteerOf_X8_isUnderWay : GoodIn wsX8_volunteerOf (wsV RX8 74 RX8 yX8_isUnderWay wsX8_isUnderWay) := goodIn_app (goodIn_of _ (by decide +kernel)) ggX8_volunteerOf_X8_isUnderWay
set_option maxRecDepth 20000 in
theorem ggX8_volunteerOf_X8_ofHelper : GoodIn wsX8_volunteerOf wsX8_ofHelper := goodIn_r _ [33, 1, 34, 35, 36, 37, 38, 39, 40, 41, 42, 43] (by decide +kernel) (by decide +kernel)
set_option maxRecDepth 20000 in
theorem gX8_volunteerOf_X8_ofHelper : GoodIn wsX8_volunteerOf (wsV RX8 57 RX8 yX8_ofHelper wsX8_ofHelper) := goodIn_app (goodIn_of _ (by decide +kernel)) ggX8_volunteerOf_X8_ofHelper
theorem dX8_volunteerOf_0 : decode cX8_volunteerOf 0 = .ok (.aload_n 0, 1) := by decide +kernel
theorem dX8_volunteerOf_1 : decode cX8_volunteerOf 1 = .ok (.iload_n 1, 1) := by decide +kernel
theorem dX8_volunteerOf_2 : decode cX8_volunteerOf 2 = .ok (.invokevirtual 116, 3) := by decide +kernel
theorem dX8_volunteerOf_5 : decode cX8_volunteerOf 5 = .ok (.ifCond .eq 12, 3) := by decide +kernel
theorem dX8_volunteerOf_8 : decode cX8_volunteerOf 8 = .ok (.iload_n 2, 1) := by decide +kernel
theorem dX8_volunteerOf_9 : decode cX8_volunteerOf 9 = .ok (.iconst 0, 1) := by decide +kernel
theorem dX8_volunteerOf_10 : decode cX8_volunteerOf 10 = .ok (.iconst 4, 1) := by decide +kernel
theorem dX8_volunteerOf_11 : decode cX8_volunteerOf 11 = .ok (.invokestatic 29, 3) := by decide +kernel
theorem dX8_volunteerOf_14 : decode cX8_volunteerOf 14 = .ok (.ifCond .ne 5, 3) := by decide +kernel
theorem dX8_volunteerOf_17 : decode cX8_volunteerOf 17 = .ok (.iconst (-1), 1) := by decide +kernel
theorem dX8_volunteerOf_18 : decode cX8_volunteerOf 18 = .ok (.ireturn, 1) := by decide +kernel
theorem dX8_volunteerOf_19 : decode cX8_volunteerOf 19 = .ok (.iload_n 2, 1) := by decide +kernel
theorem dX8_volunteerOf_20 : decode cX8_volunteerOf 20 = .ok (.tableswitch 68 2 4 #[28, 35, 61], 28) := by decide +kernel
theorem dX8_volunteerOf_48 : decode cX8_volunteerOf 48 = .ok (.aload_n 0, 1) := by decide +kernel
theorem dX8_volunteerOf_49 : decode cX8_volunteerOf 49 = .ok (.iload_n 1, 1) := by decide +kernel
theorem dX8_volunteerOf_50 : decode cX8_volunteerOf 50 = .ok (.iconst 1, 1) := by decide +kernel
theorem dX8_volunteerOf_51 : decode cX8_volunteerOf 51 = .ok (.invokevirtual 47, 3) := by decide +kernel
theorem dX8_volunteerOf_54 : decode cX8_volunteerOf 54 = .ok (.ireturn, 1) := by decide +kernel
theorem dX8_volunteerOf_55 : decode cX8_volunteerOf 55 = .ok (.aload_n 0, 1) := by decide +kernel
theorem dX8_volunteerOf_56 : decode cX8_volunteerOf 56 = .ok (.iload_n 1, 1) := by decide +kernel
theorem dX8_volunteerOf_57 : decode cX8_volunteerOf 57 = .ok (.invokevirtual 74, 3) := by decide +kernel
theorem dX8_volunteerOf_60 : decode cX8_volunteerOf 60 = .ok (.ifCond .eq 19, 3) := by decide +kernel
theorem dX8_volunteerOf_63 : decode cX8_volunteerOf 63 = .ok (.aload_n 0, 1) := by decide +kernel
theorem dX8_volunteerOf_64 : decode cX8_volunteerOf 64 = .ok (.iload_n 1, 1) := by decide +kernel
theorem dX8_volunteerOf_65 : decode cX8_volunteerOf 65 = .ok (.iconst 2, 1) := by decide +kernel
theorem dX8_volunteerOf_66 : decode cX8_volunteerOf 66 = .ok (.invokevirtual 57, 3) := by decide +kernel
theorem dX8_volunteerOf_69 : decode cX8_volunteerOf 69 = .ok (.aload_n 0, 1) := by decide +kernel
theorem dX8_volunteerOf_70 : decode cX8_volunteerOf 70 = .ok (.getfield 7, 3) := by decide +kernel
theorem dX8_volunteerOf_73 : decode cX8_volunteerOf 73 = .ok (.iconst 4, 1) := by decide +kernel
theorem dX8_volunteerOf_74 : decode cX8_volunteerOf 74 = .ok (.iaload, 1) := by decide +kernel
theorem dX8_volunteerOf_75 : decode cX8_volunteerOf 75 = .ok (.isub, 1) := by decide +kernel
theorem dX8_volunteerOf_76 : decode cX8_volunteerOf 76 = .ok (.goto 4, 3) := by decide +kernel
theorem dX8_volunteerOf_79 : decode cX8_volunteerOf 79 = .ok (.iconst 0, 1) := by decide +kernel
theorem dX8_volunteerOf_80 : decode cX8_volunteerOf 80 = .ok (.ireturn, 1) := by decide +kernel
theorem dX8_volunteerOf_81 : decode cX8_volunteerOf 81 = .ok (.aload_n 0, 1) := by decide +kernel
theorem dX8_volunteerOf_82 : decode cX8_volunteerOf 82 = .ok (.iload_n 1, 1) := by decide +kernel
theorem dX8_volunteerOf_83 : decode cX8_volunteerOf 83 = .ok (.iconst 3, 1) := by decide +kernel
theorem dX8_volunteerOf_84 : decode cX8_volunteerOf 84 = .ok (.invokevirtual 57, 3) := by decide +kernel
theorem dX8_volunteerOf_87 : decode cX8_volunteerOf 87 = .ok (.ireturn, 1) := by decide +kernel
theorem dX8_volunteerOf_88 : decode cX8_volunteerOf 88 = .ok (.aload_n 0, 1) := by decide +kernel
theorem dX8_volunteerOf_89 : decode cX8_volunteerOf 89 = .ok (.iload_n 1, 1) := by decide +kernel
theorem dX8_volunteerOf_90 : decode cX8_volunteerOf 90 = .ok (.iload_n 2, 1) := by decide +kernel
theorem dX8_volunteerOf_91 : decode cX8_volunteerOf 91 = .ok (.invokevirtual 57, 3) := by decide +kernel
theorem dX8_volunteerOf_94 : decode cX8_volunteerOf 94 = .ok (.ireturn, 1) := by decide +kernel
set_option maxRecDepth 20000 in
theorem ggX8_mealsWith_X8_ofMeal : GoodIn wsX8_mealsWith wsX8_ofMeal := goodIn_r _ [6, 1, 10, 11, 12, 13, 14, 15, 16, 17, 18, 19] (by decide +kernel) (by decide +kernel)
set_option maxRecDepth 20000 in
theorem gX8_mealsWith_X8_ofMeal : GoodIn wsX8_mealsWith (wsV RX8 33 RX8 yX8_ofMeal wsX8_ofMeal) := goodIn_app (goodIn_of _ (by decide +kernel)) ggX8_mealsWith_X8_ofMeal
set_option maxRecDepth 20000 in
theorem ggX8_mealsWith_X8_in : GoodIn wsX8_mealsWith wsX8_in := goodIn_r _ [9] (by decide +kernel) (by decide +kernel)
set_option maxRecDepth 20000 in
theorem gX8_mealsWith_X8_in : GoodIn wsX8_mealsWith (va_wsS RX8 29 yX8_in wsX8_in) := goodIn_app (goodIn_of _ (by decide +kernel)) ggX8_mealsWith_X8_in
theorem dX8_mealsWith_0 : decode cX8_mealsWith 0 = .ok (.iconst 0, 1) := by decide +kernel
theorem dX8_mealsWith_1 : decode cX8_mealsWith 1 = .ok (.istore_n 3, 1) := by decide +kernel
theorem dX8_mealsWith_2 : decode cX8_mealsWith 2 = .ok (.iconst 0, 1) := by decide +kernel
theorem dX8_mealsWith_3 : decode cX8_mealsWith 3 = .ok (.istore 4, 2) := by decide +kernel
theorem dX8_mealsWith_5 : decode cX8_mealsWith 5 = .ok (.iload 4, 2) := by decide +kernel
theorem dX8_mealsWith_7 : decode cX8_mealsWith 7 = .ok (.aload_n 0, 1) := by decide +kernel
theorem dX8_mealsWith_8 : decode cX8_mealsWith 8 = .ok (.getfield 7, 3) := by decide +kernel
theorem dX8_mealsWith_11 : decode cX8_mealsWith 11 = .ok (.iconst 1, 1) := by decide +kernel
theorem dX8_mealsWith_12 : decode cX8_mealsWith 12 = .ok (.iaload, 1) := by decide +kernel
theorem dX8_mealsWith_13 : decode cX8_mealsWith 13 = .ok (.if_icmp .ge 32, 3) := by decide +kernel
theorem dX8_mealsWith_16 : decode cX8_mealsWith 16 = .ok (.iload_n 3, 1) := by decide +kernel
theorem dX8_mealsWith_17 : decode cX8_mealsWith 17 = .ok (.aload_n 0, 1) := by decide +kernel
theorem dX8_mealsWith_18 : decode cX8_mealsWith 18 = .ok (.iload 4, 2) := by decide +kernel
theorem dX8_mealsWith_20 : decode cX8_mealsWith 20 = .ok (.iconst 0, 1) := by decide +kernel
theorem dX8_mealsWith_21 : decode cX8_mealsWith 21 = .ok (.invokevirtual 33, 3) := by decide +kernel
theorem dX8_mealsWith_24 : decode cX8_mealsWith 24 = .ok (.iload_n 1, 1) := by decide +kernel
theorem dX8_mealsWith_25 : decode cX8_mealsWith 25 = .ok (.iload_n 2, 1) := by decide +kernel
theorem dX8_mealsWith_26 : decode cX8_mealsWith 26 = .ok (.invokestatic 29, 3) := by decide +kernel
theorem dX8_mealsWith_29 : decode cX8_mealsWith 29 = .ok (.ifCond .eq 7, 3) := by decide +kernel
theorem dX8_mealsWith_32 : decode cX8_mealsWith 32 = .ok (.iconst 1, 1) := by decide +kernel
theorem dX8_mealsWith_33 : decode cX8_mealsWith 33 = .ok (.goto 4, 3) := by decide +kernel
theorem dX8_mealsWith_36 : decode cX8_mealsWith 36 = .ok (.iconst 0, 1) := by decide +kernel
theorem dX8_mealsWith_37 : decode cX8_mealsWith 37 = .ok (.iadd, 1) := by decide +kernel
theorem dX8_mealsWith_38 : decode cX8_mealsWith 38 = .ok (.istore_n 3, 1) := by decide +kernel
theorem dX8_mealsWith_39 : decode cX8_mealsWith 39 = .ok (.iinc 4 1, 3) := by decide +kernel
theorem dX8_mealsWith_42 : decode cX8_mealsWith 42 = .ok (.goto (-37), 3) := by decide +kernel
theorem dX8_mealsWith_45 : decode cX8_mealsWith 45 = .ok (.iload_n 3, 1) := by decide +kernel
theorem dX8_mealsWith_46 : decode cX8_mealsWith 46 = .ok (.ireturn, 1) := by decide +kernel
set_option maxRecDepth 20000 in
theorem ggX8_count_X8_mealsWith : GoodIn wsX8_count wsX8_mealsWith := goodIn_r _ [8, 1, 9, 10, 11, 7, 12, 13, 14, 15, 16, 17, 18, 19, 20, 21, 22, 23, 24, 25] (by decide +kernel) (by decide +kernel)
set_option maxRecDepth 20000 in
theorem gX8_count_X8_mealsWith : GoodIn wsX8_count (wsV RX8 156 RX8 yX8_mealsWith wsX8_mealsWith) := goodIn_app (goodIn_of _ (by decide +kernel)) ggX8_count_X8_mealsWith
set_option maxRecDepth 20000 in
theorem ggX8_count_X8_in : GoodIn wsX8_count wsX8_in := goodIn_r _ [15] (by decide +kernel) (by decide +kernel)
set_option maxRecDepth 20000 in
theorem gX8_count_X8_in : GoodIn wsX8_count (va_wsS RX8 29 yX8_in wsX8_in) := goodIn_app (goodIn_of _ (by decide +kernel)) ggX8_count_X8_in
theorem dX8_count_0 : decode cX8_count 0 = .ok (.iload_n 1, 1) := by decide +kernel
theorem dX8_count_1 : decode cX8_count 1 = .ok (.tableswitch 118 0 12 #[67, 67, 67, 67, 67, 74, 81, 88, 88, 88, 101, 108, 113], 67) := by decide +kernel
theorem dX8_count_68 : decode cX8_count 68 = .ok (.aload_n 0, 1) := by decide +kernel
theorem dX8_count_69 : decode cX8_count 69 = .ok (.getfield 7, 3) := by decide +kernel
theorem dX8_count_72 : decode cX8_count 72 = .ok (.iload_n 1, 1) := by decide +kernel
theorem dX8_count_73 : decode cX8_count 73 = .ok (.iaload, 1) := by decide +kernel
theorem dX8_count_74 : decode cX8_count 74 = .ok (.ireturn, 1) := by decide +kernel
theorem dX8_count_75 : decode cX8_count 75 = .ok (.aload_n 0, 1) := by decide +kernel
theorem dX8_count_76 : decode cX8_count 76 = .ok (.iconst 0, 1) := by decide +kernel
theorem dX8_count_77 : decode cX8_count 77 = .ok (.iconst 1, 1) := by decide +kernel
theorem dX8_count_78 : decode cX8_count 78 = .ok (.invokevirtual 156, 3) := by decide +kernel
theorem dX8_count_81 : decode cX8_count 81 = .ok (.ireturn, 1) := by decide +kernel
theorem dX8_count_82 : decode cX8_count 82 = .ok (.aload_n 0, 1) := by decide +kernel
theorem dX8_count_83 : decode cX8_count 83 = .ok (.iconst 2, 1) := by decide +kernel
theorem dX8_count_84 : decode cX8_count 84 = .ok (.iconst 2, 1) := by decide +kernel
theorem dX8_count_85 : decode cX8_count 85 = .ok (.invokevirtual 156, 3) := by decide +kernel
theorem dX8_count_88 : decode cX8_count 88 = .ok (.ireturn, 1) := by decide +kernel
theorem dX8_count_89 : decode cX8_count 89 = .ok (.aload_n 0, 1) := by decide +kernel
theorem dX8_count_90 : decode cX8_count 90 = .ok (.getfield 7, 3) := by decide +kernel
theorem dX8_count_93 : decode cX8_count 93 = .ok (.bipush 9, 2) := by decide +kernel
theorem dX8_count_95 : decode cX8_count 95 = .ok (.iload_n 1, 1) := by decide +kernel
theorem dX8_count_96 : decode cX8_count 96 = .ok (.iadd, 1) := by decide +kernel
theorem dX8_count_97 : decode cX8_count 97 = .ok (.bipush 7, 2) := by decide +kernel
theorem dX8_count_99 : decode cX8_count 99 = .ok (.isub, 1) := by decide +kernel
theorem dX8_count_100 : decode cX8_count 100 = .ok (.iaload, 1) := by decide +kernel
theorem dX8_count_101 : decode cX8_count 101 = .ok (.ireturn, 1) := by decide +kernel
theorem dX8_count_102 : decode cX8_count 102 = .ok (.aload_n 0, 1) := by decide +kernel
theorem dX8_count_103 : decode cX8_count 103 = .ok (.iconst 1, 1) := by decide +kernel
theorem dX8_count_104 : decode cX8_count 104 = .ok (.iconst 1, 1) := by decide +kernel
theorem dX8_count_105 : decode cX8_count 105 = .ok (.invokevirtual 156, 3) := by decide +kernel
theorem dX8_count_108 : decode cX8_count 108 = .ok (.ireturn, 1) := by decide +kernel
theorem dX8_count_109 : decode cX8_count 109 = .ok (.aload_n 0, 1) := by decide +kernel
theorem dX8_count_110 : decode cX8_count 110 = .ok (.getfield 25, 3) := by decide +kernel
theorem dX8_count_113 : decode cX8_count 113 = .ok (.ireturn, 1) := by decide +kernel
theorem dX8_count_114 : decode cX8_count 114 = .ok (.aload_n 0, 1) := by decide +kernel
theorem dX8_count_115 : decode cX8_count 115 = .ok (.getfield 159, 3) := by decide +kernel
theorem dX8_count_118 : decode cX8_count 118 = .ok (.ireturn, 1) := by decide +kernel
theorem dX8_count_119 : decode cX8_count 119 = .ok (.iload_n 1, 1) := by decide +kernel
theorem dX8_count_120 : decode cX8_count 120 = .ok (.bipush 13, 2) := by decide +kernel
theorem dX8_count_122 : decode cX8_count 122 = .ok (.bipush 16, 2) := by decide +kernel
theorem dX8_count_124 : decode cX8_count 124 = .ok (.invokestatic 29, 3) := by decide +kernel
theorem dX8_count_127 : decode cX8_count 127 = .ok (.ifCond .eq 17, 3) := by decide +kernel
theorem dX8_count_130 : decode cX8_count 130 = .ok (.aload_n 0, 1) := by decide +kernel
theorem dX8_count_131 : decode cX8_count 131 = .ok (.getfield 7, 3) := by decide +kernel
theorem dX8_count_134 : decode cX8_count 134 = .ok (.iconst 5, 1) := by decide +kernel
theorem dX8_count_135 : decode cX8_count 135 = .ok (.iload_n 1, 1) := by decide +kernel
theorem dX8_count_136 : decode cX8_count 136 = .ok (.iadd, 1) := by decide +kernel
theorem dX8_count_137 : decode cX8_count 137 = .ok (.bipush 13, 2) := by decide +kernel
theorem dX8_count_139 : decode cX8_count 139 = .ok (.isub, 1) := by decide +kernel
theorem dX8_count_140 : decode cX8_count 140 = .ok (.iaload, 1) := by decide +kernel
theorem dX8_count_141 : decode cX8_count 141 = .ok (.goto 4, 3) := by decide +kernel
theorem dX8_count_144 : decode cX8_count 144 = .ok (.iconst (-1), 1) := by decide +kernel
theorem dX8_count_145 : decode cX8_count 145 = .ok (.ireturn, 1) := by decide +kernel
set_option maxRecDepth 20000 in
theorem ggX8_advice_X8_isPerson : GoodIn wsX8_advice wsX8_isPerson := goodIn_r _ [6, 1, 7, 8, 5, 9, 30, 31, 32, 33, 34, 35, 36, 37, 38, 39] (by decide +kernel) (by decide +kernel)
set_option maxRecDepth 20000 in
theorem gX8_advice_X8_isPerson : GoodIn wsX8_advice (wsV RX8 98 RX8 yX8_isPerson wsX8_isPerson) := goodIn_app (goodIn_of _ (by decide +kernel)) ggX8_advice_X8_isPerson
set_option maxRecDepth 20000 in
theorem ggX8_advice_X8_mayHave : GoodIn wsX8_advice wsX8_mayHave := goodIn_r _ [13, 14, 15, 16, 5, 17, 1, 18, 19, 20, 21, 30, 31, 32, 33, 34, 35, 36, 37, 38, 39] (by decide +kernel) (by decide +kernel)
set_option maxRecDepth 20000 in
theorem gX8_advice_X8_mayHave : GoodIn wsX8_advice (wsV RX8 110 RX8 yX8_mayHave wsX8_mayHave) := goodIn_app (goodIn_of _ (by decide +kernel)) ggX8_advice_X8_mayHave
set_option maxRecDepth 20000 in
theorem ggX8_advice_X8_ofMeal : GoodIn wsX8_advice wsX8_ofMeal := goodIn_r _ [17, 1, 30, 31, 32, 33, 34, 35, 36, 37, 38, 39] (by decide +kernel) (by decide +kernel)
set_option maxRecDepth 20000 in
theorem gX8_advice_X8_ofMeal : GoodIn wsX8_advice (wsV RX8 33 RX8 yX8_ofMeal wsX8_ofMeal) := goodIn_app (goodIn_of _ (by decide +kernel)) ggX8_advice_X8_ofMeal
set_option maxRecDepth 20000 in
theorem ggX8_advice_X8_loss : GoodIn wsX8_advice wsX8_loss := goodIn_r _ [25, 14, 15, 16, 5, 17, 1, 26, 27, 28, 29, 30, 31, 32, 33, 34, 35, 36, 37, 38, 39] (by decide +kernel) (by decide +kernel)
set_option maxRecDepth 20000 in
theorem gX8_advice_X8_loss : GoodIn wsX8_advice (wsV RX8 81 RX8 yX8_loss wsX8_loss) := goodIn_app (goodIn_of _ (by decide +kernel)) ggX8_advice_X8_loss
theorem dX8_advice_0 : decode cX8_advice 0 = .ok (.aload_n 0, 1) := by decide +kernel
theorem dX8_advice_1 : decode cX8_advice 1 = .ok (.iload_n 1, 1) := by decide +kernel
theorem dX8_advice_2 : decode cX8_advice 2 = .ok (.invokevirtual 98, 3) := by decide +kernel
theorem dX8_advice_5 : decode cX8_advice 5 = .ok (.ifCond .ne 5, 3) := by decide +kernel
theorem dX8_advice_8 : decode cX8_advice 8 = .ok (.iconst (-1), 1) := by decide +kernel
theorem dX8_advice_9 : decode cX8_advice 9 = .ok (.ireturn, 1) := by decide +kernel
theorem dX8_advice_10 : decode cX8_advice 10 = .ok (.bipush (-4), 2) := by decide +kernel
theorem dX8_advice_12 : decode cX8_advice 12 = .ok (.istore_n 2, 1) := by decide +kernel
theorem dX8_advice_13 : decode cX8_advice 13 = .ok (.iconst 0, 1) := by decide +kernel
theorem dX8_advice_14 : decode cX8_advice 14 = .ok (.istore_n 3, 1) := by decide +kernel
theorem dX8_advice_15 : decode cX8_advice 15 = .ok (.iconst 0, 1) := by decide +kernel
theorem dX8_advice_16 : decode cX8_advice 16 = .ok (.istore 4, 2) := by decide +kernel
theorem dX8_advice_18 : decode cX8_advice 18 = .ok (.iload 4, 2) := by decide +kernel
theorem dX8_advice_20 : decode cX8_advice 20 = .ok (.aload_n 0, 1) := by decide +kernel
theorem dX8_advice_21 : decode cX8_advice 21 = .ok (.getfield 7, 3) := by decide +kernel
theorem dX8_advice_24 : decode cX8_advice 24 = .ok (.iconst 1, 1) := by decide +kernel
theorem dX8_advice_25 : decode cX8_advice 25 = .ok (.iaload, 1) := by decide +kernel
theorem dX8_advice_26 : decode cX8_advice 26 = .ok (.if_icmp .ge 85, 3) := by decide +kernel
theorem dX8_advice_29 : decode cX8_advice 29 = .ok (.aload_n 0, 1) := by decide +kernel
theorem dX8_advice_30 : decode cX8_advice 30 = .ok (.iload_n 1, 1) := by decide +kernel
theorem dX8_advice_31 : decode cX8_advice 31 = .ok (.iload 4, 2) := by decide +kernel
theorem dX8_advice_33 : decode cX8_advice 33 = .ok (.invokevirtual 110, 3) := by decide +kernel
theorem dX8_advice_36 : decode cX8_advice 36 = .ok (.ifCond .eq 69, 3) := by decide +kernel
theorem dX8_advice_39 : decode cX8_advice 39 = .ok (.aload_n 0, 1) := by decide +kernel
theorem dX8_advice_40 : decode cX8_advice 40 = .ok (.iload 4, 2) := by decide +kernel
theorem dX8_advice_42 : decode cX8_advice 42 = .ok (.iconst 2, 1) := by decide +kernel
theorem dX8_advice_43 : decode cX8_advice 43 = .ok (.invokevirtual 33, 3) := by decide +kernel
theorem dX8_advice_46 : decode cX8_advice 46 = .ok (.aload_n 0, 1) := by decide +kernel
theorem dX8_advice_47 : decode cX8_advice 47 = .ok (.iload 4, 2) := by decide +kernel
theorem dX8_advice_49 : decode cX8_advice 49 = .ok (.invokevirtual 81, 3) := by decide +kernel
theorem dX8_advice_52 : decode cX8_advice 52 = .ok (.iadd, 1) := by decide +kernel
theorem dX8_advice_53 : decode cX8_advice 53 = .ok (.iconst 1, 1) := by decide +kernel
theorem dX8_advice_54 : decode cX8_advice 54 = .ok (.isub, 1) := by decide +kernel
theorem dX8_advice_55 : decode cX8_advice 55 = .ok (.aload_n 0, 1) := by decide +kernel
theorem dX8_advice_56 : decode cX8_advice 56 = .ok (.iload 4, 2) := by decide +kernel
theorem dX8_advice_58 : decode cX8_advice 58 = .ok (.invokevirtual 81, 3) := by decide +kernel
theorem dX8_advice_61 : decode cX8_advice 61 = .ok (.idiv, 1) := by decide +kernel
theorem dX8_advice_62 : decode cX8_advice 62 = .ok (.istore 5, 2) := by decide +kernel
theorem dX8_advice_64 : decode cX8_advice 64 = .ok (.iload_n 2, 1) := by decide +kernel
theorem dX8_advice_65 : decode cX8_advice 65 = .ok (.ifCond .lt 9, 3) := by decide +kernel
theorem dX8_advice_68 : decode cX8_advice 68 = .ok (.iload 5, 2) := by decide +kernel
theorem dX8_advice_70 : decode cX8_advice 70 = .ok (.iload_n 3, 1) := by decide +kernel
theorem dX8_advice_71 : decode cX8_advice 71 = .ok (.if_icmp .ge 7, 3) := by decide +kernel
theorem dX8_advice_74 : decode cX8_advice 74 = .ok (.iconst 1, 1) := by decide +kernel
theorem dX8_advice_75 : decode cX8_advice 75 = .ok (.goto 4, 3) := by decide +kernel
theorem dX8_advice_78 : decode cX8_advice 78 = .ok (.iconst 0, 1) := by decide +kernel
theorem dX8_advice_79 : decode cX8_advice 79 = .ok (.istore 6, 2) := by decide +kernel
theorem dX8_advice_81 : decode cX8_advice 81 = .ok (.iload 6, 2) := by decide +kernel
theorem dX8_advice_83 : decode cX8_advice 83 = .ok (.ifCond .eq 8, 3) := by decide +kernel
theorem dX8_advice_86 : decode cX8_advice 86 = .ok (.iload 4, 2) := by decide +kernel
theorem dX8_advice_88 : decode cX8_advice 88 = .ok (.goto 4, 3) := by decide +kernel
theorem dX8_advice_91 : decode cX8_advice 91 = .ok (.iload_n 2, 1) := by decide +kernel
theorem dX8_advice_92 : decode cX8_advice 92 = .ok (.istore_n 2, 1) := by decide +kernel
theorem dX8_advice_93 : decode cX8_advice 93 = .ok (.iload 6, 2) := by decide +kernel
theorem dX8_advice_95 : decode cX8_advice 95 = .ok (.ifCond .eq 8, 3) := by decide +kernel
theorem dX8_advice_98 : decode cX8_advice 98 = .ok (.iload 5, 2) := by decide +kernel
theorem dX8_advice_100 : decode cX8_advice 100 = .ok (.goto 4, 3) := by decide +kernel
theorem dX8_advice_103 : decode cX8_advice 103 = .ok (.iload_n 3, 1) := by decide +kernel
theorem dX8_advice_104 : decode cX8_advice 104 = .ok (.istore_n 3, 1) := by decide +kernel
theorem dX8_advice_105 : decode cX8_advice 105 = .ok (.iinc 4 1, 3) := by decide +kernel
theorem dX8_advice_108 : decode cX8_advice 108 = .ok (.goto (-90), 3) := by decide +kernel
theorem dX8_advice_111 : decode cX8_advice 111 = .ok (.iload_n 2, 1) := by decide +kernel
theorem dX8_advice_112 : decode cX8_advice 112 = .ok (.ireturn, 1) := by decide +kernel
set_option maxRecDepth 20000 in
theorem ggX8_wouldSpoil_X8_in : GoodIn wsX8_wouldSpoil wsX8_in := goodIn_r _ [4] (by decide +kernel) (by decide +kernel)
set_option maxRecDepth 20000 in
theorem gX8_wouldSpoil_X8_in : GoodIn wsX8_wouldSpoil (va_wsS RX8 29 yX8_in wsX8_in) := goodIn_app (goodIn_of _ (by decide +kernel)) ggX8_wouldSpoil_X8_in
set_option maxRecDepth 20000 in
theorem ggX8_wouldSpoil_X8_begins : GoodIn wsX8_wouldSpoil wsX8_begins := goodIn_r _ [8, 9, 10, 94, 95, 96, 97, 98, 99, 100, 101, 102, 103] (by decide +kernel) (by decide +kernel)
set_option maxRecDepth 20000 in
theorem gX8_wouldSpoil_X8_begins : GoodIn wsX8_wouldSpoil (wsV RX8 125 RX8 yX8_begins wsX8_begins) := goodIn_app (goodIn_of _ (by decide +kernel)) ggX8_wouldSpoil_X8_begins
set_option maxRecDepth 20000 in
theorem ggX8_wouldSpoil_X8_passes : GoodIn wsX8_wouldSpoil wsX8_passes := goodIn_r _ [14, 15, 16, 17, 3, 18, 10, 19, 20, 21, 22, 23, 24, 25, 26, 27, 28, 29, 30, 31, 32, 33, 34, 35, 36, 37, 38, 39, 40, 41, 42, 43, 44, 45, 46, 47, 48, 49, 50, 51, 52, 53, 54, 55, 56, 57, 58, 59, 60, 61, 62, 63, 64, 65, 66, 67, 68, 69, 70, 71, 72, 73, 74, 75, 76, 77, 78, 79, 80, 81, 82, 83, 84, 85, 86, 87, 88, 89, 94, 95, 96, 97, 98, 99, 100, 101, 102, 103] (by decide +kernel) (by decide +kernel)
set_option maxRecDepth 20000 in
theorem gX8_wouldSpoil_X8_passes : GoodIn wsX8_wouldSpoil (wsV RX8 122 RX8 yX8_passes wsX8_passes) := goodIn_app (goodIn_of _ (by decide +kernel)) ggX8_wouldSpoil_X8_passes
set_option maxRecDepth 20000 in
theorem ggX8_wouldSpoil_X8_returns : GoodIn wsX8_wouldSpoil wsX8_returns := goodIn_r _ [93, 10, 9, 94, 95, 96, 97, 98, 99, 100, 101, 102, 103] (by decide +kernel) (by decide +kernel)
set_option maxRecDepth 20000 in
theorem gX8_wouldSpoil_X8_returns : GoodIn wsX8_wouldSpoil (wsV RX8 22 RX8 yX8_returns wsX8_returns) := goodIn_app (goodIn_of _ (by decide +kernel)) ggX8_wouldSpoil_X8_returns
theorem dX8_wouldSpoil_0 : decode cX8_wouldSpoil 0 = .ok (.iload_n 1, 1) := by decide +kernel
theorem dX8_wouldSpoil_1 : decode cX8_wouldSpoil 1 = .ok (.iconst 1, 1) := by decide +kernel
theorem dX8_wouldSpoil_2 : decode cX8_wouldSpoil 2 = .ok (.bipush 99, 2) := by decide +kernel
theorem dX8_wouldSpoil_4 : decode cX8_wouldSpoil 4 = .ok (.invokestatic 29, 3) := by decide +kernel
theorem dX8_wouldSpoil_7 : decode cX8_wouldSpoil 7 = .ok (.ifCond .ne 5, 3) := by decide +kernel
theorem dX8_wouldSpoil_10 : decode cX8_wouldSpoil 10 = .ok (.iconst (-1), 1) := by decide +kernel
theorem dX8_wouldSpoil_11 : decode cX8_wouldSpoil 11 = .ok (.ireturn, 1) := by decide +kernel
theorem dX8_wouldSpoil_12 : decode cX8_wouldSpoil 12 = .ok (.aload_n 0, 1) := by decide +kernel
theorem dX8_wouldSpoil_13 : decode cX8_wouldSpoil 13 = .ok (.invokevirtual 125, 3) := by decide +kernel
theorem dX8_wouldSpoil_16 : decode cX8_wouldSpoil 16 = .ok (.aload_n 0, 1) := by decide +kernel
theorem dX8_wouldSpoil_17 : decode cX8_wouldSpoil 17 = .ok (.iload_n 1, 1) := by decide +kernel
theorem dX8_wouldSpoil_18 : decode cX8_wouldSpoil 18 = .ok (.invokevirtual 122, 3) := by decide +kernel
theorem dX8_wouldSpoil_21 : decode cX8_wouldSpoil 21 = .ok (.istore_n 2, 1) := by decide +kernel
theorem dX8_wouldSpoil_22 : decode cX8_wouldSpoil 22 = .ok (.aload_n 0, 1) := by decide +kernel
theorem dX8_wouldSpoil_23 : decode cX8_wouldSpoil 23 = .ok (.invokevirtual 22, 3) := by decide +kernel
theorem dX8_wouldSpoil_26 : decode cX8_wouldSpoil 26 = .ok (.iload_n 2, 1) := by decide +kernel
theorem dX8_wouldSpoil_27 : decode cX8_wouldSpoil 27 = .ok (.ireturn, 1) := by decide +kernel
set_option maxRecDepth 20000 in
theorem ggX8_arrivingWith_X8_ofMeal : GoodIn wsX8_arrivingWith wsX8_ofMeal := goodIn_r _ [5, 6, 38, 39, 40, 41, 42, 43, 44, 45, 46, 47] (by decide +kernel) (by decide +kernel)
set_option maxRecDepth 20000 in
theorem gX8_arrivingWith_X8_ofMeal : GoodIn wsX8_arrivingWith (wsV RX8 33 RX8 yX8_ofMeal wsX8_ofMeal) := goodIn_app (goodIn_of _ (by decide +kernel)) ggX8_arrivingWith_X8_ofMeal
set_option maxRecDepth 20000 in
theorem ggX8_arrivingWith_X8_loss : GoodIn wsX8_arrivingWith wsX8_loss := goodIn_r _ [10, 1, 2, 3, 4, 5, 6, 11, 12, 13, 14, 38, 39, 40, 41, 42, 43, 44, 45, 46, 47] (by decide +kernel) (by decide +kernel)
set_option maxRecDepth 20000 in
theorem gX8_arrivingWith_X8_loss : GoodIn wsX8_arrivingWith (wsV RX8 81 RX8 yX8_loss wsX8_loss) := goodIn_app (goodIn_of _ (by decide +kernel)) ggX8_arrivingWith_X8_loss
set_option maxRecDepth 20000 in
theorem ggX8_arrivingWith_X8_ofLocker : GoodIn wsX8_arrivingWith wsX8_ofLocker := goodIn_r _ [14, 6, 38, 39, 40, 41, 42, 43, 44, 45, 46, 47] (by decide +kernel) (by decide +kernel)
set_option maxRecDepth 20000 in
theorem gX8_arrivingWith_X8_ofLocker : GoodIn wsX8_arrivingWith (wsV RX8 44 RX8 yX8_ofLocker wsX8_ofLocker) := goodIn_app (goodIn_of _ (by decide +kernel)) ggX8_arrivingWith_X8_ofLocker
set_option maxRecDepth 20000 in
theorem ggX8_arrivingWith_X8_freeCells : GoodIn wsX8_arrivingWith wsX8_freeCells := goodIn_r _ [18, 11, 12, 13, 4, 14, 6, 19, 20, 21, 22, 23, 24, 25, 26, 1, 2, 3, 5, 27, 28, 29, 30, 31, 32, 33, 38, 39, 40, 41, 42, 43, 44, 45, 46, 47] (by decide +kernel) (by decide +kernel)
set_option maxRecDepth 20000 in
theorem gX8_arrivingWith_X8_freeCells : GoodIn wsX8_arrivingWith (wsV RX8 68 RX8 yX8_freeCells wsX8_freeCells) := goodIn_app (goodIn_of _ (by decide +kernel)) ggX8_arrivingWith_X8_freeCells
set_option maxRecDepth 20000 in
theorem ggX8_arrivingWith_X8_way : GoodIn wsX8_arrivingWith wsX8_way := goodIn_r _ [37, 6, 38, 39, 40, 41, 42, 43, 44, 45, 46, 47] (by decide +kernel) (by decide +kernel)
set_option maxRecDepth 20000 in
theorem gX8_arrivingWith_X8_way : GoodIn wsX8_arrivingWith (wsV RX8 119 RX8 yX8_way wsX8_way) := goodIn_app (goodIn_of _ (by decide +kernel)) ggX8_arrivingWith_X8_way
theorem dX8_arrivingWith_0 : decode cX8_arrivingWith 0 = .ok (.aload_n 0, 1) := by decide +kernel
theorem dX8_arrivingWith_1 : decode cX8_arrivingWith 1 = .ok (.iload_n 1, 1) := by decide +kernel
theorem dX8_arrivingWith_2 : decode cX8_arrivingWith 2 = .ok (.iconst 0, 1) := by decide +kernel
theorem dX8_arrivingWith_3 : decode cX8_arrivingWith 3 = .ok (.invokevirtual 33, 3) := by decide +kernel
theorem dX8_arrivingWith_6 : decode cX8_arrivingWith 6 = .ok (.ifCond .ne 34, 3) := by decide +kernel
theorem dX8_arrivingWith_9 : decode cX8_arrivingWith 9 = .ok (.aload_n 0, 1) := by decide +kernel
theorem dX8_arrivingWith_10 : decode cX8_arrivingWith 10 = .ok (.iload_n 1, 1) := by decide +kernel
theorem dX8_arrivingWith_11 : decode cX8_arrivingWith 11 = .ok (.invokevirtual 81, 3) := by decide +kernel
theorem dX8_arrivingWith_14 : decode cX8_arrivingWith 14 = .ok (.iconst 2, 1) := by decide +kernel
theorem dX8_arrivingWith_15 : decode cX8_arrivingWith 15 = .ok (.if_icmp .ne 25, 3) := by decide +kernel
theorem dX8_arrivingWith_18 : decode cX8_arrivingWith 18 = .ok (.aload_n 0, 1) := by decide +kernel
theorem dX8_arrivingWith_19 : decode cX8_arrivingWith 19 = .ok (.iload_n 2, 1) := by decide +kernel
theorem dX8_arrivingWith_20 : decode cX8_arrivingWith 20 = .ok (.iconst 1, 1) := by decide +kernel
theorem dX8_arrivingWith_21 : decode cX8_arrivingWith 21 = .ok (.invokevirtual 44, 3) := by decide +kernel
theorem dX8_arrivingWith_24 : decode cX8_arrivingWith 24 = .ok (.iconst 1, 1) := by decide +kernel
theorem dX8_arrivingWith_25 : decode cX8_arrivingWith 25 = .ok (.if_icmp .ne 15, 3) := by decide +kernel
theorem dX8_arrivingWith_28 : decode cX8_arrivingWith 28 = .ok (.aload_n 0, 1) := by decide +kernel
theorem dX8_arrivingWith_29 : decode cX8_arrivingWith 29 = .ok (.iload_n 2, 1) := by decide +kernel
theorem dX8_arrivingWith_30 : decode cX8_arrivingWith 30 = .ok (.invokevirtual 68, 3) := by decide +kernel
theorem dX8_arrivingWith_33 : decode cX8_arrivingWith 33 = .ok (.ifCond .le 7, 3) := by decide +kernel
theorem dX8_arrivingWith_36 : decode cX8_arrivingWith 36 = .ok (.iconst 1, 1) := by decide +kernel
theorem dX8_arrivingWith_37 : decode cX8_arrivingWith 37 = .ok (.goto 4, 3) := by decide +kernel
theorem dX8_arrivingWith_40 : decode cX8_arrivingWith 40 = .ok (.iconst 0, 1) := by decide +kernel
theorem dX8_arrivingWith_41 : decode cX8_arrivingWith 41 = .ok (.istore_n 3, 1) := by decide +kernel
theorem dX8_arrivingWith_42 : decode cX8_arrivingWith 42 = .ok (.aload_n 0, 1) := by decide +kernel
theorem dX8_arrivingWith_43 : decode cX8_arrivingWith 43 = .ok (.iload_n 1, 1) := by decide +kernel
theorem dX8_arrivingWith_44 : decode cX8_arrivingWith 44 = .ok (.iconst 2, 1) := by decide +kernel
theorem dX8_arrivingWith_45 : decode cX8_arrivingWith 45 = .ok (.invokevirtual 33, 3) := by decide +kernel
theorem dX8_arrivingWith_48 : decode cX8_arrivingWith 48 = .ok (.iconst 2, 1) := by decide +kernel
theorem dX8_arrivingWith_49 : decode cX8_arrivingWith 49 = .ok (.aload_n 0, 1) := by decide +kernel
theorem dX8_arrivingWith_50 : decode cX8_arrivingWith 50 = .ok (.aload_n 0, 1) := by decide +kernel
theorem dX8_arrivingWith_51 : decode cX8_arrivingWith 51 = .ok (.iload_n 1, 1) := by decide +kernel
theorem dX8_arrivingWith_52 : decode cX8_arrivingWith 52 = .ok (.iconst 1, 1) := by decide +kernel
theorem dX8_arrivingWith_53 : decode cX8_arrivingWith 53 = .ok (.invokevirtual 33, 3) := by decide +kernel
theorem dX8_arrivingWith_56 : decode cX8_arrivingWith 56 = .ok (.iload_n 2, 1) := by decide +kernel
theorem dX8_arrivingWith_57 : decode cX8_arrivingWith 57 = .ok (.invokevirtual 119, 3) := by decide +kernel
theorem dX8_arrivingWith_60 : decode cX8_arrivingWith 60 = .ok (.imul, 1) := by decide +kernel
theorem dX8_arrivingWith_61 : decode cX8_arrivingWith 61 = .ok (.isub, 1) := by decide +kernel
theorem dX8_arrivingWith_62 : decode cX8_arrivingWith 62 = .ok (.istore 4, 2) := by decide +kernel
theorem dX8_arrivingWith_64 : decode cX8_arrivingWith 64 = .ok (.iload_n 3, 1) := by decide +kernel
theorem dX8_arrivingWith_65 : decode cX8_arrivingWith 65 = .ok (.ifCond .eq 13, 3) := by decide +kernel
theorem dX8_arrivingWith_68 : decode cX8_arrivingWith 68 = .ok (.iload 4, 2) := by decide +kernel
theorem dX8_arrivingWith_70 : decode cX8_arrivingWith 70 = .ok (.ifCond .le 8, 3) := by decide +kernel
theorem dX8_arrivingWith_73 : decode cX8_arrivingWith 73 = .ok (.iload 4, 2) := by decide +kernel
theorem dX8_arrivingWith_75 : decode cX8_arrivingWith 75 = .ok (.goto 4, 3) := by decide +kernel
theorem dX8_arrivingWith_78 : decode cX8_arrivingWith 78 = .ok (.iconst 0, 1) := by decide +kernel
theorem dX8_arrivingWith_79 : decode cX8_arrivingWith 79 = .ok (.ireturn, 1) := by decide +kernel
set_option maxRecDepth 20000 in
theorem ggX8_move_X8_in : GoodIn wsX8_move wsX8_in := goodIn_r _ [5] (by decide +kernel) (by decide +kernel)
set_option maxRecDepth 20000 in
theorem gX8_move_X8_in : GoodIn wsX8_move (va_wsS RX8 29 yX8_in wsX8_in) := goodIn_app (goodIn_of _ (by decide +kernel)) ggX8_move_X8_in
set_option maxRecDepth 20000 in
theorem ggX8_move_X8_arrivingWith : GoodIn wsX8_move wsX8_arrivingWith := goodIn_r _ [9, 10, 11, 12, 4, 13, 1, 14, 15, 16, 17, 18, 19, 20, 21, 22, 23, 24, 25, 26, 27, 28, 29, 30, 31, 32, 33, 34, 35, 36, 37, 38, 39, 40, 41, 42, 43, 44, 45, 46, 47, 48, 49, 50, 51, 52, 53, 54] (by decide +kernel) (by decide +kernel)
set_option maxRecDepth 20000 in
theorem gX8_move_X8_arrivingWith : GoodIn wsX8_move (wsV RX8 162 RX8 yX8_arrivingWith wsX8_arrivingWith) := goodIn_app (goodIn_of _ (by decide +kernel)) ggX8_move_X8_arrivingWith
theorem dX8_move_0 : decode cX8_move 0 = .ok (.iload_n 1, 1) := by decide +kernel
theorem dX8_move_1 : decode cX8_move 1 = .ok (.iconst 0, 1) := by decide +kernel
theorem dX8_move_2 : decode cX8_move 2 = .ok (.iconst 2, 1) := by decide +kernel
theorem dX8_move_3 : decode cX8_move 3 = .ok (.invokestatic 29, 3) := by decide +kernel
theorem dX8_move_6 : decode cX8_move 6 = .ok (.ifCond .ne 5, 3) := by decide +kernel
theorem dX8_move_9 : decode cX8_move 9 = .ok (.iconst (-1), 1) := by decide +kernel
theorem dX8_move_10 : decode cX8_move 10 = .ok (.ireturn, 1) := by decide +kernel
theorem dX8_move_11 : decode cX8_move 11 = .ok (.iconst (-1), 1) := by decide +kernel
theorem dX8_move_12 : decode cX8_move 12 = .ok (.istore_n 2, 1) := by decide +kernel
theorem dX8_move_13 : decode cX8_move 13 = .ok (.iconst 0, 1) := by decide +kernel
theorem dX8_move_14 : decode cX8_move 14 = .ok (.istore_n 3, 1) := by decide +kernel
theorem dX8_move_15 : decode cX8_move 15 = .ok (.iconst 0, 1) := by decide +kernel
theorem dX8_move_16 : decode cX8_move 16 = .ok (.istore 4, 2) := by decide +kernel
theorem dX8_move_18 : decode cX8_move 18 = .ok (.iload 4, 2) := by decide +kernel
theorem dX8_move_20 : decode cX8_move 20 = .ok (.aload_n 0, 1) := by decide +kernel
theorem dX8_move_21 : decode cX8_move 21 = .ok (.getfield 7, 3) := by decide +kernel
theorem dX8_move_24 : decode cX8_move 24 = .ok (.iconst 1, 1) := by decide +kernel
theorem dX8_move_25 : decode cX8_move 25 = .ok (.iaload, 1) := by decide +kernel
theorem dX8_move_26 : decode cX8_move 26 = .ok (.aload_n 0, 1) := by decide +kernel
theorem dX8_move_27 : decode cX8_move 27 = .ok (.getfield 7, 3) := by decide +kernel
theorem dX8_move_30 : decode cX8_move 30 = .ok (.iconst 0, 1) := by decide +kernel
theorem dX8_move_31 : decode cX8_move 31 = .ok (.iaload, 1) := by decide +kernel
theorem dX8_move_32 : decode cX8_move 32 = .ok (.imul, 1) := by decide +kernel
theorem dX8_move_33 : decode cX8_move 33 = .ok (.if_icmp .ge 59, 3) := by decide +kernel
theorem dX8_move_36 : decode cX8_move 36 = .ok (.aload_n 0, 1) := by decide +kernel
theorem dX8_move_37 : decode cX8_move 37 = .ok (.iload 4, 2) := by decide +kernel
theorem dX8_move_39 : decode cX8_move 39 = .ok (.aload_n 0, 1) := by decide +kernel
theorem dX8_move_40 : decode cX8_move 40 = .ok (.getfield 7, 3) := by decide +kernel
theorem dX8_move_43 : decode cX8_move 43 = .ok (.iconst 0, 1) := by decide +kernel
theorem dX8_move_44 : decode cX8_move 44 = .ok (.iaload, 1) := by decide +kernel
theorem dX8_move_45 : decode cX8_move 45 = .ok (.idiv, 1) := by decide +kernel
theorem dX8_move_46 : decode cX8_move 46 = .ok (.iload 4, 2) := by decide +kernel
theorem dX8_move_48 : decode cX8_move 48 = .ok (.aload_n 0, 1) := by decide +kernel
theorem dX8_move_49 : decode cX8_move 49 = .ok (.getfield 7, 3) := by decide +kernel
theorem dX8_move_52 : decode cX8_move 52 = .ok (.iconst 0, 1) := by decide +kernel
theorem dX8_move_53 : decode cX8_move 53 = .ok (.iaload, 1) := by decide +kernel
theorem dX8_move_54 : decode cX8_move 54 = .ok (.irem, 1) := by decide +kernel
theorem dX8_move_55 : decode cX8_move 55 = .ok (.invokevirtual 162, 3) := by decide +kernel
theorem dX8_move_58 : decode cX8_move 58 = .ok (.istore 5, 2) := by decide +kernel
theorem dX8_move_60 : decode cX8_move 60 = .ok (.iload 5, 2) := by decide +kernel
theorem dX8_move_62 : decode cX8_move 62 = .ok (.iload_n 3, 1) := by decide +kernel
theorem dX8_move_63 : decode cX8_move 63 = .ok (.if_icmp .le 8, 3) := by decide +kernel
theorem dX8_move_66 : decode cX8_move 66 = .ok (.iload 4, 2) := by decide +kernel
theorem dX8_move_68 : decode cX8_move 68 = .ok (.goto 4, 3) := by decide +kernel
theorem dX8_move_71 : decode cX8_move 71 = .ok (.iload_n 2, 1) := by decide +kernel
theorem dX8_move_72 : decode cX8_move 72 = .ok (.istore_n 2, 1) := by decide +kernel
theorem dX8_move_73 : decode cX8_move 73 = .ok (.iload 5, 2) := by decide +kernel
theorem dX8_move_75 : decode cX8_move 75 = .ok (.iload_n 3, 1) := by decide +kernel
theorem dX8_move_76 : decode cX8_move 76 = .ok (.if_icmp .le 8, 3) := by decide +kernel
theorem dX8_move_79 : decode cX8_move 79 = .ok (.iload 5, 2) := by decide +kernel
theorem dX8_move_81 : decode cX8_move 81 = .ok (.goto 4, 3) := by decide +kernel
theorem dX8_move_84 : decode cX8_move 84 = .ok (.iload_n 3, 1) := by decide +kernel
theorem dX8_move_85 : decode cX8_move 85 = .ok (.istore_n 3, 1) := by decide +kernel
theorem dX8_move_86 : decode cX8_move 86 = .ok (.iinc 4 1, 3) := by decide +kernel
theorem dX8_move_89 : decode cX8_move 89 = .ok (.goto (-71), 3) := by decide +kernel
theorem dX8_move_92 : decode cX8_move 92 = .ok (.iload_n 2, 1) := by decide +kernel
theorem dX8_move_93 : decode cX8_move 93 = .ok (.ifCond .ge 6, 3) := by decide +kernel
theorem dX8_move_96 : decode cX8_move 96 = .ok (.bipush (-4), 2) := by decide +kernel
theorem dX8_move_98 : decode cX8_move 98 = .ok (.ireturn, 1) := by decide +kernel
theorem dX8_move_99 : decode cX8_move 99 = .ok (.iload_n 1, 1) := by decide +kernel
theorem dX8_move_100 : decode cX8_move 100 = .ok (.ifCond .ne 14, 3) := by decide +kernel
theorem dX8_move_103 : decode cX8_move 103 = .ok (.iload_n 2, 1) := by decide +kernel
theorem dX8_move_104 : decode cX8_move 104 = .ok (.aload_n 0, 1) := by decide +kernel
theorem dX8_move_105 : decode cX8_move 105 = .ok (.getfield 7, 3) := by decide +kernel
theorem dX8_move_108 : decode cX8_move 108 = .ok (.iconst 0, 1) := by decide +kernel
theorem dX8_move_109 : decode cX8_move 109 = .ok (.iaload, 1) := by decide +kernel
theorem dX8_move_110 : decode cX8_move 110 = .ok (.idiv, 1) := by decide +kernel
theorem dX8_move_111 : decode cX8_move 111 = .ok (.goto 20, 3) := by decide +kernel
theorem dX8_move_114 : decode cX8_move 114 = .ok (.iload_n 1, 1) := by decide +kernel
theorem dX8_move_115 : decode cX8_move 115 = .ok (.iconst 1, 1) := by decide +kernel
theorem dX8_move_116 : decode cX8_move 116 = .ok (.if_icmp .ne 14, 3) := by decide +kernel
theorem dX8_move_119 : decode cX8_move 119 = .ok (.iload_n 2, 1) := by decide +kernel
theorem dX8_move_120 : decode cX8_move 120 = .ok (.aload_n 0, 1) := by decide +kernel
theorem dX8_move_121 : decode cX8_move 121 = .ok (.getfield 7, 3) := by decide +kernel
theorem dX8_move_124 : decode cX8_move 124 = .ok (.iconst 0, 1) := by decide +kernel
theorem dX8_move_125 : decode cX8_move 125 = .ok (.iaload, 1) := by decide +kernel
theorem dX8_move_126 : decode cX8_move 126 = .ok (.irem, 1) := by decide +kernel
theorem dX8_move_127 : decode cX8_move 127 = .ok (.goto 4, 3) := by decide +kernel
theorem dX8_move_130 : decode cX8_move 130 = .ok (.iload_n 3, 1) := by decide +kernel
theorem dX8_move_131 : decode cX8_move 131 = .ok (.ireturn, 1) := by decide +kernel
set_option maxRecDepth 20000 in
theorem ggX8_shareBits_Jxf58ca_floatToIntBits_5c35a : GoodIn wsX8_shareBits wsJxf58ca_floatToIntBits_5c35a := goodIn_r _ [5, 6, 7, 8, 9, 10, 11, 12, 4, 13] (by decide +kernel) (by decide +kernel)
set_option maxRecDepth 20000 in
theorem gX8_shareBits_Jxf58ca_floatToIntBits_5c35a : GoodIn wsX8_shareBits (va_wsS RX8 165 yJxf58ca_floatToIntBits_5c35a wsJxf58ca_floatToIntBits_5c35a) := goodIn_app (goodIn_of _ (by decide +kernel)) ggX8_shareBits_Jxf58ca_floatToIntBits_5c35a
theorem dX8_shareBits_0 : decode cX8_shareBits 0 = .ok (.aload_n 0, 1) := by decide +kernel
theorem dX8_shareBits_1 : decode cX8_shareBits 1 = .ok (.getfield 7, 3) := by decide +kernel
theorem dX8_shareBits_4 : decode cX8_shareBits 4 = .ok (.bipush 9, 2) := by decide +kernel
theorem dX8_shareBits_6 : decode cX8_shareBits 6 = .ok (.iaload, 1) := by decide +kernel
theorem dX8_shareBits_7 : decode cX8_shareBits 7 = .ok (.aload_n 0, 1) := by decide +kernel
theorem dX8_shareBits_8 : decode cX8_shareBits 8 = .ok (.getfield 7, 3) := by decide +kernel
theorem dX8_shareBits_11 : decode cX8_shareBits 11 = .ok (.bipush 10, 2) := by decide +kernel
theorem dX8_shareBits_13 : decode cX8_shareBits 13 = .ok (.iaload, 1) := by decide +kernel
theorem dX8_shareBits_14 : decode cX8_shareBits 14 = .ok (.iadd, 1) := by decide +kernel
theorem dX8_shareBits_15 : decode cX8_shareBits 15 = .ok (.aload_n 0, 1) := by decide +kernel
theorem dX8_shareBits_16 : decode cX8_shareBits 16 = .ok (.getfield 7, 3) := by decide +kernel
theorem dX8_shareBits_19 : decode cX8_shareBits 19 = .ok (.bipush 11, 2) := by decide +kernel
theorem dX8_shareBits_21 : decode cX8_shareBits 21 = .ok (.iaload, 1) := by decide +kernel
theorem dX8_shareBits_22 : decode cX8_shareBits 22 = .ok (.iadd, 1) := by decide +kernel
theorem dX8_shareBits_23 : decode cX8_shareBits 23 = .ok (.istore_n 1, 1) := by decide +kernel
theorem dX8_shareBits_24 : decode cX8_shareBits 24 = .ok (.iload_n 1, 1) := by decide +kernel
theorem dX8_shareBits_25 : decode cX8_shareBits 25 = .ok (.ifCond .ne 6, 3) := by decide +kernel
theorem dX8_shareBits_28 : decode cX8_shareBits 28 = .ok (.bipush (-4), 2) := by decide +kernel
theorem dX8_shareBits_30 : decode cX8_shareBits 30 = .ok (.ireturn, 1) := by decide +kernel
theorem dX8_shareBits_31 : decode cX8_shareBits 31 = .ok (.aload_n 0, 1) := by decide +kernel
theorem dX8_shareBits_32 : decode cX8_shareBits 32 = .ok (.getfield 7, 3) := by decide +kernel
theorem dX8_shareBits_35 : decode cX8_shareBits 35 = .ok (.bipush 9, 2) := by decide +kernel
theorem dX8_shareBits_37 : decode cX8_shareBits 37 = .ok (.iaload, 1) := by decide +kernel
theorem dX8_shareBits_38 : decode cX8_shareBits 38 = .ok (.i2f, 1) := by decide +kernel
theorem dX8_shareBits_39 : decode cX8_shareBits 39 = .ok (.fstore_n 2, 1) := by decide +kernel
theorem dX8_shareBits_40 : decode cX8_shareBits 40 = .ok (.iload_n 1, 1) := by decide +kernel
theorem dX8_shareBits_41 : decode cX8_shareBits 41 = .ok (.i2f, 1) := by decide +kernel
theorem dX8_shareBits_42 : decode cX8_shareBits 42 = .ok (.fstore_n 3, 1) := by decide +kernel
theorem dX8_shareBits_43 : decode cX8_shareBits 43 = .ok (.fload_n 2, 1) := by decide +kernel
theorem dX8_shareBits_44 : decode cX8_shareBits 44 = .ok (.fload_n 3, 1) := by decide +kernel
theorem dX8_shareBits_45 : decode cX8_shareBits 45 = .ok (.fdiv, 1) := by decide +kernel
theorem dX8_shareBits_46 : decode cX8_shareBits 46 = .ok (.invokestatic 165, 3) := by decide +kernel
theorem dX8_shareBits_49 : decode cX8_shareBits 49 = .ok (.ireturn, 1) := by decide +kernel
theorem dX8_undo_0 : decode cX8_undo 0 = .ok (.aload_n 0, 1) := by decide +kernel
theorem dX8_undo_1 : decode cX8_undo 1 = .ok (.getfield 25, 3) := by decide +kernel
theorem dX8_undo_4 : decode cX8_undo 4 = .ok (.ifCond .ne 6, 3) := by decide +kernel
theorem dX8_undo_7 : decode cX8_undo 7 = .ok (.bipush (-2), 2) := by decide +kernel
theorem dX8_undo_9 : decode cX8_undo 9 = .ok (.ireturn, 1) := by decide +kernel
theorem dX8_undo_10 : decode cX8_undo 10 = .ok (.aload_n 0, 1) := by decide +kernel
