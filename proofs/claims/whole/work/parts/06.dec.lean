theorem dX7_person_1 : decode cX7_person 1 = .ok (.aload_n 0, 1) := by decide +kernel
theorem dX7_person_2 : decode cX7_person 2 = .ok (.invokevirtual 58, 3) := by decide +kernel
theorem dX7_person_5 : decode cX7_person 5 = .ok (.iload_n 1, 1) := by decide +kernel
theorem dX7_person_6 : decode cX7_person 6 = .ok (.invokevirtual 74, 3) := by decide +kernel
theorem dX7_person_9 : decode cX7_person 9 = .ok (.invokevirtual 66, 3) := by decide +kernel
theorem dX7_person_12 : decode cX7_person 12 = .ok (.ireturn, 1) := by decide +kernel
set_option maxRecDepth 20000 in
theorem ggX7_volunteer_X7_onTrial : GoodIn wsX7_volunteer wsX7_onTrial := goodIn_r _ [5, 6, 7, 8, 9, 10, 11, 12, 13, 14, 15, 16, 17, 18, 19, 20, 21, 22, 23, 24, 25, 26, 72, 73, 74, 75, 76, 77, 78, 79, 80, 81, 82, 83, 84, 85, 86, 87, 88] (by decide +kernel) (by decide +kernel)
set_option maxRecDepth 20000 in
theorem gX7_volunteer_X7_onTrial : GoodIn wsX7_volunteer (wsV RX7 58 RX7 yX7_onTrial wsX7_onTrial) := goodIn_app (goodIn_of _ (by decide +kernel)) ggX7_volunteer_X7_onTrial
set_option maxRecDepth 20000 in
theorem ggX7_volunteer_X0_addVolunteer : GoodIn wsX7_volunteer wsX0_addVolunteer := goodIn_r _ [31, 32, 33, 34, 35, 36, 23, 37, 25, 38, 4, 39, 40, 41, 42, 43, 44, 45, 46, 47, 48, 49, 50, 51, 52, 53, 26, 89, 90, 91, 92, 93, 85, 86, 87, 88] (by decide +kernel) (by decide +kernel)
set_option maxRecDepth 20000 in
theorem gX7_volunteer_X0_addVolunteer : GoodIn wsX7_volunteer (wsV RX7 77 RX0 yX0_addVolunteer wsX0_addVolunteer) := goodIn_app (goodIn_of _ (by decide +kernel)) ggX7_volunteer_X0_addVolunteer
set_option maxRecDepth 20000 in
theorem ggX7_volunteer_X7_settle : GoodIn wsX7_volunteer wsX7_settle := goodIn_r _ [57, 58, 7, 6, 59, 60, 61, 62, 63, 64, 65, 66, 67, 68, 69, 70, 71, 10, 11, 12, 13, 14, 15, 16, 17, 18, 19, 20, 21, 22, 23, 24, 25, 26, 9, 72, 73, 74, 75, 76, 77, 78, 94, 95, 96, 79, 80, 81, 82, 83, 84, 85, 86, 87, 88] (by decide +kernel) (by decide +kernel)
set_option maxRecDepth 20000 in
theorem gX7_volunteer_X7_settle : GoodIn wsX7_volunteer (wsV RX7 66 RX7 yX7_settle wsX7_settle) := goodIn_app (goodIn_of _ (by decide +kernel)) ggX7_volunteer_X7_settle
theorem dX7_volunteer_0 : decode cX7_volunteer 0 = .ok (.aload_n 0, 1) := by decide +kernel
theorem dX7_volunteer_1 : decode cX7_volunteer 1 = .ok (.aload_n 0, 1) := by decide +kernel
theorem dX7_volunteer_2 : decode cX7_volunteer 2 = .ok (.invokevirtual 58, 3) := by decide +kernel
theorem dX7_volunteer_5 : decode cX7_volunteer 5 = .ok (.iload_n 1, 1) := by decide +kernel
theorem dX7_volunteer_6 : decode cX7_volunteer 6 = .ok (.iload_n 2, 1) := by decide +kernel
theorem dX7_volunteer_7 : decode cX7_volunteer 7 = .ok (.invokevirtual 77, 3) := by decide +kernel
theorem dX7_volunteer_10 : decode cX7_volunteer 10 = .ok (.invokevirtual 66, 3) := by decide +kernel
theorem dX7_volunteer_13 : decode cX7_volunteer 13 = .ok (.ireturn, 1) := by decide +kernel
set_option maxRecDepth 20000 in
theorem ggX7_reserve_X7_onTrial : GoodIn wsX7_reserve wsX7_onTrial := goodIn_r _ [5, 6, 7, 8, 9, 10, 11, 12, 13, 14, 15, 16, 17, 18, 19, 20, 21, 22, 23, 24, 25, 26, 86, 87, 88, 89, 90, 91, 92, 93, 94, 95, 96, 97, 98, 99, 100, 101, 102] (by decide +kernel) (by decide +kernel)
set_option maxRecDepth 20000 in
theorem gX7_reserve_X7_onTrial : GoodIn wsX7_reserve (wsV RX7 58 RX7 yX7_onTrial wsX7_onTrial) := goodIn_app (goodIn_of _ (by decide +kernel)) ggX7_reserve_X7_onTrial
set_option maxRecDepth 20000 in
theorem ggX7_reserve_X0_reserveMeal : GoodIn wsX7_reserve wsX0_reserveMeal := goodIn_r _ [31, 32, 33, 34, 35, 36, 37, 23, 38, 25, 39, 40, 41, 12, 42, 15, 16, 43, 44, 45, 46, 47, 26, 48, 49, 50, 51, 19, 52, 53, 54, 55, 56, 57, 58, 59, 60, 61, 62, 63, 64, 65, 66, 67, 103, 104, 105, 106, 107, 93, 94, 95, 96, 97, 98, 99, 100, 101, 102] (by decide +kernel) (by decide +kernel)
set_option maxRecDepth 20000 in
theorem gX7_reserve_X0_reserveMeal : GoodIn wsX7_reserve (wsV RX7 80 RX0 yX0_reserveMeal wsX0_reserveMeal) := goodIn_app (goodIn_of _ (by decide +kernel)) ggX7_reserve_X0_reserveMeal
set_option maxRecDepth 20000 in
theorem ggX7_reserve_X7_settle : GoodIn wsX7_reserve wsX7_settle := goodIn_r _ [71, 72, 7, 6, 73, 74, 75, 76, 77, 78, 79, 80, 81, 82, 83, 84, 85, 10, 11, 12, 13, 14, 15, 16, 17, 18, 19, 20, 21, 22, 23, 24, 25, 26, 9, 86, 87, 88, 89, 90, 91, 92, 108, 109, 110, 93, 94, 95, 96, 97, 98, 99, 100, 101, 102] (by decide +kernel) (by decide +kernel)
set_option maxRecDepth 20000 in
theorem gX7_reserve_X7_settle : GoodIn wsX7_reserve (wsV RX7 66 RX7 yX7_settle wsX7_settle) := goodIn_app (goodIn_of _ (by decide +kernel)) ggX7_reserve_X7_settle
theorem dX7_reserve_0 : decode cX7_reserve 0 = .ok (.aload_n 0, 1) := by decide +kernel
theorem dX7_reserve_1 : decode cX7_reserve 1 = .ok (.aload_n 0, 1) := by decide +kernel
theorem dX7_reserve_2 : decode cX7_reserve 2 = .ok (.invokevirtual 58, 3) := by decide +kernel
theorem dX7_reserve_5 : decode cX7_reserve 5 = .ok (.iload_n 1, 1) := by decide +kernel
theorem dX7_reserve_6 : decode cX7_reserve 6 = .ok (.iload_n 2, 1) := by decide +kernel
theorem dX7_reserve_7 : decode cX7_reserve 7 = .ok (.invokevirtual 80, 3) := by decide +kernel
theorem dX7_reserve_10 : decode cX7_reserve 10 = .ok (.invokevirtual 66, 3) := by decide +kernel
theorem dX7_reserve_13 : decode cX7_reserve 13 = .ok (.ireturn, 1) := by decide +kernel
set_option maxRecDepth 20000 in
theorem ggX7_fetch_X7_onTrial : GoodIn wsX7_fetch wsX7_onTrial := goodIn_r _ [5, 6, 7, 8, 9, 10, 11, 12, 13, 14, 15, 16, 17, 18, 19, 20, 21, 22, 23, 24, 25, 26, 82, 83, 84, 85, 86, 87, 88, 89, 90, 91, 92, 93, 94, 95, 96, 97, 98] (by decide +kernel) (by decide +kernel)
set_option maxRecDepth 20000 in
theorem gX7_fetch_X7_onTrial : GoodIn wsX7_fetch (wsV RX7 58 RX7 yX7_onTrial wsX7_onTrial) := goodIn_app (goodIn_of _ (by decide +kernel)) ggX7_fetch_X7_onTrial
set_option maxRecDepth 20000 in
theorem ggX7_fetch_X0_endReservation : GoodIn wsX7_fetch wsX0_endReservation := goodIn_r _ [31, 32, 33, 34, 35, 36, 37, 23, 38, 25, 39, 4, 40, 41, 42, 43, 30, 44, 45, 46, 47, 48, 49, 50, 51, 52, 53, 26, 54, 55, 56, 57, 58, 59, 60, 61, 62, 63, 99, 100, 101, 102, 103, 95, 96, 97, 98] (by decide +kernel) (by decide +kernel)
set_option maxRecDepth 20000 in
theorem gX7_fetch_X0_endReservation : GoodIn wsX7_fetch (wsV RX7 83 RX0 yX0_endReservation wsX0_endReservation) := goodIn_app (goodIn_of _ (by decide +kernel)) ggX7_fetch_X0_endReservation
set_option maxRecDepth 20000 in
theorem ggX7_fetch_X7_settle : GoodIn wsX7_fetch wsX7_settle := goodIn_r _ [67, 68, 7, 6, 69, 70, 71, 72, 73, 74, 75, 76, 77, 78, 79, 80, 81, 10, 11, 12, 13, 14, 15, 16, 17, 18, 19, 20, 21, 22, 23, 24, 25, 26, 9, 82, 83, 84, 85, 86, 87, 88, 104, 105, 106, 89, 90, 91, 92, 93, 94, 95, 96, 97, 98] (by decide +kernel) (by decide +kernel)
set_option maxRecDepth 20000 in
theorem gX7_fetch_X7_settle : GoodIn wsX7_fetch (wsV RX7 66 RX7 yX7_settle wsX7_settle) := goodIn_app (goodIn_of _ (by decide +kernel)) ggX7_fetch_X7_settle
theorem dX7_fetch_0 : decode cX7_fetch 0 = .ok (.aload_n 0, 1) := by decide +kernel
theorem dX7_fetch_1 : decode cX7_fetch 1 = .ok (.aload_n 0, 1) := by decide +kernel
theorem dX7_fetch_2 : decode cX7_fetch 2 = .ok (.invokevirtual 58, 3) := by decide +kernel
theorem dX7_fetch_5 : decode cX7_fetch 5 = .ok (.iload_n 1, 1) := by decide +kernel
theorem dX7_fetch_6 : decode cX7_fetch 6 = .ok (.iload_n 2, 1) := by decide +kernel
theorem dX7_fetch_7 : decode cX7_fetch 7 = .ok (.iload_n 3, 1) := by decide +kernel
theorem dX7_fetch_8 : decode cX7_fetch 8 = .ok (.invokevirtual 83, 3) := by decide +kernel
theorem dX7_fetch_11 : decode cX7_fetch 11 = .ok (.invokevirtual 66, 3) := by decide +kernel
theorem dX7_fetch_14 : decode cX7_fetch 14 = .ok (.ireturn, 1) := by decide +kernel
set_option maxRecDepth 20000 in
theorem ggX7_take_X7_onTrial : GoodIn wsX7_take wsX7_onTrial := goodIn_r _ [5, 6, 7, 8, 9, 10, 11, 12, 13, 14, 15, 16, 17, 18, 19, 20, 21, 22, 23, 24, 25, 26, 97, 98, 99, 100, 101, 102, 103, 104, 105, 106, 107, 108, 109, 110, 111, 112, 113] (by decide +kernel) (by decide +kernel)
set_option maxRecDepth 20000 in
theorem gX7_take_X7_onTrial : GoodIn wsX7_take (wsV RX7 58 RX7 yX7_onTrial wsX7_onTrial) := goodIn_app (goodIn_of _ (by decide +kernel)) ggX7_take_X7_onTrial
set_option maxRecDepth 20000 in
theorem ggX7_take_X0_takeMeal : GoodIn wsX7_take wsX0_takeMeal := goodIn_r _ [31, 32, 33, 34, 35, 36, 37, 38, 23, 39, 25, 40, 41, 42, 43, 44, 26, 45, 46, 47, 12, 48, 15, 49, 50, 51, 52, 53, 54, 55, 56, 57, 58, 59, 60, 61, 62, 63, 64, 17, 19, 65, 66, 67, 68, 69, 70, 71, 72, 73, 74, 75, 76, 77, 78, 114, 115, 116, 117, 118, 110, 111, 112, 113, 104, 105, 106, 107, 108, 109] (by decide +kernel) (by decide +kernel)
set_option maxRecDepth 20000 in
theorem gX7_take_X0_takeMeal : GoodIn wsX7_take (wsV RX7 86 RX0 yX0_takeMeal wsX0_takeMeal) := goodIn_app (goodIn_of _ (by decide +kernel)) ggX7_take_X0_takeMeal
set_option maxRecDepth 20000 in
theorem ggX7_take_X7_settle : GoodIn wsX7_take wsX7_settle := goodIn_r _ [82, 83, 7, 6, 84, 85, 86, 87, 88, 89, 90, 91, 92, 93, 94, 95, 96, 10, 11, 12, 13, 14, 15, 16, 17, 18, 19, 20, 21, 22, 23, 24, 25, 26, 9, 97, 98, 99, 100, 101, 102, 103, 119, 120, 121, 104, 105, 106, 107, 108, 109, 110, 111, 112, 113] (by decide +kernel) (by decide +kernel)
set_option maxRecDepth 20000 in
theorem gX7_take_X7_settle : GoodIn wsX7_take (wsV RX7 66 RX7 yX7_settle wsX7_settle) := goodIn_app (goodIn_of _ (by decide +kernel)) ggX7_take_X7_settle
theorem dX7_take_0 : decode cX7_take 0 = .ok (.aload_n 0, 1) := by decide +kernel
theorem dX7_take_1 : decode cX7_take 1 = .ok (.aload_n 0, 1) := by decide +kernel
theorem dX7_take_2 : decode cX7_take 2 = .ok (.invokevirtual 58, 3) := by decide +kernel
theorem dX7_take_5 : decode cX7_take 5 = .ok (.iload_n 1, 1) := by decide +kernel
theorem dX7_take_6 : decode cX7_take 6 = .ok (.iload_n 2, 1) := by decide +kernel
theorem dX7_take_7 : decode cX7_take 7 = .ok (.invokevirtual 86, 3) := by decide +kernel
theorem dX7_take_10 : decode cX7_take 10 = .ok (.invokevirtual 66, 3) := by decide +kernel
theorem dX7_take_13 : decode cX7_take 13 = .ok (.ireturn, 1) := by decide +kernel
set_option maxRecDepth 20000 in
theorem ggX7_go_X7_onTrial : GoodIn wsX7_go wsX7_onTrial := goodIn_r _ [5, 6, 7, 8, 9, 10, 11, 12, 13, 14, 15, 16, 17, 18, 19, 20, 21, 22, 23, 24, 25, 26, 86, 87, 88, 89, 90, 91, 92, 93, 94, 95, 96, 97, 98, 99, 100, 101, 102] (by decide +kernel) (by decide +kernel)
set_option maxRecDepth 20000 in
theorem gX7_go_X7_onTrial : GoodIn wsX7_go (wsV RX7 58 RX7 yX7_onTrial wsX7_onTrial) := goodIn_app (goodIn_of _ (by decide +kernel)) ggX7_go_X7_onTrial
set_option maxRecDepth 20000 in
theorem ggX7_go_X0_sendVolunteer : GoodIn wsX7_go wsX0_sendVolunteer := goodIn_r _ [31, 32, 33, 34, 35, 36, 37, 23, 38, 25, 39, 40, 41, 42, 43, 26, 44, 45, 46, 12, 47, 17, 19, 48, 49, 50, 51, 52, 53, 54, 55, 56, 57, 58, 59, 60, 61, 62, 63, 18, 64, 65, 66, 67, 103, 104, 105, 106, 107, 93, 94, 95, 96, 97, 98, 99, 100, 101, 102] (by decide +kernel) (by decide +kernel)
set_option maxRecDepth 20000 in
theorem gX7_go_X0_sendVolunteer : GoodIn wsX7_go (wsV RX7 89 RX0 yX0_sendVolunteer wsX0_sendVolunteer) := goodIn_app (goodIn_of _ (by decide +kernel)) ggX7_go_X0_sendVolunteer
set_option maxRecDepth 20000 in
theorem ggX7_go_X7_settle : GoodIn wsX7_go wsX7_settle := goodIn_r _ [71, 72, 7, 6, 73, 74, 75, 76, 77, 78, 79, 80, 81, 82, 83, 84, 85, 10, 11, 12, 13, 14, 15, 16, 17, 18, 19, 20, 21, 22, 23, 24, 25, 26, 9, 86, 87, 88, 89, 90, 91, 92, 108, 109, 110, 93, 94, 95, 96, 97, 98, 99, 100, 101, 102] (by decide +kernel) (by decide +kernel)
set_option maxRecDepth 20000 in
theorem gX7_go_X7_settle : GoodIn wsX7_go (wsV RX7 66 RX7 yX7_settle wsX7_settle) := goodIn_app (goodIn_of _ (by decide +kernel)) ggX7_go_X7_settle
theorem dX7_go_0 : decode cX7_go 0 = .ok (.aload_n 0, 1) := by decide +kernel
theorem dX7_go_1 : decode cX7_go 1 = .ok (.aload_n 0, 1) := by decide +kernel
theorem dX7_go_2 : decode cX7_go 2 = .ok (.invokevirtual 58, 3) := by decide +kernel
theorem dX7_go_5 : decode cX7_go 5 = .ok (.iload_n 1, 1) := by decide +kernel
theorem dX7_go_6 : decode cX7_go 6 = .ok (.iload_n 2, 1) := by decide +kernel
theorem dX7_go_7 : decode cX7_go 7 = .ok (.invokevirtual 89, 3) := by decide +kernel
theorem dX7_go_10 : decode cX7_go 10 = .ok (.invokevirtual 66, 3) := by decide +kernel
theorem dX7_go_13 : decode cX7_go 13 = .ok (.ireturn, 1) := by decide +kernel
set_option maxRecDepth 20000 in
theorem ggX7_put_X7_onTrial : GoodIn wsX7_put wsX7_onTrial := goodIn_r _ [5, 6, 7, 8, 9, 10, 11, 12, 13, 14, 15, 16, 17, 18, 19, 20, 21, 22, 23, 24, 25, 26, 106, 107, 108, 109, 110, 111, 112, 113, 114, 115, 116, 117, 118, 119, 120, 121, 122] (by decide +kernel) (by decide +kernel)
set_option maxRecDepth 20000 in
theorem gX7_put_X7_onTrial : GoodIn wsX7_put (wsV RX7 58 RX7 yX7_onTrial wsX7_onTrial) := goodIn_app (goodIn_of _ (by decide +kernel)) ggX7_put_X7_onTrial
set_option maxRecDepth 20000 in
theorem ggX7_put_X0_putMealsIn : GoodIn wsX7_put wsX0_putMealsIn := goodIn_r _ [31, 32, 33, 34, 35, 36, 23, 37, 25, 38, 39, 40, 12, 41, 17, 19, 42, 43, 44, 45, 46, 47, 48, 49, 50, 26, 51, 52, 53, 30, 54, 55, 56, 57, 58, 59, 60, 61, 14, 62, 63, 64, 65, 15, 66, 67, 68, 69, 70, 71, 72, 73, 74, 75, 76, 77, 78, 79, 80, 81, 82, 83, 84, 85, 86, 87, 123, 124, 125, 126, 127, 119, 120, 121, 122, 113, 114, 115, 116, 117, 118] (by decide +kernel) (by decide +kernel)
set_option maxRecDepth 20000 in
theorem gX7_put_X0_putMealsIn : GoodIn wsX7_put (wsV RX7 92 RX0 yX0_putMealsIn wsX0_putMealsIn) := goodIn_app (goodIn_of _ (by decide +kernel)) ggX7_put_X0_putMealsIn
set_option maxRecDepth 20000 in
theorem ggX7_put_X7_settle : GoodIn wsX7_put wsX7_settle := goodIn_r _ [91, 92, 7, 6, 93, 94, 95, 96, 97, 98, 99, 100, 101, 102, 103, 104, 105, 10, 11, 12, 13, 14, 15, 16, 17, 18, 19, 20, 21, 22, 23, 24, 25, 26, 9, 106, 107, 108, 109, 110, 111, 112, 128, 129, 130, 113, 114, 115, 116, 117, 118, 119, 120, 121, 122] (by decide +kernel) (by decide +kernel)
set_option maxRecDepth 20000 in
theorem gX7_put_X7_settle : GoodIn wsX7_put (wsV RX7 66 RX7 yX7_settle wsX7_settle) := goodIn_app (goodIn_of _ (by decide +kernel)) ggX7_put_X7_settle
theorem dX7_put_0 : decode cX7_put 0 = .ok (.aload_n 0, 1) := by decide +kernel
theorem dX7_put_1 : decode cX7_put 1 = .ok (.aload_n 0, 1) := by decide +kernel
theorem dX7_put_2 : decode cX7_put 2 = .ok (.invokevirtual 58, 3) := by decide +kernel
theorem dX7_put_5 : decode cX7_put 5 = .ok (.iload_n 1, 1) := by decide +kernel
theorem dX7_put_6 : decode cX7_put 6 = .ok (.invokevirtual 92, 3) := by decide +kernel
theorem dX7_put_9 : decode cX7_put 9 = .ok (.invokevirtual 66, 3) := by decide +kernel
theorem dX7_put_12 : decode cX7_put 12 = .ok (.ireturn, 1) := by decide +kernel
set_option maxRecDepth 20000 in
theorem ggX7_pass_X7_onTrial : GoodIn wsX7_pass wsX7_onTrial := goodIn_r _ [5, 6, 7, 8, 9, 10, 11, 12, 13, 14, 15, 16, 17, 18, 19, 20, 21, 22, 23, 24, 25, 26, 129, 130, 131, 132, 133, 134, 135, 136, 137, 138, 139, 140, 141, 142, 143, 144, 145] (by decide +kernel) (by decide +kernel)
set_option maxRecDepth 20000 in
theorem gX7_pass_X7_onTrial : GoodIn wsX7_pass (wsV RX7 58 RX7 yX7_onTrial wsX7_onTrial) := goodIn_app (goodIn_of _ (by decide +kernel)) ggX7_pass_X7_onTrial
set_option maxRecDepth 20000 in
theorem ggX7_pass_X0_passHours : GoodIn wsX7_pass wsX0_passHours := goodIn_r _ [31, 32, 33, 34, 4, 35, 36, 37, 38, 30, 39, 40, 41, 42, 43, 44, 45, 46, 47, 23, 48, 25, 49, 50, 51, 52, 53, 26, 54, 55, 56, 12, 57, 14, 58, 59, 60, 61, 62, 63, 64, 65, 66, 67, 68, 69, 70, 71, 72, 73, 74, 75, 76, 77, 78, 79, 80, 81, 82, 83, 84, 85, 86, 87, 88, 89, 15, 90, 91, 92, 93, 94, 95, 96, 97, 98, 99, 100, 101, 102, 103, 104, 105, 18, 106, 107, 108, 109, 110, 146, 147, 148, 149, 150, 136, 137, 138, 139, 140, 141, 142, 143, 144, 145] (by decide +kernel) (by decide +kernel)
set_option maxRecDepth 20000 in
theorem gX7_pass_X0_passHours : GoodIn wsX7_pass (wsV RX7 95 RX0 yX0_passHours wsX0_passHours) := goodIn_app (goodIn_of _ (by decide +kernel)) ggX7_pass_X0_passHours
set_option maxRecDepth 20000 in
theorem ggX7_pass_X7_settle : GoodIn wsX7_pass wsX7_settle := goodIn_r _ [114, 115, 7, 6, 116, 117, 118, 119, 120, 121, 122, 123, 124, 125, 126, 127, 128, 10, 11, 12, 13, 14, 15, 16, 17, 18, 19, 20, 21, 22, 23, 24, 25, 26, 9, 129, 130, 131, 132, 133, 134, 135, 151, 152, 153, 136, 137, 138, 139, 140, 141, 142, 143, 144, 145] (by decide +kernel) (by decide +kernel)
set_option maxRecDepth 20000 in
theorem gX7_pass_X7_settle : GoodIn wsX7_pass (wsV RX7 66 RX7 yX7_settle wsX7_settle) := goodIn_app (goodIn_of _ (by decide +kernel)) ggX7_pass_X7_settle
theorem dX7_pass_0 : decode cX7_pass 0 = .ok (.aload_n 0, 1) := by decide +kernel
theorem dX7_pass_1 : decode cX7_pass 1 = .ok (.aload_n 0, 1) := by decide +kernel
theorem dX7_pass_2 : decode cX7_pass 2 = .ok (.invokevirtual 58, 3) := by decide +kernel
theorem dX7_pass_5 : decode cX7_pass 5 = .ok (.iload_n 1, 1) := by decide +kernel
theorem dX7_pass_6 : decode cX7_pass 6 = .ok (.sipush 5000, 3) := by decide +kernel
theorem dX7_pass_9 : decode cX7_pass 9 = .ok (.invokevirtual 95, 3) := by decide +kernel
theorem dX7_pass_12 : decode cX7_pass 12 = .ok (.invokevirtual 66, 3) := by decide +kernel
theorem dX7_pass_15 : decode cX7_pass 15 = .ok (.ireturn, 1) := by decide +kernel
set_option maxRecDepth 20000 in
theorem ggX7_set_X7_onTrial : GoodIn wsX7_set wsX7_onTrial := goodIn_r _ [5, 6, 7, 8, 9, 10, 11, 12, 13, 14, 15, 16, 17, 18, 19, 20, 21, 22, 23, 24, 25, 26, 66, 67, 68, 69, 70, 71, 72, 73, 74, 75, 76, 77, 78, 79, 80, 81, 82] (by decide +kernel) (by decide +kernel)
set_option maxRecDepth 20000 in
theorem gX7_set_X7_onTrial : GoodIn wsX7_set (wsV RX7 58 RX7 yX7_onTrial wsX7_onTrial) := goodIn_app (goodIn_of _ (by decide +kernel)) ggX7_set_X7_onTrial
set_option maxRecDepth 20000 in
theorem ggX7_set_X0_changeSetting : GoodIn wsX7_set wsX0_changeSetting := goodIn_r _ [31, 32, 33, 4, 34, 35, 36, 37, 12, 38, 18, 39, 40, 41, 23, 42, 43, 26, 44, 45, 46, 47, 83, 84, 85, 86, 87, 73, 74, 75, 76, 77, 78, 79, 80, 81, 82] (by decide +kernel) (by decide +kernel)
set_option maxRecDepth 20000 in
theorem gX7_set_X0_changeSetting : GoodIn wsX7_set (wsV RX7 98 RX0 yX0_changeSetting wsX0_changeSetting) := goodIn_app (goodIn_of _ (by decide +kernel)) ggX7_set_X0_changeSetting
set_option maxRecDepth 20000 in
theorem ggX7_set_X7_settle : GoodIn wsX7_set wsX7_settle := goodIn_r _ [51, 52, 7, 6, 53, 54, 55, 56, 57, 58, 59, 60, 61, 62, 63, 64, 65, 10, 11, 12, 13, 14, 15, 16, 17, 18, 19, 20, 21, 22, 23, 24, 25, 26, 9, 66, 67, 68, 69, 70, 71, 72, 88, 89, 90, 73, 74, 75, 76, 77, 78, 79, 80, 81, 82] (by decide +kernel) (by decide +kernel)
set_option maxRecDepth 20000 in
theorem gX7_set_X7_settle : GoodIn wsX7_set (wsV RX7 66 RX7 yX7_settle wsX7_settle) := goodIn_app (goodIn_of _ (by decide +kernel)) ggX7_set_X7_settle
theorem dX7_set_0 : decode cX7_set 0 = .ok (.aload_n 0, 1) := by decide +kernel
theorem dX7_set_1 : decode cX7_set 1 = .ok (.aload_n 0, 1) := by decide +kernel
theorem dX7_set_2 : decode cX7_set 2 = .ok (.invokevirtual 58, 3) := by decide +kernel
theorem dX7_set_5 : decode cX7_set 5 = .ok (.iload_n 1, 1) := by decide +kernel
theorem dX7_set_6 : decode cX7_set 6 = .ok (.iload_n 2, 1) := by decide +kernel
theorem dX7_set_7 : decode cX7_set 7 = .ok (.invokevirtual 98, 3) := by decide +kernel
theorem dX7_set_10 : decode cX7_set 10 = .ok (.invokevirtual 66, 3) := by decide +kernel
theorem dX7_set_13 : decode cX7_set 13 = .ok (.ireturn, 1) := by decide +kernel
set_option maxRecDepth 20000 in
theorem ggX7_mealOf_X3_ofMeal : GoodIn wsX7_mealOf wsX3_ofMeal := goodIn_r _ [6, 7, 8, 9, 10, 11, 12, 13, 14, 15, 16, 17, 18, 19, 20, 21, 22, 23, 24, 5, 25, 33, 34, 35, 36, 37, 38, 39, 40, 41] (by decide +kernel) (by decide +kernel)
set_option maxRecDepth 20000 in
theorem gX7_mealOf_X3_ofMeal : GoodIn wsX7_mealOf (wsV RX7 101 RX3 yX3_ofMeal wsX3_ofMeal) := goodIn_app (goodIn_of _ (by decide +kernel)) ggX7_mealOf_X3_ofMeal
theorem dX7_mealOf_0 : decode cX7_mealOf 0 = .ok (.aload_n 0, 1) := by decide +kernel
theorem dX7_mealOf_1 : decode cX7_mealOf 1 = .ok (.getfield 31, 3) := by decide +kernel
theorem dX7_mealOf_4 : decode cX7_mealOf 4 = .ok (.iload_n 1, 1) := by decide +kernel
theorem dX7_mealOf_5 : decode cX7_mealOf 5 = .ok (.iload_n 2, 1) := by decide +kernel
theorem dX7_mealOf_6 : decode cX7_mealOf 6 = .ok (.invokevirtual 101, 3) := by decide +kernel
theorem dX7_mealOf_9 : decode cX7_mealOf 9 = .ok (.ireturn, 1) := by decide +kernel
set_option maxRecDepth 20000 in
theorem ggX7_lockerOf_X3_ofLocker : GoodIn wsX7_lockerOf wsX3_ofLocker := goodIn_r _ [6, 7, 8, 9, 10, 11, 12, 13, 14, 15, 16, 17, 18, 19, 20, 21, 22, 23, 24, 25, 26, 27, 28, 29, 30, 31, 32, 33, 34, 42, 43, 44, 45, 46, 47, 48, 49, 50, 51, 52, 53, 54, 55, 56] (by decide +kernel) (by decide +kernel)
set_option maxRecDepth 20000 in
theorem gX7_lockerOf_X3_ofLocker : GoodIn wsX7_lockerOf (wsV RX7 104 RX3 yX3_ofLocker wsX3_ofLocker) := goodIn_app (goodIn_of _ (by decide +kernel)) ggX7_lockerOf_X3_ofLocker
theorem dX7_lockerOf_0 : decode cX7_lockerOf 0 = .ok (.aload_n 0, 1) := by decide +kernel
theorem dX7_lockerOf_1 : decode cX7_lockerOf 1 = .ok (.getfield 31, 3) := by decide +kernel
theorem dX7_lockerOf_4 : decode cX7_lockerOf 4 = .ok (.iload_n 1, 1) := by decide +kernel
theorem dX7_lockerOf_5 : decode cX7_lockerOf 5 = .ok (.iload_n 2, 1) := by decide +kernel
theorem dX7_lockerOf_6 : decode cX7_lockerOf 6 = .ok (.invokevirtual 104, 3) := by decide +kernel
theorem dX7_lockerOf_9 : decode cX7_lockerOf 9 = .ok (.ireturn, 1) := by decide +kernel
set_option maxRecDepth 20000 in
theorem ggX7_personOf_X3_ofPerson : GoodIn wsX7_personOf wsX3_ofPerson := goodIn_r _ [6, 7, 8, 9, 10, 11, 12, 13, 14, 15, 16, 17, 18, 19, 20, 21, 22, 23, 24, 25, 26, 27, 28, 29, 30, 31, 32, 33, 34, 35, 36, 37, 38, 39, 40, 41, 42, 43, 44, 52, 53, 54, 55, 56, 57, 58, 59, 60, 61, 62, 63, 64, 65, 66] (by decide +kernel) (by decide +kernel)
set_option maxRecDepth 20000 in
theorem gX7_personOf_X3_ofPerson : GoodIn wsX7_personOf (wsV RX7 107 RX3 yX3_ofPerson wsX3_ofPerson) := goodIn_app (goodIn_of _ (by decide +kernel)) ggX7_personOf_X3_ofPerson
theorem dX7_personOf_0 : decode cX7_personOf 0 = .ok (.aload_n 0, 1) := by decide +kernel
theorem dX7_personOf_1 : decode cX7_personOf 1 = .ok (.getfield 31, 3) := by decide +kernel
theorem dX7_personOf_4 : decode cX7_personOf 4 = .ok (.iload_n 1, 1) := by decide +kernel
theorem dX7_personOf_5 : decode cX7_personOf 5 = .ok (.iload_n 2, 1) := by decide +kernel
theorem dX7_personOf_6 : decode cX7_personOf 6 = .ok (.invokevirtual 107, 3) := by decide +kernel
theorem dX7_personOf_9 : decode cX7_personOf 9 = .ok (.ireturn, 1) := by decide +kernel
set_option maxRecDepth 20000 in
theorem ggX7_volunteerOf_X3_ofVolunteer : GoodIn wsX7_volunteerOf wsX3_ofVolunteer := goodIn_r _ [6, 7, 8, 9, 10, 11, 12, 13, 14, 15, 16, 17, 18, 19, 20, 21, 22, 23, 24, 25, 26, 27, 28, 29, 30, 31, 32, 33, 34, 35, 36, 37, 38, 39, 40, 41, 42, 43, 44, 52, 53, 54, 55, 56, 57, 58, 59, 60, 61, 62, 63, 64, 65, 66] (by decide +kernel) (by decide +kernel)
set_option maxRecDepth 20000 in
theorem gX7_volunteerOf_X3_ofVolunteer : GoodIn wsX7_volunteerOf (wsV RX7 110 RX3 yX3_ofVolunteer wsX3_ofVolunteer) := goodIn_app (goodIn_of _ (by decide +kernel)) ggX7_volunteerOf_X3_ofVolunteer
theorem dX7_volunteerOf_0 : decode cX7_volunteerOf 0 = .ok (.aload_n 0, 1) := by decide +kernel
theorem dX7_volunteerOf_1 : decode cX7_volunteerOf 1 = .ok (.getfield 31, 3) := by decide +kernel
theorem dX7_volunteerOf_4 : decode cX7_volunteerOf 4 = .ok (.iload_n 1, 1) := by decide +kernel
theorem dX7_volunteerOf_5 : decode cX7_volunteerOf 5 = .ok (.iload_n 2, 1) := by decide +kernel
theorem dX7_volunteerOf_6 : decode cX7_volunteerOf 6 = .ok (.invokevirtual 110, 3) := by decide +kernel
theorem dX7_volunteerOf_9 : decode cX7_volunteerOf 9 = .ok (.ireturn, 1) := by decide +kernel
set_option maxRecDepth 20000 in
theorem ggX7_count_X1_size : GoodIn wsX7_count wsX1_size := goodIn_r _ [8, 9, 59, 60, 61] (by decide +kernel) (by decide +kernel)
set_option maxRecDepth 20000 in
theorem gX7_count_X1_size : GoodIn wsX7_count (wsV RX7 113 RX1 yX1_size wsX1_size) := goodIn_app (goodIn_of _ (by decide +kernel)) ggX7_count_X1_size
set_option maxRecDepth 20000 in
theorem ggX7_count_X6_length : GoodIn wsX7_count wsX6_length := goodIn_r _ [14, 15, 62, 63, 64, 65, 66, 67, 68] (by decide +kernel) (by decide +kernel)
set_option maxRecDepth 20000 in
theorem gX7_count_X6_length : GoodIn wsX7_count (wsV RX7 117 RX6 yX6_length wsX6_length) := goodIn_app (goodIn_of _ (by decide +kernel)) ggX7_count_X6_length
set_option maxRecDepth 20000 in
theorem ggX7_count_X3_total : GoodIn wsX7_count wsX3_total := goodIn_r _ [20, 21, 22, 23, 24, 25, 26, 27, 28, 29, 30, 31, 32, 33, 34, 19, 35, 36, 37, 38, 39, 40, 41, 42, 43, 44, 45, 46, 47, 48, 49, 50, 51, 69, 70, 71, 72, 73, 74, 75, 76, 77, 78, 79, 80, 81, 82, 83] (by decide +kernel) (by decide +kernel)
set_option maxRecDepth 20000 in
theorem gX7_count_X3_total : GoodIn wsX7_count (wsV RX7 120 RX3 yX3_total wsX3_total) := goodIn_app (goodIn_of _ (by decide +kernel)) ggX7_count_X3_total
theorem dX7_count_0 : decode cX7_count 0 = .ok (.iload_n 1, 1) := by decide +kernel
theorem dX7_count_1 : decode cX7_count 1 = .ok (.lookupswitch 43 #[(11, 27), (12, 35)], 27) := by decide +kernel
theorem dX7_count_28 : decode cX7_count 28 = .ok (.aload_n 0, 1) := by decide +kernel
theorem dX7_count_29 : decode cX7_count 29 = .ok (.getfield 38, 3) := by decide +kernel
theorem dX7_count_32 : decode cX7_count 32 = .ok (.invokevirtual 113, 3) := by decide +kernel
theorem dX7_count_35 : decode cX7_count 35 = .ok (.ireturn, 1) := by decide +kernel
theorem dX7_count_36 : decode cX7_count 36 = .ok (.aload_n 0, 1) := by decide +kernel
theorem dX7_count_37 : decode cX7_count 37 = .ok (.getfield 45, 3) := by decide +kernel
theorem dX7_count_40 : decode cX7_count 40 = .ok (.invokevirtual 117, 3) := by decide +kernel
theorem dX7_count_43 : decode cX7_count 43 = .ok (.ireturn, 1) := by decide +kernel
theorem dX7_count_44 : decode cX7_count 44 = .ok (.aload_n 0, 1) := by decide +kernel
theorem dX7_count_45 : decode cX7_count 45 = .ok (.getfield 31, 3) := by decide +kernel
theorem dX7_count_48 : decode cX7_count 48 = .ok (.iload_n 1, 1) := by decide +kernel
theorem dX7_count_49 : decode cX7_count 49 = .ok (.invokevirtual 120, 3) := by decide +kernel
theorem dX7_count_52 : decode cX7_count 52 = .ok (.ireturn, 1) := by decide +kernel
set_option maxRecDepth 20000 in
theorem ggX7_advice_X3_mealToTake : GoodIn wsX7_advice wsX3_mealToTake := goodIn_r _ [6, 7, 8, 9, 10, 11, 12, 13, 14, 15, 16, 17, 18, 19, 20, 21, 22, 23, 24, 25, 26, 27, 28, 29, 30, 31, 32, 33, 34, 35, 5, 36, 37, 38, 39, 40, 41, 42, 50, 51, 52, 53, 54, 55, 56, 57, 58, 59, 60, 61, 62, 63, 64] (by decide +kernel) (by decide +kernel)
set_option maxRecDepth 20000 in
theorem gX7_advice_X3_mealToTake : GoodIn wsX7_advice (wsV RX7 123 RX3 yX3_mealToTake wsX3_mealToTake) := goodIn_app (goodIn_of _ (by decide +kernel)) ggX7_advice_X3_mealToTake
theorem dX7_advice_0 : decode cX7_advice 0 = .ok (.aload_n 0, 1) := by decide +kernel
theorem dX7_advice_1 : decode cX7_advice 1 = .ok (.getfield 31, 3) := by decide +kernel
theorem dX7_advice_4 : decode cX7_advice 4 = .ok (.iload_n 1, 1) := by decide +kernel
theorem dX7_advice_5 : decode cX7_advice 5 = .ok (.invokevirtual 123, 3) := by decide +kernel
theorem dX7_advice_8 : decode cX7_advice 8 = .ok (.ireturn, 1) := by decide +kernel
set_option maxRecDepth 20000 in
theorem ggX7_wouldSpoil_X7_onTrial : GoodIn wsX7_wouldSpoil wsX7_onTrial := goodIn_r _ [8, 2, 3, 9, 10, 11, 12, 13, 14, 15, 16, 17, 18, 19, 20, 21, 22, 23, 24, 25, 26, 27, 116, 117, 118, 119, 120, 121, 122, 123, 124, 125, 126, 127, 128, 129, 130, 131, 132] (by decide +kernel) (by decide +kernel)
set_option maxRecDepth 20000 in
theorem gX7_wouldSpoil_X7_onTrial : GoodIn wsX7_wouldSpoil (wsV RX7 58 RX7 yX7_onTrial wsX7_onTrial) := goodIn_app (goodIn_of _ (by decide +kernel)) ggX7_wouldSpoil_X7_onTrial
set_option maxRecDepth 20000 in
theorem ggX7_wouldSpoil_X0_passHours : GoodIn wsX7_wouldSpoil wsX0_passHours := goodIn_r _ [32, 33, 34, 35, 7, 36, 37, 38, 39, 31, 40, 41, 42, 43, 44, 45, 46, 47, 48, 24, 49, 26, 50, 51, 52, 53, 54, 27, 55, 56, 57, 13, 58, 15, 59, 60, 61, 62, 63, 64, 65, 66, 67, 68, 69, 70, 71, 72, 73, 74, 75, 76, 77, 78, 79, 80, 81, 82, 83, 84, 85, 86, 87, 88, 89, 90, 16, 91, 92, 93, 94, 95, 96, 97, 98, 99, 100, 101, 102, 103, 104, 105, 106, 19, 107, 108, 109, 110, 111, 133, 134, 135, 136, 137, 123, 124, 125, 126, 127, 128, 129, 130, 131, 132] (by decide +kernel) (by decide +kernel)
set_option maxRecDepth 20000 in
theorem gX7_wouldSpoil_X0_passHours : GoodIn wsX7_wouldSpoil (wsV RX7 95 RX0 yX0_passHours wsX0_passHours) := goodIn_app (goodIn_of _ (by decide +kernel)) ggX7_wouldSpoil_X0_passHours
set_option maxRecDepth 20000 in
theorem ggX7_wouldSpoil_X4_mealsSpoilt : GoodIn wsX7_wouldSpoil wsX4_mealsSpoilt := goodIn_r _ [115, 16, 91, 47, 48, 24, 49, 26, 59, 51, 52, 53, 54, 27, 123, 124, 125, 126, 127, 128, 129, 130, 131, 132] (by decide +kernel) (by decide +kernel)
set_option maxRecDepth 20000 in
theorem gX7_wouldSpoil_X4_mealsSpoilt : GoodIn wsX7_wouldSpoil (wsV RX7 127 RX4 yX4_mealsSpoilt wsX4_mealsSpoilt) := goodIn_app (goodIn_of _ (by decide +kernel)) ggX7_wouldSpoil_X4_mealsSpoilt
theorem dX7_wouldSpoil_0 : decode cX7_wouldSpoil 0 = .ok (.aload_n 0, 1) := by decide +kernel
theorem dX7_wouldSpoil_1 : decode cX7_wouldSpoil 1 = .ok (.invokevirtual 58, 3) := by decide +kernel
theorem dX7_wouldSpoil_4 : decode cX7_wouldSpoil 4 = .ok (.iload_n 1, 1) := by decide +kernel
theorem dX7_wouldSpoil_5 : decode cX7_wouldSpoil 5 = .ok (.ldc 126, 2) := by decide +kernel
theorem dX7_wouldSpoil_7 : decode cX7_wouldSpoil 7 = .ok (.invokevirtual 95, 3) := by decide +kernel
theorem dX7_wouldSpoil_10 : decode cX7_wouldSpoil 10 = .ok (.istore_n 2, 1) := by decide +kernel
theorem dX7_wouldSpoil_11 : decode cX7_wouldSpoil 11 = .ok (.iload_n 2, 1) := by decide +kernel
theorem dX7_wouldSpoil_12 : decode cX7_wouldSpoil 12 = .ok (.ifCond .ge 7, 3) := by decide +kernel
theorem dX7_wouldSpoil_15 : decode cX7_wouldSpoil 15 = .ok (.iload_n 2, 1) := by decide +kernel
theorem dX7_wouldSpoil_16 : decode cX7_wouldSpoil 16 = .ok (.goto 20, 3) := by decide +kernel
theorem dX7_wouldSpoil_19 : decode cX7_wouldSpoil 19 = .ok (.aload_n 0, 1) := by decide +kernel
theorem dX7_wouldSpoil_20 : decode cX7_wouldSpoil 20 = .ok (.getfield 16, 3) := by decide +kernel
theorem dX7_wouldSpoil_23 : decode cX7_wouldSpoil 23 = .ok (.invokevirtual 127, 3) := by decide +kernel
theorem dX7_wouldSpoil_26 : decode cX7_wouldSpoil 26 = .ok (.aload_n 0, 1) := by decide +kernel
theorem dX7_wouldSpoil_27 : decode cX7_wouldSpoil 27 = .ok (.getfield 10, 3) := by decide +kernel
theorem dX7_wouldSpoil_30 : decode cX7_wouldSpoil 30 = .ok (.invokevirtual 127, 3) := by decide +kernel
theorem dX7_wouldSpoil_33 : decode cX7_wouldSpoil 33 = .ok (.iconst (-1), 1) := by decide +kernel
theorem dX7_wouldSpoil_34 : decode cX7_wouldSpoil 34 = .ok (.ixor, 1) := by decide +kernel
theorem dX7_wouldSpoil_35 : decode cX7_wouldSpoil 35 = .ok (.iand, 1) := by decide +kernel
theorem dX7_wouldSpoil_36 : decode cX7_wouldSpoil 36 = .ok (.ireturn, 1) := by decide +kernel
set_option maxRecDepth 20000 in
theorem ggX7_move_X3_ofBestMove : GoodIn wsX7_move wsX3_ofBestMove := goodIn_r _ [6, 7, 8, 9, 10, 11, 12, 13, 14, 15, 16, 17, 18, 19, 20, 5, 21, 22, 23, 24, 25, 26, 27, 28, 29, 30, 31, 32, 33, 34, 35, 36, 37, 38, 39, 40, 41, 42, 43, 44, 45, 46, 47, 48, 49, 50, 51, 52, 53, 54, 55, 56, 57, 58, 59, 60, 61, 62, 63, 64, 65, 66, 67, 68, 69, 77, 78, 79, 80, 81, 82, 83, 84, 85, 86, 87, 88, 89, 90, 91] (by decide +kernel) (by decide +kernel)
set_option maxRecDepth 20000 in
theorem gX7_move_X3_ofBestMove : GoodIn wsX7_move (wsV RX7 130 RX3 yX3_ofBestMove wsX3_ofBestMove) := goodIn_app (goodIn_of _ (by decide +kernel)) ggX7_move_X3_ofBestMove
theorem dX7_move_0 : decode cX7_move 0 = .ok (.aload_n 0, 1) := by decide +kernel
theorem dX7_move_1 : decode cX7_move 1 = .ok (.getfield 31, 3) := by decide +kernel
theorem dX7_move_4 : decode cX7_move 4 = .ok (.iload_n 1, 1) := by decide +kernel
theorem dX7_move_5 : decode cX7_move 5 = .ok (.invokevirtual 130, 3) := by decide +kernel
theorem dX7_move_8 : decode cX7_move 8 = .ok (.ireturn, 1) := by decide +kernel
set_option maxRecDepth 20000 in
theorem ggX7_shareBits_X3_bitsOfFetchedShare : GoodIn wsX7_shareBits wsX3_bitsOfFetchedShare := goodIn_r _ [6, 7, 8, 9, 5, 10, 11, 12, 13, 14, 15, 16, 17, 18, 19, 20, 21, 22, 23, 24, 25, 26, 27, 28, 29, 30, 38, 39, 40, 41, 42, 43, 44, 45, 46] (by decide +kernel) (by decide +kernel)
set_option maxRecDepth 20000 in
theorem gX7_shareBits_X3_bitsOfFetchedShare : GoodIn wsX7_shareBits (wsV RX7 133 RX3 yX3_bitsOfFetchedShare wsX3_bitsOfFetchedShare) := goodIn_app (goodIn_of _ (by decide +kernel)) ggX7_shareBits_X3_bitsOfFetchedShare
theorem dX7_shareBits_0 : decode cX7_shareBits 0 = .ok (.aload_n 0, 1) := by decide +kernel
theorem dX7_shareBits_1 : decode cX7_shareBits 1 = .ok (.getfield 31, 3) := by decide +kernel
theorem dX7_shareBits_4 : decode cX7_shareBits 4 = .ok (.invokevirtual 133, 3) := by decide +kernel
theorem dX7_shareBits_7 : decode cX7_shareBits 7 = .ok (.ireturn, 1) := by decide +kernel
set_option maxRecDepth 20000 in
theorem ggX7_undo_X1_restoreLatest : GoodIn wsX7_undo wsX1_restoreLatest := goodIn_r _ [7, 8, 9, 10, 11, 6, 12, 13, 14, 15, 16, 17, 18, 19, 20, 21, 22, 23, 24, 25, 26, 27, 28, 29, 30, 31, 32, 40, 41, 42, 43, 44, 45, 46, 47, 48, 49, 50, 51, 52] (by decide +kernel) (by decide +kernel)
set_option maxRecDepth 20000 in
theorem gX7_undo_X1_restoreLatest : GoodIn wsX7_undo (wsV RX7 136 RX1 yX1_restoreLatest wsX1_restoreLatest) := goodIn_app (goodIn_of _ (by decide +kernel)) ggX7_undo_X1_restoreLatest
theorem dX7_undo_0 : decode cX7_undo 0 = .ok (.aload_n 0, 1) := by decide +kernel
theorem dX7_undo_1 : decode cX7_undo 1 = .ok (.getfield 38, 3) := by decide +kernel
theorem dX7_undo_4 : decode cX7_undo 4 = .ok (.aload_n 0, 1) := by decide +kernel
theorem dX7_undo_5 : decode cX7_undo 5 = .ok (.getfield 10, 3) := by decide +kernel
theorem dX7_undo_8 : decode cX7_undo 8 = .ok (.invokevirtual 136, 3) := by decide +kernel
theorem dX7_undo_11 : decode cX7_undo 11 = .ok (.ireturn, 1) := by decide +kernel
set_option maxRecDepth 20000 in
theorem ggX7_type_X6_append : GoodIn wsX7_type wsX6_append := goodIn_r _ [6, 7, 8, 9, 10, 11, 19, 20, 21, 22, 23, 24, 25] (by decide +kernel) (by decide +kernel)
set_option maxRecDepth 20000 in
theorem gX7_type_X6_append : GoodIn wsX7_type (wsV RX7 140 RX6 yX6_append wsX6_append) := goodIn_app (goodIn_of _ (by decide +kernel)) ggX7_type_X6_append
theorem dX7_type_0 : decode cX7_type 0 = .ok (.aload_n 0, 1) := by decide +kernel
theorem dX7_type_1 : decode cX7_type 1 = .ok (.getfield 45, 3) := by decide +kernel
theorem dX7_type_4 : decode cX7_type 4 = .ok (.iload_n 1, 1) := by decide +kernel
theorem dX7_type_5 : decode cX7_type 5 = .ok (.invokevirtual 140, 3) := by decide +kernel
theorem dX7_type_8 : decode cX7_type 8 = .ok (.ireturn, 1) := by decide +kernel
set_option maxRecDepth 20000 in
theorem ggX7_clearText_X6_empty : GoodIn wsX7_clearText wsX6_empty := goodIn_r _ [6, 7, 15, 16, 17, 18, 19, 20, 21] (by decide +kernel) (by decide +kernel)
set_option maxRecDepth 20000 in
theorem gX7_clearText_X6_empty : GoodIn wsX7_clearText (wsV RX7 143 RX6 yX6_empty wsX6_empty) := goodIn_app (goodIn_of _ (by decide +kernel)) ggX7_clearText_X6_empty
theorem dX7_clearText_0 : decode cX7_clearText 0 = .ok (.aload_n 0, 1) := by decide +kernel
theorem dX7_clearText_1 : decode cX7_clearText 1 = .ok (.getfield 45, 3) := by decide +kernel
theorem dX7_clearText_4 : decode cX7_clearText 4 = .ok (.invokevirtual 143, 3) := by decide +kernel
theorem dX7_clearText_7 : decode cX7_clearText 7 = .ok (.ireturn, 1) := by decide +kernel
set_option maxRecDepth 20000 in
theorem ggX7_fault_X7_onTrial : GoodIn wsX7_fault wsX7_onTrial := goodIn_r _ [6, 7, 8, 9, 10, 11, 12, 13, 14, 15, 16, 17, 18, 19, 20, 21, 22, 23, 24, 25, 26, 27, 220, 221, 222, 223, 224, 225, 226, 227, 228, 229, 230, 231, 232, 233, 234, 235, 236] (by decide +kernel) (by decide +kernel)
set_option maxRecDepth 20000 in
theorem gX7_fault_X7_onTrial : GoodIn wsX7_fault (wsV RX7 58 RX7 yX7_onTrial wsX7_onTrial) := goodIn_app (goodIn_of _ (by decide +kernel)) ggX7_fault_X7_onTrial
set_option maxRecDepth 20000 in
theorem ggX7_fault_X2_playText : GoodIn wsX7_fault wsX2_playText := goodIn_r _ [32, 33, 34, 35, 36, 37, 38, 39, 40, 41, 42, 43, 44, 45, 46, 47, 48, 49, 50, 51, 52, 53, 54, 55, 56, 57, 58, 59, 60, 61, 62, 63, 5, 64, 65, 66, 67, 68, 69, 70, 71, 31, 72, 73, 74, 75, 76, 77, 78, 79, 80, 81, 82, 83, 24, 84, 26, 85, 86, 87, 13, 88, 16, 17, 89, 90, 91, 92, 93, 27, 94, 95, 96, 97, 20, 98, 99, 100, 101, 102, 103, 104, 105, 106, 107, 108, 109, 110, 111, 112, 113, 114, 115, 116, 117, 118, 119, 120, 121, 122, 123, 124, 125, 126, 127, 128, 129, 130, 131, 132, 133, 134, 135, 136, 137, 138, 139, 140, 141, 142, 143, 144, 145, 146, 147, 148, 149, 150, 18, 151, 152, 153, 154, 155, 156, 157, 158, 159, 160, 161, 162, 163, 164, 165, 19, 166, 167, 168, 169, 170, 171, 172, 173, 174, 175, 176, 177, 15, 178, 179, 180, 181, 182, 183, 184, 185, 186, 187, 188, 189, 190, 191, 192, 193, 194, 195, 196, 197, 198, 199, 200, 201, 202, 203, 204, 205, 206, 207, 208, 209, 210, 211, 212, 213, 214, 215, 237, 238, 239, 240, 241, 242, 243, 244, 245, 246, 247, 248, 249, 250, 251, 227, 228, 229, 230, 231, 232, 233, 234, 235, 236] (by decide +kernel) (by decide +kernel)
set_option maxRecDepth 20000 in
theorem gX7_fault_X2_playText : GoodIn wsX7_fault (wsV RX7 146 RX2 yX2_playText wsX2_playText) := goodIn_app (goodIn_of _ (by decide +kernel)) ggX7_fault_X2_playText
set_option maxRecDepth 20000 in
theorem ggX7_fault_X2_ofFault : GoodIn wsX7_fault wsX2_ofFault := goodIn_r _ [219, 34, 33, 63, 5, 64, 237, 238, 239] (by decide +kernel) (by decide +kernel)
set_option maxRecDepth 20000 in
theorem gX7_fault_X2_ofFault : GoodIn wsX7_fault (wsV RX7 150 RX2 yX2_ofFault wsX2_ofFault) := goodIn_app (goodIn_of _ (by decide +kernel)) ggX7_fault_X2_ofFault
theorem dX7_fault_0 : decode cX7_fault 0 = .ok (.aload_n 0, 1) := by decide +kernel
theorem dX7_fault_1 : decode cX7_fault 1 = .ok (.getfield 54, 3) := by decide +kernel
theorem dX7_fault_4 : decode cX7_fault 4 = .ok (.aload_n 0, 1) := by decide +kernel
theorem dX7_fault_5 : decode cX7_fault 5 = .ok (.invokevirtual 58, 3) := by decide +kernel
theorem dX7_fault_8 : decode cX7_fault 8 = .ok (.invokevirtual 146, 3) := by decide +kernel
theorem dX7_fault_11 : decode cX7_fault 11 = .ok (.pop, 1) := by decide +kernel
theorem dX7_fault_12 : decode cX7_fault 12 = .ok (.aload_n 0, 1) := by decide +kernel
theorem dX7_fault_13 : decode cX7_fault 13 = .ok (.getfield 54, 3) := by decide +kernel
theorem dX7_fault_16 : decode cX7_fault 16 = .ok (.iload_n 1, 1) := by decide +kernel
theorem dX7_fault_17 : decode cX7_fault 17 = .ok (.invokevirtual 150, 3) := by decide +kernel
theorem dX7_fault_20 : decode cX7_fault 20 = .ok (.ireturn, 1) := by decide +kernel
set_option maxRecDepth 20000 in
theorem ggX7_play_X7_onTrial : GoodIn wsX7_play wsX7_onTrial := goodIn_r _ [6, 7, 8, 9, 10, 11, 12, 13, 14, 15, 16, 17, 18, 19, 20, 21, 22, 23, 24, 25, 26, 27, 234, 235, 236, 237, 238, 239, 240, 241, 242, 243, 244, 245, 246, 247, 248, 249, 250] (by decide +kernel) (by decide +kernel)
set_option maxRecDepth 20000 in
theorem gX7_play_X7_onTrial : GoodIn wsX7_play (wsV RX7 58 RX7 yX7_onTrial wsX7_onTrial) := goodIn_app (goodIn_of _ (by decide +kernel)) ggX7_play_X7_onTrial
set_option maxRecDepth 20000 in
theorem ggX7_play_X2_playText : GoodIn wsX7_play wsX2_playText := goodIn_r _ [32, 33, 34, 35, 36, 37, 38, 39, 40, 41, 42, 43, 44, 45, 46, 47, 48, 49, 50, 51, 52, 53, 54, 55, 56, 57, 58, 59, 60, 61, 62, 63, 5, 64, 65, 66, 67, 68, 69, 70, 71, 31, 72, 73, 74, 75, 76, 77, 78, 79, 80, 81, 82, 83, 24, 84, 26, 85, 86, 87, 13, 88, 16, 17, 89, 90, 91, 92, 93, 27, 94, 95, 96, 97, 20, 98, 99, 100, 101, 102, 103, 104, 105, 106, 107, 108, 109, 110, 111, 112, 113, 114, 115, 116, 117, 118, 119, 120, 121, 122, 123, 124, 125, 126, 127, 128, 129, 130, 131, 132, 133, 134, 135, 136, 137, 138, 139, 140, 141, 142, 143, 144, 145, 146, 147, 148, 149, 150, 18, 151, 152, 153, 154, 155, 156, 157, 158, 159, 160, 161, 162, 163, 164, 165, 19, 166, 167, 168, 169, 170, 171, 172, 173, 174, 175, 176, 177, 15, 178, 179, 180, 181, 182, 183, 184, 185, 186, 187, 188, 189, 190, 191, 192, 193, 194, 195, 196, 197, 198, 199, 200, 201, 202, 203, 204, 205, 206, 207, 208, 209, 210, 211, 212, 213, 214, 215, 251, 252, 253, 254, 255, 256, 257, 258, 259, 260, 261, 262, 263, 264, 265, 241, 242, 243, 244, 245, 246, 247, 248, 249, 250] (by decide +kernel) (by decide +kernel)
set_option maxRecDepth 20000 in
theorem gX7_play_X2_playText : GoodIn wsX7_play (wsV RX7 146 RX2 yX2_playText wsX2_playText) := goodIn_app (goodIn_of _ (by decide +kernel)) ggX7_play_X2_playText
set_option maxRecDepth 20000 in
theorem ggX7_play_X7_settle : GoodIn wsX7_play wsX7_settle := goodIn_r _ [219, 220, 8, 7, 221, 222, 223, 224, 225, 226, 227, 228, 229, 230, 231, 232, 233, 11, 12, 13, 14, 15, 16, 17, 18, 19, 20, 21, 22, 23, 24, 25, 26, 27, 10, 234, 235, 236, 237, 238, 239, 240, 266, 267, 268, 241, 242, 243, 244, 245, 246, 247, 248, 249, 250] (by decide +kernel) (by decide +kernel)
set_option maxRecDepth 20000 in
theorem gX7_play_X7_settle : GoodIn wsX7_play (wsV RX7 66 RX7 yX7_settle wsX7_settle) := goodIn_app (goodIn_of _ (by decide +kernel)) ggX7_play_X7_settle
theorem dX7_play_0 : decode cX7_play 0 = .ok (.aload_n 0, 1) := by decide +kernel
theorem dX7_play_1 : decode cX7_play 1 = .ok (.aload_n 0, 1) := by decide +kernel
theorem dX7_play_2 : decode cX7_play 2 = .ok (.getfield 54, 3) := by decide +kernel
theorem dX7_play_5 : decode cX7_play 5 = .ok (.aload_n 0, 1) := by decide +kernel
theorem dX7_play_6 : decode cX7_play 6 = .ok (.invokevirtual 58, 3) := by decide +kernel
theorem dX7_play_9 : decode cX7_play 9 = .ok (.invokevirtual 146, 3) := by decide +kernel
theorem dX7_play_12 : decode cX7_play 12 = .ok (.invokevirtual 66, 3) := by decide +kernel
theorem dX7_play_15 : decode cX7_play 15 = .ok (.ireturn, 1) := by decide +kernel
set_option maxRecDepth 20000 in
theorem ggX7_onTrial_X4_copyFrom : GoodIn wsX7_onTrial wsX4_copyFrom := goodIn_r _ [8, 9, 10, 11, 12, 13, 14, 15, 16, 17, 18, 19, 20, 21, 29, 30, 31, 32, 33, 34, 35, 36, 37, 38] (by decide +kernel) (by decide +kernel)
set_option maxRecDepth 20000 in
theorem gX7_onTrial_X4_copyFrom : GoodIn wsX7_onTrial (wsV RX7 153 RX4 yX4_copyFrom wsX4_copyFrom) := goodIn_app (goodIn_of _ (by decide +kernel)) ggX7_onTrial_X4_copyFrom
theorem dX7_onTrial_0 : decode cX7_onTrial 0 = .ok (.aload_n 0, 1) := by decide +kernel
theorem dX7_onTrial_1 : decode cX7_onTrial 1 = .ok (.getfield 16, 3) := by decide +kernel
theorem dX7_onTrial_4 : decode cX7_onTrial 4 = .ok (.aload_n 0, 1) := by decide +kernel
theorem dX7_onTrial_5 : decode cX7_onTrial 5 = .ok (.getfield 10, 3) := by decide +kernel
theorem dX7_onTrial_8 : decode cX7_onTrial 8 = .ok (.invokevirtual 153, 3) := by decide +kernel
theorem dX7_onTrial_11 : decode cX7_onTrial 11 = .ok (.aload_n 0, 1) := by decide +kernel
theorem dX7_onTrial_12 : decode cX7_onTrial 12 = .ok (.getfield 24, 3) := by decide +kernel
theorem dX7_onTrial_15 : decode cX7_onTrial 15 = .ok (.areturn, 1) := by decide +kernel
set_option maxRecDepth 20000 in
theorem ggX7_settle_X1_keep : GoodIn wsX7_settle wsX1_keep := goodIn_r _ [8, 9, 10, 11, 12, 13, 7, 14, 15, 16, 17, 18, 19, 20, 21, 22, 23, 24, 25, 26, 27, 28, 29, 30, 31, 32, 33, 42, 43, 44, 45, 46, 47, 48, 49, 50, 51, 52, 53, 54] (by decide +kernel) (by decide +kernel)
set_option maxRecDepth 20000 in
theorem gX7_settle_X1_keep : GoodIn wsX7_settle (wsV RX7 156 RX1 yX1_keep wsX1_keep) := goodIn_app (goodIn_of _ (by decide +kernel)) ggX7_settle_X1_keep
set_option maxRecDepth 20000 in
theorem ggX7_settle_X4_copyFrom : GoodIn wsX7_settle wsX4_copyFrom := goodIn_r _ [20, 21, 22, 23, 24, 25, 26, 27, 28, 29, 30, 31, 32, 33, 45, 46, 47, 48, 49, 50, 51, 52, 53, 54] (by decide +kernel) (by decide +kernel)
set_option maxRecDepth 20000 in
theorem gX7_settle_X4_copyFrom : GoodIn wsX7_settle (wsV RX7 153 RX4 yX4_copyFrom wsX4_copyFrom) := goodIn_app (goodIn_of _ (by decide +kernel)) ggX7_settle_X4_copyFrom
theorem dX7_settle_0 : decode cX7_settle 0 = .ok (.iload_n 1, 1) := by decide +kernel
theorem dX7_settle_1 : decode cX7_settle 1 = .ok (.ifCond .lt 25, 3) := by decide +kernel
theorem dX7_settle_4 : decode cX7_settle 4 = .ok (.aload_n 0, 1) := by decide +kernel
theorem dX7_settle_5 : decode cX7_settle 5 = .ok (.getfield 38, 3) := by decide +kernel
theorem dX7_settle_8 : decode cX7_settle 8 = .ok (.aload_n 0, 1) := by decide +kernel
theorem dX7_settle_9 : decode cX7_settle 9 = .ok (.getfield 10, 3) := by decide +kernel
theorem dX7_settle_12 : decode cX7_settle 12 = .ok (.invokevirtual 156, 3) := by decide +kernel
theorem dX7_settle_15 : decode cX7_settle 15 = .ok (.aload_n 0, 1) := by decide +kernel
theorem dX7_settle_16 : decode cX7_settle 16 = .ok (.getfield 10, 3) := by decide +kernel
theorem dX7_settle_19 : decode cX7_settle 19 = .ok (.aload_n 0, 1) := by decide +kernel
theorem dX7_settle_20 : decode cX7_settle 20 = .ok (.getfield 16, 3) := by decide +kernel
theorem dX7_settle_23 : decode cX7_settle 23 = .ok (.invokevirtual 153, 3) := by decide +kernel
theorem dX7_settle_26 : decode cX7_settle 26 = .ok (.iload_n 1, 1) := by decide +kernel
theorem dX7_settle_27 : decode cX7_settle 27 = .ok (.ireturn, 1) := by decide +kernel
theorem dX7_isWithin_0 : decode cX7_isWithin 0 = .ok (.iload_n 0, 1) := by decide +kernel
theorem dX7_isWithin_1 : decode cX7_isWithin 1 = .ok (.iload_n 1, 1) := by decide +kernel
theorem dX7_isWithin_2 : decode cX7_isWithin 2 = .ok (.if_icmp .lt 12, 3) := by decide +kernel
theorem dX7_isWithin_5 : decode cX7_isWithin 5 = .ok (.iload_n 0, 1) := by decide +kernel
theorem dX7_isWithin_6 : decode cX7_isWithin 6 = .ok (.iload_n 2, 1) := by decide +kernel
theorem dX7_isWithin_7 : decode cX7_isWithin 7 = .ok (.if_icmp .gt 7, 3) := by decide +kernel
theorem dX7_isWithin_10 : decode cX7_isWithin 10 = .ok (.iconst 1, 1) := by decide +kernel
theorem dX7_isWithin_11 : decode cX7_isWithin 11 = .ok (.goto 4, 3) := by decide +kernel
theorem dX7_isWithin_14 : decode cX7_isWithin 14 = .ok (.iconst 0, 1) := by decide +kernel
theorem dX7_isWithin_15 : decode cX7_isWithin 15 = .ok (.ireturn, 1) := by decide +kernel
theorem dX8_init_0 : decode cX8_init 0 = .ok (.aload_n 0, 1) := by decide +kernel
theorem dX8_init_1 : decode cX8_init 1 = .ok (.invokespecial 1, 3) := by decide +kernel
theorem dX8_init_4 : decode cX8_init 4 = .ok (.aload_n 0, 1) := by decide +kernel
theorem dX8_init_5 : decode cX8_init 5 = .ok (.sipush 299, 3) := by decide +kernel
theorem dX8_init_8 : decode cX8_init 8 = .ok (.newarray .int, 2) := by decide +kernel
theorem dX8_init_10 : decode cX8_init 10 = .ok (.putfield 7, 3) := by decide +kernel
theorem dX8_init_13 : decode cX8_init 13 = .ok (.aload_n 0, 1) := by decide +kernel
theorem dX8_init_14 : decode cX8_init 14 = .ok (.sipush 299, 3) := by decide +kernel
theorem dX8_init_17 : decode cX8_init 17 = .ok (.newarray .int, 2) := by decide +kernel
theorem dX8_init_19 : decode cX8_init 19 = .ok (.putfield 13, 3) := by decide +kernel
theorem dX8_init_22 : decode cX8_init 22 = .ok (.aload_n 0, 1) := by decide +kernel
theorem dX8_init_23 : decode cX8_init 23 = .ok (.sipush 1196, 3) := by decide +kernel
theorem dX8_init_26 : decode cX8_init 26 = .ok (.newarray .int, 2) := by decide +kernel
theorem dX8_init_28 : decode cX8_init 28 = .ok (.putfield 16, 3) := by decide +kernel
theorem dX8_init_31 : decode cX8_init 31 = .ok (.aload_n 0, 1) := by decide +kernel
theorem dX8_init_32 : decode cX8_init 32 = .ok (.bipush 60, 2) := by decide +kernel
theorem dX8_init_34 : decode cX8_init 34 = .ok (.newarray .int, 2) := by decide +kernel
theorem dX8_init_36 : decode cX8_init 36 = .ok (.putfield 19, 3) := by decide +kernel
theorem dX8_init_39 : decode cX8_init 39 = .ok (.aload_n 0, 1) := by decide +kernel
theorem dX8_init_40 : decode cX8_init 40 = .ok (.getfield 7, 3) := by decide +kernel
theorem dX8_init_43 : decode cX8_init 43 = .ok (.iconst 5, 1) := by decide +kernel
theorem dX8_init_44 : decode cX8_init 44 = .ok (.iconst 4, 1) := by decide +kernel
theorem dX8_init_45 : decode cX8_init 45 = .ok (.iastore, 1) := by decide +kernel
theorem dX8_init_46 : decode cX8_init 46 = .ok (.aload_n 0, 1) := by decide +kernel
theorem dX8_init_47 : decode cX8_init 47 = .ok (.getfield 7, 3) := by decide +kernel
theorem dX8_init_50 : decode cX8_init 50 = .ok (.bipush 6, 2) := by decide +kernel
theorem dX8_init_52 : decode cX8_init 52 = .ok (.iconst 3, 1) := by decide +kernel
theorem dX8_init_53 : decode cX8_init 53 = .ok (.iastore, 1) := by decide +kernel
theorem dX8_init_54 : decode cX8_init 54 = .ok (.aload_n 0, 1) := by decide +kernel
theorem dX8_init_55 : decode cX8_init 55 = .ok (.getfield 7, 3) := by decide +kernel
theorem dX8_init_58 : decode cX8_init 58 = .ok (.bipush 7, 2) := by decide +kernel
theorem dX8_init_60 : decode cX8_init 60 = .ok (.bipush 24, 2) := by decide +kernel
theorem dX8_init_62 : decode cX8_init 62 = .ok (.iastore, 1) := by decide +kernel
theorem dX8_init_63 : decode cX8_init 63 = .ok (.aload_n 0, 1) := by decide +kernel
theorem dX8_init_64 : decode cX8_init 64 = .ok (.getfield 7, 3) := by decide +kernel
theorem dX8_init_67 : decode cX8_init 67 = .ok (.bipush 8, 2) := by decide +kernel
theorem dX8_init_69 : decode cX8_init 69 = .ok (.iconst 1, 1) := by decide +kernel
theorem dX8_init_70 : decode cX8_init 70 = .ok (.iastore, 1) := by decide +kernel
theorem dX8_init_71 : decode cX8_init 71 = .ok (.return_, 1) := by decide +kernel
theorem dX8_in_0 : decode cX8_in 0 = .ok (.iload_n 0, 1) := by decide +kernel
theorem dX8_in_1 : decode cX8_in 1 = .ok (.iload_n 1, 1) := by decide +kernel
theorem dX8_in_2 : decode cX8_in 2 = .ok (.if_icmp .lt 12, 3) := by decide +kernel
theorem dX8_in_5 : decode cX8_in 5 = .ok (.iload_n 0, 1) := by decide +kernel
theorem dX8_in_6 : decode cX8_in 6 = .ok (.iload_n 2, 1) := by decide +kernel
theorem dX8_in_7 : decode cX8_in 7 = .ok (.if_icmp .gt 7, 3) := by decide +kernel
theorem dX8_in_10 : decode cX8_in 10 = .ok (.iconst 1, 1) := by decide +kernel
theorem dX8_in_11 : decode cX8_in 11 = .ok (.goto 4, 3) := by decide +kernel
theorem dX8_in_14 : decode cX8_in 14 = .ok (.iconst 0, 1) := by decide +kernel
theorem dX8_in_15 : decode cX8_in 15 = .ok (.ireturn, 1) := by decide +kernel
theorem dX8_begins_0 : decode cX8_begins 0 = .ok (.iconst 0, 1) := by decide +kernel
theorem dX8_begins_1 : decode cX8_begins 1 = .ok (.istore_n 1, 1) := by decide +kernel
theorem dX8_begins_2 : decode cX8_begins 2 = .ok (.iload_n 1, 1) := by decide +kernel
theorem dX8_begins_3 : decode cX8_begins 3 = .ok (.sipush 299, 3) := by decide +kernel
theorem dX8_begins_6 : decode cX8_begins 6 = .ok (.if_icmp .ge 21, 3) := by decide +kernel
theorem dX8_begins_9 : decode cX8_begins 9 = .ok (.aload_n 0, 1) := by decide +kernel
theorem dX8_begins_10 : decode cX8_begins 10 = .ok (.getfield 13, 3) := by decide +kernel
theorem dX8_begins_13 : decode cX8_begins 13 = .ok (.iload_n 1, 1) := by decide +kernel
theorem dX8_begins_14 : decode cX8_begins 14 = .ok (.aload_n 0, 1) := by decide +kernel
theorem dX8_begins_15 : decode cX8_begins 15 = .ok (.getfield 7, 3) := by decide +kernel
theorem dX8_begins_18 : decode cX8_begins 18 = .ok (.iload_n 1, 1) := by decide +kernel
theorem dX8_begins_19 : decode cX8_begins 19 = .ok (.iaload, 1) := by decide +kernel
theorem dX8_begins_20 : decode cX8_begins 20 = .ok (.iastore, 1) := by decide +kernel
theorem dX8_begins_21 : decode cX8_begins 21 = .ok (.iinc 1 1, 3) := by decide +kernel
theorem dX8_begins_24 : decode cX8_begins 24 = .ok (.goto (-22), 3) := by decide +kernel
theorem dX8_begins_27 : decode cX8_begins 27 = .ok (.return_, 1) := by decide +kernel
theorem dX8_returns_0 : decode cX8_returns 0 = .ok (.iconst 0, 1) := by decide +kernel
theorem dX8_returns_1 : decode cX8_returns 1 = .ok (.istore_n 1, 1) := by decide +kernel
theorem dX8_returns_2 : decode cX8_returns 2 = .ok (.iload_n 1, 1) := by decide +kernel
theorem dX8_returns_3 : decode cX8_returns 3 = .ok (.sipush 299, 3) := by decide +kernel
theorem dX8_returns_6 : decode cX8_returns 6 = .ok (.if_icmp .ge 21, 3) := by decide +kernel
theorem dX8_returns_9 : decode cX8_returns 9 = .ok (.aload_n 0, 1) := by decide +kernel
theorem dX8_returns_10 : decode cX8_returns 10 = .ok (.getfield 7, 3) := by decide +kernel
theorem dX8_returns_13 : decode cX8_returns 13 = .ok (.iload_n 1, 1) := by decide +kernel
theorem dX8_returns_14 : decode cX8_returns 14 = .ok (.aload_n 0, 1) := by decide +kernel
theorem dX8_returns_15 : decode cX8_returns 15 = .ok (.getfield 13, 3) := by decide +kernel
theorem dX8_returns_18 : decode cX8_returns 18 = .ok (.iload_n 1, 1) := by decide +kernel
theorem dX8_returns_19 : decode cX8_returns 19 = .ok (.iaload, 1) := by decide +kernel
theorem dX8_returns_20 : decode cX8_returns 20 = .ok (.iastore, 1) := by decide +kernel
theorem dX8_returns_21 : decode cX8_returns 21 = .ok (.iinc 1 1, 3) := by decide +kernel
theorem dX8_returns_24 : decode cX8_returns 24 = .ok (.goto (-22), 3) := by decide +kernel
theorem dX8_returns_27 : decode cX8_returns 27 = .ok (.return_, 1) := by decide +kernel
set_option maxRecDepth 20000 in
theorem ggX8_acted_X8_returns : GoodIn wsX8_acted wsX8_returns := goodIn_r _ [8, 9, 3, 10, 11, 12, 13, 14, 15, 16, 17, 18, 19] (by decide +kernel) (by decide +kernel)
set_option maxRecDepth 20000 in
theorem gX8_acted_X8_returns : GoodIn wsX8_acted (wsV RX8 22 RX8 yX8_returns wsX8_returns) := goodIn_app (goodIn_of _ (by decide +kernel)) ggX8_acted_X8_returns
theorem dX8_acted_0 : decode cX8_acted 0 = .ok (.iload_n 1, 1) := by decide +kernel
theorem dX8_acted_1 : decode cX8_acted 1 = .ok (.ifCond .ge 9, 3) := by decide +kernel
theorem dX8_acted_4 : decode cX8_acted 4 = .ok (.aload_n 0, 1) := by decide +kernel
theorem dX8_acted_5 : decode cX8_acted 5 = .ok (.invokevirtual 22, 3) := by decide +kernel
theorem dX8_acted_8 : decode cX8_acted 8 = .ok (.iload_n 1, 1) := by decide +kernel
theorem dX8_acted_9 : decode cX8_acted 9 = .ok (.ireturn, 1) := by decide +kernel
theorem dX8_acted_10 : decode cX8_acted 10 = .ok (.aload_n 0, 1) := by decide +kernel
theorem dX8_acted_11 : decode cX8_acted 11 = .ok (.getfield 25, 3) := by decide +kernel
theorem dX8_acted_14 : decode cX8_acted 14 = .ok (.iconst 4, 1) := by decide +kernel
theorem dX8_acted_15 : decode cX8_acted 15 = .ok (.if_icmp .ne 44, 3) := by decide +kernel
theorem dX8_acted_18 : decode cX8_acted 18 = .ok (.iconst 0, 1) := by decide +kernel
theorem dX8_acted_19 : decode cX8_acted 19 = .ok (.istore_n 2, 1) := by decide +kernel
theorem dX8_acted_20 : decode cX8_acted 20 = .ok (.iload_n 2, 1) := by decide +kernel
theorem dX8_acted_21 : decode cX8_acted 21 = .ok (.sipush 897, 3) := by decide +kernel
theorem dX8_acted_24 : decode cX8_acted 24 = .ok (.if_icmp .ge 25, 3) := by decide +kernel
theorem dX8_acted_27 : decode cX8_acted 27 = .ok (.aload_n 0, 1) := by decide +kernel
theorem dX8_acted_28 : decode cX8_acted 28 = .ok (.getfield 16, 3) := by decide +kernel
theorem dX8_acted_31 : decode cX8_acted 31 = .ok (.iload_n 2, 1) := by decide +kernel
theorem dX8_acted_32 : decode cX8_acted 32 = .ok (.aload_n 0, 1) := by decide +kernel
theorem dX8_acted_33 : decode cX8_acted 33 = .ok (.getfield 16, 3) := by decide +kernel
theorem dX8_acted_36 : decode cX8_acted 36 = .ok (.iload_n 2, 1) := by decide +kernel
theorem dX8_acted_37 : decode cX8_acted 37 = .ok (.sipush 299, 3) := by decide +kernel
theorem dX8_acted_40 : decode cX8_acted 40 = .ok (.iadd, 1) := by decide +kernel
theorem dX8_acted_41 : decode cX8_acted 41 = .ok (.iaload, 1) := by decide +kernel
theorem dX8_acted_42 : decode cX8_acted 42 = .ok (.iastore, 1) := by decide +kernel
theorem dX8_acted_43 : decode cX8_acted 43 = .ok (.iinc 2 1, 3) := by decide +kernel
theorem dX8_acted_46 : decode cX8_acted 46 = .ok (.goto (-26), 3) := by decide +kernel
theorem dX8_acted_49 : decode cX8_acted 49 = .ok (.aload_n 0, 1) := by decide +kernel
theorem dX8_acted_50 : decode cX8_acted 50 = .ok (.dup, 1) := by decide +kernel
theorem dX8_acted_51 : decode cX8_acted 51 = .ok (.getfield 25, 3) := by decide +kernel
theorem dX8_acted_54 : decode cX8_acted 54 = .ok (.iconst 1, 1) := by decide +kernel
theorem dX8_acted_55 : decode cX8_acted 55 = .ok (.isub, 1) := by decide +kernel
theorem dX8_acted_56 : decode cX8_acted 56 = .ok (.putfield 25, 3) := by decide +kernel
theorem dX8_acted_59 : decode cX8_acted 59 = .ok (.iconst 0, 1) := by decide +kernel
theorem dX8_acted_60 : decode cX8_acted 60 = .ok (.istore_n 2, 1) := by decide +kernel
theorem dX8_acted_61 : decode cX8_acted 61 = .ok (.iload_n 2, 1) := by decide +kernel
theorem dX8_acted_62 : decode cX8_acted 62 = .ok (.sipush 299, 3) := by decide +kernel
theorem dX8_acted_65 : decode cX8_acted 65 = .ok (.if_icmp .ge 30, 3) := by decide +kernel
theorem dX8_acted_68 : decode cX8_acted 68 = .ok (.aload_n 0, 1) := by decide +kernel
theorem dX8_acted_69 : decode cX8_acted 69 = .ok (.getfield 16, 3) := by decide +kernel
theorem dX8_acted_72 : decode cX8_acted 72 = .ok (.sipush 299, 3) := by decide +kernel
theorem dX8_acted_75 : decode cX8_acted 75 = .ok (.aload_n 0, 1) := by decide +kernel
theorem dX8_acted_76 : decode cX8_acted 76 = .ok (.getfield 25, 3) := by decide +kernel
theorem dX8_acted_79 : decode cX8_acted 79 = .ok (.imul, 1) := by decide +kernel
theorem dX8_acted_80 : decode cX8_acted 80 = .ok (.iload_n 2, 1) := by decide +kernel
theorem dX8_acted_81 : decode cX8_acted 81 = .ok (.iadd, 1) := by decide +kernel
theorem dX8_acted_82 : decode cX8_acted 82 = .ok (.aload_n 0, 1) := by decide +kernel
theorem dX8_acted_83 : decode cX8_acted 83 = .ok (.getfield 13, 3) := by decide +kernel
theorem dX8_acted_86 : decode cX8_acted 86 = .ok (.iload_n 2, 1) := by decide +kernel
theorem dX8_acted_87 : decode cX8_acted 87 = .ok (.iaload, 1) := by decide +kernel
theorem dX8_acted_88 : decode cX8_acted 88 = .ok (.iastore, 1) := by decide +kernel
theorem dX8_acted_89 : decode cX8_acted 89 = .ok (.iinc 2 1, 3) := by decide +kernel
theorem dX8_acted_92 : decode cX8_acted 92 = .ok (.goto (-31), 3) := by decide +kernel
theorem dX8_acted_95 : decode cX8_acted 95 = .ok (.aload_n 0, 1) := by decide +kernel
theorem dX8_acted_96 : decode cX8_acted 96 = .ok (.dup, 1) := by decide +kernel
theorem dX8_acted_97 : decode cX8_acted 97 = .ok (.getfield 25, 3) := by decide +kernel
theorem dX8_acted_100 : decode cX8_acted 100 = .ok (.iconst 1, 1) := by decide +kernel
theorem dX8_acted_101 : decode cX8_acted 101 = .ok (.iadd, 1) := by decide +kernel
theorem dX8_acted_102 : decode cX8_acted 102 = .ok (.putfield 25, 3) := by decide +kernel
theorem dX8_acted_105 : decode cX8_acted 105 = .ok (.iload_n 1, 1) := by decide +kernel
theorem dX8_acted_106 : decode cX8_acted 106 = .ok (.ireturn, 1) := by decide +kernel
theorem dX8_ofLocker_0 : decode cX8_ofLocker 0 = .ok (.aload_n 0, 1) := by decide +kernel
theorem dX8_ofLocker_1 : decode cX8_ofLocker 1 = .ok (.getfield 7, 3) := by decide +kernel
theorem dX8_ofLocker_4 : decode cX8_ofLocker 4 = .ok (.bipush 12, 2) := by decide +kernel
theorem dX8_ofLocker_6 : decode cX8_ofLocker 6 = .ok (.bipush 8, 2) := by decide +kernel
theorem dX8_ofLocker_8 : decode cX8_ofLocker 8 = .ok (.iload_n 1, 1) := by decide +kernel
theorem dX8_ofLocker_9 : decode cX8_ofLocker 9 = .ok (.imul, 1) := by decide +kernel
theorem dX8_ofLocker_10 : decode cX8_ofLocker 10 = .ok (.iadd, 1) := by decide +kernel
theorem dX8_ofLocker_11 : decode cX8_ofLocker 11 = .ok (.iload_n 2, 1) := by decide +kernel
theorem dX8_ofLocker_12 : decode cX8_ofLocker 12 = .ok (.iadd, 1) := by decide +kernel
theorem dX8_ofLocker_13 : decode cX8_ofLocker 13 = .ok (.iaload, 1) := by decide +kernel
theorem dX8_ofLocker_14 : decode cX8_ofLocker 14 = .ok (.ireturn, 1) := by decide +kernel
theorem dX8_moreOf_0 : decode cX8_moreOf 0 = .ok (.aload_n 0, 1) := by decide +kernel
theorem dX8_moreOf_1 : decode cX8_moreOf 1 = .ok (.getfield 7, 3) := by decide +kernel
theorem dX8_moreOf_4 : decode cX8_moreOf 4 = .ok (.bipush 12, 2) := by decide +kernel
theorem dX8_moreOf_6 : decode cX8_moreOf 6 = .ok (.bipush 8, 2) := by decide +kernel
theorem dX8_moreOf_8 : decode cX8_moreOf 8 = .ok (.iload_n 1, 1) := by decide +kernel
theorem dX8_moreOf_9 : decode cX8_moreOf 9 = .ok (.imul, 1) := by decide +kernel
theorem dX8_moreOf_10 : decode cX8_moreOf 10 = .ok (.iadd, 1) := by decide +kernel
theorem dX8_moreOf_11 : decode cX8_moreOf 11 = .ok (.iload_n 2, 1) := by decide +kernel
theorem dX8_moreOf_12 : decode cX8_moreOf 12 = .ok (.iadd, 1) := by decide +kernel
theorem dX8_moreOf_13 : decode cX8_moreOf 13 = .ok (.dup2, 1) := by decide +kernel
theorem dX8_moreOf_14 : decode cX8_moreOf 14 = .ok (.iaload, 1) := by decide +kernel
theorem dX8_moreOf_15 : decode cX8_moreOf 15 = .ok (.iconst 1, 1) := by decide +kernel
theorem dX8_moreOf_16 : decode cX8_moreOf 16 = .ok (.iadd, 1) := by decide +kernel
theorem dX8_moreOf_17 : decode cX8_moreOf 17 = .ok (.iastore, 1) := by decide +kernel
theorem dX8_moreOf_18 : decode cX8_moreOf 18 = .ok (.return_, 1) := by decide +kernel
theorem dX8_ofMeal_0 : decode cX8_ofMeal 0 = .ok (.aload_n 0, 1) := by decide +kernel
theorem dX8_ofMeal_1 : decode cX8_ofMeal 1 = .ok (.getfield 7, 3) := by decide +kernel
theorem dX8_ofMeal_4 : decode cX8_ofMeal 4 = .ok (.bipush 52, 2) := by decide +kernel
theorem dX8_ofMeal_6 : decode cX8_ofMeal 6 = .ok (.bipush 8, 2) := by decide +kernel
theorem dX8_ofMeal_8 : decode cX8_ofMeal 8 = .ok (.iload_n 1, 1) := by decide +kernel
theorem dX8_ofMeal_9 : decode cX8_ofMeal 9 = .ok (.imul, 1) := by decide +kernel
theorem dX8_ofMeal_10 : decode cX8_ofMeal 10 = .ok (.iadd, 1) := by decide +kernel
theorem dX8_ofMeal_11 : decode cX8_ofMeal 11 = .ok (.iload_n 2, 1) := by decide +kernel
theorem dX8_ofMeal_12 : decode cX8_ofMeal 12 = .ok (.iadd, 1) := by decide +kernel
theorem dX8_ofMeal_13 : decode cX8_ofMeal 13 = .ok (.iaload, 1) := by decide +kernel
theorem dX8_ofMeal_14 : decode cX8_ofMeal 14 = .ok (.ireturn, 1) := by decide +kernel
theorem dX8_setMeal_0 : decode cX8_setMeal 0 = .ok (.aload_n 0, 1) := by decide +kernel
theorem dX8_setMeal_1 : decode cX8_setMeal 1 = .ok (.getfield 7, 3) := by decide +kernel
theorem dX8_setMeal_4 : decode cX8_setMeal 4 = .ok (.bipush 52, 2) := by decide +kernel
theorem dX8_setMeal_6 : decode cX8_setMeal 6 = .ok (.bipush 8, 2) := by decide +kernel
theorem dX8_setMeal_8 : decode cX8_setMeal 8 = .ok (.iload_n 1, 1) := by decide +kernel
theorem dX8_setMeal_9 : decode cX8_setMeal 9 = .ok (.imul, 1) := by decide +kernel
theorem dX8_setMeal_10 : decode cX8_setMeal 10 = .ok (.iadd, 1) := by decide +kernel
theorem dX8_setMeal_11 : decode cX8_setMeal 11 = .ok (.iload_n 2, 1) := by decide +kernel
theorem dX8_setMeal_12 : decode cX8_setMeal 12 = .ok (.iadd, 1) := by decide +kernel
theorem dX8_setMeal_13 : decode cX8_setMeal 13 = .ok (.iload_n 3, 1) := by decide +kernel
theorem dX8_setMeal_14 : decode cX8_setMeal 14 = .ok (.iastore, 1) := by decide +kernel
theorem dX8_setMeal_15 : decode cX8_setMeal 15 = .ok (.return_, 1) := by decide +kernel
theorem dX8_ofPerson_0 : decode cX8_ofPerson 0 = .ok (.aload_n 0, 1) := by decide +kernel
theorem dX8_ofPerson_1 : decode cX8_ofPerson 1 = .ok (.getfield 7, 3) := by decide +kernel
theorem dX8_ofPerson_4 : decode cX8_ofPerson 4 = .ok (.sipush 244, 3) := by decide +kernel
theorem dX8_ofPerson_7 : decode cX8_ofPerson 7 = .ok (.iconst 5, 1) := by decide +kernel
theorem dX8_ofPerson_8 : decode cX8_ofPerson 8 = .ok (.iload_n 1, 1) := by decide +kernel
theorem dX8_ofPerson_9 : decode cX8_ofPerson 9 = .ok (.imul, 1) := by decide +kernel
theorem dX8_ofPerson_10 : decode cX8_ofPerson 10 = .ok (.iadd, 1) := by decide +kernel
theorem dX8_ofPerson_11 : decode cX8_ofPerson 11 = .ok (.iload_n 2, 1) := by decide +kernel
theorem dX8_ofPerson_12 : decode cX8_ofPerson 12 = .ok (.iadd, 1) := by decide +kernel
theorem dX8_ofPerson_13 : decode cX8_ofPerson 13 = .ok (.iaload, 1) := by decide +kernel
theorem dX8_ofPerson_14 : decode cX8_ofPerson 14 = .ok (.ireturn, 1) := by decide +kernel
theorem dX8_setPerson_0 : decode cX8_setPerson 0 = .ok (.aload_n 0, 1) := by decide +kernel
theorem dX8_setPerson_1 : decode cX8_setPerson 1 = .ok (.getfield 7, 3) := by decide +kernel
theorem dX8_setPerson_4 : decode cX8_setPerson 4 = .ok (.sipush 244, 3) := by decide +kernel
theorem dX8_setPerson_7 : decode cX8_setPerson 7 = .ok (.iconst 5, 1) := by decide +kernel
theorem dX8_setPerson_8 : decode cX8_setPerson 8 = .ok (.iload_n 1, 1) := by decide +kernel
theorem dX8_setPerson_9 : decode cX8_setPerson 9 = .ok (.imul, 1) := by decide +kernel
theorem dX8_setPerson_10 : decode cX8_setPerson 10 = .ok (.iadd, 1) := by decide +kernel
theorem dX8_setPerson_11 : decode cX8_setPerson 11 = .ok (.iload_n 2, 1) := by decide +kernel
theorem dX8_setPerson_12 : decode cX8_setPerson 12 = .ok (.iadd, 1) := by decide +kernel
theorem dX8_setPerson_13 : decode cX8_setPerson 13 = .ok (.iload_n 3, 1) := by decide +kernel
theorem dX8_setPerson_14 : decode cX8_setPerson 14 = .ok (.iastore, 1) := by decide +kernel
theorem dX8_setPerson_15 : decode cX8_setPerson 15 = .ok (.return_, 1) := by decide +kernel
theorem dX8_ofHelper_0 : decode cX8_ofHelper 0 = .ok (.aload_n 0, 1) := by decide +kernel
theorem dX8_ofHelper_1 : decode cX8_ofHelper 1 = .ok (.getfield 7, 3) := by decide +kernel
theorem dX8_ofHelper_4 : decode cX8_ofHelper 4 = .ok (.sipush 284, 3) := by decide +kernel
theorem dX8_ofHelper_7 : decode cX8_ofHelper 7 = .ok (.iconst 5, 1) := by decide +kernel
theorem dX8_ofHelper_8 : decode cX8_ofHelper 8 = .ok (.iload_n 1, 1) := by decide +kernel
theorem dX8_ofHelper_9 : decode cX8_ofHelper 9 = .ok (.imul, 1) := by decide +kernel
theorem dX8_ofHelper_10 : decode cX8_ofHelper 10 = .ok (.iadd, 1) := by decide +kernel
theorem dX8_ofHelper_11 : decode cX8_ofHelper 11 = .ok (.iload_n 2, 1) := by decide +kernel
theorem dX8_ofHelper_12 : decode cX8_ofHelper 12 = .ok (.iadd, 1) := by decide +kernel
theorem dX8_ofHelper_13 : decode cX8_ofHelper 13 = .ok (.iaload, 1) := by decide +kernel
theorem dX8_ofHelper_14 : decode cX8_ofHelper 14 = .ok (.ireturn, 1) := by decide +kernel
theorem dX8_setHelper_0 : decode cX8_setHelper 0 = .ok (.aload_n 0, 1) := by decide +kernel
theorem dX8_setHelper_1 : decode cX8_setHelper 1 = .ok (.getfield 7, 3) := by decide +kernel
theorem dX8_setHelper_4 : decode cX8_setHelper 4 = .ok (.sipush 284, 3) := by decide +kernel
theorem dX8_setHelper_7 : decode cX8_setHelper 7 = .ok (.iconst 5, 1) := by decide +kernel
theorem dX8_setHelper_8 : decode cX8_setHelper 8 = .ok (.iload_n 1, 1) := by decide +kernel
theorem dX8_setHelper_9 : decode cX8_setHelper 9 = .ok (.imul, 1) := by decide +kernel
theorem dX8_setHelper_10 : decode cX8_setHelper 10 = .ok (.iadd, 1) := by decide +kernel
theorem dX8_setHelper_11 : decode cX8_setHelper 11 = .ok (.iload_n 2, 1) := by decide +kernel
theorem dX8_setHelper_12 : decode cX8_setHelper 12 = .ok (.iadd, 1) := by decide +kernel
theorem dX8_setHelper_13 : decode cX8_setHelper 13 = .ok (.iload_n 3, 1) := by decide +kernel
theorem dX8_setHelper_14 : decode cX8_setHelper 14 = .ok (.iastore, 1) := by decide +kernel
theorem dX8_setHelper_15 : decode cX8_setHelper 15 = .ok (.return_, 1) := by decide +kernel
set_option maxRecDepth 20000 in
theorem ggX8_isLocker_X8_in : GoodIn wsX8_isLocker wsX8_in := goodIn_r _ [5] (by decide +kernel) (by decide +kernel)
set_option maxRecDepth 20000 in
theorem gX8_isLocker_X8_in : GoodIn wsX8_isLocker (va_wsS RX8 29 yX8_in wsX8_in) := goodIn_app (goodIn_of _ (by decide +kernel)) ggX8_isLocker_X8_in
theorem dX8_isLocker_0 : decode cX8_isLocker 0 = .ok (.iload_n 1, 1) := by decide +kernel
theorem dX8_isLocker_1 : decode cX8_isLocker 1 = .ok (.iconst 0, 1) := by decide +kernel
theorem dX8_isLocker_2 : decode cX8_isLocker 2 = .ok (.aload_n 0, 1) := by decide +kernel
theorem dX8_isLocker_3 : decode cX8_isLocker 3 = .ok (.getfield 7, 3) := by decide +kernel
theorem dX8_isLocker_6 : decode cX8_isLocker 6 = .ok (.iconst 0, 1) := by decide +kernel
theorem dX8_isLocker_7 : decode cX8_isLocker 7 = .ok (.iaload, 1) := by decide +kernel
theorem dX8_isLocker_8 : decode cX8_isLocker 8 = .ok (.iconst 1, 1) := by decide +kernel
theorem dX8_isLocker_9 : decode cX8_isLocker 9 = .ok (.isub, 1) := by decide +kernel
theorem dX8_isLocker_10 : decode cX8_isLocker 10 = .ok (.invokestatic 29, 3) := by decide +kernel
theorem dX8_isLocker_13 : decode cX8_isLocker 13 = .ok (.ireturn, 1) := by decide +kernel
set_option maxRecDepth 20000 in
theorem ggX8_isMeal_X8_in : GoodIn wsX8_isMeal wsX8_in := goodIn_r _ [5] (by decide +kernel) (by decide +kernel)
set_option maxRecDepth 20000 in
theorem gX8_isMeal_X8_in : GoodIn wsX8_isMeal (va_wsS RX8 29 yX8_in wsX8_in) := goodIn_app (goodIn_of _ (by decide +kernel)) ggX8_isMeal_X8_in
theorem dX8_isMeal_0 : decode cX8_isMeal 0 = .ok (.iload_n 1, 1) := by decide +kernel
theorem dX8_isMeal_1 : decode cX8_isMeal 1 = .ok (.iconst 0, 1) := by decide +kernel
theorem dX8_isMeal_2 : decode cX8_isMeal 2 = .ok (.aload_n 0, 1) := by decide +kernel
theorem dX8_isMeal_3 : decode cX8_isMeal 3 = .ok (.getfield 7, 3) := by decide +kernel
theorem dX8_isMeal_6 : decode cX8_isMeal 6 = .ok (.iconst 1, 1) := by decide +kernel
theorem dX8_isMeal_7 : decode cX8_isMeal 7 = .ok (.iaload, 1) := by decide +kernel
theorem dX8_isMeal_8 : decode cX8_isMeal 8 = .ok (.iconst 1, 1) := by decide +kernel
theorem dX8_isMeal_9 : decode cX8_isMeal 9 = .ok (.isub, 1) := by decide +kernel
theorem dX8_isMeal_10 : decode cX8_isMeal 10 = .ok (.invokestatic 29, 3) := by decide +kernel
theorem dX8_isMeal_13 : decode cX8_isMeal 13 = .ok (.ireturn, 1) := by decide +kernel
set_option maxRecDepth 20000 in
theorem ggX8_isPerson_X8_in : GoodIn wsX8_isPerson wsX8_in := goodIn_r _ [5] (by decide +kernel) (by decide +kernel)
set_option maxRecDepth 20000 in
theorem gX8_isPerson_X8_in : GoodIn wsX8_isPerson (va_wsS RX8 29 yX8_in wsX8_in) := goodIn_app (goodIn_of _ (by decide +kernel)) ggX8_isPerson_X8_in
theorem dX8_isPerson_0 : decode cX8_isPerson 0 = .ok (.iload_n 1, 1) := by decide +kernel
theorem dX8_isPerson_1 : decode cX8_isPerson 1 = .ok (.iconst 0, 1) := by decide +kernel
theorem dX8_isPerson_2 : decode cX8_isPerson 2 = .ok (.aload_n 0, 1) := by decide +kernel
theorem dX8_isPerson_3 : decode cX8_isPerson 3 = .ok (.getfield 7, 3) := by decide +kernel
theorem dX8_isPerson_6 : decode cX8_isPerson 6 = .ok (.iconst 2, 1) := by decide +kernel
theorem dX8_isPerson_7 : decode cX8_isPerson 7 = .ok (.iaload, 1) := by decide +kernel
theorem dX8_isPerson_8 : decode cX8_isPerson 8 = .ok (.iconst 1, 1) := by decide +kernel
theorem dX8_isPerson_9 : decode cX8_isPerson 9 = .ok (.isub, 1) := by decide +kernel
theorem dX8_isPerson_10 : decode cX8_isPerson 10 = .ok (.invokestatic 29, 3) := by decide +kernel
theorem dX8_isPerson_13 : decode cX8_isPerson 13 = .ok (.ireturn, 1) := by decide +kernel
set_option maxRecDepth 20000 in
theorem ggX8_isHelper_X8_in : GoodIn wsX8_isHelper wsX8_in := goodIn_r _ [5] (by decide +kernel) (by decide +kernel)
set_option maxRecDepth 20000 in
theorem gX8_isHelper_X8_in : GoodIn wsX8_isHelper (va_wsS RX8 29 yX8_in wsX8_in) := goodIn_app (goodIn_of _ (by decide +kernel)) ggX8_isHelper_X8_in
theorem dX8_isHelper_0 : decode cX8_isHelper 0 = .ok (.iload_n 1, 1) := by decide +kernel
theorem dX8_isHelper_1 : decode cX8_isHelper 1 = .ok (.iconst 0, 1) := by decide +kernel
theorem dX8_isHelper_2 : decode cX8_isHelper 2 = .ok (.aload_n 0, 1) := by decide +kernel
theorem dX8_isHelper_3 : decode cX8_isHelper 3 = .ok (.getfield 7, 3) := by decide +kernel
theorem dX8_isHelper_6 : decode cX8_isHelper 6 = .ok (.iconst 3, 1) := by decide +kernel
theorem dX8_isHelper_7 : decode cX8_isHelper 7 = .ok (.iaload, 1) := by decide +kernel
theorem dX8_isHelper_8 : decode cX8_isHelper 8 = .ok (.iconst 1, 1) := by decide +kernel
theorem dX8_isHelper_9 : decode cX8_isHelper 9 = .ok (.isub, 1) := by decide +kernel
theorem dX8_isHelper_10 : decode cX8_isHelper 10 = .ok (.invokestatic 29, 3) := by decide +kernel
theorem dX8_isHelper_13 : decode cX8_isHelper 13 = .ok (.ireturn, 1) := by decide +kernel
set_option maxRecDepth 20000 in
theorem ggX8_isIn_X8_ofMeal : GoodIn wsX8_isIn wsX8_ofMeal := goodIn_r _ [5, 6, 7, 8, 9, 10, 11, 12, 13, 14, 15, 16] (by decide +kernel) (by decide +kernel)
set_option maxRecDepth 20000 in
theorem gX8_isIn_X8_ofMeal : GoodIn wsX8_isIn (wsV RX8 33 RX8 yX8_ofMeal wsX8_ofMeal) := goodIn_app (goodIn_of _ (by decide +kernel)) ggX8_isIn_X8_ofMeal
theorem dX8_isIn_0 : decode cX8_isIn 0 = .ok (.aload_n 0, 1) := by decide +kernel
theorem dX8_isIn_1 : decode cX8_isIn 1 = .ok (.iload_n 1, 1) := by decide +kernel
theorem dX8_isIn_2 : decode cX8_isIn 2 = .ok (.iconst 0, 1) := by decide +kernel
theorem dX8_isIn_3 : decode cX8_isIn 3 = .ok (.invokevirtual 33, 3) := by decide +kernel
theorem dX8_isIn_6 : decode cX8_isIn 6 = .ok (.iconst 2, 1) := by decide +kernel
theorem dX8_isIn_7 : decode cX8_isIn 7 = .ok (.if_icmp .ge 17, 3) := by decide +kernel
theorem dX8_isIn_10 : decode cX8_isIn 10 = .ok (.aload_n 0, 1) := by decide +kernel
theorem dX8_isIn_11 : decode cX8_isIn 11 = .ok (.iload_n 1, 1) := by decide +kernel
theorem dX8_isIn_12 : decode cX8_isIn 12 = .ok (.iconst 1, 1) := by decide +kernel
theorem dX8_isIn_13 : decode cX8_isIn 13 = .ok (.invokevirtual 33, 3) := by decide +kernel
theorem dX8_isIn_16 : decode cX8_isIn 16 = .ok (.iload_n 2, 1) := by decide +kernel
theorem dX8_isIn_17 : decode cX8_isIn 17 = .ok (.if_icmp .ne 7, 3) := by decide +kernel
theorem dX8_isIn_20 : decode cX8_isIn 20 = .ok (.iconst 1, 1) := by decide +kernel
theorem dX8_isIn_21 : decode cX8_isIn 21 = .ok (.goto 4, 3) := by decide +kernel
theorem dX8_isIn_24 : decode cX8_isIn 24 = .ok (.iconst 0, 1) := by decide +kernel
theorem dX8_isIn_25 : decode cX8_isIn 25 = .ok (.ireturn, 1) := by decide +kernel
set_option maxRecDepth 20000 in
theorem ggX8_isWith_X8_ofMeal : GoodIn wsX8_isWith wsX8_ofMeal := goodIn_r _ [5, 6, 7, 8, 9, 10, 11, 12, 13, 14, 15, 16] (by decide +kernel) (by decide +kernel)
set_option maxRecDepth 20000 in
theorem gX8_isWith_X8_ofMeal : GoodIn wsX8_isWith (wsV RX8 33 RX8 yX8_ofMeal wsX8_ofMeal) := goodIn_app (goodIn_of _ (by decide +kernel)) ggX8_isWith_X8_ofMeal
theorem dX8_isWith_0 : decode cX8_isWith 0 = .ok (.aload_n 0, 1) := by decide +kernel
theorem dX8_isWith_1 : decode cX8_isWith 1 = .ok (.iload_n 1, 1) := by decide +kernel
theorem dX8_isWith_2 : decode cX8_isWith 2 = .ok (.iconst 0, 1) := by decide +kernel
theorem dX8_isWith_3 : decode cX8_isWith 3 = .ok (.invokevirtual 33, 3) := by decide +kernel
theorem dX8_isWith_6 : decode cX8_isWith 6 = .ok (.iconst 2, 1) := by decide +kernel
theorem dX8_isWith_7 : decode cX8_isWith 7 = .ok (.if_icmp .ne 18, 3) := by decide +kernel
theorem dX8_isWith_10 : decode cX8_isWith 10 = .ok (.aload_n 0, 1) := by decide +kernel
theorem dX8_isWith_11 : decode cX8_isWith 11 = .ok (.iload_n 1, 1) := by decide +kernel
theorem dX8_isWith_12 : decode cX8_isWith 12 = .ok (.bipush 7, 2) := by decide +kernel
theorem dX8_isWith_14 : decode cX8_isWith 14 = .ok (.invokevirtual 33, 3) := by decide +kernel
theorem dX8_isWith_17 : decode cX8_isWith 17 = .ok (.iload_n 2, 1) := by decide +kernel
theorem dX8_isWith_18 : decode cX8_isWith 18 = .ok (.if_icmp .ne 7, 3) := by decide +kernel
theorem dX8_isWith_21 : decode cX8_isWith 21 = .ok (.iconst 1, 1) := by decide +kernel
theorem dX8_isWith_22 : decode cX8_isWith 22 = .ok (.goto 4, 3) := by decide +kernel
theorem dX8_isWith_25 : decode cX8_isWith 25 = .ok (.iconst 0, 1) := by decide +kernel
theorem dX8_isWith_26 : decode cX8_isWith 26 = .ok (.ireturn, 1) := by decide +kernel
set_option maxRecDepth 20000 in
theorem ggX8_mealsOf_X8_isIn : GoodIn wsX8_mealsOf wsX8_isIn := goodIn_r _ [6, 7, 8, 9, 5, 10, 1, 15, 16, 17, 18, 19, 20, 21, 22, 23, 24] (by decide +kernel) (by decide +kernel)
set_option maxRecDepth 20000 in
theorem gX8_mealsOf_X8_isIn : GoodIn wsX8_mealsOf (wsV RX8 37 RX8 yX8_isIn wsX8_isIn) := goodIn_app (goodIn_of _ (by decide +kernel)) ggX8_mealsOf_X8_isIn
set_option maxRecDepth 20000 in
theorem ggX8_mealsOf_X8_isWith : GoodIn wsX8_mealsOf wsX8_isWith := goodIn_r _ [14, 7, 8, 9, 5, 10, 1, 15, 16, 17, 18, 19, 20, 21, 22, 23, 24] (by decide +kernel) (by decide +kernel)
set_option maxRecDepth 20000 in
theorem gX8_mealsOf_X8_isWith : GoodIn wsX8_mealsOf (wsV RX8 41 RX8 yX8_isWith wsX8_isWith) := goodIn_app (goodIn_of _ (by decide +kernel)) ggX8_mealsOf_X8_isWith
theorem dX8_mealsOf_0 : decode cX8_mealsOf 0 = .ok (.iconst 0, 1) := by decide +kernel
theorem dX8_mealsOf_1 : decode cX8_mealsOf 1 = .ok (.istore_n 3, 1) := by decide +kernel
theorem dX8_mealsOf_2 : decode cX8_mealsOf 2 = .ok (.iconst 0, 1) := by decide +kernel
theorem dX8_mealsOf_3 : decode cX8_mealsOf 3 = .ok (.istore 4, 2) := by decide +kernel
theorem dX8_mealsOf_5 : decode cX8_mealsOf 5 = .ok (.iload 4, 2) := by decide +kernel
theorem dX8_mealsOf_7 : decode cX8_mealsOf 7 = .ok (.aload_n 0, 1) := by decide +kernel
theorem dX8_mealsOf_8 : decode cX8_mealsOf 8 = .ok (.getfield 7, 3) := by decide +kernel
theorem dX8_mealsOf_11 : decode cX8_mealsOf 11 = .ok (.iconst 1, 1) := by decide +kernel
theorem dX8_mealsOf_12 : decode cX8_mealsOf 12 = .ok (.iaload, 1) := by decide +kernel
theorem dX8_mealsOf_13 : decode cX8_mealsOf 13 = .ok (.if_icmp .ge 48, 3) := by decide +kernel
theorem dX8_mealsOf_16 : decode cX8_mealsOf 16 = .ok (.iload_n 2, 1) := by decide +kernel
theorem dX8_mealsOf_17 : decode cX8_mealsOf 17 = .ok (.ifCond .ne 13, 3) := by decide +kernel
theorem dX8_mealsOf_20 : decode cX8_mealsOf 20 = .ok (.aload_n 0, 1) := by decide +kernel
theorem dX8_mealsOf_21 : decode cX8_mealsOf 21 = .ok (.iload 4, 2) := by decide +kernel
theorem dX8_mealsOf_23 : decode cX8_mealsOf 23 = .ok (.iload_n 1, 1) := by decide +kernel
theorem dX8_mealsOf_24 : decode cX8_mealsOf 24 = .ok (.invokevirtual 37, 3) := by decide +kernel
theorem dX8_mealsOf_27 : decode cX8_mealsOf 27 = .ok (.goto 10, 3) := by decide +kernel
theorem dX8_mealsOf_30 : decode cX8_mealsOf 30 = .ok (.aload_n 0, 1) := by decide +kernel
theorem dX8_mealsOf_31 : decode cX8_mealsOf 31 = .ok (.iload 4, 2) := by decide +kernel
theorem dX8_mealsOf_33 : decode cX8_mealsOf 33 = .ok (.iload_n 1, 1) := by decide +kernel
theorem dX8_mealsOf_34 : decode cX8_mealsOf 34 = .ok (.invokevirtual 41, 3) := by decide +kernel
theorem dX8_mealsOf_37 : decode cX8_mealsOf 37 = .ok (.istore 5, 2) := by decide +kernel
theorem dX8_mealsOf_39 : decode cX8_mealsOf 39 = .ok (.iload_n 3, 1) := by decide +kernel
theorem dX8_mealsOf_40 : decode cX8_mealsOf 40 = .ok (.iload 5, 2) := by decide +kernel
theorem dX8_mealsOf_42 : decode cX8_mealsOf 42 = .ok (.ifCond .eq 10, 3) := by decide +kernel
theorem dX8_mealsOf_45 : decode cX8_mealsOf 45 = .ok (.iconst 1, 1) := by decide +kernel
theorem dX8_mealsOf_46 : decode cX8_mealsOf 46 = .ok (.iload 4, 2) := by decide +kernel
theorem dX8_mealsOf_48 : decode cX8_mealsOf 48 = .ok (.ishl, 1) := by decide +kernel
theorem dX8_mealsOf_49 : decode cX8_mealsOf 49 = .ok (.goto 4, 3) := by decide +kernel
theorem dX8_mealsOf_52 : decode cX8_mealsOf 52 = .ok (.iconst 0, 1) := by decide +kernel
theorem dX8_mealsOf_53 : decode cX8_mealsOf 53 = .ok (.ior, 1) := by decide +kernel
theorem dX8_mealsOf_54 : decode cX8_mealsOf 54 = .ok (.istore_n 3, 1) := by decide +kernel
theorem dX8_mealsOf_55 : decode cX8_mealsOf 55 = .ok (.iinc 4 1, 3) := by decide +kernel
theorem dX8_mealsOf_58 : decode cX8_mealsOf 58 = .ok (.goto (-53), 3) := by decide +kernel
theorem dX8_mealsOf_61 : decode cX8_mealsOf 61 = .ok (.iload_n 3, 1) := by decide +kernel
theorem dX8_mealsOf_62 : decode cX8_mealsOf 62 = .ok (.ireturn, 1) := by decide +kernel
theorem dX8_ones_0 : decode cX8_ones 0 = .ok (.iconst 0, 1) := by decide +kernel
theorem dX8_ones_1 : decode cX8_ones 1 = .ok (.istore_n 1, 1) := by decide +kernel
theorem dX8_ones_2 : decode cX8_ones 2 = .ok (.iconst 0, 1) := by decide +kernel
theorem dX8_ones_3 : decode cX8_ones 3 = .ok (.istore_n 2, 1) := by decide +kernel
theorem dX8_ones_4 : decode cX8_ones 4 = .ok (.iload_n 2, 1) := by decide +kernel
theorem dX8_ones_5 : decode cX8_ones 5 = .ok (.bipush 24, 2) := by decide +kernel
theorem dX8_ones_7 : decode cX8_ones 7 = .ok (.if_icmp .ge 17, 3) := by decide +kernel
theorem dX8_ones_10 : decode cX8_ones 10 = .ok (.iload_n 1, 1) := by decide +kernel
theorem dX8_ones_11 : decode cX8_ones 11 = .ok (.iload_n 0, 1) := by decide +kernel
theorem dX8_ones_12 : decode cX8_ones 12 = .ok (.iload_n 2, 1) := by decide +kernel
theorem dX8_ones_13 : decode cX8_ones 13 = .ok (.ishr, 1) := by decide +kernel
theorem dX8_ones_14 : decode cX8_ones 14 = .ok (.iconst 1, 1) := by decide +kernel
theorem dX8_ones_15 : decode cX8_ones 15 = .ok (.iand, 1) := by decide +kernel
theorem dX8_ones_16 : decode cX8_ones 16 = .ok (.iadd, 1) := by decide +kernel
theorem dX8_ones_17 : decode cX8_ones 17 = .ok (.istore_n 1, 1) := by decide +kernel
theorem dX8_ones_18 : decode cX8_ones 18 = .ok (.iinc 2 1, 3) := by decide +kernel
theorem dX8_ones_21 : decode cX8_ones 21 = .ok (.goto (-17), 3) := by decide +kernel
theorem dX8_ones_24 : decode cX8_ones 24 = .ok (.iload_n 1, 1) := by decide +kernel
theorem dX8_ones_25 : decode cX8_ones 25 = .ok (.ireturn, 1) := by decide +kernel
set_option maxRecDepth 20000 in
theorem ggX8_freeCells_X8_ofLocker : GoodIn wsX8_freeCells wsX8_ofLocker := goodIn_r _ [5, 6, 26, 27, 28, 29, 30, 31, 32, 33, 34, 35] (by decide +kernel) (by decide +kernel)
set_option maxRecDepth 20000 in
theorem gX8_freeCells_X8_ofLocker : GoodIn wsX8_freeCells (wsV RX8 44 RX8 yX8_ofLocker wsX8_ofLocker) := goodIn_app (goodIn_of _ (by decide +kernel)) ggX8_freeCells_X8_ofLocker
set_option maxRecDepth 20000 in
theorem ggX8_freeCells_X8_mealsOf : GoodIn wsX8_freeCells wsX8_mealsOf := goodIn_r _ [10, 6, 11, 12, 13, 4, 14, 15, 16, 17, 18, 19, 20, 21, 22, 26, 27, 28, 29, 30, 31, 32, 33, 34, 35] (by decide +kernel) (by decide +kernel)
set_option maxRecDepth 20000 in
theorem gX8_freeCells_X8_mealsOf : GoodIn wsX8_freeCells (wsV RX8 47 RX8 yX8_mealsOf wsX8_mealsOf) := goodIn_app (goodIn_of _ (by decide +kernel)) ggX8_freeCells_X8_mealsOf
set_option maxRecDepth 20000 in
theorem ggX8_freeCells_X8_ones : GoodIn wsX8_freeCells wsX8_ones := goodIn_r _ [25] (by decide +kernel) (by decide +kernel)
set_option maxRecDepth 20000 in
theorem gX8_freeCells_X8_ones : GoodIn wsX8_freeCells (va_wsS RX8 50 yX8_ones wsX8_ones) := goodIn_app (goodIn_of _ (by decide +kernel)) ggX8_freeCells_X8_ones
theorem dX8_freeCells_0 : decode cX8_freeCells 0 = .ok (.aload_n 0, 1) := by decide +kernel
theorem dX8_freeCells_1 : decode cX8_freeCells 1 = .ok (.iload_n 1, 1) := by decide +kernel
theorem dX8_freeCells_2 : decode cX8_freeCells 2 = .ok (.iconst 0, 1) := by decide +kernel
theorem dX8_freeCells_3 : decode cX8_freeCells 3 = .ok (.invokevirtual 44, 3) := by decide +kernel
theorem dX8_freeCells_6 : decode cX8_freeCells 6 = .ok (.aload_n 0, 1) := by decide +kernel
theorem dX8_freeCells_7 : decode cX8_freeCells 7 = .ok (.iload_n 1, 1) := by decide +kernel
theorem dX8_freeCells_8 : decode cX8_freeCells 8 = .ok (.iconst 0, 1) := by decide +kernel
theorem dX8_freeCells_9 : decode cX8_freeCells 9 = .ok (.invokevirtual 47, 3) := by decide +kernel
theorem dX8_freeCells_12 : decode cX8_freeCells 12 = .ok (.invokestatic 50, 3) := by decide +kernel
theorem dX8_freeCells_15 : decode cX8_freeCells 15 = .ok (.isub, 1) := by decide +kernel
theorem dX8_freeCells_16 : decode cX8_freeCells 16 = .ok (.ireturn, 1) := by decide +kernel
set_option maxRecDepth 20000 in
theorem ggX8_reservedBy_X8_ofMeal : GoodIn wsX8_reservedBy wsX8_ofMeal := goodIn_r _ [6, 1, 7, 8, 9, 10, 11, 12, 13, 14, 15, 16] (by decide +kernel) (by decide +kernel)
set_option maxRecDepth 20000 in
theorem gX8_reservedBy_X8_ofMeal : GoodIn wsX8_reservedBy (wsV RX8 33 RX8 yX8_ofMeal wsX8_ofMeal) := goodIn_app (goodIn_of _ (by decide +kernel)) ggX8_reservedBy_X8_ofMeal
theorem dX8_reservedBy_0 : decode cX8_reservedBy 0 = .ok (.iconst (-1), 1) := by decide +kernel
theorem dX8_reservedBy_1 : decode cX8_reservedBy 1 = .ok (.istore_n 2, 1) := by decide +kernel
theorem dX8_reservedBy_2 : decode cX8_reservedBy 2 = .ok (.iconst 0, 1) := by decide +kernel
theorem dX8_reservedBy_3 : decode cX8_reservedBy 3 = .ok (.istore_n 3, 1) := by decide +kernel
theorem dX8_reservedBy_4 : decode cX8_reservedBy 4 = .ok (.iload_n 3, 1) := by decide +kernel
theorem dX8_reservedBy_5 : decode cX8_reservedBy 5 = .ok (.aload_n 0, 1) := by decide +kernel
theorem dX8_reservedBy_6 : decode cX8_reservedBy 6 = .ok (.getfield 7, 3) := by decide +kernel
theorem dX8_reservedBy_9 : decode cX8_reservedBy 9 = .ok (.iconst 1, 1) := by decide +kernel
theorem dX8_reservedBy_10 : decode cX8_reservedBy 10 = .ok (.iaload, 1) := by decide +kernel
theorem dX8_reservedBy_11 : decode cX8_reservedBy 11 = .ok (.if_icmp .ge 35, 3) := by decide +kernel
theorem dX8_reservedBy_14 : decode cX8_reservedBy 14 = .ok (.aload_n 0, 1) := by decide +kernel
theorem dX8_reservedBy_15 : decode cX8_reservedBy 15 = .ok (.iload_n 3, 1) := by decide +kernel
theorem dX8_reservedBy_16 : decode cX8_reservedBy 16 = .ok (.iconst 0, 1) := by decide +kernel
theorem dX8_reservedBy_17 : decode cX8_reservedBy 17 = .ok (.invokevirtual 33, 3) := by decide +kernel
theorem dX8_reservedBy_20 : decode cX8_reservedBy 20 = .ok (.iconst 1, 1) := by decide +kernel
theorem dX8_reservedBy_21 : decode cX8_reservedBy 21 = .ok (.if_icmp .ne 17, 3) := by decide +kernel
theorem dX8_reservedBy_24 : decode cX8_reservedBy 24 = .ok (.aload_n 0, 1) := by decide +kernel
theorem dX8_reservedBy_25 : decode cX8_reservedBy 25 = .ok (.iload_n 3, 1) := by decide +kernel
theorem dX8_reservedBy_26 : decode cX8_reservedBy 26 = .ok (.iconst 5, 1) := by decide +kernel
theorem dX8_reservedBy_27 : decode cX8_reservedBy 27 = .ok (.invokevirtual 33, 3) := by decide +kernel
theorem dX8_reservedBy_30 : decode cX8_reservedBy 30 = .ok (.iload_n 1, 1) := by decide +kernel
theorem dX8_reservedBy_31 : decode cX8_reservedBy 31 = .ok (.if_icmp .ne 7, 3) := by decide +kernel
theorem dX8_reservedBy_34 : decode cX8_reservedBy 34 = .ok (.iload_n 3, 1) := by decide +kernel
theorem dX8_reservedBy_35 : decode cX8_reservedBy 35 = .ok (.goto 4, 3) := by decide +kernel
theorem dX8_reservedBy_38 : decode cX8_reservedBy 38 = .ok (.iload_n 2, 1) := by decide +kernel
theorem dX8_reservedBy_39 : decode cX8_reservedBy 39 = .ok (.istore_n 2, 1) := by decide +kernel
theorem dX8_reservedBy_40 : decode cX8_reservedBy 40 = .ok (.iinc 3 1, 3) := by decide +kernel
theorem dX8_reservedBy_43 : decode cX8_reservedBy 43 = .ok (.goto (-39), 3) := by decide +kernel
theorem dX8_reservedBy_46 : decode cX8_reservedBy 46 = .ok (.iload_n 2, 1) := by decide +kernel
theorem dX8_reservedBy_47 : decode cX8_reservedBy 47 = .ok (.ireturn, 1) := by decide +kernel
set_option maxRecDepth 20000 in
theorem ggX8_isBarred_X8_ofPerson : GoodIn wsX8_isBarred wsX8_ofPerson := goodIn_r _ [6, 1, 7, 8, 9, 10, 11, 12, 13, 14, 15, 16] (by decide +kernel) (by decide +kernel)
set_option maxRecDepth 20000 in
theorem gX8_isBarred_X8_ofPerson : GoodIn wsX8_isBarred (wsV RX8 54 RX8 yX8_ofPerson wsX8_ofPerson) := goodIn_app (goodIn_of _ (by decide +kernel)) ggX8_isBarred_X8_ofPerson
theorem dX8_isBarred_0 : decode cX8_isBarred 0 = .ok (.aload_n 0, 1) := by decide +kernel
theorem dX8_isBarred_1 : decode cX8_isBarred 1 = .ok (.getfield 7, 3) := by decide +kernel
theorem dX8_isBarred_4 : decode cX8_isBarred 4 = .ok (.iconst 4, 1) := by decide +kernel
theorem dX8_isBarred_5 : decode cX8_isBarred 5 = .ok (.iaload, 1) := by decide +kernel
theorem dX8_isBarred_6 : decode cX8_isBarred 6 = .ok (.aload_n 0, 1) := by decide +kernel
theorem dX8_isBarred_7 : decode cX8_isBarred 7 = .ok (.iload_n 1, 1) := by decide +kernel
theorem dX8_isBarred_8 : decode cX8_isBarred 8 = .ok (.iconst 2, 1) := by decide +kernel
theorem dX8_isBarred_9 : decode cX8_isBarred 9 = .ok (.invokevirtual 54, 3) := by decide +kernel
theorem dX8_isBarred_12 : decode cX8_isBarred 12 = .ok (.if_icmp .ge 7, 3) := by decide +kernel
theorem dX8_isBarred_15 : decode cX8_isBarred 15 = .ok (.iconst 1, 1) := by decide +kernel
theorem dX8_isBarred_16 : decode cX8_isBarred 16 = .ok (.goto 4, 3) := by decide +kernel
theorem dX8_isBarred_19 : decode cX8_isBarred 19 = .ok (.iconst 0, 1) := by decide +kernel
theorem dX8_isBarred_20 : decode cX8_isBarred 20 = .ok (.ireturn, 1) := by decide +kernel
set_option maxRecDepth 20000 in
theorem ggX8_isUnderWay_X8_ofHelper : GoodIn wsX8_isUnderWay wsX8_ofHelper := goodIn_r _ [6, 1, 7, 8, 9, 10, 11, 12, 13, 14, 15, 16] (by decide +kernel) (by decide +kernel)
set_option maxRecDepth 20000 in
theorem gX8_isUnderWay_X8_ofHelper : GoodIn wsX8_isUnderWay (wsV RX8 57 RX8 yX8_ofHelper wsX8_ofHelper) := goodIn_app (goodIn_of _ (by decide +kernel)) ggX8_isUnderWay_X8_ofHelper
theorem dX8_isUnderWay_0 : decode cX8_isUnderWay 0 = .ok (.aload_n 0, 1) := by decide +kernel
theorem dX8_isUnderWay_1 : decode cX8_isUnderWay 1 = .ok (.iload_n 1, 1) := by decide +kernel
theorem dX8_isUnderWay_2 : decode cX8_isUnderWay 2 = .ok (.iconst 2, 1) := by decide +kernel
theorem dX8_isUnderWay_3 : decode cX8_isUnderWay 3 = .ok (.invokevirtual 57, 3) := by decide +kernel
theorem dX8_isUnderWay_6 : decode cX8_isUnderWay 6 = .ok (.aload_n 0, 1) := by decide +kernel
theorem dX8_isUnderWay_7 : decode cX8_isUnderWay 7 = .ok (.getfield 7, 3) := by decide +kernel
theorem dX8_isUnderWay_10 : decode cX8_isUnderWay 10 = .ok (.iconst 4, 1) := by decide +kernel
theorem dX8_isUnderWay_11 : decode cX8_isUnderWay 11 = .ok (.iaload, 1) := by decide +kernel
theorem dX8_isUnderWay_12 : decode cX8_isUnderWay 12 = .ok (.if_icmp .le 7, 3) := by decide +kernel
theorem dX8_isUnderWay_15 : decode cX8_isUnderWay 15 = .ok (.iconst 1, 1) := by decide +kernel
theorem dX8_isUnderWay_16 : decode cX8_isUnderWay 16 = .ok (.goto 4, 3) := by decide +kernel
theorem dX8_isUnderWay_19 : decode cX8_isUnderWay 19 = .ok (.iconst 0, 1) := by decide +kernel
theorem dX8_isUnderWay_20 : decode cX8_isUnderWay 20 = .ok (.ireturn, 1) := by decide +kernel
set_option maxRecDepth 20000 in
theorem ggX8_loss_X8_ofMeal : GoodIn wsX8_loss wsX8_ofMeal := goodIn_r _ [5, 6, 11, 12, 13, 14, 15, 16, 17, 18, 19, 20] (by decide +kernel) (by decide +kernel)
set_option maxRecDepth 20000 in
theorem gX8_loss_X8_ofMeal : GoodIn wsX8_loss (wsV RX8 33 RX8 yX8_ofMeal wsX8_ofMeal) := goodIn_app (goodIn_of _ (by decide +kernel)) ggX8_loss_X8_ofMeal
set_option maxRecDepth 20000 in
theorem ggX8_loss_X8_ofLocker : GoodIn wsX8_loss wsX8_ofLocker := goodIn_r _ [10, 6, 11, 12, 13, 14, 15, 16, 17, 18, 19, 20] (by decide +kernel) (by decide +kernel)
set_option maxRecDepth 20000 in
theorem gX8_loss_X8_ofLocker : GoodIn wsX8_loss (wsV RX8 44 RX8 yX8_ofLocker wsX8_ofLocker) := goodIn_app (goodIn_of _ (by decide +kernel)) ggX8_loss_X8_ofLocker
theorem dX8_loss_0 : decode cX8_loss 0 = .ok (.aload_n 0, 1) := by decide +kernel
theorem dX8_loss_1 : decode cX8_loss 1 = .ok (.iload_n 1, 1) := by decide +kernel
theorem dX8_loss_2 : decode cX8_loss 2 = .ok (.iconst 0, 1) := by decide +kernel
theorem dX8_loss_3 : decode cX8_loss 3 = .ok (.invokevirtual 33, 3) := by decide +kernel
theorem dX8_loss_6 : decode cX8_loss 6 = .ok (.iconst 2, 1) := by decide +kernel
theorem dX8_loss_7 : decode cX8_loss 7 = .ok (.if_icmp .ge 22, 3) := by decide +kernel
theorem dX8_loss_10 : decode cX8_loss 10 = .ok (.aload_n 0, 1) := by decide +kernel
theorem dX8_loss_11 : decode cX8_loss 11 = .ok (.aload_n 0, 1) := by decide +kernel
theorem dX8_loss_12 : decode cX8_loss 12 = .ok (.iload_n 1, 1) := by decide +kernel
theorem dX8_loss_13 : decode cX8_loss 13 = .ok (.iconst 1, 1) := by decide +kernel
theorem dX8_loss_14 : decode cX8_loss 14 = .ok (.invokevirtual 33, 3) := by decide +kernel
theorem dX8_loss_17 : decode cX8_loss 17 = .ok (.iconst 1, 1) := by decide +kernel
theorem dX8_loss_18 : decode cX8_loss 18 = .ok (.invokevirtual 44, 3) := by decide +kernel
theorem dX8_loss_21 : decode cX8_loss 21 = .ok (.iconst 1, 1) := by decide +kernel
theorem dX8_loss_22 : decode cX8_loss 22 = .ok (.if_icmp .ne 7, 3) := by decide +kernel
theorem dX8_loss_25 : decode cX8_loss 25 = .ok (.iconst 1, 1) := by decide +kernel
theorem dX8_loss_26 : decode cX8_loss 26 = .ok (.goto 4, 3) := by decide +kernel
theorem dX8_loss_29 : decode cX8_loss 29 = .ok (.iconst 0, 1) := by decide +kernel
theorem dX8_loss_30 : decode cX8_loss 30 = .ok (.istore_n 2, 1) := by decide +kernel
theorem dX8_loss_31 : decode cX8_loss 31 = .ok (.iload_n 2, 1) := by decide +kernel
theorem dX8_loss_32 : decode cX8_loss 32 = .ok (.ifCond .eq 7, 3) := by decide +kernel
theorem dX8_loss_35 : decode cX8_loss 35 = .ok (.iconst 1, 1) := by decide +kernel
theorem dX8_loss_36 : decode cX8_loss 36 = .ok (.goto 4, 3) := by decide +kernel
theorem dX8_loss_39 : decode cX8_loss 39 = .ok (.iconst 2, 1) := by decide +kernel
theorem dX8_loss_40 : decode cX8_loss 40 = .ok (.ireturn, 1) := by decide +kernel
set_option maxRecDepth 20000 in
theorem ggX8_spoils_X8_ofMeal : GoodIn wsX8_spoils wsX8_ofMeal := goodIn_r _ [6, 1, 15, 16, 17, 18, 19, 20, 21, 22, 23, 24] (by decide +kernel) (by decide +kernel)
set_option maxRecDepth 20000 in
theorem gX8_spoils_X8_ofMeal : GoodIn wsX8_spoils (wsV RX8 33 RX8 yX8_ofMeal wsX8_ofMeal) := goodIn_app (goodIn_of _ (by decide +kernel)) ggX8_spoils_X8_ofMeal
set_option maxRecDepth 20000 in
theorem ggX8_spoils_X8_moreOf : GoodIn wsX8_spoils wsX8_moreOf := goodIn_r _ [10, 1, 15, 16, 17, 18, 19, 20, 21, 22, 23, 24] (by decide +kernel) (by decide +kernel)
set_option maxRecDepth 20000 in
theorem gX8_spoils_X8_moreOf : GoodIn wsX8_spoils (wsV RX8 60 RX8 yX8_moreOf wsX8_moreOf) := goodIn_app (goodIn_of _ (by decide +kernel)) ggX8_spoils_X8_moreOf
set_option maxRecDepth 20000 in
theorem ggX8_spoils_X8_setMeal : GoodIn wsX8_spoils wsX8_setMeal := goodIn_r _ [14, 1, 15, 16, 17, 18, 19, 20, 21, 22, 23, 24] (by decide +kernel) (by decide +kernel)
set_option maxRecDepth 20000 in
theorem gX8_spoils_X8_setMeal : GoodIn wsX8_spoils (wsV RX8 64 RX8 yX8_setMeal wsX8_setMeal) := goodIn_app (goodIn_of _ (by decide +kernel)) ggX8_spoils_X8_setMeal
theorem dX8_spoils_0 : decode cX8_spoils 0 = .ok (.aload_n 0, 1) := by decide +kernel
theorem dX8_spoils_1 : decode cX8_spoils 1 = .ok (.iload_n 1, 1) := by decide +kernel
theorem dX8_spoils_2 : decode cX8_spoils 2 = .ok (.iconst 0, 1) := by decide +kernel
theorem dX8_spoils_3 : decode cX8_spoils 3 = .ok (.invokevirtual 33, 3) := by decide +kernel
theorem dX8_spoils_6 : decode cX8_spoils 6 = .ok (.iconst 2, 1) := by decide +kernel
theorem dX8_spoils_7 : decode cX8_spoils 7 = .ok (.if_icmp .ge 15, 3) := by decide +kernel
theorem dX8_spoils_10 : decode cX8_spoils 10 = .ok (.aload_n 0, 1) := by decide +kernel
theorem dX8_spoils_11 : decode cX8_spoils 11 = .ok (.aload_n 0, 1) := by decide +kernel
theorem dX8_spoils_12 : decode cX8_spoils 12 = .ok (.iload_n 1, 1) := by decide +kernel
theorem dX8_spoils_13 : decode cX8_spoils 13 = .ok (.iconst 1, 1) := by decide +kernel
theorem dX8_spoils_14 : decode cX8_spoils 14 = .ok (.invokevirtual 33, 3) := by decide +kernel
theorem dX8_spoils_17 : decode cX8_spoils 17 = .ok (.bipush 7, 2) := by decide +kernel
theorem dX8_spoils_19 : decode cX8_spoils 19 = .ok (.invokevirtual 60, 3) := by decide +kernel
theorem dX8_spoils_22 : decode cX8_spoils 22 = .ok (.aload_n 0, 1) := by decide +kernel
theorem dX8_spoils_23 : decode cX8_spoils 23 = .ok (.iload_n 1, 1) := by decide +kernel
theorem dX8_spoils_24 : decode cX8_spoils 24 = .ok (.iconst 0, 1) := by decide +kernel
theorem dX8_spoils_25 : decode cX8_spoils 25 = .ok (.iconst 5, 1) := by decide +kernel
theorem dX8_spoils_26 : decode cX8_spoils 26 = .ok (.invokevirtual 64, 3) := by decide +kernel
theorem dX8_spoils_29 : decode cX8_spoils 29 = .ok (.aload_n 0, 1) := by decide +kernel
theorem dX8_spoils_30 : decode cX8_spoils 30 = .ok (.iload_n 1, 1) := by decide +kernel
theorem dX8_spoils_31 : decode cX8_spoils 31 = .ok (.iconst 2, 1) := by decide +kernel
theorem dX8_spoils_32 : decode cX8_spoils 32 = .ok (.iconst 0, 1) := by decide +kernel
theorem dX8_spoils_33 : decode cX8_spoils 33 = .ok (.invokevirtual 64, 3) := by decide +kernel
theorem dX8_spoils_36 : decode cX8_spoils 36 = .ok (.aload_n 0, 1) := by decide +kernel
theorem dX8_spoils_37 : decode cX8_spoils 37 = .ok (.getfield 7, 3) := by decide +kernel
theorem dX8_spoils_40 : decode cX8_spoils 40 = .ok (.bipush 11, 2) := by decide +kernel
theorem dX8_spoils_42 : decode cX8_spoils 42 = .ok (.dup2, 1) := by decide +kernel
theorem dX8_spoils_43 : decode cX8_spoils 43 = .ok (.iaload, 1) := by decide +kernel
theorem dX8_spoils_44 : decode cX8_spoils 44 = .ok (.iconst 1, 1) := by decide +kernel
theorem dX8_spoils_45 : decode cX8_spoils 45 = .ok (.iadd, 1) := by decide +kernel
theorem dX8_spoils_46 : decode cX8_spoils 46 = .ok (.iastore, 1) := by decide +kernel
theorem dX8_spoils_47 : decode cX8_spoils 47 = .ok (.return_, 1) := by decide +kernel
set_option maxRecDepth 20000 in
theorem ggX8_lays_X8_ofHelper : GoodIn wsX8_lays wsX8_ofHelper := goodIn_r _ [6, 1, 42, 43, 44, 45, 46, 47, 48, 49, 50, 51] (by decide +kernel) (by decide +kernel)
set_option maxRecDepth 20000 in
theorem gX8_lays_X8_ofHelper : GoodIn wsX8_lays (wsV RX8 57 RX8 yX8_ofHelper wsX8_ofHelper) := goodIn_app (goodIn_of _ (by decide +kernel)) ggX8_lays_X8_ofHelper
set_option maxRecDepth 20000 in
theorem ggX8_lays_X8_isWith : GoodIn wsX8_lays wsX8_isWith := goodIn_r _ [10, 11, 12, 13, 5, 14, 1, 42, 43, 44, 45, 46, 47, 48, 49, 50, 51] (by decide +kernel) (by decide +kernel)
set_option maxRecDepth 20000 in
theorem gX8_lays_X8_isWith : GoodIn wsX8_lays (wsV RX8 41 RX8 yX8_isWith wsX8_isWith) := goodIn_app (goodIn_of _ (by decide +kernel)) ggX8_lays_X8_isWith
set_option maxRecDepth 20000 in
theorem ggX8_lays_X8_freeCells : GoodIn wsX8_lays wsX8_freeCells := goodIn_r _ [18, 19, 20, 21, 5, 22, 1, 23, 24, 25, 26, 27, 28, 29, 30, 11, 12, 13, 14, 7, 8, 9, 10, 31, 32, 33, 42, 43, 44, 45, 46, 47, 48, 49, 50, 51] (by decide +kernel) (by decide +kernel)
set_option maxRecDepth 20000 in
theorem gX8_lays_X8_freeCells : GoodIn wsX8_lays (wsV RX8 68 RX8 yX8_freeCells wsX8_freeCells) := goodIn_app (goodIn_of _ (by decide +kernel)) ggX8_lays_X8_freeCells
set_option maxRecDepth 20000 in
theorem ggX8_lays_X8_setMeal : GoodIn wsX8_lays wsX8_setMeal := goodIn_r _ [37, 1, 42, 43, 44, 45, 46, 47, 48, 49, 50, 51] (by decide +kernel) (by decide +kernel)
set_option maxRecDepth 20000 in
theorem gX8_lays_X8_setMeal : GoodIn wsX8_lays (wsV RX8 64 RX8 yX8_setMeal wsX8_setMeal) := goodIn_app (goodIn_of _ (by decide +kernel)) ggX8_lays_X8_setMeal
set_option maxRecDepth 20000 in
theorem ggX8_lays_X8_moreOf : GoodIn wsX8_lays wsX8_moreOf := goodIn_r _ [41, 1, 42, 43, 44, 45, 46, 47, 48, 49, 50, 51] (by decide +kernel) (by decide +kernel)
set_option maxRecDepth 20000 in
theorem gX8_lays_X8_moreOf : GoodIn wsX8_lays (wsV RX8 60 RX8 yX8_moreOf wsX8_moreOf) := goodIn_app (goodIn_of _ (by decide +kernel)) ggX8_lays_X8_moreOf
theorem dX8_lays_0 : decode cX8_lays 0 = .ok (.aload_n 0, 1) := by decide +kernel
theorem dX8_lays_1 : decode cX8_lays 1 = .ok (.iload_n 1, 1) := by decide +kernel
theorem dX8_lays_2 : decode cX8_lays 2 = .ok (.iconst 1, 1) := by decide +kernel
theorem dX8_lays_3 : decode cX8_lays 3 = .ok (.invokevirtual 57, 3) := by decide +kernel
theorem dX8_lays_6 : decode cX8_lays 6 = .ok (.istore_n 2, 1) := by decide +kernel
theorem dX8_lays_7 : decode cX8_lays 7 = .ok (.iconst 0, 1) := by decide +kernel
theorem dX8_lays_8 : decode cX8_lays 8 = .ok (.istore_n 3, 1) := by decide +kernel
