theorem dX8_undo_11 : decode cX8_undo 11 = .ok (.dup, 1) := by decide +kernel
theorem dX8_undo_12 : decode cX8_undo 12 = .ok (.getfield 25, 3) := by decide +kernel
theorem dX8_undo_15 : decode cX8_undo 15 = .ok (.iconst 1, 1) := by decide +kernel
theorem dX8_undo_16 : decode cX8_undo 16 = .ok (.isub, 1) := by decide +kernel
theorem dX8_undo_17 : decode cX8_undo 17 = .ok (.putfield 25, 3) := by decide +kernel
theorem dX8_undo_20 : decode cX8_undo 20 = .ok (.iconst 0, 1) := by decide +kernel
theorem dX8_undo_21 : decode cX8_undo 21 = .ok (.istore_n 1, 1) := by decide +kernel
theorem dX8_undo_22 : decode cX8_undo 22 = .ok (.iload_n 1, 1) := by decide +kernel
theorem dX8_undo_23 : decode cX8_undo 23 = .ok (.sipush 299, 3) := by decide +kernel
theorem dX8_undo_26 : decode cX8_undo 26 = .ok (.if_icmp .ge 30, 3) := by decide +kernel
theorem dX8_undo_29 : decode cX8_undo 29 = .ok (.aload_n 0, 1) := by decide +kernel
theorem dX8_undo_30 : decode cX8_undo 30 = .ok (.getfield 7, 3) := by decide +kernel
theorem dX8_undo_33 : decode cX8_undo 33 = .ok (.iload_n 1, 1) := by decide +kernel
theorem dX8_undo_34 : decode cX8_undo 34 = .ok (.aload_n 0, 1) := by decide +kernel
theorem dX8_undo_35 : decode cX8_undo 35 = .ok (.getfield 16, 3) := by decide +kernel
theorem dX8_undo_38 : decode cX8_undo 38 = .ok (.sipush 299, 3) := by decide +kernel
theorem dX8_undo_41 : decode cX8_undo 41 = .ok (.aload_n 0, 1) := by decide +kernel
theorem dX8_undo_42 : decode cX8_undo 42 = .ok (.getfield 25, 3) := by decide +kernel
theorem dX8_undo_45 : decode cX8_undo 45 = .ok (.imul, 1) := by decide +kernel
theorem dX8_undo_46 : decode cX8_undo 46 = .ok (.iload_n 1, 1) := by decide +kernel
theorem dX8_undo_47 : decode cX8_undo 47 = .ok (.iadd, 1) := by decide +kernel
theorem dX8_undo_48 : decode cX8_undo 48 = .ok (.iaload, 1) := by decide +kernel
theorem dX8_undo_49 : decode cX8_undo 49 = .ok (.iastore, 1) := by decide +kernel
theorem dX8_undo_50 : decode cX8_undo 50 = .ok (.iinc 1 1, 3) := by decide +kernel
theorem dX8_undo_53 : decode cX8_undo 53 = .ok (.goto (-31), 3) := by decide +kernel
theorem dX8_undo_56 : decode cX8_undo 56 = .ok (.aload_n 0, 1) := by decide +kernel
theorem dX8_undo_57 : decode cX8_undo 57 = .ok (.getfield 25, 3) := by decide +kernel
theorem dX8_undo_60 : decode cX8_undo 60 = .ok (.ireturn, 1) := by decide +kernel
set_option maxRecDepth 20000 in
theorem ggX8_type_X8_in : GoodIn wsX8_type wsX8_in := goodIn_r _ [6] (by decide +kernel) (by decide +kernel)
set_option maxRecDepth 20000 in
theorem gX8_type_X8_in : GoodIn wsX8_type (va_wsS RX8 29 yX8_in wsX8_in) := goodIn_app (goodIn_of _ (by decide +kernel)) ggX8_type_X8_in
theorem dX8_type_0 : decode cX8_type 0 = .ok (.iload_n 1, 1) := by decide +kernel
theorem dX8_type_1 : decode cX8_type 1 = .ok (.bipush 32, 2) := by decide +kernel
theorem dX8_type_3 : decode cX8_type 3 = .ok (.bipush 126, 2) := by decide +kernel
theorem dX8_type_5 : decode cX8_type 5 = .ok (.invokestatic 29, 3) := by decide +kernel
theorem dX8_type_8 : decode cX8_type 8 = .ok (.ifCond .ne 5, 3) := by decide +kernel
theorem dX8_type_11 : decode cX8_type 11 = .ok (.iconst (-1), 1) := by decide +kernel
theorem dX8_type_12 : decode cX8_type 12 = .ok (.ireturn, 1) := by decide +kernel
theorem dX8_type_13 : decode cX8_type 13 = .ok (.aload_n 0, 1) := by decide +kernel
theorem dX8_type_14 : decode cX8_type 14 = .ok (.getfield 159, 3) := by decide +kernel
theorem dX8_type_17 : decode cX8_type 17 = .ok (.bipush 60, 2) := by decide +kernel
theorem dX8_type_19 : decode cX8_type 19 = .ok (.if_icmp .ne 6, 3) := by decide +kernel
theorem dX8_type_22 : decode cX8_type 22 = .ok (.bipush (-3), 2) := by decide +kernel
theorem dX8_type_24 : decode cX8_type 24 = .ok (.ireturn, 1) := by decide +kernel
theorem dX8_type_25 : decode cX8_type 25 = .ok (.aload_n 0, 1) := by decide +kernel
theorem dX8_type_26 : decode cX8_type 26 = .ok (.getfield 19, 3) := by decide +kernel
theorem dX8_type_29 : decode cX8_type 29 = .ok (.aload_n 0, 1) := by decide +kernel
theorem dX8_type_30 : decode cX8_type 30 = .ok (.getfield 159, 3) := by decide +kernel
theorem dX8_type_33 : decode cX8_type 33 = .ok (.iload_n 1, 1) := by decide +kernel
theorem dX8_type_34 : decode cX8_type 34 = .ok (.iastore, 1) := by decide +kernel
theorem dX8_type_35 : decode cX8_type 35 = .ok (.aload_n 0, 1) := by decide +kernel
theorem dX8_type_36 : decode cX8_type 36 = .ok (.dup, 1) := by decide +kernel
theorem dX8_type_37 : decode cX8_type 37 = .ok (.getfield 159, 3) := by decide +kernel
theorem dX8_type_40 : decode cX8_type 40 = .ok (.iconst 1, 1) := by decide +kernel
theorem dX8_type_41 : decode cX8_type 41 = .ok (.iadd, 1) := by decide +kernel
theorem dX8_type_42 : decode cX8_type 42 = .ok (.putfield 159, 3) := by decide +kernel
theorem dX8_type_45 : decode cX8_type 45 = .ok (.aload_n 0, 1) := by decide +kernel
theorem dX8_type_46 : decode cX8_type 46 = .ok (.getfield 159, 3) := by decide +kernel
theorem dX8_type_49 : decode cX8_type 49 = .ok (.ireturn, 1) := by decide +kernel
theorem dX8_clearText_0 : decode cX8_clearText 0 = .ok (.aload_n 0, 1) := by decide +kernel
theorem dX8_clearText_1 : decode cX8_clearText 1 = .ok (.getfield 159, 3) := by decide +kernel
theorem dX8_clearText_4 : decode cX8_clearText 4 = .ok (.istore_n 1, 1) := by decide +kernel
theorem dX8_clearText_5 : decode cX8_clearText 5 = .ok (.aload_n 0, 1) := by decide +kernel
theorem dX8_clearText_6 : decode cX8_clearText 6 = .ok (.iconst 0, 1) := by decide +kernel
theorem dX8_clearText_7 : decode cX8_clearText 7 = .ok (.putfield 159, 3) := by decide +kernel
theorem dX8_clearText_10 : decode cX8_clearText 10 = .ok (.iload_n 1, 1) := by decide +kernel
theorem dX8_clearText_11 : decode cX8_clearText 11 = .ok (.ireturn, 1) := by decide +kernel
theorem dX8_here_0 : decode cX8_here 0 = .ok (.aload_n 0, 1) := by decide +kernel
theorem dX8_here_1 : decode cX8_here 1 = .ok (.getfield 171, 3) := by decide +kernel
theorem dX8_here_4 : decode cX8_here 4 = .ok (.aload_n 0, 1) := by decide +kernel
theorem dX8_here_5 : decode cX8_here 5 = .ok (.getfield 159, 3) := by decide +kernel
theorem dX8_here_8 : decode cX8_here 8 = .ok (.if_icmp .ge 15, 3) := by decide +kernel
theorem dX8_here_11 : decode cX8_here 11 = .ok (.aload_n 0, 1) := by decide +kernel
theorem dX8_here_12 : decode cX8_here 12 = .ok (.getfield 19, 3) := by decide +kernel
theorem dX8_here_15 : decode cX8_here 15 = .ok (.aload_n 0, 1) := by decide +kernel
theorem dX8_here_16 : decode cX8_here 16 = .ok (.getfield 171, 3) := by decide +kernel
theorem dX8_here_19 : decode cX8_here 19 = .ok (.iaload, 1) := by decide +kernel
theorem dX8_here_20 : decode cX8_here 20 = .ok (.goto 4, 3) := by decide +kernel
theorem dX8_here_23 : decode cX8_here 23 = .ok (.iconst (-1), 1) := by decide +kernel
theorem dX8_here_24 : decode cX8_here 24 = .ok (.ireturn, 1) := by decide +kernel
set_option maxRecDepth 20000 in
theorem ggX8_isDigit_X8_here : GoodIn wsX8_isDigit wsX8_here := goodIn_r _ [5, 6, 7, 8, 12, 13, 14, 15, 16, 17, 18, 19, 20, 21] (by decide +kernel) (by decide +kernel)
set_option maxRecDepth 20000 in
theorem gX8_isDigit_X8_here : GoodIn wsX8_isDigit (wsV RX8 174 RX8 yX8_here wsX8_here) := goodIn_app (goodIn_of _ (by decide +kernel)) ggX8_isDigit_X8_here
set_option maxRecDepth 20000 in
theorem ggX8_isDigit_X8_in : GoodIn wsX8_isDigit wsX8_in := goodIn_r _ [11] (by decide +kernel) (by decide +kernel)
set_option maxRecDepth 20000 in
theorem gX8_isDigit_X8_in : GoodIn wsX8_isDigit (va_wsS RX8 29 yX8_in wsX8_in) := goodIn_app (goodIn_of _ (by decide +kernel)) ggX8_isDigit_X8_in
theorem dX8_isDigit_0 : decode cX8_isDigit 0 = .ok (.aload_n 0, 1) := by decide +kernel
theorem dX8_isDigit_1 : decode cX8_isDigit 1 = .ok (.invokevirtual 174, 3) := by decide +kernel
theorem dX8_isDigit_4 : decode cX8_isDigit 4 = .ok (.bipush 48, 2) := by decide +kernel
theorem dX8_isDigit_6 : decode cX8_isDigit 6 = .ok (.bipush 57, 2) := by decide +kernel
theorem dX8_isDigit_8 : decode cX8_isDigit 8 = .ok (.invokestatic 29, 3) := by decide +kernel
theorem dX8_isDigit_11 : decode cX8_isDigit 11 = .ok (.ireturn, 1) := by decide +kernel
set_option maxRecDepth 20000 in
theorem ggX8_takesSign_X8_here : GoodIn wsX8_takesSign wsX8_here := goodIn_r _ [7, 2, 8, 9, 10, 11, 12, 13, 14, 15, 16, 17, 18, 19] (by decide +kernel) (by decide +kernel)
set_option maxRecDepth 20000 in
theorem gX8_takesSign_X8_here : GoodIn wsX8_takesSign (wsV RX8 174 RX8 yX8_here wsX8_here) := goodIn_app (goodIn_of _ (by decide +kernel)) ggX8_takesSign_X8_here
theorem dX8_takesSign_0 : decode cX8_takesSign 0 = .ok (.aload_n 0, 1) := by decide +kernel
theorem dX8_takesSign_1 : decode cX8_takesSign 1 = .ok (.aload_n 0, 1) := by decide +kernel
theorem dX8_takesSign_2 : decode cX8_takesSign 2 = .ok (.getfield 177, 3) := by decide +kernel
theorem dX8_takesSign_5 : decode cX8_takesSign 5 = .ok (.ifCond .eq 15, 3) := by decide +kernel
theorem dX8_takesSign_8 : decode cX8_takesSign 8 = .ok (.aload_n 0, 1) := by decide +kernel
theorem dX8_takesSign_9 : decode cX8_takesSign 9 = .ok (.invokevirtual 174, 3) := by decide +kernel
theorem dX8_takesSign_12 : decode cX8_takesSign 12 = .ok (.iload_n 1, 1) := by decide +kernel
theorem dX8_takesSign_13 : decode cX8_takesSign 13 = .ok (.if_icmp .ne 7, 3) := by decide +kernel
theorem dX8_takesSign_16 : decode cX8_takesSign 16 = .ok (.iconst 1, 1) := by decide +kernel
theorem dX8_takesSign_17 : decode cX8_takesSign 17 = .ok (.goto 4, 3) := by decide +kernel
theorem dX8_takesSign_20 : decode cX8_takesSign 20 = .ok (.iconst 0, 1) := by decide +kernel
theorem dX8_takesSign_21 : decode cX8_takesSign 21 = .ok (.putfield 177, 3) := by decide +kernel
theorem dX8_takesSign_24 : decode cX8_takesSign 24 = .ok (.aload_n 0, 1) := by decide +kernel
theorem dX8_takesSign_25 : decode cX8_takesSign 25 = .ok (.dup, 1) := by decide +kernel
theorem dX8_takesSign_26 : decode cX8_takesSign 26 = .ok (.getfield 171, 3) := by decide +kernel
theorem dX8_takesSign_29 : decode cX8_takesSign 29 = .ok (.aload_n 0, 1) := by decide +kernel
theorem dX8_takesSign_30 : decode cX8_takesSign 30 = .ok (.getfield 177, 3) := by decide +kernel
theorem dX8_takesSign_33 : decode cX8_takesSign 33 = .ok (.ifCond .eq 7, 3) := by decide +kernel
theorem dX8_takesSign_36 : decode cX8_takesSign 36 = .ok (.iconst 1, 1) := by decide +kernel
theorem dX8_takesSign_37 : decode cX8_takesSign 37 = .ok (.goto 4, 3) := by decide +kernel
theorem dX8_takesSign_40 : decode cX8_takesSign 40 = .ok (.iconst 0, 1) := by decide +kernel
theorem dX8_takesSign_41 : decode cX8_takesSign 41 = .ok (.iadd, 1) := by decide +kernel
theorem dX8_takesSign_42 : decode cX8_takesSign 42 = .ok (.putfield 171, 3) := by decide +kernel
theorem dX8_takesSign_45 : decode cX8_takesSign 45 = .ok (.return_, 1) := by decide +kernel
set_option maxRecDepth 20000 in
theorem ggX8_number_X8_isDigit : GoodIn wsX8_number wsX8_isDigit := goodIn_r _ [7, 8, 9, 10, 6, 11, 2, 12, 13, 14, 15, 16, 17, 18, 19, 20, 21, 22, 23, 24, 25, 26] (by decide +kernel) (by decide +kernel)
set_option maxRecDepth 20000 in
theorem gX8_number_X8_isDigit : GoodIn wsX8_number (wsV RX8 181 RX8 yX8_isDigit wsX8_isDigit) := goodIn_app (goodIn_of _ (by decide +kernel)) ggX8_number_X8_isDigit
set_option maxRecDepth 20000 in
theorem ggX8_number_X8_here : GoodIn wsX8_number wsX8_here := goodIn_r _ [11, 2, 12, 13, 17, 18, 19, 20, 21, 22, 23, 24, 25, 26] (by decide +kernel) (by decide +kernel)
set_option maxRecDepth 20000 in
theorem gX8_number_X8_here : GoodIn wsX8_number (wsV RX8 174 RX8 yX8_here wsX8_here) := goodIn_app (goodIn_of _ (by decide +kernel)) ggX8_number_X8_here
theorem dX8_number_0 : decode cX8_number 0 = .ok (.aload_n 0, 1) := by decide +kernel
theorem dX8_number_1 : decode cX8_number 1 = .ok (.aload_n 0, 1) := by decide +kernel
theorem dX8_number_2 : decode cX8_number 2 = .ok (.getfield 177, 3) := by decide +kernel
theorem dX8_number_5 : decode cX8_number 5 = .ok (.ifCond .eq 14, 3) := by decide +kernel
theorem dX8_number_8 : decode cX8_number 8 = .ok (.aload_n 0, 1) := by decide +kernel
theorem dX8_number_9 : decode cX8_number 9 = .ok (.invokevirtual 181, 3) := by decide +kernel
theorem dX8_number_12 : decode cX8_number 12 = .ok (.ifCond .eq 7, 3) := by decide +kernel
theorem dX8_number_15 : decode cX8_number 15 = .ok (.iconst 1, 1) := by decide +kernel
theorem dX8_number_16 : decode cX8_number 16 = .ok (.goto 4, 3) := by decide +kernel
theorem dX8_number_19 : decode cX8_number 19 = .ok (.iconst 0, 1) := by decide +kernel
theorem dX8_number_20 : decode cX8_number 20 = .ok (.putfield 177, 3) := by decide +kernel
theorem dX8_number_23 : decode cX8_number 23 = .ok (.iconst 0, 1) := by decide +kernel
theorem dX8_number_24 : decode cX8_number 24 = .ok (.istore_n 1, 1) := by decide +kernel
theorem dX8_number_25 : decode cX8_number 25 = .ok (.iconst 0, 1) := by decide +kernel
theorem dX8_number_26 : decode cX8_number 26 = .ok (.istore_n 2, 1) := by decide +kernel
theorem dX8_number_27 : decode cX8_number 27 = .ok (.iload_n 2, 1) := by decide +kernel
theorem dX8_number_28 : decode cX8_number 28 = .ok (.iconst 4, 1) := by decide +kernel
theorem dX8_number_29 : decode cX8_number 29 = .ok (.if_icmp .ge 46, 3) := by decide +kernel
theorem dX8_number_32 : decode cX8_number 32 = .ok (.aload_n 0, 1) := by decide +kernel
theorem dX8_number_33 : decode cX8_number 33 = .ok (.getfield 177, 3) := by decide +kernel
theorem dX8_number_36 : decode cX8_number 36 = .ok (.ifCond .eq 39, 3) := by decide +kernel
theorem dX8_number_39 : decode cX8_number 39 = .ok (.aload_n 0, 1) := by decide +kernel
theorem dX8_number_40 : decode cX8_number 40 = .ok (.invokevirtual 181, 3) := by decide +kernel
theorem dX8_number_43 : decode cX8_number 43 = .ok (.ifCond .eq 32, 3) := by decide +kernel
theorem dX8_number_46 : decode cX8_number 46 = .ok (.bipush 10, 2) := by decide +kernel
theorem dX8_number_48 : decode cX8_number 48 = .ok (.iload_n 1, 1) := by decide +kernel
theorem dX8_number_49 : decode cX8_number 49 = .ok (.imul, 1) := by decide +kernel
theorem dX8_number_50 : decode cX8_number 50 = .ok (.aload_n 0, 1) := by decide +kernel
theorem dX8_number_51 : decode cX8_number 51 = .ok (.invokevirtual 174, 3) := by decide +kernel
theorem dX8_number_54 : decode cX8_number 54 = .ok (.iadd, 1) := by decide +kernel
theorem dX8_number_55 : decode cX8_number 55 = .ok (.bipush 48, 2) := by decide +kernel
theorem dX8_number_57 : decode cX8_number 57 = .ok (.isub, 1) := by decide +kernel
theorem dX8_number_58 : decode cX8_number 58 = .ok (.istore_n 1, 1) := by decide +kernel
theorem dX8_number_59 : decode cX8_number 59 = .ok (.aload_n 0, 1) := by decide +kernel
theorem dX8_number_60 : decode cX8_number 60 = .ok (.dup, 1) := by decide +kernel
theorem dX8_number_61 : decode cX8_number 61 = .ok (.getfield 171, 3) := by decide +kernel
theorem dX8_number_64 : decode cX8_number 64 = .ok (.iconst 1, 1) := by decide +kernel
theorem dX8_number_65 : decode cX8_number 65 = .ok (.iadd, 1) := by decide +kernel
theorem dX8_number_66 : decode cX8_number 66 = .ok (.putfield 171, 3) := by decide +kernel
theorem dX8_number_69 : decode cX8_number 69 = .ok (.iinc 2 1, 3) := by decide +kernel
theorem dX8_number_72 : decode cX8_number 72 = .ok (.goto (-45), 3) := by decide +kernel
theorem dX8_number_75 : decode cX8_number 75 = .ok (.iload_n 1, 1) := by decide +kernel
theorem dX8_number_76 : decode cX8_number 76 = .ok (.ireturn, 1) := by decide +kernel
theorem dX8_hasTwo_0 : decode cX8_hasTwo 0 = .ok (.iload_n 0, 1) := by decide +kernel
theorem dX8_hasTwo_1 : decode cX8_hasTwo 1 = .ok (.bipush 114, 2) := by decide +kernel
theorem dX8_hasTwo_3 : decode cX8_hasTwo 3 = .ok (.if_icmp .eq 27, 3) := by decide +kernel
theorem dX8_hasTwo_6 : decode cX8_hasTwo 6 = .ok (.iload_n 0, 1) := by decide +kernel
theorem dX8_hasTwo_7 : decode cX8_hasTwo 7 = .ok (.bipush 102, 2) := by decide +kernel
theorem dX8_hasTwo_9 : decode cX8_hasTwo 9 = .ok (.if_icmp .eq 21, 3) := by decide +kernel
theorem dX8_hasTwo_12 : decode cX8_hasTwo 12 = .ok (.iload_n 0, 1) := by decide +kernel
theorem dX8_hasTwo_13 : decode cX8_hasTwo 13 = .ok (.bipush 110, 2) := by decide +kernel
theorem dX8_hasTwo_15 : decode cX8_hasTwo 15 = .ok (.if_icmp .eq 15, 3) := by decide +kernel
theorem dX8_hasTwo_18 : decode cX8_hasTwo 18 = .ok (.iload_n 0, 1) := by decide +kernel
theorem dX8_hasTwo_19 : decode cX8_hasTwo 19 = .ok (.bipush 116, 2) := by decide +kernel
theorem dX8_hasTwo_21 : decode cX8_hasTwo 21 = .ok (.if_icmp .eq 9, 3) := by decide +kernel
theorem dX8_hasTwo_24 : decode cX8_hasTwo 24 = .ok (.iload_n 0, 1) := by decide +kernel
theorem dX8_hasTwo_25 : decode cX8_hasTwo 25 = .ok (.bipush 103, 2) := by decide +kernel
theorem dX8_hasTwo_27 : decode cX8_hasTwo 27 = .ok (.if_icmp .ne 7, 3) := by decide +kernel
theorem dX8_hasTwo_30 : decode cX8_hasTwo 30 = .ok (.iconst 1, 1) := by decide +kernel
theorem dX8_hasTwo_31 : decode cX8_hasTwo 31 = .ok (.goto 4, 3) := by decide +kernel
theorem dX8_hasTwo_34 : decode cX8_hasTwo 34 = .ok (.iconst 0, 1) := by decide +kernel
theorem dX8_hasTwo_35 : decode cX8_hasTwo 35 = .ok (.ireturn, 1) := by decide +kernel
set_option maxRecDepth 20000 in
theorem ggX8_called_X8_reserves : GoodIn wsX8_called wsX8_reserves := goodIn_r _ [5, 6, 7, 8, 9, 4, 10, 11, 12, 13, 14, 15, 16, 17, 18, 19, 20, 21, 22, 23, 24, 25, 26, 27, 28, 29, 30, 31, 32, 33, 34, 35, 36, 37, 38, 39, 40, 41, 141, 142, 143, 144, 145, 146, 147, 148, 149, 150] (by decide +kernel) (by decide +kernel)
set_option maxRecDepth 20000 in
theorem gX8_called_X8_reserves : GoodIn wsX8_called (wsV RX8 135 RX8 yX8_reserves wsX8_reserves) := goodIn_app (goodIn_of _ (by decide +kernel)) ggX8_called_X8_reserves
set_option maxRecDepth 20000 in
theorem ggX8_called_X8_fetches : GoodIn wsX8_called wsX8_fetches := goodIn_r _ [45, 6, 46, 47, 48, 4, 49, 11, 12, 13, 30, 31, 32, 33, 50, 51, 52, 53, 38, 39, 40, 41, 54, 55, 56, 57, 22, 23, 24, 25, 58, 59, 60, 61, 141, 142, 143, 144, 145, 146, 147, 148, 149, 150] (by decide +kernel) (by decide +kernel)
set_option maxRecDepth 20000 in
theorem gX8_called_X8_fetches : GoodIn wsX8_called (wsV RX8 138 RX8 yX8_fetches wsX8_fetches) := goodIn_app (goodIn_of _ (by decide +kernel)) ggX8_called_X8_fetches
set_option maxRecDepth 20000 in
theorem ggX8_called_X8_takes : GoodIn wsX8_called wsX8_takes := goodIn_r _ [65, 66, 67, 68, 4, 69, 6, 11, 12, 13, 14, 15, 16, 17, 70, 71, 72, 73, 50, 51, 52, 53, 30, 31, 32, 33, 74, 75, 76, 77, 78, 79, 80, 81, 82, 83, 84, 85, 86, 87, 88, 38, 39, 40, 41, 54, 55, 56, 57, 141, 142, 143, 144, 145, 146, 147, 148, 149, 150] (by decide +kernel) (by decide +kernel)
set_option maxRecDepth 20000 in
theorem gX8_called_X8_takes : GoodIn wsX8_called (wsV RX8 141 RX8 yX8_takes wsX8_takes) := goodIn_app (goodIn_of _ (by decide +kernel)) ggX8_called_X8_takes
set_option maxRecDepth 20000 in
theorem ggX8_called_X8_goes : GoodIn wsX8_called wsX8_goes := goodIn_r _ [92, 6, 66, 67, 68, 4, 69, 11, 12, 13, 46, 47, 48, 49, 81, 82, 83, 84, 85, 86, 87, 88, 93, 94, 95, 96, 97, 98, 99, 100, 141, 142, 143, 144, 145, 146, 147, 148, 149, 150] (by decide +kernel) (by decide +kernel)
set_option maxRecDepth 20000 in
theorem gX8_called_X8_goes : GoodIn wsX8_called (wsV RX8 144 RX8 yX8_goes wsX8_goes) := goodIn_app (goodIn_of _ (by decide +kernel)) ggX8_called_X8_goes
set_option maxRecDepth 20000 in
theorem ggX8_called_X8_puts : GoodIn wsX8_called wsX8_puts := goodIn_r _ [104, 66, 67, 68, 4, 69, 6, 11, 12, 13, 81, 82, 83, 84, 85, 86, 87, 88, 105, 106, 107, 108, 74, 75, 76, 77, 30, 31, 32, 33, 109, 110, 111, 112, 113, 114, 115, 116, 70, 71, 72, 73, 50, 51, 52, 53, 78, 79, 80, 38, 39, 40, 41, 54, 55, 56, 57, 141, 142, 143, 144, 145, 146, 147, 148, 149, 150] (by decide +kernel) (by decide +kernel)
set_option maxRecDepth 20000 in
theorem gX8_called_X8_puts : GoodIn wsX8_called (wsV RX8 147 RX8 yX8_puts wsX8_puts) := goodIn_app (goodIn_of _ (by decide +kernel)) ggX8_called_X8_puts
set_option maxRecDepth 20000 in
theorem ggX8_called_X8_lets : GoodIn wsX8_called wsX8_lets := goodIn_r _ [120, 6, 11, 12, 4, 13, 121, 122, 123, 124, 125, 126, 127, 128, 85, 86, 87, 88, 81, 82, 83, 84, 97, 98, 99, 100, 30, 31, 32, 33, 129, 130, 131, 132, 113, 114, 115, 116, 38, 39, 40, 41, 133, 134, 135, 136, 54, 55, 56, 57, 105, 106, 107, 108, 74, 75, 76, 77, 109, 110, 111, 112, 70, 71, 72, 73, 50, 51, 52, 53, 78, 79, 80, 137, 138, 139, 140, 22, 23, 24, 25, 58, 59, 60, 61, 141, 142, 143, 144, 145, 146, 147, 148, 149, 150] (by decide +kernel) (by decide +kernel)
set_option maxRecDepth 20000 in
theorem gX8_called_X8_lets : GoodIn wsX8_called (wsV RX8 150 RX8 yX8_lets wsX8_lets) := goodIn_app (goodIn_of _ (by decide +kernel)) ggX8_called_X8_lets
theorem dX8_called_0 : decode cX8_called 0 = .ok (.iload_n 1, 1) := by decide +kernel
theorem dX8_called_1 : decode cX8_called 1 = .ok (.tableswitch 118 102 116 #[82, 105, 118, 118, 118, 118, 118, 118, 90, 118, 112, 118, 75, 118, 98], 75) := by decide +kernel
theorem dX8_called_76 : decode cX8_called 76 = .ok (.aload_n 0, 1) := by decide +kernel
theorem dX8_called_77 : decode cX8_called 77 = .ok (.iload_n 2, 1) := by decide +kernel
theorem dX8_called_78 : decode cX8_called 78 = .ok (.iload_n 3, 1) := by decide +kernel
theorem dX8_called_79 : decode cX8_called 79 = .ok (.invokevirtual 135, 3) := by decide +kernel
theorem dX8_called_82 : decode cX8_called 82 = .ok (.ireturn, 1) := by decide +kernel
theorem dX8_called_83 : decode cX8_called 83 = .ok (.aload_n 0, 1) := by decide +kernel
theorem dX8_called_84 : decode cX8_called 84 = .ok (.iload_n 2, 1) := by decide +kernel
theorem dX8_called_85 : decode cX8_called 85 = .ok (.iload_n 3, 1) := by decide +kernel
theorem dX8_called_86 : decode cX8_called 86 = .ok (.iconst 0, 1) := by decide +kernel
theorem dX8_called_87 : decode cX8_called 87 = .ok (.invokevirtual 138, 3) := by decide +kernel
theorem dX8_called_90 : decode cX8_called 90 = .ok (.ireturn, 1) := by decide +kernel
theorem dX8_called_91 : decode cX8_called 91 = .ok (.aload_n 0, 1) := by decide +kernel
theorem dX8_called_92 : decode cX8_called 92 = .ok (.iload_n 2, 1) := by decide +kernel
theorem dX8_called_93 : decode cX8_called 93 = .ok (.iload_n 3, 1) := by decide +kernel
theorem dX8_called_94 : decode cX8_called 94 = .ok (.iconst 1, 1) := by decide +kernel
theorem dX8_called_95 : decode cX8_called 95 = .ok (.invokevirtual 138, 3) := by decide +kernel
theorem dX8_called_98 : decode cX8_called 98 = .ok (.ireturn, 1) := by decide +kernel
theorem dX8_called_99 : decode cX8_called 99 = .ok (.aload_n 0, 1) := by decide +kernel
theorem dX8_called_100 : decode cX8_called 100 = .ok (.iload_n 2, 1) := by decide +kernel
theorem dX8_called_101 : decode cX8_called 101 = .ok (.iload_n 3, 1) := by decide +kernel
theorem dX8_called_102 : decode cX8_called 102 = .ok (.invokevirtual 141, 3) := by decide +kernel
theorem dX8_called_105 : decode cX8_called 105 = .ok (.ireturn, 1) := by decide +kernel
theorem dX8_called_106 : decode cX8_called 106 = .ok (.aload_n 0, 1) := by decide +kernel
theorem dX8_called_107 : decode cX8_called 107 = .ok (.iload_n 2, 1) := by decide +kernel
theorem dX8_called_108 : decode cX8_called 108 = .ok (.iload_n 3, 1) := by decide +kernel
theorem dX8_called_109 : decode cX8_called 109 = .ok (.invokevirtual 144, 3) := by decide +kernel
theorem dX8_called_112 : decode cX8_called 112 = .ok (.ireturn, 1) := by decide +kernel
theorem dX8_called_113 : decode cX8_called 113 = .ok (.aload_n 0, 1) := by decide +kernel
theorem dX8_called_114 : decode cX8_called 114 = .ok (.iload_n 2, 1) := by decide +kernel
theorem dX8_called_115 : decode cX8_called 115 = .ok (.invokevirtual 147, 3) := by decide +kernel
theorem dX8_called_118 : decode cX8_called 118 = .ok (.ireturn, 1) := by decide +kernel
theorem dX8_called_119 : decode cX8_called 119 = .ok (.aload_n 0, 1) := by decide +kernel
theorem dX8_called_120 : decode cX8_called 120 = .ok (.iload_n 2, 1) := by decide +kernel
theorem dX8_called_121 : decode cX8_called 121 = .ok (.invokevirtual 150, 3) := by decide +kernel
theorem dX8_called_124 : decode cX8_called 124 = .ok (.ireturn, 1) := by decide +kernel
set_option maxRecDepth 20000 in
theorem ggX8_does_X8_here : GoodIn wsX8_does wsX8_here := goodIn_r _ [10, 1, 3, 11, 170, 171, 172, 173, 174, 175, 176, 177, 178, 179] (by decide +kernel) (by decide +kernel)
set_option maxRecDepth 20000 in
theorem gX8_does_X8_here : GoodIn wsX8_does (wsV RX8 174 RX8 yX8_here wsX8_here) := goodIn_app (goodIn_of _ (by decide +kernel)) ggX8_does_X8_here
set_option maxRecDepth 20000 in
theorem ggX8_does_X8_hasTwo : GoodIn wsX8_does wsX8_hasTwo := goodIn_r _ [14] (by decide +kernel) (by decide +kernel)
set_option maxRecDepth 20000 in
theorem gX8_does_X8_hasTwo : GoodIn wsX8_does (va_wsS RX8 188 yX8_hasTwo wsX8_hasTwo) := goodIn_app (goodIn_of _ (by decide +kernel)) ggX8_does_X8_hasTwo
set_option maxRecDepth 20000 in
theorem ggX8_does_X8_number : GoodIn wsX8_does wsX8_number := goodIn_r _ [18, 4, 1, 19, 20, 21, 9, 22, 6, 7, 8, 10, 3, 11, 23, 24, 25, 170, 171, 172, 173, 174, 175, 176, 177, 178, 179] (by decide +kernel) (by decide +kernel)
set_option maxRecDepth 20000 in
theorem gX8_does_X8_number : GoodIn wsX8_does (wsV RX8 191 RX8 yX8_number wsX8_number) := goodIn_app (goodIn_of _ (by decide +kernel)) ggX8_does_X8_number
set_option maxRecDepth 20000 in
theorem ggX8_does_X8_takesSign : GoodIn wsX8_does wsX8_takesSign := goodIn_r _ [29, 4, 1, 6, 7, 8, 9, 10, 3, 11, 170, 171, 172, 173, 174, 175, 176, 177, 178, 179] (by decide +kernel) (by decide +kernel)
set_option maxRecDepth 20000 in
theorem gX8_does_X8_takesSign : GoodIn wsX8_does (wsV RX8 194 RX8 yX8_takesSign wsX8_takesSign) := goodIn_app (goodIn_of _ (by decide +kernel)) ggX8_does_X8_takesSign
set_option maxRecDepth 20000 in
theorem ggX8_does_X8_called : GoodIn wsX8_does wsX8_called := goodIn_r _ [33, 34, 35, 36, 9, 37, 38, 39, 40, 41, 42, 23, 24, 25, 43, 44, 45, 46, 47, 48, 49, 50, 51, 52, 53, 54, 55, 56, 57, 58, 59, 60, 61, 62, 63, 64, 65, 66, 67, 68, 69, 70, 71, 72, 73, 74, 75, 76, 77, 78, 79, 80, 81, 82, 83, 84, 85, 86, 87, 88, 89, 90, 91, 92, 93, 94, 95, 96, 97, 98, 99, 100, 101, 102, 103, 104, 105, 106, 107, 108, 109, 110, 111, 112, 113, 114, 115, 116, 117, 118, 119, 120, 121, 122, 123, 124, 125, 126, 127, 128, 129, 130, 131, 132, 133, 134, 135, 136, 137, 138, 139, 140, 141, 142, 143, 144, 145, 146, 147, 148, 149, 150, 151, 152, 153, 154, 155, 156, 157, 158, 159, 160, 161, 162, 163, 164, 165, 166, 167, 168, 169, 170, 171, 172, 173, 174, 175, 176, 177, 178, 179] (by decide +kernel) (by decide +kernel)
set_option maxRecDepth 20000 in
theorem gX8_does_X8_called : GoodIn wsX8_does (wsV RX8 197 RX8 yX8_called wsX8_called) := goodIn_app (goodIn_of _ (by decide +kernel)) ggX8_does_X8_called
theorem dX8_does_0 : decode cX8_does 0 = .ok (.aload_n 0, 1) := by decide +kernel
theorem dX8_does_1 : decode cX8_does 1 = .ok (.iconst 0, 1) := by decide +kernel
theorem dX8_does_2 : decode cX8_does 2 = .ok (.putfield 171, 3) := by decide +kernel
theorem dX8_does_5 : decode cX8_does 5 = .ok (.aload_n 0, 1) := by decide +kernel
theorem dX8_does_6 : decode cX8_does 6 = .ok (.iconst 0, 1) := by decide +kernel
theorem dX8_does_7 : decode cX8_does 7 = .ok (.putfield 185, 3) := by decide +kernel
theorem dX8_does_10 : decode cX8_does 10 = .ok (.aload_n 0, 1) := by decide +kernel
theorem dX8_does_11 : decode cX8_does 11 = .ok (.getfield 171, 3) := by decide +kernel
theorem dX8_does_14 : decode cX8_does 14 = .ok (.aload_n 0, 1) := by decide +kernel
theorem dX8_does_15 : decode cX8_does 15 = .ok (.getfield 159, 3) := by decide +kernel
theorem dX8_does_18 : decode cX8_does 18 = .ok (.if_icmp .ge 176, 3) := by decide +kernel
theorem dX8_does_21 : decode cX8_does 21 = .ok (.aload_n 0, 1) := by decide +kernel
theorem dX8_does_22 : decode cX8_does 22 = .ok (.getfield 171, 3) := by decide +kernel
theorem dX8_does_25 : decode cX8_does 25 = .ok (.istore_n 1, 1) := by decide +kernel
theorem dX8_does_26 : decode cX8_does 26 = .ok (.aload_n 0, 1) := by decide +kernel
theorem dX8_does_27 : decode cX8_does 27 = .ok (.invokevirtual 174, 3) := by decide +kernel
theorem dX8_does_30 : decode cX8_does 30 = .ok (.istore_n 2, 1) := by decide +kernel
theorem dX8_does_31 : decode cX8_does 31 = .ok (.aload_n 0, 1) := by decide +kernel
theorem dX8_does_32 : decode cX8_does 32 = .ok (.iload_n 2, 1) := by decide +kernel
theorem dX8_does_33 : decode cX8_does 33 = .ok (.invokestatic 188, 3) := by decide +kernel
theorem dX8_does_36 : decode cX8_does 36 = .ok (.ifCond .ne 15, 3) := by decide +kernel
theorem dX8_does_39 : decode cX8_does 39 = .ok (.iload_n 2, 1) := by decide +kernel
theorem dX8_does_40 : decode cX8_does 40 = .ok (.bipush 112, 2) := by decide +kernel
theorem dX8_does_42 : decode cX8_does 42 = .ok (.if_icmp .eq 9, 3) := by decide +kernel
theorem dX8_does_45 : decode cX8_does 45 = .ok (.iload_n 2, 1) := by decide +kernel
theorem dX8_does_46 : decode cX8_does 46 = .ok (.bipush 104, 2) := by decide +kernel
theorem dX8_does_48 : decode cX8_does 48 = .ok (.if_icmp .ne 7, 3) := by decide +kernel
theorem dX8_does_51 : decode cX8_does 51 = .ok (.iconst 1, 1) := by decide +kernel
theorem dX8_does_52 : decode cX8_does 52 = .ok (.goto 4, 3) := by decide +kernel
theorem dX8_does_55 : decode cX8_does 55 = .ok (.iconst 0, 1) := by decide +kernel
theorem dX8_does_56 : decode cX8_does 56 = .ok (.putfield 177, 3) := by decide +kernel
theorem dX8_does_59 : decode cX8_does 59 = .ok (.aload_n 0, 1) := by decide +kernel
theorem dX8_does_60 : decode cX8_does 60 = .ok (.dup, 1) := by decide +kernel
theorem dX8_does_61 : decode cX8_does 61 = .ok (.getfield 171, 3) := by decide +kernel
theorem dX8_does_64 : decode cX8_does 64 = .ok (.aload_n 0, 1) := by decide +kernel
theorem dX8_does_65 : decode cX8_does 65 = .ok (.getfield 177, 3) := by decide +kernel
theorem dX8_does_68 : decode cX8_does 68 = .ok (.ifCond .eq 7, 3) := by decide +kernel
theorem dX8_does_71 : decode cX8_does 71 = .ok (.iconst 1, 1) := by decide +kernel
theorem dX8_does_72 : decode cX8_does 72 = .ok (.goto 4, 3) := by decide +kernel
theorem dX8_does_75 : decode cX8_does 75 = .ok (.iconst 0, 1) := by decide +kernel
theorem dX8_does_76 : decode cX8_does 76 = .ok (.iadd, 1) := by decide +kernel
theorem dX8_does_77 : decode cX8_does 77 = .ok (.putfield 171, 3) := by decide +kernel
theorem dX8_does_80 : decode cX8_does 80 = .ok (.aload_n 0, 1) := by decide +kernel
theorem dX8_does_81 : decode cX8_does 81 = .ok (.invokevirtual 191, 3) := by decide +kernel
theorem dX8_does_84 : decode cX8_does 84 = .ok (.istore_n 3, 1) := by decide +kernel
theorem dX8_does_85 : decode cX8_does 85 = .ok (.iconst 0, 1) := by decide +kernel
theorem dX8_does_86 : decode cX8_does 86 = .ok (.istore 4, 2) := by decide +kernel
theorem dX8_does_88 : decode cX8_does 88 = .ok (.aload_n 0, 1) := by decide +kernel
theorem dX8_does_89 : decode cX8_does 89 = .ok (.getfield 177, 3) := by decide +kernel
theorem dX8_does_92 : decode cX8_does 92 = .ok (.ifCond .eq 22, 3) := by decide +kernel
theorem dX8_does_95 : decode cX8_does 95 = .ok (.iload_n 2, 1) := by decide +kernel
theorem dX8_does_96 : decode cX8_does 96 = .ok (.invokestatic 188, 3) := by decide +kernel
theorem dX8_does_99 : decode cX8_does 99 = .ok (.ifCond .eq 15, 3) := by decide +kernel
theorem dX8_does_102 : decode cX8_does 102 = .ok (.aload_n 0, 1) := by decide +kernel
theorem dX8_does_103 : decode cX8_does 103 = .ok (.bipush 44, 2) := by decide +kernel
theorem dX8_does_105 : decode cX8_does 105 = .ok (.invokevirtual 194, 3) := by decide +kernel
theorem dX8_does_108 : decode cX8_does 108 = .ok (.aload_n 0, 1) := by decide +kernel
theorem dX8_does_109 : decode cX8_does 109 = .ok (.invokevirtual 191, 3) := by decide +kernel
theorem dX8_does_112 : decode cX8_does 112 = .ok (.istore 4, 2) := by decide +kernel
theorem dX8_does_114 : decode cX8_does 114 = .ok (.aload_n 0, 1) := by decide +kernel
theorem dX8_does_115 : decode cX8_does 115 = .ok (.bipush 59, 2) := by decide +kernel
theorem dX8_does_117 : decode cX8_does 117 = .ok (.invokevirtual 194, 3) := by decide +kernel
theorem dX8_does_120 : decode cX8_does 120 = .ok (.aload_n 0, 1) := by decide +kernel
theorem dX8_does_121 : decode cX8_does 121 = .ok (.getfield 177, 3) := by decide +kernel
theorem dX8_does_124 : decode cX8_does 124 = .ok (.ifCond .eq 14, 3) := by decide +kernel
theorem dX8_does_127 : decode cX8_does 127 = .ok (.aload_n 0, 1) := by decide +kernel
theorem dX8_does_128 : decode cX8_does 128 = .ok (.iload_n 2, 1) := by decide +kernel
theorem dX8_does_129 : decode cX8_does 129 = .ok (.iload_n 3, 1) := by decide +kernel
theorem dX8_does_130 : decode cX8_does 130 = .ok (.iload 4, 2) := by decide +kernel
theorem dX8_does_132 : decode cX8_does 132 = .ok (.invokevirtual 197, 3) := by decide +kernel
theorem dX8_does_135 : decode cX8_does 135 = .ok (.goto 4, 3) := by decide +kernel
theorem dX8_does_138 : decode cX8_does 138 = .ok (.iconst 0, 1) := by decide +kernel
theorem dX8_does_139 : decode cX8_does 139 = .ok (.istore 5, 2) := by decide +kernel
theorem dX8_does_141 : decode cX8_does 141 = .ok (.aload_n 0, 1) := by decide +kernel
theorem dX8_does_142 : decode cX8_does 142 = .ok (.aload_n 0, 1) := by decide +kernel
theorem dX8_does_143 : decode cX8_does 143 = .ok (.getfield 177, 3) := by decide +kernel
theorem dX8_does_146 : decode cX8_does 146 = .ok (.ifCond .ne 7, 3) := by decide +kernel
theorem dX8_does_149 : decode cX8_does 149 = .ok (.iconst 1, 1) := by decide +kernel
theorem dX8_does_150 : decode cX8_does 150 = .ok (.goto 14, 3) := by decide +kernel
theorem dX8_does_153 : decode cX8_does 153 = .ok (.iload 5, 2) := by decide +kernel
theorem dX8_does_155 : decode cX8_does 155 = .ok (.iconst (-1), 1) := by decide +kernel
theorem dX8_does_156 : decode cX8_does 156 = .ok (.if_icmp .ne 7, 3) := by decide +kernel
theorem dX8_does_159 : decode cX8_does 159 = .ok (.iconst 2, 1) := by decide +kernel
theorem dX8_does_160 : decode cX8_does 160 = .ok (.goto 4, 3) := by decide +kernel
theorem dX8_does_163 : decode cX8_does 163 = .ok (.iconst 3, 1) := by decide +kernel
theorem dX8_does_164 : decode cX8_does 164 = .ok (.putfield 200, 3) := by decide +kernel
theorem dX8_does_167 : decode cX8_does 167 = .ok (.aload_n 0, 1) := by decide +kernel
theorem dX8_does_168 : decode cX8_does 168 = .ok (.getfield 177, 3) := by decide +kernel
theorem dX8_does_171 : decode cX8_does 171 = .ok (.ifCond .eq 8, 3) := by decide +kernel
theorem dX8_does_174 : decode cX8_does 174 = .ok (.iload 5, 2) := by decide +kernel
theorem dX8_does_176 : decode cX8_does 176 = .ok (.ifCond .ge 5, 3) := by decide +kernel
theorem dX8_does_179 : decode cX8_does 179 = .ok (.iload_n 1, 1) := by decide +kernel
theorem dX8_does_180 : decode cX8_does 180 = .ok (.ireturn, 1) := by decide +kernel
theorem dX8_does_181 : decode cX8_does 181 = .ok (.aload_n 0, 1) := by decide +kernel
theorem dX8_does_182 : decode cX8_does 182 = .ok (.dup, 1) := by decide +kernel
theorem dX8_does_183 : decode cX8_does 183 = .ok (.getfield 185, 3) := by decide +kernel
theorem dX8_does_186 : decode cX8_does 186 = .ok (.iconst 1, 1) := by decide +kernel
theorem dX8_does_187 : decode cX8_does 187 = .ok (.iadd, 1) := by decide +kernel
theorem dX8_does_188 : decode cX8_does 188 = .ok (.putfield 185, 3) := by decide +kernel
theorem dX8_does_191 : decode cX8_does 191 = .ok (.goto (-181), 3) := by decide +kernel
theorem dX8_does_194 : decode cX8_does 194 = .ok (.iconst (-1), 1) := by decide +kernel
theorem dX8_does_195 : decode cX8_does 195 = .ok (.ireturn, 1) := by decide +kernel
set_option maxRecDepth 20000 in
theorem ggX8_fault_X8_in : GoodIn wsX8_fault wsX8_in := goodIn_r _ [5] (by decide +kernel) (by decide +kernel)
set_option maxRecDepth 20000 in
theorem gX8_fault_X8_in : GoodIn wsX8_fault (va_wsS RX8 29 yX8_in wsX8_in) := goodIn_app (goodIn_of _ (by decide +kernel)) ggX8_fault_X8_in
set_option maxRecDepth 20000 in
theorem ggX8_fault_X8_begins : GoodIn wsX8_fault wsX8_begins := goodIn_r _ [9, 10, 11, 183, 184, 185, 186, 187, 188, 189, 190, 191, 192] (by decide +kernel) (by decide +kernel)
set_option maxRecDepth 20000 in
theorem gX8_fault_X8_begins : GoodIn wsX8_fault (wsV RX8 125 RX8 yX8_begins wsX8_begins) := goodIn_app (goodIn_of _ (by decide +kernel)) ggX8_fault_X8_begins
set_option maxRecDepth 20000 in
theorem ggX8_fault_X8_does : GoodIn wsX8_fault wsX8_does := goodIn_r _ [15, 16, 17, 18, 19, 1, 20, 21, 22, 4, 23, 24, 25, 26, 27, 28, 29, 30, 31, 32, 33, 34, 35, 2, 3, 5, 36, 37, 38, 39, 40, 41, 42, 43, 44, 45, 46, 47, 11, 48, 49, 50, 51, 52, 53, 54, 55, 56, 57, 58, 59, 60, 61, 62, 63, 64, 65, 66, 67, 68, 69, 70, 71, 72, 73, 74, 75, 76, 77, 78, 79, 80, 81, 82, 83, 84, 85, 86, 87, 88, 89, 90, 91, 92, 93, 94, 95, 96, 97, 98, 99, 100, 101, 102, 103, 104, 105, 106, 107, 108, 109, 110, 111, 112, 113, 114, 115, 116, 117, 118, 119, 120, 121, 122, 123, 124, 125, 126, 127, 128, 129, 130, 131, 132, 133, 134, 135, 136, 137, 138, 139, 140, 141, 142, 143, 144, 145, 146, 147, 148, 149, 150, 151, 152, 153, 154, 155, 156, 157, 158, 159, 160, 161, 162, 163, 164, 165, 166, 167, 168, 169, 170, 171, 172, 173, 174, 175, 176, 177, 178, 183, 184, 185, 186, 187, 188, 189, 190, 191, 192] (by decide +kernel) (by decide +kernel)
set_option maxRecDepth 20000 in
theorem gX8_fault_X8_does : GoodIn wsX8_fault (wsV RX8 203 RX8 yX8_does wsX8_does) := goodIn_app (goodIn_of _ (by decide +kernel)) ggX8_fault_X8_does
set_option maxRecDepth 20000 in
theorem ggX8_fault_X8_returns : GoodIn wsX8_fault wsX8_returns := goodIn_r _ [182, 11, 10, 183, 184, 185, 186, 187, 188, 189, 190, 191, 192] (by decide +kernel) (by decide +kernel)
set_option maxRecDepth 20000 in
theorem gX8_fault_X8_returns : GoodIn wsX8_fault (wsV RX8 22 RX8 yX8_returns wsX8_returns) := goodIn_app (goodIn_of _ (by decide +kernel)) ggX8_fault_X8_returns
theorem dX8_fault_0 : decode cX8_fault 0 = .ok (.iload_n 1, 1) := by decide +kernel
theorem dX8_fault_1 : decode cX8_fault 1 = .ok (.iconst 0, 1) := by decide +kernel
theorem dX8_fault_2 : decode cX8_fault 2 = .ok (.iconst 1, 1) := by decide +kernel
theorem dX8_fault_3 : decode cX8_fault 3 = .ok (.invokestatic 29, 3) := by decide +kernel
theorem dX8_fault_6 : decode cX8_fault 6 = .ok (.ifCond .ne 5, 3) := by decide +kernel
theorem dX8_fault_9 : decode cX8_fault 9 = .ok (.iconst (-1), 1) := by decide +kernel
theorem dX8_fault_10 : decode cX8_fault 10 = .ok (.ireturn, 1) := by decide +kernel
theorem dX8_fault_11 : decode cX8_fault 11 = .ok (.aload_n 0, 1) := by decide +kernel
theorem dX8_fault_12 : decode cX8_fault 12 = .ok (.invokevirtual 125, 3) := by decide +kernel
theorem dX8_fault_15 : decode cX8_fault 15 = .ok (.aload_n 0, 1) := by decide +kernel
theorem dX8_fault_16 : decode cX8_fault 16 = .ok (.invokevirtual 203, 3) := by decide +kernel
theorem dX8_fault_19 : decode cX8_fault 19 = .ok (.istore_n 2, 1) := by decide +kernel
theorem dX8_fault_20 : decode cX8_fault 20 = .ok (.aload_n 0, 1) := by decide +kernel
theorem dX8_fault_21 : decode cX8_fault 21 = .ok (.invokevirtual 22, 3) := by decide +kernel
theorem dX8_fault_24 : decode cX8_fault 24 = .ok (.iload_n 2, 1) := by decide +kernel
theorem dX8_fault_25 : decode cX8_fault 25 = .ok (.ifCond .ge 8, 3) := by decide +kernel
theorem dX8_fault_28 : decode cX8_fault 28 = .ok (.bipush (-4), 2) := by decide +kernel
theorem dX8_fault_30 : decode cX8_fault 30 = .ok (.goto 15, 3) := by decide +kernel
theorem dX8_fault_33 : decode cX8_fault 33 = .ok (.iload_n 1, 1) := by decide +kernel
theorem dX8_fault_34 : decode cX8_fault 34 = .ok (.ifCond .ne 7, 3) := by decide +kernel
theorem dX8_fault_37 : decode cX8_fault 37 = .ok (.iload_n 2, 1) := by decide +kernel
theorem dX8_fault_38 : decode cX8_fault 38 = .ok (.goto 7, 3) := by decide +kernel
theorem dX8_fault_41 : decode cX8_fault 41 = .ok (.aload_n 0, 1) := by decide +kernel
theorem dX8_fault_42 : decode cX8_fault 42 = .ok (.getfield 200, 3) := by decide +kernel
theorem dX8_fault_45 : decode cX8_fault 45 = .ok (.ireturn, 1) := by decide +kernel
set_option maxRecDepth 20000 in
theorem ggX8_play_X8_begins : GoodIn wsX8_play wsX8_begins := goodIn_r _ [6, 7, 8, 189, 190, 191, 192, 193, 194, 195, 196, 197, 198] (by decide +kernel) (by decide +kernel)
set_option maxRecDepth 20000 in
theorem gX8_play_X8_begins : GoodIn wsX8_play (wsV RX8 125 RX8 yX8_begins wsX8_begins) := goodIn_app (goodIn_of _ (by decide +kernel)) ggX8_play_X8_begins
set_option maxRecDepth 20000 in
theorem ggX8_play_X8_does : GoodIn wsX8_play wsX8_does := goodIn_r _ [12, 13, 1, 14, 15, 16, 17, 18, 19, 5, 20, 21, 22, 23, 24, 25, 26, 27, 28, 29, 30, 31, 32, 33, 34, 35, 36, 37, 38, 39, 40, 41, 42, 43, 44, 45, 46, 47, 8, 48, 49, 50, 51, 52, 53, 54, 55, 56, 57, 58, 59, 60, 61, 62, 63, 64, 65, 66, 67, 68, 69, 70, 71, 72, 73, 74, 75, 76, 77, 78, 79, 80, 81, 82, 83, 84, 85, 86, 87, 88, 89, 90, 91, 92, 93, 94, 95, 96, 97, 98, 99, 100, 101, 102, 103, 104, 105, 106, 107, 108, 109, 110, 111, 112, 113, 114, 115, 116, 117, 118, 119, 120, 121, 122, 123, 124, 125, 126, 127, 128, 129, 130, 131, 132, 133, 134, 135, 136, 137, 138, 139, 140, 141, 142, 143, 144, 145, 146, 147, 148, 149, 150, 151, 152, 153, 154, 155, 156, 157, 158, 159, 160, 161, 162, 163, 164, 165, 166, 167, 168, 169, 170, 171, 172, 173, 174, 175, 176, 177, 178, 189, 190, 191, 192, 193, 194, 195, 196, 197, 198] (by decide +kernel) (by decide +kernel)
set_option maxRecDepth 20000 in
theorem gX8_play_X8_does : GoodIn wsX8_play (wsV RX8 203 RX8 yX8_does wsX8_does) := goodIn_app (goodIn_of _ (by decide +kernel)) ggX8_play_X8_does
set_option maxRecDepth 20000 in
theorem ggX8_play_X8_acted : GoodIn wsX8_play wsX8_acted := goodIn_r _ [182, 183, 184, 7, 185, 186, 187, 5, 188, 8, 189, 190, 191, 192, 193, 194, 195, 196, 197, 198] (by decide +kernel) (by decide +kernel)
set_option maxRecDepth 20000 in
theorem gX8_play_X8_acted : GoodIn wsX8_play (wsV RX8 128 RX8 yX8_acted wsX8_acted) := goodIn_app (goodIn_of _ (by decide +kernel)) ggX8_play_X8_acted
theorem dX8_play_0 : decode cX8_play 0 = .ok (.aload_n 0, 1) := by decide +kernel
theorem dX8_play_1 : decode cX8_play 1 = .ok (.invokevirtual 125, 3) := by decide +kernel
theorem dX8_play_4 : decode cX8_play 4 = .ok (.aload_n 0, 1) := by decide +kernel
theorem dX8_play_5 : decode cX8_play 5 = .ok (.aload_n 0, 1) := by decide +kernel
theorem dX8_play_6 : decode cX8_play 6 = .ok (.invokevirtual 203, 3) := by decide +kernel
theorem dX8_play_9 : decode cX8_play 9 = .ok (.ifCond .ge 10, 3) := by decide +kernel
theorem dX8_play_12 : decode cX8_play 12 = .ok (.aload_n 0, 1) := by decide +kernel
theorem dX8_play_13 : decode cX8_play 13 = .ok (.getfield 185, 3) := by decide +kernel
theorem dX8_play_16 : decode cX8_play 16 = .ok (.goto 5, 3) := by decide +kernel
theorem dX8_play_19 : decode cX8_play 19 = .ok (.bipush (-2), 2) := by decide +kernel
theorem dX8_play_21 : decode cX8_play 21 = .ok (.invokevirtual 128, 3) := by decide +kernel
theorem dX8_play_24 : decode cX8_play 24 = .ok (.ireturn, 1) := by decide +kernel
theorem dJxf58ca_isNaN_12338_0 : decode cJxf58ca_isNaN_12338 0 = .ok (.fload_n 0, 1) := by decide +kernel
theorem dJxf58ca_isNaN_12338_1 : decode cJxf58ca_isNaN_12338 1 = .ok (.fload_n 0, 1) := by decide +kernel
theorem dJxf58ca_isNaN_12338_2 : decode cJxf58ca_isNaN_12338 2 = .ok (.fcmp .l, 1) := by decide +kernel
theorem dJxf58ca_isNaN_12338_3 : decode cJxf58ca_isNaN_12338 3 = .ok (.ifCond .eq 7, 3) := by decide +kernel
theorem dJxf58ca_isNaN_12338_6 : decode cJxf58ca_isNaN_12338 6 = .ok (.iconst 1, 1) := by decide +kernel
theorem dJxf58ca_isNaN_12338_7 : decode cJxf58ca_isNaN_12338 7 = .ok (.goto 4, 3) := by decide +kernel
theorem dJxf58ca_isNaN_12338_10 : decode cJxf58ca_isNaN_12338 10 = .ok (.iconst 0, 1) := by decide +kernel
theorem dJxf58ca_isNaN_12338_11 : decode cJxf58ca_isNaN_12338 11 = .ok (.ireturn, 1) := by decide +kernel
set_option maxRecDepth 20000 in
theorem ggJxf58ca_floatToIntBits_5c35a_Jxf58ca_isNaN_12338 : GoodIn wsJxf58ca_floatToIntBits_5c35a wsJxf58ca_isNaN_12338 := goodIn_r _ [9] (by decide +kernel) (by decide +kernel)
set_option maxRecDepth 20000 in
theorem gJxf58ca_floatToIntBits_5c35a_Jxf58ca_isNaN_12338 : GoodIn wsJxf58ca_floatToIntBits_5c35a (va_wsS RJxf58ca 59 yJxf58ca_isNaN_12338 wsJxf58ca_isNaN_12338) := goodIn_app (goodIn_of _ (by decide +kernel)) ggJxf58ca_floatToIntBits_5c35a_Jxf58ca_isNaN_12338
theorem dJxf58ca_floatToIntBits_5c35a_0 : decode cJxf58ca_floatToIntBits_5c35a 0 = .ok (.fload_n 0, 1) := by decide +kernel
theorem dJxf58ca_floatToIntBits_5c35a_1 : decode cJxf58ca_floatToIntBits_5c35a 1 = .ok (.invokestatic 59, 3) := by decide +kernel
theorem dJxf58ca_floatToIntBits_5c35a_4 : decode cJxf58ca_floatToIntBits_5c35a 4 = .ok (.ifCond .ne 8, 3) := by decide +kernel
theorem dJxf58ca_floatToIntBits_5c35a_7 : decode cJxf58ca_floatToIntBits_5c35a 7 = .ok (.fload_n 0, 1) := by decide +kernel
theorem dJxf58ca_floatToIntBits_5c35a_8 : decode cJxf58ca_floatToIntBits_5c35a 8 = .ok (.invokestatic 74, 3) := by decide +kernel
theorem dJxf58ca_floatToIntBits_5c35a_11 : decode cJxf58ca_floatToIntBits_5c35a 11 = .ok (.ireturn, 1) := by decide +kernel
theorem dJxf58ca_floatToIntBits_5c35a_12 : decode cJxf58ca_floatToIntBits_5c35a 12 = .ok (.ldc 77, 2) := by decide +kernel
theorem dJxf58ca_floatToIntBits_5c35a_14 : decode cJxf58ca_floatToIntBits_5c35a 14 = .ok (.ireturn, 1) := by decide +kernel
theorem dJ6_bitCount_0f7a4_0 : decode cJ6_bitCount_0f7a4 0 = .ok (.iload_n 0, 1) := by decide +kernel
theorem dJ6_bitCount_0f7a4_1 : decode cJ6_bitCount_0f7a4 1 = .ok (.iload_n 0, 1) := by decide +kernel
theorem dJ6_bitCount_0f7a4_2 : decode cJ6_bitCount_0f7a4 2 = .ok (.iconst 1, 1) := by decide +kernel
theorem dJ6_bitCount_0f7a4_3 : decode cJ6_bitCount_0f7a4 3 = .ok (.iushr, 1) := by decide +kernel
theorem dJ6_bitCount_0f7a4_4 : decode cJ6_bitCount_0f7a4 4 = .ok (.ldc_w 265, 3) := by decide +kernel
theorem dJ6_bitCount_0f7a4_7 : decode cJ6_bitCount_0f7a4 7 = .ok (.iand, 1) := by decide +kernel
theorem dJ6_bitCount_0f7a4_8 : decode cJ6_bitCount_0f7a4 8 = .ok (.isub, 1) := by decide +kernel
theorem dJ6_bitCount_0f7a4_9 : decode cJ6_bitCount_0f7a4 9 = .ok (.istore_n 0, 1) := by decide +kernel
theorem dJ6_bitCount_0f7a4_10 : decode cJ6_bitCount_0f7a4 10 = .ok (.iload_n 0, 1) := by decide +kernel
theorem dJ6_bitCount_0f7a4_11 : decode cJ6_bitCount_0f7a4 11 = .ok (.ldc_w 266, 3) := by decide +kernel
theorem dJ6_bitCount_0f7a4_14 : decode cJ6_bitCount_0f7a4 14 = .ok (.iand, 1) := by decide +kernel
theorem dJ6_bitCount_0f7a4_15 : decode cJ6_bitCount_0f7a4 15 = .ok (.iload_n 0, 1) := by decide +kernel
theorem dJ6_bitCount_0f7a4_16 : decode cJ6_bitCount_0f7a4 16 = .ok (.iconst 2, 1) := by decide +kernel
theorem dJ6_bitCount_0f7a4_17 : decode cJ6_bitCount_0f7a4 17 = .ok (.iushr, 1) := by decide +kernel
theorem dJ6_bitCount_0f7a4_18 : decode cJ6_bitCount_0f7a4 18 = .ok (.ldc_w 266, 3) := by decide +kernel
theorem dJ6_bitCount_0f7a4_21 : decode cJ6_bitCount_0f7a4 21 = .ok (.iand, 1) := by decide +kernel
theorem dJ6_bitCount_0f7a4_22 : decode cJ6_bitCount_0f7a4 22 = .ok (.iadd, 1) := by decide +kernel
theorem dJ6_bitCount_0f7a4_23 : decode cJ6_bitCount_0f7a4 23 = .ok (.istore_n 0, 1) := by decide +kernel
theorem dJ6_bitCount_0f7a4_24 : decode cJ6_bitCount_0f7a4 24 = .ok (.iload_n 0, 1) := by decide +kernel
theorem dJ6_bitCount_0f7a4_25 : decode cJ6_bitCount_0f7a4 25 = .ok (.iload_n 0, 1) := by decide +kernel
theorem dJ6_bitCount_0f7a4_26 : decode cJ6_bitCount_0f7a4 26 = .ok (.iconst 4, 1) := by decide +kernel
theorem dJ6_bitCount_0f7a4_27 : decode cJ6_bitCount_0f7a4 27 = .ok (.iushr, 1) := by decide +kernel
theorem dJ6_bitCount_0f7a4_28 : decode cJ6_bitCount_0f7a4 28 = .ok (.iadd, 1) := by decide +kernel
theorem dJ6_bitCount_0f7a4_29 : decode cJ6_bitCount_0f7a4 29 = .ok (.ldc_w 267, 3) := by decide +kernel
theorem dJ6_bitCount_0f7a4_32 : decode cJ6_bitCount_0f7a4 32 = .ok (.iand, 1) := by decide +kernel
theorem dJ6_bitCount_0f7a4_33 : decode cJ6_bitCount_0f7a4 33 = .ok (.istore_n 0, 1) := by decide +kernel
theorem dJ6_bitCount_0f7a4_34 : decode cJ6_bitCount_0f7a4 34 = .ok (.iload_n 0, 1) := by decide +kernel
theorem dJ6_bitCount_0f7a4_35 : decode cJ6_bitCount_0f7a4 35 = .ok (.iload_n 0, 1) := by decide +kernel
theorem dJ6_bitCount_0f7a4_36 : decode cJ6_bitCount_0f7a4 36 = .ok (.bipush 8, 2) := by decide +kernel
theorem dJ6_bitCount_0f7a4_38 : decode cJ6_bitCount_0f7a4 38 = .ok (.iushr, 1) := by decide +kernel
theorem dJ6_bitCount_0f7a4_39 : decode cJ6_bitCount_0f7a4 39 = .ok (.iadd, 1) := by decide +kernel
theorem dJ6_bitCount_0f7a4_40 : decode cJ6_bitCount_0f7a4 40 = .ok (.istore_n 0, 1) := by decide +kernel
theorem dJ6_bitCount_0f7a4_41 : decode cJ6_bitCount_0f7a4 41 = .ok (.iload_n 0, 1) := by decide +kernel
theorem dJ6_bitCount_0f7a4_42 : decode cJ6_bitCount_0f7a4 42 = .ok (.iload_n 0, 1) := by decide +kernel
theorem dJ6_bitCount_0f7a4_43 : decode cJ6_bitCount_0f7a4 43 = .ok (.bipush 16, 2) := by decide +kernel
theorem dJ6_bitCount_0f7a4_45 : decode cJ6_bitCount_0f7a4 45 = .ok (.iushr, 1) := by decide +kernel
theorem dJ6_bitCount_0f7a4_46 : decode cJ6_bitCount_0f7a4 46 = .ok (.iadd, 1) := by decide +kernel
theorem dJ6_bitCount_0f7a4_47 : decode cJ6_bitCount_0f7a4 47 = .ok (.istore_n 0, 1) := by decide +kernel
theorem dJ6_bitCount_0f7a4_48 : decode cJ6_bitCount_0f7a4 48 = .ok (.iload_n 0, 1) := by decide +kernel
theorem dJ6_bitCount_0f7a4_49 : decode cJ6_bitCount_0f7a4 49 = .ok (.bipush 63, 2) := by decide +kernel
theorem dJ6_bitCount_0f7a4_51 : decode cJ6_bitCount_0f7a4 51 = .ok (.iand, 1) := by decide +kernel
theorem dJ6_bitCount_0f7a4_52 : decode cJ6_bitCount_0f7a4 52 = .ok (.ireturn, 1) := by decide +kernel
theorem dJ9_abs_0f7a4_0 : decode cJ9_abs_0f7a4 0 = .ok (.iload_n 0, 1) := by decide +kernel
theorem dJ9_abs_0f7a4_1 : decode cJ9_abs_0f7a4 1 = .ok (.ifCond .ge 8, 3) := by decide +kernel
theorem dJ9_abs_0f7a4_4 : decode cJ9_abs_0f7a4 4 = .ok (.iload_n 0, 1) := by decide +kernel
theorem dJ9_abs_0f7a4_5 : decode cJ9_abs_0f7a4 5 = .ok (.ineg, 1) := by decide +kernel
theorem dJ9_abs_0f7a4_6 : decode cJ9_abs_0f7a4 6 = .ok (.goto 4, 3) := by decide +kernel
theorem dJ9_abs_0f7a4_9 : decode cJ9_abs_0f7a4 9 = .ok (.iload_n 0, 1) := by decide +kernel
theorem dJ9_abs_0f7a4_10 : decode cJ9_abs_0f7a4 10 = .ok (.ireturn, 1) := by decide +kernel
theorem dJ9_max_7cf53_0 : decode cJ9_max_7cf53 0 = .ok (.iload_n 0, 1) := by decide +kernel
theorem dJ9_max_7cf53_1 : decode cJ9_max_7cf53 1 = .ok (.iload_n 1, 1) := by decide +kernel
theorem dJ9_max_7cf53_2 : decode cJ9_max_7cf53 2 = .ok (.if_icmp .lt 7, 3) := by decide +kernel
theorem dJ9_max_7cf53_5 : decode cJ9_max_7cf53 5 = .ok (.iload_n 0, 1) := by decide +kernel
theorem dJ9_max_7cf53_6 : decode cJ9_max_7cf53 6 = .ok (.goto 4, 3) := by decide +kernel
theorem dJ9_max_7cf53_9 : decode cJ9_max_7cf53 9 = .ok (.iload_n 1, 1) := by decide +kernel
theorem dJ9_max_7cf53_10 : decode cJ9_max_7cf53 10 = .ok (.ireturn, 1) := by decide +kernel
set_option maxRecDepth 20000 in
theorem ggL_law_X7_init : GoodIn wsL_law wsX7_init := goodIn_r _ [8, 9, 10, 11, 12, 13, 14, 15, 16, 17, 18, 19, 20, 21, 22, 23, 24, 25, 26, 27, 28, 29, 30, 31, 32, 33, 34, 35, 36, 37, 38, 39, 40, 41, 42, 43, 44, 45, 46, 47, 48, 49, 50, 51, 52, 53, 54, 55, 56, 57, 58, 59, 60, 61, 62, 63, 64, 65, 66, 67, 68, 69, 70, 71, 72, 73, 74, 75, 76, 77, 78, 79, 80, 81, 82, 83, 84, 85, 86, 87, 88, 89, 90, 91, 92, 93, 94, 95, 96, 97, 98, 99, 100, 101, 102, 103, 104, 105, 866, 867, 868, 869, 870, 871, 849, 850, 851, 852, 853, 854, 855, 872, 873, 874, 875, 876, 877, 878, 879, 880, 881, 882, 883, 884, 885, 886, 887, 888, 889, 890, 891, 892, 893, 894, 895, 896, 897, 898] (by decide +kernel) (by decide +kernel)
set_option maxRecDepth 20000 in
theorem gL_law_X7_init : GoodIn wsL_law (wsX7_init) := ggL_law_X7_init
set_option maxRecDepth 20000 in
theorem ggL_law_X8_init : GoodIn wsL_law wsX8_init := goodIn_r _ [108, 109, 10, 11, 59, 110, 111, 112, 113, 856, 857, 858, 859, 860, 861, 862, 863, 864, 865] (by decide +kernel) (by decide +kernel)
set_option maxRecDepth 20000 in
theorem gL_law_X8_init : GoodIn wsL_law (wsX8_init) := ggL_law_X8_init
set_option maxRecDepth 20000 in
theorem ggL_law_X7_locker : GoodIn wsL_law wsX7_locker := goodIn_r _ [117, 118, 119, 120, 2, 121, 16, 15, 20, 122, 123, 124, 14, 125, 44, 45, 46, 47, 48, 126, 127, 128, 129, 43, 130, 65, 60, 131, 132, 133, 19, 134, 75, 135, 136, 137, 138, 139, 140, 53, 141, 62, 63, 64, 142, 67, 68, 69, 54, 143, 144, 145, 146, 28, 147, 148, 149, 27, 150, 151, 152, 153, 154, 155, 156, 93, 157, 849, 850, 851, 852, 853, 854, 855, 866, 867, 868, 869, 870, 871, 895, 896, 897, 898, 872, 873, 874, 875, 876, 882, 883, 884] (by decide +kernel) (by decide +kernel)
set_option maxRecDepth 20000 in
theorem gL_law_X7_locker : GoodIn wsL_law (wsV RL 13 RX7 yX7_locker wsX7_locker) := goodIn_app (goodIn_of _ (by decide +kernel)) ggL_law_X7_locker
set_option maxRecDepth 20000 in
theorem ggL_law_X8_locker : GoodIn wsL_law wsX8_locker := goodIn_r _ [161, 110, 162, 163, 164, 5, 165, 111, 166, 167, 168, 169, 170, 171, 172, 173, 112, 174, 175, 176, 177, 856, 857, 858, 859, 860, 861, 862, 863, 864, 865] (by decide +kernel) (by decide +kernel)
set_option maxRecDepth 20000 in
theorem gL_law_X8_locker : GoodIn wsL_law (wsV RL 17 RX8 yX8_locker wsX8_locker) := goodIn_app (goodIn_of _ (by decide +kernel)) ggL_law_X8_locker
set_option maxRecDepth 20000 in
theorem ggL_law_X7_meal : GoodIn wsL_law wsX7_meal := goodIn_r _ [181, 118, 119, 120, 2, 121, 16, 15, 20, 122, 123, 124, 14, 125, 44, 45, 46, 47, 48, 126, 127, 128, 129, 43, 130, 65, 60, 182, 183, 184, 19, 185, 75, 74, 76, 186, 187, 188, 189, 135, 136, 190, 191, 192, 193, 194, 195, 196, 197, 54, 198, 199, 200, 201, 202, 203, 204, 205, 206, 207, 208, 209, 210, 211, 212, 137, 138, 139, 140, 53, 141, 62, 63, 64, 142, 67, 68, 69, 213, 214, 215, 216, 217, 218, 143, 144, 145, 146, 28, 147, 148, 149, 27, 150, 151, 152, 153, 154, 155, 156, 93, 157, 849, 850, 851, 852, 853, 854, 855, 866, 867, 868, 869, 870, 871, 895, 896, 897, 898, 872, 873, 874, 875, 876, 882, 883, 884] (by decide +kernel) (by decide +kernel)
set_option maxRecDepth 20000 in
theorem gL_law_X7_meal : GoodIn wsL_law (wsV RL 18 RX7 yX7_meal wsX7_meal) := goodIn_app (goodIn_of _ (by decide +kernel)) ggL_law_X7_meal
set_option maxRecDepth 20000 in
theorem ggL_law_X8_meal : GoodIn wsL_law wsX8_meal := goodIn_r _ [222, 162, 163, 164, 5, 165, 111, 110, 223, 224, 225, 226, 166, 167, 168, 227, 228, 229, 230, 231, 232, 233, 234, 235, 236, 237, 238, 239, 240, 241, 242, 243, 244, 245, 246, 247, 248, 249, 250, 251, 252, 253, 254, 255, 256, 257, 258, 259, 260, 261, 262, 263, 264, 265, 169, 170, 171, 172, 173, 112, 174, 175, 176, 177, 856, 857, 858, 859, 860, 861, 862, 863, 864, 865] (by decide +kernel) (by decide +kernel)
set_option maxRecDepth 20000 in
theorem gL_law_X8_meal : GoodIn wsL_law (wsV RL 22 RX8 yX8_meal wsX8_meal) := goodIn_app (goodIn_of _ (by decide +kernel)) ggL_law_X8_meal
set_option maxRecDepth 20000 in
theorem ggL_law_X7_person : GoodIn wsL_law wsX7_person := goodIn_r _ [269, 118, 119, 120, 2, 121, 16, 15, 20, 122, 123, 124, 14, 125, 44, 45, 46, 47, 48, 126, 127, 128, 129, 43, 130, 65, 60, 270, 271, 272, 19, 273, 77, 135, 136, 137, 138, 139, 140, 53, 141, 62, 63, 64, 142, 67, 68, 69, 54, 143, 144, 145, 146, 28, 147, 148, 149, 27, 150, 151, 152, 153, 154, 155, 156, 93, 157, 849, 850, 851, 852, 853, 854, 855, 866, 867, 868, 869, 870, 871, 895, 896, 897, 898, 872, 873, 874, 875, 876, 882, 883, 884] (by decide +kernel) (by decide +kernel)
set_option maxRecDepth 20000 in
theorem gL_law_X7_person : GoodIn wsL_law (wsV RL 23 RX7 yX7_person wsX7_person) := goodIn_app (goodIn_of _ (by decide +kernel)) ggL_law_X7_person
set_option maxRecDepth 20000 in
theorem ggL_law_X8_person : GoodIn wsL_law wsX8_person := goodIn_r _ [277, 110, 162, 163, 164, 5, 165, 111, 166, 167, 168, 278, 279, 280, 281, 169, 170, 171, 172, 173, 112, 174, 175, 176, 177, 856, 857, 858, 859, 860, 861, 862, 863, 864, 865] (by decide +kernel) (by decide +kernel)
set_option maxRecDepth 20000 in
theorem gL_law_X8_person : GoodIn wsL_law (wsV RL 27 RX8 yX8_person wsX8_person) := goodIn_app (goodIn_of _ (by decide +kernel)) ggL_law_X8_person
set_option maxRecDepth 20000 in
theorem ggL_law_X7_volunteer : GoodIn wsL_law wsX7_volunteer := goodIn_r _ [285, 118, 119, 120, 2, 121, 16, 15, 20, 122, 123, 124, 14, 125, 44, 45, 46, 47, 48, 126, 127, 128, 129, 43, 130, 65, 60, 286, 287, 288, 19, 289, 75, 78, 186, 187, 188, 189, 135, 136, 137, 138, 139, 140, 53, 141, 62, 63, 64, 142, 67, 68, 69, 54, 143, 144, 145, 146, 28, 147, 148, 149, 27, 150, 151, 152, 153, 154, 155, 156, 93, 157, 849, 850, 851, 852, 853, 854, 855, 866, 867, 868, 869, 870, 871, 895, 896, 897, 898, 872, 873, 874, 875, 876, 882, 883, 884] (by decide +kernel) (by decide +kernel)
set_option maxRecDepth 20000 in
theorem gL_law_X7_volunteer : GoodIn wsL_law (wsV RL 28 RX7 yX7_volunteer wsX7_volunteer) := goodIn_app (goodIn_of _ (by decide +kernel)) ggL_law_X7_volunteer
set_option maxRecDepth 20000 in
theorem ggL_law_X8_volunteer : GoodIn wsL_law wsX8_volunteer := goodIn_r _ [293, 110, 162, 163, 164, 5, 165, 111, 223, 224, 225, 226, 166, 167, 168, 294, 295, 296, 297, 169, 170, 171, 172, 173, 112, 174, 175, 176, 177, 856, 857, 858, 859, 860, 861, 862, 863, 864, 865] (by decide +kernel) (by decide +kernel)
set_option maxRecDepth 20000 in
theorem gL_law_X8_volunteer : GoodIn wsL_law (wsV RL 31 RX8 yX8_volunteer wsX8_volunteer) := goodIn_app (goodIn_of _ (by decide +kernel)) ggL_law_X8_volunteer
set_option maxRecDepth 20000 in
theorem ggL_law_X7_reserve : GoodIn wsL_law wsX7_reserve := goodIn_r _ [301, 118, 119, 120, 2, 121, 16, 15, 20, 122, 123, 124, 14, 125, 44, 45, 46, 47, 48, 126, 127, 128, 129, 43, 130, 65, 60, 302, 303, 304, 19, 305, 77, 76, 74, 186, 187, 188, 189, 306, 307, 308, 309, 194, 195, 196, 197, 54, 310, 311, 312, 313, 314, 56, 57, 58, 315, 316, 317, 318, 202, 203, 204, 205, 142, 67, 68, 69, 143, 144, 145, 146, 28, 147, 148, 149, 27, 150, 151, 152, 153, 154, 155, 156, 93, 157, 849, 850, 851, 852, 853, 854, 855, 866, 867, 868, 869, 870, 871, 895, 896, 897, 898, 872, 873, 874, 875, 876, 882, 883, 884] (by decide +kernel) (by decide +kernel)
set_option maxRecDepth 20000 in
theorem gL_law_X7_reserve : GoodIn wsL_law (wsV RL 32 RX7 yX7_reserve wsX7_reserve) := goodIn_app (goodIn_of _ (by decide +kernel)) ggL_law_X7_reserve
set_option maxRecDepth 20000 in
theorem ggL_law_X8_reserve : GoodIn wsL_law wsX8_reserve := goodIn_r _ [322, 162, 163, 164, 5, 165, 111, 110, 323, 324, 325, 326, 327, 328, 329, 330, 166, 167, 168, 331, 332, 333, 334, 335, 336, 337, 338, 339, 340, 341, 342, 343, 344, 345, 346, 247, 248, 249, 250, 347, 348, 349, 350, 258, 259, 260, 261, 169, 170, 171, 172, 173, 112, 174, 175, 176, 177, 856, 857, 858, 859, 860, 861, 862, 863, 864, 865] (by decide +kernel) (by decide +kernel)
set_option maxRecDepth 20000 in
theorem gL_law_X8_reserve : GoodIn wsL_law (wsV RL 35 RX8 yX8_reserve wsX8_reserve) := goodIn_app (goodIn_of _ (by decide +kernel)) ggL_law_X8_reserve
set_option maxRecDepth 20000 in
theorem ggL_law_X7_fetch : GoodIn wsL_law wsX7_fetch := goodIn_r _ [354, 118, 119, 120, 2, 121, 16, 15, 20, 122, 123, 124, 14, 125, 44, 45, 46, 47, 48, 126, 127, 128, 129, 43, 130, 65, 60, 355, 356, 357, 19, 358, 75, 76, 77, 186, 187, 188, 189, 135, 136, 359, 360, 361, 362, 363, 203, 204, 205, 364, 195, 196, 197, 54, 142, 67, 68, 69, 213, 214, 215, 216, 217, 218, 143, 144, 145, 146, 28, 147, 148, 149, 27, 150, 151, 152, 153, 154, 155, 156, 93, 157, 849, 850, 851, 852, 853, 854, 855, 866, 867, 868, 869, 870, 871, 895, 896, 897, 898, 872, 873, 874, 875, 876, 882, 883, 884] (by decide +kernel) (by decide +kernel)
set_option maxRecDepth 20000 in
theorem gL_law_X7_fetch : GoodIn wsL_law (wsV RL 36 RX7 yX7_fetch wsX7_fetch) := goodIn_app (goodIn_of _ (by decide +kernel)) ggL_law_X7_fetch
set_option maxRecDepth 20000 in
theorem ggL_law_X8_fetch : GoodIn wsL_law wsX8_fetch := goodIn_r _ [368, 162, 163, 164, 5, 165, 111, 110, 369, 370, 371, 372, 223, 224, 225, 226, 166, 167, 168, 247, 248, 249, 250, 243, 244, 245, 246, 258, 259, 260, 261, 262, 263, 264, 265, 339, 340, 341, 342, 278, 279, 280, 281, 169, 170, 171, 172, 173, 112, 174, 175, 176, 177, 856, 857, 858, 859, 860, 861, 862, 863, 864, 865] (by decide +kernel) (by decide +kernel)
set_option maxRecDepth 20000 in
theorem gL_law_X8_fetch : GoodIn wsL_law (wsV RL 39 RX8 yX8_fetch wsX8_fetch) := goodIn_app (goodIn_of _ (by decide +kernel)) ggL_law_X8_fetch
set_option maxRecDepth 20000 in
theorem ggL_law_X7_take : GoodIn wsL_law wsX7_take := goodIn_r _ [376, 118, 119, 120, 2, 121, 16, 15, 20, 122, 123, 124, 14, 125, 44, 45, 46, 47, 48, 126, 127, 128, 129, 43, 130, 65, 60, 377, 378, 379, 19, 380, 78, 76, 74, 75, 186, 187, 188, 189, 364, 195, 196, 197, 54, 381, 382, 383, 384, 202, 203, 204, 205, 194, 385, 207, 208, 209, 210, 211, 212, 386, 387, 388, 389, 314, 56, 57, 58, 142, 67, 68, 69, 213, 214, 215, 216, 217, 218, 143, 144, 145, 146, 28, 147, 148, 149, 27, 150, 151, 152, 153, 154, 155, 156, 93, 157, 849, 850, 851, 852, 853, 854, 855, 866, 867, 868, 869, 870, 871, 895, 896, 897, 898, 872, 873, 874, 875, 876, 882, 883, 884] (by decide +kernel) (by decide +kernel)
set_option maxRecDepth 20000 in
theorem gL_law_X7_take : GoodIn wsL_law (wsV RL 40 RX7 yX7_take wsX7_take) := goodIn_app (goodIn_of _ (by decide +kernel)) ggL_law_X7_take
set_option maxRecDepth 20000 in
theorem ggL_law_X8_take : GoodIn wsL_law wsX8_take := goodIn_r _ [393, 162, 163, 164, 5, 165, 111, 110, 394, 395, 396, 397, 398, 399, 400, 401, 166, 167, 168, 331, 332, 333, 334, 239, 240, 241, 242, 243, 244, 245, 246, 247, 248, 249, 250, 251, 252, 253, 254, 255, 256, 257, 402, 403, 404, 405, 406, 407, 408, 409, 258, 259, 260, 261, 262, 263, 264, 265, 169, 170, 171, 172, 173, 112, 174, 175, 176, 177, 856, 857, 858, 859, 860, 861, 862, 863, 864, 865] (by decide +kernel) (by decide +kernel)
set_option maxRecDepth 20000 in
theorem gL_law_X8_take : GoodIn wsL_law (wsV RL 43 RX8 yX8_take wsX8_take) := goodIn_app (goodIn_of _ (by decide +kernel)) ggL_law_X8_take
set_option maxRecDepth 20000 in
theorem ggL_law_X7_go : GoodIn wsL_law wsX7_go := goodIn_r _ [413, 118, 119, 120, 2, 121, 16, 15, 20, 122, 123, 124, 14, 125, 44, 45, 46, 47, 48, 126, 127, 128, 129, 43, 130, 65, 60, 414, 415, 416, 19, 417, 78, 75, 74, 186, 187, 188, 189, 364, 195, 196, 197, 54, 386, 387, 388, 389, 314, 56, 57, 58, 194, 418, 419, 420, 421, 422, 423, 424, 425, 426, 427, 428, 142, 67, 68, 69, 143, 144, 145, 146, 28, 147, 148, 149, 27, 150, 151, 152, 153, 154, 155, 156, 93, 157, 849, 850, 851, 852, 853, 854, 855, 866, 867, 868, 869, 870, 871, 895, 896, 897, 898, 872, 873, 874, 875, 876, 882, 883, 884] (by decide +kernel) (by decide +kernel)
set_option maxRecDepth 20000 in
theorem gL_law_X7_go : GoodIn wsL_law (wsV RL 44 RX7 yX7_go wsX7_go) := goodIn_app (goodIn_of _ (by decide +kernel)) ggL_law_X7_go
set_option maxRecDepth 20000 in
theorem ggL_law_X8_go : GoodIn wsL_law wsX8_go := goodIn_r _ [432, 162, 163, 164, 5, 165, 111, 110, 433, 434, 435, 436, 398, 399, 400, 401, 166, 167, 168, 223, 224, 225, 226, 402, 403, 404, 405, 406, 407, 408, 409, 437, 438, 439, 440, 294, 295, 296, 297, 169, 170, 171, 172, 173, 112, 174, 175, 176, 177, 856, 857, 858, 859, 860, 861, 862, 863, 864, 865] (by decide +kernel) (by decide +kernel)
set_option maxRecDepth 20000 in
theorem gL_law_X8_go : GoodIn wsL_law (wsV RL 47 RX8 yX8_go wsX8_go) := goodIn_app (goodIn_of _ (by decide +kernel)) ggL_law_X8_go
set_option maxRecDepth 20000 in
theorem ggL_law_X7_put : GoodIn wsL_law wsX7_put := goodIn_r _ [444, 118, 119, 120, 2, 121, 16, 15, 20, 122, 123, 124, 14, 125, 44, 45, 46, 47, 48, 126, 127, 128, 129, 43, 130, 65, 60, 445, 446, 447, 19, 448, 78, 74, 186, 187, 188, 189, 386, 387, 388, 389, 314, 56, 57, 58, 194, 195, 196, 197, 54, 449, 450, 451, 452, 76, 75, 364, 190, 191, 192, 193, 198, 199, 200, 201, 202, 203, 204, 205, 206, 207, 208, 209, 210, 211, 212, 363, 142, 67, 68, 69, 213, 214, 215, 216, 217, 218, 143, 144, 145, 146, 28, 147, 148, 149, 27, 150, 151, 152, 153, 154, 155, 156, 93, 157, 849, 850, 851, 852, 853, 854, 855, 866, 867, 868, 869, 870, 871, 895, 896, 897, 898, 872, 873, 874, 875, 876, 882, 883, 884] (by decide +kernel) (by decide +kernel)
set_option maxRecDepth 20000 in
theorem gL_law_X7_put : GoodIn wsL_law (wsV RL 48 RX7 yX7_put wsX7_put) := goodIn_app (goodIn_of _ (by decide +kernel)) ggL_law_X7_put
set_option maxRecDepth 20000 in
theorem ggL_law_X8_put : GoodIn wsL_law wsX8_put := goodIn_r _ [456, 162, 163, 164, 5, 165, 111, 110, 457, 458, 459, 460, 398, 399, 400, 401, 166, 167, 168, 402, 403, 404, 405, 406, 407, 408, 409, 461, 462, 463, 464, 251, 252, 253, 254, 247, 248, 249, 250, 231, 232, 233, 234, 235, 236, 237, 238, 239, 240, 241, 242, 243, 244, 245, 246, 255, 256, 257, 258, 259, 260, 261, 262, 263, 264, 265, 169, 170, 171, 172, 173, 112, 174, 175, 176, 177, 856, 857, 858, 859, 860, 861, 862, 863, 864, 865] (by decide +kernel) (by decide +kernel)
set_option maxRecDepth 20000 in
theorem gL_law_X8_put : GoodIn wsL_law (wsV RL 51 RX8 yX8_put wsX8_put) := goodIn_app (goodIn_of _ (by decide +kernel)) ggL_law_X8_put
set_option maxRecDepth 20000 in
theorem ggL_law_X7_pass : GoodIn wsL_law wsX7_pass := goodIn_r _ [468, 118, 119, 120, 2, 121, 16, 15, 20, 122, 123, 124, 14, 125, 44, 45, 46, 47, 48, 126, 127, 128, 129, 43, 130, 65, 60, 469, 470, 471, 19, 472, 74, 78, 135, 136, 473, 474, 475, 476, 76, 477, 56, 57, 58, 363, 203, 204, 205, 364, 195, 196, 197, 54, 478, 479, 480, 481, 194, 142, 67, 68, 69, 482, 483, 484, 485, 75, 213, 214, 215, 216, 217, 218, 486, 487, 488, 489, 449, 450, 451, 452, 190, 191, 192, 193, 198, 199, 200, 201, 202, 206, 207, 208, 209, 210, 211, 212, 490, 491, 492, 493, 494, 426, 427, 428, 495, 496, 497, 498, 77, 143, 144, 145, 146, 28, 147, 148, 149, 27, 150, 151, 152, 153, 154, 155, 156, 93, 157, 849, 850, 851, 852, 853, 854, 855, 866, 867, 868, 869, 870, 871, 895, 896, 897, 898, 872, 873, 874, 875, 876, 882, 883, 884] (by decide +kernel) (by decide +kernel)
set_option maxRecDepth 20000 in
theorem gL_law_X7_pass : GoodIn wsL_law (wsV RL 52 RX7 yX7_pass wsX7_pass) := goodIn_app (goodIn_of _ (by decide +kernel)) ggL_law_X7_pass
set_option maxRecDepth 20000 in
theorem ggL_law_X8_pass : GoodIn wsL_law wsX8_pass := goodIn_r _ [502, 162, 163, 164, 5, 165, 111, 110, 503, 504, 505, 506, 166, 167, 168, 507, 508, 509, 510, 511, 512, 513, 514, 406, 407, 408, 409, 402, 403, 404, 405, 294, 295, 296, 297, 247, 248, 249, 250, 515, 516, 517, 518, 235, 236, 237, 238, 258, 259, 260, 261, 519, 520, 521, 522, 262, 263, 264, 265, 461, 462, 463, 464, 251, 252, 253, 254, 231, 232, 233, 234, 239, 240, 241, 242, 243, 244, 245, 246, 255, 256, 257, 523, 524, 525, 526, 339, 340, 341, 342, 278, 279, 280, 281, 169, 170, 171, 172, 173, 112, 174, 175, 176, 177, 856, 857, 858, 859, 860, 861, 862, 863, 864, 865] (by decide +kernel) (by decide +kernel)
set_option maxRecDepth 20000 in
theorem gL_law_X8_pass : GoodIn wsL_law (wsV RL 55 RX8 yX8_pass wsX8_pass) := goodIn_app (goodIn_of _ (by decide +kernel)) ggL_law_X8_pass
set_option maxRecDepth 20000 in
theorem ggL_law_X7_set : GoodIn wsL_law wsX7_set := goodIn_r _ [530, 118, 119, 120, 2, 121, 16, 15, 20, 122, 123, 124, 14, 125, 44, 45, 46, 47, 48, 126, 127, 128, 129, 43, 130, 65, 60, 531, 532, 533, 19, 534, 74, 135, 136, 494, 426, 427, 428, 194, 195, 196, 197, 54, 142, 67, 68, 69, 143, 144, 145, 146, 28, 147, 148, 149, 27, 150, 151, 152, 153, 154, 155, 156, 93, 157, 849, 850, 851, 852, 853, 854, 855, 866, 867, 868, 869, 870, 871, 895, 896, 897, 898, 872, 873, 874, 875, 876, 882, 883, 884] (by decide +kernel) (by decide +kernel)
set_option maxRecDepth 20000 in
theorem gL_law_X7_set : GoodIn wsL_law (wsV RL 56 RX7 yX7_set wsX7_set) := goodIn_app (goodIn_of _ (by decide +kernel)) ggL_law_X7_set
set_option maxRecDepth 20000 in
theorem ggL_law_X8_set : GoodIn wsL_law wsX8_set := goodIn_r _ [538, 110, 162, 163, 164, 5, 165, 111, 166, 167, 168, 169, 170, 171, 172, 173, 112, 174, 175, 176, 177, 856, 857, 858, 859, 860, 861, 862, 863, 864, 865] (by decide +kernel) (by decide +kernel)
set_option maxRecDepth 20000 in
theorem gL_law_X8_set : GoodIn wsL_law (wsV RL 59 RX8 yX8_set wsX8_set) := goodIn_app (goodIn_of _ (by decide +kernel)) ggL_law_X8_set
set_option maxRecDepth 20000 in
theorem ggL_law_X7_mealOf : GoodIn wsL_law wsX7_mealOf := goodIn_r _ [542, 24, 543, 544, 545, 23, 546, 85, 547, 187, 188, 43, 189, 65, 135, 2, 136, 548, 195, 196, 197, 54, 60, 549, 550, 551, 849, 850, 851, 852, 853, 854, 855, 877, 878, 879, 880, 881, 895, 896, 897, 898] (by decide +kernel) (by decide +kernel)
set_option maxRecDepth 20000 in
theorem gL_law_X7_mealOf : GoodIn wsL_law (wsV RL 60 RX7 yX7_mealOf wsX7_mealOf) := goodIn_app (goodIn_of _ (by decide +kernel)) ggL_law_X7_mealOf
set_option maxRecDepth 20000 in
theorem ggL_law_X8_mealOf : GoodIn wsL_law wsX8_mealOf := goodIn_r _ [555, 331, 332, 333, 5, 334, 110, 166, 167, 168, 247, 248, 249, 250, 556, 557, 558, 559, 856, 857, 858, 859, 860, 861, 862, 863, 864, 865] (by decide +kernel) (by decide +kernel)
set_option maxRecDepth 20000 in
theorem gL_law_X8_mealOf : GoodIn wsL_law (wsV RL 63 RX8 yX8_mealOf wsX8_mealOf) := goodIn_app (goodIn_of _ (by decide +kernel)) ggL_law_X8_mealOf
set_option maxRecDepth 20000 in
theorem ggL_law_X7_lockerOf : GoodIn wsL_law wsX7_lockerOf := goodIn_r _ [563, 24, 564, 565, 566, 23, 567, 84, 83, 547, 187, 188, 43, 189, 65, 135, 2, 136, 568, 199, 200, 14, 201, 45, 202, 203, 204, 205, 194, 195, 196, 197, 54, 60, 548, 849, 850, 851, 852, 853, 854, 855, 877, 878, 879, 880, 881, 895, 896, 897, 898, 866, 867, 868, 869, 870, 871] (by decide +kernel) (by decide +kernel)
set_option maxRecDepth 20000 in
theorem gL_law_X7_lockerOf : GoodIn wsL_law (wsV RL 64 RX7 yX7_lockerOf wsX7_lockerOf) := goodIn_app (goodIn_of _ (by decide +kernel)) ggL_law_X7_lockerOf
set_option maxRecDepth 20000 in
theorem ggL_law_X8_lockerOf : GoodIn wsL_law wsX8_lockerOf := goodIn_r _ [572, 223, 224, 225, 5, 226, 110, 166, 167, 168, 235, 236, 237, 238, 239, 240, 241, 242, 243, 244, 245, 246, 247, 248, 249, 250, 251, 252, 253, 254, 856, 857, 858, 859, 860, 861, 862, 863, 864, 865] (by decide +kernel) (by decide +kernel)
set_option maxRecDepth 20000 in
theorem gL_law_X8_lockerOf : GoodIn wsL_law (wsV RL 67 RX8 yX8_lockerOf wsX8_lockerOf) := goodIn_app (goodIn_of _ (by decide +kernel)) ggL_law_X8_lockerOf
set_option maxRecDepth 20000 in
theorem ggL_law_X7_personOf : GoodIn wsL_law wsX7_personOf := goodIn_r _ [576, 24, 577, 578, 579, 23, 580, 86, 83, 547, 187, 188, 43, 189, 65, 135, 2, 136, 581, 311, 312, 14, 313, 46, 126, 314, 56, 57, 58, 194, 195, 196, 197, 54, 60, 582, 316, 317, 318, 45, 202, 203, 204, 205, 548, 849, 850, 851, 852, 853, 854, 855, 877, 878, 879, 880, 881, 895, 896, 897, 898, 866, 867, 868, 869, 870, 871] (by decide +kernel) (by decide +kernel)
set_option maxRecDepth 20000 in
theorem gL_law_X7_personOf : GoodIn wsL_law (wsV RL 68 RX7 yX7_personOf wsX7_personOf) := goodIn_app (goodIn_of _ (by decide +kernel)) ggL_law_X7_personOf
set_option maxRecDepth 20000 in
theorem ggL_law_X8_personOf : GoodIn wsL_law wsX8_personOf := goodIn_r _ [586, 110, 327, 328, 329, 5, 330, 166, 167, 168, 335, 336, 337, 338, 339, 340, 341, 342, 343, 344, 345, 346, 247, 248, 249, 250, 856, 857, 858, 859, 860, 861, 862, 863, 864, 865] (by decide +kernel) (by decide +kernel)
set_option maxRecDepth 20000 in
theorem gL_law_X8_personOf : GoodIn wsL_law (wsV RL 71 RX8 yX8_personOf wsX8_personOf) := goodIn_app (goodIn_of _ (by decide +kernel)) ggL_law_X8_personOf
set_option maxRecDepth 20000 in
theorem ggL_law_X7_volunteerOf : GoodIn wsL_law wsX7_volunteerOf := goodIn_r _ [590, 24, 591, 592, 593, 23, 594, 87, 83, 547, 187, 188, 43, 189, 65, 135, 2, 136, 595, 382, 383, 14, 384, 45, 202, 203, 204, 205, 194, 195, 196, 197, 54, 60, 596, 387, 388, 389, 47, 126, 314, 56, 57, 58, 548, 849, 850, 851, 852, 853, 854, 855, 877, 878, 879, 880, 881, 895, 896, 897, 898, 866, 867, 868, 869, 870, 871] (by decide +kernel) (by decide +kernel)
set_option maxRecDepth 20000 in
theorem gL_law_X7_volunteerOf : GoodIn wsL_law (wsV RL 72 RX7 yX7_volunteerOf wsX7_volunteerOf) := goodIn_app (goodIn_of _ (by decide +kernel)) ggL_law_X7_volunteerOf
set_option maxRecDepth 20000 in
theorem ggL_law_X8_volunteerOf : GoodIn wsL_law wsX8_volunteerOf := goodIn_r _ [600, 110, 398, 399, 400, 5, 401, 166, 167, 168, 239, 240, 241, 242, 243, 244, 245, 246, 247, 248, 249, 250, 251, 252, 253, 254, 402, 403, 404, 405, 406, 407, 408, 409, 856, 857, 858, 859, 860, 861, 862, 863, 864, 865] (by decide +kernel) (by decide +kernel)
set_option maxRecDepth 20000 in
theorem gL_law_X8_volunteerOf : GoodIn wsL_law (wsV RL 75 RX8 yX8_volunteerOf wsX8_volunteerOf) := goodIn_app (goodIn_of _ (by decide +kernel)) ggL_law_X8_volunteerOf
set_option maxRecDepth 20000 in
theorem ggL_law_X7_count : GoodIn wsL_law wsX7_count := goodIn_r _ [604, 28, 32, 24, 605, 606, 607, 27, 608, 151, 609, 610, 611, 31, 612, 613, 614, 615, 616, 23, 617, 84, 85, 86, 87, 83, 618, 203, 204, 43, 205, 65, 619, 620, 621, 622, 548, 195, 196, 197, 54, 60, 135, 2, 136, 623, 426, 427, 14, 428, 48, 194, 849, 850, 851, 852, 853, 854, 855, 882, 883, 884, 885, 886, 887, 888, 889, 890, 891, 877, 878, 879, 880, 881, 866, 867, 868, 869, 870, 871, 895, 896, 897, 898] (by decide +kernel) (by decide +kernel)
set_option maxRecDepth 20000 in
theorem gL_law_X7_count : GoodIn wsL_law (wsV RL 76 RX7 yX7_count wsX7_count) := goodIn_app (goodIn_of _ (by decide +kernel)) ggL_law_X7_count
set_option maxRecDepth 20000 in
theorem ggL_law_X8_count : GoodIn wsL_law wsX8_count := goodIn_r _ [627, 110, 173, 628, 629, 630, 631, 5, 632, 247, 248, 249, 250, 166, 167, 168, 856, 857, 858, 859, 860, 861, 862, 863, 864, 865] (by decide +kernel) (by decide +kernel)
set_option maxRecDepth 20000 in
theorem gL_law_X8_count : GoodIn wsL_law (wsV RL 79 RX8 yX8_count wsX8_count) := goodIn_app (goodIn_of _ (by decide +kernel)) ggL_law_X8_count
set_option maxRecDepth 20000 in
theorem ggL_law_X7_advice : GoodIn wsL_law wsX7_advice := goodIn_r _ [636, 24, 637, 638, 639, 23, 640, 86, 85, 83, 547, 187, 188, 43, 189, 65, 618, 203, 204, 205, 641, 307, 308, 14, 309, 45, 46, 194, 195, 196, 197, 54, 60, 642, 643, 644, 645, 548, 646, 479, 480, 481, 44, 849, 850, 851, 852, 853, 854, 855, 877, 878, 879, 880, 881, 895, 896, 897, 898, 866, 867, 868, 869, 870, 871] (by decide +kernel) (by decide +kernel)
set_option maxRecDepth 20000 in
theorem gL_law_X7_advice : GoodIn wsL_law (wsV RL 80 RX7 yX7_advice wsX7_advice) := goodIn_app (goodIn_of _ (by decide +kernel)) ggL_law_X7_advice
set_option maxRecDepth 20000 in
theorem ggL_law_X8_advice : GoodIn wsL_law wsX8_advice := goodIn_r _ [650, 110, 327, 328, 329, 5, 330, 166, 167, 168, 347, 348, 349, 350, 247, 248, 249, 250, 339, 340, 341, 342, 515, 516, 517, 518, 235, 236, 237, 238, 856, 857, 858, 859, 860, 861, 862, 863, 864, 865] (by decide +kernel) (by decide +kernel)
set_option maxRecDepth 20000 in
theorem gL_law_X8_advice : GoodIn wsL_law (wsV RL 83 RX8 yX8_advice wsX8_advice) := goodIn_app (goodIn_of _ (by decide +kernel)) ggL_law_X8_advice
set_option maxRecDepth 20000 in
theorem ggL_law_X7_wouldSpoil : GoodIn wsL_law wsX7_wouldSpoil := goodIn_r _ [654, 655, 16, 15, 118, 119, 120, 2, 121, 20, 122, 123, 124, 14, 125, 44, 45, 46, 47, 48, 126, 127, 128, 129, 43, 130, 65, 60, 469, 470, 471, 19, 472, 74, 78, 135, 136, 473, 474, 475, 476, 76, 477, 56, 57, 58, 363, 203, 204, 205, 364, 195, 196, 197, 54, 478, 479, 480, 481, 194, 142, 67, 68, 69, 482, 483, 484, 485, 75, 213, 214, 215, 216, 217, 218, 486, 487, 488, 489, 449, 450, 451, 452, 190, 191, 192, 193, 198, 199, 200, 201, 202, 206, 207, 208, 209, 210, 211, 212, 490, 491, 492, 493, 494, 426, 427, 428, 495, 496, 497, 498, 77, 656, 657, 658, 659, 849, 850, 851, 852, 853, 854, 855, 866, 867, 868, 869, 870, 871, 895, 896, 897, 898, 872, 873, 874, 875, 876] (by decide +kernel) (by decide +kernel)
set_option maxRecDepth 20000 in
theorem gL_law_X7_wouldSpoil : GoodIn wsL_law (wsV RL 84 RX7 yX7_wouldSpoil wsX7_wouldSpoil) := goodIn_app (goodIn_of _ (by decide +kernel)) ggL_law_X7_wouldSpoil
set_option maxRecDepth 20000 in
theorem ggL_law_X8_wouldSpoil : GoodIn wsL_law wsX8_wouldSpoil := goodIn_r _ [663, 166, 167, 5, 168, 162, 163, 164, 165, 111, 110, 507, 508, 509, 510, 511, 512, 513, 514, 406, 407, 408, 409, 402, 403, 404, 405, 294, 295, 296, 297, 247, 248, 249, 250, 515, 516, 517, 518, 235, 236, 237, 238, 258, 259, 260, 261, 519, 520, 521, 522, 262, 263, 264, 265, 461, 462, 463, 464, 251, 252, 253, 254, 231, 232, 233, 234, 239, 240, 241, 242, 243, 244, 245, 246, 255, 256, 257, 523, 524, 525, 526, 339, 340, 341, 342, 278, 279, 280, 281, 174, 175, 176, 177, 856, 857, 858, 859, 860, 861, 862, 863, 864, 865] (by decide +kernel) (by decide +kernel)
set_option maxRecDepth 20000 in
theorem gL_law_X8_wouldSpoil : GoodIn wsL_law (wsV RL 87 RX8 yX8_wouldSpoil wsX8_wouldSpoil) := goodIn_app (goodIn_of _ (by decide +kernel)) ggL_law_X8_wouldSpoil
set_option maxRecDepth 20000 in
theorem ggL_law_X7_move : GoodIn wsL_law wsX7_move := goodIn_r _ [667, 24, 668, 669, 670, 23, 671, 85, 84, 135, 2, 136, 618, 203, 204, 43, 205, 65, 672, 673, 674, 675, 83, 548, 195, 196, 197, 54, 60, 646, 479, 480, 14, 481, 44, 194, 676, 191, 192, 193, 198, 199, 200, 201, 45, 202, 206, 207, 208, 209, 210, 211, 212, 677, 678, 679, 680, 681, 419, 420, 421, 422, 423, 57, 424, 425, 426, 427, 428, 48, 849, 850, 851, 852, 853, 854, 855, 877, 878, 879, 880, 881, 895, 896, 897, 898, 866, 867, 868, 869, 870, 871] (by decide +kernel) (by decide +kernel)
set_option maxRecDepth 20000 in
theorem gL_law_X7_move : GoodIn wsL_law (wsV RL 88 RX7 yX7_move wsX7_move) := goodIn_app (goodIn_of _ (by decide +kernel)) ggL_law_X7_move
set_option maxRecDepth 20000 in
theorem ggL_law_X8_move : GoodIn wsL_law wsX8_move := goodIn_r _ [685, 110, 166, 167, 5, 168, 686, 687, 688, 689, 247, 248, 249, 250, 515, 516, 517, 518, 235, 236, 237, 238, 231, 232, 233, 234, 239, 240, 241, 242, 243, 244, 245, 246, 251, 252, 253, 254, 255, 256, 257, 437, 438, 439, 440, 856, 857, 858, 859, 860, 861, 862, 863, 864, 865] (by decide +kernel) (by decide +kernel)
set_option maxRecDepth 20000 in
theorem gL_law_X8_move : GoodIn wsL_law (wsV RL 91 RX8 yX8_move wsX8_move) := goodIn_app (goodIn_of _ (by decide +kernel)) ggL_law_X8_move
set_option maxRecDepth 20000 in
theorem ggL_law_X7_shareBits : GoodIn wsL_law wsX7_shareBits := goodIn_r _ [693, 24, 694, 695, 696, 23, 697, 619, 620, 621, 622, 85, 618, 203, 204, 43, 205, 65, 548, 195, 196, 197, 54, 60, 135, 2, 136, 698, 699, 700, 701, 849, 850, 851, 852, 853, 854, 855, 877, 878, 879, 880, 881, 895, 896, 897, 898] (by decide +kernel) (by decide +kernel)
set_option maxRecDepth 20000 in
theorem gL_law_X7_shareBits : GoodIn wsL_law (wsV RL 92 RX7 yX7_shareBits wsX7_shareBits) := goodIn_app (goodIn_of _ (by decide +kernel)) ggL_law_X7_shareBits
set_option maxRecDepth 20000 in
theorem ggL_law_X8_shareBits : GoodIn wsL_law wsX8_shareBits := goodIn_r _ [705, 110, 706, 707, 708, 709, 710, 711, 712, 713, 714, 715, 716, 717, 856, 857, 858, 859, 860, 861, 862, 863, 864, 865] (by decide +kernel) (by decide +kernel)
set_option maxRecDepth 20000 in
theorem gL_law_X8_shareBits : GoodIn wsL_law (wsV RL 96 RX8 yX8_shareBits wsX8_shareBits) := goodIn_app (goodIn_of _ (by decide +kernel)) ggL_law_X8_shareBits
set_option maxRecDepth 20000 in
theorem ggL_law_X7_undo : GoodIn wsL_law wsX7_undo := goodIn_r _ [721, 28, 15, 722, 723, 724, 27, 725, 151, 153, 154, 155, 156, 152, 93, 157, 123, 124, 14, 125, 44, 45, 46, 47, 48, 126, 127, 128, 129, 43, 130, 65, 60, 849, 850, 851, 852, 853, 854, 855, 882, 883, 884, 866, 867, 868, 869, 870, 871, 895, 896, 897, 898] (by decide +kernel) (by decide +kernel)
set_option maxRecDepth 20000 in
theorem gL_law_X7_undo : GoodIn wsL_law (wsV RL 97 RX7 yX7_undo wsX7_undo) := goodIn_app (goodIn_of _ (by decide +kernel)) ggL_law_X7_undo
set_option maxRecDepth 20000 in
theorem ggL_law_X8_undo : GoodIn wsL_law wsX8_undo := goodIn_r _ [729, 173, 110, 112, 856, 857, 858, 859, 860, 861, 862, 863, 864, 865] (by decide +kernel) (by decide +kernel)
set_option maxRecDepth 20000 in
theorem gL_law_X8_undo : GoodIn wsL_law (wsV RL 100 RX8 yX8_undo wsX8_undo) := goodIn_app (goodIn_of _ (by decide +kernel)) ggL_law_X8_undo
set_option maxRecDepth 20000 in
theorem ggL_law_X7_type : GoodIn wsL_law wsX7_type := goodIn_r _ [733, 32, 734, 735, 736, 31, 737, 613, 100, 135, 2, 136, 849, 850, 851, 852, 853, 854, 855, 885, 886, 887, 888, 889, 890, 891] (by decide +kernel) (by decide +kernel)
set_option maxRecDepth 20000 in
theorem gL_law_X7_type : GoodIn wsL_law (wsV RL 101 RX7 yX7_type wsX7_type) := goodIn_app (goodIn_of _ (by decide +kernel)) ggL_law_X7_type
set_option maxRecDepth 20000 in
theorem ggL_law_X8_type : GoodIn wsL_law wsX8_type := goodIn_r _ [741, 628, 113, 166, 167, 5, 168, 856, 857, 858, 859, 860, 861, 862, 863, 864, 865] (by decide +kernel) (by decide +kernel)
set_option maxRecDepth 20000 in
theorem gL_law_X8_type : GoodIn wsL_law (wsV RL 104 RX8 yX8_type wsX8_type) := goodIn_app (goodIn_of _ (by decide +kernel)) ggL_law_X8_type
set_option maxRecDepth 20000 in
theorem ggL_law_X7_clearText : GoodIn wsL_law wsX7_clearText := goodIn_r _ [745, 32, 746, 747, 748, 31, 749, 613, 849, 850, 851, 852, 853, 854, 855, 885, 886, 887, 888, 889, 890, 891] (by decide +kernel) (by decide +kernel)
set_option maxRecDepth 20000 in
theorem gL_law_X7_clearText : GoodIn wsL_law (wsV RL 105 RX7 yX7_clearText wsX7_clearText) := goodIn_app (goodIn_of _ (by decide +kernel)) ggL_law_X7_clearText
set_option maxRecDepth 20000 in
theorem ggL_law_X8_clearText : GoodIn wsL_law wsX8_clearText := goodIn_r _ [753, 628, 856, 857, 858, 859, 860, 861, 862, 863, 864, 865] (by decide +kernel) (by decide +kernel)
set_option maxRecDepth 20000 in
theorem gL_law_X8_clearText : GoodIn wsL_law (wsV RL 108 RX8 yX8_clearText wsX8_clearText) := goodIn_app (goodIn_of _ (by decide +kernel)) ggL_law_X8_clearText
set_option maxRecDepth 20000 in
theorem ggL_law_X7_fault : GoodIn wsL_law wsX7_fault := goodIn_r _ [757, 36, 118, 119, 120, 2, 121, 16, 15, 20, 122, 123, 124, 14, 125, 44, 45, 46, 47, 48, 126, 127, 128, 129, 43, 130, 65, 60, 758, 759, 760, 35, 761, 762, 763, 105, 764, 610, 611, 31, 612, 613, 765, 766, 767, 768, 769, 770, 771, 772, 773, 774, 775, 776, 777, 100, 778, 779, 780, 781, 782, 783, 784, 135, 136, 785, 786, 787, 788, 789, 790, 791, 792, 793, 303, 304, 19, 305, 77, 76, 74, 186, 187, 188, 189, 306, 307, 308, 309, 194, 195, 196, 197, 54, 310, 311, 312, 313, 314, 56, 57, 58, 315, 316, 317, 318, 202, 203, 204, 205, 142, 67, 68, 69, 794, 356, 357, 358, 75, 359, 360, 361, 362, 363, 364, 213, 214, 215, 216, 217, 218, 795, 378, 379, 380, 78, 381, 382, 383, 384, 385, 207, 208, 209, 210, 211, 212, 386, 387, 388, 389, 796, 415, 416, 417, 418, 419, 420, 421, 422, 423, 424, 425, 426, 427, 428, 797, 446, 447, 448, 449, 450, 451, 452, 190, 191, 192, 193, 198, 199, 200, 201, 206, 798, 470, 471, 472, 473, 474, 475, 476, 477, 478, 479, 480, 481, 482, 483, 484, 485, 486, 487, 488, 489, 490, 491, 492, 493, 494, 495, 496, 497, 498, 799, 800, 801, 802, 803, 804, 805, 849, 850, 851, 852, 853, 854, 855, 866, 867, 868, 869, 870, 871, 895, 896, 897, 898, 892, 893, 894, 885, 886, 887, 888, 889, 890, 891, 872, 873, 874, 875, 876] (by decide +kernel) (by decide +kernel)
set_option maxRecDepth 20000 in
theorem gL_law_X7_fault : GoodIn wsL_law (wsV RL 109 RX7 yX7_fault wsX7_fault) := goodIn_app (goodIn_of _ (by decide +kernel)) ggL_law_X7_fault
set_option maxRecDepth 20000 in
theorem ggL_law_X8_fault : GoodIn wsL_law wsX8_fault := goodIn_r _ [809, 810, 166, 167, 5, 168, 162, 163, 164, 165, 111, 110, 811, 812, 813, 814, 815, 816, 628, 817, 818, 819, 820, 821, 113, 822, 823, 824, 825, 826, 827, 828, 829, 830, 831, 832, 833, 834, 835, 836, 837, 838, 839, 840, 323, 324, 325, 326, 327, 328, 329, 330, 331, 332, 333, 334, 335, 336, 337, 338, 339, 340, 341, 342, 343, 344, 345, 346, 247, 248, 249, 250, 347, 348, 349, 350, 258, 259, 260, 261, 369, 370, 371, 372, 223, 224, 225, 226, 243, 244, 245, 246, 262, 263, 264, 265, 278, 279, 280, 281, 394, 395, 396, 397, 398, 399, 400, 401, 239, 240, 241, 242, 251, 252, 253, 254, 255, 256, 257, 402, 403, 404, 405, 406, 407, 408, 409, 433, 434, 435, 436, 437, 438, 439, 440, 294, 295, 296, 297, 457, 458, 459, 460, 461, 462, 463, 464, 231, 232, 233, 234, 235, 236, 237, 238, 503, 504, 505, 506, 507, 508, 509, 510, 511, 512, 513, 514, 515, 516, 517, 518, 519, 520, 521, 522, 523, 524, 525, 526, 174, 175, 176, 177, 856, 857, 858, 859, 860, 861, 862, 863, 864, 865] (by decide +kernel) (by decide +kernel)
set_option maxRecDepth 20000 in
theorem gL_law_X8_fault : GoodIn wsL_law (wsV RL 112 RX8 yX8_fault wsX8_fault) := goodIn_app (goodIn_of _ (by decide +kernel)) ggL_law_X8_fault
set_option maxRecDepth 20000 in
theorem ggL_law_X7_play : GoodIn wsL_law wsX7_play := goodIn_r _ [844, 36, 118, 119, 120, 2, 121, 16, 15, 20, 122, 123, 124, 14, 125, 44, 45, 46, 47, 48, 126, 127, 128, 129, 43, 130, 65, 60, 758, 759, 760, 35, 761, 762, 763, 105, 764, 610, 611, 31, 612, 613, 765, 766, 767, 768, 769, 770, 771, 772, 773, 774, 775, 776, 777, 100, 778, 779, 780, 781, 782, 783, 784, 135, 136, 785, 786, 787, 788, 789, 790, 791, 792, 793, 303, 304, 19, 305, 77, 76, 74, 186, 187, 188, 189, 306, 307, 308, 309, 194, 195, 196, 197, 54, 310, 311, 312, 313, 314, 56, 57, 58, 315, 316, 317, 318, 202, 203, 204, 205, 142, 67, 68, 69, 794, 356, 357, 358, 75, 359, 360, 361, 362, 363, 364, 213, 214, 215, 216, 217, 218, 795, 378, 379, 380, 78, 381, 382, 383, 384, 385, 207, 208, 209, 210, 211, 212, 386, 387, 388, 389, 796, 415, 416, 417, 418, 419, 420, 421, 422, 423, 424, 425, 426, 427, 428, 797, 446, 447, 448, 449, 450, 451, 452, 190, 191, 192, 193, 198, 199, 200, 201, 206, 798, 470, 471, 472, 473, 474, 475, 476, 477, 478, 479, 480, 481, 482, 483, 484, 485, 486, 487, 488, 489, 490, 491, 492, 493, 494, 495, 496, 497, 498, 799, 800, 801, 143, 144, 145, 146, 28, 147, 148, 149, 27, 150, 151, 152, 153, 154, 155, 156, 93, 157, 849, 850, 851, 852, 853, 854, 855, 866, 867, 868, 869, 870, 871, 895, 896, 897, 898, 892, 893, 894, 885, 886, 887, 888, 889, 890, 891, 872, 873, 874, 875, 876, 882, 883, 884] (by decide +kernel) (by decide +kernel)
set_option maxRecDepth 20000 in
theorem gL_law_X7_play : GoodIn wsL_law (wsV RL 113 RX7 yX7_play wsX7_play) := goodIn_app (goodIn_of _ (by decide +kernel)) ggL_law_X7_play
set_option maxRecDepth 20000 in
theorem ggL_law_X8_play : GoodIn wsL_law wsX8_play := goodIn_r _ [848, 816, 162, 163, 164, 5, 165, 111, 110, 811, 812, 813, 814, 815, 628, 817, 810, 818, 819, 820, 821, 113, 822, 823, 824, 825, 826, 827, 828, 829, 830, 831, 832, 166, 167, 168, 833, 834, 835, 836, 837, 838, 839, 840, 323, 324, 325, 326, 327, 328, 329, 330, 331, 332, 333, 334, 335, 336, 337, 338, 339, 340, 341, 342, 343, 344, 345, 346, 247, 248, 249, 250, 347, 348, 349, 350, 258, 259, 260, 261, 369, 370, 371, 372, 223, 224, 225, 226, 243, 244, 245, 246, 262, 263, 264, 265, 278, 279, 280, 281, 394, 395, 396, 397, 398, 399, 400, 401, 239, 240, 241, 242, 251, 252, 253, 254, 255, 256, 257, 402, 403, 404, 405, 406, 407, 408, 409, 433, 434, 435, 436, 437, 438, 439, 440, 294, 295, 296, 297, 457, 458, 459, 460, 461, 462, 463, 464, 231, 232, 233, 234, 235, 236, 237, 238, 503, 504, 505, 506, 507, 508, 509, 510, 511, 512, 513, 514, 515, 516, 517, 518, 519, 520, 521, 522, 523, 524, 525, 526, 169, 170, 171, 172, 173, 112, 174, 175, 176, 177, 856, 857, 858, 859, 860, 861, 862, 863, 864, 865] (by decide +kernel) (by decide +kernel)
set_option maxRecDepth 20000 in
theorem gL_law_X8_play : GoodIn wsL_law (wsV RL 116 RX8 yX8_play wsX8_play) := goodIn_app (goodIn_of _ (by decide +kernel)) ggL_law_X8_play
theorem dL_law_0 : decode cL_law 0 = .ok (.new 7, 3) := by decide +kernel
theorem dL_law_3 : decode cL_law 3 = .ok (.dup, 1) := by decide +kernel
theorem dL_law_4 : decode cL_law 4 = .ok (.invokespecial 9, 3) := by decide +kernel
theorem dL_law_7 : decode cL_law 7 = .ok (.astore_n 1, 1) := by decide +kernel
theorem dL_law_8 : decode cL_law 8 = .ok (.new 10, 3) := by decide +kernel
theorem dL_law_11 : decode cL_law 11 = .ok (.dup, 1) := by decide +kernel
theorem dL_law_12 : decode cL_law 12 = .ok (.invokespecial 12, 3) := by decide +kernel
theorem dL_law_15 : decode cL_law 15 = .ok (.astore_n 2, 1) := by decide +kernel
theorem dL_law_16 : decode cL_law 16 = .ok (.iconst 0, 1) := by decide +kernel
theorem dL_law_17 : decode cL_law 17 = .ok (.istore_n 3, 1) := by decide +kernel
theorem dL_law_18 : decode cL_law 18 = .ok (.iload_n 3, 1) := by decide +kernel
theorem dL_law_19 : decode cL_law 19 = .ok (.aload_n 0, 1) := by decide +kernel
theorem dL_law_20 : decode cL_law 20 = .ok (.arraylength, 1) := by decide +kernel
theorem dL_law_21 : decode cL_law 21 = .ok (.iconst 4, 1) := by decide +kernel
theorem dL_law_22 : decode cL_law 22 = .ok (.isub, 1) := by decide +kernel
theorem dL_law_23 : decode cL_law 23 = .ok (.if_icmp .gt 806, 3) := by decide +kernel
theorem dL_law_26 : decode cL_law 26 = .ok (.aload_n 0, 1) := by decide +kernel
theorem dL_law_27 : decode cL_law 27 = .ok (.iload_n 3, 1) := by decide +kernel
theorem dL_law_28 : decode cL_law 28 = .ok (.iaload, 1) := by decide +kernel
theorem dL_law_29 : decode cL_law 29 = .ok (.bipush 31, 2) := by decide +kernel
theorem dL_law_31 : decode cL_law 31 = .ok (.iand, 1) := by decide +kernel
theorem dL_law_32 : decode cL_law 32 = .ok (.tableswitch 791 0 24 #[116, 149, 192, 215, 248, 281, 324, 357, 390, 413, 436, 469, 502, 535, 568, 601, 624, 647, 670, 693, 706, 719, 742, 755, 778], 116) := by decide +kernel
theorem dL_law_148 : decode cL_law 148 = .ok (.aload_n 1, 1) := by decide +kernel
theorem dL_law_149 : decode cL_law 149 = .ok (.aload_n 0, 1) := by decide +kernel
theorem dL_law_150 : decode cL_law 150 = .ok (.iload_n 3, 1) := by decide +kernel
theorem dL_law_151 : decode cL_law 151 = .ok (.iconst 1, 1) := by decide +kernel
theorem dL_law_152 : decode cL_law 152 = .ok (.iadd, 1) := by decide +kernel
theorem dL_law_153 : decode cL_law 153 = .ok (.iaload, 1) := by decide +kernel
theorem dL_law_154 : decode cL_law 154 = .ok (.aload_n 0, 1) := by decide +kernel
theorem dL_law_155 : decode cL_law 155 = .ok (.iload_n 3, 1) := by decide +kernel
theorem dL_law_156 : decode cL_law 156 = .ok (.iconst 2, 1) := by decide +kernel
theorem dL_law_157 : decode cL_law 157 = .ok (.iadd, 1) := by decide +kernel
theorem dL_law_158 : decode cL_law 158 = .ok (.iaload, 1) := by decide +kernel
theorem dL_law_159 : decode cL_law 159 = .ok (.invokevirtual 13, 3) := by decide +kernel
theorem dL_law_162 : decode cL_law 162 = .ok (.aload_n 2, 1) := by decide +kernel
theorem dL_law_163 : decode cL_law 163 = .ok (.aload_n 0, 1) := by decide +kernel
theorem dL_law_164 : decode cL_law 164 = .ok (.iload_n 3, 1) := by decide +kernel
theorem dL_law_165 : decode cL_law 165 = .ok (.iconst 1, 1) := by decide +kernel
theorem dL_law_166 : decode cL_law 166 = .ok (.iadd, 1) := by decide +kernel
theorem dL_law_167 : decode cL_law 167 = .ok (.iaload, 1) := by decide +kernel
theorem dL_law_168 : decode cL_law 168 = .ok (.aload_n 0, 1) := by decide +kernel
theorem dL_law_169 : decode cL_law 169 = .ok (.iload_n 3, 1) := by decide +kernel
theorem dL_law_170 : decode cL_law 170 = .ok (.iconst 2, 1) := by decide +kernel
theorem dL_law_171 : decode cL_law 171 = .ok (.iadd, 1) := by decide +kernel
theorem dL_law_172 : decode cL_law 172 = .ok (.iaload, 1) := by decide +kernel
theorem dL_law_173 : decode cL_law 173 = .ok (.invokevirtual 17, 3) := by decide +kernel
theorem dL_law_176 : decode cL_law 176 = .ok (.if_icmp .eq 647, 3) := by decide +kernel
theorem dL_law_179 : decode cL_law 179 = .ok (.iconst 0, 1) := by decide +kernel
theorem dL_law_180 : decode cL_law 180 = .ok (.ireturn, 1) := by decide +kernel
theorem dL_law_181 : decode cL_law 181 = .ok (.aload_n 1, 1) := by decide +kernel
theorem dL_law_182 : decode cL_law 182 = .ok (.aload_n 0, 1) := by decide +kernel
theorem dL_law_183 : decode cL_law 183 = .ok (.iload_n 3, 1) := by decide +kernel
theorem dL_law_184 : decode cL_law 184 = .ok (.iconst 1, 1) := by decide +kernel
theorem dL_law_185 : decode cL_law 185 = .ok (.iadd, 1) := by decide +kernel
theorem dL_law_186 : decode cL_law 186 = .ok (.iaload, 1) := by decide +kernel
theorem dL_law_187 : decode cL_law 187 = .ok (.aload_n 0, 1) := by decide +kernel
theorem dL_law_188 : decode cL_law 188 = .ok (.iload_n 3, 1) := by decide +kernel
theorem dL_law_189 : decode cL_law 189 = .ok (.iconst 2, 1) := by decide +kernel
theorem dL_law_190 : decode cL_law 190 = .ok (.iadd, 1) := by decide +kernel
theorem dL_law_191 : decode cL_law 191 = .ok (.iaload, 1) := by decide +kernel
theorem dL_law_192 : decode cL_law 192 = .ok (.aload_n 0, 1) := by decide +kernel
theorem dL_law_193 : decode cL_law 193 = .ok (.iload_n 3, 1) := by decide +kernel
theorem dL_law_194 : decode cL_law 194 = .ok (.iconst 3, 1) := by decide +kernel
theorem dL_law_195 : decode cL_law 195 = .ok (.iadd, 1) := by decide +kernel
theorem dL_law_196 : decode cL_law 196 = .ok (.iaload, 1) := by decide +kernel
theorem dL_law_197 : decode cL_law 197 = .ok (.invokevirtual 18, 3) := by decide +kernel
theorem dL_law_200 : decode cL_law 200 = .ok (.aload_n 2, 1) := by decide +kernel
theorem dL_law_201 : decode cL_law 201 = .ok (.aload_n 0, 1) := by decide +kernel
theorem dL_law_202 : decode cL_law 202 = .ok (.iload_n 3, 1) := by decide +kernel
theorem dL_law_203 : decode cL_law 203 = .ok (.iconst 1, 1) := by decide +kernel
theorem dL_law_204 : decode cL_law 204 = .ok (.iadd, 1) := by decide +kernel
theorem dL_law_205 : decode cL_law 205 = .ok (.iaload, 1) := by decide +kernel
theorem dL_law_206 : decode cL_law 206 = .ok (.aload_n 0, 1) := by decide +kernel
theorem dL_law_207 : decode cL_law 207 = .ok (.iload_n 3, 1) := by decide +kernel
theorem dL_law_208 : decode cL_law 208 = .ok (.iconst 2, 1) := by decide +kernel
theorem dL_law_209 : decode cL_law 209 = .ok (.iadd, 1) := by decide +kernel
theorem dL_law_210 : decode cL_law 210 = .ok (.iaload, 1) := by decide +kernel
theorem dL_law_211 : decode cL_law 211 = .ok (.aload_n 0, 1) := by decide +kernel
theorem dL_law_212 : decode cL_law 212 = .ok (.iload_n 3, 1) := by decide +kernel
theorem dL_law_213 : decode cL_law 213 = .ok (.iconst 3, 1) := by decide +kernel
theorem dL_law_214 : decode cL_law 214 = .ok (.iadd, 1) := by decide +kernel
theorem dL_law_215 : decode cL_law 215 = .ok (.iaload, 1) := by decide +kernel
theorem dL_law_216 : decode cL_law 216 = .ok (.invokevirtual 22, 3) := by decide +kernel
theorem dL_law_219 : decode cL_law 219 = .ok (.if_icmp .eq 604, 3) := by decide +kernel
theorem dL_law_222 : decode cL_law 222 = .ok (.iconst 0, 1) := by decide +kernel
theorem dL_law_223 : decode cL_law 223 = .ok (.ireturn, 1) := by decide +kernel
theorem dL_law_224 : decode cL_law 224 = .ok (.aload_n 1, 1) := by decide +kernel
theorem dL_law_225 : decode cL_law 225 = .ok (.aload_n 0, 1) := by decide +kernel
theorem dL_law_226 : decode cL_law 226 = .ok (.iload_n 3, 1) := by decide +kernel
theorem dL_law_227 : decode cL_law 227 = .ok (.iconst 1, 1) := by decide +kernel
theorem dL_law_228 : decode cL_law 228 = .ok (.iadd, 1) := by decide +kernel
theorem dL_law_229 : decode cL_law 229 = .ok (.iaload, 1) := by decide +kernel
theorem dL_law_230 : decode cL_law 230 = .ok (.invokevirtual 23, 3) := by decide +kernel
theorem dL_law_233 : decode cL_law 233 = .ok (.aload_n 2, 1) := by decide +kernel
theorem dL_law_234 : decode cL_law 234 = .ok (.aload_n 0, 1) := by decide +kernel
theorem dL_law_235 : decode cL_law 235 = .ok (.iload_n 3, 1) := by decide +kernel
theorem dL_law_236 : decode cL_law 236 = .ok (.iconst 1, 1) := by decide +kernel
theorem dL_law_237 : decode cL_law 237 = .ok (.iadd, 1) := by decide +kernel
theorem dL_law_238 : decode cL_law 238 = .ok (.iaload, 1) := by decide +kernel
theorem dL_law_239 : decode cL_law 239 = .ok (.invokevirtual 27, 3) := by decide +kernel
theorem dL_law_242 : decode cL_law 242 = .ok (.if_icmp .eq 581, 3) := by decide +kernel
theorem dL_law_245 : decode cL_law 245 = .ok (.iconst 0, 1) := by decide +kernel
theorem dL_law_246 : decode cL_law 246 = .ok (.ireturn, 1) := by decide +kernel
theorem dL_law_247 : decode cL_law 247 = .ok (.aload_n 1, 1) := by decide +kernel
theorem dL_law_248 : decode cL_law 248 = .ok (.aload_n 0, 1) := by decide +kernel
theorem dL_law_249 : decode cL_law 249 = .ok (.iload_n 3, 1) := by decide +kernel
theorem dL_law_250 : decode cL_law 250 = .ok (.iconst 1, 1) := by decide +kernel
theorem dL_law_251 : decode cL_law 251 = .ok (.iadd, 1) := by decide +kernel
theorem dL_law_252 : decode cL_law 252 = .ok (.iaload, 1) := by decide +kernel
theorem dL_law_253 : decode cL_law 253 = .ok (.aload_n 0, 1) := by decide +kernel
theorem dL_law_254 : decode cL_law 254 = .ok (.iload_n 3, 1) := by decide +kernel
theorem dL_law_255 : decode cL_law 255 = .ok (.iconst 2, 1) := by decide +kernel
theorem dL_law_256 : decode cL_law 256 = .ok (.iadd, 1) := by decide +kernel
theorem dL_law_257 : decode cL_law 257 = .ok (.iaload, 1) := by decide +kernel
theorem dL_law_258 : decode cL_law 258 = .ok (.invokevirtual 28, 3) := by decide +kernel
theorem dL_law_261 : decode cL_law 261 = .ok (.aload_n 2, 1) := by decide +kernel
theorem dL_law_262 : decode cL_law 262 = .ok (.aload_n 0, 1) := by decide +kernel
theorem dL_law_263 : decode cL_law 263 = .ok (.iload_n 3, 1) := by decide +kernel
theorem dL_law_264 : decode cL_law 264 = .ok (.iconst 1, 1) := by decide +kernel
theorem dL_law_265 : decode cL_law 265 = .ok (.iadd, 1) := by decide +kernel
theorem dL_law_266 : decode cL_law 266 = .ok (.iaload, 1) := by decide +kernel
theorem dL_law_267 : decode cL_law 267 = .ok (.aload_n 0, 1) := by decide +kernel
theorem dL_law_268 : decode cL_law 268 = .ok (.iload_n 3, 1) := by decide +kernel
theorem dL_law_269 : decode cL_law 269 = .ok (.iconst 2, 1) := by decide +kernel
theorem dL_law_270 : decode cL_law 270 = .ok (.iadd, 1) := by decide +kernel
theorem dL_law_271 : decode cL_law 271 = .ok (.iaload, 1) := by decide +kernel
theorem dL_law_272 : decode cL_law 272 = .ok (.invokevirtual 31, 3) := by decide +kernel
theorem dL_law_275 : decode cL_law 275 = .ok (.if_icmp .eq 548, 3) := by decide +kernel
theorem dL_law_278 : decode cL_law 278 = .ok (.iconst 0, 1) := by decide +kernel
theorem dL_law_279 : decode cL_law 279 = .ok (.ireturn, 1) := by decide +kernel
theorem dL_law_280 : decode cL_law 280 = .ok (.aload_n 1, 1) := by decide +kernel
theorem dL_law_281 : decode cL_law 281 = .ok (.aload_n 0, 1) := by decide +kernel
theorem dL_law_282 : decode cL_law 282 = .ok (.iload_n 3, 1) := by decide +kernel
theorem dL_law_283 : decode cL_law 283 = .ok (.iconst 1, 1) := by decide +kernel
theorem dL_law_284 : decode cL_law 284 = .ok (.iadd, 1) := by decide +kernel
theorem dL_law_285 : decode cL_law 285 = .ok (.iaload, 1) := by decide +kernel
theorem dL_law_286 : decode cL_law 286 = .ok (.aload_n 0, 1) := by decide +kernel
theorem dL_law_287 : decode cL_law 287 = .ok (.iload_n 3, 1) := by decide +kernel
theorem dL_law_288 : decode cL_law 288 = .ok (.iconst 2, 1) := by decide +kernel
theorem dL_law_289 : decode cL_law 289 = .ok (.iadd, 1) := by decide +kernel
theorem dL_law_290 : decode cL_law 290 = .ok (.iaload, 1) := by decide +kernel
theorem dL_law_291 : decode cL_law 291 = .ok (.invokevirtual 32, 3) := by decide +kernel
theorem dL_law_294 : decode cL_law 294 = .ok (.aload_n 2, 1) := by decide +kernel
theorem dL_law_295 : decode cL_law 295 = .ok (.aload_n 0, 1) := by decide +kernel
theorem dL_law_296 : decode cL_law 296 = .ok (.iload_n 3, 1) := by decide +kernel
theorem dL_law_297 : decode cL_law 297 = .ok (.iconst 1, 1) := by decide +kernel
theorem dL_law_298 : decode cL_law 298 = .ok (.iadd, 1) := by decide +kernel
theorem dL_law_299 : decode cL_law 299 = .ok (.iaload, 1) := by decide +kernel
theorem dL_law_300 : decode cL_law 300 = .ok (.aload_n 0, 1) := by decide +kernel
theorem dL_law_301 : decode cL_law 301 = .ok (.iload_n 3, 1) := by decide +kernel
theorem dL_law_302 : decode cL_law 302 = .ok (.iconst 2, 1) := by decide +kernel
theorem dL_law_303 : decode cL_law 303 = .ok (.iadd, 1) := by decide +kernel
theorem dL_law_304 : decode cL_law 304 = .ok (.iaload, 1) := by decide +kernel
theorem dL_law_305 : decode cL_law 305 = .ok (.invokevirtual 35, 3) := by decide +kernel
theorem dL_law_308 : decode cL_law 308 = .ok (.if_icmp .eq 515, 3) := by decide +kernel
theorem dL_law_311 : decode cL_law 311 = .ok (.iconst 0, 1) := by decide +kernel
theorem dL_law_312 : decode cL_law 312 = .ok (.ireturn, 1) := by decide +kernel
theorem dL_law_313 : decode cL_law 313 = .ok (.aload_n 1, 1) := by decide +kernel
theorem dL_law_314 : decode cL_law 314 = .ok (.aload_n 0, 1) := by decide +kernel
theorem dL_law_315 : decode cL_law 315 = .ok (.iload_n 3, 1) := by decide +kernel
theorem dL_law_316 : decode cL_law 316 = .ok (.iconst 1, 1) := by decide +kernel
theorem dL_law_317 : decode cL_law 317 = .ok (.iadd, 1) := by decide +kernel
theorem dL_law_318 : decode cL_law 318 = .ok (.iaload, 1) := by decide +kernel
theorem dL_law_319 : decode cL_law 319 = .ok (.aload_n 0, 1) := by decide +kernel
theorem dL_law_320 : decode cL_law 320 = .ok (.iload_n 3, 1) := by decide +kernel
theorem dL_law_321 : decode cL_law 321 = .ok (.iconst 2, 1) := by decide +kernel
theorem dL_law_322 : decode cL_law 322 = .ok (.iadd, 1) := by decide +kernel
theorem dL_law_323 : decode cL_law 323 = .ok (.iaload, 1) := by decide +kernel
theorem dL_law_324 : decode cL_law 324 = .ok (.aload_n 0, 1) := by decide +kernel
theorem dL_law_325 : decode cL_law 325 = .ok (.iload_n 3, 1) := by decide +kernel
theorem dL_law_326 : decode cL_law 326 = .ok (.iconst 3, 1) := by decide +kernel
theorem dL_law_327 : decode cL_law 327 = .ok (.iadd, 1) := by decide +kernel
theorem dL_law_328 : decode cL_law 328 = .ok (.iaload, 1) := by decide +kernel
theorem dL_law_329 : decode cL_law 329 = .ok (.invokevirtual 36, 3) := by decide +kernel
theorem dL_law_332 : decode cL_law 332 = .ok (.aload_n 2, 1) := by decide +kernel
theorem dL_law_333 : decode cL_law 333 = .ok (.aload_n 0, 1) := by decide +kernel
theorem dL_law_334 : decode cL_law 334 = .ok (.iload_n 3, 1) := by decide +kernel
theorem dL_law_335 : decode cL_law 335 = .ok (.iconst 1, 1) := by decide +kernel
theorem dL_law_336 : decode cL_law 336 = .ok (.iadd, 1) := by decide +kernel
theorem dL_law_337 : decode cL_law 337 = .ok (.iaload, 1) := by decide +kernel
theorem dL_law_338 : decode cL_law 338 = .ok (.aload_n 0, 1) := by decide +kernel
theorem dL_law_339 : decode cL_law 339 = .ok (.iload_n 3, 1) := by decide +kernel
theorem dL_law_340 : decode cL_law 340 = .ok (.iconst 2, 1) := by decide +kernel
theorem dL_law_341 : decode cL_law 341 = .ok (.iadd, 1) := by decide +kernel
theorem dL_law_342 : decode cL_law 342 = .ok (.iaload, 1) := by decide +kernel
theorem dL_law_343 : decode cL_law 343 = .ok (.aload_n 0, 1) := by decide +kernel
theorem dL_law_344 : decode cL_law 344 = .ok (.iload_n 3, 1) := by decide +kernel
theorem dL_law_345 : decode cL_law 345 = .ok (.iconst 3, 1) := by decide +kernel
theorem dL_law_346 : decode cL_law 346 = .ok (.iadd, 1) := by decide +kernel
theorem dL_law_347 : decode cL_law 347 = .ok (.iaload, 1) := by decide +kernel
theorem dL_law_348 : decode cL_law 348 = .ok (.invokevirtual 39, 3) := by decide +kernel
theorem dL_law_351 : decode cL_law 351 = .ok (.if_icmp .eq 472, 3) := by decide +kernel
theorem dL_law_354 : decode cL_law 354 = .ok (.iconst 0, 1) := by decide +kernel
theorem dL_law_355 : decode cL_law 355 = .ok (.ireturn, 1) := by decide +kernel
theorem dL_law_356 : decode cL_law 356 = .ok (.aload_n 1, 1) := by decide +kernel
theorem dL_law_357 : decode cL_law 357 = .ok (.aload_n 0, 1) := by decide +kernel
theorem dL_law_358 : decode cL_law 358 = .ok (.iload_n 3, 1) := by decide +kernel
theorem dL_law_359 : decode cL_law 359 = .ok (.iconst 1, 1) := by decide +kernel
theorem dL_law_360 : decode cL_law 360 = .ok (.iadd, 1) := by decide +kernel
theorem dL_law_361 : decode cL_law 361 = .ok (.iaload, 1) := by decide +kernel
theorem dL_law_362 : decode cL_law 362 = .ok (.aload_n 0, 1) := by decide +kernel
theorem dL_law_363 : decode cL_law 363 = .ok (.iload_n 3, 1) := by decide +kernel
theorem dL_law_364 : decode cL_law 364 = .ok (.iconst 2, 1) := by decide +kernel
theorem dL_law_365 : decode cL_law 365 = .ok (.iadd, 1) := by decide +kernel
theorem dL_law_366 : decode cL_law 366 = .ok (.iaload, 1) := by decide +kernel
theorem dL_law_367 : decode cL_law 367 = .ok (.invokevirtual 40, 3) := by decide +kernel
theorem dL_law_370 : decode cL_law 370 = .ok (.aload_n 2, 1) := by decide +kernel
theorem dL_law_371 : decode cL_law 371 = .ok (.aload_n 0, 1) := by decide +kernel
theorem dL_law_372 : decode cL_law 372 = .ok (.iload_n 3, 1) := by decide +kernel
theorem dL_law_373 : decode cL_law 373 = .ok (.iconst 1, 1) := by decide +kernel
theorem dL_law_374 : decode cL_law 374 = .ok (.iadd, 1) := by decide +kernel
theorem dL_law_375 : decode cL_law 375 = .ok (.iaload, 1) := by decide +kernel
theorem dL_law_376 : decode cL_law 376 = .ok (.aload_n 0, 1) := by decide +kernel
theorem dL_law_377 : decode cL_law 377 = .ok (.iload_n 3, 1) := by decide +kernel
theorem dL_law_378 : decode cL_law 378 = .ok (.iconst 2, 1) := by decide +kernel
theorem dL_law_379 : decode cL_law 379 = .ok (.iadd, 1) := by decide +kernel
theorem dL_law_380 : decode cL_law 380 = .ok (.iaload, 1) := by decide +kernel
theorem dL_law_381 : decode cL_law 381 = .ok (.invokevirtual 43, 3) := by decide +kernel
theorem dL_law_384 : decode cL_law 384 = .ok (.if_icmp .eq 439, 3) := by decide +kernel
theorem dL_law_387 : decode cL_law 387 = .ok (.iconst 0, 1) := by decide +kernel
theorem dL_law_388 : decode cL_law 388 = .ok (.ireturn, 1) := by decide +kernel
theorem dL_law_389 : decode cL_law 389 = .ok (.aload_n 1, 1) := by decide +kernel
theorem dL_law_390 : decode cL_law 390 = .ok (.aload_n 0, 1) := by decide +kernel
theorem dL_law_391 : decode cL_law 391 = .ok (.iload_n 3, 1) := by decide +kernel
theorem dL_law_392 : decode cL_law 392 = .ok (.iconst 1, 1) := by decide +kernel
theorem dL_law_393 : decode cL_law 393 = .ok (.iadd, 1) := by decide +kernel
theorem dL_law_394 : decode cL_law 394 = .ok (.iaload, 1) := by decide +kernel
theorem dL_law_395 : decode cL_law 395 = .ok (.aload_n 0, 1) := by decide +kernel
theorem dL_law_396 : decode cL_law 396 = .ok (.iload_n 3, 1) := by decide +kernel
theorem dL_law_397 : decode cL_law 397 = .ok (.iconst 2, 1) := by decide +kernel
theorem dL_law_398 : decode cL_law 398 = .ok (.iadd, 1) := by decide +kernel
theorem dL_law_399 : decode cL_law 399 = .ok (.iaload, 1) := by decide +kernel
theorem dL_law_400 : decode cL_law 400 = .ok (.invokevirtual 44, 3) := by decide +kernel
theorem dL_law_403 : decode cL_law 403 = .ok (.aload_n 2, 1) := by decide +kernel
theorem dL_law_404 : decode cL_law 404 = .ok (.aload_n 0, 1) := by decide +kernel
theorem dL_law_405 : decode cL_law 405 = .ok (.iload_n 3, 1) := by decide +kernel
theorem dL_law_406 : decode cL_law 406 = .ok (.iconst 1, 1) := by decide +kernel
theorem dL_law_407 : decode cL_law 407 = .ok (.iadd, 1) := by decide +kernel
theorem dL_law_408 : decode cL_law 408 = .ok (.iaload, 1) := by decide +kernel
theorem dL_law_409 : decode cL_law 409 = .ok (.aload_n 0, 1) := by decide +kernel
theorem dL_law_410 : decode cL_law 410 = .ok (.iload_n 3, 1) := by decide +kernel
theorem dL_law_411 : decode cL_law 411 = .ok (.iconst 2, 1) := by decide +kernel
theorem dL_law_412 : decode cL_law 412 = .ok (.iadd, 1) := by decide +kernel
theorem dL_law_413 : decode cL_law 413 = .ok (.iaload, 1) := by decide +kernel
theorem dL_law_414 : decode cL_law 414 = .ok (.invokevirtual 47, 3) := by decide +kernel
theorem dL_law_417 : decode cL_law 417 = .ok (.if_icmp .eq 406, 3) := by decide +kernel
theorem dL_law_420 : decode cL_law 420 = .ok (.iconst 0, 1) := by decide +kernel
theorem dL_law_421 : decode cL_law 421 = .ok (.ireturn, 1) := by decide +kernel
theorem dL_law_422 : decode cL_law 422 = .ok (.aload_n 1, 1) := by decide +kernel
theorem dL_law_423 : decode cL_law 423 = .ok (.aload_n 0, 1) := by decide +kernel
theorem dL_law_424 : decode cL_law 424 = .ok (.iload_n 3, 1) := by decide +kernel
theorem dL_law_425 : decode cL_law 425 = .ok (.iconst 1, 1) := by decide +kernel
theorem dL_law_426 : decode cL_law 426 = .ok (.iadd, 1) := by decide +kernel
theorem dL_law_427 : decode cL_law 427 = .ok (.iaload, 1) := by decide +kernel
theorem dL_law_428 : decode cL_law 428 = .ok (.invokevirtual 48, 3) := by decide +kernel
theorem dL_law_431 : decode cL_law 431 = .ok (.aload_n 2, 1) := by decide +kernel
theorem dL_law_432 : decode cL_law 432 = .ok (.aload_n 0, 1) := by decide +kernel
theorem dL_law_433 : decode cL_law 433 = .ok (.iload_n 3, 1) := by decide +kernel
theorem dL_law_434 : decode cL_law 434 = .ok (.iconst 1, 1) := by decide +kernel
theorem dL_law_435 : decode cL_law 435 = .ok (.iadd, 1) := by decide +kernel
theorem dL_law_436 : decode cL_law 436 = .ok (.iaload, 1) := by decide +kernel
theorem dL_law_437 : decode cL_law 437 = .ok (.invokevirtual 51, 3) := by decide +kernel
theorem dL_law_440 : decode cL_law 440 = .ok (.if_icmp .eq 383, 3) := by decide +kernel
theorem dL_law_443 : decode cL_law 443 = .ok (.iconst 0, 1) := by decide +kernel
theorem dL_law_444 : decode cL_law 444 = .ok (.ireturn, 1) := by decide +kernel
theorem dL_law_445 : decode cL_law 445 = .ok (.aload_n 1, 1) := by decide +kernel
theorem dL_law_446 : decode cL_law 446 = .ok (.aload_n 0, 1) := by decide +kernel
theorem dL_law_447 : decode cL_law 447 = .ok (.iload_n 3, 1) := by decide +kernel
theorem dL_law_448 : decode cL_law 448 = .ok (.iconst 1, 1) := by decide +kernel
theorem dL_law_449 : decode cL_law 449 = .ok (.iadd, 1) := by decide +kernel
theorem dL_law_450 : decode cL_law 450 = .ok (.iaload, 1) := by decide +kernel
theorem dL_law_451 : decode cL_law 451 = .ok (.invokevirtual 52, 3) := by decide +kernel
theorem dL_law_454 : decode cL_law 454 = .ok (.aload_n 2, 1) := by decide +kernel
theorem dL_law_455 : decode cL_law 455 = .ok (.aload_n 0, 1) := by decide +kernel
theorem dL_law_456 : decode cL_law 456 = .ok (.iload_n 3, 1) := by decide +kernel
